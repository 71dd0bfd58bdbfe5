theorem oScr_nil (i n a g : Nat) (sz w : Nat → Nat) : oScr [] i n a g sz w = -1 := rfl
theorem oGl3_1 (sc : Nat) : oGl3 1 sc = [sc % 1000000] := if_pos rfl
theorem oGl3_2 (sc : Nat) : oGl3 2 sc = [sc / 1000000 % 1000000, sc % 1000000] := (if_neg (by decide)).trans (if_pos rfl)
theorem oGl3_3 (sc : Nat) : oGl3 3 sc = [sc / 1000000000000 % 1000000, sc / 1000000 % 1000000, sc % 1000000] := (if_neg (by decide)).trans (if_neg (by decide))
set_option maxHeartbeats 8000000 in
set_option maxRecDepth 100000 in
theorem c5_runScript1 {l : Launch} {D : va_G} {cT : Nat → ClassId} {N b0 : Nat} {ad : Nat → Nat} (hA : oAd b0 N ad) {σ : Nat → va_E} (sc : Int) (n a g : Nat) (sz w : Nat → Nat) (n6 a6 g6 : Nat) (sz6 w6 : Nat → Nat) (ld : Nat) (wr gr : Nat → Nat) (S Ln : Nat → Int) (ff sf : Int) (hl0 : l.stackTraces = false) (hN : 76 ≤ N) (hwf : oWf n sz w) (hag : oAg a g) (hsc : -9223372036854775808 ≤ sc ∧ sc < 9223372036854775808) (eO : σ (0) = .inr (5, [.ref (ad (1)), .ref (ad (4)), .ref (ad (7)), .ref (ad (10)), .int (oI (ff)), .int (oI (sf)), .ref (ad (13)), .ref (ad (57)), .ref (ad (59)), .ref (ad (64))])) (e0 : σ (1) = .inr (4, [.ref (ad (2)), .ref (ad (3)), .int (oI (((n : Nat) : Int))), .int (oI (((a : Nat) : Int))), .int (oI (((g : Nat) : Int)))])) (e1 : σ (2) = oAN cT 4 sz) (e2 : σ (3) = oAJ cT 4 w) (k0 : σ (4) = .inr (4, [.ref (ad (5)), .ref (ad (6)), .int (oI (((n6 : Nat) : Int))), .int (oI (((a6 : Nat) : Int))), .int (oI (((g6 : Nat) : Int)))])) (k1 : σ (5) = oAN cT 4 sz6) (k2 : σ (6) = oAJ cT 4 w6) (e59 : σ (59) = .inr (3, [.ref (ad (60)), .ref (ad (61)), .int (oI (((ld : Nat) : Int))), .ref (ad (62)), .ref (ad (63))])) (e60 : σ (60) = oAI cT 201 S) (e61 : σ (61) = oAI cT 201 Ln) (e62 : σ (62) = oAJ cT 4 wr) (e63 : σ (63) = oAJ cT 4 gr) :
    oXi l D cT N ad b0 yX5_runScript cX5_runScript 7 (some .int) 6 141 1 [.ref (ad (0)), .int (oI (1)), .long (oL (sc))] σ (fun rr uu => ∃ sz3 : Nat → Nat, ∃ w3 : Nat → Nat, ∃ n1 : Nat, ∃ a1 : Nat, ∃ g1 : Nat, ∃ sz1 : Nat → Nat, ∃ w1 : Nat → Nat, ∃ ld2 : Nat, ∃ S2 : Nat → Int, ∃ Ln2 : Nat → Int, ∃ w2 : Nat → Nat, ∃ gr2 : Nat → Nat, rr = oI ((oScr (oGl3 1 sc.toNat) 0 n a g sz3 w3)) ∧ (0 ≤ sc ∧ sc < 1000000) ∧ (∀ r : Nat, r < n → sz3 r = sz r ∧ w3 r = w r) ∧ uu (4) = .inr (4, [.ref (ad (5)), .ref (ad (6)), .int (oI (((n1 : Nat) : Int))), .int (oI (((a1 : Nat) : Int))), .int (oI (((g1 : Nat) : Int)))]) ∧ uu (5) = oAN cT 4 sz1 ∧ uu (6) = oAJ cT 4 w1 ∧ uu (59) = .inr (3, [.ref (ad (60)), .ref (ad (61)), .int (oI (((ld2 : Nat) : Int))), .ref (ad (62)), .ref (ad (63))]) ∧ uu (60) = oAI cT 201 S2 ∧ uu (61) = oAI cT 201 Ln2 ∧ uu (62) = oAJ cT 4 w2 ∧ uu (63) = oAJ cT 4 gr2 ∧ (∀ q : Nat, q ≠ 4 → q ≠ 5 → q ≠ 6 → q ≠ 59 → q ≠ 60 → q ≠ 61 → q ≠ 62 → q ≠ 63 → uu q = σ q)) (fun E uu => (E = oIA ∧ ¬ (0 ≤ sc ∧ sc < 1000000)) ∧ uu = σ) := by
  refine m_startX (cc := cX5_runScript) (by decide) (Nat.le_of_ble_eq_true rfl) rfl ?_
  intro Pp Ee Ss Mm Bb Me Cc Ar ls hx hb hml hown hlk hrt hts hK hH hl hXT hnt
  have hown : Ss.vm.findClass RX5 = some Mm.cls := hown
  have hn := hwf.1
  have hl : lv_has ls 7 [(0, .ref (ad (0))), (1, .int (oI (1))), (2, .long (oL (sc)))] := hl
  have hf : ∀ q : Nat, q ≠ 4 → q ≠ 5 → q ≠ 6 → q ≠ 59 → q ≠ 60 → q ≠ 61 → q ≠ 62 → q ≠ 63 → σ q = σ q := fun q _ _ _ _ _ _ _ _ => rfl
  refine lv_iload_n hx hb dX5_runScript_0 rfl (lv_at hl 1 rfl) ?_
  refine m_iconst 1 hx hb dX5_runScript_1 rfl ?_
  refine m_icmp_lt 10 hx hb dX5_runScript_2 (by decide) (by omega) (by omega) (fun h_1 => absurd h_1 (by omega)) (fun h_1 => ?_)
  refine lv_iload_n hx hb dX5_runScript_5 rfl (lv_at hl 1 rfl) ?_
  refine m_iconst 3 hx hb dX5_runScript_6 rfl ?_
  refine m_icmp_le 21 hx hb dX5_runScript_7 (by decide) (by omega) (by omega) (fun h_2 => ?_) (fun h_2 => absurd h_2 (by omega))
  refine m_lconst 1 hx hb dX5_runScript_21 rfl ?_
  refine lv_lstore (lv' := [(4, .long (oL (1))), (0, .ref (ad (0))), (1, .int (oI (1))), (2, .long (oL (sc)))]) hx hb dX5_runScript_22 hl (by decide) rfl (fun ls hl => ?_)
  refine m_iconst 1 hx hb dX5_runScript_24 rfl ?_
  refine lv_istore (lv' := [(6, .int (oI (1))), (4, .long (oL (1))), (0, .ref (ad (0))), (1, .int (oI (1))), (2, .long (oL (sc)))]) hx hb dX5_runScript_25 hl (by decide) rfl (fun ls hl => ?_)
  refine lv_iload hx hb dX5_runScript_27 (lv_at hl 0 rfl) ?_
  refine lv_iload_n hx hb dX5_runScript_29 rfl (lv_at hl 3 rfl) ?_
  refine m_icmp_ge 53 hx hb dX5_runScript_30 (by decide) (by omega) (by omega) (fun h_3 => ?_) (fun h_3 => absurd h_3 (by omega))
  refine lv_lload_n hx hb dX5_runScript_53 rfl (lv_at hl 4 rfl) ?_
  refine m_lconst 0 hx hb dX5_runScript_54 rfl ?_
  refine m_lcmp_lt 70 hx hb dX5_runScript_55 dX5_runScript_56 (by decide) (by omega) (by omega) (fun h_4 => ?_) (fun h_4 => ?_)
  · exact m_throwW (text := "no such script") hx hb hl0 hml hown hts hK hXT hH hl hlk hnt oth_0 (by decide) dX5_runScript_70 dX5_runScript_73 dX5_runScript_74 dX5_runScript_77 dX5_runScript_80 ⟨Nat.le_of_ble_eq_true rfl, Nat.le_of_ble_eq_true rfl⟩ (Nat.le_of_ble_eq_true rfl) ⟨Nat.le_of_ble_eq_true rfl, Nat.le_of_ble_eq_true rfl⟩ ⟨Nat.le_of_ble_eq_true rfl, Nat.le_of_ble_eq_true rfl⟩ (⟨⟨rfl, by omega⟩, rfl⟩)
  · refine lv_lload_n hx hb dX5_runScript_59 rfl (lv_at hl 4 rfl) ?_
    refine lv_lload hx hb dX5_runScript_60 (lv_at hl 1 rfl) ?_
    refine lv_ldc2 (v := 1000000) hx hb hown (hts _ kl_X5_301) dX5_runScript_62 ?_
    refine m_J2L 1000000 (by decide +kernel) ?_
    refine m_lmul (1000000) hx hb dX5_runScript_65 (by omega) ?_
    refine m_lcmp_lt 81 hx hb dX5_runScript_66 dX5_runScript_67 (by decide) (by omega) (by omega) (fun h_5 => ?_) (fun h_5 => ?_)
    · refine lv_aload_n hx hb dX5_runScript_81 rfl (lv_at hl 2 rfl) ?_
      refine gf_X5_copy hx hb hts hown hK hH (k := 0) (by omega) eO dX5_runScript_82 ?_
      refine lv_aload_n hx hb dX5_runScript_85 rfl (lv_at hl 2 rfl) ?_
      refine gf_X5_present hx hb hts hown hK hH (k := 0) (by omega) eO dX5_runScript_86 ?_
      refine m_callVv hx hb hml hown hts hK hH hl (rest := []) cw_X5_305 (c4_become hA 4 n6 a6 g6 1 n a g sz6 w6 sz w (by first | assumption | omega) (by first | assumption | omega) (by first | assumption | omega) (by first | assumption | omega) k0 k1 k2 e0 e1 e2) ⟨Nat.le_of_ble_eq_true rfl, Nat.le_of_ble_eq_true rfl⟩ ⟨Nat.le_of_ble_eq_true rfl, Nat.le_of_ble_eq_true rfl⟩ rfl (k := 4) (by omega) k0 rfl rfl (Nat.le_of_ble_eq_true rfl) dX5_runScript_89 (fun σ_6 H locs hp_7 hH => ?_)
      obtain ⟨s8, w8, hsw, k0, k1, k2, hq_8⟩ := hp_7
      have eO : σ_6 (0) = .inr (5, [.ref (ad (1)), .ref (ad (4)), .ref (ad (7)), .ref (ad (10)), .int (oI (ff)), .int (oI (sf)), .ref (ad (13)), .ref (ad (57)), .ref (ad (59)), .ref (ad (64))]) := (hq_8 _ (by decide) (by decide) (by decide)).trans eO
      have e0 : σ_6 (1) = .inr (4, [.ref (ad (2)), .ref (ad (3)), .int (oI (((n : Nat) : Int))), .int (oI (((a : Nat) : Int))), .int (oI (((g : Nat) : Int)))]) := (hq_8 _ (by decide) (by decide) (by decide)).trans e0
      have e1 : σ_6 (2) = oAN cT 4 sz := (hq_8 _ (by decide) (by decide) (by decide)).trans e1
      have e2 : σ_6 (3) = oAJ cT 4 w := (hq_8 _ (by decide) (by decide) (by decide)).trans e2
      have e59 : σ_6 (59) = .inr (3, [.ref (ad (60)), .ref (ad (61)), .int (oI (((ld : Nat) : Int))), .ref (ad (62)), .ref (ad (63))]) := (hq_8 _ (by decide) (by decide) (by decide)).trans e59
      have e60 : σ_6 (60) = oAI cT 201 S := (hq_8 _ (by decide) (by decide) (by decide)).trans e60
      have e61 : σ_6 (61) = oAI cT 201 Ln := (hq_8 _ (by decide) (by decide) (by decide)).trans e61
      have e62 : σ_6 (62) = oAJ cT 4 wr := (hq_8 _ (by decide) (by decide) (by decide)).trans e62
      have e63 : σ_6 (63) = oAJ cT 4 gr := (hq_8 _ (by decide) (by decide) (by decide)).trans e63
      have hf : ∀ q : Nat, q ≠ 4 → q ≠ 5 → q ≠ 6 → q ≠ 59 → q ≠ 60 → q ≠ 61 → q ≠ 62 → q ≠ 63 → σ_6 q = σ q := fun q n0 n1 n2 n3 n4 n5 n6 n7 => (hq_8 q n0 n1 n2).trans (hf q n0 n1 n2 n3 n4 n5 n6 n7)
      have hwf8 := hwf.congr hsw
      refine m_iconst 0 hx hb dX5_runScript_92 rfl ?_
      refine lv_istore (lv' := [(6, .int (oI (0))), (4, .long (oL (1))), (0, .ref (ad (0))), (1, .int (oI (1))), (2, .long (oL (sc)))]) hx hb dX5_runScript_93 hl (by decide) rfl (fun ls hl => ?_)
      refine lv_iload hx hb dX5_runScript_95 (lv_at hl 0 rfl) ?_
      refine lv_iload_n hx hb dX5_runScript_97 rfl (lv_at hl 3 rfl) ?_
      refine m_icmp_ge 148 hx hb dX5_runScript_98 (by decide) (by omega) (by omega) (fun h_10 => absurd h_10 (by omega)) (fun h_10 => ?_)
      refine lv_iload hx hb dX5_runScript_101 (lv_at hl 0 rfl) ?_
      refine m_iconst 3 hx hb dX5_runScript_103 rfl ?_
      refine m_icmp_ge 148 hx hb dX5_runScript_104 (by decide) (by omega) (by omega) (fun h_11 => absurd h_11 (by omega)) (fun h_11 => ?_)
      refine lv_aload_n hx hb dX5_runScript_107 rfl (lv_at hl 2 rfl) ?_
      refine lv_lload_n hx hb dX5_runScript_108 rfl (lv_at hl 4 rfl) ?_
      refine lv_lload hx hb dX5_runScript_109 (lv_at hl 1 rfl) ?_
      refine m_lconst 1 hx hb dX5_runScript_111 rfl ?_
      refine m_lmax (1) hx hb hml hl hown hts (index := 308) (hts _ (o_in0 (List.mem_of_getElem? (i := 880) (by decide +kernel)))) (Nat.le_of_ble_eq_true rfl) (Nat.le_of_ble_eq_true rfl) ⟨Nat.le_of_ble_eq_true rfl, Nat.le_of_ble_eq_true rfl⟩ (by omega) (by omega) (by omega) dX5_runScript_112 ?_
      refine m_ldiv (((sc.toNat : Nat) : Int)) hx hb dX5_runScript_115 (by omega) (by omega) (by omega) ?_
      refine lv_ldc2 (v := 1000000) hx hb hown (hts _ kl_X5_301) dX5_runScript_116 ?_
      refine m_J2L 1000000 (by decide +kernel) ?_
      refine m_lrem (((sc.toNat % 1000000 : Nat) : Int)) hx hb dX5_runScript_119 (by omega) (by omega) (by omega) ?_
      refine m_l2i hx hb dX5_runScript_120 ?_
      refine lv_aload_n hx hb dX5_runScript_121 rfl (lv_at hl 2 rfl) ?_
      refine gf_X5_copy hx hb hts hown hK hH (k := 0) (by omega) eO dX5_runScript_122 ?_
      refine m_callVi hx hb hml hown hts hK hH hl (rest := []) cw_X5_311 (c5_runGroup hA (sc.toNat % 1000000) 4 n a g s8 w8 ld wr gr S Ln ff sf (by first | assumption | omega) (by first | assumption | omega) (by first | assumption | omega) (by first | assumption | omega) (by first | assumption | omega) eO k0 k1 k2 e59 e60 e61 e62 e63) ⟨Nat.le_of_ble_eq_true rfl, Nat.le_of_ble_eq_true rfl⟩ ⟨Nat.le_of_ble_eq_true rfl, Nat.le_of_ble_eq_true rfl⟩ rfl (k := 0) (by omega) eO rfl rfl (Nat.le_of_ble_eq_true rfl) dX5_runScript_125 (fun r_15 σ_12 H locs hp_13 hH => ?_)
      obtain ⟨rt0, n10, a10, g10, s10, w10, ld0, S0, L0, wr0, gr0, rfl, hg0, hr0, hw0, ha0, k0, k1, k2, e59, e60, e61, e62, e63, hq_14⟩ := hp_13
      have eO : σ_12 (0) = .inr (5, [.ref (ad (1)), .ref (ad (4)), .ref (ad (7)), .ref (ad (10)), .int (oI (ff)), .int (oI (sf)), .ref (ad (13)), .ref (ad (57)), .ref (ad (59)), .ref (ad (64))]) := (hq_14 _ (by decide) (by decide) (by decide) (by decide) (by decide) (by decide) (by decide) (by decide)).trans eO
      have e0 : σ_12 (1) = .inr (4, [.ref (ad (2)), .ref (ad (3)), .int (oI (((n : Nat) : Int))), .int (oI (((a : Nat) : Int))), .int (oI (((g : Nat) : Int)))]) := (hq_14 _ (by decide) (by decide) (by decide) (by decide) (by decide) (by decide) (by decide) (by decide)).trans e0
      have e1 : σ_12 (2) = oAN cT 4 sz := (hq_14 _ (by decide) (by decide) (by decide) (by decide) (by decide) (by decide) (by decide) (by decide)).trans e1
      have e2 : σ_12 (3) = oAJ cT 4 w := (hq_14 _ (by decide) (by decide) (by decide) (by decide) (by decide) (by decide) (by decide) (by decide)).trans e2
      have hf : ∀ q : Nat, q ≠ 4 → q ≠ 5 → q ≠ 6 → q ≠ 59 → q ≠ 60 → q ≠ 61 → q ≠ 62 → q ≠ 63 → σ_12 q = σ q := fun q n0 n1 n2 n3 n4 n5 n6 n7 => (hq_14 q n0 n1 n2 n3 n4 n5 n6 n7).trans (hf q n0 n1 n2 n3 n4 n5 n6 n7)
      refine m_if_ne 134 hx hb dX5_runScript_128 (by decide) (by omega) (fun hz0 => ?_) (fun hz0 => ?_)
      · refine lv_lload hx hb dX5_runScript_134 (lv_at hl 1 rfl) ?_
        refine lv_ldc2 (v := 1000000) hx hb hown (hts _ kl_X5_301) dX5_runScript_136 ?_
        refine m_J2L 1000000 (by decide +kernel) ?_
        refine m_ldiv (0) hx hb dX5_runScript_139 (by omega) (by omega) (by decide) ?_
        refine lv_lstore (lv' := [(4, .long (oL (0))), (6, .int (oI (0))), (0, .ref (ad (0))), (1, .int (oI (1))), (2, .long (oL (sc)))]) hx hb dX5_runScript_140 hl (by decide) rfl (fun ls hl => ?_)
        refine m_iinc (1) [(6, .int (oI (1))), (4, .long (oL (0))), (0, .ref (ad (0))), (1, .int (oI (1))), (2, .long (oL (sc)))] hx hb dX5_runScript_142 hl (j := 1) rfl (by omega) (by decide) rfl (fun ls hl => ?_)
        refine lv_goto (tgt := 95) hx hb dX5_runScript_145 (by decide) ?_
        refine lv_iload hx hb dX5_runScript_95 (lv_at hl 0 rfl) ?_
        refine lv_iload_n hx hb dX5_runScript_97 rfl (lv_at hl 3 rfl) ?_
        refine m_icmp_ge 148 hx hb dX5_runScript_98 (by decide) (by omega) (by omega) (fun h_17 => ?_) (fun h_17 => absurd h_17 (by omega))
        refine m_iconst (-1) hx hb dX5_runScript_148 rfl ?_
        exact m_iretX hx hb hlk hrt hH ⟨Nat.le_of_ble_eq_true rfl, Nat.le_of_ble_eq_true rfl⟩ (m_ni _) dX5_runScript_149 ⟨s8, w8, n10, a10, g10, s10, w10, ld0, S0, L0, wr0, gr0, congrArg oI (by rw [oGl3_1]; exact ((oScr_go hg0 hz0).trans (oScr_nil _ _ _ _ _ _)).symm), (by omega), hsw, k0, k1, k2, e59, e60, e61, e62, e63, hf⟩
      · refine lv_iload hx hb dX5_runScript_131 (lv_at hl 0 rfl) ?_
        exact m_iretX hx hb hlk hrt hH ⟨Nat.le_of_ble_eq_true rfl, Nat.le_of_ble_eq_true rfl⟩ (m_ni _) dX5_runScript_133 ⟨s8, w8, n10, a10, g10, s10, w10, ld0, S0, L0, wr0, gr0, congrArg oI (by rw [oGl3_1]; exact (oScr_no hg0 hz0).symm), (by omega), hsw, k0, k1, k2, e59, e60, e61, e62, e63, hf⟩
    · exact m_throwW (text := "no such script") hx hb hl0 hml hown hts hK hXT hH hl hlk hnt oth_0 (by decide) dX5_runScript_70 dX5_runScript_73 dX5_runScript_74 dX5_runScript_77 dX5_runScript_80 ⟨Nat.le_of_ble_eq_true rfl, Nat.le_of_ble_eq_true rfl⟩ (Nat.le_of_ble_eq_true rfl) ⟨Nat.le_of_ble_eq_true rfl, Nat.le_of_ble_eq_true rfl⟩ ⟨Nat.le_of_ble_eq_true rfl, Nat.le_of_ble_eq_true rfl⟩ (⟨⟨rfl, by omega⟩, rfl⟩)
set_option maxHeartbeats 8000000 in
set_option maxRecDepth 100000 in
theorem c5_runScript2 {l : Launch} {D : va_G} {cT : Nat → ClassId} {N b0 : Nat} {ad : Nat → Nat} (hA : oAd b0 N ad) {σ : Nat → va_E} (sc : Int) (n a g : Nat) (sz w : Nat → Nat) (n6 a6 g6 : Nat) (sz6 w6 : Nat → Nat) (ld : Nat) (wr gr : Nat → Nat) (S Ln : Nat → Int) (ff sf : Int) (hl0 : l.stackTraces = false) (hN : 76 ≤ N) (hwf : oWf n sz w) (hag : oAg a g) (hsc : -9223372036854775808 ≤ sc ∧ sc < 9223372036854775808) (eO : σ (0) = .inr (5, [.ref (ad (1)), .ref (ad (4)), .ref (ad (7)), .ref (ad (10)), .int (oI (ff)), .int (oI (sf)), .ref (ad (13)), .ref (ad (57)), .ref (ad (59)), .ref (ad (64))])) (e0 : σ (1) = .inr (4, [.ref (ad (2)), .ref (ad (3)), .int (oI (((n : Nat) : Int))), .int (oI (((a : Nat) : Int))), .int (oI (((g : Nat) : Int)))])) (e1 : σ (2) = oAN cT 4 sz) (e2 : σ (3) = oAJ cT 4 w) (k0 : σ (4) = .inr (4, [.ref (ad (5)), .ref (ad (6)), .int (oI (((n6 : Nat) : Int))), .int (oI (((a6 : Nat) : Int))), .int (oI (((g6 : Nat) : Int)))])) (k1 : σ (5) = oAN cT 4 sz6) (k2 : σ (6) = oAJ cT 4 w6) (e59 : σ (59) = .inr (3, [.ref (ad (60)), .ref (ad (61)), .int (oI (((ld : Nat) : Int))), .ref (ad (62)), .ref (ad (63))])) (e60 : σ (60) = oAI cT 201 S) (e61 : σ (61) = oAI cT 201 Ln) (e62 : σ (62) = oAJ cT 4 wr) (e63 : σ (63) = oAJ cT 4 gr) :
    oXi l D cT N ad b0 yX5_runScript cX5_runScript 7 (some .int) 6 141 1 [.ref (ad (0)), .int (oI (2)), .long (oL (sc))] σ (fun rr uu => ∃ sz3 : Nat → Nat, ∃ w3 : Nat → Nat, ∃ n1 : Nat, ∃ a1 : Nat, ∃ g1 : Nat, ∃ sz1 : Nat → Nat, ∃ w1 : Nat → Nat, ∃ ld2 : Nat, ∃ S2 : Nat → Int, ∃ Ln2 : Nat → Int, ∃ w2 : Nat → Nat, ∃ gr2 : Nat → Nat, rr = oI ((oScr (oGl3 2 sc.toNat) 0 n a g sz3 w3)) ∧ (0 ≤ sc ∧ sc < 1000000000000) ∧ (∀ r : Nat, r < n → sz3 r = sz r ∧ w3 r = w r) ∧ uu (4) = .inr (4, [.ref (ad (5)), .ref (ad (6)), .int (oI (((n1 : Nat) : Int))), .int (oI (((a1 : Nat) : Int))), .int (oI (((g1 : Nat) : Int)))]) ∧ uu (5) = oAN cT 4 sz1 ∧ uu (6) = oAJ cT 4 w1 ∧ uu (59) = .inr (3, [.ref (ad (60)), .ref (ad (61)), .int (oI (((ld2 : Nat) : Int))), .ref (ad (62)), .ref (ad (63))]) ∧ uu (60) = oAI cT 201 S2 ∧ uu (61) = oAI cT 201 Ln2 ∧ uu (62) = oAJ cT 4 w2 ∧ uu (63) = oAJ cT 4 gr2 ∧ (∀ q : Nat, q ≠ 4 → q ≠ 5 → q ≠ 6 → q ≠ 59 → q ≠ 60 → q ≠ 61 → q ≠ 62 → q ≠ 63 → uu q = σ q)) (fun E uu => (E = oIA ∧ ¬ (0 ≤ sc ∧ sc < 1000000000000)) ∧ uu = σ) := by
  refine m_startX (cc := cX5_runScript) (by decide) (Nat.le_of_ble_eq_true rfl) rfl ?_
  intro Pp Ee Ss Mm Bb Me Cc Ar ls hx hb hml hown hlk hrt hts hK hH hl hXT hnt
  have hown : Ss.vm.findClass RX5 = some Mm.cls := hown
  have hn := hwf.1
  have hl : lv_has ls 7 [(0, .ref (ad (0))), (1, .int (oI (2))), (2, .long (oL (sc)))] := hl
  have hf : ∀ q : Nat, q ≠ 4 → q ≠ 5 → q ≠ 6 → q ≠ 59 → q ≠ 60 → q ≠ 61 → q ≠ 62 → q ≠ 63 → σ q = σ q := fun q _ _ _ _ _ _ _ _ => rfl
  refine lv_iload_n hx hb dX5_runScript_0 rfl (lv_at hl 1 rfl) ?_
  refine m_iconst 1 hx hb dX5_runScript_1 rfl ?_
  refine m_icmp_lt 10 hx hb dX5_runScript_2 (by decide) (by omega) (by omega) (fun h_1 => absurd h_1 (by omega)) (fun h_1 => ?_)
  refine lv_iload_n hx hb dX5_runScript_5 rfl (lv_at hl 1 rfl) ?_
  refine m_iconst 3 hx hb dX5_runScript_6 rfl ?_
  refine m_icmp_le 21 hx hb dX5_runScript_7 (by decide) (by omega) (by omega) (fun h_2 => ?_) (fun h_2 => absurd h_2 (by omega))
  refine m_lconst 1 hx hb dX5_runScript_21 rfl ?_
  refine lv_lstore (lv' := [(4, .long (oL (1))), (0, .ref (ad (0))), (1, .int (oI (2))), (2, .long (oL (sc)))]) hx hb dX5_runScript_22 hl (by decide) rfl (fun ls hl => ?_)
  refine m_iconst 1 hx hb dX5_runScript_24 rfl ?_
  refine lv_istore (lv' := [(6, .int (oI (1))), (4, .long (oL (1))), (0, .ref (ad (0))), (1, .int (oI (2))), (2, .long (oL (sc)))]) hx hb dX5_runScript_25 hl (by decide) rfl (fun ls hl => ?_)
  refine lv_iload hx hb dX5_runScript_27 (lv_at hl 0 rfl) ?_
  refine lv_iload_n hx hb dX5_runScript_29 rfl (lv_at hl 3 rfl) ?_
  refine m_icmp_ge 53 hx hb dX5_runScript_30 (by decide) (by omega) (by omega) (fun h_3 => absurd h_3 (by omega)) (fun h_3 => ?_)
  refine lv_iload hx hb dX5_runScript_33 (lv_at hl 0 rfl) ?_
  refine m_iconst 3 hx hb dX5_runScript_35 rfl ?_
  refine m_icmp_ge 53 hx hb dX5_runScript_36 (by decide) (by omega) (by omega) (fun h_4 => absurd h_4 (by omega)) (fun h_4 => ?_)
  refine lv_lload hx hb dX5_runScript_39 (lv_at hl 1 rfl) ?_
  refine lv_ldc2 (v := 1000000) hx hb hown (hts _ kl_X5_301) dX5_runScript_41 ?_
  refine m_J2L 1000000 (by decide +kernel) ?_
  refine m_lmul (1000000) hx hb dX5_runScript_44 (by omega) ?_
  refine lv_lstore (lv' := [(4, .long (oL (1000000))), (6, .int (oI (1))), (0, .ref (ad (0))), (1, .int (oI (2))), (2, .long (oL (sc)))]) hx hb dX5_runScript_45 hl (by decide) rfl (fun ls hl => ?_)
  refine m_iinc (2) [(6, .int (oI (2))), (4, .long (oL (1000000))), (0, .ref (ad (0))), (1, .int (oI (2))), (2, .long (oL (sc)))] hx hb dX5_runScript_47 hl (j := 1) rfl (by omega) (by decide) rfl (fun ls hl => ?_)
  refine lv_goto (tgt := 27) hx hb dX5_runScript_50 (by decide) ?_
  refine lv_iload hx hb dX5_runScript_27 (lv_at hl 0 rfl) ?_
  refine lv_iload_n hx hb dX5_runScript_29 rfl (lv_at hl 3 rfl) ?_
  refine m_icmp_ge 53 hx hb dX5_runScript_30 (by decide) (by omega) (by omega) (fun h_5 => ?_) (fun h_5 => absurd h_5 (by omega))
  refine lv_lload_n hx hb dX5_runScript_53 rfl (lv_at hl 4 rfl) ?_
  refine m_lconst 0 hx hb dX5_runScript_54 rfl ?_
  refine m_lcmp_lt 70 hx hb dX5_runScript_55 dX5_runScript_56 (by decide) (by omega) (by omega) (fun h_6 => ?_) (fun h_6 => ?_)
  · exact m_throwW (text := "no such script") hx hb hl0 hml hown hts hK hXT hH hl hlk hnt oth_0 (by decide) dX5_runScript_70 dX5_runScript_73 dX5_runScript_74 dX5_runScript_77 dX5_runScript_80 ⟨Nat.le_of_ble_eq_true rfl, Nat.le_of_ble_eq_true rfl⟩ (Nat.le_of_ble_eq_true rfl) ⟨Nat.le_of_ble_eq_true rfl, Nat.le_of_ble_eq_true rfl⟩ ⟨Nat.le_of_ble_eq_true rfl, Nat.le_of_ble_eq_true rfl⟩ (⟨⟨rfl, by omega⟩, rfl⟩)
  · refine lv_lload_n hx hb dX5_runScript_59 rfl (lv_at hl 4 rfl) ?_
    refine lv_lload hx hb dX5_runScript_60 (lv_at hl 1 rfl) ?_
    refine lv_ldc2 (v := 1000000) hx hb hown (hts _ kl_X5_301) dX5_runScript_62 ?_
    refine m_J2L 1000000 (by decide +kernel) ?_
    refine m_lmul (1000000000000) hx hb dX5_runScript_65 (by omega) ?_
    refine m_lcmp_lt 81 hx hb dX5_runScript_66 dX5_runScript_67 (by decide) (by omega) (by omega) (fun h_7 => ?_) (fun h_7 => ?_)
    · refine lv_aload_n hx hb dX5_runScript_81 rfl (lv_at hl 2 rfl) ?_
      refine gf_X5_copy hx hb hts hown hK hH (k := 0) (by omega) eO dX5_runScript_82 ?_
      refine lv_aload_n hx hb dX5_runScript_85 rfl (lv_at hl 2 rfl) ?_
      refine gf_X5_present hx hb hts hown hK hH (k := 0) (by omega) eO dX5_runScript_86 ?_
      refine m_callVv hx hb hml hown hts hK hH hl (rest := []) cw_X5_305 (c4_become hA 4 n6 a6 g6 1 n a g sz6 w6 sz w (by first | assumption | omega) (by first | assumption | omega) (by first | assumption | omega) (by first | assumption | omega) k0 k1 k2 e0 e1 e2) ⟨Nat.le_of_ble_eq_true rfl, Nat.le_of_ble_eq_true rfl⟩ ⟨Nat.le_of_ble_eq_true rfl, Nat.le_of_ble_eq_true rfl⟩ rfl (k := 4) (by omega) k0 rfl rfl (Nat.le_of_ble_eq_true rfl) dX5_runScript_89 (fun σ_8 H locs hp_9 hH => ?_)
      obtain ⟨s8, w8, hsw, k0, k1, k2, hq_10⟩ := hp_9
      have eO : σ_8 (0) = .inr (5, [.ref (ad (1)), .ref (ad (4)), .ref (ad (7)), .ref (ad (10)), .int (oI (ff)), .int (oI (sf)), .ref (ad (13)), .ref (ad (57)), .ref (ad (59)), .ref (ad (64))]) := (hq_10 _ (by decide) (by decide) (by decide)).trans eO
      have e0 : σ_8 (1) = .inr (4, [.ref (ad (2)), .ref (ad (3)), .int (oI (((n : Nat) : Int))), .int (oI (((a : Nat) : Int))), .int (oI (((g : Nat) : Int)))]) := (hq_10 _ (by decide) (by decide) (by decide)).trans e0
      have e1 : σ_8 (2) = oAN cT 4 sz := (hq_10 _ (by decide) (by decide) (by decide)).trans e1
      have e2 : σ_8 (3) = oAJ cT 4 w := (hq_10 _ (by decide) (by decide) (by decide)).trans e2
      have e59 : σ_8 (59) = .inr (3, [.ref (ad (60)), .ref (ad (61)), .int (oI (((ld : Nat) : Int))), .ref (ad (62)), .ref (ad (63))]) := (hq_10 _ (by decide) (by decide) (by decide)).trans e59
      have e60 : σ_8 (60) = oAI cT 201 S := (hq_10 _ (by decide) (by decide) (by decide)).trans e60
      have e61 : σ_8 (61) = oAI cT 201 Ln := (hq_10 _ (by decide) (by decide) (by decide)).trans e61
      have e62 : σ_8 (62) = oAJ cT 4 wr := (hq_10 _ (by decide) (by decide) (by decide)).trans e62
      have e63 : σ_8 (63) = oAJ cT 4 gr := (hq_10 _ (by decide) (by decide) (by decide)).trans e63
      have hf : ∀ q : Nat, q ≠ 4 → q ≠ 5 → q ≠ 6 → q ≠ 59 → q ≠ 60 → q ≠ 61 → q ≠ 62 → q ≠ 63 → σ_8 q = σ q := fun q n0 n1 n2 n3 n4 n5 n6 n7 => (hq_10 q n0 n1 n2).trans (hf q n0 n1 n2 n3 n4 n5 n6 n7)
      have hwf8 := hwf.congr hsw
      refine m_iconst 0 hx hb dX5_runScript_92 rfl ?_
      refine lv_istore (lv' := [(6, .int (oI (0))), (4, .long (oL (1000000))), (0, .ref (ad (0))), (1, .int (oI (2))), (2, .long (oL (sc)))]) hx hb dX5_runScript_93 hl (by decide) rfl (fun ls hl => ?_)
      refine lv_iload hx hb dX5_runScript_95 (lv_at hl 0 rfl) ?_
      refine lv_iload_n hx hb dX5_runScript_97 rfl (lv_at hl 3 rfl) ?_
      refine m_icmp_ge 148 hx hb dX5_runScript_98 (by decide) (by omega) (by omega) (fun h_12 => absurd h_12 (by omega)) (fun h_12 => ?_)
      refine lv_iload hx hb dX5_runScript_101 (lv_at hl 0 rfl) ?_
      refine m_iconst 3 hx hb dX5_runScript_103 rfl ?_
      refine m_icmp_ge 148 hx hb dX5_runScript_104 (by decide) (by omega) (by omega) (fun h_13 => absurd h_13 (by omega)) (fun h_13 => ?_)
      refine lv_aload_n hx hb dX5_runScript_107 rfl (lv_at hl 2 rfl) ?_
      refine lv_lload_n hx hb dX5_runScript_108 rfl (lv_at hl 4 rfl) ?_
      refine lv_lload hx hb dX5_runScript_109 (lv_at hl 1 rfl) ?_
      refine m_lconst 1 hx hb dX5_runScript_111 rfl ?_
      refine m_lmax (1000000) hx hb hml hl hown hts (index := 308) (hts _ (o_in0 (List.mem_of_getElem? (i := 880) (by decide +kernel)))) (Nat.le_of_ble_eq_true rfl) (Nat.le_of_ble_eq_true rfl) ⟨Nat.le_of_ble_eq_true rfl, Nat.le_of_ble_eq_true rfl⟩ (by omega) (by omega) (by omega) dX5_runScript_112 ?_
      refine m_ldiv (((sc.toNat / 1000000 : Nat) : Int)) hx hb dX5_runScript_115 (by omega) (by omega) (by omega) ?_
      refine lv_ldc2 (v := 1000000) hx hb hown (hts _ kl_X5_301) dX5_runScript_116 ?_
      refine m_J2L 1000000 (by decide +kernel) ?_
      refine m_lrem (((sc.toNat / 1000000 % 1000000 : Nat) : Int)) hx hb dX5_runScript_119 (by omega) (by omega) (by omega) ?_
      refine m_l2i hx hb dX5_runScript_120 ?_
      refine lv_aload_n hx hb dX5_runScript_121 rfl (lv_at hl 2 rfl) ?_
      refine gf_X5_copy hx hb hts hown hK hH (k := 0) (by omega) eO dX5_runScript_122 ?_
      refine m_callVi hx hb hml hown hts hK hH hl (rest := []) cw_X5_311 (c5_runGroup hA (sc.toNat / 1000000 % 1000000) 4 n a g s8 w8 ld wr gr S Ln ff sf (by first | assumption | omega) (by first | assumption | omega) (by first | assumption | omega) (by first | assumption | omega) (by first | assumption | omega) eO k0 k1 k2 e59 e60 e61 e62 e63) ⟨Nat.le_of_ble_eq_true rfl, Nat.le_of_ble_eq_true rfl⟩ ⟨Nat.le_of_ble_eq_true rfl, Nat.le_of_ble_eq_true rfl⟩ rfl (k := 0) (by omega) eO rfl rfl (Nat.le_of_ble_eq_true rfl) dX5_runScript_125 (fun r_17 σ_14 H locs hp_15 hH => ?_)
      obtain ⟨rt0, n10, a10, g10, s10, w10, ld0, S0, L0, wr0, gr0, rfl, hg0, hr0, hw0, ha0, k0, k1, k2, e59, e60, e61, e62, e63, hq_16⟩ := hp_15
      have eO : σ_14 (0) = .inr (5, [.ref (ad (1)), .ref (ad (4)), .ref (ad (7)), .ref (ad (10)), .int (oI (ff)), .int (oI (sf)), .ref (ad (13)), .ref (ad (57)), .ref (ad (59)), .ref (ad (64))]) := (hq_16 _ (by decide) (by decide) (by decide) (by decide) (by decide) (by decide) (by decide) (by decide)).trans eO
      have e0 : σ_14 (1) = .inr (4, [.ref (ad (2)), .ref (ad (3)), .int (oI (((n : Nat) : Int))), .int (oI (((a : Nat) : Int))), .int (oI (((g : Nat) : Int)))]) := (hq_16 _ (by decide) (by decide) (by decide) (by decide) (by decide) (by decide) (by decide) (by decide)).trans e0
      have e1 : σ_14 (2) = oAN cT 4 sz := (hq_16 _ (by decide) (by decide) (by decide) (by decide) (by decide) (by decide) (by decide) (by decide)).trans e1
      have e2 : σ_14 (3) = oAJ cT 4 w := (hq_16 _ (by decide) (by decide) (by decide) (by decide) (by decide) (by decide) (by decide) (by decide)).trans e2
      have hf : ∀ q : Nat, q ≠ 4 → q ≠ 5 → q ≠ 6 → q ≠ 59 → q ≠ 60 → q ≠ 61 → q ≠ 62 → q ≠ 63 → σ_14 q = σ q := fun q n0 n1 n2 n3 n4 n5 n6 n7 => (hq_16 q n0 n1 n2 n3 n4 n5 n6 n7).trans (hf q n0 n1 n2 n3 n4 n5 n6 n7)
      refine m_if_ne 134 hx hb dX5_runScript_128 (by decide) (by omega) (fun hz0 => ?_) (fun hz0 => ?_)
      · refine lv_lload hx hb dX5_runScript_134 (lv_at hl 1 rfl) ?_
        refine lv_ldc2 (v := 1000000) hx hb hown (hts _ kl_X5_301) dX5_runScript_136 ?_
        refine m_J2L 1000000 (by decide +kernel) ?_
        refine m_ldiv (1) hx hb dX5_runScript_139 (by omega) (by omega) (by decide) ?_
        refine lv_lstore (lv' := [(4, .long (oL (1))), (6, .int (oI (0))), (0, .ref (ad (0))), (1, .int (oI (2))), (2, .long (oL (sc)))]) hx hb dX5_runScript_140 hl (by decide) rfl (fun ls hl => ?_)
        refine m_iinc (1) [(6, .int (oI (1))), (4, .long (oL (1))), (0, .ref (ad (0))), (1, .int (oI (2))), (2, .long (oL (sc)))] hx hb dX5_runScript_142 hl (j := 1) rfl (by omega) (by decide) rfl (fun ls hl => ?_)
        refine lv_goto (tgt := 95) hx hb dX5_runScript_145 (by decide) ?_
        refine lv_iload hx hb dX5_runScript_95 (lv_at hl 0 rfl) ?_
        refine lv_iload_n hx hb dX5_runScript_97 rfl (lv_at hl 3 rfl) ?_
        refine m_icmp_ge 148 hx hb dX5_runScript_98 (by decide) (by omega) (by omega) (fun h_19 => absurd h_19 (by omega)) (fun h_19 => ?_)
        refine lv_iload hx hb dX5_runScript_101 (lv_at hl 0 rfl) ?_
        refine m_iconst 3 hx hb dX5_runScript_103 rfl ?_
        refine m_icmp_ge 148 hx hb dX5_runScript_104 (by decide) (by omega) (by omega) (fun h_20 => absurd h_20 (by omega)) (fun h_20 => ?_)
        refine lv_aload_n hx hb dX5_runScript_107 rfl (lv_at hl 2 rfl) ?_
        refine lv_lload_n hx hb dX5_runScript_108 rfl (lv_at hl 4 rfl) ?_
        refine lv_lload hx hb dX5_runScript_109 (lv_at hl 1 rfl) ?_
        refine m_lconst 1 hx hb dX5_runScript_111 rfl ?_
        refine m_lmax (1) hx hb hml hl hown hts (index := 308) (hts _ (o_in0 (List.mem_of_getElem? (i := 880) (by decide +kernel)))) (Nat.le_of_ble_eq_true rfl) (Nat.le_of_ble_eq_true rfl) ⟨Nat.le_of_ble_eq_true rfl, Nat.le_of_ble_eq_true rfl⟩ (by omega) (by omega) (by omega) dX5_runScript_112 ?_
        refine m_ldiv (((sc.toNat : Nat) : Int)) hx hb dX5_runScript_115 (by omega) (by omega) (by omega) ?_
        refine lv_ldc2 (v := 1000000) hx hb hown (hts _ kl_X5_301) dX5_runScript_116 ?_
        refine m_J2L 1000000 (by decide +kernel) ?_
        refine m_lrem (((sc.toNat % 1000000 : Nat) : Int)) hx hb dX5_runScript_119 (by omega) (by omega) (by omega) ?_
        refine m_l2i hx hb dX5_runScript_120 ?_
        refine lv_aload_n hx hb dX5_runScript_121 rfl (lv_at hl 2 rfl) ?_
        refine gf_X5_copy hx hb hts hown hK hH (k := 0) (by omega) eO dX5_runScript_122 ?_
        refine m_callVi hx hb hml hown hts hK hH hl (rest := []) cw_X5_311 (c5_runGroup hA (sc.toNat % 1000000) 4 n10 a10 g10 s10 w10 ld0 wr0 gr0 S0 L0 ff sf (by first | assumption | omega) (by first | assumption | omega) (by first | assumption | omega) (by first | assumption | omega) (by first | assumption | omega) eO k0 k1 k2 e59 e60 e61 e62 e63) ⟨Nat.le_of_ble_eq_true rfl, Nat.le_of_ble_eq_true rfl⟩ ⟨Nat.le_of_ble_eq_true rfl, Nat.le_of_ble_eq_true rfl⟩ rfl (k := 0) (by omega) eO rfl rfl (Nat.le_of_ble_eq_true rfl) dX5_runScript_125 (fun r_24 σ_21 H locs hp_22 hH => ?_)
        obtain ⟨rt1, n11, a11, g11, s11, w11, ld1, S1, L1, wr1, gr1, rfl, hg1, hr1, hw1, ha1, k0, k1, k2, e59, e60, e61, e62, e63, hq_23⟩ := hp_22
        have eO : σ_21 (0) = .inr (5, [.ref (ad (1)), .ref (ad (4)), .ref (ad (7)), .ref (ad (10)), .int (oI (ff)), .int (oI (sf)), .ref (ad (13)), .ref (ad (57)), .ref (ad (59)), .ref (ad (64))]) := (hq_23 _ (by decide) (by decide) (by decide) (by decide) (by decide) (by decide) (by decide) (by decide)).trans eO
        have e0 : σ_21 (1) = .inr (4, [.ref (ad (2)), .ref (ad (3)), .int (oI (((n : Nat) : Int))), .int (oI (((a : Nat) : Int))), .int (oI (((g : Nat) : Int)))]) := (hq_23 _ (by decide) (by decide) (by decide) (by decide) (by decide) (by decide) (by decide) (by decide)).trans e0
        have e1 : σ_21 (2) = oAN cT 4 sz := (hq_23 _ (by decide) (by decide) (by decide) (by decide) (by decide) (by decide) (by decide) (by decide)).trans e1
        have e2 : σ_21 (3) = oAJ cT 4 w := (hq_23 _ (by decide) (by decide) (by decide) (by decide) (by decide) (by decide) (by decide) (by decide)).trans e2
        have hf : ∀ q : Nat, q ≠ 4 → q ≠ 5 → q ≠ 6 → q ≠ 59 → q ≠ 60 → q ≠ 61 → q ≠ 62 → q ≠ 63 → σ_21 q = σ q := fun q n0 n1 n2 n3 n4 n5 n6 n7 => (hq_23 q n0 n1 n2 n3 n4 n5 n6 n7).trans (hf q n0 n1 n2 n3 n4 n5 n6 n7)
        refine m_if_ne 134 hx hb dX5_runScript_128 (by decide) (by omega) (fun hz1 => ?_) (fun hz1 => ?_)
        · refine lv_lload hx hb dX5_runScript_134 (lv_at hl 1 rfl) ?_
          refine lv_ldc2 (v := 1000000) hx hb hown (hts _ kl_X5_301) dX5_runScript_136 ?_
          refine m_J2L 1000000 (by decide +kernel) ?_
          refine m_ldiv (0) hx hb dX5_runScript_139 (by omega) (by omega) (by decide) ?_
          refine lv_lstore (lv' := [(4, .long (oL (0))), (6, .int (oI (1))), (0, .ref (ad (0))), (1, .int (oI (2))), (2, .long (oL (sc)))]) hx hb dX5_runScript_140 hl (by decide) rfl (fun ls hl => ?_)
          refine m_iinc (2) [(6, .int (oI (2))), (4, .long (oL (0))), (0, .ref (ad (0))), (1, .int (oI (2))), (2, .long (oL (sc)))] hx hb dX5_runScript_142 hl (j := 1) rfl (by omega) (by decide) rfl (fun ls hl => ?_)
          refine lv_goto (tgt := 95) hx hb dX5_runScript_145 (by decide) ?_
          refine lv_iload hx hb dX5_runScript_95 (lv_at hl 0 rfl) ?_
          refine lv_iload_n hx hb dX5_runScript_97 rfl (lv_at hl 3 rfl) ?_
          refine m_icmp_ge 148 hx hb dX5_runScript_98 (by decide) (by omega) (by omega) (fun h_26 => ?_) (fun h_26 => absurd h_26 (by omega))
          refine m_iconst (-1) hx hb dX5_runScript_148 rfl ?_
          exact m_iretX hx hb hlk hrt hH ⟨Nat.le_of_ble_eq_true rfl, Nat.le_of_ble_eq_true rfl⟩ (m_ni _) dX5_runScript_149 ⟨s8, w8, n11, a11, g11, s11, w11, ld1, S1, L1, wr1, gr1, congrArg oI (by rw [oGl3_2]; exact (((oScr_go hg0 hz0).trans (oScr_go hg1 hz1)).trans (oScr_nil _ _ _ _ _ _)).symm), (by omega), hsw, k0, k1, k2, e59, e60, e61, e62, e63, hf⟩
        · refine lv_iload hx hb dX5_runScript_131 (lv_at hl 0 rfl) ?_
          exact m_iretX hx hb hlk hrt hH ⟨Nat.le_of_ble_eq_true rfl, Nat.le_of_ble_eq_true rfl⟩ (m_ni _) dX5_runScript_133 ⟨s8, w8, n11, a11, g11, s11, w11, ld1, S1, L1, wr1, gr1, congrArg oI (by rw [oGl3_2]; exact ((oScr_go hg0 hz0).trans (oScr_no hg1 hz1)).symm), (by omega), hsw, k0, k1, k2, e59, e60, e61, e62, e63, hf⟩
      · refine lv_iload hx hb dX5_runScript_131 (lv_at hl 0 rfl) ?_
        exact m_iretX hx hb hlk hrt hH ⟨Nat.le_of_ble_eq_true rfl, Nat.le_of_ble_eq_true rfl⟩ (m_ni _) dX5_runScript_133 ⟨s8, w8, n10, a10, g10, s10, w10, ld0, S0, L0, wr0, gr0, congrArg oI (by rw [oGl3_2]; exact (oScr_no hg0 hz0).symm), (by omega), hsw, k0, k1, k2, e59, e60, e61, e62, e63, hf⟩
    · exact m_throwW (text := "no such script") hx hb hl0 hml hown hts hK hXT hH hl hlk hnt oth_0 (by decide) dX5_runScript_70 dX5_runScript_73 dX5_runScript_74 dX5_runScript_77 dX5_runScript_80 ⟨Nat.le_of_ble_eq_true rfl, Nat.le_of_ble_eq_true rfl⟩ (Nat.le_of_ble_eq_true rfl) ⟨Nat.le_of_ble_eq_true rfl, Nat.le_of_ble_eq_true rfl⟩ ⟨Nat.le_of_ble_eq_true rfl, Nat.le_of_ble_eq_true rfl⟩ (⟨⟨rfl, by omega⟩, rfl⟩)
set_option maxHeartbeats 8000000 in
set_option maxRecDepth 100000 in
theorem c5_runScript3 {l : Launch} {D : va_G} {cT : Nat → ClassId} {N b0 : Nat} {ad : Nat → Nat} (hA : oAd b0 N ad) {σ : Nat → va_E} (sc : Int) (n a g : Nat) (sz w : Nat → Nat) (n6 a6 g6 : Nat) (sz6 w6 : Nat → Nat) (ld : Nat) (wr gr : Nat → Nat) (S Ln : Nat → Int) (ff sf : Int) (hl0 : l.stackTraces = false) (hN : 76 ≤ N) (hwf : oWf n sz w) (hag : oAg a g) (hsc : -9223372036854775808 ≤ sc ∧ sc < 9223372036854775808) (eO : σ (0) = .inr (5, [.ref (ad (1)), .ref (ad (4)), .ref (ad (7)), .ref (ad (10)), .int (oI (ff)), .int (oI (sf)), .ref (ad (13)), .ref (ad (57)), .ref (ad (59)), .ref (ad (64))])) (e0 : σ (1) = .inr (4, [.ref (ad (2)), .ref (ad (3)), .int (oI (((n : Nat) : Int))), .int (oI (((a : Nat) : Int))), .int (oI (((g : Nat) : Int)))])) (e1 : σ (2) = oAN cT 4 sz) (e2 : σ (3) = oAJ cT 4 w) (k0 : σ (4) = .inr (4, [.ref (ad (5)), .ref (ad (6)), .int (oI (((n6 : Nat) : Int))), .int (oI (((a6 : Nat) : Int))), .int (oI (((g6 : Nat) : Int)))])) (k1 : σ (5) = oAN cT 4 sz6) (k2 : σ (6) = oAJ cT 4 w6) (e59 : σ (59) = .inr (3, [.ref (ad (60)), .ref (ad (61)), .int (oI (((ld : Nat) : Int))), .ref (ad (62)), .ref (ad (63))])) (e60 : σ (60) = oAI cT 201 S) (e61 : σ (61) = oAI cT 201 Ln) (e62 : σ (62) = oAJ cT 4 wr) (e63 : σ (63) = oAJ cT 4 gr) :
    oXi l D cT N ad b0 yX5_runScript cX5_runScript 7 (some .int) 6 141 1 [.ref (ad (0)), .int (oI (3)), .long (oL (sc))] σ (fun rr uu => ∃ sz3 : Nat → Nat, ∃ w3 : Nat → Nat, ∃ n1 : Nat, ∃ a1 : Nat, ∃ g1 : Nat, ∃ sz1 : Nat → Nat, ∃ w1 : Nat → Nat, ∃ ld2 : Nat, ∃ S2 : Nat → Int, ∃ Ln2 : Nat → Int, ∃ w2 : Nat → Nat, ∃ gr2 : Nat → Nat, rr = oI ((oScr (oGl3 3 sc.toNat) 0 n a g sz3 w3)) ∧ (0 ≤ sc ∧ sc < 1000000000000000000) ∧ (∀ r : Nat, r < n → sz3 r = sz r ∧ w3 r = w r) ∧ uu (4) = .inr (4, [.ref (ad (5)), .ref (ad (6)), .int (oI (((n1 : Nat) : Int))), .int (oI (((a1 : Nat) : Int))), .int (oI (((g1 : Nat) : Int)))]) ∧ uu (5) = oAN cT 4 sz1 ∧ uu (6) = oAJ cT 4 w1 ∧ uu (59) = .inr (3, [.ref (ad (60)), .ref (ad (61)), .int (oI (((ld2 : Nat) : Int))), .ref (ad (62)), .ref (ad (63))]) ∧ uu (60) = oAI cT 201 S2 ∧ uu (61) = oAI cT 201 Ln2 ∧ uu (62) = oAJ cT 4 w2 ∧ uu (63) = oAJ cT 4 gr2 ∧ (∀ q : Nat, q ≠ 4 → q ≠ 5 → q ≠ 6 → q ≠ 59 → q ≠ 60 → q ≠ 61 → q ≠ 62 → q ≠ 63 → uu q = σ q)) (fun E uu => (E = oIA ∧ ¬ (0 ≤ sc ∧ sc < 1000000000000000000)) ∧ uu = σ) := by
  refine m_startX (cc := cX5_runScript) (by decide) (Nat.le_of_ble_eq_true rfl) rfl ?_
  intro Pp Ee Ss Mm Bb Me Cc Ar ls hx hb hml hown hlk hrt hts hK hH hl hXT hnt
  have hown : Ss.vm.findClass RX5 = some Mm.cls := hown
  have hn := hwf.1
  have hl : lv_has ls 7 [(0, .ref (ad (0))), (1, .int (oI (3))), (2, .long (oL (sc)))] := hl
  have hf : ∀ q : Nat, q ≠ 4 → q ≠ 5 → q ≠ 6 → q ≠ 59 → q ≠ 60 → q ≠ 61 → q ≠ 62 → q ≠ 63 → σ q = σ q := fun q _ _ _ _ _ _ _ _ => rfl
  refine lv_iload_n hx hb dX5_runScript_0 rfl (lv_at hl 1 rfl) ?_
  refine m_iconst 1 hx hb dX5_runScript_1 rfl ?_
  refine m_icmp_lt 10 hx hb dX5_runScript_2 (by decide) (by omega) (by omega) (fun h_1 => absurd h_1 (by omega)) (fun h_1 => ?_)
  refine lv_iload_n hx hb dX5_runScript_5 rfl (lv_at hl 1 rfl) ?_
  refine m_iconst 3 hx hb dX5_runScript_6 rfl ?_
  refine m_icmp_le 21 hx hb dX5_runScript_7 (by decide) (by omega) (by omega) (fun h_2 => ?_) (fun h_2 => absurd h_2 (by omega))
  refine m_lconst 1 hx hb dX5_runScript_21 rfl ?_
  refine lv_lstore (lv' := [(4, .long (oL (1))), (0, .ref (ad (0))), (1, .int (oI (3))), (2, .long (oL (sc)))]) hx hb dX5_runScript_22 hl (by decide) rfl (fun ls hl => ?_)
  refine m_iconst 1 hx hb dX5_runScript_24 rfl ?_
  refine lv_istore (lv' := [(6, .int (oI (1))), (4, .long (oL (1))), (0, .ref (ad (0))), (1, .int (oI (3))), (2, .long (oL (sc)))]) hx hb dX5_runScript_25 hl (by decide) rfl (fun ls hl => ?_)
  refine lv_iload hx hb dX5_runScript_27 (lv_at hl 0 rfl) ?_
  refine lv_iload_n hx hb dX5_runScript_29 rfl (lv_at hl 3 rfl) ?_
  refine m_icmp_ge 53 hx hb dX5_runScript_30 (by decide) (by omega) (by omega) (fun h_3 => absurd h_3 (by omega)) (fun h_3 => ?_)
  refine lv_iload hx hb dX5_runScript_33 (lv_at hl 0 rfl) ?_
  refine m_iconst 3 hx hb dX5_runScript_35 rfl ?_
  refine m_icmp_ge 53 hx hb dX5_runScript_36 (by decide) (by omega) (by omega) (fun h_4 => absurd h_4 (by omega)) (fun h_4 => ?_)
  refine lv_lload hx hb dX5_runScript_39 (lv_at hl 1 rfl) ?_
  refine lv_ldc2 (v := 1000000) hx hb hown (hts _ kl_X5_301) dX5_runScript_41 ?_
  refine m_J2L 1000000 (by decide +kernel) ?_
  refine m_lmul (1000000) hx hb dX5_runScript_44 (by omega) ?_
  refine lv_lstore (lv' := [(4, .long (oL (1000000))), (6, .int (oI (1))), (0, .ref (ad (0))), (1, .int (oI (3))), (2, .long (oL (sc)))]) hx hb dX5_runScript_45 hl (by decide) rfl (fun ls hl => ?_)
  refine m_iinc (2) [(6, .int (oI (2))), (4, .long (oL (1000000))), (0, .ref (ad (0))), (1, .int (oI (3))), (2, .long (oL (sc)))] hx hb dX5_runScript_47 hl (j := 1) rfl (by omega) (by decide) rfl (fun ls hl => ?_)
  refine lv_goto (tgt := 27) hx hb dX5_runScript_50 (by decide) ?_
  refine lv_iload hx hb dX5_runScript_27 (lv_at hl 0 rfl) ?_
  refine lv_iload_n hx hb dX5_runScript_29 rfl (lv_at hl 3 rfl) ?_
  refine m_icmp_ge 53 hx hb dX5_runScript_30 (by decide) (by omega) (by omega) (fun h_5 => absurd h_5 (by omega)) (fun h_5 => ?_)
  refine lv_iload hx hb dX5_runScript_33 (lv_at hl 0 rfl) ?_
  refine m_iconst 3 hx hb dX5_runScript_35 rfl ?_
  refine m_icmp_ge 53 hx hb dX5_runScript_36 (by decide) (by omega) (by omega) (fun h_6 => absurd h_6 (by omega)) (fun h_6 => ?_)
  refine lv_lload hx hb dX5_runScript_39 (lv_at hl 1 rfl) ?_
  refine lv_ldc2 (v := 1000000) hx hb hown (hts _ kl_X5_301) dX5_runScript_41 ?_
  refine m_J2L 1000000 (by decide +kernel) ?_
  refine m_lmul (1000000000000) hx hb dX5_runScript_44 (by omega) ?_
  refine lv_lstore (lv' := [(4, .long (oL (1000000000000))), (6, .int (oI (2))), (0, .ref (ad (0))), (1, .int (oI (3))), (2, .long (oL (sc)))]) hx hb dX5_runScript_45 hl (by decide) rfl (fun ls hl => ?_)
  refine m_iinc (3) [(6, .int (oI (3))), (4, .long (oL (1000000000000))), (0, .ref (ad (0))), (1, .int (oI (3))), (2, .long (oL (sc)))] hx hb dX5_runScript_47 hl (j := 1) rfl (by omega) (by decide) rfl (fun ls hl => ?_)
  refine lv_goto (tgt := 27) hx hb dX5_runScript_50 (by decide) ?_
  refine lv_iload hx hb dX5_runScript_27 (lv_at hl 0 rfl) ?_
  refine lv_iload_n hx hb dX5_runScript_29 rfl (lv_at hl 3 rfl) ?_
  refine m_icmp_ge 53 hx hb dX5_runScript_30 (by decide) (by omega) (by omega) (fun h_7 => ?_) (fun h_7 => absurd h_7 (by omega))
  refine lv_lload_n hx hb dX5_runScript_53 rfl (lv_at hl 4 rfl) ?_
  refine m_lconst 0 hx hb dX5_runScript_54 rfl ?_
  refine m_lcmp_lt 70 hx hb dX5_runScript_55 dX5_runScript_56 (by decide) (by omega) (by omega) (fun h_8 => ?_) (fun h_8 => ?_)
  · exact m_throwW (text := "no such script") hx hb hl0 hml hown hts hK hXT hH hl hlk hnt oth_0 (by decide) dX5_runScript_70 dX5_runScript_73 dX5_runScript_74 dX5_runScript_77 dX5_runScript_80 ⟨Nat.le_of_ble_eq_true rfl, Nat.le_of_ble_eq_true rfl⟩ (Nat.le_of_ble_eq_true rfl) ⟨Nat.le_of_ble_eq_true rfl, Nat.le_of_ble_eq_true rfl⟩ ⟨Nat.le_of_ble_eq_true rfl, Nat.le_of_ble_eq_true rfl⟩ (⟨⟨rfl, by omega⟩, rfl⟩)
  · refine lv_lload_n hx hb dX5_runScript_59 rfl (lv_at hl 4 rfl) ?_
    refine lv_lload hx hb dX5_runScript_60 (lv_at hl 1 rfl) ?_
    refine lv_ldc2 (v := 1000000) hx hb hown (hts _ kl_X5_301) dX5_runScript_62 ?_
    refine m_J2L 1000000 (by decide +kernel) ?_
    refine m_lmul (1000000000000000000) hx hb dX5_runScript_65 (by omega) ?_
    refine m_lcmp_lt 81 hx hb dX5_runScript_66 dX5_runScript_67 (by decide) (by omega) (by omega) (fun h_9 => ?_) (fun h_9 => ?_)
    · refine lv_aload_n hx hb dX5_runScript_81 rfl (lv_at hl 2 rfl) ?_
      refine gf_X5_copy hx hb hts hown hK hH (k := 0) (by omega) eO dX5_runScript_82 ?_
      refine lv_aload_n hx hb dX5_runScript_85 rfl (lv_at hl 2 rfl) ?_
      refine gf_X5_present hx hb hts hown hK hH (k := 0) (by omega) eO dX5_runScript_86 ?_
      refine m_callVv hx hb hml hown hts hK hH hl (rest := []) cw_X5_305 (c4_become hA 4 n6 a6 g6 1 n a g sz6 w6 sz w (by first | assumption | omega) (by first | assumption | omega) (by first | assumption | omega) (by first | assumption | omega) k0 k1 k2 e0 e1 e2) ⟨Nat.le_of_ble_eq_true rfl, Nat.le_of_ble_eq_true rfl⟩ ⟨Nat.le_of_ble_eq_true rfl, Nat.le_of_ble_eq_true rfl⟩ rfl (k := 4) (by omega) k0 rfl rfl (Nat.le_of_ble_eq_true rfl) dX5_runScript_89 (fun σ_10 H locs hp_11 hH => ?_)
      obtain ⟨s8, w8, hsw, k0, k1, k2, hq_12⟩ := hp_11
      have eO : σ_10 (0) = .inr (5, [.ref (ad (1)), .ref (ad (4)), .ref (ad (7)), .ref (ad (10)), .int (oI (ff)), .int (oI (sf)), .ref (ad (13)), .ref (ad (57)), .ref (ad (59)), .ref (ad (64))]) := (hq_12 _ (by decide) (by decide) (by decide)).trans eO
      have e0 : σ_10 (1) = .inr (4, [.ref (ad (2)), .ref (ad (3)), .int (oI (((n : Nat) : Int))), .int (oI (((a : Nat) : Int))), .int (oI (((g : Nat) : Int)))]) := (hq_12 _ (by decide) (by decide) (by decide)).trans e0
      have e1 : σ_10 (2) = oAN cT 4 sz := (hq_12 _ (by decide) (by decide) (by decide)).trans e1
      have e2 : σ_10 (3) = oAJ cT 4 w := (hq_12 _ (by decide) (by decide) (by decide)).trans e2
      have e59 : σ_10 (59) = .inr (3, [.ref (ad (60)), .ref (ad (61)), .int (oI (((ld : Nat) : Int))), .ref (ad (62)), .ref (ad (63))]) := (hq_12 _ (by decide) (by decide) (by decide)).trans e59
      have e60 : σ_10 (60) = oAI cT 201 S := (hq_12 _ (by decide) (by decide) (by decide)).trans e60
      have e61 : σ_10 (61) = oAI cT 201 Ln := (hq_12 _ (by decide) (by decide) (by decide)).trans e61
      have e62 : σ_10 (62) = oAJ cT 4 wr := (hq_12 _ (by decide) (by decide) (by decide)).trans e62
      have e63 : σ_10 (63) = oAJ cT 4 gr := (hq_12 _ (by decide) (by decide) (by decide)).trans e63
      have hf : ∀ q : Nat, q ≠ 4 → q ≠ 5 → q ≠ 6 → q ≠ 59 → q ≠ 60 → q ≠ 61 → q ≠ 62 → q ≠ 63 → σ_10 q = σ q := fun q n0 n1 n2 n3 n4 n5 n6 n7 => (hq_12 q n0 n1 n2).trans (hf q n0 n1 n2 n3 n4 n5 n6 n7)
      have hwf8 := hwf.congr hsw
      refine m_iconst 0 hx hb dX5_runScript_92 rfl ?_
      refine lv_istore (lv' := [(6, .int (oI (0))), (4, .long (oL (1000000000000))), (0, .ref (ad (0))), (1, .int (oI (3))), (2, .long (oL (sc)))]) hx hb dX5_runScript_93 hl (by decide) rfl (fun ls hl => ?_)
      refine lv_iload hx hb dX5_runScript_95 (lv_at hl 0 rfl) ?_
      refine lv_iload_n hx hb dX5_runScript_97 rfl (lv_at hl 3 rfl) ?_
      refine m_icmp_ge 148 hx hb dX5_runScript_98 (by decide) (by omega) (by omega) (fun h_14 => absurd h_14 (by omega)) (fun h_14 => ?_)
      refine lv_iload hx hb dX5_runScript_101 (lv_at hl 0 rfl) ?_
      refine m_iconst 3 hx hb dX5_runScript_103 rfl ?_
      refine m_icmp_ge 148 hx hb dX5_runScript_104 (by decide) (by omega) (by omega) (fun h_15 => absurd h_15 (by omega)) (fun h_15 => ?_)
      refine lv_aload_n hx hb dX5_runScript_107 rfl (lv_at hl 2 rfl) ?_
      refine lv_lload_n hx hb dX5_runScript_108 rfl (lv_at hl 4 rfl) ?_
      refine lv_lload hx hb dX5_runScript_109 (lv_at hl 1 rfl) ?_
      refine m_lconst 1 hx hb dX5_runScript_111 rfl ?_
      refine m_lmax (1000000000000) hx hb hml hl hown hts (index := 308) (hts _ (o_in0 (List.mem_of_getElem? (i := 880) (by decide +kernel)))) (Nat.le_of_ble_eq_true rfl) (Nat.le_of_ble_eq_true rfl) ⟨Nat.le_of_ble_eq_true rfl, Nat.le_of_ble_eq_true rfl⟩ (by omega) (by omega) (by omega) dX5_runScript_112 ?_
      refine m_ldiv (((sc.toNat / 1000000000000 : Nat) : Int)) hx hb dX5_runScript_115 (by omega) (by omega) (by omega) ?_
      refine lv_ldc2 (v := 1000000) hx hb hown (hts _ kl_X5_301) dX5_runScript_116 ?_
      refine m_J2L 1000000 (by decide +kernel) ?_
      refine m_lrem (((sc.toNat / 1000000000000 % 1000000 : Nat) : Int)) hx hb dX5_runScript_119 (by omega) (by omega) (by omega) ?_
      refine m_l2i hx hb dX5_runScript_120 ?_
      refine lv_aload_n hx hb dX5_runScript_121 rfl (lv_at hl 2 rfl) ?_
      refine gf_X5_copy hx hb hts hown hK hH (k := 0) (by omega) eO dX5_runScript_122 ?_
      refine m_callVi hx hb hml hown hts hK hH hl (rest := []) cw_X5_311 (c5_runGroup hA (sc.toNat / 1000000000000 % 1000000) 4 n a g s8 w8 ld wr gr S Ln ff sf (by first | assumption | omega) (by first | assumption | omega) (by first | assumption | omega) (by first | assumption | omega) (by first | assumption | omega) eO k0 k1 k2 e59 e60 e61 e62 e63) ⟨Nat.le_of_ble_eq_true rfl, Nat.le_of_ble_eq_true rfl⟩ ⟨Nat.le_of_ble_eq_true rfl, Nat.le_of_ble_eq_true rfl⟩ rfl (k := 0) (by omega) eO rfl rfl (Nat.le_of_ble_eq_true rfl) dX5_runScript_125 (fun r_19 σ_16 H locs hp_17 hH => ?_)
      obtain ⟨rt0, n10, a10, g10, s10, w10, ld0, S0, L0, wr0, gr0, rfl, hg0, hr0, hw0, ha0, k0, k1, k2, e59, e60, e61, e62, e63, hq_18⟩ := hp_17
      have eO : σ_16 (0) = .inr (5, [.ref (ad (1)), .ref (ad (4)), .ref (ad (7)), .ref (ad (10)), .int (oI (ff)), .int (oI (sf)), .ref (ad (13)), .ref (ad (57)), .ref (ad (59)), .ref (ad (64))]) := (hq_18 _ (by decide) (by decide) (by decide) (by decide) (by decide) (by decide) (by decide) (by decide)).trans eO
      have e0 : σ_16 (1) = .inr (4, [.ref (ad (2)), .ref (ad (3)), .int (oI (((n : Nat) : Int))), .int (oI (((a : Nat) : Int))), .int (oI (((g : Nat) : Int)))]) := (hq_18 _ (by decide) (by decide) (by decide) (by decide) (by decide) (by decide) (by decide) (by decide)).trans e0
      have e1 : σ_16 (2) = oAN cT 4 sz := (hq_18 _ (by decide) (by decide) (by decide) (by decide) (by decide) (by decide) (by decide) (by decide)).trans e1
      have e2 : σ_16 (3) = oAJ cT 4 w := (hq_18 _ (by decide) (by decide) (by decide) (by decide) (by decide) (by decide) (by decide) (by decide)).trans e2
      have hf : ∀ q : Nat, q ≠ 4 → q ≠ 5 → q ≠ 6 → q ≠ 59 → q ≠ 60 → q ≠ 61 → q ≠ 62 → q ≠ 63 → σ_16 q = σ q := fun q n0 n1 n2 n3 n4 n5 n6 n7 => (hq_18 q n0 n1 n2 n3 n4 n5 n6 n7).trans (hf q n0 n1 n2 n3 n4 n5 n6 n7)
      refine m_if_ne 134 hx hb dX5_runScript_128 (by decide) (by omega) (fun hz0 => ?_) (fun hz0 => ?_)
      · refine lv_lload hx hb dX5_runScript_134 (lv_at hl 1 rfl) ?_
        refine lv_ldc2 (v := 1000000) hx hb hown (hts _ kl_X5_301) dX5_runScript_136 ?_
        refine m_J2L 1000000 (by decide +kernel) ?_
        refine m_ldiv (1000000) hx hb dX5_runScript_139 (by omega) (by omega) (by decide) ?_
        refine lv_lstore (lv' := [(4, .long (oL (1000000))), (6, .int (oI (0))), (0, .ref (ad (0))), (1, .int (oI (3))), (2, .long (oL (sc)))]) hx hb dX5_runScript_140 hl (by decide) rfl (fun ls hl => ?_)
        refine m_iinc (1) [(6, .int (oI (1))), (4, .long (oL (1000000))), (0, .ref (ad (0))), (1, .int (oI (3))), (2, .long (oL (sc)))] hx hb dX5_runScript_142 hl (j := 1) rfl (by omega) (by decide) rfl (fun ls hl => ?_)
        refine lv_goto (tgt := 95) hx hb dX5_runScript_145 (by decide) ?_
        refine lv_iload hx hb dX5_runScript_95 (lv_at hl 0 rfl) ?_
        refine lv_iload_n hx hb dX5_runScript_97 rfl (lv_at hl 3 rfl) ?_
        refine m_icmp_ge 148 hx hb dX5_runScript_98 (by decide) (by omega) (by omega) (fun h_21 => absurd h_21 (by omega)) (fun h_21 => ?_)
        refine lv_iload hx hb dX5_runScript_101 (lv_at hl 0 rfl) ?_
        refine m_iconst 3 hx hb dX5_runScript_103 rfl ?_
        refine m_icmp_ge 148 hx hb dX5_runScript_104 (by decide) (by omega) (by omega) (fun h_22 => absurd h_22 (by omega)) (fun h_22 => ?_)
        refine lv_aload_n hx hb dX5_runScript_107 rfl (lv_at hl 2 rfl) ?_
        refine lv_lload_n hx hb dX5_runScript_108 rfl (lv_at hl 4 rfl) ?_
        refine lv_lload hx hb dX5_runScript_109 (lv_at hl 1 rfl) ?_
        refine m_lconst 1 hx hb dX5_runScript_111 rfl ?_
        refine m_lmax (1000000) hx hb hml hl hown hts (index := 308) (hts _ (o_in0 (List.mem_of_getElem? (i := 880) (by decide +kernel)))) (Nat.le_of_ble_eq_true rfl) (Nat.le_of_ble_eq_true rfl) ⟨Nat.le_of_ble_eq_true rfl, Nat.le_of_ble_eq_true rfl⟩ (by omega) (by omega) (by omega) dX5_runScript_112 ?_
        refine m_ldiv (((sc.toNat / 1000000 : Nat) : Int)) hx hb dX5_runScript_115 (by omega) (by omega) (by omega) ?_
        refine lv_ldc2 (v := 1000000) hx hb hown (hts _ kl_X5_301) dX5_runScript_116 ?_
        refine m_J2L 1000000 (by decide +kernel) ?_
        refine m_lrem (((sc.toNat / 1000000 % 1000000 : Nat) : Int)) hx hb dX5_runScript_119 (by omega) (by omega) (by omega) ?_
        refine m_l2i hx hb dX5_runScript_120 ?_
        refine lv_aload_n hx hb dX5_runScript_121 rfl (lv_at hl 2 rfl) ?_
        refine gf_X5_copy hx hb hts hown hK hH (k := 0) (by omega) eO dX5_runScript_122 ?_
        refine m_callVi hx hb hml hown hts hK hH hl (rest := []) cw_X5_311 (c5_runGroup hA (sc.toNat / 1000000 % 1000000) 4 n10 a10 g10 s10 w10 ld0 wr0 gr0 S0 L0 ff sf (by first | assumption | omega) (by first | assumption | omega) (by first | assumption | omega) (by first | assumption | omega) (by first | assumption | omega) eO k0 k1 k2 e59 e60 e61 e62 e63) ⟨Nat.le_of_ble_eq_true rfl, Nat.le_of_ble_eq_true rfl⟩ ⟨Nat.le_of_ble_eq_true rfl, Nat.le_of_ble_eq_true rfl⟩ rfl (k := 0) (by omega) eO rfl rfl (Nat.le_of_ble_eq_true rfl) dX5_runScript_125 (fun r_26 σ_23 H locs hp_24 hH => ?_)
        obtain ⟨rt1, n11, a11, g11, s11, w11, ld1, S1, L1, wr1, gr1, rfl, hg1, hr1, hw1, ha1, k0, k1, k2, e59, e60, e61, e62, e63, hq_25⟩ := hp_24
        have eO : σ_23 (0) = .inr (5, [.ref (ad (1)), .ref (ad (4)), .ref (ad (7)), .ref (ad (10)), .int (oI (ff)), .int (oI (sf)), .ref (ad (13)), .ref (ad (57)), .ref (ad (59)), .ref (ad (64))]) := (hq_25 _ (by decide) (by decide) (by decide) (by decide) (by decide) (by decide) (by decide) (by decide)).trans eO
        have e0 : σ_23 (1) = .inr (4, [.ref (ad (2)), .ref (ad (3)), .int (oI (((n : Nat) : Int))), .int (oI (((a : Nat) : Int))), .int (oI (((g : Nat) : Int)))]) := (hq_25 _ (by decide) (by decide) (by decide) (by decide) (by decide) (by decide) (by decide) (by decide)).trans e0
        have e1 : σ_23 (2) = oAN cT 4 sz := (hq_25 _ (by decide) (by decide) (by decide) (by decide) (by decide) (by decide) (by decide) (by decide)).trans e1
        have e2 : σ_23 (3) = oAJ cT 4 w := (hq_25 _ (by decide) (by decide) (by decide) (by decide) (by decide) (by decide) (by decide) (by decide)).trans e2
        have hf : ∀ q : Nat, q ≠ 4 → q ≠ 5 → q ≠ 6 → q ≠ 59 → q ≠ 60 → q ≠ 61 → q ≠ 62 → q ≠ 63 → σ_23 q = σ q := fun q n0 n1 n2 n3 n4 n5 n6 n7 => (hq_25 q n0 n1 n2 n3 n4 n5 n6 n7).trans (hf q n0 n1 n2 n3 n4 n5 n6 n7)
        refine m_if_ne 134 hx hb dX5_runScript_128 (by decide) (by omega) (fun hz1 => ?_) (fun hz1 => ?_)
        · refine lv_lload hx hb dX5_runScript_134 (lv_at hl 1 rfl) ?_
          refine lv_ldc2 (v := 1000000) hx hb hown (hts _ kl_X5_301) dX5_runScript_136 ?_
          refine m_J2L 1000000 (by decide +kernel) ?_
          refine m_ldiv (1) hx hb dX5_runScript_139 (by omega) (by omega) (by decide) ?_
          refine lv_lstore (lv' := [(4, .long (oL (1))), (6, .int (oI (1))), (0, .ref (ad (0))), (1, .int (oI (3))), (2, .long (oL (sc)))]) hx hb dX5_runScript_140 hl (by decide) rfl (fun ls hl => ?_)
          refine m_iinc (2) [(6, .int (oI (2))), (4, .long (oL (1))), (0, .ref (ad (0))), (1, .int (oI (3))), (2, .long (oL (sc)))] hx hb dX5_runScript_142 hl (j := 1) rfl (by omega) (by decide) rfl (fun ls hl => ?_)
          refine lv_goto (tgt := 95) hx hb dX5_runScript_145 (by decide) ?_
          refine lv_iload hx hb dX5_runScript_95 (lv_at hl 0 rfl) ?_
          refine lv_iload_n hx hb dX5_runScript_97 rfl (lv_at hl 3 rfl) ?_
          refine m_icmp_ge 148 hx hb dX5_runScript_98 (by decide) (by omega) (by omega) (fun h_28 => absurd h_28 (by omega)) (fun h_28 => ?_)
          refine lv_iload hx hb dX5_runScript_101 (lv_at hl 0 rfl) ?_
          refine m_iconst 3 hx hb dX5_runScript_103 rfl ?_
          refine m_icmp_ge 148 hx hb dX5_runScript_104 (by decide) (by omega) (by omega) (fun h_29 => absurd h_29 (by omega)) (fun h_29 => ?_)
          refine lv_aload_n hx hb dX5_runScript_107 rfl (lv_at hl 2 rfl) ?_
          refine lv_lload_n hx hb dX5_runScript_108 rfl (lv_at hl 4 rfl) ?_
          refine lv_lload hx hb dX5_runScript_109 (lv_at hl 1 rfl) ?_
          refine m_lconst 1 hx hb dX5_runScript_111 rfl ?_
          refine m_lmax (1) hx hb hml hl hown hts (index := 308) (hts _ (o_in0 (List.mem_of_getElem? (i := 880) (by decide +kernel)))) (Nat.le_of_ble_eq_true rfl) (Nat.le_of_ble_eq_true rfl) ⟨Nat.le_of_ble_eq_true rfl, Nat.le_of_ble_eq_true rfl⟩ (by omega) (by omega) (by omega) dX5_runScript_112 ?_
          refine m_ldiv (((sc.toNat : Nat) : Int)) hx hb dX5_runScript_115 (by omega) (by omega) (by omega) ?_
          refine lv_ldc2 (v := 1000000) hx hb hown (hts _ kl_X5_301) dX5_runScript_116 ?_
          refine m_J2L 1000000 (by decide +kernel) ?_
          refine m_lrem (((sc.toNat % 1000000 : Nat) : Int)) hx hb dX5_runScript_119 (by omega) (by omega) (by omega) ?_
          refine m_l2i hx hb dX5_runScript_120 ?_
          refine lv_aload_n hx hb dX5_runScript_121 rfl (lv_at hl 2 rfl) ?_
          refine gf_X5_copy hx hb hts hown hK hH (k := 0) (by omega) eO dX5_runScript_122 ?_
          refine m_callVi hx hb hml hown hts hK hH hl (rest := []) cw_X5_311 (c5_runGroup hA (sc.toNat % 1000000) 4 n11 a11 g11 s11 w11 ld1 wr1 gr1 S1 L1 ff sf (by first | assumption | omega) (by first | assumption | omega) (by first | assumption | omega) (by first | assumption | omega) (by first | assumption | omega) eO k0 k1 k2 e59 e60 e61 e62 e63) ⟨Nat.le_of_ble_eq_true rfl, Nat.le_of_ble_eq_true rfl⟩ ⟨Nat.le_of_ble_eq_true rfl, Nat.le_of_ble_eq_true rfl⟩ rfl (k := 0) (by omega) eO rfl rfl (Nat.le_of_ble_eq_true rfl) dX5_runScript_125 (fun r_33 σ_30 H locs hp_31 hH => ?_)
          obtain ⟨rt2, n12, a12, g12, s12, w12, ld2, S2, L2, wr2, gr2, rfl, hg2, hr2, hw2, ha2, k0, k1, k2, e59, e60, e61, e62, e63, hq_32⟩ := hp_31
          have eO : σ_30 (0) = .inr (5, [.ref (ad (1)), .ref (ad (4)), .ref (ad (7)), .ref (ad (10)), .int (oI (ff)), .int (oI (sf)), .ref (ad (13)), .ref (ad (57)), .ref (ad (59)), .ref (ad (64))]) := (hq_32 _ (by decide) (by decide) (by decide) (by decide) (by decide) (by decide) (by decide) (by decide)).trans eO
          have e0 : σ_30 (1) = .inr (4, [.ref (ad (2)), .ref (ad (3)), .int (oI (((n : Nat) : Int))), .int (oI (((a : Nat) : Int))), .int (oI (((g : Nat) : Int)))]) := (hq_32 _ (by decide) (by decide) (by decide) (by decide) (by decide) (by decide) (by decide) (by decide)).trans e0
          have e1 : σ_30 (2) = oAN cT 4 sz := (hq_32 _ (by decide) (by decide) (by decide) (by decide) (by decide) (by decide) (by decide) (by decide)).trans e1
          have e2 : σ_30 (3) = oAJ cT 4 w := (hq_32 _ (by decide) (by decide) (by decide) (by decide) (by decide) (by decide) (by decide) (by decide)).trans e2
          have hf : ∀ q : Nat, q ≠ 4 → q ≠ 5 → q ≠ 6 → q ≠ 59 → q ≠ 60 → q ≠ 61 → q ≠ 62 → q ≠ 63 → σ_30 q = σ q := fun q n0 n1 n2 n3 n4 n5 n6 n7 => (hq_32 q n0 n1 n2 n3 n4 n5 n6 n7).trans (hf q n0 n1 n2 n3 n4 n5 n6 n7)
          refine m_if_ne 134 hx hb dX5_runScript_128 (by decide) (by omega) (fun hz2 => ?_) (fun hz2 => ?_)
          · refine lv_lload hx hb dX5_runScript_134 (lv_at hl 1 rfl) ?_
            refine lv_ldc2 (v := 1000000) hx hb hown (hts _ kl_X5_301) dX5_runScript_136 ?_
            refine m_J2L 1000000 (by decide +kernel) ?_
            refine m_ldiv (0) hx hb dX5_runScript_139 (by omega) (by omega) (by decide) ?_
            refine lv_lstore (lv' := [(4, .long (oL (0))), (6, .int (oI (2))), (0, .ref (ad (0))), (1, .int (oI (3))), (2, .long (oL (sc)))]) hx hb dX5_runScript_140 hl (by decide) rfl (fun ls hl => ?_)
            refine m_iinc (3) [(6, .int (oI (3))), (4, .long (oL (0))), (0, .ref (ad (0))), (1, .int (oI (3))), (2, .long (oL (sc)))] hx hb dX5_runScript_142 hl (j := 1) rfl (by omega) (by decide) rfl (fun ls hl => ?_)
            refine lv_goto (tgt := 95) hx hb dX5_runScript_145 (by decide) ?_
            refine lv_iload hx hb dX5_runScript_95 (lv_at hl 0 rfl) ?_
            refine lv_iload_n hx hb dX5_runScript_97 rfl (lv_at hl 3 rfl) ?_
            refine m_icmp_ge 148 hx hb dX5_runScript_98 (by decide) (by omega) (by omega) (fun h_35 => ?_) (fun h_35 => absurd h_35 (by omega))
            refine m_iconst (-1) hx hb dX5_runScript_148 rfl ?_
            exact m_iretX hx hb hlk hrt hH ⟨Nat.le_of_ble_eq_true rfl, Nat.le_of_ble_eq_true rfl⟩ (m_ni _) dX5_runScript_149 ⟨s8, w8, n12, a12, g12, s12, w12, ld2, S2, L2, wr2, gr2, congrArg oI (by rw [oGl3_3]; exact ((((oScr_go hg0 hz0).trans (oScr_go hg1 hz1)).trans (oScr_go hg2 hz2)).trans (oScr_nil _ _ _ _ _ _)).symm), (by omega), hsw, k0, k1, k2, e59, e60, e61, e62, e63, hf⟩
          · refine lv_iload hx hb dX5_runScript_131 (lv_at hl 0 rfl) ?_
            exact m_iretX hx hb hlk hrt hH ⟨Nat.le_of_ble_eq_true rfl, Nat.le_of_ble_eq_true rfl⟩ (m_ni _) dX5_runScript_133 ⟨s8, w8, n12, a12, g12, s12, w12, ld2, S2, L2, wr2, gr2, congrArg oI (by rw [oGl3_3]; exact (((oScr_go hg0 hz0).trans (oScr_go hg1 hz1)).trans (oScr_no hg2 hz2)).symm), (by omega), hsw, k0, k1, k2, e59, e60, e61, e62, e63, hf⟩
        · refine lv_iload hx hb dX5_runScript_131 (lv_at hl 0 rfl) ?_
          exact m_iretX hx hb hlk hrt hH ⟨Nat.le_of_ble_eq_true rfl, Nat.le_of_ble_eq_true rfl⟩ (m_ni _) dX5_runScript_133 ⟨s8, w8, n11, a11, g11, s11, w11, ld1, S1, L1, wr1, gr1, congrArg oI (by rw [oGl3_3]; exact ((oScr_go hg0 hz0).trans (oScr_no hg1 hz1)).symm), (by omega), hsw, k0, k1, k2, e59, e60, e61, e62, e63, hf⟩
      · refine lv_iload hx hb dX5_runScript_131 (lv_at hl 0 rfl) ?_
        exact m_iretX hx hb hlk hrt hH ⟨Nat.le_of_ble_eq_true rfl, Nat.le_of_ble_eq_true rfl⟩ (m_ni _) dX5_runScript_133 ⟨s8, w8, n10, a10, g10, s10, w10, ld0, S0, L0, wr0, gr0, congrArg oI (by rw [oGl3_3]; exact (oScr_no hg0 hz0).symm), (by omega), hsw, k0, k1, k2, e59, e60, e61, e62, e63, hf⟩
    · exact m_throwW (text := "no such script") hx hb hl0 hml hown hts hK hXT hH hl hlk hnt oth_0 (by decide) dX5_runScript_70 dX5_runScript_73 dX5_runScript_74 dX5_runScript_77 dX5_runScript_80 ⟨Nat.le_of_ble_eq_true rfl, Nat.le_of_ble_eq_true rfl⟩ (Nat.le_of_ble_eq_true rfl) ⟨Nat.le_of_ble_eq_true rfl, Nat.le_of_ble_eq_true rfl⟩ ⟨Nat.le_of_ble_eq_true rfl, Nat.le_of_ble_eq_true rfl⟩ (⟨⟨rfl, by omega⟩, rfl⟩)
set_option maxHeartbeats 4000000 in
set_option maxRecDepth 100000 in
theorem c5_runScriptX {l : Launch} {D : va_G} {cT : Nat → ClassId} {N b0 : Nat} {ad : Nat → Nat} (hA : oAd b0 N ad) {σ : Nat → va_E} (x sc : Int) (n a g : Nat) (sz w : Nat → Nat) (n6 a6 g6 : Nat) (sz6 w6 : Nat → Nat) (ld : Nat) (wr gr : Nat → Nat) (S Ln : Nat → Int) (ff sf : Int) (hl0 : l.stackTraces = false) (hN : 76 ≤ N) (hwf : oWf n sz w) (hbx : -2147483648 ≤ x ∧ x < 2147483648) (hx13 : ¬ (1 ≤ x ∧ x ≤ 3)) (eO : σ (0) = .inr (5, [.ref (ad (1)), .ref (ad (4)), .ref (ad (7)), .ref (ad (10)), .int (oI (ff)), .int (oI (sf)), .ref (ad (13)), .ref (ad (57)), .ref (ad (59)), .ref (ad (64))])) (e0 : σ (1) = .inr (4, [.ref (ad (2)), .ref (ad (3)), .int (oI (((n : Nat) : Int))), .int (oI (((a : Nat) : Int))), .int (oI (((g : Nat) : Int)))])) (e1 : σ (2) = oAN cT 4 sz) (e2 : σ (3) = oAJ cT 4 w) (k0 : σ (4) = .inr (4, [.ref (ad (5)), .ref (ad (6)), .int (oI (((n6 : Nat) : Int))), .int (oI (((a6 : Nat) : Int))), .int (oI (((g6 : Nat) : Int)))])) (k1 : σ (5) = oAN cT 4 sz6) (k2 : σ (6) = oAJ cT 4 w6) (e59 : σ (59) = .inr (3, [.ref (ad (60)), .ref (ad (61)), .int (oI (((ld : Nat) : Int))), .ref (ad (62)), .ref (ad (63))])) (e60 : σ (60) = oAI cT 201 S) (e61 : σ (61) = oAI cT 201 Ln) (e62 : σ (62) = oAJ cT 4 wr) (e63 : σ (63) = oAJ cT 4 gr) :
    oXi l D cT N ad b0 yX5_runScript cX5_runScript 7 (some .int) 6 141 1 [.ref (ad (0)), .int (oI (x)), .long (oL (sc))] σ (fun rr uu => rr = oI (((n : Nat) : Int)) ∧ (False) ∧ (∀ q : Nat, uu q = σ q)) (fun E uu => E = oIA ∧ uu = σ) := by
  refine m_startX (cc := cX5_runScript) (by decide) (Nat.le_of_ble_eq_true rfl) rfl ?_
  intro Pp Ee Ss Mm Bb Me Cc Ar ls hx hb hml hown hlk hrt hts hK hH hl hXT hnt
  have hown : Ss.vm.findClass RX5 = some Mm.cls := hown
  have hl : lv_has ls 7 [(0, .ref (ad (0))), (1, .int (oI (x))), (2, .long (oL (sc)))] := hl
  refine lv_iload_n hx hb dX5_runScript_0 rfl (lv_at hl 1 rfl) ?_
  refine m_iconst 1 hx hb dX5_runScript_1 rfl ?_
  refine m_icmp_lt 10 hx hb dX5_runScript_2 (by decide) (by omega) (by omega) (fun h_1 => ?_) (fun h_1 => ?_)
  · exact m_throwW (text := "no such number of commands") hx hb hl0 hml hown hts hK hXT hH hl hlk hnt oth_0 (by decide) dX5_runScript_10 dX5_runScript_13 dX5_runScript_14 dX5_runScript_17 dX5_runScript_20 ⟨Nat.le_of_ble_eq_true rfl, Nat.le_of_ble_eq_true rfl⟩ (Nat.le_of_ble_eq_true rfl) ⟨Nat.le_of_ble_eq_true rfl, Nat.le_of_ble_eq_true rfl⟩ ⟨Nat.le_of_ble_eq_true rfl, Nat.le_of_ble_eq_true rfl⟩ (⟨rfl, rfl⟩)
  · refine lv_iload_n hx hb dX5_runScript_5 rfl (lv_at hl 1 rfl) ?_
    refine m_iconst 3 hx hb dX5_runScript_6 rfl ?_
    refine m_icmp_le 21 hx hb dX5_runScript_7 (by decide) (by omega) (by omega) (fun h_2 => ?_) (fun h_2 => ?_)
    · exact absurd ⟨by omega, by omega⟩ hx13
    · exact m_throwW (text := "no such number of commands") hx hb hl0 hml hown hts hK hXT hH hl hlk hnt oth_0 (by decide) dX5_runScript_10 dX5_runScript_13 dX5_runScript_14 dX5_runScript_17 dX5_runScript_20 ⟨Nat.le_of_ble_eq_true rfl, Nat.le_of_ble_eq_true rfl⟩ (Nat.le_of_ble_eq_true rfl) ⟨Nat.le_of_ble_eq_true rfl, Nat.le_of_ble_eq_true rfl⟩ ⟨Nat.le_of_ble_eq_true rfl, Nat.le_of_ble_eq_true rfl⟩ (⟨rfl, rfl⟩)
set_option maxHeartbeats 4000000 in
set_option maxRecDepth 100000 in
theorem c5_simulate {l : Launch} {D : va_G} {cT : Nat → ClassId} {N b0 : Nat} {ad : Nat → Nat} (hA : oAd b0 N ad) {σ : Nat → va_E} (sd : Nat) (x : Int) (n a g : Nat) (sz w : Nat → Nat) (n6 a6 g6 : Nat) (sz6 w6 : Nat → Nat) (ld : Nat) (wr gr : Nat → Nat) (ff sf : Int) (hl0 : l.stackTraces = false) (hN : 76 ≤ N) (hwf : oWf n sz w) (hag : oAg a g) (hsd : sd < 2 ^ 64) (hbx : -2147483648 ≤ x ∧ x < 2147483648) (eO : σ (0) = .inr (5, [.ref (ad (1)), .ref (ad (4)), .ref (ad (7)), .ref (ad (10)), .int (oI (ff)), .int (oI (sf)), .ref (ad (13)), .ref (ad (57)), .ref (ad (59)), .ref (ad (64))])) (e0 : σ (1) = .inr (4, [.ref (ad (2)), .ref (ad (3)), .int (oI (((n : Nat) : Int))), .int (oI (((a : Nat) : Int))), .int (oI (((g : Nat) : Int)))])) (e1 : σ (2) = oAN cT 4 sz) (e2 : σ (3) = oAJ cT 4 w) (k0 : σ (4) = .inr (4, [.ref (ad (5)), .ref (ad (6)), .int (oI (((n6 : Nat) : Int))), .int (oI (((a6 : Nat) : Int))), .int (oI (((g6 : Nat) : Int)))])) (k1 : σ (5) = oAN cT 4 sz6) (k2 : σ (6) = oAJ cT 4 w6) (e59 : σ (59) = .inr (3, [.ref (ad (60)), .ref (ad (61)), .int (oI (((ld : Nat) : Int))), .ref (ad (62)), .ref (ad (63))])) (e62 : σ (62) = oAJ cT 4 wr) (e63 : σ (63) = oAJ cT 4 gr) :
    oXi l D cT N ad b0 yX5_simulate cX5_simulate 7 (some .int) 6 138 1 [.ref (ad (0)), .long (lN (sd)), .int (oI (x))] σ (fun rr uu => ∃ sz3 : Nat → Nat, ∃ w3 : Nat → Nat, ∃ y1 : Nat, ∃ n1 : Nat, ∃ a1 : Nat, ∃ g1 : Nat, ∃ sz1 : Nat → Nat, ∃ w1 : Nat → Nat, ∃ w2 : Nat → Nat, ∃ gr2 : Nat → Nat, rr = oI (((n1 : Nat) : Int) + 10000 * ((oAllM n1 w1 4 : Nat) : Int) + 10 * ((oCnt (oOrW n1 w1 (-1) 4) a1 g1 : Nat) : Int)) ∧ (1 ≤ x ∧ x ≤ 60) ∧ (∀ r : Nat, r < n → sz3 r = sz r ∧ w3 r = w r) ∧ (oSim sd n a g sz3 w3 x.toNat = (y1, n1, a1, g1, sz1, w1)) ∧ uu (4) = .inr (4, [.ref (ad (5)), .ref (ad (6)), .int (oI (((n1 : Nat) : Int))), .int (oI (((a1 : Nat) : Int))), .int (oI (((g1 : Nat) : Int)))]) ∧ uu (5) = oAN cT 4 sz1 ∧ uu (6) = oAJ cT 4 w1 ∧ uu (62) = oAJ cT 4 w2 ∧ uu (63) = oAJ cT 4 gr2 ∧ (∀ q : Nat, q ≠ 4 → q ≠ 5 → q ≠ 6 → q ≠ 62 → q ≠ 63 → uu q = σ q)) (fun E uu => (E = oIA ∧ ¬ (1 ≤ x ∧ x ≤ 60)) ∧ uu = σ) := by
  refine m_startX (cc := cX5_simulate) (by decide) (Nat.le_of_ble_eq_true rfl) rfl ?_
  intro Pp Ee Ss Mm Bb Me Cc Ar ls hx hb hml hown hlk hrt hts hK hH hl hXT hnt
  have hown : Ss.vm.findClass RX5 = some Mm.cls := hown
  have hn := hwf.1
  have hl : lv_has ls 7 [(0, .ref (ad (0))), (1, .long (lN (sd))), (3, .int (oI (x)))] := hl
  have hf : ∀ q : Nat, q ≠ 4 → q ≠ 5 → q ≠ 6 → q ≠ 62 → q ≠ 63 → σ q = σ q := fun q _ _ _ _ _ => rfl
  refine lv_iload_n hx hb dX5_simulate_0 rfl (lv_at hl 2 rfl) ?_
  refine m_iconst 1 hx hb dX5_simulate_1 rfl ?_
  refine m_icmp_lt 11 hx hb dX5_simulate_2 (by decide) (by omega) (by omega) (fun h_1 => ?_) (fun h_1 => ?_)
  · exact m_throwW (text := "no such number of turns") hx hb hl0 hml hown hts hK hXT hH hl hlk hnt oth_0 (by decide) dX5_simulate_11 dX5_simulate_14 dX5_simulate_15 dX5_simulate_18 dX5_simulate_21 ⟨Nat.le_of_ble_eq_true rfl, Nat.le_of_ble_eq_true rfl⟩ (Nat.le_of_ble_eq_true rfl) ⟨Nat.le_of_ble_eq_true rfl, Nat.le_of_ble_eq_true rfl⟩ ⟨Nat.le_of_ble_eq_true rfl, Nat.le_of_ble_eq_true rfl⟩ (⟨⟨rfl, by omega⟩, rfl⟩)
  · refine lv_iload_n hx hb dX5_simulate_5 rfl (lv_at hl 2 rfl) ?_
    refine m_bipush 60 hx hb dX5_simulate_6 (by decide) ?_
    refine m_icmp_le 22 hx hb dX5_simulate_8 (by decide) (by omega) (by omega) (fun h_2 => ?_) (fun h_2 => ?_)
    · refine lv_aload_n hx hb dX5_simulate_22 rfl (lv_at hl 0 rfl) ?_
      refine gf_X5_copy hx hb hts hown hK hH (k := 0) (by omega) eO dX5_simulate_23 ?_
      refine lv_aload_n hx hb dX5_simulate_26 rfl (lv_at hl 0 rfl) ?_
      refine gf_X5_present hx hb hts hown hK hH (k := 0) (by omega) eO dX5_simulate_27 ?_
      refine m_callVv hx hb hml hown hts hK hH hl (rest := []) cw_X5_305 (c4_become hA 4 n6 a6 g6 1 n a g sz6 w6 sz w (by first | assumption | omega) (by first | assumption | omega) (by first | assumption | omega) (by first | assumption | omega) k0 k1 k2 e0 e1 e2) ⟨Nat.le_of_ble_eq_true rfl, Nat.le_of_ble_eq_true rfl⟩ ⟨Nat.le_of_ble_eq_true rfl, Nat.le_of_ble_eq_true rfl⟩ rfl (k := 4) (by omega) k0 rfl rfl (Nat.le_of_ble_eq_true rfl) dX5_simulate_30 (fun σ_3 H locs hp_4 hH => ?_)
      obtain ⟨s8, w8, hsw, k0, k1, k2, hq_5⟩ := hp_4
      have eO : σ_3 (0) = .inr (5, [.ref (ad (1)), .ref (ad (4)), .ref (ad (7)), .ref (ad (10)), .int (oI (ff)), .int (oI (sf)), .ref (ad (13)), .ref (ad (57)), .ref (ad (59)), .ref (ad (64))]) := (hq_5 _ (by decide) (by decide) (by decide)).trans eO
      have e0 : σ_3 (1) = .inr (4, [.ref (ad (2)), .ref (ad (3)), .int (oI (((n : Nat) : Int))), .int (oI (((a : Nat) : Int))), .int (oI (((g : Nat) : Int)))]) := (hq_5 _ (by decide) (by decide) (by decide)).trans e0
      have e1 : σ_3 (2) = oAN cT 4 sz := (hq_5 _ (by decide) (by decide) (by decide)).trans e1
      have e2 : σ_3 (3) = oAJ cT 4 w := (hq_5 _ (by decide) (by decide) (by decide)).trans e2
      have e59 : σ_3 (59) = .inr (3, [.ref (ad (60)), .ref (ad (61)), .int (oI (((ld : Nat) : Int))), .ref (ad (62)), .ref (ad (63))]) := (hq_5 _ (by decide) (by decide) (by decide)).trans e59
      have e62 : σ_3 (62) = oAJ cT 4 wr := (hq_5 _ (by decide) (by decide) (by decide)).trans e62
      have e63 : σ_3 (63) = oAJ cT 4 gr := (hq_5 _ (by decide) (by decide) (by decide)).trans e63
      have hf : ∀ q : Nat, q ≠ 4 → q ≠ 5 → q ≠ 6 → q ≠ 62 → q ≠ 63 → σ_3 q = σ q := fun q n0 n1 n2 n3 n4 => (hq_5 q n0 n1 n2).trans (hf q n0 n1 n2 n3 n4)
      have hwf8 := hwf.congr hsw
      refine lv_lload_n hx hb dX5_simulate_33 rfl (lv_at hl 1 rfl) ?_
      refine lv_lstore (lv' := [(4, .long (lN (sd))), (0, .ref (ad (0))), (1, .long (lN (sd))), (3, .int (oI (x)))]) hx hb dX5_simulate_34 hl (by decide) rfl (fun ls hl => ?_)
      refine m_iconst 0 hx hb dX5_simulate_36 rfl ?_
      refine lv_istore (lv' := [(6, .int (oI (0))), (4, .long (lN (sd))), (0, .ref (ad (0))), (1, .long (lN (sd))), (3, .int (oI (x)))]) hx hb dX5_simulate_37 hl (by decide) rfl (fun ls hl => ?_)
      have L39 : ∀ (fu : Nat) (i : Nat) (y : Nat) (n3 : Nat) (a3 : Nat) (g3 : Nat) (s3 : Nat → Nat) (w3 : Nat → Nat), (61 - i < fu) → ((i : Int) ≤ x) → (y < 2 ^ 64) → (oSim sd n a g s8 w8 i = (y, n3, a3, g3, s3, w3)) → (oWf n3 s3 w3) → (oAg a3 g3) → ∀ σL39 : Nat → va_E, σL39 (4) = .inr (4, [.ref (ad (5)), .ref (ad (6)), .int (oI (((n3 : Nat) : Int))), .int (oI (((a3 : Nat) : Int))), .int (oI (((g3 : Nat) : Int)))]) → σL39 (5) = oAN cT 4 s3 → σL39 (6) = oAJ cT 4 w3 → (∀ q : Nat, q ≠ 4 → q ≠ 5 → q ≠ 6 → σL39 q = σ_3 q) → ∀ (H : Heap) (locs : List Loc), oH b0 D N ad Ss.heap σL39 H locs → ∀ ls : Array Slot, lv_has ls 7 [(0, .ref (ad (0))), (1, .long (lN (sd))), (3, .int (oI (x))), (4, .long (lN (y))), (6, .int (oI (((i : Nat) : Int))))] → W Pp l Ee { frames := 6, cells := 1, slots := 6 * 1, locals := 138 } Ss Mm Ar Bb Me Cc H locs 0 0 (vx_MQ Bb (va_Qi (fun rr uu => ∃ sz3 : Nat → Nat, ∃ w3 : Nat → Nat, ∃ y1 : Nat, ∃ n1 : Nat, ∃ a1 : Nat, ∃ g1 : Nat, ∃ sz1 : Nat → Nat, ∃ w1 : Nat → Nat, ∃ w2 : Nat → Nat, ∃ gr2 : Nat → Nat, rr = oI (((n1 : Nat) : Int) + 10000 * ((oAllM n1 w1 4 : Nat) : Int) + 10 * ((oCnt (oOrW n1 w1 (-1) 4) a1 g1 : Nat) : Int)) ∧ (1 ≤ x ∧ x ≤ 60) ∧ (∀ r : Nat, r < n → sz3 r = sz r ∧ w3 r = w r) ∧ (oSim sd n a g sz3 w3 x.toNat = (y1, n1, a1, g1, sz1, w1)) ∧ uu (4) = .inr (4, [.ref (ad (5)), .ref (ad (6)), .int (oI (((n1 : Nat) : Int))), .int (oI (((a1 : Nat) : Int))), .int (oI (((g1 : Nat) : Int)))]) ∧ uu (5) = oAN cT 4 sz1 ∧ uu (6) = oAJ cT 4 w1 ∧ uu (62) = oAJ cT 4 w2 ∧ uu (63) = oAJ cT 4 gr2 ∧ (∀ q : Nat, q ≠ 4 → q ≠ 5 → q ≠ 6 → q ≠ 62 → q ≠ 63 → uu q = σ q)) (oV D N ad) (fun q => b0 ≤ q)) (oXC b0 D N ad (fun E uu => (E = oIA ∧ ¬ (1 ≤ x ∧ x ≤ 60)) ∧ uu = σ)) Ar Ss 1 (6 * 1) (fun q => b0 ≤ q)) (F0 Mm 39 ls []) := by
        intro fu39
        induction fu39 with
        | zero =>
          intro i y n3 a3 g3 s3 w3 hm39
          exact absurd hm39 (Nat.not_lt_zero _)
        | succ fu39 ih39 =>
          intro i y n3 a3 g3 s3 w3 hm39 hi hy hsim hwf3 hag3 σL39 k0 k1 k2 hL39 H locs hH ls hl
          have eO : σL39 (0) = .inr (5, [.ref (ad (1)), .ref (ad (4)), .ref (ad (7)), .ref (ad (10)), .int (oI (ff)), .int (oI (sf)), .ref (ad (13)), .ref (ad (57)), .ref (ad (59)), .ref (ad (64))]) := (hL39 _ (by decide) (by decide) (by decide)).trans eO
          have e0 : σL39 (1) = .inr (4, [.ref (ad (2)), .ref (ad (3)), .int (oI (((n : Nat) : Int))), .int (oI (((a : Nat) : Int))), .int (oI (((g : Nat) : Int)))]) := (hL39 _ (by decide) (by decide) (by decide)).trans e0
          have e1 : σL39 (2) = oAN cT 4 sz := (hL39 _ (by decide) (by decide) (by decide)).trans e1
          have e2 : σL39 (3) = oAJ cT 4 w := (hL39 _ (by decide) (by decide) (by decide)).trans e2
          have e59 : σL39 (59) = .inr (3, [.ref (ad (60)), .ref (ad (61)), .int (oI (((ld : Nat) : Int))), .ref (ad (62)), .ref (ad (63))]) := (hL39 _ (by decide) (by decide) (by decide)).trans e59
          have e62 : σL39 (62) = oAJ cT 4 wr := (hL39 _ (by decide) (by decide) (by decide)).trans e62
          have e63 : σL39 (63) = oAJ cT 4 gr := (hL39 _ (by decide) (by decide) (by decide)).trans e63
          have hf : ∀ q : Nat, q ≠ 4 → q ≠ 5 → q ≠ 6 → q ≠ 62 → q ≠ 63 → σL39 q = σ q := fun q n0 n1 n2 n3 n4 => (hL39 q n0 n1 n2).trans (hf q n0 n1 n2 n3 n4)
          refine lv_iload hx hb dX5_simulate_39 (lv_at hl 4 rfl) ?_
          refine lv_iload_n hx hb dX5_simulate_41 rfl (lv_at hl 2 rfl) ?_
          refine m_icmp_ge 83 hx hb dX5_simulate_42 (by decide) (by omega) (by omega) (fun h_7 => ?_) (fun h_7 => ?_)
          · refine m_sipush 10000 hx hb dX5_simulate_83 (by decide) ?_
            refine lv_aload_n hx hb dX5_simulate_86 rfl (lv_at hl 0 rfl) ?_
            refine gf_X5_copy hx hb hts hown hK hH (k := 0) (by omega) eO dX5_simulate_87 ?_
            have hal := oAllM_le n3 w3 4
            have hcl := oCnt_le (oOrW n3 w3 (-1) 4) a3 g3
            have hn34 := hwf3.1
            have hg31 := hag3.2
            refine m_pVi hx hb hml hown hts hK hH hl (rest := [.int (oI (10000))]) cw_X5_101 (c4_allMarks hA 4 n3 a3 g3 s3 w3 (by first | assumption | omega) (by first | assumption | omega) k0 k1 k2) ⟨Nat.le_of_ble_eq_true rfl, Nat.le_of_ble_eq_true rfl⟩ ⟨Nat.le_of_ble_eq_true rfl, Nat.le_of_ble_eq_true rfl⟩ rfl (k := 4) (by omega) k0 rfl rfl (Nat.le_of_ble_eq_true rfl) dX5_simulate_90 (fun H locs hH => ?_)
            refine m_imul (10000 * ((oAllM n3 w3 4 : Nat) : Int)) hx hb dX5_simulate_93 (by omega) ?_
            refine m_bipush 10 hx hb dX5_simulate_94 (by decide) ?_
            refine lv_aload_n hx hb dX5_simulate_96 rfl (lv_at hl 0 rfl) ?_
            refine lv_aload_n hx hb dX5_simulate_97 rfl (lv_at hl 0 rfl) ?_
            refine gf_X5_copy hx hb hts hown hK hH (k := 0) (by omega) eO dX5_simulate_98 ?_
            refine m_callVi hx hb hml hown hts hK hH hl (rest := [.int (oI (10)), .int (oI (10000 * ((oAllM n3 w3 4 : Nat) : Int)))]) cw_X5_120 (c5_laidLengths hA 4 n3 a3 g3 s3 w3 ld wr gr ff sf (by first | assumption | omega) (by first | assumption | omega) (by first | assumption | omega) (by first | assumption | omega) eO k0 k1 k2 e59 e62 e63) ⟨Nat.le_of_ble_eq_true rfl, Nat.le_of_ble_eq_true rfl⟩ ⟨Nat.le_of_ble_eq_true rfl, Nat.le_of_ble_eq_true rfl⟩ rfl (k := 0) (by omega) eO rfl rfl (Nat.le_of_ble_eq_true rfl) dX5_simulate_101 (fun r_11 σ_8 H locs hp_9 hH => ?_)
            obtain ⟨w5, gr5, rfl, hX5, e62, e63, hq_10⟩ := hp_9
            have eO : σ_8 (0) = .inr (5, [.ref (ad (1)), .ref (ad (4)), .ref (ad (7)), .ref (ad (10)), .int (oI (ff)), .int (oI (sf)), .ref (ad (13)), .ref (ad (57)), .ref (ad (59)), .ref (ad (64))]) := (hq_10 _ (by decide) (by decide)).trans eO
            have e0 : σ_8 (1) = .inr (4, [.ref (ad (2)), .ref (ad (3)), .int (oI (((n : Nat) : Int))), .int (oI (((a : Nat) : Int))), .int (oI (((g : Nat) : Int)))]) := (hq_10 _ (by decide) (by decide)).trans e0
            have e1 : σ_8 (2) = oAN cT 4 sz := (hq_10 _ (by decide) (by decide)).trans e1
            have e2 : σ_8 (3) = oAJ cT 4 w := (hq_10 _ (by decide) (by decide)).trans e2
            have k0 : σ_8 (4) = .inr (4, [.ref (ad (5)), .ref (ad (6)), .int (oI (((n3 : Nat) : Int))), .int (oI (((a3 : Nat) : Int))), .int (oI (((g3 : Nat) : Int)))]) := (hq_10 _ (by decide) (by decide)).trans k0
            have k1 : σ_8 (5) = oAN cT 4 s3 := (hq_10 _ (by decide) (by decide)).trans k1
            have k2 : σ_8 (6) = oAJ cT 4 w3 := (hq_10 _ (by decide) (by decide)).trans k2
            have e59 : σ_8 (59) = .inr (3, [.ref (ad (60)), .ref (ad (61)), .int (oI (((ld : Nat) : Int))), .ref (ad (62)), .ref (ad (63))]) := (hq_10 _ (by decide) (by decide)).trans e59
            have hf : ∀ q : Nat, q ≠ 4 → q ≠ 5 → q ≠ 6 → q ≠ 62 → q ≠ 63 → σ_8 q = σ q := fun q n0 n1 n2 n3 n4 => (hq_10 q n3 n4).trans (hf q n0 n1 n2 n3 n4)
            refine m_imul (10 * ((oCnt (oOrW n3 w3 (-1) 4) a3 g3 : Nat) : Int)) hx hb dX5_simulate_104 (by omega) ?_
            refine m_iadd (10000 * ((oAllM n3 w3 4 : Nat) : Int) + 10 * ((oCnt (oOrW n3 w3 (-1) 4) a3 g3 : Nat) : Int)) hx hb dX5_simulate_105 (by omega) ?_
            refine lv_aload_n hx hb dX5_simulate_106 rfl (lv_at hl 0 rfl) ?_
            refine gf_X5_copy hx hb hts hown hK hH (k := 0) (by omega) eO dX5_simulate_107 ?_
            refine m_pVi hx hb hml hown hts hK hH hl (rest := [.int (oI (10000 * ((oAllM n3 w3 4 : Nat) : Int) + 10 * ((oCnt (oOrW n3 w3 (-1) 4) a3 g3 : Nat) : Int)))]) cw_X5_98 (c4_rulers hA 4 n3 a3 g3 s3 w3 (by first | assumption | omega) k0 k1 k2) ⟨Nat.le_of_ble_eq_true rfl, Nat.le_of_ble_eq_true rfl⟩ ⟨Nat.le_of_ble_eq_true rfl, Nat.le_of_ble_eq_true rfl⟩ rfl (k := 4) (by omega) k0 rfl rfl (Nat.le_of_ble_eq_true rfl) dX5_simulate_110 (fun H locs hH => ?_)
            refine m_iadd (((n3 : Nat) : Int) + 10000 * ((oAllM n3 w3 4 : Nat) : Int) + 10 * ((oCnt (oOrW n3 w3 (-1) 4) a3 g3 : Nat) : Int)) hx hb dX5_simulate_113 (by omega) ?_
            exact m_iretX hx hb hlk hrt hH ⟨Nat.le_of_ble_eq_true rfl, Nat.le_of_ble_eq_true rfl⟩ (m_ni _) dX5_simulate_114 ⟨s8, w8, y, n3, a3, g3, s3, w3, w5, gr5, congrArg oI (by omega), (by omega), hsw, (by rw [show x.toNat = i by omega]; exact hsim), k0, k1, k2, e62, e63, hf⟩
          · refine lv_iload hx hb dX5_simulate_45 (lv_at hl 4 rfl) ?_
            refine m_bipush 60 hx hb dX5_simulate_47 (by decide) ?_
            refine m_icmp_ge 83 hx hb dX5_simulate_49 (by decide) (by omega) (by omega) (fun h_12 => absurd h_12 (by omega)) (fun h_12 => ?_)
            refine lv_lload hx hb dX5_simulate_52 (lv_at hl 3 rfl) ?_
            refine lv_ldc2 (v := 6364136223846793005) hx hb hown (hts _ kl_X5_317) dX5_simulate_54 ?_
            refine m_J2N 6364136223846793005 (by decide +kernel) ?_
            refine m_lmulN (y * 6364136223846793005) hx hb dX5_simulate_57 (rfl) ?_
            refine lv_ldc2 (v := 1442695040888963407) hx hb hown (hts _ kl_X5_319) dX5_simulate_58 ?_
            refine m_J2N 1442695040888963407 (by decide +kernel) ?_
            obtain ⟨z9, hz9⟩ : ∃ z : Nat, oEq ((y * 6364136223846793005 + 1442695040888963407) % 2 ^ 64) z := ⟨(y * 6364136223846793005 + 1442695040888963407) % 2 ^ 64, Eq.refl ((y * 6364136223846793005 + 1442695040888963407) % 2 ^ 64)⟩
            have hz964 : z9 < 2 ^ 64 := by rw [← (show (y * 6364136223846793005 + 1442695040888963407) % 2 ^ 64 = z9 from hz9)]; exact Nat.mod_lt _ (Nat.pow_pos (by decide))
            have hq31 : z9 / 2 ^ 33 < 2147483648 := Nat.div_lt_of_lt_mul (Nat.lt_of_lt_of_le hz964 (by decide))
            refine m_laddN ((y * 6364136223846793005) + 1442695040888963407) hx hb dX5_simulate_61 (rfl) ?_
            refine m_topM (z9) (hz9) ?_
            refine lv_lstore (lv' := [(4, .long (lN (z9))), (0, .ref (ad (0))), (1, .long (lN (sd))), (3, .int (oI (x))), (6, .int (oI (((i : Nat) : Int))))]) hx hb dX5_simulate_62 hl (by decide) rfl (fun ls hl => ?_)
            refine lv_lload hx hb dX5_simulate_64 (lv_at hl 0 rfl) ?_
            refine m_bipush 33 hx hb dX5_simulate_66 (by decide) ?_
            refine m_lushr (z9 / 2 ^ 33) hx hb dX5_simulate_68 (hz964) (by omega) (by rw [show (33 : Int).toNat = 33 by omega]) ?_
            refine m_l2iN hx hb dX5_simulate_69 ?_
            refine lv_aload_n hx hb dX5_simulate_70 rfl (lv_at hl 1 rfl) ?_
            refine gf_X5_copy hx hb hts hown hK hH (k := 0) (by omega) eO dX5_simulate_71 ?_
            refine m_callSv hx hb hml hown hts hK hH hl (rest := []) cw_X5_321 rfl (c5_takeTurn hA (z9 / 2 ^ 33) 4 n3 a3 g3 s3 w3 (by first | assumption | omega) (by first | assumption | omega) (by first | assumption | omega) (by first | assumption | omega) (by first | assumption | omega) k0 k1 k2) ⟨Nat.le_of_ble_eq_true rfl, Nat.le_of_ble_eq_true rfl⟩ ⟨Nat.le_of_ble_eq_true rfl, Nat.le_of_ble_eq_true rfl⟩ rfl rfl (Nat.le_of_ble_eq_true rfl) dX5_simulate_74 (fun σ_13 H locs hp_14 hH => ?_)
            obtain ⟨n4, a5, g4, s4, w4, hat, hwf4, hag4, k0, k1, k2, hq_15⟩ := hp_14
            have eO : σ_13 (0) = .inr (5, [.ref (ad (1)), .ref (ad (4)), .ref (ad (7)), .ref (ad (10)), .int (oI (ff)), .int (oI (sf)), .ref (ad (13)), .ref (ad (57)), .ref (ad (59)), .ref (ad (64))]) := (hq_15 _ (by decide) (by decide) (by decide)).trans eO
            have e0 : σ_13 (1) = .inr (4, [.ref (ad (2)), .ref (ad (3)), .int (oI (((n : Nat) : Int))), .int (oI (((a : Nat) : Int))), .int (oI (((g : Nat) : Int)))]) := (hq_15 _ (by decide) (by decide) (by decide)).trans e0
            have e1 : σ_13 (2) = oAN cT 4 sz := (hq_15 _ (by decide) (by decide) (by decide)).trans e1
            have e2 : σ_13 (3) = oAJ cT 4 w := (hq_15 _ (by decide) (by decide) (by decide)).trans e2
            have e59 : σ_13 (59) = .inr (3, [.ref (ad (60)), .ref (ad (61)), .int (oI (((ld : Nat) : Int))), .ref (ad (62)), .ref (ad (63))]) := (hq_15 _ (by decide) (by decide) (by decide)).trans e59
            have e62 : σ_13 (62) = oAJ cT 4 wr := (hq_15 _ (by decide) (by decide) (by decide)).trans e62
            have e63 : σ_13 (63) = oAJ cT 4 gr := (hq_15 _ (by decide) (by decide) (by decide)).trans e63
            have hf : ∀ q : Nat, q ≠ 4 → q ≠ 5 → q ≠ 6 → q ≠ 62 → q ≠ 63 → σ_13 q = σ q := fun q n0 n1 n2 n3 n4 => (hq_15 q n0 n1 n2).trans (hf q n0 n1 n2 n3 n4)
            have hL39 : ∀ q : Nat, q ≠ 4 → q ≠ 5 → q ≠ 6 → σ_13 q = σ_3 q := fun q n0 n1 n2 => (hq_15 q n0 n1 n2).trans (hL39 q n0 n1 n2)
            refine m_iinc (((i : Nat) : Int) + 1) [(6, .int (oI (((i : Nat) : Int) + 1))), (4, .long (lN (z9))), (0, .ref (ad (0))), (1, .long (lN (sd))), (3, .int (oI (x)))] hx hb dX5_simulate_77 hl (j := 4) rfl (by omega) (by decide) rfl (fun ls hl => ?_)
            refine lv_goto (tgt := 39) hx hb dX5_simulate_80 (by decide) ?_
            exact ih39 (i + 1) z9 n4 a5 g4 s4 w4 (by omega) (by first | assumption | omega) (hz964) (oSim_s hsim hz9 hat) (by first | assumption | omega) (by first | assumption | omega) _ k0 k1 k2 (hL39) _ _ hH ls (lv_sub hl [2, 3, 4, 1, 0] rfl)
      exact L39 _ 0 sd n a g s8 w8 (Nat.lt_succ_self _) (by first | assumption | omega) (hsd) (rfl) (hwf8) (by first | assumption | omega) _ k0 k1 k2 (fun q _ _ _ => rfl) _ _ hH ls (lv_sub hl [2, 3, 4, 1, 0] rfl)
    · exact m_throwW (text := "no such number of turns") hx hb hl0 hml hown hts hK hXT hH hl hlk hnt oth_0 (by decide) dX5_simulate_11 dX5_simulate_14 dX5_simulate_15 dX5_simulate_18 dX5_simulate_21 ⟨Nat.le_of_ble_eq_true rfl, Nat.le_of_ble_eq_true rfl⟩ (Nat.le_of_ble_eq_true rfl) ⟨Nat.le_of_ble_eq_true rfl, Nat.le_of_ble_eq_true rfl⟩ ⟨Nat.le_of_ble_eq_true rfl, Nat.le_of_ble_eq_true rfl⟩ (⟨⟨rfl, by omega⟩, rfl⟩)
