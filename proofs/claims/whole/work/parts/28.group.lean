set_option maxHeartbeats 4000000 in
set_option maxRecDepth 100000 in
theorem c5_runGroup {l : Launch} {D : va_G} {cT : Nat → ClassId} {N b0 : Nat} {ad : Nat → Nat} (hA : oAd b0 N ad) {σ : Nat → va_E} (x : Nat) (j n a g : Nat) (sz w : Nat → Nat) (ld : Nat) (wr gr : Nat → Nat) (S Ln : Nat → Int) (ff sf : Int) (hN : 76 ≤ N) (hj3 : 1 ≤ j ∧ j + 2 ≤ 12) (hwf : oWf n sz w) (hag : oAg a g) (hx6 : x < 1000000) (eO : σ (0) = .inr (5, [.ref (ad (1)), .ref (ad (4)), .ref (ad (7)), .ref (ad (10)), .int (oI (ff)), .int (oI (sf)), .ref (ad (13)), .ref (ad (57)), .ref (ad (59)), .ref (ad (64))])) (e0 : σ (j) = .inr (4, [.ref (ad (j + 1)), .ref (ad (j + 2)), .int (oI (((n : Nat) : Int))), .int (oI (((a : Nat) : Int))), .int (oI (((g : Nat) : Int)))])) (e1 : σ (j + 1) = oAN cT 4 sz) (e2 : σ (j + 2) = oAJ cT 4 w) (e59 : σ (59) = .inr (3, [.ref (ad (60)), .ref (ad (61)), .int (oI (((ld : Nat) : Int))), .ref (ad (62)), .ref (ad (63))])) (e60 : σ (60) = oAI cT 201 S) (e61 : σ (61) = oAI cT 201 Ln) (e62 : σ (62) = oAJ cT 4 wr) (e63 : σ (63) = oAJ cT 4 gr) :
    oCi l D cT N ad b0 yX5_runGroup cX5_runGroup 6 (some .boolean) 5 116 [.ref (ad (0)), .int (oI (((x : Nat) : Int))), .ref (ad (j))] σ (fun rr uu => ∃ rt : Int, ∃ n1 : Nat, ∃ a1 : Nat, ∃ g1 : Nat, ∃ sz1 : Nat → Nat, ∃ w1 : Nat → Nat, ∃ ld2 : Nat, ∃ S2 : Nat → Int, ∃ Ln2 : Nat → Int, ∃ w2 : Nat → Nat, ∃ gr2 : Nat → Nat, rr = oI (rt) ∧ (oGrp x n a g sz w = (rt, n1, a1, g1, sz1, w1)) ∧ (rt = 0 ∨ rt = 1) ∧ (oWf n1 sz1 w1) ∧ (oAg a1 g1) ∧ uu (j) = .inr (4, [.ref (ad (j + 1)), .ref (ad (j + 2)), .int (oI (((n1 : Nat) : Int))), .int (oI (((a1 : Nat) : Int))), .int (oI (((g1 : Nat) : Int)))]) ∧ uu (j + 1) = oAN cT 4 sz1 ∧ uu (j + 2) = oAJ cT 4 w1 ∧ uu (59) = .inr (3, [.ref (ad (60)), .ref (ad (61)), .int (oI (((ld2 : Nat) : Int))), .ref (ad (62)), .ref (ad (63))]) ∧ uu (60) = oAI cT 201 S2 ∧ uu (61) = oAI cT 201 Ln2 ∧ uu (62) = oAJ cT 4 w2 ∧ uu (63) = oAJ cT 4 gr2 ∧ (∀ q : Nat, q ≠ j → q ≠ (j + 1) → q ≠ (j + 2) → q ≠ 59 → q ≠ 60 → q ≠ 61 → q ≠ 62 → q ≠ 63 → uu q = σ q)) := by
  refine m_start (cc := cX5_runGroup) (by decide) (Nat.le_of_ble_eq_true rfl) rfl ?_
  intro Pp Ee Ss Mm Bb Me Cc Ar ls hx hb hml hown hlk hrt hts hK hH hl
  have hown : Ss.vm.findClass RX5 = some Mm.cls := hown
  have hj : j + 2 < N := by omega
  have hs64 := oOrW_64 n w (-1) 4
  have ha6 := hag.1
  have hg150 := hag.2
  have hcl := oCnt_le (oOrW n w (-1) 4) a g
  have hgl := oGaps_le (oOrW n w (-1) 4) a g
  have q0 := oMd_lt x (k := 100) (by decide)
  have q1 := oMd_lt x (k := 10) (by decide)
  have q2 := oMd_lt x (k := 1000) (by decide)
  have q3 := oMd_lt x (k := 10000) (by decide)
  have q4 := oMd_lt (oDv x 10000) (k := 10) (by decide)
  have q5 := oMd_lt (oDv x 100) (k := 100) (by decide)
  have q6 := oMd_lt (oDv x 100) (k := 1000) (by decide)
  have q7 := oMd_lt (oDv x 10) (k := 10) (by decide)
  have q8 := oMd_lt (oDv x 10) (k := 1000) (by decide)
  have q9 := oMd_lt (oDv x 1000) (k := 10) (by decide)
  have q10 := oMd_lt (oDv x 1000) (k := 100) (by decide)
  have v0 : oDv x 100000 < 1000000 := Nat.lt_of_le_of_lt (Nat.div_le_self _ _) hx6
  have v1 : oDv x 10000 < 1000000 := Nat.lt_of_le_of_lt (Nat.div_le_self _ _) hx6
  have v2 : oDv x 1000 < 1000000 := Nat.lt_of_le_of_lt (Nat.div_le_self _ _) hx6
  have v3 : oDv x 100 < 1000000 := Nat.lt_of_le_of_lt (Nat.div_le_self _ _) hx6
  have v4 : oDv x 10 < 1000000 := Nat.lt_of_le_of_lt (Nat.div_le_self _ _) hx6
  have hl : lv_has ls 6 [(0, .ref (ad (0))), (1, .int (oI (((x : Nat) : Int)))), (2, .ref (ad (j)))] := hl
  have hf : ∀ q : Nat, q ≠ j → q ≠ (j + 1) → q ≠ (j + 2) → q ≠ 59 → q ≠ 60 → q ≠ 61 → q ≠ 62 → q ≠ 63 → σ q = σ q := fun q _ _ _ _ _ _ _ _ => rfl
  refine lv_iload_n hx hb dX5_runGroup_0 rfl (lv_at hl 1 rfl) ?_
  refine lv_ldcw (v := 100000) hx hb hown (hts _ kl_X5_325) dX5_runGroup_1 ?_
  refine m_i2I 100000 (by decide +kernel) ?_
  refine m_idiv (((oDv x 100000 : Nat) : Int)) hx hb dX5_runGroup_4 (by omega) (by omega) (by first | rfl | (unfold oDv; omega)) ?_
  refine lv_istore_n (lv' := [(3, .int (oI (((oDv x 100000 : Nat) : Int)))), (0, .ref (ad (0))), (1, .int (oI (((x : Nat) : Int)))), (2, .ref (ad (j)))]) hx hb dX5_runGroup_5 rfl hl (by decide) rfl (fun ls hl => ?_)
  refine lv_iload_n hx hb dX5_runGroup_6 rfl (lv_at hl 2 rfl) ?_
  refine m_sipush 10000 hx hb dX5_runGroup_7 (by decide) ?_
  refine m_idiv (((oDv x 10000 : Nat) : Int)) hx hb dX5_runGroup_10 (by omega) (by omega) (by first | rfl | (unfold oDv; omega)) ?_
  refine m_bipush 10 hx hb dX5_runGroup_11 (by decide) ?_
  refine m_irem (((oMd (oDv x 10000) 10 : Nat) : Int)) hx hb dX5_runGroup_13 (by omega) (by omega) (by first | rfl | (unfold oMd; omega)) ?_
  refine lv_istore (lv' := [(4, .int (oI (((oMd (oDv x 10000) 10 : Nat) : Int)))), (3, .int (oI (((oDv x 100000 : Nat) : Int)))), (0, .ref (ad (0))), (1, .int (oI (((x : Nat) : Int)))), (2, .ref (ad (j)))]) hx hb dX5_runGroup_14 hl (by decide) rfl (fun ls hl => ?_)
  refine lv_iload_n hx hb dX5_runGroup_16 rfl (lv_at hl 3 rfl) ?_
  refine m_bipush 10 hx hb dX5_runGroup_17 (by decide) ?_
  refine m_irem (((oMd x 10 : Nat) : Int)) hx hb dX5_runGroup_19 (by omega) (by omega) (by first | rfl | (unfold oMd; omega)) ?_
  refine lv_istore (lv' := [(5, .int (oI (((oMd x 10 : Nat) : Int)))), (4, .int (oI (((oMd (oDv x 10000) 10 : Nat) : Int)))), (3, .int (oI (((oDv x 100000 : Nat) : Int)))), (0, .ref (ad (0))), (1, .int (oI (((x : Nat) : Int)))), (2, .ref (ad (j)))]) hx hb dX5_runGroup_20 hl (by decide) rfl (fun ls hl => ?_)
  refine lv_iload_n hx hb dX5_runGroup_22 rfl (lv_at hl 2 rfl) ?_
  rcases (show (((oDv x 100000 : Nat) : Int) : Int) = 1 ∨ (((oDv x 100000 : Nat) : Int) : Int) = 2 ∨ (((oDv x 100000 : Nat) : Int) : Int) = 3 ∨ (((oDv x 100000 : Nat) : Int) : Int) = 4 ∨ (((oDv x 100000 : Nat) : Int) : Int) = 5 ∨ (((oDv x 100000 : Nat) : Int) : Int) = 6 ∨ (((oDv x 100000 : Nat) : Int) : Int) = 7 ∨ (((oDv x 100000 : Nat) : Int) : Int) = 8 ∨ (((oDv x 100000 : Nat) : Int) : Int) = 9 ∨ ((((oDv x 100000 : Nat) : Int) : Int) < 1 ∨ 9 < (((oDv x 100000 : Nat) : Int) : Int)) by omega) with hm | hm | hm | hm | hm | hm | hm | hm | hm | hm
  · refine m_tabIn 72 hx hb dX5_runGroup_23 (by omega) (by omega) (by rw [hm]; rfl) (by decide) ?_
    refine lv_iload_n hx hb dX5_runGroup_72 rfl (lv_at hl 4 rfl) ?_
    refine m_bipush 100 hx hb dX5_runGroup_73 (by decide) ?_
    refine m_idiv (((oDv x 100 : Nat) : Int)) hx hb dX5_runGroup_75 (by omega) (by omega) (by first | rfl | (unfold oDv; omega)) ?_
    refine m_sipush 1000 hx hb dX5_runGroup_76 (by decide) ?_
    refine m_irem (((oMd (oDv x 100) 1000 : Nat) : Int)) hx hb dX5_runGroup_79 (by omega) (by omega) (by first | rfl | (unfold oMd; omega)) ?_
    refine m_if_ne 101 hx hb dX5_runGroup_80 (by decide) (by omega) (fun h_1 => ?_) (fun h_1 => ?_)
    · refine m_iconst 0 hx hb dX5_runGroup_101 rfl ?_
      exact m_iret hx hb hlk hrt hH m_z0 dX5_runGroup_102 ⟨0, n, a, g, sz, w, ld, S, Ln, wr, gr, rfl, (by unfold oGrp; rw [if_pos (by omega), if_neg (by omega)]), (by omega), hwf, hag, e0, e1, e2, e59, e60, e61, e62, e63, hf⟩
    · refine lv_aload_n hx hb dX5_runGroup_83 rfl (lv_at hl 5 rfl) ?_
      refine m_iconst 1 hx hb dX5_runGroup_84 rfl ?_
      refine lv_iload_n hx hb dX5_runGroup_85 rfl (lv_at hl 4 rfl) ?_
      refine m_bipush 100 hx hb dX5_runGroup_86 (by decide) ?_
      refine m_irem (((oMd x 100 : Nat) : Int)) hx hb dX5_runGroup_88 (by omega) (by omega) (by first | rfl | (unfold oMd; omega)) ?_
      refine m_iconst 0 hx hb dX5_runGroup_89 rfl ?_
      refine m_iconst 0 hx hb dX5_runGroup_90 rfl ?_
      refine m_callVi hx hb hml hown hts hK hH hl (rest := []) cw_X5_326 (c4_attG hA j n a g sz w 1 ((oMd x 100 : Nat) : Int) 0 0 (by first | assumption | omega) (by first | assumption | omega) (by first | assumption | omega) (by first | assumption | omega) (by first | assumption | omega) (by first | assumption | omega) (by first | assumption | omega) e0 e1 e2) ⟨Nat.le_of_ble_eq_true rfl, Nat.le_of_ble_eq_true rfl⟩ ⟨Nat.le_of_ble_eq_true rfl, Nat.le_of_ble_eq_true rfl⟩ rfl (k := j) (by omega) e0 rfl rfl (Nat.le_of_ble_eq_true rfl) dX5_runGroup_91 (fun r_5 σ_2 H locs hp_3 hH => ?_)
      obtain ⟨rt, n4, a5, g4, s4, w4, rfl, hat, hrt4, hwf4, hag4, e0, e1, e2, hq_4⟩ := hp_3
      have eO : σ_2 (0) = .inr (5, [.ref (ad (1)), .ref (ad (4)), .ref (ad (7)), .ref (ad (10)), .int (oI (ff)), .int (oI (sf)), .ref (ad (13)), .ref (ad (57)), .ref (ad (59)), .ref (ad (64))]) := (hq_4 _ (by omega) (by omega) (by omega)).trans eO
      have e59 : σ_2 (59) = .inr (3, [.ref (ad (60)), .ref (ad (61)), .int (oI (((ld : Nat) : Int))), .ref (ad (62)), .ref (ad (63))]) := (hq_4 _ (by omega) (by omega) (by omega)).trans e59
      have e60 : σ_2 (60) = oAI cT 201 S := (hq_4 _ (by omega) (by omega) (by omega)).trans e60
      have e61 : σ_2 (61) = oAI cT 201 Ln := (hq_4 _ (by omega) (by omega) (by omega)).trans e61
      have e62 : σ_2 (62) = oAJ cT 4 wr := (hq_4 _ (by omega) (by omega) (by omega)).trans e62
      have e63 : σ_2 (63) = oAJ cT 4 gr := (hq_4 _ (by omega) (by omega) (by omega)).trans e63
      have hf : ∀ q : Nat, q ≠ j → q ≠ (j + 1) → q ≠ (j + 2) → q ≠ 59 → q ≠ 60 → q ≠ 61 → q ≠ 62 → q ≠ 63 → σ_2 q = σ q := fun q n0 n1 n2 n3 n4 n5 n6 n7 => (hq_4 q n0 n1 n2).trans (hf q n0 n1 n2 n3 n4 n5 n6 n7)
      refine m_if_eq 101 hx hb dX5_runGroup_94 (by decide) (by omega) (fun h_6 => ?_) (fun h_6 => ?_)
      · refine m_iconst 0 hx hb dX5_runGroup_101 rfl ?_
        exact m_iret hx hb hlk hrt hH m_z0 dX5_runGroup_102 ⟨0, n4, a5, g4, s4, w4, ld, S, Ln, wr, gr, rfl, (by unfold oGrp; rw [if_pos (by omega), if_pos (by omega)]; exact hat.trans (by rw [show rt = 0 by omega])), (by omega), hwf4, hag4, e0, e1, e2, e59, e60, e61, e62, e63, hf⟩
      · refine m_iconst 1 hx hb dX5_runGroup_97 rfl ?_
        refine lv_goto (tgt := 102) hx hb dX5_runGroup_98 (by decide) ?_
        exact m_iret hx hb hlk hrt hH m_z1 dX5_runGroup_102 ⟨1, n4, a5, g4, s4, w4, ld, S, Ln, wr, gr, rfl, (by unfold oGrp; rw [if_pos (by omega), if_pos (by omega)]; exact hat.trans (by rw [show rt = 1 by omega])), (by omega), hwf4, hag4, e0, e1, e2, e59, e60, e61, e62, e63, hf⟩
  · refine m_tabIn 103 hx hb dX5_runGroup_23 (by omega) (by omega) (by rw [hm]; rfl) (by decide) ?_
    refine lv_iload_n hx hb dX5_runGroup_103 rfl (lv_at hl 4 rfl) ?_
    refine m_bipush 10 hx hb dX5_runGroup_104 (by decide) ?_
    refine m_idiv (((oDv x 10 : Nat) : Int)) hx hb dX5_runGroup_106 (by omega) (by omega) (by first | rfl | (unfold oDv; omega)) ?_
    refine m_bipush 10 hx hb dX5_runGroup_107 (by decide) ?_
    refine m_irem (((oMd (oDv x 10) 10 : Nat) : Int)) hx hb dX5_runGroup_109 (by omega) (by omega) (by first | rfl | (unfold oMd; omega)) ?_
    refine m_if_ne 151 hx hb dX5_runGroup_110 (by decide) (by omega) (fun h_7 => ?_) (fun h_7 => ?_)
    · refine m_iconst 0 hx hb dX5_runGroup_151 rfl ?_
      exact m_iret hx hb hlk hrt hH m_z0 dX5_runGroup_152 ⟨0, n, a, g, sz, w, ld, S, Ln, wr, gr, rfl, (by unfold oGrp; rw [if_neg (by omega), if_pos (by omega), if_neg (by omega)]), (by omega), hwf, hag, e0, e1, e2, e59, e60, e61, e62, e63, hf⟩
    · refine lv_iload hx hb dX5_runGroup_113 (lv_at hl 0 rfl) ?_
      refine m_iconst 1 hx hb dX5_runGroup_115 rfl ?_
      refine m_icmp_gt 151 hx hb dX5_runGroup_116 (by decide) (by omega) (by omega) (fun h_8 => ?_) (fun h_8 => ?_)
      · refine m_iconst 0 hx hb dX5_runGroup_151 rfl ?_
        exact m_iret hx hb hlk hrt hH m_z0 dX5_runGroup_152 ⟨0, n, a, g, sz, w, ld, S, Ln, wr, gr, rfl, (by unfold oGrp; rw [if_neg (by omega), if_pos (by omega), if_neg (by omega)]), (by omega), hwf, hag, e0, e1, e2, e59, e60, e61, e62, e63, hf⟩
      · refine lv_aload_n hx hb dX5_runGroup_119 rfl (lv_at hl 5 rfl) ?_
        refine m_iconst 2 hx hb dX5_runGroup_120 rfl ?_
        refine lv_iload hx hb dX5_runGroup_121 (lv_at hl 1 rfl) ?_
        refine lv_iload_n hx hb dX5_runGroup_123 rfl (lv_at hl 4 rfl) ?_
        refine m_bipush 100 hx hb dX5_runGroup_124 (by decide) ?_
        refine m_idiv (((oDv x 100 : Nat) : Int)) hx hb dX5_runGroup_126 (by omega) (by omega) (by first | rfl | (unfold oDv; omega)) ?_
        refine m_bipush 100 hx hb dX5_runGroup_127 (by decide) ?_
        refine m_irem (((oMd (oDv x 100) 100 : Nat) : Int)) hx hb dX5_runGroup_129 (by omega) (by omega) (by first | rfl | (unfold oMd; omega)) ?_
        refine lv_iload hx hb dX5_runGroup_130 (lv_at hl 0 rfl) ?_
        refine m_iconst 1 hx hb dX5_runGroup_132 rfl ?_
        refine m_icmp_ne 140 hx hb dX5_runGroup_133 (by decide) (by omega) (by omega) (fun h_9 => ?_) (fun h_9 => ?_)
        · refine m_iconst 0 hx hb dX5_runGroup_140 rfl ?_
          refine m_callVi hx hb hml hown hts hK hH hl (rest := []) cw_X5_326 (c4_attG hA j n a g sz w 2 ((oMd (oDv x 10000) 10 : Nat) : Int) ((oMd (oDv x 100) 100 : Nat) : Int) 0 (by first | assumption | omega) (by first | assumption | omega) (by first | assumption | omega) (by first | assumption | omega) (by first | assumption | omega) (by first | assumption | omega) (by first | assumption | omega) e0 e1 e2) ⟨Nat.le_of_ble_eq_true rfl, Nat.le_of_ble_eq_true rfl⟩ ⟨Nat.le_of_ble_eq_true rfl, Nat.le_of_ble_eq_true rfl⟩ rfl (k := j) (by omega) e0 rfl rfl (Nat.le_of_ble_eq_true rfl) dX5_runGroup_141 (fun r_13 σ_10 H locs hp_11 hH => ?_)
          obtain ⟨rt, n4, a5, g4, s4, w4, rfl, hat, hrt4, hwf4, hag4, e0, e1, e2, hq_12⟩ := hp_11
          have eO : σ_10 (0) = .inr (5, [.ref (ad (1)), .ref (ad (4)), .ref (ad (7)), .ref (ad (10)), .int (oI (ff)), .int (oI (sf)), .ref (ad (13)), .ref (ad (57)), .ref (ad (59)), .ref (ad (64))]) := (hq_12 _ (by omega) (by omega) (by omega)).trans eO
          have e59 : σ_10 (59) = .inr (3, [.ref (ad (60)), .ref (ad (61)), .int (oI (((ld : Nat) : Int))), .ref (ad (62)), .ref (ad (63))]) := (hq_12 _ (by omega) (by omega) (by omega)).trans e59
          have e60 : σ_10 (60) = oAI cT 201 S := (hq_12 _ (by omega) (by omega) (by omega)).trans e60
          have e61 : σ_10 (61) = oAI cT 201 Ln := (hq_12 _ (by omega) (by omega) (by omega)).trans e61
          have e62 : σ_10 (62) = oAJ cT 4 wr := (hq_12 _ (by omega) (by omega) (by omega)).trans e62
          have e63 : σ_10 (63) = oAJ cT 4 gr := (hq_12 _ (by omega) (by omega) (by omega)).trans e63
          have hf : ∀ q : Nat, q ≠ j → q ≠ (j + 1) → q ≠ (j + 2) → q ≠ 59 → q ≠ 60 → q ≠ 61 → q ≠ 62 → q ≠ 63 → σ_10 q = σ q := fun q n0 n1 n2 n3 n4 n5 n6 n7 => (hq_12 q n0 n1 n2).trans (hf q n0 n1 n2 n3 n4 n5 n6 n7)
          refine m_if_eq 151 hx hb dX5_runGroup_144 (by decide) (by omega) (fun h_14 => ?_) (fun h_14 => ?_)
          · refine m_iconst 0 hx hb dX5_runGroup_151 rfl ?_
            exact m_iret hx hb hlk hrt hH m_z0 dX5_runGroup_152 ⟨0, n4, a5, g4, s4, w4, ld, S, Ln, wr, gr, rfl, (by unfold oGrp; rw [if_neg (by omega), if_pos (by omega), if_pos (by omega), if_neg (by omega)]; exact hat.trans (by rw [show rt = 0 by omega])), (by omega), hwf4, hag4, e0, e1, e2, e59, e60, e61, e62, e63, hf⟩
          · refine m_iconst 1 hx hb dX5_runGroup_147 rfl ?_
            refine lv_goto (tgt := 152) hx hb dX5_runGroup_148 (by decide) ?_
            exact m_iret hx hb hlk hrt hH m_z1 dX5_runGroup_152 ⟨1, n4, a5, g4, s4, w4, ld, S, Ln, wr, gr, rfl, (by unfold oGrp; rw [if_neg (by omega), if_pos (by omega), if_pos (by omega), if_neg (by omega)]; exact hat.trans (by rw [show rt = 1 by omega])), (by omega), hwf4, hag4, e0, e1, e2, e59, e60, e61, e62, e63, hf⟩
        · refine m_iconst 1 hx hb dX5_runGroup_136 rfl ?_
          refine lv_goto (tgt := 141) hx hb dX5_runGroup_137 (by decide) ?_
          refine m_callVi hx hb hml hown hts hK hH hl (rest := []) cw_X5_326 (c4_attG hA j n a g sz w 2 ((oMd (oDv x 10000) 10 : Nat) : Int) ((oMd (oDv x 100) 100 : Nat) : Int) 1 (by first | assumption | omega) (by first | assumption | omega) (by first | assumption | omega) (by first | assumption | omega) (by first | assumption | omega) (by first | assumption | omega) (by first | assumption | omega) e0 e1 e2) ⟨Nat.le_of_ble_eq_true rfl, Nat.le_of_ble_eq_true rfl⟩ ⟨Nat.le_of_ble_eq_true rfl, Nat.le_of_ble_eq_true rfl⟩ rfl (k := j) (by omega) e0 rfl rfl (Nat.le_of_ble_eq_true rfl) dX5_runGroup_141 (fun r_18 σ_15 H locs hp_16 hH => ?_)
          obtain ⟨rt, n4, a5, g4, s4, w4, rfl, hat, hrt4, hwf4, hag4, e0, e1, e2, hq_17⟩ := hp_16
          have eO : σ_15 (0) = .inr (5, [.ref (ad (1)), .ref (ad (4)), .ref (ad (7)), .ref (ad (10)), .int (oI (ff)), .int (oI (sf)), .ref (ad (13)), .ref (ad (57)), .ref (ad (59)), .ref (ad (64))]) := (hq_17 _ (by omega) (by omega) (by omega)).trans eO
          have e59 : σ_15 (59) = .inr (3, [.ref (ad (60)), .ref (ad (61)), .int (oI (((ld : Nat) : Int))), .ref (ad (62)), .ref (ad (63))]) := (hq_17 _ (by omega) (by omega) (by omega)).trans e59
          have e60 : σ_15 (60) = oAI cT 201 S := (hq_17 _ (by omega) (by omega) (by omega)).trans e60
          have e61 : σ_15 (61) = oAI cT 201 Ln := (hq_17 _ (by omega) (by omega) (by omega)).trans e61
          have e62 : σ_15 (62) = oAJ cT 4 wr := (hq_17 _ (by omega) (by omega) (by omega)).trans e62
          have e63 : σ_15 (63) = oAJ cT 4 gr := (hq_17 _ (by omega) (by omega) (by omega)).trans e63
          have hf : ∀ q : Nat, q ≠ j → q ≠ (j + 1) → q ≠ (j + 2) → q ≠ 59 → q ≠ 60 → q ≠ 61 → q ≠ 62 → q ≠ 63 → σ_15 q = σ q := fun q n0 n1 n2 n3 n4 n5 n6 n7 => (hq_17 q n0 n1 n2).trans (hf q n0 n1 n2 n3 n4 n5 n6 n7)
          refine m_if_eq 151 hx hb dX5_runGroup_144 (by decide) (by omega) (fun h_19 => ?_) (fun h_19 => ?_)
          · refine m_iconst 0 hx hb dX5_runGroup_151 rfl ?_
            exact m_iret hx hb hlk hrt hH m_z0 dX5_runGroup_152 ⟨0, n4, a5, g4, s4, w4, ld, S, Ln, wr, gr, rfl, (by unfold oGrp; rw [if_neg (by omega), if_pos (by omega), if_pos (by omega), if_pos (by omega)]; exact hat.trans (by rw [show rt = 0 by omega])), (by omega), hwf4, hag4, e0, e1, e2, e59, e60, e61, e62, e63, hf⟩
          · refine m_iconst 1 hx hb dX5_runGroup_147 rfl ?_
            refine lv_goto (tgt := 152) hx hb dX5_runGroup_148 (by decide) ?_
            exact m_iret hx hb hlk hrt hH m_z1 dX5_runGroup_152 ⟨1, n4, a5, g4, s4, w4, ld, S, Ln, wr, gr, rfl, (by unfold oGrp; rw [if_neg (by omega), if_pos (by omega), if_pos (by omega), if_pos (by omega)]; exact hat.trans (by rw [show rt = 1 by omega])), (by omega), hwf4, hag4, e0, e1, e2, e59, e60, e61, e62, e63, hf⟩
  · refine m_tabIn 153 hx hb dX5_runGroup_23 (by omega) (by omega) (by rw [hm]; rfl) (by decide) ?_
    refine lv_iload_n hx hb dX5_runGroup_153 rfl (lv_at hl 4 rfl) ?_
    refine m_bipush 100 hx hb dX5_runGroup_154 (by decide) ?_
    refine m_idiv (((oDv x 100 : Nat) : Int)) hx hb dX5_runGroup_156 (by omega) (by omega) (by first | rfl | (unfold oDv; omega)) ?_
    refine m_bipush 100 hx hb dX5_runGroup_157 (by decide) ?_
    refine m_irem (((oMd (oDv x 100) 100 : Nat) : Int)) hx hb dX5_runGroup_159 (by omega) (by omega) (by first | rfl | (unfold oMd; omega)) ?_
    refine m_if_ne 182 hx hb dX5_runGroup_160 (by decide) (by omega) (fun h_20 => ?_) (fun h_20 => ?_)
    · refine m_iconst 0 hx hb dX5_runGroup_182 rfl ?_
      exact m_iret hx hb hlk hrt hH m_z0 dX5_runGroup_183 ⟨0, n, a, g, sz, w, ld, S, Ln, wr, gr, rfl, (by unfold oGrp; rw [if_neg (by omega), if_neg (by omega), if_pos (by omega), if_neg (by omega)]), (by omega), hwf, hag, e0, e1, e2, e59, e60, e61, e62, e63, hf⟩
    · refine lv_aload_n hx hb dX5_runGroup_163 rfl (lv_at hl 5 rfl) ?_
      refine m_iconst 3 hx hb dX5_runGroup_164 rfl ?_
      refine lv_iload hx hb dX5_runGroup_165 (lv_at hl 1 rfl) ?_
      refine lv_iload_n hx hb dX5_runGroup_167 rfl (lv_at hl 4 rfl) ?_
      refine m_bipush 100 hx hb dX5_runGroup_168 (by decide) ?_
      refine m_irem (((oMd x 100 : Nat) : Int)) hx hb dX5_runGroup_170 (by omega) (by omega) (by first | rfl | (unfold oMd; omega)) ?_
      refine m_iconst 0 hx hb dX5_runGroup_171 rfl ?_
      refine m_callVi hx hb hml hown hts hK hH hl (rest := []) cw_X5_326 (c4_attG hA j n a g sz w 3 ((oMd (oDv x 10000) 10 : Nat) : Int) ((oMd x 100 : Nat) : Int) 0 (by first | assumption | omega) (by first | assumption | omega) (by first | assumption | omega) (by first | assumption | omega) (by first | assumption | omega) (by first | assumption | omega) (by first | assumption | omega) e0 e1 e2) ⟨Nat.le_of_ble_eq_true rfl, Nat.le_of_ble_eq_true rfl⟩ ⟨Nat.le_of_ble_eq_true rfl, Nat.le_of_ble_eq_true rfl⟩ rfl (k := j) (by omega) e0 rfl rfl (Nat.le_of_ble_eq_true rfl) dX5_runGroup_172 (fun r_24 σ_21 H locs hp_22 hH => ?_)
      obtain ⟨rt, n4, a5, g4, s4, w4, rfl, hat, hrt4, hwf4, hag4, e0, e1, e2, hq_23⟩ := hp_22
      have eO : σ_21 (0) = .inr (5, [.ref (ad (1)), .ref (ad (4)), .ref (ad (7)), .ref (ad (10)), .int (oI (ff)), .int (oI (sf)), .ref (ad (13)), .ref (ad (57)), .ref (ad (59)), .ref (ad (64))]) := (hq_23 _ (by omega) (by omega) (by omega)).trans eO
      have e59 : σ_21 (59) = .inr (3, [.ref (ad (60)), .ref (ad (61)), .int (oI (((ld : Nat) : Int))), .ref (ad (62)), .ref (ad (63))]) := (hq_23 _ (by omega) (by omega) (by omega)).trans e59
      have e60 : σ_21 (60) = oAI cT 201 S := (hq_23 _ (by omega) (by omega) (by omega)).trans e60
      have e61 : σ_21 (61) = oAI cT 201 Ln := (hq_23 _ (by omega) (by omega) (by omega)).trans e61
      have e62 : σ_21 (62) = oAJ cT 4 wr := (hq_23 _ (by omega) (by omega) (by omega)).trans e62
      have e63 : σ_21 (63) = oAJ cT 4 gr := (hq_23 _ (by omega) (by omega) (by omega)).trans e63
      have hf : ∀ q : Nat, q ≠ j → q ≠ (j + 1) → q ≠ (j + 2) → q ≠ 59 → q ≠ 60 → q ≠ 61 → q ≠ 62 → q ≠ 63 → σ_21 q = σ q := fun q n0 n1 n2 n3 n4 n5 n6 n7 => (hq_23 q n0 n1 n2).trans (hf q n0 n1 n2 n3 n4 n5 n6 n7)
      refine m_if_eq 182 hx hb dX5_runGroup_175 (by decide) (by omega) (fun h_25 => ?_) (fun h_25 => ?_)
      · refine m_iconst 0 hx hb dX5_runGroup_182 rfl ?_
        exact m_iret hx hb hlk hrt hH m_z0 dX5_runGroup_183 ⟨0, n4, a5, g4, s4, w4, ld, S, Ln, wr, gr, rfl, (by unfold oGrp; rw [if_neg (by omega), if_neg (by omega), if_pos (by omega), if_pos (by omega)]; exact hat.trans (by rw [show rt = 0 by omega])), (by omega), hwf4, hag4, e0, e1, e2, e59, e60, e61, e62, e63, hf⟩
      · refine m_iconst 1 hx hb dX5_runGroup_178 rfl ?_
        refine lv_goto (tgt := 183) hx hb dX5_runGroup_179 (by decide) ?_
        exact m_iret hx hb hlk hrt hH m_z1 dX5_runGroup_183 ⟨1, n4, a5, g4, s4, w4, ld, S, Ln, wr, gr, rfl, (by unfold oGrp; rw [if_neg (by omega), if_neg (by omega), if_pos (by omega), if_pos (by omega)]; exact hat.trans (by rw [show rt = 1 by omega])), (by omega), hwf4, hag4, e0, e1, e2, e59, e60, e61, e62, e63, hf⟩
  · refine m_tabIn 184 hx hb dX5_runGroup_23 (by omega) (by omega) (by rw [hm]; rfl) (by decide) ?_
    refine lv_iload_n hx hb dX5_runGroup_184 rfl (lv_at hl 4 rfl) ?_
    refine m_sipush 10000 hx hb dX5_runGroup_185 (by decide) ?_
    refine m_irem (((oMd x 10000 : Nat) : Int)) hx hb dX5_runGroup_188 (by omega) (by omega) (by first | rfl | (unfold oMd; omega)) ?_
    refine m_if_ne 208 hx hb dX5_runGroup_189 (by decide) (by omega) (fun h_26 => ?_) (fun h_26 => ?_)
    · refine m_iconst 0 hx hb dX5_runGroup_208 rfl ?_
      exact m_iret hx hb hlk hrt hH m_z0 dX5_runGroup_209 ⟨0, n, a, g, sz, w, ld, S, Ln, wr, gr, rfl, (by unfold oGrp; rw [if_neg (by omega), if_neg (by omega), if_neg (by omega), if_pos (by omega), if_neg (by omega)]), (by omega), hwf, hag, e0, e1, e2, e59, e60, e61, e62, e63, hf⟩
    · refine lv_aload_n hx hb dX5_runGroup_192 rfl (lv_at hl 5 rfl) ?_
      refine m_iconst 4 hx hb dX5_runGroup_193 rfl ?_
      refine lv_iload hx hb dX5_runGroup_194 (lv_at hl 1 rfl) ?_
      refine m_iconst 0 hx hb dX5_runGroup_196 rfl ?_
      refine m_iconst 0 hx hb dX5_runGroup_197 rfl ?_
      refine m_callVi hx hb hml hown hts hK hH hl (rest := []) cw_X5_326 (c4_attG hA j n a g sz w 4 ((oMd (oDv x 10000) 10 : Nat) : Int) 0 0 (by first | assumption | omega) (by first | assumption | omega) (by first | assumption | omega) (by first | assumption | omega) (by first | assumption | omega) (by first | assumption | omega) (by first | assumption | omega) e0 e1 e2) ⟨Nat.le_of_ble_eq_true rfl, Nat.le_of_ble_eq_true rfl⟩ ⟨Nat.le_of_ble_eq_true rfl, Nat.le_of_ble_eq_true rfl⟩ rfl (k := j) (by omega) e0 rfl rfl (Nat.le_of_ble_eq_true rfl) dX5_runGroup_198 (fun r_30 σ_27 H locs hp_28 hH => ?_)
      obtain ⟨rt, n4, a5, g4, s4, w4, rfl, hat, hrt4, hwf4, hag4, e0, e1, e2, hq_29⟩ := hp_28
      have eO : σ_27 (0) = .inr (5, [.ref (ad (1)), .ref (ad (4)), .ref (ad (7)), .ref (ad (10)), .int (oI (ff)), .int (oI (sf)), .ref (ad (13)), .ref (ad (57)), .ref (ad (59)), .ref (ad (64))]) := (hq_29 _ (by omega) (by omega) (by omega)).trans eO
      have e59 : σ_27 (59) = .inr (3, [.ref (ad (60)), .ref (ad (61)), .int (oI (((ld : Nat) : Int))), .ref (ad (62)), .ref (ad (63))]) := (hq_29 _ (by omega) (by omega) (by omega)).trans e59
      have e60 : σ_27 (60) = oAI cT 201 S := (hq_29 _ (by omega) (by omega) (by omega)).trans e60
      have e61 : σ_27 (61) = oAI cT 201 Ln := (hq_29 _ (by omega) (by omega) (by omega)).trans e61
      have e62 : σ_27 (62) = oAJ cT 4 wr := (hq_29 _ (by omega) (by omega) (by omega)).trans e62
      have e63 : σ_27 (63) = oAJ cT 4 gr := (hq_29 _ (by omega) (by omega) (by omega)).trans e63
      have hf : ∀ q : Nat, q ≠ j → q ≠ (j + 1) → q ≠ (j + 2) → q ≠ 59 → q ≠ 60 → q ≠ 61 → q ≠ 62 → q ≠ 63 → σ_27 q = σ q := fun q n0 n1 n2 n3 n4 n5 n6 n7 => (hq_29 q n0 n1 n2).trans (hf q n0 n1 n2 n3 n4 n5 n6 n7)
      refine m_if_eq 208 hx hb dX5_runGroup_201 (by decide) (by omega) (fun h_31 => ?_) (fun h_31 => ?_)
      · refine m_iconst 0 hx hb dX5_runGroup_208 rfl ?_
        exact m_iret hx hb hlk hrt hH m_z0 dX5_runGroup_209 ⟨0, n4, a5, g4, s4, w4, ld, S, Ln, wr, gr, rfl, (by unfold oGrp; rw [if_neg (by omega), if_neg (by omega), if_neg (by omega), if_pos (by omega), if_pos (by omega)]; exact hat.trans (by rw [show rt = 0 by omega])), (by omega), hwf4, hag4, e0, e1, e2, e59, e60, e61, e62, e63, hf⟩
      · refine m_iconst 1 hx hb dX5_runGroup_204 rfl ?_
        refine lv_goto (tgt := 209) hx hb dX5_runGroup_205 (by decide) ?_
        exact m_iret hx hb hlk hrt hH m_z1 dX5_runGroup_209 ⟨1, n4, a5, g4, s4, w4, ld, S, Ln, wr, gr, rfl, (by unfold oGrp; rw [if_neg (by omega), if_neg (by omega), if_neg (by omega), if_pos (by omega), if_pos (by omega)]; exact hat.trans (by rw [show rt = 1 by omega])), (by omega), hwf4, hag4, e0, e1, e2, e59, e60, e61, e62, e63, hf⟩
  · refine m_tabIn 210 hx hb dX5_runGroup_23 (by omega) (by omega) (by rw [hm]; rfl) (by decide) ?_
    refine lv_iload_n hx hb dX5_runGroup_210 rfl (lv_at hl 4 rfl) ?_
    refine m_sipush 1000 hx hb dX5_runGroup_211 (by decide) ?_
    refine m_idiv (((oDv x 1000 : Nat) : Int)) hx hb dX5_runGroup_214 (by omega) (by omega) (by first | rfl | (unfold oDv; omega)) ?_
    refine m_bipush 10 hx hb dX5_runGroup_215 (by decide) ?_
    refine m_irem (((oMd (oDv x 1000) 10 : Nat) : Int)) hx hb dX5_runGroup_217 (by omega) (by omega) (by first | rfl | (unfold oMd; omega)) ?_
    refine m_if_ne 241 hx hb dX5_runGroup_218 (by decide) (by omega) (fun h_32 => ?_) (fun h_32 => ?_)
    · refine m_iconst 0 hx hb dX5_runGroup_241 rfl ?_
      exact m_iret hx hb hlk hrt hH m_z0 dX5_runGroup_242 ⟨0, n, a, g, sz, w, ld, S, Ln, wr, gr, rfl, (by unfold oGrp; rw [if_neg (by omega), if_neg (by omega), if_neg (by omega), if_neg (by omega), if_pos (by omega), if_neg (by omega)]), (by omega), hwf, hag, e0, e1, e2, e59, e60, e61, e62, e63, hf⟩
    · refine lv_aload_n hx hb dX5_runGroup_221 rfl (lv_at hl 5 rfl) ?_
      refine m_iconst 5 hx hb dX5_runGroup_222 rfl ?_
      refine lv_iload hx hb dX5_runGroup_223 (lv_at hl 1 rfl) ?_
      refine lv_iload_n hx hb dX5_runGroup_225 rfl (lv_at hl 4 rfl) ?_
      refine m_sipush 1000 hx hb dX5_runGroup_226 (by decide) ?_
      refine m_irem (((oMd x 1000 : Nat) : Int)) hx hb dX5_runGroup_229 (by omega) (by omega) (by first | rfl | (unfold oMd; omega)) ?_
      refine m_iconst 0 hx hb dX5_runGroup_230 rfl ?_
      refine m_callVi hx hb hml hown hts hK hH hl (rest := []) cw_X5_326 (c4_attG hA j n a g sz w 5 ((oMd (oDv x 10000) 10 : Nat) : Int) ((oMd x 1000 : Nat) : Int) 0 (by first | assumption | omega) (by first | assumption | omega) (by first | assumption | omega) (by first | assumption | omega) (by first | assumption | omega) (by first | assumption | omega) (by first | assumption | omega) e0 e1 e2) ⟨Nat.le_of_ble_eq_true rfl, Nat.le_of_ble_eq_true rfl⟩ ⟨Nat.le_of_ble_eq_true rfl, Nat.le_of_ble_eq_true rfl⟩ rfl (k := j) (by omega) e0 rfl rfl (Nat.le_of_ble_eq_true rfl) dX5_runGroup_231 (fun r_36 σ_33 H locs hp_34 hH => ?_)
      obtain ⟨rt, n4, a5, g4, s4, w4, rfl, hat, hrt4, hwf4, hag4, e0, e1, e2, hq_35⟩ := hp_34
      have eO : σ_33 (0) = .inr (5, [.ref (ad (1)), .ref (ad (4)), .ref (ad (7)), .ref (ad (10)), .int (oI (ff)), .int (oI (sf)), .ref (ad (13)), .ref (ad (57)), .ref (ad (59)), .ref (ad (64))]) := (hq_35 _ (by omega) (by omega) (by omega)).trans eO
      have e59 : σ_33 (59) = .inr (3, [.ref (ad (60)), .ref (ad (61)), .int (oI (((ld : Nat) : Int))), .ref (ad (62)), .ref (ad (63))]) := (hq_35 _ (by omega) (by omega) (by omega)).trans e59
      have e60 : σ_33 (60) = oAI cT 201 S := (hq_35 _ (by omega) (by omega) (by omega)).trans e60
      have e61 : σ_33 (61) = oAI cT 201 Ln := (hq_35 _ (by omega) (by omega) (by omega)).trans e61
      have e62 : σ_33 (62) = oAJ cT 4 wr := (hq_35 _ (by omega) (by omega) (by omega)).trans e62
      have e63 : σ_33 (63) = oAJ cT 4 gr := (hq_35 _ (by omega) (by omega) (by omega)).trans e63
      have hf : ∀ q : Nat, q ≠ j → q ≠ (j + 1) → q ≠ (j + 2) → q ≠ 59 → q ≠ 60 → q ≠ 61 → q ≠ 62 → q ≠ 63 → σ_33 q = σ q := fun q n0 n1 n2 n3 n4 n5 n6 n7 => (hq_35 q n0 n1 n2).trans (hf q n0 n1 n2 n3 n4 n5 n6 n7)
      refine m_if_eq 241 hx hb dX5_runGroup_234 (by decide) (by omega) (fun h_37 => ?_) (fun h_37 => ?_)
      · refine m_iconst 0 hx hb dX5_runGroup_241 rfl ?_
        exact m_iret hx hb hlk hrt hH m_z0 dX5_runGroup_242 ⟨0, n4, a5, g4, s4, w4, ld, S, Ln, wr, gr, rfl, (by unfold oGrp; rw [if_neg (by omega), if_neg (by omega), if_neg (by omega), if_neg (by omega), if_pos (by omega), if_pos (by omega)]; exact hat.trans (by rw [show rt = 0 by omega])), (by omega), hwf4, hag4, e0, e1, e2, e59, e60, e61, e62, e63, hf⟩
      · refine m_iconst 1 hx hb dX5_runGroup_237 rfl ?_
        refine lv_goto (tgt := 242) hx hb dX5_runGroup_238 (by decide) ?_
        exact m_iret hx hb hlk hrt hH m_z1 dX5_runGroup_242 ⟨1, n4, a5, g4, s4, w4, ld, S, Ln, wr, gr, rfl, (by unfold oGrp; rw [if_neg (by omega), if_neg (by omega), if_neg (by omega), if_neg (by omega), if_pos (by omega), if_pos (by omega)]; exact hat.trans (by rw [show rt = 1 by omega])), (by omega), hwf4, hag4, e0, e1, e2, e59, e60, e61, e62, e63, hf⟩
  · refine m_tabIn 243 hx hb dX5_runGroup_23 (by omega) (by omega) (by rw [hm]; rfl) (by decide) ?_
    refine lv_iload hx hb dX5_runGroup_243 (lv_at hl 1 rfl) ?_
    refine m_if_ne 270 hx hb dX5_runGroup_245 (by decide) (by omega) (fun h_38 => ?_) (fun h_38 => ?_)
    · refine m_iconst 0 hx hb dX5_runGroup_270 rfl ?_
      exact m_iret hx hb hlk hrt hH m_z0 dX5_runGroup_271 ⟨0, n, a, g, sz, w, ld, S, Ln, wr, gr, rfl, (by unfold oGrp; rw [if_neg (by omega), if_neg (by omega), if_neg (by omega), if_neg (by omega), if_neg (by omega), if_pos (by omega), if_neg (by omega)]), (by omega), hwf, hag, e0, e1, e2, e59, e60, e61, e62, e63, hf⟩
    · refine lv_aload_n hx hb dX5_runGroup_248 rfl (lv_at hl 3 rfl) ?_
      refine lv_iload_n hx hb dX5_runGroup_249 rfl (lv_at hl 4 rfl) ?_
      refine m_bipush 10 hx hb dX5_runGroup_250 (by decide) ?_
      refine m_idiv (((oDv x 10 : Nat) : Int)) hx hb dX5_runGroup_252 (by omega) (by omega) (by first | rfl | (unfold oDv; omega)) ?_
      refine m_sipush 1000 hx hb dX5_runGroup_253 (by decide) ?_
      refine m_irem (((oMd (oDv x 10) 1000 : Nat) : Int)) hx hb dX5_runGroup_256 (by omega) (by omega) (by first | rfl | (unfold oMd; omega)) ?_
      refine lv_iload hx hb dX5_runGroup_257 (lv_at hl 0 rfl) ?_
      refine lv_aload_n hx hb dX5_runGroup_259 rfl (lv_at hl 5 rfl) ?_
      refine m_callVi hx hb hml hown hts hK hH hl (rest := []) cw_X5_330 (c5_laysWithin hA (oMd (oDv x 10) 1000) (oMd x 10) j n a g sz w ld S Ln ff sf (by first | assumption | omega) (by first | assumption | omega) (by first | assumption | omega) (by first | assumption | omega) (by first | assumption | omega) (by first | assumption | omega) eO e0 e1 e2 e59 e60 e61) ⟨Nat.le_of_ble_eq_true rfl, Nat.le_of_ble_eq_true rfl⟩ ⟨Nat.le_of_ble_eq_true rfl, Nat.le_of_ble_eq_true rfl⟩ rfl (k := 0) (by omega) eO rfl rfl (Nat.le_of_ble_eq_true rfl) dX5_runGroup_260 (fun r_42 σ_39 H locs hp_40 hH => ?_)
      obtain ⟨ld2, S2, L2, rfl, e59, e60, e61, hq_41⟩ := hp_40
      have eO : σ_39 (0) = .inr (5, [.ref (ad (1)), .ref (ad (4)), .ref (ad (7)), .ref (ad (10)), .int (oI (ff)), .int (oI (sf)), .ref (ad (13)), .ref (ad (57)), .ref (ad (59)), .ref (ad (64))]) := (hq_41 _ (by decide) (by decide) (by decide)).trans eO
      have e0 : σ_39 (j) = .inr (4, [.ref (ad (j + 1)), .ref (ad (j + 2)), .int (oI (((n : Nat) : Int))), .int (oI (((a : Nat) : Int))), .int (oI (((g : Nat) : Int)))]) := (hq_41 _ (by omega) (by omega) (by omega)).trans e0
      have e1 : σ_39 (j + 1) = oAN cT 4 sz := (hq_41 _ (by omega) (by omega) (by omega)).trans e1
      have e2 : σ_39 (j + 2) = oAJ cT 4 w := (hq_41 _ (by omega) (by omega) (by omega)).trans e2
      have e62 : σ_39 (62) = oAJ cT 4 wr := (hq_41 _ (by decide) (by decide) (by decide)).trans e62
      have e63 : σ_39 (63) = oAJ cT 4 gr := (hq_41 _ (by decide) (by decide) (by decide)).trans e63
      have hf : ∀ q : Nat, q ≠ j → q ≠ (j + 1) → q ≠ (j + 2) → q ≠ 59 → q ≠ 60 → q ≠ 61 → q ≠ 62 → q ≠ 63 → σ_39 q = σ q := fun q n0 n1 n2 n3 n4 n5 n6 n7 => (hq_41 q n3 n4 n5).trans (hf q n0 n1 n2 n3 n4 n5 n6 n7)
      have hob := oLw_b (oOrW n w (-1) 4) (oMd (oDv x 10) 1000) (oMd x 10)
      refine m_if_eq 270 hx hb dX5_runGroup_263 (by decide) (by omega) (fun hz => ?_) (fun hz => ?_)
      · refine m_iconst 0 hx hb dX5_runGroup_270 rfl ?_
        exact m_iret hx hb hlk hrt hH m_z0 dX5_runGroup_271 ⟨0, n, a, g, sz, w, ld2, S2, L2, wr, gr, rfl, (by unfold oGrp; rw [if_neg (by omega), if_neg (by omega), if_neg (by omega), if_neg (by omega), if_neg (by omega), if_pos (by omega), if_pos (by omega), hz]), (by omega), hwf, hag, e0, e1, e2, e59, e60, e61, e62, e63, hf⟩
      · refine m_iconst 1 hx hb dX5_runGroup_266 rfl ?_
        refine lv_goto (tgt := 271) hx hb dX5_runGroup_267 (by decide) ?_
        exact m_iret hx hb hlk hrt hH m_z1 dX5_runGroup_271 ⟨1, n, a, g, sz, w, ld2, S2, L2, wr, gr, rfl, (by unfold oGrp; rw [if_neg (by omega), if_neg (by omega), if_neg (by omega), if_neg (by omega), if_neg (by omega), if_pos (by omega), if_pos (by omega), show oLw (oOrW n w (-1) 4) (oMd (oDv x 10) 1000) (oMd x 10) = 1 by have := oLw_b (oOrW n w (-1) 4) (oMd (oDv x 10) 1000) (oMd x 10); omega]), (by omega), hwf, hag, e0, e1, e2, e59, e60, e61, e62, e63, hf⟩
  · refine m_tabIn 272 hx hb dX5_runGroup_23 (by omega) (by omega) (by rw [hm]; rfl) (by decide) ?_
    refine lv_iload_n hx hb dX5_runGroup_272 rfl (lv_at hl 4 rfl) ?_
    refine m_sipush 1000 hx hb dX5_runGroup_273 (by decide) ?_
    refine m_idiv (((oDv x 1000 : Nat) : Int)) hx hb dX5_runGroup_276 (by omega) (by omega) (by first | rfl | (unfold oDv; omega)) ?_
    refine m_bipush 100 hx hb dX5_runGroup_277 (by decide) ?_
    refine m_irem (((oMd (oDv x 1000) 100 : Nat) : Int)) hx hb dX5_runGroup_279 (by omega) (by omega) (by first | rfl | (unfold oMd; omega)) ?_
    refine m_if_ne 300 hx hb dX5_runGroup_280 (by decide) (by omega) (fun h_44 => ?_) (fun h_44 => ?_)
    · refine m_iconst 0 hx hb dX5_runGroup_300 rfl ?_
      exact m_iret hx hb hlk hrt hH m_z0 dX5_runGroup_301 ⟨0, n, a, g, sz, w, ld, S, Ln, wr, gr, rfl, (by unfold oGrp; rw [if_neg (by omega), if_neg (by omega), if_neg (by omega), if_neg (by omega), if_neg (by omega), if_neg (by omega), if_pos (by omega), if_neg (by omega)]), (by omega), hwf, hag, e0, e1, e2, e59, e60, e61, e62, e63, hf⟩
    · refine lv_aload_n hx hb dX5_runGroup_283 rfl (lv_at hl 3 rfl) ?_
      refine lv_aload_n hx hb dX5_runGroup_284 rfl (lv_at hl 5 rfl) ?_
      refine m_callVi hx hb hml hown hts hK hH hl (rest := []) cw_X5_120 (c5_laidLengths hA j n a g sz w ld wr gr ff sf (by first | assumption | omega) (by first | assumption | omega) (by first | assumption | omega) (by first | assumption | omega) eO e0 e1 e2 e59 e62 e63) ⟨Nat.le_of_ble_eq_true rfl, Nat.le_of_ble_eq_true rfl⟩ ⟨Nat.le_of_ble_eq_true rfl, Nat.le_of_ble_eq_true rfl⟩ rfl (k := 0) (by omega) eO rfl rfl (Nat.le_of_ble_eq_true rfl) dX5_runGroup_285 (fun r_48 σ_45 H locs hp_46 hH => ?_)
      obtain ⟨w3, gr3, rfl, f_49, e62, e63, hq_47⟩ := hp_46
      have eO : σ_45 (0) = .inr (5, [.ref (ad (1)), .ref (ad (4)), .ref (ad (7)), .ref (ad (10)), .int (oI (ff)), .int (oI (sf)), .ref (ad (13)), .ref (ad (57)), .ref (ad (59)), .ref (ad (64))]) := (hq_47 _ (by decide) (by decide)).trans eO
      have e0 : σ_45 (j) = .inr (4, [.ref (ad (j + 1)), .ref (ad (j + 2)), .int (oI (((n : Nat) : Int))), .int (oI (((a : Nat) : Int))), .int (oI (((g : Nat) : Int)))]) := (hq_47 _ (by omega) (by omega)).trans e0
      have e1 : σ_45 (j + 1) = oAN cT 4 sz := (hq_47 _ (by omega) (by omega)).trans e1
      have e2 : σ_45 (j + 2) = oAJ cT 4 w := (hq_47 _ (by omega) (by omega)).trans e2
      have e59 : σ_45 (59) = .inr (3, [.ref (ad (60)), .ref (ad (61)), .int (oI (((ld : Nat) : Int))), .ref (ad (62)), .ref (ad (63))]) := (hq_47 _ (by decide) (by decide)).trans e59
      have e60 : σ_45 (60) = oAI cT 201 S := (hq_47 _ (by decide) (by decide)).trans e60
      have e61 : σ_45 (61) = oAI cT 201 Ln := (hq_47 _ (by decide) (by decide)).trans e61
      have hf : ∀ q : Nat, q ≠ j → q ≠ (j + 1) → q ≠ (j + 2) → q ≠ 59 → q ≠ 60 → q ≠ 61 → q ≠ 62 → q ≠ 63 → σ_45 q = σ q := fun q n0 n1 n2 n3 n4 n5 n6 n7 => (hq_47 q n6 n7).trans (hf q n0 n1 n2 n3 n4 n5 n6 n7)
      refine lv_iload_n hx hb dX5_runGroup_288 rfl (lv_at hl 4 rfl) ?_
      refine m_sipush 1000 hx hb dX5_runGroup_289 (by decide) ?_
      refine m_irem (((oMd x 1000 : Nat) : Int)) hx hb dX5_runGroup_292 (by omega) (by omega) (by first | rfl | (unfold oMd; omega)) ?_
      refine m_icmp_lt 300 hx hb dX5_runGroup_293 (by decide) (by omega) (by omega) (fun h_50 => ?_) (fun h_50 => ?_)
      · refine m_iconst 0 hx hb dX5_runGroup_300 rfl ?_
        exact m_iret hx hb hlk hrt hH m_z0 dX5_runGroup_301 ⟨0, n, a, g, sz, w, ld, S, Ln, w3, gr3, rfl, (by unfold oGrp; rw [if_neg (by omega), if_neg (by omega), if_neg (by omega), if_neg (by omega), if_neg (by omega), if_neg (by omega), if_pos (by omega), if_neg (by omega)]), (by omega), hwf, hag, e0, e1, e2, e59, e60, e61, e62, e63, hf⟩
      · refine m_iconst 1 hx hb dX5_runGroup_296 rfl ?_
        refine lv_goto (tgt := 301) hx hb dX5_runGroup_297 (by decide) ?_
        exact m_iret hx hb hlk hrt hH m_z1 dX5_runGroup_301 ⟨1, n, a, g, sz, w, ld, S, Ln, w3, gr3, rfl, (by unfold oGrp; rw [if_neg (by omega), if_neg (by omega), if_neg (by omega), if_neg (by omega), if_neg (by omega), if_neg (by omega), if_pos (by omega), if_pos (by omega)]), (by omega), hwf, hag, e0, e1, e2, e59, e60, e61, e62, e63, hf⟩
  · refine m_tabIn 302 hx hb dX5_runGroup_23 (by omega) (by omega) (by rw [hm]; rfl) (by decide) ?_
    refine lv_iload_n hx hb dX5_runGroup_302 rfl (lv_at hl 4 rfl) ?_
    refine m_bipush 10 hx hb dX5_runGroup_303 (by decide) ?_
    refine m_idiv (((oDv x 10 : Nat) : Int)) hx hb dX5_runGroup_305 (by omega) (by omega) (by first | rfl | (unfold oDv; omega)) ?_
    refine m_bipush 10 hx hb dX5_runGroup_306 (by decide) ?_
    refine m_irem (((oMd (oDv x 10) 10 : Nat) : Int)) hx hb dX5_runGroup_308 (by omega) (by omega) (by first | rfl | (unfold oMd; omega)) ?_
    refine m_if_ne 349 hx hb dX5_runGroup_309 (by decide) (by omega) (fun h_51 => ?_) (fun h_51 => ?_)
    · refine m_iconst 0 hx hb dX5_runGroup_349 rfl ?_
      exact m_iret hx hb hlk hrt hH m_z0 dX5_runGroup_350 ⟨0, n, a, g, sz, w, ld, S, Ln, wr, gr, rfl, (by unfold oGrp; rw [if_neg (by omega), if_neg (by omega), if_neg (by omega), if_neg (by omega), if_neg (by omega), if_neg (by omega), if_neg (by omega), if_pos (by omega), if_neg (by omega)]), (by omega), hwf, hag, e0, e1, e2, e59, e60, e61, e62, e63, hf⟩
    · refine lv_iload hx hb dX5_runGroup_312 (lv_at hl 0 rfl) ?_
      refine m_iconst 1 hx hb dX5_runGroup_314 rfl ?_
      refine m_icmp_gt 349 hx hb dX5_runGroup_315 (by decide) (by omega) (by omega) (fun h_52 => ?_) (fun h_52 => ?_)
      · refine m_iconst 0 hx hb dX5_runGroup_349 rfl ?_
        exact m_iret hx hb hlk hrt hH m_z0 dX5_runGroup_350 ⟨0, n, a, g, sz, w, ld, S, Ln, wr, gr, rfl, (by unfold oGrp; rw [if_neg (by omega), if_neg (by omega), if_neg (by omega), if_neg (by omega), if_neg (by omega), if_neg (by omega), if_neg (by omega), if_pos (by omega), if_neg (by omega)]), (by omega), hwf, hag, e0, e1, e2, e59, e60, e61, e62, e63, hf⟩
      · refine lv_iload hx hb dX5_runGroup_318 (lv_at hl 1 rfl) ?_
        refine lv_iload_n hx hb dX5_runGroup_320 rfl (lv_at hl 4 rfl) ?_
        refine m_bipush 100 hx hb dX5_runGroup_321 (by decide) ?_
        refine m_idiv (((oDv x 100 : Nat) : Int)) hx hb dX5_runGroup_323 (by omega) (by omega) (by first | rfl | (unfold oDv; omega)) ?_
        refine m_bipush 100 hx hb dX5_runGroup_324 (by decide) ?_
        refine m_irem (((oMd (oDv x 100) 100 : Nat) : Int)) hx hb dX5_runGroup_326 (by omega) (by omega) (by first | rfl | (unfold oMd; omega)) ?_
        refine lv_iload hx hb dX5_runGroup_327 (lv_at hl 0 rfl) ?_
        refine m_iconst 1 hx hb dX5_runGroup_329 rfl ?_
        refine m_icmp_ne 337 hx hb dX5_runGroup_330 (by decide) (by omega) (by omega) (fun h_53 => ?_) (fun h_53 => ?_)
        · refine m_iconst 0 hx hb dX5_runGroup_337 rfl ?_
          refine lv_aload_n hx hb dX5_runGroup_338 rfl (lv_at hl 5 rfl) ?_
          refine m_pSi hx hb hml hown hts hK hH hl (rest := []) cw_X5_334 rfl (c5_marksAs hA ((oMd (oDv x 10000) 10 : Nat) : Int) ((oMd (oDv x 100) 100 : Nat) : Int) 0 j n a g sz w (by first | assumption | omega) (by first | assumption | omega) (by first | assumption | omega) (by first | assumption | omega) (by first | assumption | omega) (by first | assumption | omega) e0 e1 e2) ⟨Nat.le_of_ble_eq_true rfl, Nat.le_of_ble_eq_true rfl⟩ ⟨Nat.le_of_ble_eq_true rfl, Nat.le_of_ble_eq_true rfl⟩ rfl rfl (Nat.le_of_ble_eq_true rfl) dX5_runGroup_339 (fun H locs hH => ?_)
          have hob := oMk_b n sz w ((oMd (oDv x 10000) 10 : Nat) : Int) ((oMd (oDv x 100) 100 : Nat) : Int) 0
          refine m_if_eq 349 hx hb dX5_runGroup_342 (by decide) (by omega) (fun hz => ?_) (fun hz => ?_)
          · refine m_iconst 0 hx hb dX5_runGroup_349 rfl ?_
            exact m_iret hx hb hlk hrt hH m_z0 dX5_runGroup_350 ⟨0, n, a, g, sz, w, ld, S, Ln, wr, gr, rfl, (by unfold oGrp; rw [if_neg (by omega), if_neg (by omega), if_neg (by omega), if_neg (by omega), if_neg (by omega), if_neg (by omega), if_neg (by omega), if_pos (by omega), if_pos (by omega), if_neg (by omega), hz]), (by omega), hwf, hag, e0, e1, e2, e59, e60, e61, e62, e63, hf⟩
          · refine m_iconst 1 hx hb dX5_runGroup_345 rfl ?_
            refine lv_goto (tgt := 350) hx hb dX5_runGroup_346 (by decide) ?_
            exact m_iret hx hb hlk hrt hH m_z1 dX5_runGroup_350 ⟨1, n, a, g, sz, w, ld, S, Ln, wr, gr, rfl, (by unfold oGrp; rw [if_neg (by omega), if_neg (by omega), if_neg (by omega), if_neg (by omega), if_neg (by omega), if_neg (by omega), if_neg (by omega), if_pos (by omega), if_pos (by omega), if_neg (by omega), show oMk n sz w ((oMd (oDv x 10000) 10 : Nat) : Int) ((oMd (oDv x 100) 100 : Nat) : Int) 0 = 1 by have := oMk_b n sz w ((oMd (oDv x 10000) 10 : Nat) : Int) ((oMd (oDv x 100) 100 : Nat) : Int) 0; omega]), (by omega), hwf, hag, e0, e1, e2, e59, e60, e61, e62, e63, hf⟩
        · refine m_iconst 1 hx hb dX5_runGroup_333 rfl ?_
          refine lv_goto (tgt := 338) hx hb dX5_runGroup_334 (by decide) ?_
          refine lv_aload_n hx hb dX5_runGroup_338 rfl (lv_at hl 5 rfl) ?_
          refine m_pSi hx hb hml hown hts hK hH hl (rest := []) cw_X5_334 rfl (c5_marksAs hA ((oMd (oDv x 10000) 10 : Nat) : Int) ((oMd (oDv x 100) 100 : Nat) : Int) 1 j n a g sz w (by first | assumption | omega) (by first | assumption | omega) (by first | assumption | omega) (by first | assumption | omega) (by first | assumption | omega) (by first | assumption | omega) e0 e1 e2) ⟨Nat.le_of_ble_eq_true rfl, Nat.le_of_ble_eq_true rfl⟩ ⟨Nat.le_of_ble_eq_true rfl, Nat.le_of_ble_eq_true rfl⟩ rfl rfl (Nat.le_of_ble_eq_true rfl) dX5_runGroup_339 (fun H locs hH => ?_)
          have hob := oMk_b n sz w ((oMd (oDv x 10000) 10 : Nat) : Int) ((oMd (oDv x 100) 100 : Nat) : Int) 1
          refine m_if_eq 349 hx hb dX5_runGroup_342 (by decide) (by omega) (fun hz => ?_) (fun hz => ?_)
          · refine m_iconst 0 hx hb dX5_runGroup_349 rfl ?_
            exact m_iret hx hb hlk hrt hH m_z0 dX5_runGroup_350 ⟨0, n, a, g, sz, w, ld, S, Ln, wr, gr, rfl, (by unfold oGrp; rw [if_neg (by omega), if_neg (by omega), if_neg (by omega), if_neg (by omega), if_neg (by omega), if_neg (by omega), if_neg (by omega), if_pos (by omega), if_pos (by omega), if_pos (by omega), hz]), (by omega), hwf, hag, e0, e1, e2, e59, e60, e61, e62, e63, hf⟩
          · refine m_iconst 1 hx hb dX5_runGroup_345 rfl ?_
            refine lv_goto (tgt := 350) hx hb dX5_runGroup_346 (by decide) ?_
            exact m_iret hx hb hlk hrt hH m_z1 dX5_runGroup_350 ⟨1, n, a, g, sz, w, ld, S, Ln, wr, gr, rfl, (by unfold oGrp; rw [if_neg (by omega), if_neg (by omega), if_neg (by omega), if_neg (by omega), if_neg (by omega), if_neg (by omega), if_neg (by omega), if_pos (by omega), if_pos (by omega), if_pos (by omega), show oMk n sz w ((oMd (oDv x 10000) 10 : Nat) : Int) ((oMd (oDv x 100) 100 : Nat) : Int) 1 = 1 by have := oMk_b n sz w ((oMd (oDv x 10000) 10 : Nat) : Int) ((oMd (oDv x 100) 100 : Nat) : Int) 1; omega]), (by omega), hwf, hag, e0, e1, e2, e59, e60, e61, e62, e63, hf⟩
  · refine m_tabIn 351 hx hb dX5_runGroup_23 (by omega) (by omega) (by rw [hm]; rfl) (by decide) ?_
    refine lv_iload_n hx hb dX5_runGroup_351 rfl (lv_at hl 4 rfl) ?_
    refine m_bipush 100 hx hb dX5_runGroup_352 (by decide) ?_
    refine m_idiv (((oDv x 100 : Nat) : Int)) hx hb dX5_runGroup_354 (by omega) (by omega) (by first | rfl | (unfold oDv; omega)) ?_
    refine m_sipush 1000 hx hb dX5_runGroup_355 (by decide) ?_
    refine m_irem (((oMd (oDv x 100) 1000 : Nat) : Int)) hx hb dX5_runGroup_358 (by omega) (by omega) (by first | rfl | (unfold oMd; omega)) ?_
    refine m_if_ne 378 hx hb dX5_runGroup_359 (by decide) (by omega) (fun h_56 => ?_) (fun h_56 => ?_)
    · refine m_iconst 0 hx hb dX5_runGroup_378 rfl ?_
      exact m_iret hx hb hlk hrt hH m_z0 dX5_runGroup_379 ⟨0, n, a, g, sz, w, ld, S, Ln, wr, gr, rfl, (by unfold oGrp; rw [if_neg (by omega), if_neg (by omega), if_neg (by omega), if_neg (by omega), if_neg (by omega), if_neg (by omega), if_neg (by omega), if_neg (by omega), if_pos (by omega), if_neg (by omega)]), (by omega), hwf, hag, e0, e1, e2, e59, e60, e61, e62, e63, hf⟩
    · refine lv_aload_n hx hb dX5_runGroup_362 rfl (lv_at hl 3 rfl) ?_
      refine lv_aload_n hx hb dX5_runGroup_363 rfl (lv_at hl 5 rfl) ?_
      refine m_callVi hx hb hml hown hts hK hH hl (rest := []) cw_X5_123 (c5_gaps hA j n a g sz w ld wr gr ff sf (by first | assumption | omega) (by first | assumption | omega) (by first | assumption | omega) (by first | assumption | omega) eO e0 e1 e2 e59 e62 e63) ⟨Nat.le_of_ble_eq_true rfl, Nat.le_of_ble_eq_true rfl⟩ ⟨Nat.le_of_ble_eq_true rfl, Nat.le_of_ble_eq_true rfl⟩ rfl (k := 0) (by omega) eO rfl rfl (Nat.le_of_ble_eq_true rfl) dX5_runGroup_364 (fun r_60 σ_57 H locs hp_58 hH => ?_)
      obtain ⟨w3, gr3, rfl, f_61, e62, e63, hq_59⟩ := hp_58
      have eO : σ_57 (0) = .inr (5, [.ref (ad (1)), .ref (ad (4)), .ref (ad (7)), .ref (ad (10)), .int (oI (ff)), .int (oI (sf)), .ref (ad (13)), .ref (ad (57)), .ref (ad (59)), .ref (ad (64))]) := (hq_59 _ (by decide) (by decide)).trans eO
      have e0 : σ_57 (j) = .inr (4, [.ref (ad (j + 1)), .ref (ad (j + 2)), .int (oI (((n : Nat) : Int))), .int (oI (((a : Nat) : Int))), .int (oI (((g : Nat) : Int)))]) := (hq_59 _ (by omega) (by omega)).trans e0
      have e1 : σ_57 (j + 1) = oAN cT 4 sz := (hq_59 _ (by omega) (by omega)).trans e1
      have e2 : σ_57 (j + 2) = oAJ cT 4 w := (hq_59 _ (by omega) (by omega)).trans e2
      have e59 : σ_57 (59) = .inr (3, [.ref (ad (60)), .ref (ad (61)), .int (oI (((ld : Nat) : Int))), .ref (ad (62)), .ref (ad (63))]) := (hq_59 _ (by decide) (by decide)).trans e59
      have e60 : σ_57 (60) = oAI cT 201 S := (hq_59 _ (by decide) (by decide)).trans e60
      have e61 : σ_57 (61) = oAI cT 201 Ln := (hq_59 _ (by decide) (by decide)).trans e61
      have hf : ∀ q : Nat, q ≠ j → q ≠ (j + 1) → q ≠ (j + 2) → q ≠ 59 → q ≠ 60 → q ≠ 61 → q ≠ 62 → q ≠ 63 → σ_57 q = σ q := fun q n0 n1 n2 n3 n4 n5 n6 n7 => (hq_59 q n6 n7).trans (hf q n0 n1 n2 n3 n4 n5 n6 n7)
      refine lv_iload_n hx hb dX5_runGroup_367 rfl (lv_at hl 4 rfl) ?_
      refine m_bipush 100 hx hb dX5_runGroup_368 (by decide) ?_
      refine m_irem (((oMd x 100 : Nat) : Int)) hx hb dX5_runGroup_370 (by omega) (by omega) (by first | rfl | (unfold oMd; omega)) ?_
      refine m_icmp_gt 378 hx hb dX5_runGroup_371 (by decide) (by omega) (by omega) (fun h_62 => ?_) (fun h_62 => ?_)
      · refine m_iconst 0 hx hb dX5_runGroup_378 rfl ?_
        exact m_iret hx hb hlk hrt hH m_z0 dX5_runGroup_379 ⟨0, n, a, g, sz, w, ld, S, Ln, w3, gr3, rfl, (by unfold oGrp; rw [if_neg (by omega), if_neg (by omega), if_neg (by omega), if_neg (by omega), if_neg (by omega), if_neg (by omega), if_neg (by omega), if_neg (by omega), if_pos (by omega), if_neg (by omega)]), (by omega), hwf, hag, e0, e1, e2, e59, e60, e61, e62, e63, hf⟩
      · refine m_iconst 1 hx hb dX5_runGroup_374 rfl ?_
        refine lv_goto (tgt := 379) hx hb dX5_runGroup_375 (by decide) ?_
        exact m_iret hx hb hlk hrt hH m_z1 dX5_runGroup_379 ⟨1, n, a, g, sz, w, ld, S, Ln, w3, gr3, rfl, (by unfold oGrp; rw [if_neg (by omega), if_neg (by omega), if_neg (by omega), if_neg (by omega), if_neg (by omega), if_neg (by omega), if_neg (by omega), if_neg (by omega), if_pos (by omega), if_pos (by omega)]), (by omega), hwf, hag, e0, e1, e2, e59, e60, e61, e62, e63, hf⟩
  · refine m_tabOut 380 hx hb dX5_runGroup_23 (by omega) hm (by decide) ?_
    refine m_iconst 0 hx hb dX5_runGroup_380 rfl ?_
    exact m_iret hx hb hlk hrt hH m_z0 dX5_runGroup_381 ⟨0, n, a, g, sz, w, ld, S, Ln, wr, gr, rfl, (by unfold oGrp; rw [if_neg (by omega), if_neg (by omega), if_neg (by omega), if_neg (by omega), if_neg (by omega), if_neg (by omega), if_neg (by omega), if_neg (by omega), if_neg (by omega)]), (by omega), hwf, hag, e0, e1, e2, e59, e60, e61, e62, e63, hf⟩
