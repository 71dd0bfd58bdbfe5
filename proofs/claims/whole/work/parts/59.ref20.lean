set_option maxHeartbeats 8000000 in
set_option maxRecDepth 100000 in
theorem c6_turnOf {l : Launch} {D : va_G} {cT : Nat → ClassId} {N b0 : Nat} {ad : Nat → Nat} (hA : oAd b0 N ad) {σ : Nat → va_E} (j n a g : Nat) (f : Nat → Int) (sz w : Nat → Nat) (x : Nat) (hj : j < N) (hwf : oWf n sz w) (hp : oRS f n a g sz w) (hag : oAg a g) (hr31 : x < 2147483648) (ef : σ (j) = oAI cT 171 f) :
    oCv l D cT N ad b0 yX6_turnOf cX6_turnOf 6 none 4 91 [.ref (ad (j)), .int (oI (((x : Nat) : Int)))] σ (fun uu => ∃ g2 : Nat → Int, ∃ n1 : Nat, ∃ a1 : Nat, ∃ g1 : Nat, ∃ sz1 : Nat → Nat, ∃ w1 : Nat → Nat, (∃ rt : Int, oAtt (oTuA x).1 (oTuA x).2.1 (oTuA x).2.2.1 (oTuA x).2.2.2 n a g sz w = (rt, n1, a1, g1, sz1, w1)) ∧ (oRS g2 n1 a1 g1 sz1 w1) ∧ (oWf n1 sz1 w1) ∧ (oAg a1 g1) ∧ uu (j) = oAI cT 171 g2 ∧ (∀ q : Nat, q ≠ j → uu q = σ q)) := by
  refine m_start (cc := cX6_turnOf) (by decide) (Nat.le_of_ble_eq_true rfl) rfl ?_
  intro Pp Ee Ss Mm Bb Me Cc Ar ls hx hb hml hown hlk hrt hts hK hH hl
  have hown : Ss.vm.findClass RX6 = some Mm.cls := hown
  have hn := hwf.1
  have hag1 := hag.1
  have hag2 := hag.2
  have q0 := oMd_lt x (k := 8) (by decide)
  have q1 := oMd_lt (oDv x 8) (k := 39) (by decide)
  have q2 := oMd_lt (oDv x 8) (k := 4) (by decide)
  have q3 := oMd_lt (oDv (oDv x 8) 4) (k := 39) (by decide)
  have q4 := oMd_lt (oDv (oDv x 8) 8) (k := 2) (by decide)
  have q5 := oMd_lt (oDv x 8) (k := 6) (by decide)
  have q6 := oMd_lt (oDv (oDv x 8) 16) (k := 141) (by decide)
  have q7 := oMd_lt (oDv (oDv x 8) 4) (k := 41) (by decide)
  have q8 := oMd_lt (oDv (oDv x 8) 256) (k := 4) (by decide)
  have hq8 : oDv x 8 < 2147483648 := by unfold oDv; omega
  have hq4 : oDv (oDv x 8) 4 < 2147483648 := by unfold oDv at hq8 ⊢; omega
  have hq8 : oDv (oDv x 8) 8 < 2147483648 := by unfold oDv at hq8 ⊢; omega
  have hq16 : oDv (oDv x 8) 16 < 2147483648 := by unfold oDv at hq8 ⊢; omega
  have hq256 : oDv (oDv x 8) 256 < 2147483648 := by unfold oDv at hq8 ⊢; omega
  have hl : lv_has ls 6 [(0, .ref (ad (j))), (1, .int (oI (((x : Nat) : Int))))] := hl
  have hf : ∀ q : Nat, q ≠ j → σ q = σ q := fun q _ => rfl
  refine lv_iload_n hx hb dX6_turnOf_0 rfl (lv_at hl 1 rfl) ?_
  refine m_bipush 8 hx hb dX6_turnOf_1 (by decide) ?_
  refine m_idiv (((oDv x 8 : Nat) : Int)) hx hb dX6_turnOf_3 (by omega) (by omega) (by first | rfl | (unfold oDv; omega)) ?_
  refine lv_istore_n (lv' := [(2, .int (oI (((oDv x 8 : Nat) : Int)))), (0, .ref (ad (j))), (1, .int (oI (((x : Nat) : Int))))]) hx hb dX6_turnOf_4 rfl hl (by decide) rfl (fun ls hl => ?_)
  refine lv_iload_n hx hb dX6_turnOf_5 rfl (lv_at hl 0 rfl) ?_
  refine m_iconst 4 hx hb dX6_turnOf_6 rfl ?_
  refine m_irem (((oMd (oDv x 8) 4 : Nat) : Int)) hx hb dX6_turnOf_7 (by omega) (by omega) (by first | rfl | (unfold oMd; omega)) ?_
  refine lv_istore_n (lv' := [(3, .int (oI (((oMd (oDv x 8) 4 : Nat) : Int)))), (2, .int (oI (((oDv x 8 : Nat) : Int)))), (0, .ref (ad (j))), (1, .int (oI (((x : Nat) : Int))))]) hx hb dX6_turnOf_8 rfl hl (by decide) rfl (fun ls hl => ?_)
  refine lv_iload_n hx hb dX6_turnOf_9 rfl (lv_at hl 3 rfl) ?_
  refine m_bipush 8 hx hb dX6_turnOf_10 (by decide) ?_
  refine m_irem (((oMd x 8 : Nat) : Int)) hx hb dX6_turnOf_12 (by omega) (by omega) (by first | rfl | (unfold oMd; omega)) ?_
  refine lv_istore (lv' := [(4, .int (oI (((oMd x 8 : Nat) : Int)))), (3, .int (oI (((oMd (oDv x 8) 4 : Nat) : Int)))), (2, .int (oI (((oDv x 8 : Nat) : Int)))), (0, .ref (ad (j))), (1, .int (oI (((x : Nat) : Int))))]) hx hb dX6_turnOf_13 hl (by decide) rfl (fun ls hl => ?_)
  refine lv_iload hx hb dX6_turnOf_15 (lv_at hl 0 rfl) ?_
  refine m_if_ne 41 hx hb dX6_turnOf_17 (by decide) (by omega) (fun h_1 => ?_) (fun h_1 => ?_)
  · refine lv_iload hx hb dX6_turnOf_41 (lv_at hl 0 rfl) ?_
    refine m_iconst 5 hx hb dX6_turnOf_43 rfl ?_
    refine m_icmp_ge 97 hx hb dX6_turnOf_44 (by decide) (by omega) (by omega) (fun h_2 => ?_) (fun h_2 => ?_)
    · refine lv_iload hx hb dX6_turnOf_97 (lv_at hl 0 rfl) ?_
      refine m_iconst 5 hx hb dX6_turnOf_99 rfl ?_
      refine m_icmp_ne 144 hx hb dX6_turnOf_100 (by decide) (by omega) (by omega) (fun h_3 => ?_) (fun h_3 => ?_)
      · refine lv_iload hx hb dX6_turnOf_144 (lv_at hl 0 rfl) ?_
        refine m_bipush 6 hx hb dX6_turnOf_146 (by decide) ?_
        refine m_icmp_ne 168 hx hb dX6_turnOf_148 (by decide) (by omega) (by omega) (fun h_4 => ?_) (fun h_4 => ?_)
        · refine lv_iload_n hx hb dX6_turnOf_168 rfl (lv_at hl 2 rfl) ?_
          refine m_bipush 8 hx hb dX6_turnOf_169 (by decide) ?_
          refine m_idiv (((oDv (oDv x 8) 8 : Nat) : Int)) hx hb dX6_turnOf_171 (by omega) (by omega) (by first | rfl | (unfold oDv; omega)) ?_
          refine m_iconst 2 hx hb dX6_turnOf_172 rfl ?_
          refine m_irem (((oMd (oDv (oDv x 8) 8) 2 : Nat) : Int)) hx hb dX6_turnOf_173 (by omega) (by omega) (by first | rfl | (unfold oMd; omega)) ?_
          refine m_if_ne 189 hx hb dX6_turnOf_174 (by decide) (by omega) (fun hz => ?_) (fun hz => ?_)
          · refine lv_aload_n hx hb dX6_turnOf_189 rfl (lv_at hl 3 rfl) ?_
            refine m_iconst 2 hx hb dX6_turnOf_190 rfl ?_
            refine m_bipush 10 hx hb dX6_turnOf_191 (by decide) ?_
            refine lv_iload_n hx hb dX6_turnOf_193 rfl (lv_at hl 2 rfl) ?_
            refine m_bipush 16 hx hb dX6_turnOf_194 (by decide) ?_
            refine m_idiv (((oDv (oDv x 8) 16 : Nat) : Int)) hx hb dX6_turnOf_196 (by omega) (by omega) (by first | rfl | (unfold oDv; omega)) ?_
            refine m_sipush 141 hx hb dX6_turnOf_197 (by decide) ?_
            refine m_irem (((oMd (oDv (oDv x 8) 16) 141 : Nat) : Int)) hx hb dX6_turnOf_200 (by omega) (by omega) (by first | rfl | (unfold oMd; omega)) ?_
            refine m_iadd (((oMd (oDv (oDv x 8) 16) 141 : Nat) : Int) + 10) hx hb dX6_turnOf_201 (by omega) ?_
            refine m_topI (((oMd (oDv (oDv x 8) 16) 141 + 10 : Nat) : Int)) (by omega) ?_
            refine m_iast hx hb hK hH hA (k := j) (by omega) ef (2) (by omega) (by omega) (by decide) dX6_turnOf_202 (fun H locs σ_6 ef hq_7 hH => ?_)
            have hf : ∀ q : Nat, q ≠ j → σ_6 q = σ q := fun q n0 => (hq_7 q n0).trans (hf q n0)
            exact m_vret hx hb hlk hrt hH dX6_turnOf_203 ⟨(va_up f 2 ((oMd (oDv (oDv x 8) 16) 141 + 10 : Nat) : Int)), n, a, _, sz, w, (⟨_, by unfold oTuA; rw [if_neg (by omega), if_neg (by omega), if_neg (by omega), if_pos (by omega), if_neg (by omega)]; exact oAt51 (v := oMd (oDv (oDv x 8) 16) 141 + 10) (by omega)⟩), (oRS_g hp), hwf, ⟨hag.1, by omega⟩, ef, hf⟩
          · refine lv_aload_n hx hb dX6_turnOf_177 rfl (lv_at hl 3 rfl) ?_
            refine m_iconst 1 hx hb dX6_turnOf_178 rfl ?_
            refine m_iconst 1 hx hb dX6_turnOf_179 rfl ?_
            refine lv_iload_n hx hb dX6_turnOf_180 rfl (lv_at hl 2 rfl) ?_
            refine m_bipush 6 hx hb dX6_turnOf_181 (by decide) ?_
            refine m_irem (((oMd (oDv x 8) 6 : Nat) : Int)) hx hb dX6_turnOf_183 (by omega) (by omega) (by first | rfl | (unfold oMd; omega)) ?_
            refine m_iadd (((oMd (oDv x 8) 6 : Nat) : Int) + 1) hx hb dX6_turnOf_184 (by omega) ?_
            refine m_topI (((oMd (oDv x 8) 6 + 1 : Nat) : Int)) (by omega) ?_
            refine m_iast hx hb hK hH hA (k := j) (by omega) ef (1) (by omega) (by omega) (by decide) dX6_turnOf_185 (fun H locs σ_8 ef hq_9 hH => ?_)
            have hf : ∀ q : Nat, q ≠ j → σ_8 q = σ q := fun q n0 => (hq_9 q n0).trans (hf q n0)
            refine lv_goto (tgt := 203) hx hb dX6_turnOf_186 (by decide) ?_
            exact m_vret hx hb hlk hrt hH dX6_turnOf_203 ⟨(va_up f 1 ((oMd (oDv x 8) 6 + 1 : Nat) : Int)), n, _, g, sz, w, (⟨_, by unfold oTuA; rw [if_neg (by omega), if_neg (by omega), if_neg (by omega), if_pos (by omega), if_pos (by omega)]; exact oAt50 (v := oMd (oDv x 8) 6 + 1) (by omega)⟩), (oRS_a hp), hwf, ⟨by omega, hag.2⟩, ef, hf⟩
        · refine lv_aload_n hx hb dX6_turnOf_151 rfl (lv_at hl 3 rfl) ?_
          refine lv_iload_n hx hb dX6_turnOf_152 rfl (lv_at hl 1 rfl) ?_
          refine m_pSb hx hb hml hown hts hK hH hl (rest := []) cw_X6_50 rfl (c6_isRuler hA j n a g f sz w ((oMd (oDv x 8) 4 : Nat) : Int) (by first | assumption | omega) (by first | assumption | omega) (by first | assumption | omega) (by first | assumption | omega) ef) ⟨Nat.le_of_ble_eq_true rfl, Nat.le_of_ble_eq_true rfl⟩ ⟨Nat.le_of_ble_eq_true rfl, Nat.le_of_ble_eq_true rfl⟩ rfl rfl (Nat.le_of_ble_eq_true rfl) dX6_turnOf_153 (fun hR H locs hH => ?_) (fun hR H locs hH => ?_)
          · refine m_if_eq 203 hx hb dX6_turnOf_156 (by decide) (by omega) (fun h_10 => absurd h_10 (by omega)) (fun h_10 => ?_)
            refine lv_aload_n hx hb dX6_turnOf_159 rfl (lv_at hl 3 rfl) ?_
            refine lv_iload_n hx hb dX6_turnOf_160 rfl (lv_at hl 1 rfl) ?_
            refine m_callSi hx hb hml hown hts hK hH hl (rest := []) cw_X6_150 rfl (c6_turnOn hA j n a g f sz w (oMd (oDv x 8) 4) (by first | assumption | omega) (by first | assumption | omega) (by first | assumption | omega) (by first | assumption | omega) ef) ⟨Nat.le_of_ble_eq_true rfl, Nat.le_of_ble_eq_true rfl⟩ ⟨Nat.le_of_ble_eq_true rfl, Nat.le_of_ble_eq_true rfl⟩ rfl rfl (Nat.le_of_ble_eq_true rfl) dX6_turnOf_161 (fun r_14 σ_11 H locs hp_12 hH => ?_)
            obtain ⟨f5, rfl, hp5, hpos, ef, hq_13⟩ := hp_12
            have hf : ∀ q : Nat, q ≠ j → σ_11 q = σ q := fun q n0 => (hq_13 q n0).trans (hf q n0)
            refine lv_pop hx hb dX6_turnOf_164 rfl ?_
            refine lv_goto (tgt := 203) hx hb dX6_turnOf_165 (by decide) ?_
            exact m_vret hx hb hlk hrt hH dX6_turnOf_203 ⟨f5, n, a, g, _, _, (⟨_, by unfold oTuA; rw [if_neg (by omega), if_neg (by omega), if_pos (by omega)]; exact oAt4_ok hR⟩), hp5, (hwf.turn (by omega)), hag, ef, hf⟩
          · refine m_if_eq 203 hx hb dX6_turnOf_156 (by decide) (by omega) (fun h_15 => ?_) (fun h_15 => absurd h_15 (by omega))
            exact m_vret hx hb hlk hrt hH dX6_turnOf_203 ⟨f, n, a, g, sz, w, (⟨_, by unfold oTuA; rw [if_neg (by omega), if_neg (by omega), if_pos (by omega)]; exact oAt4_no hR⟩), hp, hwf, hag, ef, hf⟩
      · refine lv_aload_n hx hb dX6_turnOf_103 rfl (lv_at hl 3 rfl) ?_
        refine lv_iload_n hx hb dX6_turnOf_104 rfl (lv_at hl 1 rfl) ?_
        refine m_pSb hx hb hml hown hts hK hH hl (rest := []) cw_X6_50 rfl (c6_isRuler hA j n a g f sz w ((oMd (oDv x 8) 4 : Nat) : Int) (by first | assumption | omega) (by first | assumption | omega) (by first | assumption | omega) (by first | assumption | omega) ef) ⟨Nat.le_of_ble_eq_true rfl, Nat.le_of_ble_eq_true rfl⟩ ⟨Nat.le_of_ble_eq_true rfl, Nat.le_of_ble_eq_true rfl⟩ rfl rfl (Nat.le_of_ble_eq_true rfl) dX6_turnOf_105 (fun hR H locs hH => ?_) (fun hR H locs hH => ?_)
        · have eS : oSize n sz ((oMd (oDv x 8) 4 : Nat) : Int) = sz (oMd (oDv x 8) 4) := oSize_in hR
          have hs9 := hwf.2 (oMd (oDv x 8) 4) (by omega)
          refine m_if_eq 203 hx hb dX6_turnOf_108 (by decide) (by omega) (fun h_16 => absurd h_16 (by omega)) (fun h_16 => ?_)
          refine m_iconst 2 hx hb dX6_turnOf_111 rfl ?_
          refine lv_iload_n hx hb dX6_turnOf_112 rfl (lv_at hl 2 rfl) ?_
          refine m_iconst 4 hx hb dX6_turnOf_113 rfl ?_
          refine m_idiv (((oDv (oDv x 8) 4 : Nat) : Int)) hx hb dX6_turnOf_114 (by omega) (by omega) (by first | rfl | (unfold oDv; omega)) ?_
          refine m_bipush 39 hx hb dX6_turnOf_115 (by decide) ?_
          refine m_irem (((oMd (oDv (oDv x 8) 4) 39 : Nat) : Int)) hx hb dX6_turnOf_117 (by omega) (by omega) (by first | rfl | (unfold oMd; omega)) ?_
          refine m_iadd (((oMd (oDv (oDv x 8) 4) 39 : Nat) : Int) + 2) hx hb dX6_turnOf_118 (by omega) ?_
          refine m_topI (((oMd (oDv (oDv x 8) 4) 39 + 2 : Nat) : Int)) (by omega) ?_
          refine lv_aload_n hx hb dX6_turnOf_119 rfl (lv_at hl 3 rfl) ?_
          refine lv_iload_n hx hb dX6_turnOf_120 rfl (lv_at hl 1 rfl) ?_
          refine m_pSi hx hb hml hown hts hK hH hl (rest := [.int (oI (((oMd (oDv (oDv x 8) 4) 39 + 2 : Nat) : Int)))]) cw_X6_54 rfl (c6_length hA j n a g f sz w (oMd (oDv x 8) 4) (by first | assumption | omega) (by first | assumption | omega) (by first | assumption | omega) (by first | assumption | omega) ef) ⟨Nat.le_of_ble_eq_true rfl, Nat.le_of_ble_eq_true rfl⟩ ⟨Nat.le_of_ble_eq_true rfl, Nat.le_of_ble_eq_true rfl⟩ rfl rfl (Nat.le_of_ble_eq_true rfl) dX6_turnOf_121 (fun H locs hH => ?_)
          refine m_icmp_gt 203 hx hb dX6_turnOf_124 (by decide) (by omega) (by omega) (fun h_17 => ?_) (fun h_17 => ?_)
          · exact m_vret hx hb hlk hrt hH dX6_turnOf_203 ⟨f, n, a, g, sz, w, (⟨_, by unfold oTuA; rw [if_neg (by omega), if_pos (by omega)]; exact oAt3_no (r := ((oMd (oDv x 8) 4 : Nat) : Int)) (x := ((oMd (oDv (oDv x 8) 4) 39 : Nat) : Int) + 2) (fun q => by rw [eS] at q; omega)⟩), hp, hwf, hag, ef, hf⟩
          · refine lv_aload_n hx hb dX6_turnOf_127 rfl (lv_at hl 3 rfl) ?_
            refine lv_iload_n hx hb dX6_turnOf_128 rfl (lv_at hl 1 rfl) ?_
            refine m_iconst 2 hx hb dX6_turnOf_129 rfl ?_
            refine lv_iload_n hx hb dX6_turnOf_130 rfl (lv_at hl 2 rfl) ?_
            refine m_iconst 4 hx hb dX6_turnOf_131 rfl ?_
            refine m_idiv (((oDv (oDv x 8) 4 : Nat) : Int)) hx hb dX6_turnOf_132 (by omega) (by omega) (by first | rfl | (unfold oDv; omega)) ?_
            refine m_bipush 39 hx hb dX6_turnOf_133 (by decide) ?_
            refine m_irem (((oMd (oDv (oDv x 8) 4) 39 : Nat) : Int)) hx hb dX6_turnOf_135 (by omega) (by omega) (by first | rfl | (unfold oMd; omega)) ?_
            refine m_iadd (((oMd (oDv (oDv x 8) 4) 39 : Nat) : Int) + 2) hx hb dX6_turnOf_136 (by omega) ?_
            refine m_topI (((oMd (oDv (oDv x 8) 4) 39 + 2 : Nat) : Int)) (by omega) ?_
            refine m_callSi hx hb hml hown hts hK hH hl (rest := []) cw_X6_146 rfl (c6_cutOn hA j n a g f sz w (oMd (oDv x 8) 4) (oMd (oDv (oDv x 8) 4) 39 + 2) (by first | assumption | omega) (by first | assumption | omega) (by first | assumption | omega) (by first | assumption | omega) (by first | assumption | omega) ef) ⟨Nat.le_of_ble_eq_true rfl, Nat.le_of_ble_eq_true rfl⟩ ⟨Nat.le_of_ble_eq_true rfl, Nat.le_of_ble_eq_true rfl⟩ rfl rfl (Nat.le_of_ble_eq_true rfl) dX6_turnOf_137 (fun r_21 σ_18 H locs hp_19 hH => ?_)
            obtain ⟨f5, rfl, hp5, ef, hq_20⟩ := hp_19
            have hf : ∀ q : Nat, q ≠ j → σ_18 q = σ q := fun q n0 => (hq_20 q n0).trans (hf q n0)
            refine lv_pop hx hb dX6_turnOf_140 rfl ?_
            refine lv_goto (tgt := 203) hx hb dX6_turnOf_141 (by decide) ?_
            exact m_vret hx hb hlk hrt hH dX6_turnOf_203 ⟨f5, n, a, g, _, _, (⟨_, by unfold oTuA; rw [if_neg (by omega), if_pos (by omega)]; exact oAt3_ok (x := ((oMd (oDv (oDv x 8) 4) 39 + 2 : Nat) : Int)) ⟨hR, by omega, by rw [eS]; omega⟩⟩), hp5, (hwf.cut (by omega) (by omega) (by omega)), hag, ef, hf⟩
        · refine m_if_eq 203 hx hb dX6_turnOf_108 (by decide) (by omega) (fun h_22 => ?_) (fun h_22 => absurd h_22 (by omega))
          exact m_vret hx hb hlk hrt hH dX6_turnOf_203 ⟨f, n, a, g, sz, w, (⟨_, by unfold oTuA; rw [if_neg (by omega), if_pos (by omega)]; exact oAt3_no (fun q => hR q.1)⟩), hp, hwf, hag, ef, hf⟩
    · refine lv_iload_n hx hb dX6_turnOf_47 rfl (lv_at hl 2 rfl) ?_
      refine m_sipush 256 hx hb dX6_turnOf_48 (by decide) ?_
      refine m_idiv (((oDv (oDv x 8) 256 : Nat) : Int)) hx hb dX6_turnOf_51 (by omega) (by omega) (by first | rfl | (unfold oDv; omega)) ?_
      refine m_iconst 4 hx hb dX6_turnOf_52 rfl ?_
      refine m_irem (((oMd (oDv (oDv x 8) 256) 4 : Nat) : Int)) hx hb dX6_turnOf_53 (by omega) (by omega) (by first | rfl | (unfold oMd; omega)) ?_
      refine m_if_eq 61 hx hb dX6_turnOf_54 (by decide) (by omega) (fun hz => ?_) (fun hz => ?_)
      · refine m_iconst 0 hx hb dX6_turnOf_61 rfl ?_
        refine lv_istore (lv' := [(5, .int (oI (0))), (4, .int (oI (((oMd x 8 : Nat) : Int)))), (3, .int (oI (((oMd (oDv x 8) 4 : Nat) : Int)))), (2, .int (oI (((oDv x 8 : Nat) : Int)))), (0, .ref (ad (j))), (1, .int (oI (((x : Nat) : Int))))]) hx hb dX6_turnOf_62 hl (by decide) rfl (fun ls hl => ?_)
        refine lv_aload_n hx hb dX6_turnOf_64 rfl (lv_at hl 4 rfl) ?_
        refine lv_iload_n hx hb dX6_turnOf_65 rfl (lv_at hl 2 rfl) ?_
        refine lv_iload_n hx hb dX6_turnOf_66 rfl (lv_at hl 3 rfl) ?_
        refine m_iconst 4 hx hb dX6_turnOf_67 rfl ?_
        refine m_idiv (((oDv (oDv x 8) 4 : Nat) : Int)) hx hb dX6_turnOf_68 (by omega) (by omega) (by first | rfl | (unfold oDv; omega)) ?_
        refine m_bipush 41 hx hb dX6_turnOf_69 (by decide) ?_
        refine m_irem (((oMd (oDv (oDv x 8) 4) 41 : Nat) : Int)) hx hb dX6_turnOf_71 (by omega) (by omega) (by first | rfl | (unfold oMd; omega)) ?_
        refine lv_iload hx hb dX6_turnOf_72 (lv_at hl 0 rfl) ?_
        refine m_pSb hx hb hml hown hts hK hH hl (rest := []) cw_X6_127 rfl (c6_canMark hA j n a g f sz w ((oMd (oDv x 8) 4 : Nat) : Int) ((oMd (oDv (oDv x 8) 4) 41 : Nat) : Int) 0 (by first | assumption | omega) (by first | assumption | omega) (by first | assumption | omega) (by first | assumption | omega) (by first | assumption | omega) (by first | assumption | omega) ef) ⟨Nat.le_of_ble_eq_true rfl, Nat.le_of_ble_eq_true rfl⟩ ⟨Nat.le_of_ble_eq_true rfl, Nat.le_of_ble_eq_true rfl⟩ rfl rfl (Nat.le_of_ble_eq_true rfl) dX6_turnOf_74 (fun hC H locs hH => ?_) (fun hC H locs hH => ?_)
        · refine m_if_eq 94 hx hb dX6_turnOf_77 (by decide) (by omega) (fun h_24 => absurd h_24 (by omega)) (fun h_24 => ?_)
          refine lv_aload_n hx hb dX6_turnOf_80 rfl (lv_at hl 4 rfl) ?_
          refine lv_iload_n hx hb dX6_turnOf_81 rfl (lv_at hl 2 rfl) ?_
          refine lv_iload_n hx hb dX6_turnOf_82 rfl (lv_at hl 3 rfl) ?_
          refine m_iconst 4 hx hb dX6_turnOf_83 rfl ?_
          refine m_idiv (((oDv (oDv x 8) 4 : Nat) : Int)) hx hb dX6_turnOf_84 (by omega) (by omega) (by first | rfl | (unfold oDv; omega)) ?_
          refine m_bipush 41 hx hb dX6_turnOf_85 (by decide) ?_
          refine m_irem (((oMd (oDv (oDv x 8) 4) 41 : Nat) : Int)) hx hb dX6_turnOf_87 (by omega) (by omega) (by first | rfl | (unfold oMd; omega)) ?_
          refine lv_iload hx hb dX6_turnOf_88 (lv_at hl 0 rfl) ?_
          have eS : oSize n sz ((oMd (oDv x 8) 4 : Nat) : Int) = sz (oMd (oDv x 8) 4) := oSize_in hC.1.1
          refine m_callSi hx hb hml hown hts hK hH hl (rest := []) cw_X6_131 rfl (c6_markOn hA j n a g f sz w (oMd (oDv x 8) 4) (oMd (oDv (oDv x 8) 4) 41) 0 (by first | assumption | omega) (by first | assumption | omega) (by first | assumption | omega) (by first | assumption | omega) (by first | assumption | omega) (by first | assumption | omega) (by first | assumption | omega) ef) ⟨Nat.le_of_ble_eq_true rfl, Nat.le_of_ble_eq_true rfl⟩ ⟨Nat.le_of_ble_eq_true rfl, Nat.le_of_ble_eq_true rfl⟩ rfl rfl (Nat.le_of_ble_eq_true rfl) dX6_turnOf_90 (fun r_28 σ_25 H locs hp_26 hH => ?_)
          obtain ⟨f5, rfl, hp5, hwf5, ef, hq_27⟩ := hp_26
          have hf : ∀ q : Nat, q ≠ j → σ_25 q = σ q := fun q n0 => (hq_27 q n0).trans (hf q n0)
          refine lv_pop hx hb dX6_turnOf_93 rfl ?_
          refine lv_goto (tgt := 203) hx hb dX6_turnOf_94 (by decide) ?_
          exact m_vret hx hb hlk hrt hH dX6_turnOf_203 ⟨f5, n, a, g, _, _, (⟨_, by unfold oTuA; rw [if_neg (by omega), if_neg (by omega), if_neg (by omega), if_neg (by omega), if_pos (by omega)]; exact oAt2_ok hC⟩), hp5, hwf5, hag, ef, hf⟩
        · refine m_if_eq 94 hx hb dX6_turnOf_77 (by decide) (by omega) (fun h_29 => ?_) (fun h_29 => absurd h_29 (by omega))
          refine lv_goto (tgt := 203) hx hb dX6_turnOf_94 (by decide) ?_
          exact m_vret hx hb hlk hrt hH dX6_turnOf_203 ⟨f, n, a, g, sz, w, (⟨_, by unfold oTuA; rw [if_neg (by omega), if_neg (by omega), if_neg (by omega), if_neg (by omega), if_pos (by omega)]; exact oAt2_no (Or.inl rfl) hC⟩), hp, hwf, hag, ef, hf⟩
      · refine m_iconst 1 hx hb dX6_turnOf_57 rfl ?_
        refine lv_goto (tgt := 62) hx hb dX6_turnOf_58 (by decide) ?_
        refine lv_istore (lv' := [(5, .int (oI (1))), (4, .int (oI (((oMd x 8 : Nat) : Int)))), (3, .int (oI (((oMd (oDv x 8) 4 : Nat) : Int)))), (2, .int (oI (((oDv x 8 : Nat) : Int)))), (0, .ref (ad (j))), (1, .int (oI (((x : Nat) : Int))))]) hx hb dX6_turnOf_62 hl (by decide) rfl (fun ls hl => ?_)
        refine lv_aload_n hx hb dX6_turnOf_64 rfl (lv_at hl 4 rfl) ?_
        refine lv_iload_n hx hb dX6_turnOf_65 rfl (lv_at hl 2 rfl) ?_
        refine lv_iload_n hx hb dX6_turnOf_66 rfl (lv_at hl 3 rfl) ?_
        refine m_iconst 4 hx hb dX6_turnOf_67 rfl ?_
        refine m_idiv (((oDv (oDv x 8) 4 : Nat) : Int)) hx hb dX6_turnOf_68 (by omega) (by omega) (by first | rfl | (unfold oDv; omega)) ?_
        refine m_bipush 41 hx hb dX6_turnOf_69 (by decide) ?_
        refine m_irem (((oMd (oDv (oDv x 8) 4) 41 : Nat) : Int)) hx hb dX6_turnOf_71 (by omega) (by omega) (by first | rfl | (unfold oMd; omega)) ?_
        refine lv_iload hx hb dX6_turnOf_72 (lv_at hl 0 rfl) ?_
        refine m_pSb hx hb hml hown hts hK hH hl (rest := []) cw_X6_127 rfl (c6_canMark hA j n a g f sz w ((oMd (oDv x 8) 4 : Nat) : Int) ((oMd (oDv (oDv x 8) 4) 41 : Nat) : Int) 1 (by first | assumption | omega) (by first | assumption | omega) (by first | assumption | omega) (by first | assumption | omega) (by first | assumption | omega) (by first | assumption | omega) ef) ⟨Nat.le_of_ble_eq_true rfl, Nat.le_of_ble_eq_true rfl⟩ ⟨Nat.le_of_ble_eq_true rfl, Nat.le_of_ble_eq_true rfl⟩ rfl rfl (Nat.le_of_ble_eq_true rfl) dX6_turnOf_74 (fun hC H locs hH => ?_) (fun hC H locs hH => ?_)
        · refine m_if_eq 94 hx hb dX6_turnOf_77 (by decide) (by omega) (fun h_30 => absurd h_30 (by omega)) (fun h_30 => ?_)
          refine lv_aload_n hx hb dX6_turnOf_80 rfl (lv_at hl 4 rfl) ?_
          refine lv_iload_n hx hb dX6_turnOf_81 rfl (lv_at hl 2 rfl) ?_
          refine lv_iload_n hx hb dX6_turnOf_82 rfl (lv_at hl 3 rfl) ?_
          refine m_iconst 4 hx hb dX6_turnOf_83 rfl ?_
          refine m_idiv (((oDv (oDv x 8) 4 : Nat) : Int)) hx hb dX6_turnOf_84 (by omega) (by omega) (by first | rfl | (unfold oDv; omega)) ?_
          refine m_bipush 41 hx hb dX6_turnOf_85 (by decide) ?_
          refine m_irem (((oMd (oDv (oDv x 8) 4) 41 : Nat) : Int)) hx hb dX6_turnOf_87 (by omega) (by omega) (by first | rfl | (unfold oMd; omega)) ?_
          refine lv_iload hx hb dX6_turnOf_88 (lv_at hl 0 rfl) ?_
          have eS : oSize n sz ((oMd (oDv x 8) 4 : Nat) : Int) = sz (oMd (oDv x 8) 4) := oSize_in hC.1.1
          refine m_callSi hx hb hml hown hts hK hH hl (rest := []) cw_X6_131 rfl (c6_markOn hA j n a g f sz w (oMd (oDv x 8) 4) (oMd (oDv (oDv x 8) 4) 41) 1 (by first | assumption | omega) (by first | assumption | omega) (by first | assumption | omega) (by first | assumption | omega) (by first | assumption | omega) (by first | assumption | omega) (by first | assumption | omega) ef) ⟨Nat.le_of_ble_eq_true rfl, Nat.le_of_ble_eq_true rfl⟩ ⟨Nat.le_of_ble_eq_true rfl, Nat.le_of_ble_eq_true rfl⟩ rfl rfl (Nat.le_of_ble_eq_true rfl) dX6_turnOf_90 (fun r_34 σ_31 H locs hp_32 hH => ?_)
          obtain ⟨f5, rfl, hp5, hwf5, ef, hq_33⟩ := hp_32
          have hf : ∀ q : Nat, q ≠ j → σ_31 q = σ q := fun q n0 => (hq_33 q n0).trans (hf q n0)
          refine lv_pop hx hb dX6_turnOf_93 rfl ?_
          refine lv_goto (tgt := 203) hx hb dX6_turnOf_94 (by decide) ?_
          exact m_vret hx hb hlk hrt hH dX6_turnOf_203 ⟨f5, n, a, g, _, _, (⟨_, by unfold oTuA; rw [if_neg (by omega), if_neg (by omega), if_neg (by omega), if_neg (by omega), if_neg (by omega)]; exact oAt2_ok hC⟩), hp5, hwf5, hag, ef, hf⟩
        · refine m_if_eq 94 hx hb dX6_turnOf_77 (by decide) (by omega) (fun h_35 => ?_) (fun h_35 => absurd h_35 (by omega))
          refine lv_goto (tgt := 203) hx hb dX6_turnOf_94 (by decide) ?_
          exact m_vret hx hb hlk hrt hH dX6_turnOf_203 ⟨f, n, a, g, sz, w, (⟨_, by unfold oTuA; rw [if_neg (by omega), if_neg (by omega), if_neg (by omega), if_neg (by omega), if_neg (by omega)]; exact oAt2_no (Or.inr rfl) hC⟩), hp, hwf, hag, ef, hf⟩
  · refine lv_aload_n hx hb dX6_turnOf_20 rfl (lv_at hl 3 rfl) ?_
    refine m_iconst 0 hx hb dX6_turnOf_21 rfl ?_
    refine m_iald hx hb hK hH (k := j) (by omega) ef (0) (by omega) (by omega) (by decide) dX6_turnOf_22 ?_
    refine m_topI (((n : Nat) : Int)) (hp.1) ?_
    refine m_iconst 4 hx hb dX6_turnOf_23 rfl ?_
    refine m_icmp_ge 203 hx hb dX6_turnOf_24 (by decide) (by omega) (by omega) (fun h_36 => ?_) (fun h_36 => ?_)
    · exact m_vret hx hb hlk hrt hH dX6_turnOf_203 ⟨f, n, a, g, sz, w, (⟨_, by unfold oTuA; rw [if_pos (by omega)]; exact oAt1_no (by omega)⟩), hp, hwf, hag, ef, hf⟩
    · refine lv_aload_n hx hb dX6_turnOf_27 rfl (lv_at hl 3 rfl) ?_
      refine m_iconst 2 hx hb dX6_turnOf_28 rfl ?_
      refine lv_iload_n hx hb dX6_turnOf_29 rfl (lv_at hl 2 rfl) ?_
      refine m_bipush 39 hx hb dX6_turnOf_30 (by decide) ?_
      refine m_irem (((oMd (oDv x 8) 39 : Nat) : Int)) hx hb dX6_turnOf_32 (by omega) (by omega) (by first | rfl | (unfold oMd; omega)) ?_
      refine m_iadd (((oMd (oDv x 8) 39 : Nat) : Int) + 2) hx hb dX6_turnOf_33 (by omega) ?_
      refine m_topI (((oMd (oDv x 8) 39 + 2 : Nat) : Int)) (by omega) ?_
      refine m_callSi hx hb hml hown hts hK hH hl (rest := []) cw_X6_139 rfl (c6_rulerOn hA j n a g f sz w (oMd (oDv x 8) 39 + 2) (by first | assumption | omega) (by first | assumption | omega) (by first | assumption | omega) (by first | assumption | omega) (by first | assumption | omega) ef) ⟨Nat.le_of_ble_eq_true rfl, Nat.le_of_ble_eq_true rfl⟩ ⟨Nat.le_of_ble_eq_true rfl, Nat.le_of_ble_eq_true rfl⟩ rfl rfl (Nat.le_of_ble_eq_true rfl) dX6_turnOf_34 (fun r_40 σ_37 H locs hp_38 hH => ?_)
      obtain ⟨f5, rfl, hp5, ef, hq_39⟩ := hp_38
      have hf : ∀ q : Nat, q ≠ j → σ_37 q = σ q := fun q n0 => (hq_39 q n0).trans (hf q n0)
      refine lv_pop hx hb dX6_turnOf_37 rfl ?_
      refine lv_goto (tgt := 203) hx hb dX6_turnOf_38 (by decide) ?_
      exact m_vret hx hb hlk hrt hH dX6_turnOf_203 ⟨f5, (n + 1), a, g, _, _, (⟨_, by unfold oTuA; rw [if_pos (by omega)]; exact oAt1_ok (v := oMd (oDv x 8) 39 + 2) (by omega) (by omega) (by omega)⟩), hp5, (hwf.add (by omega) (by omega) (by omega)), hag, ef, hf⟩
set_option maxHeartbeats 4000000 in
set_option maxRecDepth 100000 in
theorem c6_simulate {l : Launch} {D : va_G} {cT : Nat → ClassId} {N b0 : Nat} {ad : Nat → Nat} (hA : oAd b0 N ad) {σ : Nat → va_E} (sd : Nat) (x : Int) (si ac6 spo ou6 : Nat) (rf : Int) (n a g : Nat) (f : Nat → Int) (sz w : Nat → Nat) (ft : Nat → Int) (s : Nat → Nat) (F R : Nat → Int) (hN : 76 ≤ N) (hwf : oWf n sz w) (hag : oAg a g) (hp : oRS f n a g sz w) (hsd : sd < 2 ^ 64) (hbx : -2147483648 ≤ x ∧ x < 2147483648) (eM6 : σ (65) = .inr (6, [.int (oI (rf)), .ref (ad (66)), .int (oI (((si : Nat) : Int))), .ref (ad (67)), .ref (ad (68)), .ref (ad (69)), .int (oI (((ac6 : Nat) : Int))), .ref (ad (70)), .ref (ad (71)), .ref (ad (72)), .ref (ad (73)), .ref (ad (74)), .int (oI (((spo : Nat) : Int))), .int (oI (((ou6 : Nat) : Int)))])) (e67 : σ (67) = oAI cT 171 f) (e68 : σ (68) = oAI cT 171 ft) (e72 : σ (72) = oAN cT 41 s) (e73 : σ (73) = oAI cT 201 F) (e74 : σ (74) = oAI cT 201 R) :
    oCi l D cT N ad b0 yX6_simulate cX6_simulate 7 (some .int) 5 116 [.ref (ad (65)), .long (lN (sd)), .int (oI (x))] σ (fun rr uu => ∃ v9 : Int, ∃ r9 : Int, ∃ g8 : Nat → Int, ∃ s2 : Nat → Nat, ∃ F2 : Nat → Int, ∃ R2 : Nat → Int, rr = oI (v9) ∧ (((1 ≤ x ∧ x ≤ 60) ∧ r9 = 0 ∧ ∃ (y1 n1 a1 g1 : Nat) (sz1 w1 : Nat → Nat), oSim sd n a g sz w x.toNat = (y1, n1, a1, g1, sz1, w1) ∧ v9 = ((n1 : Nat) : Int) + 10000 * ((oAllM n1 w1 4 : Nat) : Int) + 10 * ((oCnt (oOrW n1 w1 (-1) 4) a1 g1 : Nat) : Int)) ∨ (r9 = 1 ∧ ¬ (1 ≤ x ∧ x ≤ 60))) ∧ uu (65) = .inr (6, [.int (oI (r9)), .ref (ad (66)), .int (oI (((si : Nat) : Int))), .ref (ad (67)), .ref (ad (68)), .ref (ad (69)), .int (oI (((ac6 : Nat) : Int))), .ref (ad (70)), .ref (ad (71)), .ref (ad (72)), .ref (ad (73)), .ref (ad (74)), .int (oI (((spo : Nat) : Int))), .int (oI (((ou6 : Nat) : Int)))]) ∧ uu (68) = oAI cT 171 g8 ∧ uu (72) = oAN cT 41 s2 ∧ uu (73) = oAI cT 201 F2 ∧ uu (74) = oAI cT 201 R2 ∧ (∀ q : Nat, q ≠ 65 → q ≠ 68 → q ≠ 72 → q ≠ 73 → q ≠ 74 → uu q = σ q)) := by
  refine m_start (cc := cX6_simulate) (by decide) (Nat.le_of_ble_eq_true rfl) rfl ?_
  intro Pp Ee Ss Mm Bb Me Cc Ar ls hx hb hml hown hlk hrt hts hK hH hl
  have hown : Ss.vm.findClass RX6 = some Mm.cls := hown
  have hn := hwf.1
  have hl : lv_has ls 7 [(0, .ref (ad (65))), (1, .long (lN (sd))), (3, .int (oI (x)))] := hl
  have hf : ∀ q : Nat, q ≠ 65 → q ≠ 68 → q ≠ 72 → q ≠ 73 → q ≠ 74 → σ q = σ q := fun q _ _ _ _ _ => rfl
  refine lv_aload_n hx hb dX6_simulate_0 rfl (lv_at hl 0 rfl) ?_
  refine lv_iload_n hx hb dX6_simulate_1 rfl (lv_at hl 2 rfl) ?_
  refine m_i2l hx hb dX6_simulate_2 (by omega) ?_
  refine m_lconst 1 hx hb dX6_simulate_3 rfl ?_
  refine lv_ldc2 (v := 60) hx hb hown (hts _ kl_X6_230) dX6_simulate_4 ?_
  refine m_J2L 60 (by decide +kernel) ?_
  refine m_pSb hx hb hml hown hts hK hH hl (rest := [.ref (ad (65))]) cw_X6_46 rfl (c6_in hA x 1 60 (by first | assumption | omega) (by first | assumption | omega) (by first | assumption | omega) ) ⟨Nat.le_of_ble_eq_true rfl, Nat.le_of_ble_eq_true rfl⟩ ⟨Nat.le_of_ble_eq_true rfl, Nat.le_of_ble_eq_true rfl⟩ rfl rfl (Nat.le_of_ble_eq_true rfl) dX6_simulate_7 (fun hx6 H locs hH => ?_) (fun hx6 H locs hH => ?_)
  · refine m_if_eq 17 hx hb dX6_simulate_10 (by decide) (by omega) (fun h_1 => absurd h_1 (by omega)) (fun h_1 => ?_)
    refine m_iconst 0 hx hb dX6_simulate_13 rfl ?_
    refine lv_goto (tgt := 18) hx hb dX6_simulate_14 (by decide) ?_
    refine m_callVi hx hb hml hown hts hK hH hl (rest := []) cw_X6_111 (c6_ref0 hA si ac6 spo ou6 rf (by first | assumption | omega) eM6) ⟨Nat.le_of_ble_eq_true rfl, Nat.le_of_ble_eq_true rfl⟩ ⟨Nat.le_of_ble_eq_true rfl, Nat.le_of_ble_eq_true rfl⟩ rfl (k := 65) (by omega) eM6 rfl rfl (Nat.le_of_ble_eq_true rfl) dX6_simulate_18 (fun r_5 σ_2 H locs hp_3 hH => ?_)
    obtain ⟨rfl, eM6, hq_4⟩ := hp_3
    have e67 : σ_2 (67) = oAI cT 171 f := (hq_4 _ (by decide)).trans e67
    have e68 : σ_2 (68) = oAI cT 171 ft := (hq_4 _ (by decide)).trans e68
    have e72 : σ_2 (72) = oAN cT 41 s := (hq_4 _ (by decide)).trans e72
    have e73 : σ_2 (73) = oAI cT 201 F := (hq_4 _ (by decide)).trans e73
    have e74 : σ_2 (74) = oAI cT 201 R := (hq_4 _ (by decide)).trans e74
    have hf : ∀ q : Nat, q ≠ 65 → q ≠ 68 → q ≠ 72 → q ≠ 73 → q ≠ 74 → σ_2 q = σ q := fun q n0 n1 n2 n3 n4 => (hq_4 q n0).trans (hf q n0 n1 n2 n3 n4)
    refine m_if_eq 26 hx hb dX6_simulate_21 (by decide) (by omega) (fun h_6 => ?_) (fun h_6 => absurd h_6 (by omega))
    refine lv_aload_n hx hb dX6_simulate_26 rfl (lv_at hl 0 rfl) ?_
    refine gf_X6_now hx hb hts hown hK hH (k := 65) (by omega) eM6 dX6_simulate_27 ?_
    refine m_iconst 0 hx hb dX6_simulate_30 rfl ?_
    refine lv_aload_n hx hb dX6_simulate_31 rfl (lv_at hl 0 rfl) ?_
    refine gf_X6_trial hx hb hts hown hK hH (k := 65) (by omega) eM6 dX6_simulate_32 ?_
    refine m_iconst 0 hx hb dX6_simulate_35 rfl ?_
    refine m_callSv hx hb hml hown hts hK hH hl (rest := []) cw_X6_163 rfl (c6_copy11 hA 67 68 0 0 f ft (by first | assumption | omega) (by first | assumption | omega) (by first | assumption | omega) (by first | assumption | omega) (by first | assumption | omega) e67 e68) ⟨Nat.le_of_ble_eq_true rfl, Nat.le_of_ble_eq_true rfl⟩ ⟨Nat.le_of_ble_eq_true rfl, Nat.le_of_ble_eq_true rfl⟩ rfl rfl (Nat.le_of_ble_eq_true rfl) dX6_simulate_36 (fun σ_7 H locs hp_8 hH => ?_)
    obtain ⟨f9b, hcp, f_11, e68, hq_9⟩ := hp_8
    have eM6 : σ_7 (65) = .inr (6, [.int (oI (0)), .ref (ad (66)), .int (oI (((si : Nat) : Int))), .ref (ad (67)), .ref (ad (68)), .ref (ad (69)), .int (oI (((ac6 : Nat) : Int))), .ref (ad (70)), .ref (ad (71)), .ref (ad (72)), .ref (ad (73)), .ref (ad (74)), .int (oI (((spo : Nat) : Int))), .int (oI (((ou6 : Nat) : Int)))]) := (hq_9 _ (by decide)).trans eM6
    have e67 : σ_7 (67) = oAI cT 171 f := (hq_9 _ (by decide)).trans e67
    have e72 : σ_7 (72) = oAN cT 41 s := (hq_9 _ (by decide)).trans e72
    have e73 : σ_7 (73) = oAI cT 201 F := (hq_9 _ (by decide)).trans e73
    have e74 : σ_7 (74) = oAI cT 201 R := (hq_9 _ (by decide)).trans e74
    have hf : ∀ q : Nat, q ≠ 65 → q ≠ 68 → q ≠ 72 → q ≠ 73 → q ≠ 74 → σ_7 q = σ q := fun q n0 n1 n2 n3 n4 => (hq_9 q n1).trans (hf q n0 n1 n2 n3 n4)
    have hpt : oRS f9b n a g sz w := oRS_ext hp hn (fun k hk => hcp k hk)
    refine lv_lload_n hx hb dX6_simulate_39 rfl (lv_at hl 1 rfl) ?_
    refine lv_lstore (lv' := [(4, .long (lN (sd))), (0, .ref (ad (65))), (1, .long (lN (sd))), (3, .int (oI (x)))]) hx hb dX6_simulate_40 hl (by decide) rfl (fun ls hl => ?_)
    refine m_iconst 0 hx hb dX6_simulate_42 rfl ?_
    refine lv_istore (lv' := [(6, .int (oI (0))), (4, .long (lN (sd))), (0, .ref (ad (65))), (1, .long (lN (sd))), (3, .int (oI (x)))]) hx hb dX6_simulate_43 hl (by decide) rfl (fun ls hl => ?_)
    have L45 : ∀ (fu : Nat) (i : Nat) (y : Nat) (n3 : Nat) (a3 : Nat) (g3 : Nat) (s3 : Nat → Nat) (w3 : Nat → Nat) (f8 : Nat → Int), (61 - i < fu) → ((i : Int) ≤ x) → (y < 2 ^ 64) → (oSim sd n a g sz w i = (y, n3, a3, g3, s3, w3)) → (oWf n3 s3 w3) → (oAg a3 g3) → (oRS f8 n3 a3 g3 s3 w3) → ∀ σL45 : Nat → va_E, σL45 (68) = oAI cT 171 f8 → (∀ q : Nat, q ≠ 68 → σL45 q = σ_7 q) → ∀ (H : Heap) (locs : List Loc), oH b0 D N ad Ss.heap σL45 H locs → ∀ ls : Array Slot, lv_has ls 7 [(0, .ref (ad (65))), (3, .int (oI (x))), (4, .long (lN (y))), (6, .int (oI (((i : Nat) : Int))))] → W Pp l Ee { frames := 5, cells := 0, slots := 0, locals := 116 } Ss Mm Ar Bb Me Cc H locs 0 0 (MQ Bb (va_Qi (fun rr uu => ∃ v9 : Int, ∃ r9 : Int, ∃ g8 : Nat → Int, ∃ s2 : Nat → Nat, ∃ F2 : Nat → Int, ∃ R2 : Nat → Int, rr = oI (v9) ∧ (((1 ≤ x ∧ x ≤ 60) ∧ r9 = 0 ∧ ∃ (y1 n1 a1 g1 : Nat) (sz1 w1 : Nat → Nat), oSim sd n a g sz w x.toNat = (y1, n1, a1, g1, sz1, w1) ∧ v9 = ((n1 : Nat) : Int) + 10000 * ((oAllM n1 w1 4 : Nat) : Int) + 10 * ((oCnt (oOrW n1 w1 (-1) 4) a1 g1 : Nat) : Int)) ∨ (r9 = 1 ∧ ¬ (1 ≤ x ∧ x ≤ 60))) ∧ uu (65) = .inr (6, [.int (oI (r9)), .ref (ad (66)), .int (oI (((si : Nat) : Int))), .ref (ad (67)), .ref (ad (68)), .ref (ad (69)), .int (oI (((ac6 : Nat) : Int))), .ref (ad (70)), .ref (ad (71)), .ref (ad (72)), .ref (ad (73)), .ref (ad (74)), .int (oI (((spo : Nat) : Int))), .int (oI (((ou6 : Nat) : Int)))]) ∧ uu (68) = oAI cT 171 g8 ∧ uu (72) = oAN cT 41 s2 ∧ uu (73) = oAI cT 201 F2 ∧ uu (74) = oAI cT 201 R2 ∧ (∀ q : Nat, q ≠ 65 → q ≠ 68 → q ≠ 72 → q ≠ 73 → q ≠ 74 → uu q = σ q)) (oV D N ad) (fun q => b0 ≤ q)) Ar Ss 0 0 (fun q => b0 ≤ q)) (F0 Mm 45 ls []) := by
      intro fu45
      induction fu45 with
      | zero =>
        intro i y n3 a3 g3 s3 w3 f8 hm45
        exact absurd hm45 (Nat.not_lt_zero _)
      | succ fu45 ih45 =>
        intro i y n3 a3 g3 s3 w3 f8 hm45 hi hy hsim hwf3 hag3 hp3 σL45 e68 hL45 H locs hH ls hl
        have eM6 : σL45 (65) = .inr (6, [.int (oI (0)), .ref (ad (66)), .int (oI (((si : Nat) : Int))), .ref (ad (67)), .ref (ad (68)), .ref (ad (69)), .int (oI (((ac6 : Nat) : Int))), .ref (ad (70)), .ref (ad (71)), .ref (ad (72)), .ref (ad (73)), .ref (ad (74)), .int (oI (((spo : Nat) : Int))), .int (oI (((ou6 : Nat) : Int)))]) := (hL45 _ (by decide)).trans eM6
        have e67 : σL45 (67) = oAI cT 171 f := (hL45 _ (by decide)).trans e67
        have e72 : σL45 (72) = oAN cT 41 s := (hL45 _ (by decide)).trans e72
        have e73 : σL45 (73) = oAI cT 201 F := (hL45 _ (by decide)).trans e73
        have e74 : σL45 (74) = oAI cT 201 R := (hL45 _ (by decide)).trans e74
        have hf : ∀ q : Nat, q ≠ 65 → q ≠ 68 → q ≠ 72 → q ≠ 73 → q ≠ 74 → σL45 q = σ q := fun q n0 n1 n2 n3 n4 => (hL45 q n1).trans (hf q n0 n1 n2 n3 n4)
        refine lv_iload hx hb dX6_simulate_45 (lv_at hl 3 rfl) ?_
        refine lv_iload_n hx hb dX6_simulate_47 rfl (lv_at hl 1 rfl) ?_
        refine m_icmp_ge 82 hx hb dX6_simulate_48 (by decide) (by omega) (by omega) (fun h_12 => ?_) (fun h_12 => ?_)
        · refine m_sipush 10000 hx hb dX6_simulate_82 (by decide) ?_
          refine lv_aload_n hx hb dX6_simulate_85 rfl (lv_at hl 0 rfl) ?_
          refine gf_X6_trial hx hb hts hown hK hH (k := 65) (by omega) eM6 dX6_simulate_86 ?_
          have hal := oAllM_le n3 w3 4
          have hcl := oCnt_le (oOrW n3 w3 (-1) 4) a3 g3
          have hn34 := hwf3.1
          have hg31 := hag3.2
          refine m_pSi hx hb hml hown hts hK hH hl (rest := [.int (oI (10000))]) cw_X6_172 rfl (c6_allMarks hA 68 n3 a3 g3 f8 s3 w3 (by first | assumption | omega) (hwf3) (hp3) e68) ⟨Nat.le_of_ble_eq_true rfl, Nat.le_of_ble_eq_true rfl⟩ ⟨Nat.le_of_ble_eq_true rfl, Nat.le_of_ble_eq_true rfl⟩ rfl rfl (Nat.le_of_ble_eq_true rfl) dX6_simulate_89 (fun H locs hH => ?_)
          refine m_topI (((oAllM n3 w3 4 : Nat) : Int)) (by rw [oAllM_4 hn34]) ?_
          refine m_imul (10000 * ((oAllM n3 w3 4 : Nat) : Int)) hx hb dX6_simulate_92 (by omega) ?_
          refine m_bipush 10 hx hb dX6_simulate_93 (by decide) ?_
          refine lv_aload_n hx hb dX6_simulate_95 rfl (lv_at hl 0 rfl) ?_
          refine lv_aload_n hx hb dX6_simulate_96 rfl (lv_at hl 0 rfl) ?_
          refine gf_X6_trial hx hb hts hown hK hH (k := 65) (by omega) eM6 dX6_simulate_97 ?_
          refine m_callVi hx hb hml hown hts hK hH hl (rest := [.int (oI (10)), .int (oI (10000 * ((oAllM n3 w3 4 : Nat) : Int)))]) cw_X6_91 (c6_laid hA si ac6 spo ou6 0 68 n3 a3 g3 f8 s3 w3 s F R (by first | assumption | omega) (by first | assumption | omega) (hwf3) (hag3) (hp3) eM6 e68 e72 e73 e74) ⟨Nat.le_of_ble_eq_true rfl, Nat.le_of_ble_eq_true rfl⟩ ⟨Nat.le_of_ble_eq_true rfl, Nat.le_of_ble_eq_true rfl⟩ rfl (k := 65) (by omega) eM6 rfl rfl (Nat.le_of_ble_eq_true rfl) dX6_simulate_100 (fun r_16 σ_13 H locs hp_14 hH => ?_)
          obtain ⟨s6, F6, R6, rfl, f_17, f_18, e72, e73, e74, hq_15⟩ := hp_14
          have eM6 : σ_13 (65) = .inr (6, [.int (oI (0)), .ref (ad (66)), .int (oI (((si : Nat) : Int))), .ref (ad (67)), .ref (ad (68)), .ref (ad (69)), .int (oI (((ac6 : Nat) : Int))), .ref (ad (70)), .ref (ad (71)), .ref (ad (72)), .ref (ad (73)), .ref (ad (74)), .int (oI (((spo : Nat) : Int))), .int (oI (((ou6 : Nat) : Int)))]) := (hq_15 _ (by decide) (by decide) (by decide)).trans eM6
          have e67 : σ_13 (67) = oAI cT 171 f := (hq_15 _ (by decide) (by decide) (by decide)).trans e67
          have e68 : σ_13 (68) = oAI cT 171 f8 := (hq_15 _ (by decide) (by decide) (by decide)).trans e68
          have hf : ∀ q : Nat, q ≠ 65 → q ≠ 68 → q ≠ 72 → q ≠ 73 → q ≠ 74 → σ_13 q = σ q := fun q n0 n1 n2 n3 n4 => (hq_15 q n2 n3 n4).trans (hf q n0 n1 n2 n3 n4)
          refine m_imul (10 * ((oCnt (oOrW n3 w3 (-1) 4) a3 g3 : Nat) : Int)) hx hb dX6_simulate_103 (by omega) ?_
          refine m_iadd (10000 * ((oAllM n3 w3 4 : Nat) : Int) + 10 * ((oCnt (oOrW n3 w3 (-1) 4) a3 g3 : Nat) : Int)) hx hb dX6_simulate_104 (by omega) ?_
          refine lv_aload_n hx hb dX6_simulate_105 rfl (lv_at hl 0 rfl) ?_
          refine gf_X6_trial hx hb hts hown hK hH (k := 65) (by omega) eM6 dX6_simulate_106 ?_
          refine m_iconst 0 hx hb dX6_simulate_109 rfl ?_
          refine m_iald hx hb hK hH (k := 68) (by omega) e68 (0) (by omega) (by omega) (by decide) dX6_simulate_110 ?_
          refine m_topI (((n3 : Nat) : Int)) (hp3.1) ?_
          refine m_iadd (((n3 : Nat) : Int) + 10000 * ((oAllM n3 w3 4 : Nat) : Int) + 10 * ((oCnt (oOrW n3 w3 (-1) 4) a3 g3 : Nat) : Int)) hx hb dX6_simulate_111 (by omega) ?_
          exact m_iret hx hb hlk hrt hH (m_ni _) dX6_simulate_112 ⟨(((n3 : Nat) : Int) + 10000 * ((oAllM n3 w3 4 : Nat) : Int) + 10 * ((oCnt (oOrW n3 w3 (-1) 4) a3 g3 : Nat) : Int)), 0, f8, s6, F6, R6, congrArg oI (by omega), (Or.inl ⟨hx6, rfl, y, n3, a3, g3, s3, w3, by rw [show x.toNat = i by omega]; exact hsim, rfl⟩), eM6, e68, e72, e73, e74, hf⟩
        · refine lv_lload hx hb dX6_simulate_51 (lv_at hl 2 rfl) ?_
          refine lv_ldc2 (v := 6364136223846793005) hx hb hown (hts _ kl_X6_232) dX6_simulate_53 ?_
          refine m_J2N 6364136223846793005 (by decide +kernel) ?_
          refine m_lmulN (y * 6364136223846793005) hx hb dX6_simulate_56 (rfl) ?_
          refine lv_ldc2 (v := 1442695040888963407) hx hb hown (hts _ kl_X6_234) dX6_simulate_57 ?_
          refine m_J2N 1442695040888963407 (by decide +kernel) ?_
          obtain ⟨z9, hz9⟩ : ∃ z : Nat, oEq (((y * 6364136223846793005 + 1442695040888963407) % 2 ^ 64)) z := ⟨((y * 6364136223846793005 + 1442695040888963407) % 2 ^ 64), Eq.refl (((y * 6364136223846793005 + 1442695040888963407) % 2 ^ 64))⟩
          have hz964 : z9 < 2 ^ 64 := by rw [← (show ((y * 6364136223846793005 + 1442695040888963407) % 2 ^ 64) = z9 from hz9)]; exact Nat.mod_lt _ (Nat.pow_pos (by decide))
          have hq31 : z9 / 2 ^ 33 < 2147483648 := Nat.div_lt_of_lt_mul (Nat.lt_of_lt_of_le hz964 (by decide))
          refine m_laddN ((y * 6364136223846793005) + 1442695040888963407) hx hb dX6_simulate_60 (rfl) ?_
          refine m_topM (z9) (hz9) ?_
          refine lv_lstore (lv' := [(4, .long (lN (z9))), (0, .ref (ad (65))), (3, .int (oI (x))), (6, .int (oI (((i : Nat) : Int))))]) hx hb dX6_simulate_61 hl (by decide) rfl (fun ls hl => ?_)
          refine lv_aload_n hx hb dX6_simulate_63 rfl (lv_at hl 1 rfl) ?_
          refine gf_X6_trial hx hb hts hown hK hH (k := 65) (by omega) eM6 dX6_simulate_64 ?_
          refine lv_lload hx hb dX6_simulate_67 (lv_at hl 0 rfl) ?_
          refine m_bipush 33 hx hb dX6_simulate_69 (by decide) ?_
          refine m_lushr (z9 / 2 ^ 33) hx hb dX6_simulate_71 (hz964) (by omega) (by rw [show (33 : Int).toNat = 33 by omega]) ?_
          refine m_l2iN hx hb dX6_simulate_72 ?_
          refine m_callSv hx hb hml hown hts hK hH hl (rest := []) cw_X6_236 rfl (c6_turnOf hA 68 n3 a3 g3 f8 s3 w3 (z9 / 2 ^ 33) (by first | assumption | omega) (hwf3) (hp3) (hag3) (by first | assumption | omega) e68) ⟨Nat.le_of_ble_eq_true rfl, Nat.le_of_ble_eq_true rfl⟩ ⟨Nat.le_of_ble_eq_true rfl, Nat.le_of_ble_eq_true rfl⟩ rfl rfl (Nat.le_of_ble_eq_true rfl) dX6_simulate_73 (fun σ_19 H locs hp_20 hH => ?_)
          obtain ⟨f9, n4, a5, g4, s4, w4, hat, hp4, hwf4, hag4, e68, hq_21⟩ := hp_20
          have eM6 : σ_19 (65) = .inr (6, [.int (oI (0)), .ref (ad (66)), .int (oI (((si : Nat) : Int))), .ref (ad (67)), .ref (ad (68)), .ref (ad (69)), .int (oI (((ac6 : Nat) : Int))), .ref (ad (70)), .ref (ad (71)), .ref (ad (72)), .ref (ad (73)), .ref (ad (74)), .int (oI (((spo : Nat) : Int))), .int (oI (((ou6 : Nat) : Int)))]) := (hq_21 _ (by decide)).trans eM6
          have e67 : σ_19 (67) = oAI cT 171 f := (hq_21 _ (by decide)).trans e67
          have e72 : σ_19 (72) = oAN cT 41 s := (hq_21 _ (by decide)).trans e72
          have e73 : σ_19 (73) = oAI cT 201 F := (hq_21 _ (by decide)).trans e73
          have e74 : σ_19 (74) = oAI cT 201 R := (hq_21 _ (by decide)).trans e74
          have hf : ∀ q : Nat, q ≠ 65 → q ≠ 68 → q ≠ 72 → q ≠ 73 → q ≠ 74 → σ_19 q = σ q := fun q n0 n1 n2 n3 n4 => (hq_21 q n1).trans (hf q n0 n1 n2 n3 n4)
          have hL45 : ∀ q : Nat, q ≠ 68 → σ_19 q = σ_7 q := fun q n0 => (hq_21 q n0).trans (hL45 q n0)
          refine m_iinc (((i : Nat) : Int) + 1) [(6, .int (oI (((i : Nat) : Int) + 1))), (4, .long (lN (z9))), (0, .ref (ad (65))), (3, .int (oI (x)))] hx hb dX6_simulate_76 hl (j := 3) rfl (by omega) (by decide) rfl (fun ls hl => ?_)
          refine lv_goto (tgt := 45) hx hb dX6_simulate_79 (by decide) ?_
          exact ih45 (i + 1) z9 n4 a5 g4 s4 w4 f9 (by omega) (by first | assumption | omega) (hz964) (oSim_s hsim hz9 hat) (hwf4) (hag4) (hp4) _ e68 (hL45) _ _ hH ls (lv_sub hl [2, 3, 1, 0] rfl)
    exact L45 _ 0 sd n a g sz w f9b (Nat.lt_succ_self _) (by first | assumption | omega) (hsd) (rfl) (hwf) (hag) (hpt) _ e68 (fun q _ => rfl) _ _ hH ls (lv_sub hl [2, 4, 1, 0] rfl)
  · refine m_if_eq 17 hx hb dX6_simulate_10 (by decide) (by omega) (fun h_23 => ?_) (fun h_23 => absurd h_23 (by omega))
    refine m_iconst 1 hx hb dX6_simulate_17 rfl ?_
    refine m_callVi hx hb hml hown hts hK hH hl (rest := []) cw_X6_111 (c6_ref1 hA 1 si ac6 spo ou6 rf (by first | assumption | omega) (by first | assumption | omega) eM6) ⟨Nat.le_of_ble_eq_true rfl, Nat.le_of_ble_eq_true rfl⟩ ⟨Nat.le_of_ble_eq_true rfl, Nat.le_of_ble_eq_true rfl⟩ rfl (k := 65) (by omega) eM6 rfl rfl (Nat.le_of_ble_eq_true rfl) dX6_simulate_18 (fun r_27 σ_24 H locs hp_25 hH => ?_)
    obtain ⟨rfl, eM6, hq_26⟩ := hp_25
    have e67 : σ_24 (67) = oAI cT 171 f := (hq_26 _ (by decide)).trans e67
    have e68 : σ_24 (68) = oAI cT 171 ft := (hq_26 _ (by decide)).trans e68
    have e72 : σ_24 (72) = oAN cT 41 s := (hq_26 _ (by decide)).trans e72
    have e73 : σ_24 (73) = oAI cT 201 F := (hq_26 _ (by decide)).trans e73
    have e74 : σ_24 (74) = oAI cT 201 R := (hq_26 _ (by decide)).trans e74
    have hf : ∀ q : Nat, q ≠ 65 → q ≠ 68 → q ≠ 72 → q ≠ 73 → q ≠ 74 → σ_24 q = σ q := fun q n0 n1 n2 n3 n4 => (hq_26 q n0).trans (hf q n0 n1 n2 n3 n4)
    refine m_if_eq 26 hx hb dX6_simulate_21 (by decide) (by omega) (fun h_28 => absurd h_28 (by omega)) (fun h_28 => ?_)
    refine m_iconst 0 hx hb dX6_simulate_24 rfl ?_
    exact m_iret hx hb hlk hrt hH (m_ni _) dX6_simulate_25 ⟨0, 1, ft, s, F, R, rfl, (Or.inr ⟨rfl, hx6⟩), eM6, e68, e72, e73, e74, hf⟩
