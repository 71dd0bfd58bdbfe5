set_option maxHeartbeats 8000000 in
set_option maxRecDepth 100000 in
theorem c6_runScript1 {l : Launch} {D : va_G} {cT : Nat → ClassId} {N b0 : Nat} {ad : Nat → Nat} (hA : oAd b0 N ad) {σ : Nat → va_E} (sc : Int) (si ac6 spo ou6 : Nat) (rf : Int) (n a g : Nat) (f : Nat → Int) (sz w : Nat → Nat) (ft : Nat → Int) (s : Nat → Nat) (F R : Nat → Int) (hN : 76 ≤ N) (hwf : oWf n sz w) (hag : oAg a g) (hp : oRS f n a g sz w) (hsc : -9223372036854775808 ≤ sc ∧ sc < 9223372036854775808) (eM6 : σ (65) = .inr (6, [.int (oI (rf)), .ref (ad (66)), .int (oI (((si : Nat) : Int))), .ref (ad (67)), .ref (ad (68)), .ref (ad (69)), .int (oI (((ac6 : Nat) : Int))), .ref (ad (70)), .ref (ad (71)), .ref (ad (72)), .ref (ad (73)), .ref (ad (74)), .int (oI (((spo : Nat) : Int))), .int (oI (((ou6 : Nat) : Int)))])) (e67 : σ (67) = oAI cT 171 f) (e68 : σ (68) = oAI cT 171 ft) (e72 : σ (72) = oAN cT 41 s) (e73 : σ (73) = oAI cT 201 F) (e74 : σ (74) = oAI cT 201 R) :
    oCi l D cT N ad b0 yX6_runScript cX6_runScript 8 (some .int) 6 141 [.ref (ad (65)), .int (oI (1)), .long (oL (sc))] σ (fun rr uu => ∃ v9 : Int, ∃ r9 : Int, ∃ g8 : Nat → Int, ∃ s2 : Nat → Nat, ∃ F2 : Nat → Int, ∃ R2 : Nat → Int, rr = oI (v9) ∧ (((0 ≤ sc ∧ sc < 1000000) ∧ r9 = 0 ∧ v9 = oScr (oGl3 1 sc.toNat) 0 n a g sz w) ∨ (r9 = 1 ∧ ¬ (0 ≤ sc ∧ sc < 1000000))) ∧ uu (65) = .inr (6, [.int (oI (r9)), .ref (ad (66)), .int (oI (((si : Nat) : Int))), .ref (ad (67)), .ref (ad (68)), .ref (ad (69)), .int (oI (((ac6 : Nat) : Int))), .ref (ad (70)), .ref (ad (71)), .ref (ad (72)), .ref (ad (73)), .ref (ad (74)), .int (oI (((spo : Nat) : Int))), .int (oI (((ou6 : Nat) : Int)))]) ∧ uu (68) = oAI cT 171 g8 ∧ uu (72) = oAN cT 41 s2 ∧ uu (73) = oAI cT 201 F2 ∧ uu (74) = oAI cT 201 R2 ∧ (∀ q : Nat, q ≠ 65 → q ≠ 68 → q ≠ 72 → q ≠ 73 → q ≠ 74 → uu q = σ q)) := by
  refine m_start (cc := cX6_runScript) (by decide) (Nat.le_of_ble_eq_true rfl) rfl ?_
  intro Pp Ee Ss Mm Bb Me Cc Ar ls hx hb hml hown hlk hrt hts hK hH hl
  have hown : Ss.vm.findClass RX6 = some Mm.cls := hown
  have hn := hwf.1
  have hl : lv_has ls 8 [(0, .ref (ad (65))), (1, .int (oI (1))), (2, .long (oL (sc)))] := hl
  have hf : ∀ q : Nat, q ≠ 65 → q ≠ 68 → q ≠ 72 → q ≠ 73 → q ≠ 74 → σ q = σ q := fun q _ _ _ _ _ => rfl
  refine m_lconst 1 hx hb dX6_runScript_0 rfl ?_
  refine lv_lstore (lv' := [(4, .long (oL (1))), (0, .ref (ad (65))), (1, .int (oI (1))), (2, .long (oL (sc)))]) hx hb dX6_runScript_1 hl (by decide) rfl (fun ls hl => ?_)
  refine m_iconst 0 hx hb dX6_runScript_3 rfl ?_
  refine lv_istore (lv' := [(6, .int (oI (0))), (4, .long (oL (1))), (0, .ref (ad (65))), (1, .int (oI (1))), (2, .long (oL (sc)))]) hx hb dX6_runScript_4 hl (by decide) rfl (fun ls hl => ?_)
  refine lv_iload hx hb dX6_runScript_6 (lv_at hl 0 rfl) ?_
  refine lv_iload_n hx hb dX6_runScript_8 rfl (lv_at hl 3 rfl) ?_
  refine m_icmp_ge 32 hx hb dX6_runScript_9 (by decide) (by omega) (by omega) (fun h_1 => absurd h_1 (by omega)) (fun h_1 => ?_)
  refine lv_iload hx hb dX6_runScript_12 (lv_at hl 0 rfl) ?_
  refine m_iconst 3 hx hb dX6_runScript_14 rfl ?_
  refine m_icmp_ge 32 hx hb dX6_runScript_15 (by decide) (by omega) (by omega) (fun h_2 => absurd h_2 (by omega)) (fun h_2 => ?_)
  refine lv_lload hx hb dX6_runScript_18 (lv_at hl 1 rfl) ?_
  refine lv_ldc2 (v := 1000000) hx hb hown (hts _ kl_X6_224) dX6_runScript_20 ?_
  refine m_J2L 1000000 (by decide +kernel) ?_
  refine m_lmul (1000000) hx hb dX6_runScript_23 (by omega) ?_
  refine lv_lstore (lv' := [(4, .long (oL (1000000))), (6, .int (oI (0))), (0, .ref (ad (65))), (1, .int (oI (1))), (2, .long (oL (sc)))]) hx hb dX6_runScript_24 hl (by decide) rfl (fun ls hl => ?_)
  refine m_iinc (1) [(6, .int (oI (1))), (4, .long (oL (1000000))), (0, .ref (ad (65))), (1, .int (oI (1))), (2, .long (oL (sc)))] hx hb dX6_runScript_26 hl (j := 1) rfl (by omega) (by decide) rfl (fun ls hl => ?_)
  refine lv_goto (tgt := 6) hx hb dX6_runScript_29 (by decide) ?_
  refine lv_iload hx hb dX6_runScript_6 (lv_at hl 0 rfl) ?_
  refine lv_iload_n hx hb dX6_runScript_8 rfl (lv_at hl 3 rfl) ?_
  refine m_icmp_ge 32 hx hb dX6_runScript_9 (by decide) (by omega) (by omega) (fun h_3 => ?_) (fun h_3 => absurd h_3 (by omega))
  refine lv_aload_n hx hb dX6_runScript_32 rfl (lv_at hl 2 rfl) ?_
  refine lv_iload_n hx hb dX6_runScript_33 rfl (lv_at hl 3 rfl) ?_
  refine m_i2l hx hb dX6_runScript_34 (by omega) ?_
  refine m_lconst 1 hx hb dX6_runScript_35 rfl ?_
  refine lv_ldc2 (v := 3) hx hb hown (hts _ kl_X6_190) dX6_runScript_36 ?_
  refine m_J2L 3 (by decide +kernel) ?_
  refine m_pSb hx hb hml hown hts hK hH hl (rest := [.ref (ad (65))]) cw_X6_46 rfl (c6_in hA 1 1 3 (by first | assumption | omega) (by first | assumption | omega) (by first | assumption | omega) ) ⟨Nat.le_of_ble_eq_true rfl, Nat.le_of_ble_eq_true rfl⟩ ⟨Nat.le_of_ble_eq_true rfl, Nat.le_of_ble_eq_true rfl⟩ rfl rfl (Nat.le_of_ble_eq_true rfl) dX6_runScript_39 (fun h_4 H locs hH => ?_) (fun h_4 => absurd (by omega) h_4)
  refine m_if_eq 61 hx hb dX6_runScript_42 (by decide) (by omega) (fun h_5 => absurd h_5 (by omega)) (fun h_5 => ?_)
  refine lv_lload_n hx hb dX6_runScript_45 rfl (lv_at hl 4 rfl) ?_
  refine m_lconst 0 hx hb dX6_runScript_46 rfl ?_
  refine lv_lload hx hb dX6_runScript_47 (lv_at hl 1 rfl) ?_
  refine m_lconst 1 hx hb dX6_runScript_49 rfl ?_
  refine m_lsub (999999) hx hb dX6_runScript_50 (by omega) ?_
  refine m_pSb hx hb hml hown hts hK hH hl (rest := [.ref (ad (65))]) cw_X6_46 rfl (c6_in hA sc 0 999999 (by first | assumption | omega) (by first | assumption | omega) (by first | assumption | omega) ) ⟨Nat.le_of_ble_eq_true rfl, Nat.le_of_ble_eq_true rfl⟩ ⟨Nat.le_of_ble_eq_true rfl, Nat.le_of_ble_eq_true rfl⟩ rfl rfl (Nat.le_of_ble_eq_true rfl) dX6_runScript_51 (fun hsc9 H locs hH => ?_) (fun hsc9 H locs hH => ?_)
  · refine m_if_eq 61 hx hb dX6_runScript_54 (by decide) (by omega) (fun h_6 => absurd h_6 (by omega)) (fun h_6 => ?_)
    refine m_iconst 0 hx hb dX6_runScript_57 rfl ?_
    refine lv_goto (tgt := 62) hx hb dX6_runScript_58 (by decide) ?_
    refine m_callVi hx hb hml hown hts hK hH hl (rest := []) cw_X6_111 (c6_ref0 hA si ac6 spo ou6 rf (by first | assumption | omega) eM6) ⟨Nat.le_of_ble_eq_true rfl, Nat.le_of_ble_eq_true rfl⟩ ⟨Nat.le_of_ble_eq_true rfl, Nat.le_of_ble_eq_true rfl⟩ rfl (k := 65) (by omega) eM6 rfl rfl (Nat.le_of_ble_eq_true rfl) dX6_runScript_62 (fun r_10 σ_7 H locs hp_8 hH => ?_)
    obtain ⟨rfl, eM6, hq_9⟩ := hp_8
    have e67 : σ_7 (67) = oAI cT 171 f := (hq_9 _ (by decide)).trans e67
    have e68 : σ_7 (68) = oAI cT 171 ft := (hq_9 _ (by decide)).trans e68
    have e72 : σ_7 (72) = oAN cT 41 s := (hq_9 _ (by decide)).trans e72
    have e73 : σ_7 (73) = oAI cT 201 F := (hq_9 _ (by decide)).trans e73
    have e74 : σ_7 (74) = oAI cT 201 R := (hq_9 _ (by decide)).trans e74
    have hf : ∀ q : Nat, q ≠ 65 → q ≠ 68 → q ≠ 72 → q ≠ 73 → q ≠ 74 → σ_7 q = σ q := fun q n0 n1 n2 n3 n4 => (hq_9 q n0).trans (hf q n0 n1 n2 n3 n4)
    refine m_if_eq 70 hx hb dX6_runScript_65 (by decide) (by omega) (fun h_11 => ?_) (fun h_11 => absurd h_11 (by omega))
    refine lv_aload_n hx hb dX6_runScript_70 rfl (lv_at hl 2 rfl) ?_
    refine gf_X6_now hx hb hts hown hK hH (k := 65) (by omega) eM6 dX6_runScript_71 ?_
    refine m_iconst 0 hx hb dX6_runScript_74 rfl ?_
    refine lv_aload_n hx hb dX6_runScript_75 rfl (lv_at hl 2 rfl) ?_
    refine gf_X6_trial hx hb hts hown hK hH (k := 65) (by omega) eM6 dX6_runScript_76 ?_
    refine m_iconst 0 hx hb dX6_runScript_79 rfl ?_
    refine m_callSv hx hb hml hown hts hK hH hl (rest := []) cw_X6_163 rfl (c6_copy11 hA 67 68 0 0 f ft (by first | assumption | omega) (by first | assumption | omega) (by first | assumption | omega) (by first | assumption | omega) (by first | assumption | omega) e67 e68) ⟨Nat.le_of_ble_eq_true rfl, Nat.le_of_ble_eq_true rfl⟩ ⟨Nat.le_of_ble_eq_true rfl, Nat.le_of_ble_eq_true rfl⟩ rfl rfl (Nat.le_of_ble_eq_true rfl) dX6_runScript_80 (fun σ_12 H locs hp_13 hH => ?_)
    obtain ⟨f9b, hcp, f_16, e68, hq_14⟩ := hp_13
    have eM6 : σ_12 (65) = .inr (6, [.int (oI (0)), .ref (ad (66)), .int (oI (((si : Nat) : Int))), .ref (ad (67)), .ref (ad (68)), .ref (ad (69)), .int (oI (((ac6 : Nat) : Int))), .ref (ad (70)), .ref (ad (71)), .ref (ad (72)), .ref (ad (73)), .ref (ad (74)), .int (oI (((spo : Nat) : Int))), .int (oI (((ou6 : Nat) : Int)))]) := (hq_14 _ (by decide)).trans eM6
    have e67 : σ_12 (67) = oAI cT 171 f := (hq_14 _ (by decide)).trans e67
    have e72 : σ_12 (72) = oAN cT 41 s := (hq_14 _ (by decide)).trans e72
    have e73 : σ_12 (73) = oAI cT 201 F := (hq_14 _ (by decide)).trans e73
    have e74 : σ_12 (74) = oAI cT 201 R := (hq_14 _ (by decide)).trans e74
    have hf : ∀ q : Nat, q ≠ 65 → q ≠ 68 → q ≠ 72 → q ≠ 73 → q ≠ 74 → σ_12 q = σ q := fun q n0 n1 n2 n3 n4 => (hq_14 q n1).trans (hf q n0 n1 n2 n3 n4)
    have hpt : oRS f9b n a g sz w := oRS_ext hp hn (fun k hk => hcp k hk)
    refine m_iconst 0 hx hb dX6_runScript_83 rfl ?_
    refine lv_istore (lv' := [(6, .int (oI (0))), (4, .long (oL (1000000))), (0, .ref (ad (65))), (1, .int (oI (1))), (2, .long (oL (sc)))]) hx hb dX6_runScript_84 hl (by decide) rfl (fun ls hl => ?_)
    refine lv_iload hx hb dX6_runScript_86 (lv_at hl 0 rfl) ?_
    refine lv_iload_n hx hb dX6_runScript_88 rfl (lv_at hl 3 rfl) ?_
    refine m_icmp_ge 137 hx hb dX6_runScript_89 (by decide) (by omega) (by omega) (fun h_17 => absurd h_17 (by omega)) (fun h_17 => ?_)
    refine lv_lload hx hb dX6_runScript_92 (lv_at hl 1 rfl) ?_
    refine lv_ldc2 (v := 1000000) hx hb hown (hts _ kl_X6_224) dX6_runScript_94 ?_
    refine m_J2L 1000000 (by decide +kernel) ?_
    refine m_ldiv (1) hx hb dX6_runScript_97 (by omega) (by omega) (by decide) ?_
    refine lv_lstore (lv' := [(4, .long (oL (1))), (6, .int (oI (0))), (0, .ref (ad (65))), (1, .int (oI (1))), (2, .long (oL (sc)))]) hx hb dX6_runScript_98 hl (by decide) rfl (fun ls hl => ?_)
    refine lv_lload_n hx hb dX6_runScript_100 rfl (lv_at hl 4 rfl) ?_
    refine lv_lload hx hb dX6_runScript_101 (lv_at hl 0 rfl) ?_
    refine m_ldiv (((sc.toNat : Nat) : Int)) hx hb dX6_runScript_103 (by omega) (by omega) (by omega) ?_
    refine lv_ldc2 (v := 1000000) hx hb hown (hts _ kl_X6_224) dX6_runScript_104 ?_
    refine m_J2L 1000000 (by decide +kernel) ?_
    refine m_lrem (((sc.toNat % 1000000 : Nat) : Int)) hx hb dX6_runScript_107 (by omega) (by omega) (by omega) ?_
    refine m_l2i hx hb dX6_runScript_108 ?_
    refine lv_istore (lv' := [(7, .int (oI (((sc.toNat % 1000000 : Nat) : Int)))), (4, .long (oL (1))), (6, .int (oI (0))), (0, .ref (ad (65))), (1, .int (oI (1))), (2, .long (oL (sc)))]) hx hb dX6_runScript_109 hl (by decide) rfl (fun ls hl => ?_)
    obtain ⟨h5_0, d4_0, d3_0, d2_0, d1_0, d0_0, hdg_0, hd5_0, hd9_0⟩ := oDig (x := sc.toNat % 1000000) (Nat.mod_lt _ (by decide))
    obtain ⟨v5_0, hv5_0⟩ : ∃ y : Nat, y = 10000 * d4_0 + 1000 * d3_0 + 100 * d2_0 + 10 * d1_0 + d0_0 := ⟨_, rfl⟩
    have hxv_0 : sc.toNat % 1000000 = 100000 * h5_0 + v5_0 := by rw [hv5_0, hdg_0]; omega
    have hvb_0 : v5_0 < 100000 := by omega
    refine lv_aload_n hx hb dX6_runScript_111 rfl (lv_at hl 3 rfl) ?_
    refine lv_iload hx hb dX6_runScript_112 (lv_at hl 0 rfl) ?_
    refine lv_ldc (v := 100000) hx hb hown (hts _ kl_X6_226) dX6_runScript_114 ?_
    refine m_i2I 100000 (by decide +kernel) ?_
    refine m_idiv (((h5_0 : Nat) : Int)) hx hb dX6_runScript_116 (by omega) (by omega) (by omega) ?_
    refine lv_iload hx hb dX6_runScript_117 (lv_at hl 0 rfl) ?_
    refine lv_ldc (v := 100000) hx hb hown (hts _ kl_X6_226) dX6_runScript_119 ?_
    refine m_i2I 100000 (by decide +kernel) ?_
    refine m_irem (((v5_0 : Nat) : Int)) hx hb dX6_runScript_121 (by omega) (by omega) (by omega) ?_
    refine m_callVi hx hb hml hown hts hK hH hl (rest := []) cw_X6_227 (c6_command hA (sc.toNat % 1000000) h5_0 v5_0 d4_0 d3_0 d2_0 d1_0 d0_0 si ac6 spo ou6 0 n a g f9b sz w s F R (by first | assumption | omega) (hwf) (hag) (hpt) (hxv_0) (hv5_0) (hd5_0) (hd9_0) eM6 e68 e72 e73 e74) ⟨Nat.le_of_ble_eq_true rfl, Nat.le_of_ble_eq_true rfl⟩ ⟨Nat.le_of_ble_eq_true rfl, Nat.le_of_ble_eq_true rfl⟩ rfl (k := 65) (by omega) eM6 rfl rfl (Nat.le_of_ble_eq_true rfl) dX6_runScript_122 (fun r_21 σ_18 H locs hp_19 hH => ?_)
    obtain ⟨rt_1, n_1, a_1, g_1, sz_1, w_1, f8_1, s_1, F_1, R_1, rfl, hrt_1, hg0, hp_1, hwf_1, hag_1, e68, e72, e73, e74, hq_20⟩ := hp_19
    have eM6 : σ_18 (65) = .inr (6, [.int (oI (0)), .ref (ad (66)), .int (oI (((si : Nat) : Int))), .ref (ad (67)), .ref (ad (68)), .ref (ad (69)), .int (oI (((ac6 : Nat) : Int))), .ref (ad (70)), .ref (ad (71)), .ref (ad (72)), .ref (ad (73)), .ref (ad (74)), .int (oI (((spo : Nat) : Int))), .int (oI (((ou6 : Nat) : Int)))]) := (hq_20 _ (by decide) (by decide) (by decide) (by decide)).trans eM6
    have e67 : σ_18 (67) = oAI cT 171 f := (hq_20 _ (by decide) (by decide) (by decide) (by decide)).trans e67
    have hf : ∀ q : Nat, q ≠ 65 → q ≠ 68 → q ≠ 72 → q ≠ 73 → q ≠ 74 → σ_18 q = σ q := fun q n0 n1 n2 n3 n4 => (hq_20 q n1 n2 n3 n4).trans (hf q n0 n1 n2 n3 n4)
    refine m_if_ne 131 hx hb dX6_runScript_125 (by decide) (by omega) (fun hz0 => ?_) (fun hz0 => ?_)
    · refine m_iinc (1) [(6, .int (oI (1))), (7, .int (oI (((sc.toNat % 1000000 : Nat) : Int)))), (4, .long (oL (1))), (0, .ref (ad (65))), (1, .int (oI (1))), (2, .long (oL (sc)))] hx hb dX6_runScript_131 hl (j := 2) rfl (by omega) (by decide) rfl (fun ls hl => ?_)
      refine lv_goto (tgt := 86) hx hb dX6_runScript_134 (by decide) ?_
      refine lv_iload hx hb dX6_runScript_86 (lv_at hl 0 rfl) ?_
      refine lv_iload_n hx hb dX6_runScript_88 rfl (lv_at hl 4 rfl) ?_
      refine m_icmp_ge 137 hx hb dX6_runScript_89 (by decide) (by omega) (by omega) (fun h_23 => ?_) (fun h_23 => absurd h_23 (by omega))
      refine m_iconst (-1) hx hb dX6_runScript_137 rfl ?_
      exact m_iret hx hb hlk hrt hH (m_ni _) dX6_runScript_138 ⟨(-1), 0, f8_1, s_1, F_1, R_1, rfl, (Or.inl ⟨by omega, rfl, by rw [oGl3_1]; exact ((oScr_go hg0 hz0).trans (oScr_nil _ _ _ _ _ _)).symm⟩), eM6, e68, e72, e73, e74, hf⟩
    · refine lv_iload hx hb dX6_runScript_128 (lv_at hl 2 rfl) ?_
      exact m_iret hx hb hlk hrt hH (m_ni _) dX6_runScript_130 ⟨0, 0, f8_1, s_1, F_1, R_1, rfl, (Or.inl ⟨by omega, rfl, by rw [oGl3_1]; exact (oScr_no hg0 hz0).symm⟩), eM6, e68, e72, e73, e74, hf⟩
  · refine m_if_eq 61 hx hb dX6_runScript_54 (by decide) (by omega) (fun h_24 => ?_) (fun h_24 => absurd h_24 (by omega))
    refine m_iconst 1 hx hb dX6_runScript_61 rfl ?_
    refine m_callVi hx hb hml hown hts hK hH hl (rest := []) cw_X6_111 (c6_ref1 hA 1 si ac6 spo ou6 rf (by first | assumption | omega) (by first | assumption | omega) eM6) ⟨Nat.le_of_ble_eq_true rfl, Nat.le_of_ble_eq_true rfl⟩ ⟨Nat.le_of_ble_eq_true rfl, Nat.le_of_ble_eq_true rfl⟩ rfl (k := 65) (by omega) eM6 rfl rfl (Nat.le_of_ble_eq_true rfl) dX6_runScript_62 (fun r_28 σ_25 H locs hp_26 hH => ?_)
    obtain ⟨rfl, eM6, hq_27⟩ := hp_26
    have e67 : σ_25 (67) = oAI cT 171 f := (hq_27 _ (by decide)).trans e67
    have e68 : σ_25 (68) = oAI cT 171 ft := (hq_27 _ (by decide)).trans e68
    have e72 : σ_25 (72) = oAN cT 41 s := (hq_27 _ (by decide)).trans e72
    have e73 : σ_25 (73) = oAI cT 201 F := (hq_27 _ (by decide)).trans e73
    have e74 : σ_25 (74) = oAI cT 201 R := (hq_27 _ (by decide)).trans e74
    have hf : ∀ q : Nat, q ≠ 65 → q ≠ 68 → q ≠ 72 → q ≠ 73 → q ≠ 74 → σ_25 q = σ q := fun q n0 n1 n2 n3 n4 => (hq_27 q n0).trans (hf q n0 n1 n2 n3 n4)
    refine m_if_eq 70 hx hb dX6_runScript_65 (by decide) (by omega) (fun h_29 => absurd h_29 (by omega)) (fun h_29 => ?_)
    refine m_iconst 0 hx hb dX6_runScript_68 rfl ?_
    exact m_iret hx hb hlk hrt hH (m_ni _) dX6_runScript_69 ⟨0, 1, ft, s, F, R, rfl, (Or.inr ⟨rfl, by omega⟩), eM6, e68, e72, e73, e74, hf⟩
set_option maxHeartbeats 8000000 in
set_option maxRecDepth 100000 in
theorem c6_runScript2 {l : Launch} {D : va_G} {cT : Nat → ClassId} {N b0 : Nat} {ad : Nat → Nat} (hA : oAd b0 N ad) {σ : Nat → va_E} (sc : Int) (si ac6 spo ou6 : Nat) (rf : Int) (n a g : Nat) (f : Nat → Int) (sz w : Nat → Nat) (ft : Nat → Int) (s : Nat → Nat) (F R : Nat → Int) (hN : 76 ≤ N) (hwf : oWf n sz w) (hag : oAg a g) (hp : oRS f n a g sz w) (hsc : -9223372036854775808 ≤ sc ∧ sc < 9223372036854775808) (eM6 : σ (65) = .inr (6, [.int (oI (rf)), .ref (ad (66)), .int (oI (((si : Nat) : Int))), .ref (ad (67)), .ref (ad (68)), .ref (ad (69)), .int (oI (((ac6 : Nat) : Int))), .ref (ad (70)), .ref (ad (71)), .ref (ad (72)), .ref (ad (73)), .ref (ad (74)), .int (oI (((spo : Nat) : Int))), .int (oI (((ou6 : Nat) : Int)))])) (e67 : σ (67) = oAI cT 171 f) (e68 : σ (68) = oAI cT 171 ft) (e72 : σ (72) = oAN cT 41 s) (e73 : σ (73) = oAI cT 201 F) (e74 : σ (74) = oAI cT 201 R) :
    oCi l D cT N ad b0 yX6_runScript cX6_runScript 8 (some .int) 6 141 [.ref (ad (65)), .int (oI (2)), .long (oL (sc))] σ (fun rr uu => ∃ v9 : Int, ∃ r9 : Int, ∃ g8 : Nat → Int, ∃ s2 : Nat → Nat, ∃ F2 : Nat → Int, ∃ R2 : Nat → Int, rr = oI (v9) ∧ (((0 ≤ sc ∧ sc < 1000000000000) ∧ r9 = 0 ∧ v9 = oScr (oGl3 2 sc.toNat) 0 n a g sz w) ∨ (r9 = 1 ∧ ¬ (0 ≤ sc ∧ sc < 1000000000000))) ∧ uu (65) = .inr (6, [.int (oI (r9)), .ref (ad (66)), .int (oI (((si : Nat) : Int))), .ref (ad (67)), .ref (ad (68)), .ref (ad (69)), .int (oI (((ac6 : Nat) : Int))), .ref (ad (70)), .ref (ad (71)), .ref (ad (72)), .ref (ad (73)), .ref (ad (74)), .int (oI (((spo : Nat) : Int))), .int (oI (((ou6 : Nat) : Int)))]) ∧ uu (68) = oAI cT 171 g8 ∧ uu (72) = oAN cT 41 s2 ∧ uu (73) = oAI cT 201 F2 ∧ uu (74) = oAI cT 201 R2 ∧ (∀ q : Nat, q ≠ 65 → q ≠ 68 → q ≠ 72 → q ≠ 73 → q ≠ 74 → uu q = σ q)) := by
  refine m_start (cc := cX6_runScript) (by decide) (Nat.le_of_ble_eq_true rfl) rfl ?_
  intro Pp Ee Ss Mm Bb Me Cc Ar ls hx hb hml hown hlk hrt hts hK hH hl
  have hown : Ss.vm.findClass RX6 = some Mm.cls := hown
  have hn := hwf.1
  have hl : lv_has ls 8 [(0, .ref (ad (65))), (1, .int (oI (2))), (2, .long (oL (sc)))] := hl
  have hf : ∀ q : Nat, q ≠ 65 → q ≠ 68 → q ≠ 72 → q ≠ 73 → q ≠ 74 → σ q = σ q := fun q _ _ _ _ _ => rfl
  refine m_lconst 1 hx hb dX6_runScript_0 rfl ?_
  refine lv_lstore (lv' := [(4, .long (oL (1))), (0, .ref (ad (65))), (1, .int (oI (2))), (2, .long (oL (sc)))]) hx hb dX6_runScript_1 hl (by decide) rfl (fun ls hl => ?_)
  refine m_iconst 0 hx hb dX6_runScript_3 rfl ?_
  refine lv_istore (lv' := [(6, .int (oI (0))), (4, .long (oL (1))), (0, .ref (ad (65))), (1, .int (oI (2))), (2, .long (oL (sc)))]) hx hb dX6_runScript_4 hl (by decide) rfl (fun ls hl => ?_)
  refine lv_iload hx hb dX6_runScript_6 (lv_at hl 0 rfl) ?_
  refine lv_iload_n hx hb dX6_runScript_8 rfl (lv_at hl 3 rfl) ?_
  refine m_icmp_ge 32 hx hb dX6_runScript_9 (by decide) (by omega) (by omega) (fun h_1 => absurd h_1 (by omega)) (fun h_1 => ?_)
  refine lv_iload hx hb dX6_runScript_12 (lv_at hl 0 rfl) ?_
  refine m_iconst 3 hx hb dX6_runScript_14 rfl ?_
  refine m_icmp_ge 32 hx hb dX6_runScript_15 (by decide) (by omega) (by omega) (fun h_2 => absurd h_2 (by omega)) (fun h_2 => ?_)
  refine lv_lload hx hb dX6_runScript_18 (lv_at hl 1 rfl) ?_
  refine lv_ldc2 (v := 1000000) hx hb hown (hts _ kl_X6_224) dX6_runScript_20 ?_
  refine m_J2L 1000000 (by decide +kernel) ?_
  refine m_lmul (1000000) hx hb dX6_runScript_23 (by omega) ?_
  refine lv_lstore (lv' := [(4, .long (oL (1000000))), (6, .int (oI (0))), (0, .ref (ad (65))), (1, .int (oI (2))), (2, .long (oL (sc)))]) hx hb dX6_runScript_24 hl (by decide) rfl (fun ls hl => ?_)
  refine m_iinc (1) [(6, .int (oI (1))), (4, .long (oL (1000000))), (0, .ref (ad (65))), (1, .int (oI (2))), (2, .long (oL (sc)))] hx hb dX6_runScript_26 hl (j := 1) rfl (by omega) (by decide) rfl (fun ls hl => ?_)
  refine lv_goto (tgt := 6) hx hb dX6_runScript_29 (by decide) ?_
  refine lv_iload hx hb dX6_runScript_6 (lv_at hl 0 rfl) ?_
  refine lv_iload_n hx hb dX6_runScript_8 rfl (lv_at hl 3 rfl) ?_
  refine m_icmp_ge 32 hx hb dX6_runScript_9 (by decide) (by omega) (by omega) (fun h_3 => absurd h_3 (by omega)) (fun h_3 => ?_)
  refine lv_iload hx hb dX6_runScript_12 (lv_at hl 0 rfl) ?_
  refine m_iconst 3 hx hb dX6_runScript_14 rfl ?_
  refine m_icmp_ge 32 hx hb dX6_runScript_15 (by decide) (by omega) (by omega) (fun h_4 => absurd h_4 (by omega)) (fun h_4 => ?_)
  refine lv_lload hx hb dX6_runScript_18 (lv_at hl 1 rfl) ?_
  refine lv_ldc2 (v := 1000000) hx hb hown (hts _ kl_X6_224) dX6_runScript_20 ?_
  refine m_J2L 1000000 (by decide +kernel) ?_
  refine m_lmul (1000000000000) hx hb dX6_runScript_23 (by omega) ?_
  refine lv_lstore (lv' := [(4, .long (oL (1000000000000))), (6, .int (oI (1))), (0, .ref (ad (65))), (1, .int (oI (2))), (2, .long (oL (sc)))]) hx hb dX6_runScript_24 hl (by decide) rfl (fun ls hl => ?_)
  refine m_iinc (2) [(6, .int (oI (2))), (4, .long (oL (1000000000000))), (0, .ref (ad (65))), (1, .int (oI (2))), (2, .long (oL (sc)))] hx hb dX6_runScript_26 hl (j := 1) rfl (by omega) (by decide) rfl (fun ls hl => ?_)
  refine lv_goto (tgt := 6) hx hb dX6_runScript_29 (by decide) ?_
  refine lv_iload hx hb dX6_runScript_6 (lv_at hl 0 rfl) ?_
  refine lv_iload_n hx hb dX6_runScript_8 rfl (lv_at hl 3 rfl) ?_
  refine m_icmp_ge 32 hx hb dX6_runScript_9 (by decide) (by omega) (by omega) (fun h_5 => ?_) (fun h_5 => absurd h_5 (by omega))
  refine lv_aload_n hx hb dX6_runScript_32 rfl (lv_at hl 2 rfl) ?_
  refine lv_iload_n hx hb dX6_runScript_33 rfl (lv_at hl 3 rfl) ?_
  refine m_i2l hx hb dX6_runScript_34 (by omega) ?_
  refine m_lconst 1 hx hb dX6_runScript_35 rfl ?_
  refine lv_ldc2 (v := 3) hx hb hown (hts _ kl_X6_190) dX6_runScript_36 ?_
  refine m_J2L 3 (by decide +kernel) ?_
  refine m_pSb hx hb hml hown hts hK hH hl (rest := [.ref (ad (65))]) cw_X6_46 rfl (c6_in hA 2 1 3 (by first | assumption | omega) (by first | assumption | omega) (by first | assumption | omega) ) ⟨Nat.le_of_ble_eq_true rfl, Nat.le_of_ble_eq_true rfl⟩ ⟨Nat.le_of_ble_eq_true rfl, Nat.le_of_ble_eq_true rfl⟩ rfl rfl (Nat.le_of_ble_eq_true rfl) dX6_runScript_39 (fun h_6 H locs hH => ?_) (fun h_6 => absurd (by omega) h_6)
  refine m_if_eq 61 hx hb dX6_runScript_42 (by decide) (by omega) (fun h_7 => absurd h_7 (by omega)) (fun h_7 => ?_)
  refine lv_lload_n hx hb dX6_runScript_45 rfl (lv_at hl 4 rfl) ?_
  refine m_lconst 0 hx hb dX6_runScript_46 rfl ?_
  refine lv_lload hx hb dX6_runScript_47 (lv_at hl 1 rfl) ?_
  refine m_lconst 1 hx hb dX6_runScript_49 rfl ?_
  refine m_lsub (999999999999) hx hb dX6_runScript_50 (by omega) ?_
  refine m_pSb hx hb hml hown hts hK hH hl (rest := [.ref (ad (65))]) cw_X6_46 rfl (c6_in hA sc 0 999999999999 (by first | assumption | omega) (by first | assumption | omega) (by first | assumption | omega) ) ⟨Nat.le_of_ble_eq_true rfl, Nat.le_of_ble_eq_true rfl⟩ ⟨Nat.le_of_ble_eq_true rfl, Nat.le_of_ble_eq_true rfl⟩ rfl rfl (Nat.le_of_ble_eq_true rfl) dX6_runScript_51 (fun hsc9 H locs hH => ?_) (fun hsc9 H locs hH => ?_)
  · refine m_if_eq 61 hx hb dX6_runScript_54 (by decide) (by omega) (fun h_8 => absurd h_8 (by omega)) (fun h_8 => ?_)
    refine m_iconst 0 hx hb dX6_runScript_57 rfl ?_
    refine lv_goto (tgt := 62) hx hb dX6_runScript_58 (by decide) ?_
    refine m_callVi hx hb hml hown hts hK hH hl (rest := []) cw_X6_111 (c6_ref0 hA si ac6 spo ou6 rf (by first | assumption | omega) eM6) ⟨Nat.le_of_ble_eq_true rfl, Nat.le_of_ble_eq_true rfl⟩ ⟨Nat.le_of_ble_eq_true rfl, Nat.le_of_ble_eq_true rfl⟩ rfl (k := 65) (by omega) eM6 rfl rfl (Nat.le_of_ble_eq_true rfl) dX6_runScript_62 (fun r_12 σ_9 H locs hp_10 hH => ?_)
    obtain ⟨rfl, eM6, hq_11⟩ := hp_10
    have e67 : σ_9 (67) = oAI cT 171 f := (hq_11 _ (by decide)).trans e67
    have e68 : σ_9 (68) = oAI cT 171 ft := (hq_11 _ (by decide)).trans e68
    have e72 : σ_9 (72) = oAN cT 41 s := (hq_11 _ (by decide)).trans e72
    have e73 : σ_9 (73) = oAI cT 201 F := (hq_11 _ (by decide)).trans e73
    have e74 : σ_9 (74) = oAI cT 201 R := (hq_11 _ (by decide)).trans e74
    have hf : ∀ q : Nat, q ≠ 65 → q ≠ 68 → q ≠ 72 → q ≠ 73 → q ≠ 74 → σ_9 q = σ q := fun q n0 n1 n2 n3 n4 => (hq_11 q n0).trans (hf q n0 n1 n2 n3 n4)
    refine m_if_eq 70 hx hb dX6_runScript_65 (by decide) (by omega) (fun h_13 => ?_) (fun h_13 => absurd h_13 (by omega))
    refine lv_aload_n hx hb dX6_runScript_70 rfl (lv_at hl 2 rfl) ?_
    refine gf_X6_now hx hb hts hown hK hH (k := 65) (by omega) eM6 dX6_runScript_71 ?_
    refine m_iconst 0 hx hb dX6_runScript_74 rfl ?_
    refine lv_aload_n hx hb dX6_runScript_75 rfl (lv_at hl 2 rfl) ?_
    refine gf_X6_trial hx hb hts hown hK hH (k := 65) (by omega) eM6 dX6_runScript_76 ?_
    refine m_iconst 0 hx hb dX6_runScript_79 rfl ?_
    refine m_callSv hx hb hml hown hts hK hH hl (rest := []) cw_X6_163 rfl (c6_copy11 hA 67 68 0 0 f ft (by first | assumption | omega) (by first | assumption | omega) (by first | assumption | omega) (by first | assumption | omega) (by first | assumption | omega) e67 e68) ⟨Nat.le_of_ble_eq_true rfl, Nat.le_of_ble_eq_true rfl⟩ ⟨Nat.le_of_ble_eq_true rfl, Nat.le_of_ble_eq_true rfl⟩ rfl rfl (Nat.le_of_ble_eq_true rfl) dX6_runScript_80 (fun σ_14 H locs hp_15 hH => ?_)
    obtain ⟨f9b, hcp, f_18, e68, hq_16⟩ := hp_15
    have eM6 : σ_14 (65) = .inr (6, [.int (oI (0)), .ref (ad (66)), .int (oI (((si : Nat) : Int))), .ref (ad (67)), .ref (ad (68)), .ref (ad (69)), .int (oI (((ac6 : Nat) : Int))), .ref (ad (70)), .ref (ad (71)), .ref (ad (72)), .ref (ad (73)), .ref (ad (74)), .int (oI (((spo : Nat) : Int))), .int (oI (((ou6 : Nat) : Int)))]) := (hq_16 _ (by decide)).trans eM6
    have e67 : σ_14 (67) = oAI cT 171 f := (hq_16 _ (by decide)).trans e67
    have e72 : σ_14 (72) = oAN cT 41 s := (hq_16 _ (by decide)).trans e72
    have e73 : σ_14 (73) = oAI cT 201 F := (hq_16 _ (by decide)).trans e73
    have e74 : σ_14 (74) = oAI cT 201 R := (hq_16 _ (by decide)).trans e74
    have hf : ∀ q : Nat, q ≠ 65 → q ≠ 68 → q ≠ 72 → q ≠ 73 → q ≠ 74 → σ_14 q = σ q := fun q n0 n1 n2 n3 n4 => (hq_16 q n1).trans (hf q n0 n1 n2 n3 n4)
    have hpt : oRS f9b n a g sz w := oRS_ext hp hn (fun k hk => hcp k hk)
    refine m_iconst 0 hx hb dX6_runScript_83 rfl ?_
    refine lv_istore (lv' := [(6, .int (oI (0))), (4, .long (oL (1000000000000))), (0, .ref (ad (65))), (1, .int (oI (2))), (2, .long (oL (sc)))]) hx hb dX6_runScript_84 hl (by decide) rfl (fun ls hl => ?_)
    refine lv_iload hx hb dX6_runScript_86 (lv_at hl 0 rfl) ?_
    refine lv_iload_n hx hb dX6_runScript_88 rfl (lv_at hl 3 rfl) ?_
    refine m_icmp_ge 137 hx hb dX6_runScript_89 (by decide) (by omega) (by omega) (fun h_19 => absurd h_19 (by omega)) (fun h_19 => ?_)
    refine lv_lload hx hb dX6_runScript_92 (lv_at hl 1 rfl) ?_
    refine lv_ldc2 (v := 1000000) hx hb hown (hts _ kl_X6_224) dX6_runScript_94 ?_
    refine m_J2L 1000000 (by decide +kernel) ?_
    refine m_ldiv (1000000) hx hb dX6_runScript_97 (by omega) (by omega) (by decide) ?_
    refine lv_lstore (lv' := [(4, .long (oL (1000000))), (6, .int (oI (0))), (0, .ref (ad (65))), (1, .int (oI (2))), (2, .long (oL (sc)))]) hx hb dX6_runScript_98 hl (by decide) rfl (fun ls hl => ?_)
    refine lv_lload_n hx hb dX6_runScript_100 rfl (lv_at hl 4 rfl) ?_
    refine lv_lload hx hb dX6_runScript_101 (lv_at hl 0 rfl) ?_
    refine m_ldiv (((sc.toNat / 1000000 : Nat) : Int)) hx hb dX6_runScript_103 (by omega) (by omega) (by omega) ?_
    refine lv_ldc2 (v := 1000000) hx hb hown (hts _ kl_X6_224) dX6_runScript_104 ?_
    refine m_J2L 1000000 (by decide +kernel) ?_
    refine m_lrem (((sc.toNat / 1000000 % 1000000 : Nat) : Int)) hx hb dX6_runScript_107 (by omega) (by omega) (by omega) ?_
    refine m_l2i hx hb dX6_runScript_108 ?_
    refine lv_istore (lv' := [(7, .int (oI (((sc.toNat / 1000000 % 1000000 : Nat) : Int)))), (4, .long (oL (1000000))), (6, .int (oI (0))), (0, .ref (ad (65))), (1, .int (oI (2))), (2, .long (oL (sc)))]) hx hb dX6_runScript_109 hl (by decide) rfl (fun ls hl => ?_)
    obtain ⟨h5_0, d4_0, d3_0, d2_0, d1_0, d0_0, hdg_0, hd5_0, hd9_0⟩ := oDig (x := sc.toNat / 1000000 % 1000000) (Nat.mod_lt _ (by decide))
    obtain ⟨v5_0, hv5_0⟩ : ∃ y : Nat, y = 10000 * d4_0 + 1000 * d3_0 + 100 * d2_0 + 10 * d1_0 + d0_0 := ⟨_, rfl⟩
    have hxv_0 : sc.toNat / 1000000 % 1000000 = 100000 * h5_0 + v5_0 := by rw [hv5_0, hdg_0]; omega
    have hvb_0 : v5_0 < 100000 := by omega
    refine lv_aload_n hx hb dX6_runScript_111 rfl (lv_at hl 3 rfl) ?_
    refine lv_iload hx hb dX6_runScript_112 (lv_at hl 0 rfl) ?_
    refine lv_ldc (v := 100000) hx hb hown (hts _ kl_X6_226) dX6_runScript_114 ?_
    refine m_i2I 100000 (by decide +kernel) ?_
    refine m_idiv (((h5_0 : Nat) : Int)) hx hb dX6_runScript_116 (by omega) (by omega) (by omega) ?_
    refine lv_iload hx hb dX6_runScript_117 (lv_at hl 0 rfl) ?_
    refine lv_ldc (v := 100000) hx hb hown (hts _ kl_X6_226) dX6_runScript_119 ?_
    refine m_i2I 100000 (by decide +kernel) ?_
    refine m_irem (((v5_0 : Nat) : Int)) hx hb dX6_runScript_121 (by omega) (by omega) (by omega) ?_
    refine m_callVi hx hb hml hown hts hK hH hl (rest := []) cw_X6_227 (c6_command hA (sc.toNat / 1000000 % 1000000) h5_0 v5_0 d4_0 d3_0 d2_0 d1_0 d0_0 si ac6 spo ou6 0 n a g f9b sz w s F R (by first | assumption | omega) (hwf) (hag) (hpt) (hxv_0) (hv5_0) (hd5_0) (hd9_0) eM6 e68 e72 e73 e74) ⟨Nat.le_of_ble_eq_true rfl, Nat.le_of_ble_eq_true rfl⟩ ⟨Nat.le_of_ble_eq_true rfl, Nat.le_of_ble_eq_true rfl⟩ rfl (k := 65) (by omega) eM6 rfl rfl (Nat.le_of_ble_eq_true rfl) dX6_runScript_122 (fun r_23 σ_20 H locs hp_21 hH => ?_)
    obtain ⟨rt_1, n_1, a_1, g_1, sz_1, w_1, f8_1, s_1, F_1, R_1, rfl, hrt_1, hg0, hp_1, hwf_1, hag_1, e68, e72, e73, e74, hq_22⟩ := hp_21
    have eM6 : σ_20 (65) = .inr (6, [.int (oI (0)), .ref (ad (66)), .int (oI (((si : Nat) : Int))), .ref (ad (67)), .ref (ad (68)), .ref (ad (69)), .int (oI (((ac6 : Nat) : Int))), .ref (ad (70)), .ref (ad (71)), .ref (ad (72)), .ref (ad (73)), .ref (ad (74)), .int (oI (((spo : Nat) : Int))), .int (oI (((ou6 : Nat) : Int)))]) := (hq_22 _ (by decide) (by decide) (by decide) (by decide)).trans eM6
    have e67 : σ_20 (67) = oAI cT 171 f := (hq_22 _ (by decide) (by decide) (by decide) (by decide)).trans e67
    have hf : ∀ q : Nat, q ≠ 65 → q ≠ 68 → q ≠ 72 → q ≠ 73 → q ≠ 74 → σ_20 q = σ q := fun q n0 n1 n2 n3 n4 => (hq_22 q n1 n2 n3 n4).trans (hf q n0 n1 n2 n3 n4)
    refine m_if_ne 131 hx hb dX6_runScript_125 (by decide) (by omega) (fun hz0 => ?_) (fun hz0 => ?_)
    · refine m_iinc (1) [(6, .int (oI (1))), (7, .int (oI (((sc.toNat / 1000000 % 1000000 : Nat) : Int)))), (4, .long (oL (1000000))), (0, .ref (ad (65))), (1, .int (oI (2))), (2, .long (oL (sc)))] hx hb dX6_runScript_131 hl (j := 2) rfl (by omega) (by decide) rfl (fun ls hl => ?_)
      refine lv_goto (tgt := 86) hx hb dX6_runScript_134 (by decide) ?_
      refine lv_iload hx hb dX6_runScript_86 (lv_at hl 0 rfl) ?_
      refine lv_iload_n hx hb dX6_runScript_88 rfl (lv_at hl 4 rfl) ?_
      refine m_icmp_ge 137 hx hb dX6_runScript_89 (by decide) (by omega) (by omega) (fun h_25 => absurd h_25 (by omega)) (fun h_25 => ?_)
      refine lv_lload hx hb dX6_runScript_92 (lv_at hl 2 rfl) ?_
      refine lv_ldc2 (v := 1000000) hx hb hown (hts _ kl_X6_224) dX6_runScript_94 ?_
      refine m_J2L 1000000 (by decide +kernel) ?_
      refine m_ldiv (1) hx hb dX6_runScript_97 (by omega) (by omega) (by decide) ?_
      refine lv_lstore (lv' := [(4, .long (oL (1))), (6, .int (oI (1))), (7, .int (oI (((sc.toNat / 1000000 % 1000000 : Nat) : Int)))), (0, .ref (ad (65))), (1, .int (oI (2))), (2, .long (oL (sc)))]) hx hb dX6_runScript_98 hl (by decide) rfl (fun ls hl => ?_)
      refine lv_lload_n hx hb dX6_runScript_100 rfl (lv_at hl 5 rfl) ?_
      refine lv_lload hx hb dX6_runScript_101 (lv_at hl 0 rfl) ?_
      refine m_ldiv (((sc.toNat : Nat) : Int)) hx hb dX6_runScript_103 (by omega) (by omega) (by omega) ?_
      refine lv_ldc2 (v := 1000000) hx hb hown (hts _ kl_X6_224) dX6_runScript_104 ?_
      refine m_J2L 1000000 (by decide +kernel) ?_
      refine m_lrem (((sc.toNat % 1000000 : Nat) : Int)) hx hb dX6_runScript_107 (by omega) (by omega) (by omega) ?_
      refine m_l2i hx hb dX6_runScript_108 ?_
      refine lv_istore (lv' := [(7, .int (oI (((sc.toNat % 1000000 : Nat) : Int)))), (4, .long (oL (1))), (6, .int (oI (1))), (0, .ref (ad (65))), (1, .int (oI (2))), (2, .long (oL (sc)))]) hx hb dX6_runScript_109 hl (by decide) rfl (fun ls hl => ?_)
      obtain ⟨h5_1, d4_1, d3_1, d2_1, d1_1, d0_1, hdg_1, hd5_1, hd9_1⟩ := oDig (x := sc.toNat % 1000000) (Nat.mod_lt _ (by decide))
      obtain ⟨v5_1, hv5_1⟩ : ∃ y : Nat, y = 10000 * d4_1 + 1000 * d3_1 + 100 * d2_1 + 10 * d1_1 + d0_1 := ⟨_, rfl⟩
      have hxv_1 : sc.toNat % 1000000 = 100000 * h5_1 + v5_1 := by rw [hv5_1, hdg_1]; omega
      have hvb_1 : v5_1 < 100000 := by omega
      refine lv_aload_n hx hb dX6_runScript_111 rfl (lv_at hl 3 rfl) ?_
      refine lv_iload hx hb dX6_runScript_112 (lv_at hl 0 rfl) ?_
      refine lv_ldc (v := 100000) hx hb hown (hts _ kl_X6_226) dX6_runScript_114 ?_
      refine m_i2I 100000 (by decide +kernel) ?_
      refine m_idiv (((h5_1 : Nat) : Int)) hx hb dX6_runScript_116 (by omega) (by omega) (by omega) ?_
      refine lv_iload hx hb dX6_runScript_117 (lv_at hl 0 rfl) ?_
      refine lv_ldc (v := 100000) hx hb hown (hts _ kl_X6_226) dX6_runScript_119 ?_
      refine m_i2I 100000 (by decide +kernel) ?_
      refine m_irem (((v5_1 : Nat) : Int)) hx hb dX6_runScript_121 (by omega) (by omega) (by omega) ?_
      refine m_callVi hx hb hml hown hts hK hH hl (rest := []) cw_X6_227 (c6_command hA (sc.toNat % 1000000) h5_1 v5_1 d4_1 d3_1 d2_1 d1_1 d0_1 si ac6 spo ou6 0 n_1 a_1 g_1 f8_1 sz_1 w_1 s_1 F_1 R_1 (by first | assumption | omega) (hwf_1) (hag_1) (hp_1) (hxv_1) (hv5_1) (hd5_1) (hd9_1) eM6 e68 e72 e73 e74) ⟨Nat.le_of_ble_eq_true rfl, Nat.le_of_ble_eq_true rfl⟩ ⟨Nat.le_of_ble_eq_true rfl, Nat.le_of_ble_eq_true rfl⟩ rfl (k := 65) (by omega) eM6 rfl rfl (Nat.le_of_ble_eq_true rfl) dX6_runScript_122 (fun r_29 σ_26 H locs hp_27 hH => ?_)
      obtain ⟨rt_2, n_2, a_2, g_2, sz_2, w_2, f8_2, s_2, F_2, R_2, rfl, hrt_2, hg1, hp_2, hwf_2, hag_2, e68, e72, e73, e74, hq_28⟩ := hp_27
      have eM6 : σ_26 (65) = .inr (6, [.int (oI (0)), .ref (ad (66)), .int (oI (((si : Nat) : Int))), .ref (ad (67)), .ref (ad (68)), .ref (ad (69)), .int (oI (((ac6 : Nat) : Int))), .ref (ad (70)), .ref (ad (71)), .ref (ad (72)), .ref (ad (73)), .ref (ad (74)), .int (oI (((spo : Nat) : Int))), .int (oI (((ou6 : Nat) : Int)))]) := (hq_28 _ (by decide) (by decide) (by decide) (by decide)).trans eM6
      have e67 : σ_26 (67) = oAI cT 171 f := (hq_28 _ (by decide) (by decide) (by decide) (by decide)).trans e67
      have hf : ∀ q : Nat, q ≠ 65 → q ≠ 68 → q ≠ 72 → q ≠ 73 → q ≠ 74 → σ_26 q = σ q := fun q n0 n1 n2 n3 n4 => (hq_28 q n1 n2 n3 n4).trans (hf q n0 n1 n2 n3 n4)
      refine m_if_ne 131 hx hb dX6_runScript_125 (by decide) (by omega) (fun hz1 => ?_) (fun hz1 => ?_)
      · refine m_iinc (2) [(6, .int (oI (2))), (7, .int (oI (((sc.toNat % 1000000 : Nat) : Int)))), (4, .long (oL (1))), (0, .ref (ad (65))), (1, .int (oI (2))), (2, .long (oL (sc)))] hx hb dX6_runScript_131 hl (j := 2) rfl (by omega) (by decide) rfl (fun ls hl => ?_)
        refine lv_goto (tgt := 86) hx hb dX6_runScript_134 (by decide) ?_
        refine lv_iload hx hb dX6_runScript_86 (lv_at hl 0 rfl) ?_
        refine lv_iload_n hx hb dX6_runScript_88 rfl (lv_at hl 4 rfl) ?_
        refine m_icmp_ge 137 hx hb dX6_runScript_89 (by decide) (by omega) (by omega) (fun h_31 => ?_) (fun h_31 => absurd h_31 (by omega))
        refine m_iconst (-1) hx hb dX6_runScript_137 rfl ?_
        exact m_iret hx hb hlk hrt hH (m_ni _) dX6_runScript_138 ⟨(-1), 0, f8_2, s_2, F_2, R_2, rfl, (Or.inl ⟨by omega, rfl, by rw [oGl3_2]; exact (((oScr_go hg0 hz0).trans (oScr_go hg1 hz1)).trans (oScr_nil _ _ _ _ _ _)).symm⟩), eM6, e68, e72, e73, e74, hf⟩
      · refine lv_iload hx hb dX6_runScript_128 (lv_at hl 2 rfl) ?_
        exact m_iret hx hb hlk hrt hH (m_ni _) dX6_runScript_130 ⟨1, 0, f8_2, s_2, F_2, R_2, rfl, (Or.inl ⟨by omega, rfl, by rw [oGl3_2]; exact ((oScr_go hg0 hz0).trans (oScr_no hg1 hz1)).symm⟩), eM6, e68, e72, e73, e74, hf⟩
    · refine lv_iload hx hb dX6_runScript_128 (lv_at hl 2 rfl) ?_
      exact m_iret hx hb hlk hrt hH (m_ni _) dX6_runScript_130 ⟨0, 0, f8_1, s_1, F_1, R_1, rfl, (Or.inl ⟨by omega, rfl, by rw [oGl3_2]; exact (oScr_no hg0 hz0).symm⟩), eM6, e68, e72, e73, e74, hf⟩
  · refine m_if_eq 61 hx hb dX6_runScript_54 (by decide) (by omega) (fun h_32 => ?_) (fun h_32 => absurd h_32 (by omega))
    refine m_iconst 1 hx hb dX6_runScript_61 rfl ?_
    refine m_callVi hx hb hml hown hts hK hH hl (rest := []) cw_X6_111 (c6_ref1 hA 1 si ac6 spo ou6 rf (by first | assumption | omega) (by first | assumption | omega) eM6) ⟨Nat.le_of_ble_eq_true rfl, Nat.le_of_ble_eq_true rfl⟩ ⟨Nat.le_of_ble_eq_true rfl, Nat.le_of_ble_eq_true rfl⟩ rfl (k := 65) (by omega) eM6 rfl rfl (Nat.le_of_ble_eq_true rfl) dX6_runScript_62 (fun r_36 σ_33 H locs hp_34 hH => ?_)
    obtain ⟨rfl, eM6, hq_35⟩ := hp_34
    have e67 : σ_33 (67) = oAI cT 171 f := (hq_35 _ (by decide)).trans e67
    have e68 : σ_33 (68) = oAI cT 171 ft := (hq_35 _ (by decide)).trans e68
    have e72 : σ_33 (72) = oAN cT 41 s := (hq_35 _ (by decide)).trans e72
    have e73 : σ_33 (73) = oAI cT 201 F := (hq_35 _ (by decide)).trans e73
    have e74 : σ_33 (74) = oAI cT 201 R := (hq_35 _ (by decide)).trans e74
    have hf : ∀ q : Nat, q ≠ 65 → q ≠ 68 → q ≠ 72 → q ≠ 73 → q ≠ 74 → σ_33 q = σ q := fun q n0 n1 n2 n3 n4 => (hq_35 q n0).trans (hf q n0 n1 n2 n3 n4)
    refine m_if_eq 70 hx hb dX6_runScript_65 (by decide) (by omega) (fun h_37 => absurd h_37 (by omega)) (fun h_37 => ?_)
    refine m_iconst 0 hx hb dX6_runScript_68 rfl ?_
    exact m_iret hx hb hlk hrt hH (m_ni _) dX6_runScript_69 ⟨0, 1, ft, s, F, R, rfl, (Or.inr ⟨rfl, by omega⟩), eM6, e68, e72, e73, e74, hf⟩
set_option maxHeartbeats 8000000 in
set_option maxRecDepth 100000 in
theorem c6_runScript3 {l : Launch} {D : va_G} {cT : Nat → ClassId} {N b0 : Nat} {ad : Nat → Nat} (hA : oAd b0 N ad) {σ : Nat → va_E} (sc : Int) (si ac6 spo ou6 : Nat) (rf : Int) (n a g : Nat) (f : Nat → Int) (sz w : Nat → Nat) (ft : Nat → Int) (s : Nat → Nat) (F R : Nat → Int) (hN : 76 ≤ N) (hwf : oWf n sz w) (hag : oAg a g) (hp : oRS f n a g sz w) (hsc : -9223372036854775808 ≤ sc ∧ sc < 9223372036854775808) (eM6 : σ (65) = .inr (6, [.int (oI (rf)), .ref (ad (66)), .int (oI (((si : Nat) : Int))), .ref (ad (67)), .ref (ad (68)), .ref (ad (69)), .int (oI (((ac6 : Nat) : Int))), .ref (ad (70)), .ref (ad (71)), .ref (ad (72)), .ref (ad (73)), .ref (ad (74)), .int (oI (((spo : Nat) : Int))), .int (oI (((ou6 : Nat) : Int)))])) (e67 : σ (67) = oAI cT 171 f) (e68 : σ (68) = oAI cT 171 ft) (e72 : σ (72) = oAN cT 41 s) (e73 : σ (73) = oAI cT 201 F) (e74 : σ (74) = oAI cT 201 R) :
    oCi l D cT N ad b0 yX6_runScript cX6_runScript 8 (some .int) 6 141 [.ref (ad (65)), .int (oI (3)), .long (oL (sc))] σ (fun rr uu => ∃ v9 : Int, ∃ r9 : Int, ∃ g8 : Nat → Int, ∃ s2 : Nat → Nat, ∃ F2 : Nat → Int, ∃ R2 : Nat → Int, rr = oI (v9) ∧ (((0 ≤ sc ∧ sc < 1000000000000000000) ∧ r9 = 0 ∧ v9 = oScr (oGl3 3 sc.toNat) 0 n a g sz w) ∨ (r9 = 1 ∧ ¬ (0 ≤ sc ∧ sc < 1000000000000000000))) ∧ uu (65) = .inr (6, [.int (oI (r9)), .ref (ad (66)), .int (oI (((si : Nat) : Int))), .ref (ad (67)), .ref (ad (68)), .ref (ad (69)), .int (oI (((ac6 : Nat) : Int))), .ref (ad (70)), .ref (ad (71)), .ref (ad (72)), .ref (ad (73)), .ref (ad (74)), .int (oI (((spo : Nat) : Int))), .int (oI (((ou6 : Nat) : Int)))]) ∧ uu (68) = oAI cT 171 g8 ∧ uu (72) = oAN cT 41 s2 ∧ uu (73) = oAI cT 201 F2 ∧ uu (74) = oAI cT 201 R2 ∧ (∀ q : Nat, q ≠ 65 → q ≠ 68 → q ≠ 72 → q ≠ 73 → q ≠ 74 → uu q = σ q)) := by
  refine m_start (cc := cX6_runScript) (by decide) (Nat.le_of_ble_eq_true rfl) rfl ?_
  intro Pp Ee Ss Mm Bb Me Cc Ar ls hx hb hml hown hlk hrt hts hK hH hl
  have hown : Ss.vm.findClass RX6 = some Mm.cls := hown
  have hn := hwf.1
  have hl : lv_has ls 8 [(0, .ref (ad (65))), (1, .int (oI (3))), (2, .long (oL (sc)))] := hl
  have hf : ∀ q : Nat, q ≠ 65 → q ≠ 68 → q ≠ 72 → q ≠ 73 → q ≠ 74 → σ q = σ q := fun q _ _ _ _ _ => rfl
  refine m_lconst 1 hx hb dX6_runScript_0 rfl ?_
  refine lv_lstore (lv' := [(4, .long (oL (1))), (0, .ref (ad (65))), (1, .int (oI (3))), (2, .long (oL (sc)))]) hx hb dX6_runScript_1 hl (by decide) rfl (fun ls hl => ?_)
  refine m_iconst 0 hx hb dX6_runScript_3 rfl ?_
  refine lv_istore (lv' := [(6, .int (oI (0))), (4, .long (oL (1))), (0, .ref (ad (65))), (1, .int (oI (3))), (2, .long (oL (sc)))]) hx hb dX6_runScript_4 hl (by decide) rfl (fun ls hl => ?_)
  refine lv_iload hx hb dX6_runScript_6 (lv_at hl 0 rfl) ?_
  refine lv_iload_n hx hb dX6_runScript_8 rfl (lv_at hl 3 rfl) ?_
  refine m_icmp_ge 32 hx hb dX6_runScript_9 (by decide) (by omega) (by omega) (fun h_1 => absurd h_1 (by omega)) (fun h_1 => ?_)
  refine lv_iload hx hb dX6_runScript_12 (lv_at hl 0 rfl) ?_
  refine m_iconst 3 hx hb dX6_runScript_14 rfl ?_
  refine m_icmp_ge 32 hx hb dX6_runScript_15 (by decide) (by omega) (by omega) (fun h_2 => absurd h_2 (by omega)) (fun h_2 => ?_)
  refine lv_lload hx hb dX6_runScript_18 (lv_at hl 1 rfl) ?_
  refine lv_ldc2 (v := 1000000) hx hb hown (hts _ kl_X6_224) dX6_runScript_20 ?_
  refine m_J2L 1000000 (by decide +kernel) ?_
  refine m_lmul (1000000) hx hb dX6_runScript_23 (by omega) ?_
  refine lv_lstore (lv' := [(4, .long (oL (1000000))), (6, .int (oI (0))), (0, .ref (ad (65))), (1, .int (oI (3))), (2, .long (oL (sc)))]) hx hb dX6_runScript_24 hl (by decide) rfl (fun ls hl => ?_)
  refine m_iinc (1) [(6, .int (oI (1))), (4, .long (oL (1000000))), (0, .ref (ad (65))), (1, .int (oI (3))), (2, .long (oL (sc)))] hx hb dX6_runScript_26 hl (j := 1) rfl (by omega) (by decide) rfl (fun ls hl => ?_)
  refine lv_goto (tgt := 6) hx hb dX6_runScript_29 (by decide) ?_
  refine lv_iload hx hb dX6_runScript_6 (lv_at hl 0 rfl) ?_
  refine lv_iload_n hx hb dX6_runScript_8 rfl (lv_at hl 3 rfl) ?_
  refine m_icmp_ge 32 hx hb dX6_runScript_9 (by decide) (by omega) (by omega) (fun h_3 => absurd h_3 (by omega)) (fun h_3 => ?_)
  refine lv_iload hx hb dX6_runScript_12 (lv_at hl 0 rfl) ?_
  refine m_iconst 3 hx hb dX6_runScript_14 rfl ?_
  refine m_icmp_ge 32 hx hb dX6_runScript_15 (by decide) (by omega) (by omega) (fun h_4 => absurd h_4 (by omega)) (fun h_4 => ?_)
  refine lv_lload hx hb dX6_runScript_18 (lv_at hl 1 rfl) ?_
  refine lv_ldc2 (v := 1000000) hx hb hown (hts _ kl_X6_224) dX6_runScript_20 ?_
  refine m_J2L 1000000 (by decide +kernel) ?_
  refine m_lmul (1000000000000) hx hb dX6_runScript_23 (by omega) ?_
  refine lv_lstore (lv' := [(4, .long (oL (1000000000000))), (6, .int (oI (1))), (0, .ref (ad (65))), (1, .int (oI (3))), (2, .long (oL (sc)))]) hx hb dX6_runScript_24 hl (by decide) rfl (fun ls hl => ?_)
  refine m_iinc (2) [(6, .int (oI (2))), (4, .long (oL (1000000000000))), (0, .ref (ad (65))), (1, .int (oI (3))), (2, .long (oL (sc)))] hx hb dX6_runScript_26 hl (j := 1) rfl (by omega) (by decide) rfl (fun ls hl => ?_)
  refine lv_goto (tgt := 6) hx hb dX6_runScript_29 (by decide) ?_
  refine lv_iload hx hb dX6_runScript_6 (lv_at hl 0 rfl) ?_
  refine lv_iload_n hx hb dX6_runScript_8 rfl (lv_at hl 3 rfl) ?_
  refine m_icmp_ge 32 hx hb dX6_runScript_9 (by decide) (by omega) (by omega) (fun h_5 => absurd h_5 (by omega)) (fun h_5 => ?_)
  refine lv_iload hx hb dX6_runScript_12 (lv_at hl 0 rfl) ?_
  refine m_iconst 3 hx hb dX6_runScript_14 rfl ?_
  refine m_icmp_ge 32 hx hb dX6_runScript_15 (by decide) (by omega) (by omega) (fun h_6 => absurd h_6 (by omega)) (fun h_6 => ?_)
  refine lv_lload hx hb dX6_runScript_18 (lv_at hl 1 rfl) ?_
  refine lv_ldc2 (v := 1000000) hx hb hown (hts _ kl_X6_224) dX6_runScript_20 ?_
  refine m_J2L 1000000 (by decide +kernel) ?_
  refine m_lmul (1000000000000000000) hx hb dX6_runScript_23 (by omega) ?_
  refine lv_lstore (lv' := [(4, .long (oL (1000000000000000000))), (6, .int (oI (2))), (0, .ref (ad (65))), (1, .int (oI (3))), (2, .long (oL (sc)))]) hx hb dX6_runScript_24 hl (by decide) rfl (fun ls hl => ?_)
  refine m_iinc (3) [(6, .int (oI (3))), (4, .long (oL (1000000000000000000))), (0, .ref (ad (65))), (1, .int (oI (3))), (2, .long (oL (sc)))] hx hb dX6_runScript_26 hl (j := 1) rfl (by omega) (by decide) rfl (fun ls hl => ?_)
  refine lv_goto (tgt := 6) hx hb dX6_runScript_29 (by decide) ?_
  refine lv_iload hx hb dX6_runScript_6 (lv_at hl 0 rfl) ?_
  refine lv_iload_n hx hb dX6_runScript_8 rfl (lv_at hl 3 rfl) ?_
  refine m_icmp_ge 32 hx hb dX6_runScript_9 (by decide) (by omega) (by omega) (fun h_7 => ?_) (fun h_7 => absurd h_7 (by omega))
  refine lv_aload_n hx hb dX6_runScript_32 rfl (lv_at hl 2 rfl) ?_
  refine lv_iload_n hx hb dX6_runScript_33 rfl (lv_at hl 3 rfl) ?_
  refine m_i2l hx hb dX6_runScript_34 (by omega) ?_
  refine m_lconst 1 hx hb dX6_runScript_35 rfl ?_
  refine lv_ldc2 (v := 3) hx hb hown (hts _ kl_X6_190) dX6_runScript_36 ?_
  refine m_J2L 3 (by decide +kernel) ?_
  refine m_pSb hx hb hml hown hts hK hH hl (rest := [.ref (ad (65))]) cw_X6_46 rfl (c6_in hA 3 1 3 (by first | assumption | omega) (by first | assumption | omega) (by first | assumption | omega) ) ⟨Nat.le_of_ble_eq_true rfl, Nat.le_of_ble_eq_true rfl⟩ ⟨Nat.le_of_ble_eq_true rfl, Nat.le_of_ble_eq_true rfl⟩ rfl rfl (Nat.le_of_ble_eq_true rfl) dX6_runScript_39 (fun h_8 H locs hH => ?_) (fun h_8 => absurd (by omega) h_8)
  refine m_if_eq 61 hx hb dX6_runScript_42 (by decide) (by omega) (fun h_9 => absurd h_9 (by omega)) (fun h_9 => ?_)
  refine lv_lload_n hx hb dX6_runScript_45 rfl (lv_at hl 4 rfl) ?_
  refine m_lconst 0 hx hb dX6_runScript_46 rfl ?_
  refine lv_lload hx hb dX6_runScript_47 (lv_at hl 1 rfl) ?_
  refine m_lconst 1 hx hb dX6_runScript_49 rfl ?_
  refine m_lsub (999999999999999999) hx hb dX6_runScript_50 (by omega) ?_
  refine m_pSb hx hb hml hown hts hK hH hl (rest := [.ref (ad (65))]) cw_X6_46 rfl (c6_in hA sc 0 999999999999999999 (by first | assumption | omega) (by first | assumption | omega) (by first | assumption | omega) ) ⟨Nat.le_of_ble_eq_true rfl, Nat.le_of_ble_eq_true rfl⟩ ⟨Nat.le_of_ble_eq_true rfl, Nat.le_of_ble_eq_true rfl⟩ rfl rfl (Nat.le_of_ble_eq_true rfl) dX6_runScript_51 (fun hsc9 H locs hH => ?_) (fun hsc9 H locs hH => ?_)
  · refine m_if_eq 61 hx hb dX6_runScript_54 (by decide) (by omega) (fun h_10 => absurd h_10 (by omega)) (fun h_10 => ?_)
    refine m_iconst 0 hx hb dX6_runScript_57 rfl ?_
    refine lv_goto (tgt := 62) hx hb dX6_runScript_58 (by decide) ?_
    refine m_callVi hx hb hml hown hts hK hH hl (rest := []) cw_X6_111 (c6_ref0 hA si ac6 spo ou6 rf (by first | assumption | omega) eM6) ⟨Nat.le_of_ble_eq_true rfl, Nat.le_of_ble_eq_true rfl⟩ ⟨Nat.le_of_ble_eq_true rfl, Nat.le_of_ble_eq_true rfl⟩ rfl (k := 65) (by omega) eM6 rfl rfl (Nat.le_of_ble_eq_true rfl) dX6_runScript_62 (fun r_14 σ_11 H locs hp_12 hH => ?_)
    obtain ⟨rfl, eM6, hq_13⟩ := hp_12
    have e67 : σ_11 (67) = oAI cT 171 f := (hq_13 _ (by decide)).trans e67
    have e68 : σ_11 (68) = oAI cT 171 ft := (hq_13 _ (by decide)).trans e68
    have e72 : σ_11 (72) = oAN cT 41 s := (hq_13 _ (by decide)).trans e72
    have e73 : σ_11 (73) = oAI cT 201 F := (hq_13 _ (by decide)).trans e73
    have e74 : σ_11 (74) = oAI cT 201 R := (hq_13 _ (by decide)).trans e74
    have hf : ∀ q : Nat, q ≠ 65 → q ≠ 68 → q ≠ 72 → q ≠ 73 → q ≠ 74 → σ_11 q = σ q := fun q n0 n1 n2 n3 n4 => (hq_13 q n0).trans (hf q n0 n1 n2 n3 n4)
    refine m_if_eq 70 hx hb dX6_runScript_65 (by decide) (by omega) (fun h_15 => ?_) (fun h_15 => absurd h_15 (by omega))
    refine lv_aload_n hx hb dX6_runScript_70 rfl (lv_at hl 2 rfl) ?_
    refine gf_X6_now hx hb hts hown hK hH (k := 65) (by omega) eM6 dX6_runScript_71 ?_
    refine m_iconst 0 hx hb dX6_runScript_74 rfl ?_
    refine lv_aload_n hx hb dX6_runScript_75 rfl (lv_at hl 2 rfl) ?_
    refine gf_X6_trial hx hb hts hown hK hH (k := 65) (by omega) eM6 dX6_runScript_76 ?_
    refine m_iconst 0 hx hb dX6_runScript_79 rfl ?_
    refine m_callSv hx hb hml hown hts hK hH hl (rest := []) cw_X6_163 rfl (c6_copy11 hA 67 68 0 0 f ft (by first | assumption | omega) (by first | assumption | omega) (by first | assumption | omega) (by first | assumption | omega) (by first | assumption | omega) e67 e68) ⟨Nat.le_of_ble_eq_true rfl, Nat.le_of_ble_eq_true rfl⟩ ⟨Nat.le_of_ble_eq_true rfl, Nat.le_of_ble_eq_true rfl⟩ rfl rfl (Nat.le_of_ble_eq_true rfl) dX6_runScript_80 (fun σ_16 H locs hp_17 hH => ?_)
    obtain ⟨f9b, hcp, f_20, e68, hq_18⟩ := hp_17
    have eM6 : σ_16 (65) = .inr (6, [.int (oI (0)), .ref (ad (66)), .int (oI (((si : Nat) : Int))), .ref (ad (67)), .ref (ad (68)), .ref (ad (69)), .int (oI (((ac6 : Nat) : Int))), .ref (ad (70)), .ref (ad (71)), .ref (ad (72)), .ref (ad (73)), .ref (ad (74)), .int (oI (((spo : Nat) : Int))), .int (oI (((ou6 : Nat) : Int)))]) := (hq_18 _ (by decide)).trans eM6
    have e67 : σ_16 (67) = oAI cT 171 f := (hq_18 _ (by decide)).trans e67
    have e72 : σ_16 (72) = oAN cT 41 s := (hq_18 _ (by decide)).trans e72
    have e73 : σ_16 (73) = oAI cT 201 F := (hq_18 _ (by decide)).trans e73
    have e74 : σ_16 (74) = oAI cT 201 R := (hq_18 _ (by decide)).trans e74
    have hf : ∀ q : Nat, q ≠ 65 → q ≠ 68 → q ≠ 72 → q ≠ 73 → q ≠ 74 → σ_16 q = σ q := fun q n0 n1 n2 n3 n4 => (hq_18 q n1).trans (hf q n0 n1 n2 n3 n4)
    have hpt : oRS f9b n a g sz w := oRS_ext hp hn (fun k hk => hcp k hk)
    refine m_iconst 0 hx hb dX6_runScript_83 rfl ?_
    refine lv_istore (lv' := [(6, .int (oI (0))), (4, .long (oL (1000000000000000000))), (0, .ref (ad (65))), (1, .int (oI (3))), (2, .long (oL (sc)))]) hx hb dX6_runScript_84 hl (by decide) rfl (fun ls hl => ?_)
    refine lv_iload hx hb dX6_runScript_86 (lv_at hl 0 rfl) ?_
    refine lv_iload_n hx hb dX6_runScript_88 rfl (lv_at hl 3 rfl) ?_
    refine m_icmp_ge 137 hx hb dX6_runScript_89 (by decide) (by omega) (by omega) (fun h_21 => absurd h_21 (by omega)) (fun h_21 => ?_)
    refine lv_lload hx hb dX6_runScript_92 (lv_at hl 1 rfl) ?_
    refine lv_ldc2 (v := 1000000) hx hb hown (hts _ kl_X6_224) dX6_runScript_94 ?_
    refine m_J2L 1000000 (by decide +kernel) ?_
    refine m_ldiv (1000000000000) hx hb dX6_runScript_97 (by omega) (by omega) (by decide) ?_
    refine lv_lstore (lv' := [(4, .long (oL (1000000000000))), (6, .int (oI (0))), (0, .ref (ad (65))), (1, .int (oI (3))), (2, .long (oL (sc)))]) hx hb dX6_runScript_98 hl (by decide) rfl (fun ls hl => ?_)
    refine lv_lload_n hx hb dX6_runScript_100 rfl (lv_at hl 4 rfl) ?_
    refine lv_lload hx hb dX6_runScript_101 (lv_at hl 0 rfl) ?_
    refine m_ldiv (((sc.toNat / 1000000000000 : Nat) : Int)) hx hb dX6_runScript_103 (by omega) (by omega) (by omega) ?_
    refine lv_ldc2 (v := 1000000) hx hb hown (hts _ kl_X6_224) dX6_runScript_104 ?_
    refine m_J2L 1000000 (by decide +kernel) ?_
    refine m_lrem (((sc.toNat / 1000000000000 % 1000000 : Nat) : Int)) hx hb dX6_runScript_107 (by omega) (by omega) (by omega) ?_
    refine m_l2i hx hb dX6_runScript_108 ?_
    refine lv_istore (lv' := [(7, .int (oI (((sc.toNat / 1000000000000 % 1000000 : Nat) : Int)))), (4, .long (oL (1000000000000))), (6, .int (oI (0))), (0, .ref (ad (65))), (1, .int (oI (3))), (2, .long (oL (sc)))]) hx hb dX6_runScript_109 hl (by decide) rfl (fun ls hl => ?_)
    obtain ⟨h5_0, d4_0, d3_0, d2_0, d1_0, d0_0, hdg_0, hd5_0, hd9_0⟩ := oDig (x := sc.toNat / 1000000000000 % 1000000) (Nat.mod_lt _ (by decide))
    obtain ⟨v5_0, hv5_0⟩ : ∃ y : Nat, y = 10000 * d4_0 + 1000 * d3_0 + 100 * d2_0 + 10 * d1_0 + d0_0 := ⟨_, rfl⟩
    have hxv_0 : sc.toNat / 1000000000000 % 1000000 = 100000 * h5_0 + v5_0 := by rw [hv5_0, hdg_0]; omega
    have hvb_0 : v5_0 < 100000 := by omega
    refine lv_aload_n hx hb dX6_runScript_111 rfl (lv_at hl 3 rfl) ?_
    refine lv_iload hx hb dX6_runScript_112 (lv_at hl 0 rfl) ?_
    refine lv_ldc (v := 100000) hx hb hown (hts _ kl_X6_226) dX6_runScript_114 ?_
    refine m_i2I 100000 (by decide +kernel) ?_
    refine m_idiv (((h5_0 : Nat) : Int)) hx hb dX6_runScript_116 (by omega) (by omega) (by omega) ?_
    refine lv_iload hx hb dX6_runScript_117 (lv_at hl 0 rfl) ?_
    refine lv_ldc (v := 100000) hx hb hown (hts _ kl_X6_226) dX6_runScript_119 ?_
    refine m_i2I 100000 (by decide +kernel) ?_
    refine m_irem (((v5_0 : Nat) : Int)) hx hb dX6_runScript_121 (by omega) (by omega) (by omega) ?_
    refine m_callVi hx hb hml hown hts hK hH hl (rest := []) cw_X6_227 (c6_command hA (sc.toNat / 1000000000000 % 1000000) h5_0 v5_0 d4_0 d3_0 d2_0 d1_0 d0_0 si ac6 spo ou6 0 n a g f9b sz w s F R (by first | assumption | omega) (hwf) (hag) (hpt) (hxv_0) (hv5_0) (hd5_0) (hd9_0) eM6 e68 e72 e73 e74) ⟨Nat.le_of_ble_eq_true rfl, Nat.le_of_ble_eq_true rfl⟩ ⟨Nat.le_of_ble_eq_true rfl, Nat.le_of_ble_eq_true rfl⟩ rfl (k := 65) (by omega) eM6 rfl rfl (Nat.le_of_ble_eq_true rfl) dX6_runScript_122 (fun r_25 σ_22 H locs hp_23 hH => ?_)
    obtain ⟨rt_1, n_1, a_1, g_1, sz_1, w_1, f8_1, s_1, F_1, R_1, rfl, hrt_1, hg0, hp_1, hwf_1, hag_1, e68, e72, e73, e74, hq_24⟩ := hp_23
    have eM6 : σ_22 (65) = .inr (6, [.int (oI (0)), .ref (ad (66)), .int (oI (((si : Nat) : Int))), .ref (ad (67)), .ref (ad (68)), .ref (ad (69)), .int (oI (((ac6 : Nat) : Int))), .ref (ad (70)), .ref (ad (71)), .ref (ad (72)), .ref (ad (73)), .ref (ad (74)), .int (oI (((spo : Nat) : Int))), .int (oI (((ou6 : Nat) : Int)))]) := (hq_24 _ (by decide) (by decide) (by decide) (by decide)).trans eM6
    have e67 : σ_22 (67) = oAI cT 171 f := (hq_24 _ (by decide) (by decide) (by decide) (by decide)).trans e67
    have hf : ∀ q : Nat, q ≠ 65 → q ≠ 68 → q ≠ 72 → q ≠ 73 → q ≠ 74 → σ_22 q = σ q := fun q n0 n1 n2 n3 n4 => (hq_24 q n1 n2 n3 n4).trans (hf q n0 n1 n2 n3 n4)
    refine m_if_ne 131 hx hb dX6_runScript_125 (by decide) (by omega) (fun hz0 => ?_) (fun hz0 => ?_)
    · refine m_iinc (1) [(6, .int (oI (1))), (7, .int (oI (((sc.toNat / 1000000000000 % 1000000 : Nat) : Int)))), (4, .long (oL (1000000000000))), (0, .ref (ad (65))), (1, .int (oI (3))), (2, .long (oL (sc)))] hx hb dX6_runScript_131 hl (j := 2) rfl (by omega) (by decide) rfl (fun ls hl => ?_)
      refine lv_goto (tgt := 86) hx hb dX6_runScript_134 (by decide) ?_
      refine lv_iload hx hb dX6_runScript_86 (lv_at hl 0 rfl) ?_
      refine lv_iload_n hx hb dX6_runScript_88 rfl (lv_at hl 4 rfl) ?_
      refine m_icmp_ge 137 hx hb dX6_runScript_89 (by decide) (by omega) (by omega) (fun h_27 => absurd h_27 (by omega)) (fun h_27 => ?_)
      refine lv_lload hx hb dX6_runScript_92 (lv_at hl 2 rfl) ?_
      refine lv_ldc2 (v := 1000000) hx hb hown (hts _ kl_X6_224) dX6_runScript_94 ?_
      refine m_J2L 1000000 (by decide +kernel) ?_
      refine m_ldiv (1000000) hx hb dX6_runScript_97 (by omega) (by omega) (by decide) ?_
      refine lv_lstore (lv' := [(4, .long (oL (1000000))), (6, .int (oI (1))), (7, .int (oI (((sc.toNat / 1000000000000 % 1000000 : Nat) : Int)))), (0, .ref (ad (65))), (1, .int (oI (3))), (2, .long (oL (sc)))]) hx hb dX6_runScript_98 hl (by decide) rfl (fun ls hl => ?_)
      refine lv_lload_n hx hb dX6_runScript_100 rfl (lv_at hl 5 rfl) ?_
      refine lv_lload hx hb dX6_runScript_101 (lv_at hl 0 rfl) ?_
      refine m_ldiv (((sc.toNat / 1000000 : Nat) : Int)) hx hb dX6_runScript_103 (by omega) (by omega) (by omega) ?_
      refine lv_ldc2 (v := 1000000) hx hb hown (hts _ kl_X6_224) dX6_runScript_104 ?_
      refine m_J2L 1000000 (by decide +kernel) ?_
      refine m_lrem (((sc.toNat / 1000000 % 1000000 : Nat) : Int)) hx hb dX6_runScript_107 (by omega) (by omega) (by omega) ?_
      refine m_l2i hx hb dX6_runScript_108 ?_
      refine lv_istore (lv' := [(7, .int (oI (((sc.toNat / 1000000 % 1000000 : Nat) : Int)))), (4, .long (oL (1000000))), (6, .int (oI (1))), (0, .ref (ad (65))), (1, .int (oI (3))), (2, .long (oL (sc)))]) hx hb dX6_runScript_109 hl (by decide) rfl (fun ls hl => ?_)
      obtain ⟨h5_1, d4_1, d3_1, d2_1, d1_1, d0_1, hdg_1, hd5_1, hd9_1⟩ := oDig (x := sc.toNat / 1000000 % 1000000) (Nat.mod_lt _ (by decide))
      obtain ⟨v5_1, hv5_1⟩ : ∃ y : Nat, y = 10000 * d4_1 + 1000 * d3_1 + 100 * d2_1 + 10 * d1_1 + d0_1 := ⟨_, rfl⟩
      have hxv_1 : sc.toNat / 1000000 % 1000000 = 100000 * h5_1 + v5_1 := by rw [hv5_1, hdg_1]; omega
      have hvb_1 : v5_1 < 100000 := by omega
      refine lv_aload_n hx hb dX6_runScript_111 rfl (lv_at hl 3 rfl) ?_
      refine lv_iload hx hb dX6_runScript_112 (lv_at hl 0 rfl) ?_
      refine lv_ldc (v := 100000) hx hb hown (hts _ kl_X6_226) dX6_runScript_114 ?_
      refine m_i2I 100000 (by decide +kernel) ?_
      refine m_idiv (((h5_1 : Nat) : Int)) hx hb dX6_runScript_116 (by omega) (by omega) (by omega) ?_
      refine lv_iload hx hb dX6_runScript_117 (lv_at hl 0 rfl) ?_
      refine lv_ldc (v := 100000) hx hb hown (hts _ kl_X6_226) dX6_runScript_119 ?_
      refine m_i2I 100000 (by decide +kernel) ?_
      refine m_irem (((v5_1 : Nat) : Int)) hx hb dX6_runScript_121 (by omega) (by omega) (by omega) ?_
      refine m_callVi hx hb hml hown hts hK hH hl (rest := []) cw_X6_227 (c6_command hA (sc.toNat / 1000000 % 1000000) h5_1 v5_1 d4_1 d3_1 d2_1 d1_1 d0_1 si ac6 spo ou6 0 n_1 a_1 g_1 f8_1 sz_1 w_1 s_1 F_1 R_1 (by first | assumption | omega) (hwf_1) (hag_1) (hp_1) (hxv_1) (hv5_1) (hd5_1) (hd9_1) eM6 e68 e72 e73 e74) ⟨Nat.le_of_ble_eq_true rfl, Nat.le_of_ble_eq_true rfl⟩ ⟨Nat.le_of_ble_eq_true rfl, Nat.le_of_ble_eq_true rfl⟩ rfl (k := 65) (by omega) eM6 rfl rfl (Nat.le_of_ble_eq_true rfl) dX6_runScript_122 (fun r_31 σ_28 H locs hp_29 hH => ?_)
      obtain ⟨rt_2, n_2, a_2, g_2, sz_2, w_2, f8_2, s_2, F_2, R_2, rfl, hrt_2, hg1, hp_2, hwf_2, hag_2, e68, e72, e73, e74, hq_30⟩ := hp_29
      have eM6 : σ_28 (65) = .inr (6, [.int (oI (0)), .ref (ad (66)), .int (oI (((si : Nat) : Int))), .ref (ad (67)), .ref (ad (68)), .ref (ad (69)), .int (oI (((ac6 : Nat) : Int))), .ref (ad (70)), .ref (ad (71)), .ref (ad (72)), .ref (ad (73)), .ref (ad (74)), .int (oI (((spo : Nat) : Int))), .int (oI (((ou6 : Nat) : Int)))]) := (hq_30 _ (by decide) (by decide) (by decide) (by decide)).trans eM6
      have e67 : σ_28 (67) = oAI cT 171 f := (hq_30 _ (by decide) (by decide) (by decide) (by decide)).trans e67
      have hf : ∀ q : Nat, q ≠ 65 → q ≠ 68 → q ≠ 72 → q ≠ 73 → q ≠ 74 → σ_28 q = σ q := fun q n0 n1 n2 n3 n4 => (hq_30 q n1 n2 n3 n4).trans (hf q n0 n1 n2 n3 n4)
      refine m_if_ne 131 hx hb dX6_runScript_125 (by decide) (by omega) (fun hz1 => ?_) (fun hz1 => ?_)
      · refine m_iinc (2) [(6, .int (oI (2))), (7, .int (oI (((sc.toNat / 1000000 % 1000000 : Nat) : Int)))), (4, .long (oL (1000000))), (0, .ref (ad (65))), (1, .int (oI (3))), (2, .long (oL (sc)))] hx hb dX6_runScript_131 hl (j := 2) rfl (by omega) (by decide) rfl (fun ls hl => ?_)
        refine lv_goto (tgt := 86) hx hb dX6_runScript_134 (by decide) ?_
        refine lv_iload hx hb dX6_runScript_86 (lv_at hl 0 rfl) ?_
        refine lv_iload_n hx hb dX6_runScript_88 rfl (lv_at hl 4 rfl) ?_
        refine m_icmp_ge 137 hx hb dX6_runScript_89 (by decide) (by omega) (by omega) (fun h_33 => absurd h_33 (by omega)) (fun h_33 => ?_)
        refine lv_lload hx hb dX6_runScript_92 (lv_at hl 2 rfl) ?_
        refine lv_ldc2 (v := 1000000) hx hb hown (hts _ kl_X6_224) dX6_runScript_94 ?_
        refine m_J2L 1000000 (by decide +kernel) ?_
        refine m_ldiv (1) hx hb dX6_runScript_97 (by omega) (by omega) (by decide) ?_
        refine lv_lstore (lv' := [(4, .long (oL (1))), (6, .int (oI (2))), (7, .int (oI (((sc.toNat / 1000000 % 1000000 : Nat) : Int)))), (0, .ref (ad (65))), (1, .int (oI (3))), (2, .long (oL (sc)))]) hx hb dX6_runScript_98 hl (by decide) rfl (fun ls hl => ?_)
        refine lv_lload_n hx hb dX6_runScript_100 rfl (lv_at hl 5 rfl) ?_
        refine lv_lload hx hb dX6_runScript_101 (lv_at hl 0 rfl) ?_
        refine m_ldiv (((sc.toNat : Nat) : Int)) hx hb dX6_runScript_103 (by omega) (by omega) (by omega) ?_
        refine lv_ldc2 (v := 1000000) hx hb hown (hts _ kl_X6_224) dX6_runScript_104 ?_
        refine m_J2L 1000000 (by decide +kernel) ?_
        refine m_lrem (((sc.toNat % 1000000 : Nat) : Int)) hx hb dX6_runScript_107 (by omega) (by omega) (by omega) ?_
        refine m_l2i hx hb dX6_runScript_108 ?_
        refine lv_istore (lv' := [(7, .int (oI (((sc.toNat % 1000000 : Nat) : Int)))), (4, .long (oL (1))), (6, .int (oI (2))), (0, .ref (ad (65))), (1, .int (oI (3))), (2, .long (oL (sc)))]) hx hb dX6_runScript_109 hl (by decide) rfl (fun ls hl => ?_)
        obtain ⟨h5_2, d4_2, d3_2, d2_2, d1_2, d0_2, hdg_2, hd5_2, hd9_2⟩ := oDig (x := sc.toNat % 1000000) (Nat.mod_lt _ (by decide))
        obtain ⟨v5_2, hv5_2⟩ : ∃ y : Nat, y = 10000 * d4_2 + 1000 * d3_2 + 100 * d2_2 + 10 * d1_2 + d0_2 := ⟨_, rfl⟩
        have hxv_2 : sc.toNat % 1000000 = 100000 * h5_2 + v5_2 := by rw [hv5_2, hdg_2]; omega
        have hvb_2 : v5_2 < 100000 := by omega
        refine lv_aload_n hx hb dX6_runScript_111 rfl (lv_at hl 3 rfl) ?_
        refine lv_iload hx hb dX6_runScript_112 (lv_at hl 0 rfl) ?_
        refine lv_ldc (v := 100000) hx hb hown (hts _ kl_X6_226) dX6_runScript_114 ?_
        refine m_i2I 100000 (by decide +kernel) ?_
        refine m_idiv (((h5_2 : Nat) : Int)) hx hb dX6_runScript_116 (by omega) (by omega) (by omega) ?_
        refine lv_iload hx hb dX6_runScript_117 (lv_at hl 0 rfl) ?_
        refine lv_ldc (v := 100000) hx hb hown (hts _ kl_X6_226) dX6_runScript_119 ?_
        refine m_i2I 100000 (by decide +kernel) ?_
        refine m_irem (((v5_2 : Nat) : Int)) hx hb dX6_runScript_121 (by omega) (by omega) (by omega) ?_
        refine m_callVi hx hb hml hown hts hK hH hl (rest := []) cw_X6_227 (c6_command hA (sc.toNat % 1000000) h5_2 v5_2 d4_2 d3_2 d2_2 d1_2 d0_2 si ac6 spo ou6 0 n_2 a_2 g_2 f8_2 sz_2 w_2 s_2 F_2 R_2 (by first | assumption | omega) (hwf_2) (hag_2) (hp_2) (hxv_2) (hv5_2) (hd5_2) (hd9_2) eM6 e68 e72 e73 e74) ⟨Nat.le_of_ble_eq_true rfl, Nat.le_of_ble_eq_true rfl⟩ ⟨Nat.le_of_ble_eq_true rfl, Nat.le_of_ble_eq_true rfl⟩ rfl (k := 65) (by omega) eM6 rfl rfl (Nat.le_of_ble_eq_true rfl) dX6_runScript_122 (fun r_37 σ_34 H locs hp_35 hH => ?_)
        obtain ⟨rt_3, n_3, a_3, g_3, sz_3, w_3, f8_3, s_3, F_3, R_3, rfl, hrt_3, hg2, hp_3, hwf_3, hag_3, e68, e72, e73, e74, hq_36⟩ := hp_35
        have eM6 : σ_34 (65) = .inr (6, [.int (oI (0)), .ref (ad (66)), .int (oI (((si : Nat) : Int))), .ref (ad (67)), .ref (ad (68)), .ref (ad (69)), .int (oI (((ac6 : Nat) : Int))), .ref (ad (70)), .ref (ad (71)), .ref (ad (72)), .ref (ad (73)), .ref (ad (74)), .int (oI (((spo : Nat) : Int))), .int (oI (((ou6 : Nat) : Int)))]) := (hq_36 _ (by decide) (by decide) (by decide) (by decide)).trans eM6
        have e67 : σ_34 (67) = oAI cT 171 f := (hq_36 _ (by decide) (by decide) (by decide) (by decide)).trans e67
        have hf : ∀ q : Nat, q ≠ 65 → q ≠ 68 → q ≠ 72 → q ≠ 73 → q ≠ 74 → σ_34 q = σ q := fun q n0 n1 n2 n3 n4 => (hq_36 q n1 n2 n3 n4).trans (hf q n0 n1 n2 n3 n4)
        refine m_if_ne 131 hx hb dX6_runScript_125 (by decide) (by omega) (fun hz2 => ?_) (fun hz2 => ?_)
        · refine m_iinc (3) [(6, .int (oI (3))), (7, .int (oI (((sc.toNat % 1000000 : Nat) : Int)))), (4, .long (oL (1))), (0, .ref (ad (65))), (1, .int (oI (3))), (2, .long (oL (sc)))] hx hb dX6_runScript_131 hl (j := 2) rfl (by omega) (by decide) rfl (fun ls hl => ?_)
          refine lv_goto (tgt := 86) hx hb dX6_runScript_134 (by decide) ?_
          refine lv_iload hx hb dX6_runScript_86 (lv_at hl 0 rfl) ?_
          refine lv_iload_n hx hb dX6_runScript_88 rfl (lv_at hl 4 rfl) ?_
          refine m_icmp_ge 137 hx hb dX6_runScript_89 (by decide) (by omega) (by omega) (fun h_39 => ?_) (fun h_39 => absurd h_39 (by omega))
          refine m_iconst (-1) hx hb dX6_runScript_137 rfl ?_
          exact m_iret hx hb hlk hrt hH (m_ni _) dX6_runScript_138 ⟨(-1), 0, f8_3, s_3, F_3, R_3, rfl, (Or.inl ⟨by omega, rfl, by rw [oGl3_3]; exact ((((oScr_go hg0 hz0).trans (oScr_go hg1 hz1)).trans (oScr_go hg2 hz2)).trans (oScr_nil _ _ _ _ _ _)).symm⟩), eM6, e68, e72, e73, e74, hf⟩
        · refine lv_iload hx hb dX6_runScript_128 (lv_at hl 2 rfl) ?_
          exact m_iret hx hb hlk hrt hH (m_ni _) dX6_runScript_130 ⟨2, 0, f8_3, s_3, F_3, R_3, rfl, (Or.inl ⟨by omega, rfl, by rw [oGl3_3]; exact (((oScr_go hg0 hz0).trans (oScr_go hg1 hz1)).trans (oScr_no hg2 hz2)).symm⟩), eM6, e68, e72, e73, e74, hf⟩
      · refine lv_iload hx hb dX6_runScript_128 (lv_at hl 2 rfl) ?_
        exact m_iret hx hb hlk hrt hH (m_ni _) dX6_runScript_130 ⟨1, 0, f8_2, s_2, F_2, R_2, rfl, (Or.inl ⟨by omega, rfl, by rw [oGl3_3]; exact ((oScr_go hg0 hz0).trans (oScr_no hg1 hz1)).symm⟩), eM6, e68, e72, e73, e74, hf⟩
    · refine lv_iload hx hb dX6_runScript_128 (lv_at hl 2 rfl) ?_
      exact m_iret hx hb hlk hrt hH (m_ni _) dX6_runScript_130 ⟨0, 0, f8_1, s_1, F_1, R_1, rfl, (Or.inl ⟨by omega, rfl, by rw [oGl3_3]; exact (oScr_no hg0 hz0).symm⟩), eM6, e68, e72, e73, e74, hf⟩
  · refine m_if_eq 61 hx hb dX6_runScript_54 (by decide) (by omega) (fun h_40 => ?_) (fun h_40 => absurd h_40 (by omega))
    refine m_iconst 1 hx hb dX6_runScript_61 rfl ?_
    refine m_callVi hx hb hml hown hts hK hH hl (rest := []) cw_X6_111 (c6_ref1 hA 1 si ac6 spo ou6 rf (by first | assumption | omega) (by first | assumption | omega) eM6) ⟨Nat.le_of_ble_eq_true rfl, Nat.le_of_ble_eq_true rfl⟩ ⟨Nat.le_of_ble_eq_true rfl, Nat.le_of_ble_eq_true rfl⟩ rfl (k := 65) (by omega) eM6 rfl rfl (Nat.le_of_ble_eq_true rfl) dX6_runScript_62 (fun r_44 σ_41 H locs hp_42 hH => ?_)
    obtain ⟨rfl, eM6, hq_43⟩ := hp_42
    have e67 : σ_41 (67) = oAI cT 171 f := (hq_43 _ (by decide)).trans e67
    have e68 : σ_41 (68) = oAI cT 171 ft := (hq_43 _ (by decide)).trans e68
    have e72 : σ_41 (72) = oAN cT 41 s := (hq_43 _ (by decide)).trans e72
    have e73 : σ_41 (73) = oAI cT 201 F := (hq_43 _ (by decide)).trans e73
    have e74 : σ_41 (74) = oAI cT 201 R := (hq_43 _ (by decide)).trans e74
    have hf : ∀ q : Nat, q ≠ 65 → q ≠ 68 → q ≠ 72 → q ≠ 73 → q ≠ 74 → σ_41 q = σ q := fun q n0 n1 n2 n3 n4 => (hq_43 q n0).trans (hf q n0 n1 n2 n3 n4)
    refine m_if_eq 70 hx hb dX6_runScript_65 (by decide) (by omega) (fun h_45 => absurd h_45 (by omega)) (fun h_45 => ?_)
    refine m_iconst 0 hx hb dX6_runScript_68 rfl ?_
    exact m_iret hx hb hlk hrt hH (m_ni _) dX6_runScript_69 ⟨0, 1, ft, s, F, R, rfl, (Or.inr ⟨rfl, by omega⟩), eM6, e68, e72, e73, e74, hf⟩
set_option maxHeartbeats 4000000 in
set_option maxRecDepth 100000 in
theorem c6_runScriptX {l : Launch} {D : va_G} {cT : Nat → ClassId} {N b0 : Nat} {ad : Nat → Nat} (hA : oAd b0 N ad) {σ : Nat → va_E} (x sc : Int) (si ac6 spo ou6 : Nat) (rf : Int) (hN : 76 ≤ N) (hbx : -2147483648 ≤ x ∧ x < 2147483648) (hx13 : ¬ (1 ≤ x ∧ x ≤ 3)) (hsc : -9223372036854775808 ≤ sc ∧ sc < 9223372036854775808) (eM6 : σ (65) = .inr (6, [.int (oI (rf)), .ref (ad (66)), .int (oI (((si : Nat) : Int))), .ref (ad (67)), .ref (ad (68)), .ref (ad (69)), .int (oI (((ac6 : Nat) : Int))), .ref (ad (70)), .ref (ad (71)), .ref (ad (72)), .ref (ad (73)), .ref (ad (74)), .int (oI (((spo : Nat) : Int))), .int (oI (((ou6 : Nat) : Int)))])) :
    oCi l D cT N ad b0 yX6_runScript cX6_runScript 8 (some .int) 6 141 [.ref (ad (65)), .int (oI (x)), .long (oL (sc))] σ (fun rr uu => rr = oI (0) ∧ uu (65) = .inr (6, [.int (oI (1)), .ref (ad (66)), .int (oI (((si : Nat) : Int))), .ref (ad (67)), .ref (ad (68)), .ref (ad (69)), .int (oI (((ac6 : Nat) : Int))), .ref (ad (70)), .ref (ad (71)), .ref (ad (72)), .ref (ad (73)), .ref (ad (74)), .int (oI (((spo : Nat) : Int))), .int (oI (((ou6 : Nat) : Int)))]) ∧ (∀ q : Nat, q ≠ 65 → uu q = σ q)) := by
  refine m_start (cc := cX6_runScript) (by decide) (Nat.le_of_ble_eq_true rfl) rfl ?_
  intro Pp Ee Ss Mm Bb Me Cc Ar ls hx hb hml hown hlk hrt hts hK hH hl
  have hown : Ss.vm.findClass RX6 = some Mm.cls := hown
  have hl : lv_has ls 8 [(0, .ref (ad (65))), (1, .int (oI (x))), (2, .long (oL (sc)))] := hl
  have hf : ∀ q : Nat, q ≠ 65 → σ q = σ q := fun q _ => rfl
  refine m_lconst 1 hx hb dX6_runScript_0 rfl ?_
  refine lv_lstore (lv' := [(4, .long (oL (1))), (0, .ref (ad (65))), (1, .int (oI (x))), (2, .long (oL (sc)))]) hx hb dX6_runScript_1 hl (by decide) rfl (fun ls hl => ?_)
  refine m_iconst 0 hx hb dX6_runScript_3 rfl ?_
  refine lv_istore (lv' := [(6, .int (oI (0))), (4, .long (oL (1))), (0, .ref (ad (65))), (1, .int (oI (x))), (2, .long (oL (sc)))]) hx hb dX6_runScript_4 hl (by decide) rfl (fun ls hl => ?_)
  refine lv_iload hx hb dX6_runScript_6 (lv_at hl 0 rfl) ?_
  refine lv_iload_n hx hb dX6_runScript_8 rfl (lv_at hl 3 rfl) ?_
  refine m_icmp_ge 32 hx hb dX6_runScript_9 (by decide) (by omega) (by omega) (fun h_1 => ?_) (fun h_1 => ?_)
  · refine lv_aload_n hx hb dX6_runScript_32 rfl (lv_at hl 2 rfl) ?_
    refine lv_iload_n hx hb dX6_runScript_33 rfl (lv_at hl 3 rfl) ?_
    refine m_i2l hx hb dX6_runScript_34 (by omega) ?_
    refine m_lconst 1 hx hb dX6_runScript_35 rfl ?_
    refine lv_ldc2 (v := 3) hx hb hown (hts _ kl_X6_190) dX6_runScript_36 ?_
    refine m_J2L 3 (by decide +kernel) ?_
    refine m_pSb hx hb hml hown hts hK hH hl (rest := [.ref (ad (65))]) cw_X6_46 rfl (c6_in hA x 1 3 (by first | assumption | omega) (by first | assumption | omega) (by first | assumption | omega) ) ⟨Nat.le_of_ble_eq_true rfl, Nat.le_of_ble_eq_true rfl⟩ ⟨Nat.le_of_ble_eq_true rfl, Nat.le_of_ble_eq_true rfl⟩ rfl rfl (Nat.le_of_ble_eq_true rfl) dX6_runScript_39 (fun h_2 => absurd h_2 (by omega)) (fun h_2 H locs hH => ?_)
    refine m_if_eq 61 hx hb dX6_runScript_42 (by decide) (by omega) (fun h_3 => ?_) (fun h_3 => absurd h_3 (by omega))
    refine m_iconst 1 hx hb dX6_runScript_61 rfl ?_
    refine m_callVi hx hb hml hown hts hK hH hl (rest := []) cw_X6_111 (c6_ref1 hA 1 si ac6 spo ou6 rf (by first | assumption | omega) (by first | assumption | omega) eM6) ⟨Nat.le_of_ble_eq_true rfl, Nat.le_of_ble_eq_true rfl⟩ ⟨Nat.le_of_ble_eq_true rfl, Nat.le_of_ble_eq_true rfl⟩ rfl (k := 65) (by omega) eM6 rfl rfl (Nat.le_of_ble_eq_true rfl) dX6_runScript_62 (fun r_7 σ_4 H locs hp_5 hH => ?_)
    obtain ⟨rfl, eM6, hq_6⟩ := hp_5
    have hf : ∀ q : Nat, q ≠ 65 → σ_4 q = σ q := fun q n0 => (hq_6 q n0).trans (hf q n0)
    refine m_if_eq 70 hx hb dX6_runScript_65 (by decide) (by omega) (fun h_8 => absurd h_8 (by omega)) (fun h_8 => ?_)
    refine m_iconst 0 hx hb dX6_runScript_68 rfl ?_
    exact m_iret hx hb hlk hrt hH (m_ni _) dX6_runScript_69 ⟨rfl, eM6, hf⟩
  · refine lv_iload hx hb dX6_runScript_12 (lv_at hl 0 rfl) ?_
    refine m_iconst 3 hx hb dX6_runScript_14 rfl ?_
    refine m_icmp_ge 32 hx hb dX6_runScript_15 (by decide) (by omega) (by omega) (fun h_9 => absurd h_9 (by omega)) (fun h_9 => ?_)
    refine lv_lload hx hb dX6_runScript_18 (lv_at hl 1 rfl) ?_
    refine lv_ldc2 (v := 1000000) hx hb hown (hts _ kl_X6_224) dX6_runScript_20 ?_
    refine m_J2L 1000000 (by decide +kernel) ?_
    refine m_lmul (1000000) hx hb dX6_runScript_23 (by omega) ?_
    refine lv_lstore (lv' := [(4, .long (oL (1000000))), (6, .int (oI (0))), (0, .ref (ad (65))), (1, .int (oI (x))), (2, .long (oL (sc)))]) hx hb dX6_runScript_24 hl (by decide) rfl (fun ls hl => ?_)
    refine m_iinc (1) [(6, .int (oI (1))), (4, .long (oL (1000000))), (0, .ref (ad (65))), (1, .int (oI (x))), (2, .long (oL (sc)))] hx hb dX6_runScript_26 hl (j := 1) rfl (by omega) (by decide) rfl (fun ls hl => ?_)
    refine lv_goto (tgt := 6) hx hb dX6_runScript_29 (by decide) ?_
    refine lv_iload hx hb dX6_runScript_6 (lv_at hl 0 rfl) ?_
    refine lv_iload_n hx hb dX6_runScript_8 rfl (lv_at hl 3 rfl) ?_
    refine m_icmp_ge 32 hx hb dX6_runScript_9 (by decide) (by omega) (by omega) (fun h_10 => absurd h_10 (by omega)) (fun h_10 => ?_)
    refine lv_iload hx hb dX6_runScript_12 (lv_at hl 0 rfl) ?_
    refine m_iconst 3 hx hb dX6_runScript_14 rfl ?_
    refine m_icmp_ge 32 hx hb dX6_runScript_15 (by decide) (by omega) (by omega) (fun h_11 => absurd h_11 (by omega)) (fun h_11 => ?_)
    refine lv_lload hx hb dX6_runScript_18 (lv_at hl 1 rfl) ?_
    refine lv_ldc2 (v := 1000000) hx hb hown (hts _ kl_X6_224) dX6_runScript_20 ?_
    refine m_J2L 1000000 (by decide +kernel) ?_
    refine m_lmul (1000000000000) hx hb dX6_runScript_23 (by omega) ?_
    refine lv_lstore (lv' := [(4, .long (oL (1000000000000))), (6, .int (oI (1))), (0, .ref (ad (65))), (1, .int (oI (x))), (2, .long (oL (sc)))]) hx hb dX6_runScript_24 hl (by decide) rfl (fun ls hl => ?_)
    refine m_iinc (2) [(6, .int (oI (2))), (4, .long (oL (1000000000000))), (0, .ref (ad (65))), (1, .int (oI (x))), (2, .long (oL (sc)))] hx hb dX6_runScript_26 hl (j := 1) rfl (by omega) (by decide) rfl (fun ls hl => ?_)
    refine lv_goto (tgt := 6) hx hb dX6_runScript_29 (by decide) ?_
    refine lv_iload hx hb dX6_runScript_6 (lv_at hl 0 rfl) ?_
    refine lv_iload_n hx hb dX6_runScript_8 rfl (lv_at hl 3 rfl) ?_
    refine m_icmp_ge 32 hx hb dX6_runScript_9 (by decide) (by omega) (by omega) (fun h_12 => absurd h_12 (by omega)) (fun h_12 => ?_)
    refine lv_iload hx hb dX6_runScript_12 (lv_at hl 0 rfl) ?_
    refine m_iconst 3 hx hb dX6_runScript_14 rfl ?_
    refine m_icmp_ge 32 hx hb dX6_runScript_15 (by decide) (by omega) (by omega) (fun h_13 => absurd h_13 (by omega)) (fun h_13 => ?_)
    refine lv_lload hx hb dX6_runScript_18 (lv_at hl 1 rfl) ?_
    refine lv_ldc2 (v := 1000000) hx hb hown (hts _ kl_X6_224) dX6_runScript_20 ?_
    refine m_J2L 1000000 (by decide +kernel) ?_
    refine m_lmul (1000000000000000000) hx hb dX6_runScript_23 (by omega) ?_
    refine lv_lstore (lv' := [(4, .long (oL (1000000000000000000))), (6, .int (oI (2))), (0, .ref (ad (65))), (1, .int (oI (x))), (2, .long (oL (sc)))]) hx hb dX6_runScript_24 hl (by decide) rfl (fun ls hl => ?_)
    refine m_iinc (3) [(6, .int (oI (3))), (4, .long (oL (1000000000000000000))), (0, .ref (ad (65))), (1, .int (oI (x))), (2, .long (oL (sc)))] hx hb dX6_runScript_26 hl (j := 1) rfl (by omega) (by decide) rfl (fun ls hl => ?_)
    refine lv_goto (tgt := 6) hx hb dX6_runScript_29 (by decide) ?_
    refine lv_iload hx hb dX6_runScript_6 (lv_at hl 0 rfl) ?_
    refine lv_iload_n hx hb dX6_runScript_8 rfl (lv_at hl 3 rfl) ?_
    refine m_icmp_ge 32 hx hb dX6_runScript_9 (by decide) (by omega) (by omega) (fun h_14 => absurd h_14 (by omega)) (fun h_14 => ?_)
    refine lv_iload hx hb dX6_runScript_12 (lv_at hl 0 rfl) ?_
    refine m_iconst 3 hx hb dX6_runScript_14 rfl ?_
    refine m_icmp_ge 32 hx hb dX6_runScript_15 (by decide) (by omega) (by omega) (fun h_15 => ?_) (fun h_15 => absurd h_15 (by omega))
    refine lv_aload_n hx hb dX6_runScript_32 rfl (lv_at hl 2 rfl) ?_
    refine lv_iload_n hx hb dX6_runScript_33 rfl (lv_at hl 3 rfl) ?_
    refine m_i2l hx hb dX6_runScript_34 (by omega) ?_
    refine m_lconst 1 hx hb dX6_runScript_35 rfl ?_
    refine lv_ldc2 (v := 3) hx hb hown (hts _ kl_X6_190) dX6_runScript_36 ?_
    refine m_J2L 3 (by decide +kernel) ?_
    refine m_pSb hx hb hml hown hts hK hH hl (rest := [.ref (ad (65))]) cw_X6_46 rfl (c6_in hA x 1 3 (by first | assumption | omega) (by first | assumption | omega) (by first | assumption | omega) ) ⟨Nat.le_of_ble_eq_true rfl, Nat.le_of_ble_eq_true rfl⟩ ⟨Nat.le_of_ble_eq_true rfl, Nat.le_of_ble_eq_true rfl⟩ rfl rfl (Nat.le_of_ble_eq_true rfl) dX6_runScript_39 (fun h_16 => absurd h_16 (by omega)) (fun h_16 H locs hH => ?_)
    refine m_if_eq 61 hx hb dX6_runScript_42 (by decide) (by omega) (fun h_17 => ?_) (fun h_17 => absurd h_17 (by omega))
    refine m_iconst 1 hx hb dX6_runScript_61 rfl ?_
    refine m_callVi hx hb hml hown hts hK hH hl (rest := []) cw_X6_111 (c6_ref1 hA 1 si ac6 spo ou6 rf (by first | assumption | omega) (by first | assumption | omega) eM6) ⟨Nat.le_of_ble_eq_true rfl, Nat.le_of_ble_eq_true rfl⟩ ⟨Nat.le_of_ble_eq_true rfl, Nat.le_of_ble_eq_true rfl⟩ rfl (k := 65) (by omega) eM6 rfl rfl (Nat.le_of_ble_eq_true rfl) dX6_runScript_62 (fun r_21 σ_18 H locs hp_19 hH => ?_)
    obtain ⟨rfl, eM6, hq_20⟩ := hp_19
    have hf : ∀ q : Nat, q ≠ 65 → σ_18 q = σ q := fun q n0 => (hq_20 q n0).trans (hf q n0)
    refine m_if_eq 70 hx hb dX6_runScript_65 (by decide) (by omega) (fun h_22 => absurd h_22 (by omega)) (fun h_22 => ?_)
    refine m_iconst 0 hx hb dX6_runScript_68 rfl ?_
    exact m_iret hx hb hlk hrt hH (m_ni _) dX6_runScript_69 ⟨rfl, eM6, hf⟩
