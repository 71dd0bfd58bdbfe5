theorem oDoW1 (x p : Nat) : oDoW x ((p : Nat) : Int) 1 = x ||| 2 ^ p := if_neg (by decide)
theorem oDoW0 (x p : Nat) : oDoW x ((p : Nat) : Int) 0 = oSet0 x p := if_pos rfl
set_option maxHeartbeats 4000000 in
set_option maxRecDepth 100000 in
theorem c6_bestMark {l : Launch} {D : va_G} {cT : Nat → ClassId} {N b0 : Nat} {ad : Nat → Nat} (hA : oAd b0 N ad) {σ : Nat → va_E} (r x : Int) (si ac6 spo ou6 : Nat) (rf : Int) (n a g : Nat) (f : Nat → Int) (sz w : Nat → Nat) (ft : Nat → Int) (s : Nat → Nat) (F R : Nat → Int) (hN : 76 ≤ N) (hwf : oWf n sz w) (hag : oAg a g) (hp : oRS f n a g sz w) (hbr : -2147483648 ≤ r ∧ r < 2147483648) (hbx : -2147483648 ≤ x ∧ x < 2147483648) (eM6 : σ (65) = .inr (6, [.int (oI (rf)), .ref (ad (66)), .int (oI (((si : Nat) : Int))), .ref (ad (67)), .ref (ad (68)), .ref (ad (69)), .int (oI (((ac6 : Nat) : Int))), .ref (ad (70)), .ref (ad (71)), .ref (ad (72)), .ref (ad (73)), .ref (ad (74)), .int (oI (((spo : Nat) : Int))), .int (oI (((ou6 : Nat) : Int)))])) (e67 : σ (67) = oAI cT 171 f) (e68 : σ (68) = oAI cT 171 ft) (e72 : σ (72) = oAN cT 41 s) (e73 : σ (73) = oAI cT 201 F) (e74 : σ (74) = oAI cT 201 R) :
    oCi l D cT N ad b0 yX6_bestMark cX6_bestMark 7 (some .int) 4 90 [.ref (ad (65)), .int (oI (r)), .int (oI (x))] σ (fun rr uu => ∃ v9 : Int, ∃ r9 : Int, ∃ g8 : Nat → Int, ∃ s2 : Nat → Nat, ∃ F2 : Nat → Int, ∃ R2 : Nat → Int, rr = oI (v9) ∧ (((0 ≤ r ∧ r < (n : Int)) ∧ (x = 0 ∨ x = 1) ∧ r9 = 0 ∧ v9 = (if x = 0 then (oBm n a g sz w r 41).1 else (oBm n a g sz w r 41).2)) ∨ (r9 = 1 ∧ ¬ (0 ≤ r ∧ r < (n : Int))) ∨ (r9 = 2 ∧ (0 ≤ r ∧ r < (n : Int)) ∧ ¬ (x = 0 ∨ x = 1))) ∧ uu (65) = .inr (6, [.int (oI (r9)), .ref (ad (66)), .int (oI (((si : Nat) : Int))), .ref (ad (67)), .ref (ad (68)), .ref (ad (69)), .int (oI (((ac6 : Nat) : Int))), .ref (ad (70)), .ref (ad (71)), .ref (ad (72)), .ref (ad (73)), .ref (ad (74)), .int (oI (((spo : Nat) : Int))), .int (oI (((ou6 : Nat) : Int)))]) ∧ uu (68) = oAI cT 171 g8 ∧ uu (72) = oAN cT 41 s2 ∧ uu (73) = oAI cT 201 F2 ∧ uu (74) = oAI cT 201 R2 ∧ (∀ q : Nat, q ≠ 65 → q ≠ 68 → q ≠ 72 → q ≠ 73 → q ≠ 74 → uu q = σ q)) := by
  refine m_start (cc := cX6_bestMark) (by decide) (Nat.le_of_ble_eq_true rfl) rfl ?_
  intro Pp Ee Ss Mm Bb Me Cc Ar ls hx hb hml hown hlk hrt hts hK hH hl
  have hown : Ss.vm.findClass RX6 = some Mm.cls := hown
  have hn := hwf.1
  have hl : lv_has ls 7 [(0, .ref (ad (65))), (1, .int (oI (r))), (2, .int (oI (x)))] := hl
  have hf : ∀ q : Nat, q ≠ 65 → q ≠ 68 → q ≠ 72 → q ≠ 73 → q ≠ 74 → σ q = σ q := fun q _ _ _ _ _ => rfl
  refine lv_aload_n hx hb dX6_bestMark_0 rfl (lv_at hl 0 rfl) ?_
  refine lv_aload_n hx hb dX6_bestMark_1 rfl (lv_at hl 0 rfl) ?_
  refine gf_X6_now hx hb hts hown hK hH (k := 65) (by omega) eM6 dX6_bestMark_2 ?_
  refine lv_iload_n hx hb dX6_bestMark_5 rfl (lv_at hl 1 rfl) ?_
  refine m_pSb hx hb hml hown hts hK hH hl (rest := [.ref (ad (65))]) cw_X6_50 rfl (c6_isRuler hA 67 n a g f sz w r (by first | assumption | omega) (by first | assumption | omega) (by first | assumption | omega) (by first | assumption | omega) e67) ⟨Nat.le_of_ble_eq_true rfl, Nat.le_of_ble_eq_true rfl⟩ ⟨Nat.le_of_ble_eq_true rfl, Nat.le_of_ble_eq_true rfl⟩ rfl rfl (Nat.le_of_ble_eq_true rfl) dX6_bestMark_6 (fun hR H locs hH => ?_) (fun hR H locs hH => ?_)
  · have eS : oSize n sz r = sz r.toNat := oSize_in hR
    have eR : oRow n w r = w r.toNat := oRow_in hR
    have hs9 := hwf.2 r.toNat (by omega)
    have hw41 := hwf.row (r := r.toNat) (by omega)
    refine m_if_ne 16 hx hb dX6_bestMark_9 (by decide) (by omega) (fun h_1 => ?_) (fun h_1 => absurd h_1 (by omega))
    refine lv_iload_n hx hb dX6_bestMark_16 rfl (lv_at hl 2 rfl) ?_
    refine m_i2l hx hb dX6_bestMark_17 (by omega) ?_
    refine m_lconst 0 hx hb dX6_bestMark_18 rfl ?_
    refine m_lconst 1 hx hb dX6_bestMark_19 rfl ?_
    refine m_pSb hx hb hml hown hts hK hH hl (rest := [.ref (ad (65))]) cw_X6_46 rfl (c6_in hA x 0 1 (by first | assumption | omega) (by first | assumption | omega) (by first | assumption | omega) ) ⟨Nat.le_of_ble_eq_true rfl, Nat.le_of_ble_eq_true rfl⟩ ⟨Nat.le_of_ble_eq_true rfl, Nat.le_of_ble_eq_true rfl⟩ rfl rfl (Nat.le_of_ble_eq_true rfl) dX6_bestMark_20 (fun hx1 H locs hH => ?_) (fun hx1 H locs hH => ?_)
    · refine m_if_eq 30 hx hb dX6_bestMark_23 (by decide) (by omega) (fun h_2 => absurd h_2 (by omega)) (fun h_2 => ?_)
      refine m_iconst 0 hx hb dX6_bestMark_26 rfl ?_
      refine lv_goto (tgt := 31) hx hb dX6_bestMark_27 (by decide) ?_
      refine m_callVi hx hb hml hown hts hK hH hl (rest := []) cw_X6_111 (c6_ref0 hA si ac6 spo ou6 rf (by first | assumption | omega) eM6) ⟨Nat.le_of_ble_eq_true rfl, Nat.le_of_ble_eq_true rfl⟩ ⟨Nat.le_of_ble_eq_true rfl, Nat.le_of_ble_eq_true rfl⟩ rfl (k := 65) (by omega) eM6 rfl rfl (Nat.le_of_ble_eq_true rfl) dX6_bestMark_31 (fun r_6 σ_3 H locs hp_4 hH => ?_)
      obtain ⟨rfl, eM6, hq_5⟩ := hp_4
      have e67 : σ_3 (67) = oAI cT 171 f := (hq_5 _ (by decide)).trans e67
      have e68 : σ_3 (68) = oAI cT 171 ft := (hq_5 _ (by decide)).trans e68
      have e72 : σ_3 (72) = oAN cT 41 s := (hq_5 _ (by decide)).trans e72
      have e73 : σ_3 (73) = oAI cT 201 F := (hq_5 _ (by decide)).trans e73
      have e74 : σ_3 (74) = oAI cT 201 R := (hq_5 _ (by decide)).trans e74
      have hf : ∀ q : Nat, q ≠ 65 → q ≠ 68 → q ≠ 72 → q ≠ 73 → q ≠ 74 → σ_3 q = σ q := fun q n0 n1 n2 n3 n4 => (hq_5 q n0).trans (hf q n0 n1 n2 n3 n4)
      refine m_if_eq 39 hx hb dX6_bestMark_34 (by decide) (by omega) (fun h_7 => ?_) (fun h_7 => absurd h_7 (by omega))
      refine m_iconst (-1) hx hb dX6_bestMark_39 rfl ?_
      refine lv_istore_n (lv' := [(3, .int (oI ((-1)))), (0, .ref (ad (65))), (1, .int (oI (r))), (2, .int (oI (x)))]) hx hb dX6_bestMark_40 rfl hl (by decide) rfl (fun ls hl => ?_)
      refine m_iconst (-1) hx hb dX6_bestMark_41 rfl ?_
      refine lv_istore (lv' := [(4, .int (oI ((-1)))), (3, .int (oI ((-1)))), (0, .ref (ad (65))), (1, .int (oI (r))), (2, .int (oI (x)))]) hx hb dX6_bestMark_42 hl (by decide) rfl (fun ls hl => ?_)
      refine m_iconst 1 hx hb dX6_bestMark_44 rfl ?_
      refine lv_istore (lv' := [(5, .int (oI (1))), (4, .int (oI ((-1)))), (3, .int (oI ((-1)))), (0, .ref (ad (65))), (1, .int (oI (r))), (2, .int (oI (x)))]) hx hb dX6_bestMark_45 hl (by decide) rfl (fun ls hl => ?_)
      have L47 : ∀ (fu : Nat) (p : Nat) (bm : Int) (mm : Int) (f8 : Nat → Int) (s1 : Nat → Nat) (F1 : Nat → Int) (R1 : Nat → Int), (42 - p < fu) → (1 ≤ p ∧ p ≤ sz r.toNat) → (oBm n a g sz w r p = (bm, mm)) → (-1 ≤ bm ∧ bm ≤ 41) → (-1 ≤ mm ∧ mm ≤ 150) → ∀ σL47 : Nat → va_E, σL47 (68) = oAI cT 171 f8 → σL47 (72) = oAN cT 41 s1 → σL47 (73) = oAI cT 201 F1 → σL47 (74) = oAI cT 201 R1 → (∀ q : Nat, q ≠ 68 → q ≠ 72 → q ≠ 73 → q ≠ 74 → σL47 q = σ_3 q) → ∀ (H : Heap) (locs : List Loc), oH b0 D N ad Ss.heap σL47 H locs → ∀ ls : Array Slot, lv_has ls 7 [(0, .ref (ad (65))), (1, .int (oI (r))), (2, .int (oI (x))), (3, .int (oI (bm))), (4, .int (oI (mm))), (5, .int (oI (((p : Nat) : Int))))] → W Pp l Ee { frames := 4, cells := 0, slots := 0, locals := 90 } Ss Mm Ar Bb Me Cc H locs 0 0 (MQ Bb (va_Qi (fun rr uu => ∃ v9 : Int, ∃ r9 : Int, ∃ g8 : Nat → Int, ∃ s2 : Nat → Nat, ∃ F2 : Nat → Int, ∃ R2 : Nat → Int, rr = oI (v9) ∧ (((0 ≤ r ∧ r < (n : Int)) ∧ (x = 0 ∨ x = 1) ∧ r9 = 0 ∧ v9 = (if x = 0 then (oBm n a g sz w r 41).1 else (oBm n a g sz w r 41).2)) ∨ (r9 = 1 ∧ ¬ (0 ≤ r ∧ r < (n : Int))) ∨ (r9 = 2 ∧ (0 ≤ r ∧ r < (n : Int)) ∧ ¬ (x = 0 ∨ x = 1))) ∧ uu (65) = .inr (6, [.int (oI (r9)), .ref (ad (66)), .int (oI (((si : Nat) : Int))), .ref (ad (67)), .ref (ad (68)), .ref (ad (69)), .int (oI (((ac6 : Nat) : Int))), .ref (ad (70)), .ref (ad (71)), .ref (ad (72)), .ref (ad (73)), .ref (ad (74)), .int (oI (((spo : Nat) : Int))), .int (oI (((ou6 : Nat) : Int)))]) ∧ uu (68) = oAI cT 171 g8 ∧ uu (72) = oAN cT 41 s2 ∧ uu (73) = oAI cT 201 F2 ∧ uu (74) = oAI cT 201 R2 ∧ (∀ q : Nat, q ≠ 65 → q ≠ 68 → q ≠ 72 → q ≠ 73 → q ≠ 74 → uu q = σ q)) (oV D N ad) (fun q => b0 ≤ q)) Ar Ss 0 0 (fun q => b0 ≤ q)) (F0 Mm 47 ls []) := by
        intro fu47
        induction fu47 with
        | zero =>
          intro p bm mm f8 s1 F1 R1 hm47
          exact absurd hm47 (Nat.not_lt_zero _)
        | succ fu47 ih47 =>
          intro p bm mm f8 s1 F1 R1 hm47 hpp hbm hbb hmm σL47 e68 e72 e73 e74 hL47 H locs hH ls hl
          have eM6 : σL47 (65) = .inr (6, [.int (oI (0)), .ref (ad (66)), .int (oI (((si : Nat) : Int))), .ref (ad (67)), .ref (ad (68)), .ref (ad (69)), .int (oI (((ac6 : Nat) : Int))), .ref (ad (70)), .ref (ad (71)), .ref (ad (72)), .ref (ad (73)), .ref (ad (74)), .int (oI (((spo : Nat) : Int))), .int (oI (((ou6 : Nat) : Int)))]) := (hL47 _ (by decide) (by decide) (by decide) (by decide)).trans eM6
          have e67 : σL47 (67) = oAI cT 171 f := (hL47 _ (by decide) (by decide) (by decide) (by decide)).trans e67
          have hf : ∀ q : Nat, q ≠ 65 → q ≠ 68 → q ≠ 72 → q ≠ 73 → q ≠ 74 → σL47 q = σ q := fun q n0 n1 n2 n3 n4 => (hL47 q n1 n2 n3 n4).trans (hf q n0 n1 n2 n3 n4)
          refine lv_iload hx hb dX6_bestMark_47 (lv_at hl 5 rfl) ?_
          refine lv_aload_n hx hb dX6_bestMark_49 rfl (lv_at hl 0 rfl) ?_
          refine gf_X6_now hx hb hts hown hK hH (k := 65) (by omega) eM6 dX6_bestMark_50 ?_
          refine lv_iload_n hx hb dX6_bestMark_53 rfl (lv_at hl 1 rfl) ?_
          refine m_topI (((r.toNat : Nat) : Int)) (by omega) ?_
          refine m_pSi hx hb hml hown hts hK hH hl (rest := [.int (oI (((p : Nat) : Int)))]) cw_X6_54 rfl (c6_length hA 67 n a g f sz w r.toNat (by first | assumption | omega) (by first | assumption | omega) (by first | assumption | omega) (by first | assumption | omega) e67) ⟨Nat.le_of_ble_eq_true rfl, Nat.le_of_ble_eq_true rfl⟩ ⟨Nat.le_of_ble_eq_true rfl, Nat.le_of_ble_eq_true rfl⟩ rfl rfl (Nat.le_of_ble_eq_true rfl) dX6_bestMark_54 (fun H locs hH => ?_)
          refine m_icmp_ge 145 hx hb dX6_bestMark_57 (by decide) (by omega) (by omega) (fun h_8 => ?_) (fun h_8 => ?_)
          · refine lv_iload_n hx hb dX6_bestMark_145 rfl (lv_at hl 2 rfl) ?_
            refine m_if_ne 153 hx hb dX6_bestMark_146 (by decide) (by omega) (fun h_9 => ?_) (fun h_9 => ?_)
            · refine lv_iload hx hb dX6_bestMark_153 (lv_at hl 4 rfl) ?_
              exact m_iret hx hb hlk hrt hH (m_ni _) dX6_bestMark_155 ⟨mm, 0, f8, s1, F1, R1, rfl, (Or.inl ⟨hR, by omega, rfl, by rw [if_neg (by omega), show (41 : Nat) = sz r.toNat + (41 - sz r.toNat) by omega, oBm_flat eS (by rw [eR]; exact hs9.2.2.2.2), ← show p = sz r.toNat by omega, hbm]⟩), eM6, e68, e72, e73, e74, hf⟩
            · refine lv_iload_n hx hb dX6_bestMark_149 rfl (lv_at hl 3 rfl) ?_
              refine lv_goto (tgt := 155) hx hb dX6_bestMark_150 (by decide) ?_
              exact m_iret hx hb hlk hrt hH (m_ni _) dX6_bestMark_155 ⟨bm, 0, f8, s1, F1, R1, rfl, (Or.inl ⟨hR, by omega, rfl, by rw [if_pos (by omega), show (41 : Nat) = sz r.toNat + (41 - sz r.toNat) by omega, oBm_flat eS (by rw [eR]; exact hs9.2.2.2.2), ← show p = sz r.toNat by omega, hbm]⟩), eM6, e68, e72, e73, e74, hf⟩
          · refine lv_aload_n hx hb dX6_bestMark_60 rfl (lv_at hl 0 rfl) ?_
            refine gf_X6_now hx hb hts hown hK hH (k := 65) (by omega) eM6 dX6_bestMark_61 ?_
            refine lv_iload_n hx hb dX6_bestMark_64 rfl (lv_at hl 1 rfl) ?_
            refine m_topI (((r.toNat : Nat) : Int)) (by omega) ?_
            refine lv_iload hx hb dX6_bestMark_65 (lv_at hl 5 rfl) ?_
            refine m_pSi hx hb hml hown hts hK hH hl (rest := [.ref (ad (67))]) cw_X6_64 rfl (c6_at hA r.toNat p (by first | assumption | omega) (by first | assumption | omega) ) ⟨Nat.le_of_ble_eq_true rfl, Nat.le_of_ble_eq_true rfl⟩ ⟨Nat.le_of_ble_eq_true rfl, Nat.le_of_ble_eq_true rfl⟩ rfl rfl (Nat.le_of_ble_eq_true rfl) dX6_bestMark_67 (fun H locs hH => ?_)
            refine m_iald hx hb hK hH (k := 67) (by omega) e67 (42 * r.toNat + 4 + p) (by omega) (by omega) (by decide) dX6_bestMark_70 ?_
            refine m_topI (((bz (w r.toNat) p : Nat) : Int)) ((hp.2.2.2 r.toNat (by omega)).2 p (by omega)) ?_
            have hb1 := bz_le (w r.toNat) p
            refine m_if_ne 139 hx hb dX6_bestMark_71 (by decide) (by omega) (fun h_10 => ?_) (fun h_10 => ?_)
            · have hbit : (oRow n w r).testBit p = true := by rw [eR]; exact bz_1.mp (by omega)
              refine m_iinc (((p : Nat) : Int) + 1) [(5, .int (oI (((p : Nat) : Int) + 1))), (0, .ref (ad (65))), (1, .int (oI (r))), (2, .int (oI (x))), (3, .int (oI (bm))), (4, .int (oI (mm)))] hx hb dX6_bestMark_139 hl (j := 5) rfl (by omega) (by decide) rfl (fun ls hl => ?_)
              refine lv_goto (tgt := 47) hx hb dX6_bestMark_142 (by decide) ?_
              exact ih47 (p + 1) bm mm f8 s1 F1 R1 (by omega) (by first | assumption | omega) (by rw [oBm_n (fun q => q.1.2 hbit)]; exact hbm) (by first | assumption | omega) (by first | assumption | omega) _ e68 e72 e73 e74 (hL47) _ _ hH ls (lv_sub hl [1, 2, 3, 4, 5, 0] rfl)
            · have hnb : ¬ (oRow n w r).testBit p = true := fun q => by rw [eR] at q; have := bz_1.mpr q; omega
              refine lv_aload_n hx hb dX6_bestMark_74 rfl (lv_at hl 0 rfl) ?_
              refine gf_X6_now hx hb hts hown hK hH (k := 65) (by omega) eM6 dX6_bestMark_75 ?_
              refine m_iconst 0 hx hb dX6_bestMark_78 rfl ?_
              refine lv_aload_n hx hb dX6_bestMark_79 rfl (lv_at hl 0 rfl) ?_
              refine gf_X6_trial hx hb hts hown hK hH (k := 65) (by omega) eM6 dX6_bestMark_80 ?_
              refine m_iconst 0 hx hb dX6_bestMark_83 rfl ?_
              refine m_callSv hx hb hml hown hts hK hH hl (rest := []) cw_X6_163 rfl (c6_copy11 hA 67 68 0 0 f f8 (by first | assumption | omega) (by first | assumption | omega) (by first | assumption | omega) (by first | assumption | omega) (by first | assumption | omega) e67 e68) ⟨Nat.le_of_ble_eq_true rfl, Nat.le_of_ble_eq_true rfl⟩ ⟨Nat.le_of_ble_eq_true rfl, Nat.le_of_ble_eq_true rfl⟩ rfl rfl (Nat.le_of_ble_eq_true rfl) dX6_bestMark_84 (fun σ_11 H locs hp_12 hH => ?_)
              obtain ⟨f9b, hcp, f_15, e68, hq_13⟩ := hp_12
              have eM6 : σ_11 (65) = .inr (6, [.int (oI (0)), .ref (ad (66)), .int (oI (((si : Nat) : Int))), .ref (ad (67)), .ref (ad (68)), .ref (ad (69)), .int (oI (((ac6 : Nat) : Int))), .ref (ad (70)), .ref (ad (71)), .ref (ad (72)), .ref (ad (73)), .ref (ad (74)), .int (oI (((spo : Nat) : Int))), .int (oI (((ou6 : Nat) : Int)))]) := (hq_13 _ (by decide)).trans eM6
              have e67 : σ_11 (67) = oAI cT 171 f := (hq_13 _ (by decide)).trans e67
              have e72 : σ_11 (72) = oAN cT 41 s1 := (hq_13 _ (by decide)).trans e72
              have e73 : σ_11 (73) = oAI cT 201 F1 := (hq_13 _ (by decide)).trans e73
              have e74 : σ_11 (74) = oAI cT 201 R1 := (hq_13 _ (by decide)).trans e74
              have hf : ∀ q : Nat, q ≠ 65 → q ≠ 68 → q ≠ 72 → q ≠ 73 → q ≠ 74 → σ_11 q = σ q := fun q n0 n1 n2 n3 n4 => (hq_13 q n1).trans (hf q n0 n1 n2 n3 n4)
              have hL47 : ∀ q : Nat, q ≠ 68 → q ≠ 72 → q ≠ 73 → q ≠ 74 → σ_11 q = σ_3 q := fun q n0 n1 n2 n3 => (hq_13 q n0).trans (hL47 q n0 n1 n2 n3)
              have hpt : oRS f9b n a g sz w := oRS_ext hp hn (fun k hk => hcp k hk)
              refine lv_aload_n hx hb dX6_bestMark_87 rfl (lv_at hl 0 rfl) ?_
              refine gf_X6_trial hx hb hts hown hK hH (k := 65) (by omega) eM6 dX6_bestMark_88 ?_
              refine lv_iload_n hx hb dX6_bestMark_91 rfl (lv_at hl 1 rfl) ?_
              refine m_topI (((r.toNat : Nat) : Int)) (by omega) ?_
              refine lv_iload hx hb dX6_bestMark_92 (lv_at hl 5 rfl) ?_
              refine m_iconst 1 hx hb dX6_bestMark_94 rfl ?_
              refine m_callSi hx hb hml hown hts hK hH hl (rest := []) cw_X6_131 rfl (c6_markOn hA 68 n a g f9b sz w r.toNat p 1 (by first | assumption | omega) (by first | assumption | omega) (hpt) (by first | assumption | omega) (by first | assumption | omega) (by first | assumption | omega) (by first | assumption | omega) e68) ⟨Nat.le_of_ble_eq_true rfl, Nat.le_of_ble_eq_true rfl⟩ ⟨Nat.le_of_ble_eq_true rfl, Nat.le_of_ble_eq_true rfl⟩ rfl rfl (Nat.le_of_ble_eq_true rfl) dX6_bestMark_95 (fun r_19 σ_16 H locs hp_17 hH => ?_)
              obtain ⟨f9, rfl, hp9, hwf9, e68, hq_18⟩ := hp_17
              have eM6 : σ_16 (65) = .inr (6, [.int (oI (0)), .ref (ad (66)), .int (oI (((si : Nat) : Int))), .ref (ad (67)), .ref (ad (68)), .ref (ad (69)), .int (oI (((ac6 : Nat) : Int))), .ref (ad (70)), .ref (ad (71)), .ref (ad (72)), .ref (ad (73)), .ref (ad (74)), .int (oI (((spo : Nat) : Int))), .int (oI (((ou6 : Nat) : Int)))]) := (hq_18 _ (by decide)).trans eM6
              have e67 : σ_16 (67) = oAI cT 171 f := (hq_18 _ (by decide)).trans e67
              have e72 : σ_16 (72) = oAN cT 41 s1 := (hq_18 _ (by decide)).trans e72
              have e73 : σ_16 (73) = oAI cT 201 F1 := (hq_18 _ (by decide)).trans e73
              have e74 : σ_16 (74) = oAI cT 201 R1 := (hq_18 _ (by decide)).trans e74
              have hf : ∀ q : Nat, q ≠ 65 → q ≠ 68 → q ≠ 72 → q ≠ 73 → q ≠ 74 → σ_16 q = σ q := fun q n0 n1 n2 n3 n4 => (hq_18 q n1).trans (hf q n0 n1 n2 n3 n4)
              have hL47 : ∀ q : Nat, q ≠ 68 → q ≠ 72 → q ≠ 73 → q ≠ 74 → σ_16 q = σ_3 q := fun q n0 n1 n2 n3 => (hq_18 q n0).trans (hL47 q n0 n1 n2 n3)
              refine lv_pop hx hb dX6_bestMark_98 rfl ?_
              refine lv_aload_n hx hb dX6_bestMark_99 rfl (lv_at hl 0 rfl) ?_
              refine lv_aload_n hx hb dX6_bestMark_100 rfl (lv_at hl 0 rfl) ?_
              refine gf_X6_trial hx hb hts hown hK hH (k := 65) (by omega) eM6 dX6_bestMark_101 ?_
              obtain ⟨c9, hc9⟩ : ∃ y : Nat, oCnt (oOrW n (va_up w r.toNat (oDoW (w r.toNat) (((p) : Nat) : Int) 1)) (-1) 4) a g = y := ⟨_, rfl⟩
              have hc150 : c9 ≤ 150 := by rw [← hc9]; exact Nat.le_trans (oCnt_le _ _ _) hag.2.2
              have hcn : oCnt (oOrW n w r 4 ||| oSpr (oRow n w r ||| 2 ^ p) 41) a g = c9 := by rw [← hc9, oOrW_up (ri := r) (by omega) hn (by omega), oDoW1, eR]
              refine m_callVi hx hb hml hown hts hK hH hl (rest := []) cw_X6_91 (c6_laid hA si ac6 spo ou6 0 68 n a g f9 sz (va_up w r.toNat (oDoW (w r.toNat) (((p) : Nat) : Int) 1)) s1 F1 R1 (by first | assumption | omega) (by first | assumption | omega) (hwf9) (by first | assumption | omega) (hp9) eM6 e68 e72 e73 e74) ⟨Nat.le_of_ble_eq_true rfl, Nat.le_of_ble_eq_true rfl⟩ ⟨Nat.le_of_ble_eq_true rfl, Nat.le_of_ble_eq_true rfl⟩ rfl (k := 65) (by omega) eM6 rfl rfl (Nat.le_of_ble_eq_true rfl) dX6_bestMark_104 (fun r_23 σ_20 H locs hp_21 hH => ?_)
              obtain ⟨s6, F6, R6, rfl, f_24, f_25, e72, e73, e74, hq_22⟩ := hp_21
              have eM6 : σ_20 (65) = .inr (6, [.int (oI (0)), .ref (ad (66)), .int (oI (((si : Nat) : Int))), .ref (ad (67)), .ref (ad (68)), .ref (ad (69)), .int (oI (((ac6 : Nat) : Int))), .ref (ad (70)), .ref (ad (71)), .ref (ad (72)), .ref (ad (73)), .ref (ad (74)), .int (oI (((spo : Nat) : Int))), .int (oI (((ou6 : Nat) : Int)))]) := (hq_22 _ (by decide) (by decide) (by decide)).trans eM6
              have e67 : σ_20 (67) = oAI cT 171 f := (hq_22 _ (by decide) (by decide) (by decide)).trans e67
              have e68 : σ_20 (68) = oAI cT 171 f9 := (hq_22 _ (by decide) (by decide) (by decide)).trans e68
              have hf : ∀ q : Nat, q ≠ 65 → q ≠ 68 → q ≠ 72 → q ≠ 73 → q ≠ 74 → σ_20 q = σ q := fun q n0 n1 n2 n3 n4 => (hq_22 q n2 n3 n4).trans (hf q n0 n1 n2 n3 n4)
              have hL47 : ∀ q : Nat, q ≠ 68 → q ≠ 72 → q ≠ 73 → q ≠ 74 → σ_20 q = σ_3 q := fun q n0 n1 n2 n3 => (hq_22 q n1 n2 n3).trans (hL47 q n0 n1 n2 n3)
              refine m_topI (((c9 : Nat) : Int)) (by rw [hc9]) ?_
              refine lv_istore (lv' := [(6, .int (oI (((c9 : Nat) : Int)))), (0, .ref (ad (65))), (1, .int (oI (r))), (2, .int (oI (x))), (3, .int (oI (bm))), (4, .int (oI (mm))), (5, .int (oI (((p : Nat) : Int))))]) hx hb dX6_bestMark_107 hl (by decide) rfl (fun ls hl => ?_)
              refine lv_iload hx hb dX6_bestMark_109 (lv_at hl 0 rfl) ?_
              refine lv_iload hx hb dX6_bestMark_111 (lv_at hl 5 rfl) ?_
              refine m_icmp_le 121 hx hb dX6_bestMark_113 (by decide) (by omega) (by omega) (fun h_26 => ?_) (fun h_26 => ?_)
              · refine lv_iload_n hx hb dX6_bestMark_121 rfl (lv_at hl 4 rfl) ?_
                refine lv_istore_n (lv' := [(3, .int (oI (bm))), (6, .int (oI (((c9 : Nat) : Int)))), (0, .ref (ad (65))), (1, .int (oI (r))), (2, .int (oI (x))), (4, .int (oI (mm))), (5, .int (oI (((p : Nat) : Int))))]) hx hb dX6_bestMark_122 rfl hl (by decide) rfl (fun ls hl => ?_)
                refine lv_iload hx hb dX6_bestMark_123 (lv_at hl 1 rfl) ?_
                refine lv_iload hx hb dX6_bestMark_125 (lv_at hl 5 rfl) ?_
                refine m_icmp_le 135 hx hb dX6_bestMark_127 (by decide) (by omega) (by omega) (fun h_27 => ?_) (fun h_27 => absurd h_27 (by omega))
                refine lv_iload hx hb dX6_bestMark_135 (lv_at hl 5 rfl) ?_
                refine lv_istore (lv' := [(4, .int (oI (mm))), (3, .int (oI (bm))), (6, .int (oI (((c9 : Nat) : Int)))), (0, .ref (ad (65))), (1, .int (oI (r))), (2, .int (oI (x))), (5, .int (oI (((p : Nat) : Int))))]) hx hb dX6_bestMark_137 hl (by decide) rfl (fun ls hl => ?_)
                refine m_iinc (((p : Nat) : Int) + 1) [(5, .int (oI (((p : Nat) : Int) + 1))), (4, .int (oI (mm))), (3, .int (oI (bm))), (6, .int (oI (((c9 : Nat) : Int)))), (0, .ref (ad (65))), (1, .int (oI (r))), (2, .int (oI (x)))] hx hb dX6_bestMark_139 hl (j := 6) rfl (by omega) (by decide) rfl (fun ls hl => ?_)
                refine lv_goto (tgt := 47) hx hb dX6_bestMark_142 (by decide) ?_
                exact ih47 (p + 1) bm mm f9 s6 F6 R6 (by omega) (by first | assumption | omega) (by rw [oBm_n (fun q => by have h8 := q.2; rw [hbm, hcn] at h8; have h9 : mm < ((c9 : Nat) : Int) := h8; omega)]; exact hbm) (by first | assumption | omega) (by first | assumption | omega) _ e68 e72 e73 e74 (hL47) _ _ hH ls (lv_sub hl [4, 5, 6, 2, 1, 0] rfl)
              · refine lv_iload hx hb dX6_bestMark_116 (lv_at hl 6 rfl) ?_
                refine lv_goto (tgt := 122) hx hb dX6_bestMark_118 (by decide) ?_
                refine lv_istore_n (lv' := [(3, .int (oI (((p : Nat) : Int)))), (6, .int (oI (((c9 : Nat) : Int)))), (0, .ref (ad (65))), (1, .int (oI (r))), (2, .int (oI (x))), (4, .int (oI (mm))), (5, .int (oI (((p : Nat) : Int))))]) hx hb dX6_bestMark_122 rfl hl (by decide) rfl (fun ls hl => ?_)
                refine lv_iload hx hb dX6_bestMark_123 (lv_at hl 1 rfl) ?_
                refine lv_iload hx hb dX6_bestMark_125 (lv_at hl 5 rfl) ?_
                refine m_icmp_le 135 hx hb dX6_bestMark_127 (by decide) (by omega) (by omega) (fun h_28 => absurd h_28 (by omega)) (fun h_28 => ?_)
                refine lv_iload hx hb dX6_bestMark_130 (lv_at hl 1 rfl) ?_
                refine lv_goto (tgt := 137) hx hb dX6_bestMark_132 (by decide) ?_
                refine lv_istore (lv' := [(4, .int (oI (((c9 : Nat) : Int)))), (3, .int (oI (((p : Nat) : Int)))), (6, .int (oI (((c9 : Nat) : Int)))), (0, .ref (ad (65))), (1, .int (oI (r))), (2, .int (oI (x))), (5, .int (oI (((p : Nat) : Int))))]) hx hb dX6_bestMark_137 hl (by decide) rfl (fun ls hl => ?_)
                refine m_iinc (((p : Nat) : Int) + 1) [(5, .int (oI (((p : Nat) : Int) + 1))), (4, .int (oI (((c9 : Nat) : Int)))), (3, .int (oI (((p : Nat) : Int)))), (6, .int (oI (((c9 : Nat) : Int)))), (0, .ref (ad (65))), (1, .int (oI (r))), (2, .int (oI (x)))] hx hb dX6_bestMark_139 hl (j := 6) rfl (by omega) (by decide) rfl (fun ls hl => ?_)
                refine lv_goto (tgt := 47) hx hb dX6_bestMark_142 (by decide) ?_
                exact ih47 (p + 1) ((p : Nat) : Int) ((c9 : Nat) : Int) f9 s6 F6 R6 (by omega) (by first | assumption | omega) (by rw [oBm_y ⟨⟨by rw [eS]; omega, hnb⟩, by rw [hbm, hcn]; show mm < ((c9 : Nat) : Int); omega⟩, hcn]) (by first | assumption | omega) (by first | assumption | omega) _ e68 e72 e73 e74 (hL47) _ _ hH ls (lv_sub hl [4, 5, 6, 2, 1, 0] rfl)
      exact L47 _ 1 (-1) (-1) ft s F R (Nat.lt_succ_self _) (by first | assumption | omega) (by rw [show (1 : Nat) = 0 + 1 from rfl, oBm_n (fun q => q.1.2 (by rw [eR]; exact hs9.2.2.2.1))]; rfl) (by first | assumption | omega) (by first | assumption | omega) _ e68 e72 e73 e74 (fun q _ _ _ _ => rfl) _ _ hH ls (lv_sub hl [3, 4, 5, 2, 1, 0] rfl)
    · refine m_if_eq 30 hx hb dX6_bestMark_23 (by decide) (by omega) (fun h_29 => ?_) (fun h_29 => absurd h_29 (by omega))
      refine m_iconst 2 hx hb dX6_bestMark_30 rfl ?_
      refine m_callVi hx hb hml hown hts hK hH hl (rest := []) cw_X6_111 (c6_ref1 hA 2 si ac6 spo ou6 rf (by first | assumption | omega) (by first | assumption | omega) eM6) ⟨Nat.le_of_ble_eq_true rfl, Nat.le_of_ble_eq_true rfl⟩ ⟨Nat.le_of_ble_eq_true rfl, Nat.le_of_ble_eq_true rfl⟩ rfl (k := 65) (by omega) eM6 rfl rfl (Nat.le_of_ble_eq_true rfl) dX6_bestMark_31 (fun r_33 σ_30 H locs hp_31 hH => ?_)
      obtain ⟨rfl, eM6, hq_32⟩ := hp_31
      have e67 : σ_30 (67) = oAI cT 171 f := (hq_32 _ (by decide)).trans e67
      have e68 : σ_30 (68) = oAI cT 171 ft := (hq_32 _ (by decide)).trans e68
      have e72 : σ_30 (72) = oAN cT 41 s := (hq_32 _ (by decide)).trans e72
      have e73 : σ_30 (73) = oAI cT 201 F := (hq_32 _ (by decide)).trans e73
      have e74 : σ_30 (74) = oAI cT 201 R := (hq_32 _ (by decide)).trans e74
      have hf : ∀ q : Nat, q ≠ 65 → q ≠ 68 → q ≠ 72 → q ≠ 73 → q ≠ 74 → σ_30 q = σ q := fun q n0 n1 n2 n3 n4 => (hq_32 q n0).trans (hf q n0 n1 n2 n3 n4)
      refine m_if_eq 39 hx hb dX6_bestMark_34 (by decide) (by omega) (fun h_34 => absurd h_34 (by omega)) (fun h_34 => ?_)
      refine m_iconst 0 hx hb dX6_bestMark_37 rfl ?_
      exact m_iret hx hb hlk hrt hH (m_ni _) dX6_bestMark_38 ⟨0, 2, ft, s, F, R, rfl, (Or.inr (Or.inr ⟨rfl, hR, by omega⟩)), eM6, e68, e72, e73, e74, hf⟩
  · refine m_if_ne 16 hx hb dX6_bestMark_9 (by decide) (by omega) (fun h_35 => absurd h_35 (by omega)) (fun h_35 => ?_)
    refine m_iconst 1 hx hb dX6_bestMark_12 rfl ?_
    refine lv_goto (tgt := 31) hx hb dX6_bestMark_13 (by decide) ?_
    refine m_callVi hx hb hml hown hts hK hH hl (rest := []) cw_X6_111 (c6_ref1 hA 1 si ac6 spo ou6 rf (by first | assumption | omega) (by first | assumption | omega) eM6) ⟨Nat.le_of_ble_eq_true rfl, Nat.le_of_ble_eq_true rfl⟩ ⟨Nat.le_of_ble_eq_true rfl, Nat.le_of_ble_eq_true rfl⟩ rfl (k := 65) (by omega) eM6 rfl rfl (Nat.le_of_ble_eq_true rfl) dX6_bestMark_31 (fun r_39 σ_36 H locs hp_37 hH => ?_)
    obtain ⟨rfl, eM6, hq_38⟩ := hp_37
    have e67 : σ_36 (67) = oAI cT 171 f := (hq_38 _ (by decide)).trans e67
    have e68 : σ_36 (68) = oAI cT 171 ft := (hq_38 _ (by decide)).trans e68
    have e72 : σ_36 (72) = oAN cT 41 s := (hq_38 _ (by decide)).trans e72
    have e73 : σ_36 (73) = oAI cT 201 F := (hq_38 _ (by decide)).trans e73
    have e74 : σ_36 (74) = oAI cT 201 R := (hq_38 _ (by decide)).trans e74
    have hf : ∀ q : Nat, q ≠ 65 → q ≠ 68 → q ≠ 72 → q ≠ 73 → q ≠ 74 → σ_36 q = σ q := fun q n0 n1 n2 n3 n4 => (hq_38 q n0).trans (hf q n0 n1 n2 n3 n4)
    refine m_if_eq 39 hx hb dX6_bestMark_34 (by decide) (by omega) (fun h_40 => absurd h_40 (by omega)) (fun h_40 => ?_)
    refine m_iconst 0 hx hb dX6_bestMark_37 rfl ?_
    exact m_iret hx hb hlk hrt hH (m_ni _) dX6_bestMark_38 ⟨0, 1, ft, s, F, R, rfl, (Or.inr (Or.inl ⟨rfl, hR⟩)), eM6, e68, e72, e73, e74, hf⟩
set_option maxHeartbeats 4000000 in
set_option maxRecDepth 100000 in
theorem c6_needless {l : Launch} {D : va_G} {cT : Nat → ClassId} {N b0 : Nat} {ad : Nat → Nat} (hA : oAd b0 N ad) {σ : Nat → va_E} (r : Int) (si ac6 spo ou6 : Nat) (rf : Int) (n a g : Nat) (f : Nat → Int) (sz w : Nat → Nat) (ft : Nat → Int) (s : Nat → Nat) (F R : Nat → Int) (hN : 76 ≤ N) (hwf : oWf n sz w) (hag : oAg a g) (hp : oRS f n a g sz w) (hbr : -2147483648 ≤ r ∧ r < 2147483648) (eM6 : σ (65) = .inr (6, [.int (oI (rf)), .ref (ad (66)), .int (oI (((si : Nat) : Int))), .ref (ad (67)), .ref (ad (68)), .ref (ad (69)), .int (oI (((ac6 : Nat) : Int))), .ref (ad (70)), .ref (ad (71)), .ref (ad (72)), .ref (ad (73)), .ref (ad (74)), .int (oI (((spo : Nat) : Int))), .int (oI (((ou6 : Nat) : Int)))])) (e67 : σ (67) = oAI cT 171 f) (e68 : σ (68) = oAI cT 171 ft) (e72 : σ (72) = oAN cT 41 s) (e73 : σ (73) = oAI cT 201 F) (e74 : σ (74) = oAI cT 201 R) :
    oCi l D cT N ad b0 yX6_needless cX6_needless 5 (some .int) 4 90 [.ref (ad (65)), .int (oI (r))] σ (fun rr uu => ∃ v9 : Int, ∃ r9 : Int, ∃ g8 : Nat → Int, ∃ s2 : Nat → Nat, ∃ F2 : Nat → Int, ∃ R2 : Nat → Int, rr = oI (v9) ∧ (((0 ≤ r ∧ r < (n : Int)) ∧ r9 = 0 ∧ v9 = ((oNd n a g sz w r 39 : Nat) : Int)) ∨ (r9 = 1 ∧ ¬ (0 ≤ r ∧ r < (n : Int)))) ∧ uu (65) = .inr (6, [.int (oI (r9)), .ref (ad (66)), .int (oI (((si : Nat) : Int))), .ref (ad (67)), .ref (ad (68)), .ref (ad (69)), .int (oI (((ac6 : Nat) : Int))), .ref (ad (70)), .ref (ad (71)), .ref (ad (72)), .ref (ad (73)), .ref (ad (74)), .int (oI (((spo : Nat) : Int))), .int (oI (((ou6 : Nat) : Int)))]) ∧ uu (68) = oAI cT 171 g8 ∧ uu (72) = oAN cT 41 s2 ∧ uu (73) = oAI cT 201 F2 ∧ uu (74) = oAI cT 201 R2 ∧ (∀ q : Nat, q ≠ 65 → q ≠ 68 → q ≠ 72 → q ≠ 73 → q ≠ 74 → uu q = σ q)) := by
  refine m_start (cc := cX6_needless) (by decide) (Nat.le_of_ble_eq_true rfl) rfl ?_
  intro Pp Ee Ss Mm Bb Me Cc Ar ls hx hb hml hown hlk hrt hts hK hH hl
  have hown : Ss.vm.findClass RX6 = some Mm.cls := hown
  have hn := hwf.1
  have hl : lv_has ls 5 [(0, .ref (ad (65))), (1, .int (oI (r)))] := hl
  have hf : ∀ q : Nat, q ≠ 65 → q ≠ 68 → q ≠ 72 → q ≠ 73 → q ≠ 74 → σ q = σ q := fun q _ _ _ _ _ => rfl
  refine lv_aload_n hx hb dX6_needless_0 rfl (lv_at hl 0 rfl) ?_
  refine lv_aload_n hx hb dX6_needless_1 rfl (lv_at hl 0 rfl) ?_
  refine gf_X6_now hx hb hts hown hK hH (k := 65) (by omega) eM6 dX6_needless_2 ?_
  refine lv_iload_n hx hb dX6_needless_5 rfl (lv_at hl 1 rfl) ?_
  refine m_pSb hx hb hml hown hts hK hH hl (rest := [.ref (ad (65))]) cw_X6_50 rfl (c6_isRuler hA 67 n a g f sz w r (by first | assumption | omega) (by first | assumption | omega) (by first | assumption | omega) (by first | assumption | omega) e67) ⟨Nat.le_of_ble_eq_true rfl, Nat.le_of_ble_eq_true rfl⟩ ⟨Nat.le_of_ble_eq_true rfl, Nat.le_of_ble_eq_true rfl⟩ rfl rfl (Nat.le_of_ble_eq_true rfl) dX6_needless_6 (fun hR H locs hH => ?_) (fun hR H locs hH => ?_)
  · have eS : oSize n sz r = sz r.toNat := oSize_in hR
    have eR : oRow n w r = w r.toNat := oRow_in hR
    have hs9 := hwf.2 r.toNat (by omega)
    have hw41 := hwf.row (r := r.toNat) (by omega)
    refine m_if_eq 16 hx hb dX6_needless_9 (by decide) (by omega) (fun h_1 => absurd h_1 (by omega)) (fun h_1 => ?_)
    refine m_iconst 0 hx hb dX6_needless_12 rfl ?_
    refine lv_goto (tgt := 17) hx hb dX6_needless_13 (by decide) ?_
    refine m_callVi hx hb hml hown hts hK hH hl (rest := []) cw_X6_111 (c6_ref0 hA si ac6 spo ou6 rf (by first | assumption | omega) eM6) ⟨Nat.le_of_ble_eq_true rfl, Nat.le_of_ble_eq_true rfl⟩ ⟨Nat.le_of_ble_eq_true rfl, Nat.le_of_ble_eq_true rfl⟩ rfl (k := 65) (by omega) eM6 rfl rfl (Nat.le_of_ble_eq_true rfl) dX6_needless_17 (fun r_5 σ_2 H locs hp_3 hH => ?_)
    obtain ⟨rfl, eM6, hq_4⟩ := hp_3
    have e67 : σ_2 (67) = oAI cT 171 f := (hq_4 _ (by decide)).trans e67
    have e68 : σ_2 (68) = oAI cT 171 ft := (hq_4 _ (by decide)).trans e68
    have e72 : σ_2 (72) = oAN cT 41 s := (hq_4 _ (by decide)).trans e72
    have e73 : σ_2 (73) = oAI cT 201 F := (hq_4 _ (by decide)).trans e73
    have e74 : σ_2 (74) = oAI cT 201 R := (hq_4 _ (by decide)).trans e74
    have hf : ∀ q : Nat, q ≠ 65 → q ≠ 68 → q ≠ 72 → q ≠ 73 → q ≠ 74 → σ_2 q = σ q := fun q n0 n1 n2 n3 n4 => (hq_4 q n0).trans (hf q n0 n1 n2 n3 n4)
    refine m_if_eq 25 hx hb dX6_needless_20 (by decide) (by omega) (fun h_6 => ?_) (fun h_6 => absurd h_6 (by omega))
    refine lv_aload_n hx hb dX6_needless_25 rfl (lv_at hl 0 rfl) ?_
    refine lv_aload_n hx hb dX6_needless_26 rfl (lv_at hl 0 rfl) ?_
    refine gf_X6_now hx hb hts hown hK hH (k := 65) (by omega) eM6 dX6_needless_27 ?_
    obtain ⟨c0, hc0⟩ : ∃ y : Nat, oCnt (oOrW n w (-1) 4) a g = y := ⟨_, rfl⟩
    have hc0b : c0 ≤ 150 := by rw [← hc0]; exact Nat.le_trans (oCnt_le _ _ _) hag.2.2
    refine m_callVi hx hb hml hown hts hK hH hl (rest := []) cw_X6_91 (c6_laid hA si ac6 spo ou6 0 67 n a g f sz w s F R (by first | assumption | omega) (by first | assumption | omega) (by first | assumption | omega) (by first | assumption | omega) (by first | assumption | omega) eM6 e67 e72 e73 e74) ⟨Nat.le_of_ble_eq_true rfl, Nat.le_of_ble_eq_true rfl⟩ ⟨Nat.le_of_ble_eq_true rfl, Nat.le_of_ble_eq_true rfl⟩ rfl (k := 65) (by omega) eM6 rfl rfl (Nat.le_of_ble_eq_true rfl) dX6_needless_30 (fun r_10 σ_7 H locs hp_8 hH => ?_)
    obtain ⟨s5, F5, R5, rfl, f_11, f_12, e72, e73, e74, hq_9⟩ := hp_8
    have eM6 : σ_7 (65) = .inr (6, [.int (oI (0)), .ref (ad (66)), .int (oI (((si : Nat) : Int))), .ref (ad (67)), .ref (ad (68)), .ref (ad (69)), .int (oI (((ac6 : Nat) : Int))), .ref (ad (70)), .ref (ad (71)), .ref (ad (72)), .ref (ad (73)), .ref (ad (74)), .int (oI (((spo : Nat) : Int))), .int (oI (((ou6 : Nat) : Int)))]) := (hq_9 _ (by decide) (by decide) (by decide)).trans eM6
    have e67 : σ_7 (67) = oAI cT 171 f := (hq_9 _ (by decide) (by decide) (by decide)).trans e67
    have e68 : σ_7 (68) = oAI cT 171 ft := (hq_9 _ (by decide) (by decide) (by decide)).trans e68
    have hf : ∀ q : Nat, q ≠ 65 → q ≠ 68 → q ≠ 72 → q ≠ 73 → q ≠ 74 → σ_7 q = σ q := fun q n0 n1 n2 n3 n4 => (hq_9 q n2 n3 n4).trans (hf q n0 n1 n2 n3 n4)
    refine m_topI (((c0 : Nat) : Int)) (by rw [hc0]) ?_
    refine lv_istore_n (lv' := [(2, .int (oI (((c0 : Nat) : Int)))), (0, .ref (ad (65))), (1, .int (oI (r)))]) hx hb dX6_needless_33 rfl hl (by decide) rfl (fun ls hl => ?_)
    refine m_iconst 0 hx hb dX6_needless_34 rfl ?_
    refine lv_istore_n (lv' := [(3, .int (oI (0))), (2, .int (oI (((c0 : Nat) : Int)))), (0, .ref (ad (65))), (1, .int (oI (r)))]) hx hb dX6_needless_35 rfl hl (by decide) rfl (fun ls hl => ?_)
    refine m_iconst 1 hx hb dX6_needless_36 rfl ?_
    refine lv_istore (lv' := [(4, .int (oI (1))), (3, .int (oI (0))), (2, .int (oI (((c0 : Nat) : Int)))), (0, .ref (ad (65))), (1, .int (oI (r)))]) hx hb dX6_needless_37 hl (by decide) rfl (fun ls hl => ?_)
    have L39 : ∀ (fu : Nat) (i : Nat) (ac : Nat) (f8 : Nat → Int) (s1 : Nat → Nat) (F1 : Nat → Int) (R1 : Nat → Int), (42 - i < fu) → (i + 1 ≤ sz r.toNat) → (ac = oNd n a g sz w r i) → (ac ≤ i) → ∀ σL39 : Nat → va_E, σL39 (68) = oAI cT 171 f8 → σL39 (72) = oAN cT 41 s1 → σL39 (73) = oAI cT 201 F1 → σL39 (74) = oAI cT 201 R1 → (∀ q : Nat, q ≠ 68 → q ≠ 72 → q ≠ 73 → q ≠ 74 → σL39 q = σ_7 q) → ∀ (H : Heap) (locs : List Loc), oH b0 D N ad Ss.heap σL39 H locs → ∀ ls : Array Slot, lv_has ls 5 [(0, .ref (ad (65))), (1, .int (oI (r))), (2, .int (oI (((c0 : Nat) : Int)))), (3, .int (oI (((ac : Nat) : Int)))), (4, .int (oI (((i : Nat) : Int) + 1)))] → W Pp l Ee { frames := 4, cells := 0, slots := 0, locals := 90 } Ss Mm Ar Bb Me Cc H locs 0 0 (MQ Bb (va_Qi (fun rr uu => ∃ v9 : Int, ∃ r9 : Int, ∃ g8 : Nat → Int, ∃ s2 : Nat → Nat, ∃ F2 : Nat → Int, ∃ R2 : Nat → Int, rr = oI (v9) ∧ (((0 ≤ r ∧ r < (n : Int)) ∧ r9 = 0 ∧ v9 = ((oNd n a g sz w r 39 : Nat) : Int)) ∨ (r9 = 1 ∧ ¬ (0 ≤ r ∧ r < (n : Int)))) ∧ uu (65) = .inr (6, [.int (oI (r9)), .ref (ad (66)), .int (oI (((si : Nat) : Int))), .ref (ad (67)), .ref (ad (68)), .ref (ad (69)), .int (oI (((ac6 : Nat) : Int))), .ref (ad (70)), .ref (ad (71)), .ref (ad (72)), .ref (ad (73)), .ref (ad (74)), .int (oI (((spo : Nat) : Int))), .int (oI (((ou6 : Nat) : Int)))]) ∧ uu (68) = oAI cT 171 g8 ∧ uu (72) = oAN cT 41 s2 ∧ uu (73) = oAI cT 201 F2 ∧ uu (74) = oAI cT 201 R2 ∧ (∀ q : Nat, q ≠ 65 → q ≠ 68 → q ≠ 72 → q ≠ 73 → q ≠ 74 → uu q = σ q)) (oV D N ad) (fun q => b0 ≤ q)) Ar Ss 0 0 (fun q => b0 ≤ q)) (F0 Mm 39 ls []) := by
      intro fu39
      induction fu39 with
      | zero =>
        intro i ac f8 s1 F1 R1 hm39
        exact absurd hm39 (Nat.not_lt_zero _)
      | succ fu39 ih39 =>
        intro i ac f8 s1 F1 R1 hm39 hpp hac9 hab σL39 e68 e72 e73 e74 hL39 H locs hH ls hl
        have eM6 : σL39 (65) = .inr (6, [.int (oI (0)), .ref (ad (66)), .int (oI (((si : Nat) : Int))), .ref (ad (67)), .ref (ad (68)), .ref (ad (69)), .int (oI (((ac6 : Nat) : Int))), .ref (ad (70)), .ref (ad (71)), .ref (ad (72)), .ref (ad (73)), .ref (ad (74)), .int (oI (((spo : Nat) : Int))), .int (oI (((ou6 : Nat) : Int)))]) := (hL39 _ (by decide) (by decide) (by decide) (by decide)).trans eM6
        have e67 : σL39 (67) = oAI cT 171 f := (hL39 _ (by decide) (by decide) (by decide) (by decide)).trans e67
        have hf : ∀ q : Nat, q ≠ 65 → q ≠ 68 → q ≠ 72 → q ≠ 73 → q ≠ 74 → σL39 q = σ q := fun q n0 n1 n2 n3 n4 => (hL39 q n1 n2 n3 n4).trans (hf q n0 n1 n2 n3 n4)
        refine lv_iload hx hb dX6_needless_39 (lv_at hl 4 rfl) ?_
        refine lv_aload_n hx hb dX6_needless_41 rfl (lv_at hl 0 rfl) ?_
        refine gf_X6_now hx hb hts hown hK hH (k := 65) (by omega) eM6 dX6_needless_42 ?_
        refine lv_iload_n hx hb dX6_needless_45 rfl (lv_at hl 1 rfl) ?_
        refine m_topI (((r.toNat : Nat) : Int)) (by omega) ?_
        refine m_pSi hx hb hml hown hts hK hH hl (rest := [.int (oI (((i : Nat) : Int) + 1))]) cw_X6_54 rfl (c6_length hA 67 n a g f sz w r.toNat (by first | assumption | omega) (by first | assumption | omega) (by first | assumption | omega) (by first | assumption | omega) e67) ⟨Nat.le_of_ble_eq_true rfl, Nat.le_of_ble_eq_true rfl⟩ ⟨Nat.le_of_ble_eq_true rfl, Nat.le_of_ble_eq_true rfl⟩ rfl rfl (Nat.le_of_ble_eq_true rfl) dX6_needless_46 (fun H locs hH => ?_)
        refine m_icmp_ge 118 hx hb dX6_needless_49 (by decide) (by omega) (by omega) (fun h_13 => ?_) (fun h_13 => ?_)
        · refine lv_iload_n hx hb dX6_needless_118 rfl (lv_at hl 3 rfl) ?_
          exact m_iret hx hb hlk hrt hH (m_ni _) dX6_needless_119 ⟨((ac : Nat) : Int), 0, f8, s1, F1, R1, rfl, (Or.inl ⟨hR, rfl, by rw [hac9, show (39 : Nat) = i + (39 - i) by omega, oNd_flat (s := i) (by rw [eS]; omega) (by rw [eR, show i + 2 = sz r.toNat + 1 by omega]; exact hs9.2.2.1)]⟩), eM6, e68, e72, e73, e74, hf⟩
        · refine lv_aload_n hx hb dX6_needless_52 rfl (lv_at hl 0 rfl) ?_
          refine gf_X6_now hx hb hts hown hK hH (k := 65) (by omega) eM6 dX6_needless_53 ?_
          refine lv_iload_n hx hb dX6_needless_56 rfl (lv_at hl 1 rfl) ?_
          refine m_topI (((r.toNat : Nat) : Int)) (by omega) ?_
          refine lv_iload hx hb dX6_needless_57 (lv_at hl 4 rfl) ?_
          refine m_pSi hx hb hml hown hts hK hH hl (rest := [.ref (ad (67))]) cw_X6_64 rfl (c6_at hA r.toNat (i + 1) (by first | assumption | omega) (by first | assumption | omega) ) ⟨Nat.le_of_ble_eq_true rfl, Nat.le_of_ble_eq_true rfl⟩ ⟨Nat.le_of_ble_eq_true rfl, Nat.le_of_ble_eq_true rfl⟩ rfl rfl (Nat.le_of_ble_eq_true rfl) dX6_needless_59 (fun H locs hH => ?_)
          refine m_iald hx hb hK hH (k := 67) (by omega) e67 (42 * r.toNat + 4 + (i + 1)) (by omega) (by omega) (by decide) dX6_needless_62 ?_
          refine m_topI (((bz (w r.toNat) (i + 1) : Nat) : Int)) ((hp.2.2.2 r.toNat (by omega)).2 (i + 1) (by omega)) ?_
          have hb1 := bz_le (w r.toNat) (i + 1)
          refine m_iconst 1 hx hb dX6_needless_63 rfl ?_
          refine m_icmp_ne 112 hx hb dX6_needless_64 (by decide) (by omega) (by omega) (fun h_14 => ?_) (fun h_14 => ?_)
          · have hnb : ¬ (oRow n w r).testBit (i + 1) = true := fun q => by rw [eR] at q; have := bz_1.mpr q; omega
            refine m_iinc (((i : Nat) : Int) + 2) [(4, .int (oI (((i : Nat) : Int) + 2))), (0, .ref (ad (65))), (1, .int (oI (r))), (2, .int (oI (((c0 : Nat) : Int)))), (3, .int (oI (((ac : Nat) : Int))))] hx hb dX6_needless_112 hl (j := 4) rfl (by omega) (by decide) rfl (fun ls hl => ?_)
            refine lv_goto (tgt := 39) hx hb dX6_needless_115 (by decide) ?_
            exact ih39 (i + 1) ac f8 s1 F1 R1 (by omega) (by first | assumption | omega) (by rw [oNd_n (fun q => hnb (oNdB_iff.mp q).1)]; exact hac9) (by first | assumption | omega) _ e68 e72 e73 e74 (hL39) _ _ hH ls (lv_sub hl [1, 2, 3, 4, 0] rfl)
          · have hbit : (oRow n w r).testBit (i + 1) = true := by rw [eR]; exact bz_1.mp (by omega)
            refine lv_aload_n hx hb dX6_needless_67 rfl (lv_at hl 0 rfl) ?_
            refine gf_X6_now hx hb hts hown hK hH (k := 65) (by omega) eM6 dX6_needless_68 ?_
            refine m_iconst 0 hx hb dX6_needless_71 rfl ?_
            refine lv_aload_n hx hb dX6_needless_72 rfl (lv_at hl 0 rfl) ?_
            refine gf_X6_trial hx hb hts hown hK hH (k := 65) (by omega) eM6 dX6_needless_73 ?_
            refine m_iconst 0 hx hb dX6_needless_76 rfl ?_
            refine m_callSv hx hb hml hown hts hK hH hl (rest := []) cw_X6_163 rfl (c6_copy11 hA 67 68 0 0 f f8 (by first | assumption | omega) (by first | assumption | omega) (by first | assumption | omega) (by first | assumption | omega) (by first | assumption | omega) e67 e68) ⟨Nat.le_of_ble_eq_true rfl, Nat.le_of_ble_eq_true rfl⟩ ⟨Nat.le_of_ble_eq_true rfl, Nat.le_of_ble_eq_true rfl⟩ rfl rfl (Nat.le_of_ble_eq_true rfl) dX6_needless_77 (fun σ_15 H locs hp_16 hH => ?_)
            obtain ⟨f9b, hcp, f_19, e68, hq_17⟩ := hp_16
            have eM6 : σ_15 (65) = .inr (6, [.int (oI (0)), .ref (ad (66)), .int (oI (((si : Nat) : Int))), .ref (ad (67)), .ref (ad (68)), .ref (ad (69)), .int (oI (((ac6 : Nat) : Int))), .ref (ad (70)), .ref (ad (71)), .ref (ad (72)), .ref (ad (73)), .ref (ad (74)), .int (oI (((spo : Nat) : Int))), .int (oI (((ou6 : Nat) : Int)))]) := (hq_17 _ (by decide)).trans eM6
            have e67 : σ_15 (67) = oAI cT 171 f := (hq_17 _ (by decide)).trans e67
            have e72 : σ_15 (72) = oAN cT 41 s1 := (hq_17 _ (by decide)).trans e72
            have e73 : σ_15 (73) = oAI cT 201 F1 := (hq_17 _ (by decide)).trans e73
            have e74 : σ_15 (74) = oAI cT 201 R1 := (hq_17 _ (by decide)).trans e74
            have hf : ∀ q : Nat, q ≠ 65 → q ≠ 68 → q ≠ 72 → q ≠ 73 → q ≠ 74 → σ_15 q = σ q := fun q n0 n1 n2 n3 n4 => (hq_17 q n1).trans (hf q n0 n1 n2 n3 n4)
            have hL39 : ∀ q : Nat, q ≠ 68 → q ≠ 72 → q ≠ 73 → q ≠ 74 → σ_15 q = σ_7 q := fun q n0 n1 n2 n3 => (hq_17 q n0).trans (hL39 q n0 n1 n2 n3)
            have hpt : oRS f9b n a g sz w := oRS_ext hp hn (fun k hk => hcp k hk)
            refine lv_aload_n hx hb dX6_needless_80 rfl (lv_at hl 0 rfl) ?_
            refine gf_X6_trial hx hb hts hown hK hH (k := 65) (by omega) eM6 dX6_needless_81 ?_
            refine lv_iload_n hx hb dX6_needless_84 rfl (lv_at hl 1 rfl) ?_
            refine m_topI (((r.toNat : Nat) : Int)) (by omega) ?_
            refine lv_iload hx hb dX6_needless_85 (lv_at hl 4 rfl) ?_
            refine m_topI (((i + 1 : Nat) : Int)) (by omega) ?_
            refine m_iconst 0 hx hb dX6_needless_87 rfl ?_
            refine m_callSi hx hb hml hown hts hK hH hl (rest := []) cw_X6_131 rfl (c6_markOn hA 68 n a g f9b sz w r.toNat (i + 1) 0 (by first | assumption | omega) (by first | assumption | omega) (hpt) (by first | assumption | omega) (by first | assumption | omega) (by first | assumption | omega) (by first | assumption | omega) e68) ⟨Nat.le_of_ble_eq_true rfl, Nat.le_of_ble_eq_true rfl⟩ ⟨Nat.le_of_ble_eq_true rfl, Nat.le_of_ble_eq_true rfl⟩ rfl rfl (Nat.le_of_ble_eq_true rfl) dX6_needless_88 (fun r_23 σ_20 H locs hp_21 hH => ?_)
            obtain ⟨f9, rfl, hp9, hwf9, e68, hq_22⟩ := hp_21
            have eM6 : σ_20 (65) = .inr (6, [.int (oI (0)), .ref (ad (66)), .int (oI (((si : Nat) : Int))), .ref (ad (67)), .ref (ad (68)), .ref (ad (69)), .int (oI (((ac6 : Nat) : Int))), .ref (ad (70)), .ref (ad (71)), .ref (ad (72)), .ref (ad (73)), .ref (ad (74)), .int (oI (((spo : Nat) : Int))), .int (oI (((ou6 : Nat) : Int)))]) := (hq_22 _ (by decide)).trans eM6
            have e67 : σ_20 (67) = oAI cT 171 f := (hq_22 _ (by decide)).trans e67
            have e72 : σ_20 (72) = oAN cT 41 s1 := (hq_22 _ (by decide)).trans e72
            have e73 : σ_20 (73) = oAI cT 201 F1 := (hq_22 _ (by decide)).trans e73
            have e74 : σ_20 (74) = oAI cT 201 R1 := (hq_22 _ (by decide)).trans e74
            have hf : ∀ q : Nat, q ≠ 65 → q ≠ 68 → q ≠ 72 → q ≠ 73 → q ≠ 74 → σ_20 q = σ q := fun q n0 n1 n2 n3 n4 => (hq_22 q n1).trans (hf q n0 n1 n2 n3 n4)
            have hL39 : ∀ q : Nat, q ≠ 68 → q ≠ 72 → q ≠ 73 → q ≠ 74 → σ_20 q = σ_7 q := fun q n0 n1 n2 n3 => (hq_22 q n0).trans (hL39 q n0 n1 n2 n3)
            refine lv_pop hx hb dX6_needless_91 rfl ?_
            refine lv_iload_n hx hb dX6_needless_92 rfl (lv_at hl 3 rfl) ?_
            refine lv_aload_n hx hb dX6_needless_93 rfl (lv_at hl 0 rfl) ?_
            refine lv_aload_n hx hb dX6_needless_94 rfl (lv_at hl 0 rfl) ?_
            refine gf_X6_trial hx hb hts hown hK hH (k := 65) (by omega) eM6 dX6_needless_95 ?_
            obtain ⟨c9, hc9⟩ : ∃ y : Nat, oCnt (oOrW n (va_up w r.toNat (oDoW (w r.toNat) (((i + 1) : Nat) : Int) 0)) (-1) 4) a g = y := ⟨_, rfl⟩
            have hc150 : c9 ≤ 150 := by rw [← hc9]; exact Nat.le_trans (oCnt_le _ _ _) hag.2.2
            have hcn : oCnt (oOrW n w r 4 ||| oSpr (oSet0 (oRow n w r) (i + 1)) 41) a g = c9 := by rw [← hc9, oOrW_up (ri := r) (by omega) hn (by omega), oDoW0, eR]
            refine m_callVi hx hb hml hown hts hK hH hl (rest := [.int (oI (((ac : Nat) : Int)))]) cw_X6_91 (c6_laid hA si ac6 spo ou6 0 68 n a g f9 sz (va_up w r.toNat (oDoW (w r.toNat) (((i + 1) : Nat) : Int) 0)) s1 F1 R1 (by first | assumption | omega) (by first | assumption | omega) (hwf9) (by first | assumption | omega) (hp9) eM6 e68 e72 e73 e74) ⟨Nat.le_of_ble_eq_true rfl, Nat.le_of_ble_eq_true rfl⟩ ⟨Nat.le_of_ble_eq_true rfl, Nat.le_of_ble_eq_true rfl⟩ rfl (k := 65) (by omega) eM6 rfl rfl (Nat.le_of_ble_eq_true rfl) dX6_needless_98 (fun r_27 σ_24 H locs hp_25 hH => ?_)
            obtain ⟨s6, F6, R6, rfl, f_28, f_29, e72, e73, e74, hq_26⟩ := hp_25
            have eM6 : σ_24 (65) = .inr (6, [.int (oI (0)), .ref (ad (66)), .int (oI (((si : Nat) : Int))), .ref (ad (67)), .ref (ad (68)), .ref (ad (69)), .int (oI (((ac6 : Nat) : Int))), .ref (ad (70)), .ref (ad (71)), .ref (ad (72)), .ref (ad (73)), .ref (ad (74)), .int (oI (((spo : Nat) : Int))), .int (oI (((ou6 : Nat) : Int)))]) := (hq_26 _ (by decide) (by decide) (by decide)).trans eM6
            have e67 : σ_24 (67) = oAI cT 171 f := (hq_26 _ (by decide) (by decide) (by decide)).trans e67
            have e68 : σ_24 (68) = oAI cT 171 f9 := (hq_26 _ (by decide) (by decide) (by decide)).trans e68
            have hf : ∀ q : Nat, q ≠ 65 → q ≠ 68 → q ≠ 72 → q ≠ 73 → q ≠ 74 → σ_24 q = σ q := fun q n0 n1 n2 n3 n4 => (hq_26 q n2 n3 n4).trans (hf q n0 n1 n2 n3 n4)
            have hL39 : ∀ q : Nat, q ≠ 68 → q ≠ 72 → q ≠ 73 → q ≠ 74 → σ_24 q = σ_7 q := fun q n0 n1 n2 n3 => (hq_26 q n1 n2 n3).trans (hL39 q n0 n1 n2 n3)
            refine m_topI (((c9 : Nat) : Int)) (by rw [hc9]) ?_
            refine lv_iload_n hx hb dX6_needless_101 rfl (lv_at hl 2 rfl) ?_
            refine m_icmp_ne 109 hx hb dX6_needless_102 (by decide) (by omega) (by omega) (fun h_30 => ?_) (fun h_30 => ?_)
            · refine m_iconst 0 hx hb dX6_needless_109 rfl ?_
              refine m_iadd (((ac : Nat) : Int)) hx hb dX6_needless_110 (by omega) ?_
              refine lv_istore_n (lv' := [(3, .int (oI (((ac : Nat) : Int)))), (0, .ref (ad (65))), (1, .int (oI (r))), (2, .int (oI (((c0 : Nat) : Int)))), (4, .int (oI (((i : Nat) : Int) + 1)))]) hx hb dX6_needless_111 rfl hl (by decide) rfl (fun ls hl => ?_)
              refine m_iinc (((i : Nat) : Int) + 2) [(4, .int (oI (((i : Nat) : Int) + 2))), (3, .int (oI (((ac : Nat) : Int)))), (0, .ref (ad (65))), (1, .int (oI (r))), (2, .int (oI (((c0 : Nat) : Int))))] hx hb dX6_needless_112 hl (j := 4) rfl (by omega) (by decide) rfl (fun ls hl => ?_)
              refine lv_goto (tgt := 39) hx hb dX6_needless_115 (by decide) ?_
              exact ih39 (i + 1) ac f9 s6 F6 R6 (by omega) (by first | assumption | omega) (by rw [oNd_n (fun q => by have h8 := (oNdB_iff.mp q).2.2; rw [hcn, hc0] at h8; omega)]; exact hac9) (by first | assumption | omega) _ e68 e72 e73 e74 (hL39) _ _ hH ls (lv_sub hl [2, 3, 4, 1, 0] rfl)
            · refine m_iconst 1 hx hb dX6_needless_105 rfl ?_
              refine lv_goto (tgt := 110) hx hb dX6_needless_106 (by decide) ?_
              refine m_iadd (((ac : Nat) : Int) + 1) hx hb dX6_needless_110 (by omega) ?_
              refine lv_istore_n (lv' := [(3, .int (oI (((ac : Nat) : Int) + 1))), (0, .ref (ad (65))), (1, .int (oI (r))), (2, .int (oI (((c0 : Nat) : Int)))), (4, .int (oI (((i : Nat) : Int) + 1)))]) hx hb dX6_needless_111 rfl hl (by decide) rfl (fun ls hl => ?_)
              refine m_iinc (((i : Nat) : Int) + 2) [(4, .int (oI (((i : Nat) : Int) + 2))), (3, .int (oI (((ac : Nat) : Int) + 1))), (0, .ref (ad (65))), (1, .int (oI (r))), (2, .int (oI (((c0 : Nat) : Int))))] hx hb dX6_needless_112 hl (j := 4) rfl (by omega) (by decide) rfl (fun ls hl => ?_)
              refine lv_goto (tgt := 39) hx hb dX6_needless_115 (by decide) ?_
              exact ih39 (i + 1) (ac + 1) f9 s6 F6 R6 (by omega) (by first | assumption | omega) (by rw [oNd_y (oNdB_iff.mpr ⟨hbit, by rw [eS]; omega, by rw [hcn, hc0]; omega⟩), hac9]) (by first | assumption | omega) _ e68 e72 e73 e74 (hL39) _ _ hH ls (lv_sub hl [2, 3, 4, 1, 0] rfl)
    exact L39 _ 0 0 ft s5 F5 R5 (Nat.lt_succ_self _) (by first | assumption | omega) (rfl) (by first | assumption | omega) _ e68 e72 e73 e74 (fun q _ _ _ _ => rfl) _ _ hH ls (lv_sub hl [3, 4, 2, 1, 0] rfl)
  · refine m_if_eq 16 hx hb dX6_needless_9 (by decide) (by omega) (fun h_31 => ?_) (fun h_31 => absurd h_31 (by omega))
    refine m_iconst 1 hx hb dX6_needless_16 rfl ?_
    refine m_callVi hx hb hml hown hts hK hH hl (rest := []) cw_X6_111 (c6_ref1 hA 1 si ac6 spo ou6 rf (by first | assumption | omega) (by first | assumption | omega) eM6) ⟨Nat.le_of_ble_eq_true rfl, Nat.le_of_ble_eq_true rfl⟩ ⟨Nat.le_of_ble_eq_true rfl, Nat.le_of_ble_eq_true rfl⟩ rfl (k := 65) (by omega) eM6 rfl rfl (Nat.le_of_ble_eq_true rfl) dX6_needless_17 (fun r_35 σ_32 H locs hp_33 hH => ?_)
    obtain ⟨rfl, eM6, hq_34⟩ := hp_33
    have e67 : σ_32 (67) = oAI cT 171 f := (hq_34 _ (by decide)).trans e67
    have e68 : σ_32 (68) = oAI cT 171 ft := (hq_34 _ (by decide)).trans e68
    have e72 : σ_32 (72) = oAN cT 41 s := (hq_34 _ (by decide)).trans e72
    have e73 : σ_32 (73) = oAI cT 201 F := (hq_34 _ (by decide)).trans e73
    have e74 : σ_32 (74) = oAI cT 201 R := (hq_34 _ (by decide)).trans e74
    have hf : ∀ q : Nat, q ≠ 65 → q ≠ 68 → q ≠ 72 → q ≠ 73 → q ≠ 74 → σ_32 q = σ q := fun q n0 n1 n2 n3 n4 => (hq_34 q n0).trans (hf q n0 n1 n2 n3 n4)
    refine m_if_eq 25 hx hb dX6_needless_20 (by decide) (by omega) (fun h_36 => absurd h_36 (by omega)) (fun h_36 => ?_)
    refine m_iconst 0 hx hb dX6_needless_23 rfl ?_
    exact m_iret hx hb hlk hrt hH (m_ni _) dX6_needless_24 ⟨0, 1, ft, s, F, R, rfl, (Or.inr ⟨rfl, hR⟩), eM6, e68, e72, e73, e74, hf⟩
set_option maxHeartbeats 4000000 in
set_option maxRecDepth 100000 in
theorem c6_inner {l : Launch} {D : va_G} {cT : Nat → ClassId} {N b0 : Nat} {ad : Nat → Nat} (hA : oAd b0 N ad) {σ : Nat → va_E} (j n a g : Nat) (f : Nat → Int) (sz w : Nat → Nat) (r rank : Nat) (on : Int) (x : Nat) (hj : j < N) (hwf : oWf n sz w) (hp : oRS f n a g sz w) (hr : r < n) (hrk : rank ≤ 1000) (hon : on = 0 ∨ on = 1) (hxb : ∀ p : Nat, 1 ≤ p → p < sz r → bz x p = (if on = 0 then bz (w r) p else bz (w r) (sz r - p))) (hx0 : x.testBit 0 = false) (hrank : oEq2 (rank < fb_ct (fun i => x.testBit i) (sz r))) (ef : σ (j) = oAI cT 171 f) :
    oCi l D cT N ad b0 yX6_inner cX6_inner 7 (some .int) 1 21 [.ref (ad (j)), .int (oI (((r : Nat) : Int))), .int (oI (((rank : Nat) : Int))), .int (oI (on))] σ (fun rr uu => rr = oI (((oKth x rank : Nat) : Int)) ∧ uu = σ) := by
  refine m_start (cc := cX6_inner) (by decide) (Nat.le_of_ble_eq_true rfl) rfl ?_
  intro Pp Ee Ss Mm Bb Me Cc Ar ls hx hb hml hown hlk hrt hts hK hH hl
  have hown : Ss.vm.findClass RX6 = some Mm.cls := hown
  have hn := hwf.1
  have hsz : ∀ r : Nat, r < n → 2 ≤ sz r ∧ sz r ≤ 40 := fun r h => ⟨(hwf.2 r h).1, (hwf.2 r h).2.1⟩
  have hs9 := hsz r hr
  have hwr := (hwf.2 r hr).2.2.1
  have hl : lv_has ls 7 [(0, .ref (ad (j))), (1, .int (oI (((r : Nat) : Int)))), (2, .int (oI (((rank : Nat) : Int)))), (3, .int (oI (on)))] := hl
  refine lv_aload_n hx hb dX6_inner_0 rfl (lv_at hl 0 rfl) ?_
  refine lv_iload_n hx hb dX6_inner_1 rfl (lv_at hl 1 rfl) ?_
  refine m_pSi hx hb hml hown hts hK hH hl (rest := []) cw_X6_54 rfl (c6_length hA j n a g f sz w r (by first | assumption | omega) (by first | assumption | omega) (by first | assumption | omega) (by first | assumption | omega) ef) ⟨Nat.le_of_ble_eq_true rfl, Nat.le_of_ble_eq_true rfl⟩ ⟨Nat.le_of_ble_eq_true rfl, Nat.le_of_ble_eq_true rfl⟩ rfl rfl (Nat.le_of_ble_eq_true rfl) dX6_inner_2 (fun H locs hH => ?_)
  refine lv_istore (lv' := [(4, .int (oI (((sz r : Nat) : Int)))), (0, .ref (ad (j))), (1, .int (oI (((r : Nat) : Int)))), (2, .int (oI (((rank : Nat) : Int)))), (3, .int (oI (on)))]) hx hb dX6_inner_5 hl (by decide) rfl (fun ls hl => ?_)
  refine lv_iload_n hx hb dX6_inner_7 rfl (lv_at hl 3 rfl) ?_
  refine lv_istore (lv' := [(5, .int (oI (((rank : Nat) : Int)))), (4, .int (oI (((sz r : Nat) : Int)))), (0, .ref (ad (j))), (1, .int (oI (((r : Nat) : Int)))), (2, .int (oI (((rank : Nat) : Int)))), (3, .int (oI (on)))]) hx hb dX6_inner_8 hl (by decide) rfl (fun ls hl => ?_)
  refine m_iconst 1 hx hb dX6_inner_10 rfl ?_
  refine lv_istore (lv' := [(6, .int (oI (1))), (5, .int (oI (((rank : Nat) : Int)))), (4, .int (oI (((sz r : Nat) : Int)))), (0, .ref (ad (j))), (1, .int (oI (((r : Nat) : Int)))), (2, .int (oI (((rank : Nat) : Int)))), (3, .int (oI (on)))]) hx hb dX6_inner_11 hl (by decide) rfl (fun ls hl => ?_)
  have L13 : ∀ (fu : Nat) (le : Nat) (p : Nat), (42 - p < fu) → (1 ≤ p ∧ p ≤ sz r) → (le + fb_ct (fun i => x.testBit i) p = rank) → ∀ (H : Heap) (locs : List Loc), oH b0 D N ad Ss.heap σ H locs → ∀ ls : Array Slot, lv_has ls 7 [(0, .ref (ad (j))), (1, .int (oI (((r : Nat) : Int)))), (3, .int (oI (on))), (4, .int (oI (((sz r : Nat) : Int)))), (5, .int (oI (((le : Nat) : Int)))), (6, .int (oI (((p : Nat) : Int))))] → W Pp l Ee { frames := 1, cells := 0, slots := 0, locals := 21 } Ss Mm Ar Bb Me Cc H locs 0 0 (MQ Bb (va_Qi (fun rr uu => rr = oI (((oKth x rank : Nat) : Int)) ∧ uu = σ) (oV D N ad) (fun q => b0 ≤ q)) Ar Ss 0 0 (fun q => b0 ≤ q)) (F0 Mm 13 ls []) := by
    intro fu13
    induction fu13 with
    | zero =>
      intro le p hm13
      exact absurd hm13 (Nat.not_lt_zero _)
    | succ fu13 ih13 =>
      intro le p hm13 hpp hc H locs hH ls hl
      refine lv_iload hx hb dX6_inner_13 (lv_at hl 5 rfl) ?_
      refine lv_iload hx hb dX6_inner_15 (lv_at hl 3 rfl) ?_
      refine m_icmp_ge 61 hx hb dX6_inner_17 (by decide) (by omega) (by omega) (fun h_1 => ?_) (fun h_1 => ?_)
      · exact absurd (show rank < fb_ct (fun i => x.testBit i) (sz r) from hrank) (by rw [← show p = sz r by omega]; omega)
      · refine lv_aload_n hx hb dX6_inner_20 rfl (lv_at hl 0 rfl) ?_
        refine lv_iload_n hx hb dX6_inner_21 rfl (lv_at hl 1 rfl) ?_
        refine lv_iload_n hx hb dX6_inner_22 rfl (lv_at hl 2 rfl) ?_
        refine m_if_eq 34 hx hb dX6_inner_23 (by decide) (by omega) (fun h_2 => ?_) (fun h_2 => ?_)
        · refine lv_iload hx hb dX6_inner_34 (lv_at hl 5 rfl) ?_
          refine m_pSi hx hb hml hown hts hK hH hl (rest := [.ref (ad (j))]) cw_X6_64 rfl (c6_at hA r p (by first | assumption | omega) (by first | assumption | omega) ) ⟨Nat.le_of_ble_eq_true rfl, Nat.le_of_ble_eq_true rfl⟩ ⟨Nat.le_of_ble_eq_true rfl, Nat.le_of_ble_eq_true rfl⟩ rfl rfl (Nat.le_of_ble_eq_true rfl) dX6_inner_36 (fun H locs hH => ?_)
          refine m_iald hx hb hK hH (k := j) (by omega) ef (42 * r + 4 + p) (by omega) (by omega) (by decide) dX6_inner_39 ?_
          refine m_topI (((bz x p : Nat) : Int)) (by rw [hxb p (by omega) (by omega), if_pos (by omega)]; exact (hp.2.2.2 r hr).2 p (by omega)) ?_
          have hb1 := bz_le x p
          refine m_iconst 1 hx hb dX6_inner_40 rfl ?_
          refine m_icmp_ne 55 hx hb dX6_inner_41 (by decide) (by omega) (by omega) (fun h_3 => ?_) (fun h_3 => ?_)
          · refine m_iinc (((p : Nat) : Int) + 1) [(6, .int (oI (((p : Nat) : Int) + 1))), (0, .ref (ad (j))), (1, .int (oI (((r : Nat) : Int)))), (3, .int (oI (on))), (4, .int (oI (((sz r : Nat) : Int)))), (5, .int (oI (((le : Nat) : Int))))] hx hb dX6_inner_55 hl (j := 5) rfl (by omega) (by decide) rfl (fun ls hl => ?_)
            refine lv_goto (tgt := 13) hx hb dX6_inner_58 (by decide) ?_
            exact ih13 le (p + 1) (by omega) (by first | assumption | omega) (by rw [fb_ct_succ, if_neg (fun q => by have := bz_1.mpr q; omega)]; exact hc) _ _ hH ls (lv_sub hl [1, 2, 3, 4, 5, 0] rfl)
          · refine lv_iload hx hb dX6_inner_44 (lv_at hl 4 rfl) ?_
            refine m_if_ne 52 hx hb dX6_inner_46 (by decide) (by omega) (fun h_4 => ?_) (fun h_4 => ?_)
            · refine m_iinc (((le - 1 : Nat) : Int)) [(5, .int (oI (((le - 1 : Nat) : Int)))), (0, .ref (ad (j))), (1, .int (oI (((r : Nat) : Int)))), (3, .int (oI (on))), (4, .int (oI (((sz r : Nat) : Int)))), (6, .int (oI (((p : Nat) : Int))))] hx hb dX6_inner_52 hl (j := 4) rfl (by omega) (by decide) rfl (fun ls hl => ?_)
              refine m_iinc (((p : Nat) : Int) + 1) [(6, .int (oI (((p : Nat) : Int) + 1))), (5, .int (oI (((le - 1 : Nat) : Int)))), (0, .ref (ad (j))), (1, .int (oI (((r : Nat) : Int)))), (3, .int (oI (on))), (4, .int (oI (((sz r : Nat) : Int))))] hx hb dX6_inner_55 hl (j := 5) rfl (by omega) (by decide) rfl (fun ls hl => ?_)
              refine lv_goto (tgt := 13) hx hb dX6_inner_58 (by decide) ?_
              exact ih13 (le - 1) (p + 1) (by omega) (by first | assumption | omega) (by rw [fb_ct_succ, if_pos (bz_1.mp (by omega))]; omega) _ _ hH ls (lv_sub hl [2, 3, 4, 5, 1, 0] rfl)
            · refine lv_iload hx hb dX6_inner_49 (lv_at hl 5 rfl) ?_
              exact m_iret hx hb hlk hrt hH (m_ni _) dX6_inner_51 ⟨congrArg oI (by rw [oKth_at (p := p) (by omega) (bz_1.mp (by omega)) (by omega)]), rfl⟩
        · refine lv_iload hx hb dX6_inner_26 (lv_at hl 3 rfl) ?_
          refine lv_iload hx hb dX6_inner_28 (lv_at hl 5 rfl) ?_
          refine m_isub (-((p : Nat) : Int) + ((sz r : Nat) : Int)) hx hb dX6_inner_30 (by omega) ?_
          refine m_topI (((sz r - p : Nat) : Int)) (by omega) ?_
          refine lv_goto (tgt := 36) hx hb dX6_inner_31 (by decide) ?_
          refine m_pSi hx hb hml hown hts hK hH hl (rest := [.ref (ad (j))]) cw_X6_64 rfl (c6_at hA r (sz r - p) (by first | assumption | omega) (by first | assumption | omega) ) ⟨Nat.le_of_ble_eq_true rfl, Nat.le_of_ble_eq_true rfl⟩ ⟨Nat.le_of_ble_eq_true rfl, Nat.le_of_ble_eq_true rfl⟩ rfl rfl (Nat.le_of_ble_eq_true rfl) dX6_inner_36 (fun H locs hH => ?_)
          refine m_iald hx hb hK hH (k := j) (by omega) ef (42 * r + 4 + (sz r - p)) (by omega) (by omega) (by decide) dX6_inner_39 ?_
          refine m_topI (((bz x p : Nat) : Int)) (by rw [hxb p (by omega) (by omega), if_neg (by omega)]; exact (hp.2.2.2 r hr).2 (sz r - p) (by omega)) ?_
          have hb1 := bz_le x p
          refine m_iconst 1 hx hb dX6_inner_40 rfl ?_
          refine m_icmp_ne 55 hx hb dX6_inner_41 (by decide) (by omega) (by omega) (fun h_5 => ?_) (fun h_5 => ?_)
          · refine m_iinc (((p : Nat) : Int) + 1) [(6, .int (oI (((p : Nat) : Int) + 1))), (0, .ref (ad (j))), (1, .int (oI (((r : Nat) : Int)))), (3, .int (oI (on))), (4, .int (oI (((sz r : Nat) : Int)))), (5, .int (oI (((le : Nat) : Int))))] hx hb dX6_inner_55 hl (j := 5) rfl (by omega) (by decide) rfl (fun ls hl => ?_)
            refine lv_goto (tgt := 13) hx hb dX6_inner_58 (by decide) ?_
            exact ih13 le (p + 1) (by omega) (by first | assumption | omega) (by rw [fb_ct_succ, if_neg (fun q => by have := bz_1.mpr q; omega)]; exact hc) _ _ hH ls (lv_sub hl [1, 2, 3, 4, 5, 0] rfl)
          · refine lv_iload hx hb dX6_inner_44 (lv_at hl 4 rfl) ?_
            refine m_if_ne 52 hx hb dX6_inner_46 (by decide) (by omega) (fun h_6 => ?_) (fun h_6 => ?_)
            · refine m_iinc (((le - 1 : Nat) : Int)) [(5, .int (oI (((le - 1 : Nat) : Int)))), (0, .ref (ad (j))), (1, .int (oI (((r : Nat) : Int)))), (3, .int (oI (on))), (4, .int (oI (((sz r : Nat) : Int)))), (6, .int (oI (((p : Nat) : Int))))] hx hb dX6_inner_52 hl (j := 4) rfl (by omega) (by decide) rfl (fun ls hl => ?_)
              refine m_iinc (((p : Nat) : Int) + 1) [(6, .int (oI (((p : Nat) : Int) + 1))), (5, .int (oI (((le - 1 : Nat) : Int)))), (0, .ref (ad (j))), (1, .int (oI (((r : Nat) : Int)))), (3, .int (oI (on))), (4, .int (oI (((sz r : Nat) : Int))))] hx hb dX6_inner_55 hl (j := 5) rfl (by omega) (by decide) rfl (fun ls hl => ?_)
              refine lv_goto (tgt := 13) hx hb dX6_inner_58 (by decide) ?_
              exact ih13 (le - 1) (p + 1) (by omega) (by first | assumption | omega) (by rw [fb_ct_succ, if_pos (bz_1.mp (by omega))]; omega) _ _ hH ls (lv_sub hl [2, 3, 4, 5, 1, 0] rfl)
            · refine lv_iload hx hb dX6_inner_49 (lv_at hl 5 rfl) ?_
              exact m_iret hx hb hlk hrt hH (m_ni _) dX6_inner_51 ⟨congrArg oI (by rw [oKth_at (p := p) (by omega) (bz_1.mp (by omega)) (by omega)]), rfl⟩
  exact L13 _ rank 1 (Nat.lt_succ_self _) (by first | assumption | omega) (by rw [show (1 : Nat) = 0 + 1 from rfl, fb_ct_succ, if_neg (by rw [hx0]; decide)]; rfl) _ _ hH ls (lv_sub hl [3, 4, 6, 2, 1, 0] rfl)
set_option maxHeartbeats 4000000 in
set_option maxRecDepth 100000 in
theorem c6_twin {l : Launch} {D : va_G} {cT : Nat → ClassId} {N b0 : Nat} {ad : Nat → Nat} (hA : oAd b0 N ad) {σ : Nat → va_E} (r o on : Int) (si ac6 spo ou6 : Nat) (rf : Int) (n a g : Nat) (f : Nat → Int) (sz w : Nat → Nat) (hN : 76 ≤ N) (hwf : oWf n sz w) (hag : oAg a g) (hp : oRS f n a g sz w) (hbr : -2147483648 ≤ r ∧ r < 2147483648) (hbo : -2147483648 ≤ o ∧ o < 2147483648) (hon : on = 0 ∨ on = 1) (eM6 : σ (65) = .inr (6, [.int (oI (rf)), .ref (ad (66)), .int (oI (((si : Nat) : Int))), .ref (ad (67)), .ref (ad (68)), .ref (ad (69)), .int (oI (((ac6 : Nat) : Int))), .ref (ad (70)), .ref (ad (71)), .ref (ad (72)), .ref (ad (73)), .ref (ad (74)), .int (oI (((spo : Nat) : Int))), .int (oI (((ou6 : Nat) : Int)))])) (e67 : σ (67) = oAI cT 171 f) :
    oCi l D cT N ad b0 yX6_twin cX6_twin 7 (some .int) 2 47 [.ref (ad (65)), .int (oI (r)), .int (oI (o)), .int (oI (on))] σ (fun rr uu => ∃ v9 : Int, ∃ r9 : Int, rr = oI (v9) ∧ ((((0 ≤ r ∧ r < (n : Int)) ∧ (0 ≤ o ∧ o < (n : Int))) ∧ r9 = 0 ∧ v9 = oTwn (oInner (oRow n w r) (oSize n sz r)) (if on = 1 then oRev (oInner (oRow n w o) (oSize n sz o)) (oSize n sz o) else oInner (oRow n w o) (oSize n sz o))) ∨ (r9 = 1 ∧ ¬ ((0 ≤ r ∧ r < (n : Int)) ∧ (0 ≤ o ∧ o < (n : Int))))) ∧ uu (65) = .inr (6, [.int (oI (r9)), .ref (ad (66)), .int (oI (((si : Nat) : Int))), .ref (ad (67)), .ref (ad (68)), .ref (ad (69)), .int (oI (((ac6 : Nat) : Int))), .ref (ad (70)), .ref (ad (71)), .ref (ad (72)), .ref (ad (73)), .ref (ad (74)), .int (oI (((spo : Nat) : Int))), .int (oI (((ou6 : Nat) : Int)))]) ∧ (∀ q : Nat, q ≠ 65 → uu q = σ q)) := by
  refine m_start (cc := cX6_twin) (by decide) (Nat.le_of_ble_eq_true rfl) rfl ?_
  intro Pp Ee Ss Mm Bb Me Cc Ar ls hx hb hml hown hlk hrt hts hK hH hl
  have hown : Ss.vm.findClass RX6 = some Mm.cls := hown
  have hn := hwf.1
  have hl : lv_has ls 7 [(0, .ref (ad (65))), (1, .int (oI (r))), (2, .int (oI (o))), (3, .int (oI (on)))] := hl
  have hf : ∀ q : Nat, q ≠ 65 → σ q = σ q := fun q _ => rfl
  refine lv_aload_n hx hb dX6_twin_0 rfl (lv_at hl 0 rfl) ?_
  refine lv_aload_n hx hb dX6_twin_1 rfl (lv_at hl 0 rfl) ?_
  refine gf_X6_now hx hb hts hown hK hH (k := 65) (by omega) eM6 dX6_twin_2 ?_
  refine lv_iload_n hx hb dX6_twin_5 rfl (lv_at hl 1 rfl) ?_
  refine m_pSb hx hb hml hown hts hK hH hl (rest := [.ref (ad (65))]) cw_X6_50 rfl (c6_isRuler hA 67 n a g f sz w r (by first | assumption | omega) (by first | assumption | omega) (by first | assumption | omega) (by first | assumption | omega) e67) ⟨Nat.le_of_ble_eq_true rfl, Nat.le_of_ble_eq_true rfl⟩ ⟨Nat.le_of_ble_eq_true rfl, Nat.le_of_ble_eq_true rfl⟩ rfl rfl (Nat.le_of_ble_eq_true rfl) dX6_twin_6 (fun hR H locs hH => ?_) (fun hR H locs hH => ?_)
  · have eS : oSize n sz r = sz r.toNat := oSize_in hR
    have eR : oRow n w r = w r.toNat := oRow_in hR
    have hs9 := hwf.2 r.toNat (by omega)
    have hw41 := hwf.row (r := r.toNat) (by omega)
    refine m_if_eq 27 hx hb dX6_twin_9 (by decide) (by omega) (fun h_1 => absurd h_1 (by omega)) (fun h_1 => ?_)
    refine lv_aload_n hx hb dX6_twin_12 rfl (lv_at hl 0 rfl) ?_
    refine gf_X6_now hx hb hts hown hK hH (k := 65) (by omega) eM6 dX6_twin_13 ?_
    refine lv_iload_n hx hb dX6_twin_16 rfl (lv_at hl 2 rfl) ?_
    refine m_pSb hx hb hml hown hts hK hH hl (rest := [.ref (ad (65))]) cw_X6_50 rfl (c6_isRuler hA 67 n a g f sz w o (by first | assumption | omega) (by first | assumption | omega) (by first | assumption | omega) (by first | assumption | omega) e67) ⟨Nat.le_of_ble_eq_true rfl, Nat.le_of_ble_eq_true rfl⟩ ⟨Nat.le_of_ble_eq_true rfl, Nat.le_of_ble_eq_true rfl⟩ rfl rfl (Nat.le_of_ble_eq_true rfl) dX6_twin_17 (fun hRo H locs hH => ?_) (fun hRo H locs hH => ?_)
    · have eSo : oSize n sz o = sz o.toNat := oSize_in hRo
      have eRo : oRow n w o = w o.toNat := oRow_in hRo
      have hs9o := hwf.2 o.toNat (by omega)
      have hw41o := hwf.row (r := o.toNat) (by omega)
      refine m_if_eq 27 hx hb dX6_twin_20 (by decide) (by omega) (fun h_2 => absurd h_2 (by omega)) (fun h_2 => ?_)
      refine m_iconst 0 hx hb dX6_twin_23 rfl ?_
      refine lv_goto (tgt := 28) hx hb dX6_twin_24 (by decide) ?_
      refine m_callVi hx hb hml hown hts hK hH hl (rest := []) cw_X6_111 (c6_ref0 hA si ac6 spo ou6 rf (by first | assumption | omega) eM6) ⟨Nat.le_of_ble_eq_true rfl, Nat.le_of_ble_eq_true rfl⟩ ⟨Nat.le_of_ble_eq_true rfl, Nat.le_of_ble_eq_true rfl⟩ rfl (k := 65) (by omega) eM6 rfl rfl (Nat.le_of_ble_eq_true rfl) dX6_twin_28 (fun r_6 σ_3 H locs hp_4 hH => ?_)
      obtain ⟨rfl, eM6, hq_5⟩ := hp_4
      have e67 : σ_3 (67) = oAI cT 171 f := (hq_5 _ (by decide)).trans e67
      have hf : ∀ q : Nat, q ≠ 65 → σ_3 q = σ q := fun q n0 => (hq_5 q n0).trans (hf q n0)
      refine m_if_eq 36 hx hb dX6_twin_31 (by decide) (by omega) (fun h_7 => ?_) (fun h_7 => absurd h_7 (by omega))
      refine lv_aload_n hx hb dX6_twin_36 rfl (lv_at hl 0 rfl) ?_
      refine gf_X6_now hx hb hts hown hK hH (k := 65) (by omega) eM6 dX6_twin_37 ?_
      refine lv_iload_n hx hb dX6_twin_40 rfl (lv_at hl 1 rfl) ?_
      refine m_topI (((r.toNat : Nat) : Int)) (by omega) ?_
      have hI := pcnt_inner hw41 hs9.2.1 (by omega) hs9.2.2.2.1 hs9.2.2.2.2
      have hIo := pcnt_inner hw41o hs9o.2.1 (by omega) hs9o.2.2.2.1 hs9o.2.2.2.2
      have hYv := oTyv_f (w := w o.toNat) (s := sz o.toNat) hon hs9o.2.2.1 hs9o.2.1 (by omega)
      obtain ⟨m9, hm9⟩ : ∃ y : Nat, pcnt (oInner (w r.toNat) (sz r.toNat)) = y := ⟨_, rfl⟩
      obtain ⟨m8, hI2⟩ : ∃ y : Nat, pcnt (oInner (w o.toNat) (sz o.toNat)) = y := ⟨_, rfl⟩
      have hm64 : m9 ≤ 64 := by rw [← hm9]; exact pcnt_le _
      have hm64o : m8 ≤ 64 := by rw [← hI2]; exact pcnt_le _
      have hXc : fb_ct (fun i => (oInner (w r.toNat) (sz r.toNat)).testBit i) (sz r.toNat) = m9 := by rw [pcnt_s0 (oInner_lt hs9.2.2.1) hs9.2.1 (oInner_s hw41 hs9.2.1)]; exact hm9
      have hYc : fb_ct (fun i => (oTyv (w o.toNat) (sz o.toNat) on).testBit i) (sz o.toNat) = m8 := by rw [hYv.2.2.2.2]; exact hI2
      have hX41 : (oInner (w r.toNat) (sz r.toNat)) < 2 ^ 41 := Nat.lt_of_lt_of_le (oInner_lt hs9.2.2.1) (Nat.pow_le_pow_right (by decide) (by omega))
      have hY41 : (oTyv (w o.toNat) (sz o.toNat) on) < 2 ^ 41 := Nat.lt_of_lt_of_le hYv.1 (Nat.pow_le_pow_right (by decide) (by omega))
      refine m_pSi hx hb hml hown hts hK hH hl (rest := []) cw_X6_68 rfl (c6_marks hA 67 n a g f sz w r.toNat (by first | assumption | omega) (by first | assumption | omega) (by first | assumption | omega) (by first | assumption | omega) e67) ⟨Nat.le_of_ble_eq_true rfl, Nat.le_of_ble_eq_true rfl⟩ ⟨Nat.le_of_ble_eq_true rfl, Nat.le_of_ble_eq_true rfl⟩ rfl rfl (Nat.le_of_ble_eq_true rfl) dX6_twin_41 (fun H locs hH => ?_)
      refine m_topI (((m9 : Nat) : Int) + 2) (by rw [oPc_pcnt hs9.2.2.1 (by omega), ← hI, hm9]; omega) ?_
      refine m_iconst 2 hx hb dX6_twin_44 rfl ?_
      refine m_isub (((m9 : Nat) : Int)) hx hb dX6_twin_45 (by omega) ?_
      refine lv_istore (lv' := [(4, .int (oI (((m9 : Nat) : Int)))), (0, .ref (ad (65))), (1, .int (oI (r))), (2, .int (oI (o))), (3, .int (oI (on)))]) hx hb dX6_twin_46 hl (by decide) rfl (fun ls hl => ?_)
      refine lv_iload hx hb dX6_twin_48 (lv_at hl 0 rfl) ?_
      refine m_if_eq 68 hx hb dX6_twin_50 (by decide) (by omega) (fun h_8 => ?_) (fun h_8 => ?_)
      · refine m_iconst (-1) hx hb dX6_twin_68 rfl ?_
        exact m_iret hx hb hlk hrt hH (m_ni _) dX6_twin_69 ⟨(-1), 0, rfl, (Or.inl ⟨⟨hR, hRo⟩, rfl, by rw [eR, eS, eRo, eSo]; exact (oTwn_z (Or.inl (by rw [hm9]; omega)) hX41).symm⟩), eM6, hf⟩
      · refine lv_aload_n hx hb dX6_twin_53 rfl (lv_at hl 1 rfl) ?_
        refine gf_X6_now hx hb hts hown hK hH (k := 65) (by omega) eM6 dX6_twin_54 ?_
        refine lv_iload_n hx hb dX6_twin_57 rfl (lv_at hl 3 rfl) ?_
        refine m_topI (((o.toNat : Nat) : Int)) (by omega) ?_
        refine m_pSi hx hb hml hown hts hK hH hl (rest := []) cw_X6_68 rfl (c6_marks hA 67 n a g f sz w o.toNat (by first | assumption | omega) (by first | assumption | omega) (by first | assumption | omega) (by first | assumption | omega) e67) ⟨Nat.le_of_ble_eq_true rfl, Nat.le_of_ble_eq_true rfl⟩ ⟨Nat.le_of_ble_eq_true rfl, Nat.le_of_ble_eq_true rfl⟩ rfl rfl (Nat.le_of_ble_eq_true rfl) dX6_twin_58 (fun H locs hH => ?_)
        refine m_topI (((m8 : Nat) : Int) + 2) (by rw [oPc_pcnt hs9o.2.2.1 (by omega), ← hIo, hI2]; omega) ?_
        refine m_iconst 2 hx hb dX6_twin_61 rfl ?_
        refine m_isub (((m8 : Nat) : Int)) hx hb dX6_twin_62 (by omega) ?_
        refine lv_iload hx hb dX6_twin_63 (lv_at hl 0 rfl) ?_
        refine m_icmp_eq 70 hx hb dX6_twin_65 (by decide) (by omega) (by omega) (fun h_9 => ?_) (fun h_9 => ?_)
        · refine lv_aload_n hx hb dX6_twin_70 rfl (lv_at hl 1 rfl) ?_
          refine gf_X6_now hx hb hts hown hK hH (k := 65) (by omega) eM6 dX6_twin_71 ?_
          refine lv_iload_n hx hb dX6_twin_74 rfl (lv_at hl 2 rfl) ?_
          refine m_topI (((r.toNat : Nat) : Int)) (by omega) ?_
          refine m_iconst 0 hx hb dX6_twin_75 rfl ?_
          refine m_iconst 0 hx hb dX6_twin_76 rfl ?_
          obtain ⟨e0, he0⟩ : ∃ y : Nat, oKth (oInner (w r.toNat) (sz r.toNat)) 0 = y := ⟨_, rfl⟩
          have he064 : e0 < 64 := by rw [← he0]; exact (oKth_ex (by rw [hm9]; omega)).2.2
          refine m_pSi hx hb hml hown hts hK hH hl (rest := []) cw_X6_218 rfl (c6_inner hA 67 n a g f sz w r.toNat 0 0 (oInner (w r.toNat) (sz r.toNat)) (by first | assumption | omega) (by first | assumption | omega) (by first | assumption | omega) (by first | assumption | omega) (by first | assumption | omega) (by first | assumption | omega) (fun p p1 p2 => by rw [if_pos rfl]; exact oInner_b hw41 hs9.2.1 p1 p2) (oInner_0 hw41 hs9.2.1) (show 0 < _ from by rw [hXc]; omega) e67) ⟨Nat.le_of_ble_eq_true rfl, Nat.le_of_ble_eq_true rfl⟩ ⟨Nat.le_of_ble_eq_true rfl, Nat.le_of_ble_eq_true rfl⟩ rfl rfl (Nat.le_of_ble_eq_true rfl) dX6_twin_77 (fun H locs hH => ?_)
          refine m_topI (((e0 : Nat) : Int)) (by rw [he0]) ?_
          refine lv_aload_n hx hb dX6_twin_80 rfl (lv_at hl 1 rfl) ?_
          refine gf_X6_now hx hb hts hown hK hH (k := 65) (by omega) eM6 dX6_twin_81 ?_
          refine lv_iload_n hx hb dX6_twin_84 rfl (lv_at hl 3 rfl) ?_
          refine m_topI (((o.toNat : Nat) : Int)) (by omega) ?_
          refine m_iconst 0 hx hb dX6_twin_85 rfl ?_
          refine lv_iload_n hx hb dX6_twin_86 rfl (lv_at hl 4 rfl) ?_
          obtain ⟨f0, hf0⟩ : ∃ y : Nat, oKth (oTyv (w o.toNat) (sz o.toNat) on) 0 = y := ⟨_, rfl⟩
          have hf064 : f0 < 64 := by rw [← hf0]; exact (oKth_ex (by rw [hYv.2.1, hI2]; omega)).2.2
          refine m_pSi hx hb hml hown hts hK hH hl (rest := [.int (oI (((e0 : Nat) : Int)))]) cw_X6_218 rfl (c6_inner hA 67 n a g f sz w o.toNat 0 on (oTyv (w o.toNat) (sz o.toNat) on) (by first | assumption | omega) (by first | assumption | omega) (by first | assumption | omega) (by first | assumption | omega) (by first | assumption | omega) (by first | assumption | omega) (hYv.2.2.1) (hYv.2.2.2.1) (show 0 < _ from by rw [hYc]; omega) e67) ⟨Nat.le_of_ble_eq_true rfl, Nat.le_of_ble_eq_true rfl⟩ ⟨Nat.le_of_ble_eq_true rfl, Nat.le_of_ble_eq_true rfl⟩ rfl rfl (Nat.le_of_ble_eq_true rfl) dX6_twin_87 (fun H locs hH => ?_)
          refine m_topI (((f0 : Nat) : Int)) (by rw [hf0]) ?_
          obtain ⟨d9, hd9⟩ : ∃ z : Int, ((e0 : Nat) : Int) - ((f0 : Nat) : Int) = z := ⟨_, rfl⟩
          refine m_isub (((e0 : Nat) : Int) - ((f0 : Nat) : Int)) hx hb dX6_twin_90 (by omega) ?_
          refine m_topI (d9) (by omega) ?_
          refine lv_istore (lv' := [(5, .int (oI (d9))), (4, .int (oI (((m9 : Nat) : Int)))), (0, .ref (ad (65))), (1, .int (oI (r))), (2, .int (oI (o))), (3, .int (oI (on)))]) hx hb dX6_twin_91 hl (by decide) rfl (fun ls hl => ?_)
          refine m_iconst 1 hx hb dX6_twin_93 rfl ?_
          refine lv_istore (lv' := [(6, .int (oI (1))), (5, .int (oI (d9))), (4, .int (oI (((m9 : Nat) : Int)))), (0, .ref (ad (65))), (1, .int (oI (r))), (2, .int (oI (o))), (3, .int (oI (on)))]) hx hb dX6_twin_94 hl (by decide) rfl (fun ls hl => ?_)
          have L96 : ∀ (fu : Nat) (k : Nat), (100 - k < fu) → (1 ≤ k ∧ k ≤ m9) → (∀ q : Nat, q < k → ((oKth (oInner (w r.toNat) (sz r.toNat)) q : Nat) : Int) - ((oKth (oTyv (w o.toNat) (sz o.toNat) on) q : Nat) : Int) = d9) → ∀ (H : Heap) (locs : List Loc), oH b0 D N ad Ss.heap σ_3 H locs → ∀ ls : Array Slot, lv_has ls 7 [(0, .ref (ad (65))), (1, .int (oI (r))), (2, .int (oI (o))), (3, .int (oI (on))), (4, .int (oI (((m9 : Nat) : Int)))), (5, .int (oI (d9))), (6, .int (oI (((k : Nat) : Int))))] → W Pp l Ee { frames := 2, cells := 0, slots := 0, locals := 47 } Ss Mm Ar Bb Me Cc H locs 0 0 (MQ Bb (va_Qi (fun rr uu => ∃ v9 : Int, ∃ r9 : Int, rr = oI (v9) ∧ ((((0 ≤ r ∧ r < (n : Int)) ∧ (0 ≤ o ∧ o < (n : Int))) ∧ r9 = 0 ∧ v9 = oTwn (oInner (oRow n w r) (oSize n sz r)) (if on = 1 then oRev (oInner (oRow n w o) (oSize n sz o)) (oSize n sz o) else oInner (oRow n w o) (oSize n sz o))) ∨ (r9 = 1 ∧ ¬ ((0 ≤ r ∧ r < (n : Int)) ∧ (0 ≤ o ∧ o < (n : Int))))) ∧ uu (65) = .inr (6, [.int (oI (r9)), .ref (ad (66)), .int (oI (((si : Nat) : Int))), .ref (ad (67)), .ref (ad (68)), .ref (ad (69)), .int (oI (((ac6 : Nat) : Int))), .ref (ad (70)), .ref (ad (71)), .ref (ad (72)), .ref (ad (73)), .ref (ad (74)), .int (oI (((spo : Nat) : Int))), .int (oI (((ou6 : Nat) : Int)))]) ∧ (∀ q : Nat, q ≠ 65 → uu q = σ q)) (oV D N ad) (fun q => b0 ≤ q)) Ar Ss 0 0 (fun q => b0 ≤ q)) (F0 Mm 96 ls []) := by
            intro fu96
            induction fu96 with
            | zero =>
              intro k hm96
              exact absurd hm96 (Nat.not_lt_zero _)
            | succ fu96 ih96 =>
              intro k hm96 hkk hall H locs hH ls hl
              refine lv_iload hx hb dX6_twin_96 (lv_at hl 6 rfl) ?_
              refine lv_iload hx hb dX6_twin_98 (lv_at hl 4 rfl) ?_
              refine m_icmp_ge 139 hx hb dX6_twin_100 (by decide) (by omega) (by omega) (fun h_10 => ?_) (fun h_10 => ?_)
              · refine lv_iload hx hb dX6_twin_139 (lv_at hl 5 rfl) ?_
                refine m_bipush 100 hx hb dX6_twin_141 (by decide) ?_
                refine m_iadd (d9 + 100) hx hb dX6_twin_143 (by omega) ?_
                exact m_iret hx hb hlk hrt hH (m_ni _) dX6_twin_144 ⟨(d9 + 100), 0, rfl, (Or.inl ⟨⟨hR, hRo⟩, rfl, by rw [eR, eS, eRo, eSo]; exact (oTwn_yes (x := (oInner (w r.toNat) (sz r.toNat))) (y := (oTyv (w o.toNat) (sz o.toNat) on)) hX41 hY41 (by rw [hm9, hYv.2.1, hI2]; omega) (by rw [hm9]; omega) (fun q hq => hall q (by rw [hm9] at hq; omega))).symm⟩), eM6, hf⟩
              · refine lv_aload_n hx hb dX6_twin_103 rfl (lv_at hl 0 rfl) ?_
                refine gf_X6_now hx hb hts hown hK hH (k := 65) (by omega) eM6 dX6_twin_104 ?_
                refine lv_iload_n hx hb dX6_twin_107 rfl (lv_at hl 1 rfl) ?_
                refine m_topI (((r.toNat : Nat) : Int)) (by omega) ?_
                refine lv_iload hx hb dX6_twin_108 (lv_at hl 6 rfl) ?_
                refine m_iconst 0 hx hb dX6_twin_110 rfl ?_
                obtain ⟨e9, he9⟩ : ∃ y : Nat, oKth (oInner (w r.toNat) (sz r.toNat)) k = y := ⟨_, rfl⟩
                have he64 : e9 < 64 := by rw [← he9]; exact (oKth_ex (by rw [hm9]; omega)).2.2
                refine m_pSi hx hb hml hown hts hK hH hl (rest := []) cw_X6_218 rfl (c6_inner hA 67 n a g f sz w r.toNat k 0 (oInner (w r.toNat) (sz r.toNat)) (by first | assumption | omega) (by first | assumption | omega) (by first | assumption | omega) (by first | assumption | omega) (by first | assumption | omega) (by first | assumption | omega) (fun p p1 p2 => by rw [if_pos rfl]; exact oInner_b hw41 hs9.2.1 p1 p2) (oInner_0 hw41 hs9.2.1) (show k < _ from by rw [hXc]; omega) e67) ⟨Nat.le_of_ble_eq_true rfl, Nat.le_of_ble_eq_true rfl⟩ ⟨Nat.le_of_ble_eq_true rfl, Nat.le_of_ble_eq_true rfl⟩ rfl rfl (Nat.le_of_ble_eq_true rfl) dX6_twin_111 (fun H locs hH => ?_)
                refine m_topI (((e9 : Nat) : Int)) (by rw [he9]) ?_
                refine lv_aload_n hx hb dX6_twin_114 rfl (lv_at hl 0 rfl) ?_
                refine gf_X6_now hx hb hts hown hK hH (k := 65) (by omega) eM6 dX6_twin_115 ?_
                refine lv_iload_n hx hb dX6_twin_118 rfl (lv_at hl 2 rfl) ?_
                refine m_topI (((o.toNat : Nat) : Int)) (by omega) ?_
                refine lv_iload hx hb dX6_twin_119 (lv_at hl 6 rfl) ?_
                refine lv_iload_n hx hb dX6_twin_121 rfl (lv_at hl 3 rfl) ?_
                obtain ⟨f9, hf9⟩ : ∃ y : Nat, oKth (oTyv (w o.toNat) (sz o.toNat) on) k = y := ⟨_, rfl⟩
                have hf64 : f9 < 64 := by rw [← hf9]; exact (oKth_ex (by rw [hYv.2.1, hI2]; omega)).2.2
                refine m_pSi hx hb hml hown hts hK hH hl (rest := [.int (oI (((e9 : Nat) : Int)))]) cw_X6_218 rfl (c6_inner hA 67 n a g f sz w o.toNat k on (oTyv (w o.toNat) (sz o.toNat) on) (by first | assumption | omega) (by first | assumption | omega) (by first | assumption | omega) (by first | assumption | omega) (by first | assumption | omega) (by first | assumption | omega) (hYv.2.2.1) (hYv.2.2.2.1) (show k < _ from by rw [hYc]; omega) e67) ⟨Nat.le_of_ble_eq_true rfl, Nat.le_of_ble_eq_true rfl⟩ ⟨Nat.le_of_ble_eq_true rfl, Nat.le_of_ble_eq_true rfl⟩ rfl rfl (Nat.le_of_ble_eq_true rfl) dX6_twin_122 (fun H locs hH => ?_)
                refine m_topI (((f9 : Nat) : Int)) (by rw [hf9]) ?_
                refine m_isub (((e9 : Nat) : Int) - ((f9 : Nat) : Int)) hx hb dX6_twin_125 (by omega) ?_
                refine lv_iload hx hb dX6_twin_126 (lv_at hl 5 rfl) ?_
                refine m_icmp_eq 133 hx hb dX6_twin_128 (by decide) (by omega) (by omega) (fun h_11 => ?_) (fun h_11 => ?_)
                · refine m_iinc (((k : Nat) : Int) + 1) [(6, .int (oI (((k : Nat) : Int) + 1))), (0, .ref (ad (65))), (1, .int (oI (r))), (2, .int (oI (o))), (3, .int (oI (on))), (4, .int (oI (((m9 : Nat) : Int)))), (5, .int (oI (d9)))] hx hb dX6_twin_133 hl (j := 6) rfl (by omega) (by decide) rfl (fun ls hl => ?_)
                  refine lv_goto (tgt := 96) hx hb dX6_twin_136 (by decide) ?_
                  exact ih96 (k + 1) (by omega) (by first | assumption | omega) (fun q h => by
        by_cases c : q = k
        · rw [c, he9, hf9]; omega
        · exact hall q (by omega)) _ _ hH ls (lv_sub hl [1, 2, 3, 4, 5, 6, 0] rfl)
                · refine m_iconst (-1) hx hb dX6_twin_131 rfl ?_
                  exact m_iret hx hb hlk hrt hH (m_ni _) dX6_twin_132 ⟨(-1), 0, rfl, (Or.inl ⟨⟨hR, hRo⟩, rfl, by rw [eR, eS, eRo, eSo]; exact (oTwn_no (x := (oInner (w r.toNat) (sz r.toNat))) (y := (oTyv (w o.toNat) (sz o.toNat) on)) hX41 hY41 (by rw [hm9, hYv.2.1, hI2]; omega) (by rw [hm9]; omega) (k := k) (by rw [hm9]; omega) (by rw [he9, hf9, he0, hf0]; omega)).symm⟩), eM6, hf⟩
          exact L96 _ 1 (Nat.lt_succ_self _) (by first | assumption | omega) (fun q h => by rw [show q = 0 by omega, he0, hf0]; omega) _ _ hH ls (lv_sub hl [3, 4, 5, 6, 2, 1, 0] rfl)
        · refine m_iconst (-1) hx hb dX6_twin_68 rfl ?_
          exact m_iret hx hb hlk hrt hH (m_ni _) dX6_twin_69 ⟨(-1), 0, rfl, (Or.inl ⟨⟨hR, hRo⟩, rfl, by rw [eR, eS, eRo, eSo]; exact (oTwn_z (x := (oInner (w r.toNat) (sz r.toNat))) (y := (oTyv (w o.toNat) (sz o.toNat) on)) (Or.inr (by rw [hm9, hYv.2.1, hI2]; omega)) hX41).symm⟩), eM6, hf⟩
    · refine m_if_eq 27 hx hb dX6_twin_20 (by decide) (by omega) (fun h_12 => ?_) (fun h_12 => absurd h_12 (by omega))
      refine m_iconst 1 hx hb dX6_twin_27 rfl ?_
      refine m_callVi hx hb hml hown hts hK hH hl (rest := []) cw_X6_111 (c6_ref1 hA 1 si ac6 spo ou6 rf (by first | assumption | omega) (by first | assumption | omega) eM6) ⟨Nat.le_of_ble_eq_true rfl, Nat.le_of_ble_eq_true rfl⟩ ⟨Nat.le_of_ble_eq_true rfl, Nat.le_of_ble_eq_true rfl⟩ rfl (k := 65) (by omega) eM6 rfl rfl (Nat.le_of_ble_eq_true rfl) dX6_twin_28 (fun r_16 σ_13 H locs hp_14 hH => ?_)
      obtain ⟨rfl, eM6, hq_15⟩ := hp_14
      have e67 : σ_13 (67) = oAI cT 171 f := (hq_15 _ (by decide)).trans e67
      have hf : ∀ q : Nat, q ≠ 65 → σ_13 q = σ q := fun q n0 => (hq_15 q n0).trans (hf q n0)
      refine m_if_eq 36 hx hb dX6_twin_31 (by decide) (by omega) (fun h_17 => absurd h_17 (by omega)) (fun h_17 => ?_)
      refine m_iconst 0 hx hb dX6_twin_34 rfl ?_
      exact m_iret hx hb hlk hrt hH (m_ni _) dX6_twin_35 ⟨0, 1, rfl, (Or.inr ⟨rfl, fun q => hRo q.2⟩), eM6, hf⟩
  · refine m_if_eq 27 hx hb dX6_twin_9 (by decide) (by omega) (fun h_18 => ?_) (fun h_18 => absurd h_18 (by omega))
    refine m_iconst 1 hx hb dX6_twin_27 rfl ?_
    refine m_callVi hx hb hml hown hts hK hH hl (rest := []) cw_X6_111 (c6_ref1 hA 1 si ac6 spo ou6 rf (by first | assumption | omega) (by first | assumption | omega) eM6) ⟨Nat.le_of_ble_eq_true rfl, Nat.le_of_ble_eq_true rfl⟩ ⟨Nat.le_of_ble_eq_true rfl, Nat.le_of_ble_eq_true rfl⟩ rfl (k := 65) (by omega) eM6 rfl rfl (Nat.le_of_ble_eq_true rfl) dX6_twin_28 (fun r_22 σ_19 H locs hp_20 hH => ?_)
    obtain ⟨rfl, eM6, hq_21⟩ := hp_20
    have e67 : σ_19 (67) = oAI cT 171 f := (hq_21 _ (by decide)).trans e67
    have hf : ∀ q : Nat, q ≠ 65 → σ_19 q = σ q := fun q n0 => (hq_21 q n0).trans (hf q n0)
    refine m_if_eq 36 hx hb dX6_twin_31 (by decide) (by omega) (fun h_23 => absurd h_23 (by omega)) (fun h_23 => ?_)
    refine m_iconst 0 hx hb dX6_twin_34 rfl ?_
    exact m_iret hx hb hlk hrt hH (m_ni _) dX6_twin_35 ⟨0, 1, rfl, (Or.inr ⟨rfl, fun q => hR q.1⟩), eM6, hf⟩
