def oPq (w p d : Nat) : Nat := fb_ct (fun i => w.testBit i && w.testBit (i + d)) p
theorem oPq_s (w p d : Nat) : oPq w (p + 1) d = oPq w p d + bz w p * bz w (p + d) := by
  unfold oPq bz
  rw [fb_ct_succ]
  cases w.testBit p <;> cases w.testBit (p + d) <;> rfl
theorem oPq_le (w p d : Nat) : oPq w p d ≤ p := fb_ct_le _ _
theorem oPq_out {w s p q d : Nat} (hw : w < 2 ^ (s + 1)) (hq : q = s + 1) : oPq w p d + (if p + d < q then bz w p * bz w (p + d) else 0) = oPq w (p + 1) d := by
  rw [oPq_s]
  by_cases h : p + d < q
  · rw [if_pos h]
  · rw [if_neg h, bz_0.mpr (show w.testBit (p + d) = false from Nat.testBit_lt_two_pow (Nat.lt_of_lt_of_le hw (Nat.pow_le_pow_right (by decide) (by omega)))), Nat.mul_zero]
theorem oPq_pa {w s d : Nat} (hw : w < 2 ^ (s + 1)) (hs : s + 1 ≤ 64) : oPq w (s + 1) d = oPa w d := by
  have h := fb_ct_past (f := fun i => w.testBit i && w.testBit (i + d)) (a := s + 1) (fun i hi => by rw [Nat.testBit_lt_two_pow (Nat.lt_of_lt_of_le hw (Nat.pow_le_pow_right (by decide) hi)), Bool.false_and]) (64 - (s + 1))
  rw [show s + 1 + (64 - (s + 1)) = 64 by omega] at h
  refine h.symm.trans ?_
  unfold oPa pcnt
  refine fb_ct_cong (fun i _ => ?_)
  first
    | rw [Nat.testBit_and, Nat.testBit_div_two_pow]
    | rw [Nat.testBit_and, Nat.testBit_div_two_pow, Nat.add_comm d i]
theorem oPq_step {w p q : Nat} {s s3 : Nat → Nat} (hpq : p < q) (hq : q ≤ 40) (hz2 : ∀ d : Nat, 1 ≤ d → d ≤ 40 → s3 d = s d + oPq w p d + (if p + d < q then bz w p * bz w (p + d) else 0)) : ∀ d : Nat, 1 ≤ d → d ≤ 40 → va_up s3 (q - p) (bz w p * bz w q + s3 (q - p)) d = s d + oPq w p d + (if p + d < q + 1 then bz w p * bz w (p + d) else 0) := by
  intro d h1 h2
  by_cases e : d = q - p
  · rw [e, va_up_s, hz2 _ (by omega) (by omega), if_neg (by omega), if_pos (by omega), show p + (q - p) = q by omega]
    omega
  · rw [va_up_n _ _ e, hz2 d h1 h2]
    by_cases h : p + d < q
    · rw [if_pos h, if_pos (by omega)]
    · rw [if_neg h, if_neg (by omega)]
theorem oAllP_r {n r d : Nat} {w : Nat → Nat} (h : r < n) : oAllP n w d (r + 1) = oAllP n w d r + oPa (w r) d := by
  show fb_sm _ (r + 1) = _
  rw [fb_sm_succ, oRow_in (by omega)]
  rfl
theorem oPa_le64 (w d : Nat) : oPa w d ≤ 64 := pcnt_le _
theorem oBnd {s4 s1 : Nat → Nat} {r : Nat} {F : Nat → Nat} (h1 : ∀ d : Nat, 1 ≤ d → d ≤ 40 → s4 d = s1 d + F d) (h2 : s4 0 = s1 0) (h3 : s1 0 = 0) (hb : ∀ d : Nat, d ≤ 40 → s1 d ≤ 64 * r) (hF : ∀ d : Nat, F d ≤ 64) : ∀ d : Nat, d ≤ 40 → s4 d ≤ 64 * (r + 1) := by
  intro d hd
  rcases Nat.eq_zero_or_pos d with h | h
  · subst h
    omega
  · have a := h1 d h hd
    have b := hb d hd
    have c := hF d
    omega
set_option maxHeartbeats 4000000 in
set_option maxRecDepth 100000 in
theorem c6_addSpans {l : Launch} {D : va_G} {cT : Nat → ClassId} {N b0 : Nat} {ad : Nat → Nat} (hA : oAd b0 N ad) {σ : Nat → va_E} (si ac6 spo ou6 : Nat) (rf : Int) (j n a g : Nat) (f : Nat → Int) (sz w : Nat → Nat) (s : Nat → Nat) (r : Nat) (hN : 76 ≤ N) (hj : j = 67 ∨ j = 68) (hwf : oWf n sz w) (hp : oRS f n a g sz w) (hr : r < n) (hs : ∀ d : Nat, d ≤ 40 → s d ≤ 3000) (eM6 : σ (65) = .inr (6, [.int (oI (rf)), .ref (ad (66)), .int (oI (((si : Nat) : Int))), .ref (ad (67)), .ref (ad (68)), .ref (ad (69)), .int (oI (((ac6 : Nat) : Int))), .ref (ad (70)), .ref (ad (71)), .ref (ad (72)), .ref (ad (73)), .ref (ad (74)), .int (oI (((spo : Nat) : Int))), .int (oI (((ou6 : Nat) : Int)))])) (ef : σ (j) = oAI cT 171 f) (e72 : σ (72) = oAN cT 41 s) :
    oCv l D cT N ad b0 yX6_addSpans cX6_addSpans 5 none 1 21 [.ref (ad (65)), .ref (ad (j)), .int (oI (((r : Nat) : Int)))] σ (fun uu => ∃ s2 : Nat → Nat, (∀ d : Nat, 1 ≤ d → d ≤ 40 → s2 d = s d + oPa (w r) d) ∧ (s2 0 = s 0) ∧ uu (72) = oAN cT 41 s2 ∧ (∀ q : Nat, q ≠ 72 → uu q = σ q)) := by
  refine m_start (cc := cX6_addSpans) (by decide) (Nat.le_of_ble_eq_true rfl) rfl ?_
  intro Pp Ee Ss Mm Bb Me Cc Ar ls hx hb hml hown hlk hrt hts hK hH hl
  have hown : Ss.vm.findClass RX6 = some Mm.cls := hown
  have hsz : ∀ r : Nat, r < n → 2 ≤ sz r ∧ sz r ≤ 40 := fun r h => ⟨(hwf.2 r h).1, (hwf.2 r h).2.1⟩
  have hn := hwf.1
  have hs9 := hsz r hr
  have hl : lv_has ls 5 [(0, .ref (ad (65))), (1, .ref (ad (j))), (2, .int (oI (((r : Nat) : Int))))] := hl
  have hf : ∀ q : Nat, q ≠ 72 → σ q = σ q := fun q _ => rfl
  refine m_iconst 0 hx hb dX6_addSpans_0 rfl ?_
  refine lv_istore_n (lv' := [(3, .int (oI (0))), (0, .ref (ad (65))), (1, .ref (ad (j))), (2, .int (oI (((r : Nat) : Int))))]) hx hb dX6_addSpans_1 rfl hl (by decide) rfl (fun ls hl => ?_)
  have L2 : ∀ (fu : Nat) (p : Nat) (s1 : Nat → Nat), (43 - p < fu) → (p ≤ sz r + 1) → (∀ d : Nat, 1 ≤ d → d ≤ 40 → s1 d = s d + oPq (w r) p d) → (s1 0 = s 0) → ∀ σL2 : Nat → va_E, σL2 (72) = oAN cT 41 s1 → (∀ q : Nat, q ≠ 72 → σL2 q = σ q) → ∀ (H : Heap) (locs : List Loc), oH b0 D N ad Ss.heap σL2 H locs → ∀ ls : Array Slot, lv_has ls 5 [(0, .ref (ad (65))), (1, .ref (ad (j))), (2, .int (oI (((r : Nat) : Int)))), (3, .int (oI (((p : Nat) : Int))))] → W Pp l Ee { frames := 1, cells := 0, slots := 0, locals := 21 } Ss Mm Ar Bb Me Cc H locs 0 0 (MQ Bb (va_Qv (fun uu => ∃ s2 : Nat → Nat, (∀ d : Nat, 1 ≤ d → d ≤ 40 → s2 d = s d + oPa (w r) d) ∧ (s2 0 = s 0) ∧ uu (72) = oAN cT 41 s2 ∧ (∀ q : Nat, q ≠ 72 → uu q = σ q)) (oV D N ad) (fun q => b0 ≤ q)) Ar Ss 0 0 (fun q => b0 ≤ q)) (F0 Mm 2 ls []) := by
    intro fu2
    induction fu2 with
    | zero =>
      intro p s1 hm2
      exact absurd hm2 (Nat.not_lt_zero _)
    | succ fu2 ih2 =>
      intro p s1 hm2 hpp hz h00 σL2 e72 hL2 H locs hH ls hl
      have eM6 : σL2 (65) = .inr (6, [.int (oI (rf)), .ref (ad (66)), .int (oI (((si : Nat) : Int))), .ref (ad (67)), .ref (ad (68)), .ref (ad (69)), .int (oI (((ac6 : Nat) : Int))), .ref (ad (70)), .ref (ad (71)), .ref (ad (72)), .ref (ad (73)), .ref (ad (74)), .int (oI (((spo : Nat) : Int))), .int (oI (((ou6 : Nat) : Int)))]) := (hL2 _ (by decide)).trans eM6
      have ef : σL2 (j) = oAI cT 171 f := (hL2 _ (by omega)).trans ef
      have hf : ∀ q : Nat, q ≠ 72 → σL2 q = σ q := fun q n0 => (hL2 q n0).trans (hf q n0)
      refine lv_iload_n hx hb dX6_addSpans_2 rfl (lv_at hl 3 rfl) ?_
      refine lv_aload_n hx hb dX6_addSpans_3 rfl (lv_at hl 1 rfl) ?_
      refine lv_iload_n hx hb dX6_addSpans_4 rfl (lv_at hl 2 rfl) ?_
      refine m_pSi hx hb hml hown hts hK hH hl (rest := [.int (oI (((p : Nat) : Int)))]) cw_X6_54 rfl (c6_length hA j n a g f sz w r (by first | assumption | omega) (by first | assumption | omega) (by first | assumption | omega) (by first | assumption | omega) ef) ⟨Nat.le_of_ble_eq_true rfl, Nat.le_of_ble_eq_true rfl⟩ ⟨Nat.le_of_ble_eq_true rfl, Nat.le_of_ble_eq_true rfl⟩ rfl rfl (Nat.le_of_ble_eq_true rfl) dX6_addSpans_5 (fun H locs hH => ?_)
      refine m_icmp_gt 66 hx hb dX6_addSpans_8 (by decide) (by omega) (by omega) (fun h_1 => ?_) (fun h_1 => ?_)
      · exact m_vret hx hb hlk hrt hH dX6_addSpans_66 ⟨s1, (fun d h1 h2 => by rw [hz d h1 h2, show p = sz r + 1 by omega, oPq_pa (hwf.2 r hr).2.2.1 (by omega)]), h00, e72, hf⟩
      · refine lv_iload_n hx hb dX6_addSpans_11 rfl (lv_at hl 3 rfl) ?_
        refine m_iconst 1 hx hb dX6_addSpans_12 rfl ?_
        refine m_iadd (((p : Nat) : Int) + 1) hx hb dX6_addSpans_13 (by omega) ?_
        refine lv_istore (lv' := [(4, .int (oI (((p : Nat) : Int) + 1))), (0, .ref (ad (65))), (1, .ref (ad (j))), (2, .int (oI (((r : Nat) : Int)))), (3, .int (oI (((p : Nat) : Int))))]) hx hb dX6_addSpans_14 hl (by decide) rfl (fun ls hl => ?_)
        have L16 : ∀ (fu : Nat) (q : Nat) (s3 : Nat → Nat), (43 - q < fu) → (p < q ∧ q ≤ sz r + 1) → (∀ d : Nat, 1 ≤ d → d ≤ 40 → s3 d = s d + oPq (w r) p d + (if p + d < q then bz (w r) p * bz (w r) (p + d) else 0)) → (s3 0 = s 0) → ∀ σL16 : Nat → va_E, σL16 (72) = oAN cT 41 s3 → (∀ q : Nat, q ≠ 72 → σL16 q = σL2 q) → ∀ (H : Heap) (locs : List Loc), oH b0 D N ad Ss.heap σL16 H locs → ∀ ls : Array Slot, lv_has ls 5 [(0, .ref (ad (65))), (1, .ref (ad (j))), (2, .int (oI (((r : Nat) : Int)))), (3, .int (oI (((p : Nat) : Int)))), (4, .int (oI (((q : Nat) : Int))))] → W Pp l Ee { frames := 1, cells := 0, slots := 0, locals := 21 } Ss Mm Ar Bb Me Cc H locs 0 0 (MQ Bb (va_Qv (fun uu => ∃ s2 : Nat → Nat, (∀ d : Nat, 1 ≤ d → d ≤ 40 → s2 d = s d + oPa (w r) d) ∧ (s2 0 = s 0) ∧ uu (72) = oAN cT 41 s2 ∧ (∀ q : Nat, q ≠ 72 → uu q = σ q)) (oV D N ad) (fun q => b0 ≤ q)) Ar Ss 0 0 (fun q => b0 ≤ q)) (F0 Mm 16 ls []) := by
          intro fu16
          induction fu16 with
          | zero =>
            intro q s3 hm16
            exact absurd hm16 (Nat.not_lt_zero _)
          | succ fu16 ih16 =>
            intro q s3 hm16 hq hz2 h01 σL16 e72 hL16 H locs hH ls hl
            have eM6 : σL16 (65) = .inr (6, [.int (oI (rf)), .ref (ad (66)), .int (oI (((si : Nat) : Int))), .ref (ad (67)), .ref (ad (68)), .ref (ad (69)), .int (oI (((ac6 : Nat) : Int))), .ref (ad (70)), .ref (ad (71)), .ref (ad (72)), .ref (ad (73)), .ref (ad (74)), .int (oI (((spo : Nat) : Int))), .int (oI (((ou6 : Nat) : Int)))]) := (hL16 _ (by decide)).trans eM6
            have ef : σL16 (j) = oAI cT 171 f := (hL16 _ (by omega)).trans ef
            have hf : ∀ q : Nat, q ≠ 72 → σL16 q = σ q := fun q n0 => (hL16 q n0).trans (hf q n0)
            have hL2 : ∀ q : Nat, q ≠ 72 → σL16 q = σ q := fun q n0 => (hL16 q n0).trans (hL2 q n0)
            refine lv_iload hx hb dX6_addSpans_16 (lv_at hl 4 rfl) ?_
            refine lv_aload_n hx hb dX6_addSpans_18 rfl (lv_at hl 1 rfl) ?_
            refine lv_iload_n hx hb dX6_addSpans_19 rfl (lv_at hl 2 rfl) ?_
            refine m_pSi hx hb hml hown hts hK hH hl (rest := [.int (oI (((q : Nat) : Int)))]) cw_X6_54 rfl (c6_length hA j n a g f sz w r (by first | assumption | omega) (by first | assumption | omega) (by first | assumption | omega) (by first | assumption | omega) ef) ⟨Nat.le_of_ble_eq_true rfl, Nat.le_of_ble_eq_true rfl⟩ ⟨Nat.le_of_ble_eq_true rfl, Nat.le_of_ble_eq_true rfl⟩ rfl rfl (Nat.le_of_ble_eq_true rfl) dX6_addSpans_20 (fun H locs hH => ?_)
            refine m_icmp_gt 60 hx hb dX6_addSpans_23 (by decide) (by omega) (by omega) (fun h_2 => ?_) (fun h_2 => ?_)
            · refine m_iinc (((p : Nat) : Int) + 1) [(3, .int (oI (((p : Nat) : Int) + 1))), (0, .ref (ad (65))), (1, .ref (ad (j))), (2, .int (oI (((r : Nat) : Int)))), (4, .int (oI (((q : Nat) : Int))))] hx hb dX6_addSpans_60 hl (j := 3) rfl (by omega) (by decide) rfl (fun ls hl => ?_)
              refine lv_goto (tgt := 2) hx hb dX6_addSpans_63 (by decide) ?_
              exact ih2 (p + 1) s3 (by omega) (by first | assumption | omega) (fun d h1 h2 => by rw [hz2 d h1 h2, Nat.add_assoc, oPq_out (hwf.2 r hr).2.2.1 (by omega)]) (h01) _ e72 (hL2) _ _ hH ls (lv_sub hl [1, 2, 3, 0] rfl)
            · refine lv_aload_n hx hb dX6_addSpans_26 rfl (lv_at hl 0 rfl) ?_
              refine gf_X6_spans hx hb hts hown hK hH (k := 65) (by omega) eM6 dX6_addSpans_27 ?_
              refine lv_iload hx hb dX6_addSpans_30 (lv_at hl 4 rfl) ?_
              refine lv_iload_n hx hb dX6_addSpans_32 rfl (lv_at hl 3 rfl) ?_
              refine m_isub (-((p : Nat) : Int) + ((q : Nat) : Int)) hx hb dX6_addSpans_33 (by omega) ?_
              refine m_topI (((q - p : Nat) : Int)) (by omega) ?_
              have hb1 := bz_le (w r) p
              have hb2 := bz_le (w r) q
              have hbb : bz (w r) p * bz (w r) q ≤ 1 := Nat.mul_le_mul hb1 hb2
              have hsv : s3 (q - p) ≤ 3041 := by rw [hz2 _ (by omega) (by omega), if_neg (by omega)]; have := oPq_le (w r) p (q - p); have := hs (q - p) (by omega); omega
              refine lv_dup2_11 hx hb dX6_addSpans_34 rfl rfl ?_
              refine m_iald hx hb hK hH (k := 72) (by omega) e72 ((q - p)) (by omega) (by omega) (by decide) dX6_addSpans_35 ?_
              refine lv_aload_n hx hb dX6_addSpans_36 rfl (lv_at hl 1 rfl) ?_
              refine lv_iload_n hx hb dX6_addSpans_37 rfl (lv_at hl 2 rfl) ?_
              refine lv_iload_n hx hb dX6_addSpans_38 rfl (lv_at hl 3 rfl) ?_
              refine m_pSi hx hb hml hown hts hK hH hl (rest := [.ref (ad (j)), .int (oI (((s3 (q - p) : Nat) : Int))), .int (oI (((q - p : Nat) : Int))), .ref (ad (72))]) cw_X6_64 rfl (c6_at hA r p (by first | assumption | omega) (by first | assumption | omega) ) ⟨Nat.le_of_ble_eq_true rfl, Nat.le_of_ble_eq_true rfl⟩ ⟨Nat.le_of_ble_eq_true rfl, Nat.le_of_ble_eq_true rfl⟩ rfl rfl (Nat.le_of_ble_eq_true rfl) dX6_addSpans_39 (fun H locs hH => ?_)
              refine m_iald hx hb hK hH (k := j) (by omega) ef (42 * r + 4 + p) (by omega) (by omega) (by decide) dX6_addSpans_42 ?_
              refine m_topI (((bz (w r) p : Nat) : Int)) ((hp.2.2.2 r hr).2 p (by omega)) ?_
              refine lv_aload_n hx hb dX6_addSpans_43 rfl (lv_at hl 1 rfl) ?_
              refine lv_iload_n hx hb dX6_addSpans_44 rfl (lv_at hl 2 rfl) ?_
              refine lv_iload hx hb dX6_addSpans_45 (lv_at hl 4 rfl) ?_
              refine m_pSi hx hb hml hown hts hK hH hl (rest := [.ref (ad (j)), .int (oI (((bz (w r) p : Nat) : Int))), .int (oI (((s3 (q - p) : Nat) : Int))), .int (oI (((q - p : Nat) : Int))), .ref (ad (72))]) cw_X6_64 rfl (c6_at hA r q (by first | assumption | omega) (by first | assumption | omega) ) ⟨Nat.le_of_ble_eq_true rfl, Nat.le_of_ble_eq_true rfl⟩ ⟨Nat.le_of_ble_eq_true rfl, Nat.le_of_ble_eq_true rfl⟩ rfl rfl (Nat.le_of_ble_eq_true rfl) dX6_addSpans_47 (fun H locs hH => ?_)
              refine m_iald hx hb hK hH (k := j) (by omega) ef (42 * r + 4 + q) (by omega) (by omega) (by decide) dX6_addSpans_50 ?_
              refine m_topI (((bz (w r) q : Nat) : Int)) ((hp.2.2.2 r hr).2 q (by omega)) ?_
              refine m_imul ((((bz (w r) p) * (bz (w r) q) : Nat) : Int)) hx hb dX6_addSpans_51 (by first | rfl | omega | (push_cast; rfl)) ?_
              refine m_iadd ((((bz (w r) p) * (bz (w r) q) : Nat) : Int) + ((s3 (q - p) : Nat) : Int)) hx hb dX6_addSpans_52 (by omega) ?_
              refine m_iast hx hb hK hH hA (k := 72) (by omega) e72 ((q - p)) (by omega) (by omega) (by decide) dX6_addSpans_53 (fun H locs σ_3 e72 hq_4 hH => ?_)
              have e72 : σ_3 (72) = oAN cT 41 (va_up s3 (q - p) (((bz (w r) p) * (bz (w r) q)) + (s3 (q - p)))) := e72.trans (oAN_up _ _ _ _ _)
              have eM6 : σ_3 (65) = .inr (6, [.int (oI (rf)), .ref (ad (66)), .int (oI (((si : Nat) : Int))), .ref (ad (67)), .ref (ad (68)), .ref (ad (69)), .int (oI (((ac6 : Nat) : Int))), .ref (ad (70)), .ref (ad (71)), .ref (ad (72)), .ref (ad (73)), .ref (ad (74)), .int (oI (((spo : Nat) : Int))), .int (oI (((ou6 : Nat) : Int)))]) := (hq_4 _ (by decide)).trans eM6
              have ef : σ_3 (j) = oAI cT 171 f := (hq_4 _ (by omega)).trans ef
              have hf : ∀ q : Nat, q ≠ 72 → σ_3 q = σ q := fun q n0 => (hq_4 q n0).trans (hf q n0)
              have hL2 : ∀ q : Nat, q ≠ 72 → σ_3 q = σ q := fun q n0 => (hq_4 q n0).trans (hL2 q n0)
              have hL16 : ∀ q : Nat, q ≠ 72 → σ_3 q = σL2 q := fun q n0 => (hq_4 q n0).trans (hL16 q n0)
              refine m_iinc (((q : Nat) : Int) + 1) [(4, .int (oI (((q : Nat) : Int) + 1))), (0, .ref (ad (65))), (1, .ref (ad (j))), (2, .int (oI (((r : Nat) : Int)))), (3, .int (oI (((p : Nat) : Int))))] hx hb dX6_addSpans_54 hl (j := 4) rfl (by omega) (by decide) rfl (fun ls hl => ?_)
              refine lv_goto (tgt := 16) hx hb dX6_addSpans_57 (by decide) ?_
              exact ih16 (q + 1) (va_up s3 (q - p) (((bz (w r) p) * (bz (w r) q)) + (s3 (q - p)))) (by omega) (by first | assumption | omega) (oPq_step hq.1 (by omega) hz2) (by rw [va_up_n _ _ (by omega)]; exact h01) _ e72 (hL16) _ _ hH ls (lv_sub hl [1, 2, 3, 4, 0] rfl)
        exact L16 _ (p + 1) s1 (Nat.lt_succ_self _) (by first | assumption | omega) (fun d h1 h2 => by rw [if_neg (by omega)]; exact hz d h1 h2) (h00) _ e72 (fun q _ => rfl) _ _ hH ls (lv_sub hl [1, 2, 3, 4, 0] rfl)
  exact L2 _ 0 s (Nat.lt_succ_self _) (by first | assumption | omega) (fun d _ _ => rfl) (rfl) _ e72 (fun q _ => rfl) _ _ hH ls (lv_sub hl [1, 2, 3, 0] rfl)
set_option maxHeartbeats 4000000 in
set_option maxRecDepth 100000 in
theorem c6_findSpans {l : Launch} {D : va_G} {cT : Nat → ClassId} {N b0 : Nat} {ad : Nat → Nat} (hA : oAd b0 N ad) {σ : Nat → va_E} (si ac6 spo ou6 : Nat) (rf : Int) (j n a g : Nat) (f : Nat → Int) (sz w : Nat → Nat) (s : Nat → Nat) (hN : 76 ≤ N) (hj : j = 67 ∨ j = 68) (hwf : oWf n sz w) (hp : oRS f n a g sz w) (eM6 : σ (65) = .inr (6, [.int (oI (rf)), .ref (ad (66)), .int (oI (((si : Nat) : Int))), .ref (ad (67)), .ref (ad (68)), .ref (ad (69)), .int (oI (((ac6 : Nat) : Int))), .ref (ad (70)), .ref (ad (71)), .ref (ad (72)), .ref (ad (73)), .ref (ad (74)), .int (oI (((spo : Nat) : Int))), .int (oI (((ou6 : Nat) : Int)))])) (ef : σ (j) = oAI cT 171 f) (e72 : σ (72) = oAN cT 41 s) :
    oCv l D cT N ad b0 yX6_findSpans cX6_findSpans 3 none 2 45 [.ref (ad (65)), .ref (ad (j))] σ (fun uu => ∃ s2 : Nat → Nat, (∀ d : Nat, 1 ≤ d → d ≤ 40 → s2 d = oAllP n w d n) ∧ (s2 0 = 0) ∧ uu (72) = oAN cT 41 s2 ∧ (∀ q : Nat, q ≠ 72 → uu q = σ q)) := by
  refine m_start (cc := cX6_findSpans) (by decide) (Nat.le_of_ble_eq_true rfl) rfl ?_
  intro Pp Ee Ss Mm Bb Me Cc Ar ls hx hb hml hown hlk hrt hts hK hH hl
  have hown : Ss.vm.findClass RX6 = some Mm.cls := hown
  have hn := hwf.1
  have hl : lv_has ls 3 [(0, .ref (ad (65))), (1, .ref (ad (j)))] := hl
  have hf : ∀ q : Nat, q ≠ 72 → σ q = σ q := fun q _ => rfl
  refine lv_aload_n hx hb dX6_findSpans_0 rfl (lv_at hl 0 rfl) ?_
  refine m_callVv hx hb hml hown hts hK hH hl (rest := []) cw_X6_71 (c6_noSpans hA si ac6 spo ou6 rf s (by first | assumption | omega) eM6 e72) ⟨Nat.le_of_ble_eq_true rfl, Nat.le_of_ble_eq_true rfl⟩ ⟨Nat.le_of_ble_eq_true rfl, Nat.le_of_ble_eq_true rfl⟩ rfl (k := 65) (by omega) eM6 rfl rfl (Nat.le_of_ble_eq_true rfl) dX6_findSpans_1 (fun σ_1 H locs hp_2 hH => ?_)
  obtain ⟨s9, hz0, e72, hq_3⟩ := hp_2
  have eM6 : σ_1 (65) = .inr (6, [.int (oI (rf)), .ref (ad (66)), .int (oI (((si : Nat) : Int))), .ref (ad (67)), .ref (ad (68)), .ref (ad (69)), .int (oI (((ac6 : Nat) : Int))), .ref (ad (70)), .ref (ad (71)), .ref (ad (72)), .ref (ad (73)), .ref (ad (74)), .int (oI (((spo : Nat) : Int))), .int (oI (((ou6 : Nat) : Int)))]) := (hq_3 _ (by decide)).trans eM6
  have ef : σ_1 (j) = oAI cT 171 f := (hq_3 _ (by omega)).trans ef
  have hf : ∀ q : Nat, q ≠ 72 → σ_1 q = σ q := fun q n0 => (hq_3 q n0).trans (hf q n0)
  refine m_iconst 0 hx hb dX6_findSpans_4 rfl ?_
  refine lv_istore_n (lv' := [(2, .int (oI (0))), (0, .ref (ad (65))), (1, .ref (ad (j)))]) hx hb dX6_findSpans_5 rfl hl (by decide) rfl (fun ls hl => ?_)
  have L6 : ∀ (fu : Nat) (r : Nat) (s1 : Nat → Nat), (5 - r < fu) → (r ≤ n) → (∀ d : Nat, 1 ≤ d → d ≤ 40 → s1 d = oAllP n w d r) → (s1 0 = 0) → (∀ d : Nat, d ≤ 40 → s1 d ≤ 64 * r) → ∀ σL6 : Nat → va_E, σL6 (72) = oAN cT 41 s1 → (∀ q : Nat, q ≠ 72 → σL6 q = σ_1 q) → ∀ (H : Heap) (locs : List Loc), oH b0 D N ad Ss.heap σL6 H locs → ∀ ls : Array Slot, lv_has ls 3 [(0, .ref (ad (65))), (1, .ref (ad (j))), (2, .int (oI (((r : Nat) : Int))))] → W Pp l Ee { frames := 2, cells := 0, slots := 0, locals := 45 } Ss Mm Ar Bb Me Cc H locs 0 0 (MQ Bb (va_Qv (fun uu => ∃ s2 : Nat → Nat, (∀ d : Nat, 1 ≤ d → d ≤ 40 → s2 d = oAllP n w d n) ∧ (s2 0 = 0) ∧ uu (72) = oAN cT 41 s2 ∧ (∀ q : Nat, q ≠ 72 → uu q = σ q)) (oV D N ad) (fun q => b0 ≤ q)) Ar Ss 0 0 (fun q => b0 ≤ q)) (F0 Mm 6 ls []) := by
    intro fu6
    induction fu6 with
    | zero =>
      intro r s1 hm6
      exact absurd hm6 (Nat.not_lt_zero _)
    | succ fu6 ih6 =>
      intro r s1 hm6 hr hz h00 hbd σL6 e72 hL6 H locs hH ls hl
      have eM6 : σL6 (65) = .inr (6, [.int (oI (rf)), .ref (ad (66)), .int (oI (((si : Nat) : Int))), .ref (ad (67)), .ref (ad (68)), .ref (ad (69)), .int (oI (((ac6 : Nat) : Int))), .ref (ad (70)), .ref (ad (71)), .ref (ad (72)), .ref (ad (73)), .ref (ad (74)), .int (oI (((spo : Nat) : Int))), .int (oI (((ou6 : Nat) : Int)))]) := (hL6 _ (by decide)).trans eM6
      have ef : σL6 (j) = oAI cT 171 f := (hL6 _ (by omega)).trans ef
      have hf : ∀ q : Nat, q ≠ 72 → σL6 q = σ q := fun q n0 => (hL6 q n0).trans (hf q n0)
      refine lv_iload_n hx hb dX6_findSpans_6 rfl (lv_at hl 2 rfl) ?_
      refine lv_aload_n hx hb dX6_findSpans_7 rfl (lv_at hl 1 rfl) ?_
      refine m_iconst 0 hx hb dX6_findSpans_8 rfl ?_
      refine m_iald hx hb hK hH (k := j) (by omega) ef (0) (by omega) (by omega) (by decide) dX6_findSpans_9 ?_
      refine m_topI (((n : Nat) : Int)) (hp.1) ?_
      refine m_icmp_ge 25 hx hb dX6_findSpans_10 (by decide) (by omega) (by omega) (fun h_5 => ?_) (fun h_5 => ?_)
      · exact m_vret hx hb hlk hrt hH dX6_findSpans_25 ⟨s1, (fun d h1 h2 => by rw [hz d h1 h2, show r = n by omega]), h00, e72, hf⟩
      · refine lv_aload_n hx hb dX6_findSpans_13 rfl (lv_at hl 0 rfl) ?_
        refine lv_aload_n hx hb dX6_findSpans_14 rfl (lv_at hl 1 rfl) ?_
        refine lv_iload_n hx hb dX6_findSpans_15 rfl (lv_at hl 2 rfl) ?_
        refine m_callVv hx hb hml hown hts hK hH hl (rest := []) cw_X6_74 (c6_addSpans hA si ac6 spo ou6 rf j n a g f sz w s1 r (by first | assumption | omega) (by first | assumption | omega) (by first | assumption | omega) (by first | assumption | omega) (by first | assumption | omega) (fun d h => by have := hbd d h; omega) eM6 ef e72) ⟨Nat.le_of_ble_eq_true rfl, Nat.le_of_ble_eq_true rfl⟩ ⟨Nat.le_of_ble_eq_true rfl, Nat.le_of_ble_eq_true rfl⟩ rfl (k := 65) (by omega) eM6 rfl rfl (Nat.le_of_ble_eq_true rfl) dX6_findSpans_16 (fun σ_6 H locs hp_7 hH => ?_)
        obtain ⟨s4, hs1, hs2, e72, hq_8⟩ := hp_7
        have eM6 : σ_6 (65) = .inr (6, [.int (oI (rf)), .ref (ad (66)), .int (oI (((si : Nat) : Int))), .ref (ad (67)), .ref (ad (68)), .ref (ad (69)), .int (oI (((ac6 : Nat) : Int))), .ref (ad (70)), .ref (ad (71)), .ref (ad (72)), .ref (ad (73)), .ref (ad (74)), .int (oI (((spo : Nat) : Int))), .int (oI (((ou6 : Nat) : Int)))]) := (hq_8 _ (by decide)).trans eM6
        have ef : σ_6 (j) = oAI cT 171 f := (hq_8 _ (by omega)).trans ef
        have hf : ∀ q : Nat, q ≠ 72 → σ_6 q = σ q := fun q n0 => (hq_8 q n0).trans (hf q n0)
        have hL6 : ∀ q : Nat, q ≠ 72 → σ_6 q = σ_1 q := fun q n0 => (hq_8 q n0).trans (hL6 q n0)
        refine m_iinc (((r : Nat) : Int) + 1) [(2, .int (oI (((r : Nat) : Int) + 1))), (0, .ref (ad (65))), (1, .ref (ad (j)))] hx hb dX6_findSpans_19 hl (j := 2) rfl (by omega) (by decide) rfl (fun ls hl => ?_)
        refine lv_goto (tgt := 6) hx hb dX6_findSpans_22 (by decide) ?_
        exact ih6 (r + 1) s4 (by omega) (by first | assumption | omega) (fun d h1 h2 => by rw [hs1 d h1 h2, hz d h1 h2, oAllP_r (by omega)]) (hs2.trans h00) (oBnd hs1 hs2 h00 hbd (oPa_le64 (w r))) _ e72 (hL6) _ _ hH ls (lv_sub hl [1, 2, 0] rfl)
  exact L6 _ 0 s9 (Nat.lt_succ_self _) (by first | assumption | omega) (fun d h1 h2 => hz0 d (by omega)) (hz0 0 (by omega)) (fun d h => by rw [hz0 d (by omega)]; omega) _ e72 (fun q _ => rfl) _ _ hH ls (lv_sub hl [1, 2, 0] rfl)
