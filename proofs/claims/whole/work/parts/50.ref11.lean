theorem oAt1_ok {v n a g : Nat} {y on : Int} {sz w : Nat → Nat} (h2 : 2 ≤ v) (h40 : v ≤ 40) (hn : n < 4) : oAtt 1 ((v : Nat) : Int) y on n a g sz w = (1, n + 1, a, g, va_up sz n v, va_up w n (1 ||| 2 ^ v)) := (oAtt_ok (by rw [oRefA_1]; exact oRef1_0.mpr ⟨by omega, by omega, hn⟩)).trans (by rw [oDoS_1]; rfl)
theorem oAt1_no {n a g : Nat} {r y on : Int} {sz w : Nat → Nat} (h : ¬ (2 ≤ r ∧ r ≤ 40 ∧ n < 4)) : oAtt 1 r y on n a g sz w = (0, n, a, g, sz, w) := oAtt_no (by rw [oRefA_1]; exact fun q => h (oRef1_0.mp q))
theorem oAt2_ok {n a g : Nat} {r p on : Int} {sz w : Nat → Nat} (h : ((0 ≤ r ∧ r < (n : Int)) ∧ 0 ≤ p ∧ p ≤ (oSize n sz r : Int)) ∧ (on = 1 ∨ ¬ (p = 0 ∨ p = (oSize n sz r : Int)))) : oAtt 2 r p on n a g sz w = (1, n, a, g, sz, va_up w r.toNat (oDoW (w r.toNat) p on)) :=
  (oAtt_ok (by rw [oRefA_2]; exact oRef2_0.mpr ⟨h.1, fun q => h.2.elim (fun z => by omega) (fun z => z q.2)⟩)).trans (by rw [oDoS_2])
theorem oAt2_no {n a g : Nat} {r p on : Int} {sz w : Nat → Nat} (hon : on = 0 ∨ on = 1) (h : ¬ (((0 ≤ r ∧ r < (n : Int)) ∧ 0 ≤ p ∧ p ≤ (oSize n sz r : Int)) ∧ (on = 1 ∨ ¬ (p = 0 ∨ p = (oSize n sz r : Int))))) : oAtt 2 r p on n a g sz w = (0, n, a, g, sz, w) :=
  oAtt_no (by rw [oRefA_2]; exact fun q => h ⟨(oRef2_0.mp q).1, hon.elim (fun z => Or.inr (fun y => (oRef2_0.mp q).2 ⟨z, y⟩)) Or.inl⟩)
theorem oAt3_ok {n a g : Nat} {r x on : Int} {sz w : Nat → Nat} (h : (0 ≤ r ∧ r < (n : Int)) ∧ 2 ≤ x ∧ x ≤ (oSize n sz r : Int)) : oAtt 3 r x on n a g sz w = (1, n, a, g, va_up sz r.toNat x.toNat, va_up w r.toNat (oCutW (w r.toNat) x.toNat)) := (oAtt_ok (by rw [oRefA_3]; exact oRef3_0.mpr h)).trans (by rw [oDoS_3])
theorem oAt3_no {n a g : Nat} {r x on : Int} {sz w : Nat → Nat} (h : ¬ ((0 ≤ r ∧ r < (n : Int)) ∧ 2 ≤ x ∧ x ≤ (oSize n sz r : Int))) : oAtt 3 r x on n a g sz w = (0, n, a, g, sz, w) := oAtt_no (by rw [oRefA_3]; exact fun q => h (oRef3_0.mp q))
theorem oAt4_ok {n a g : Nat} {r x on : Int} {sz w : Nat → Nat} (h : 0 ≤ r ∧ r < (n : Int)) : oAtt 4 r x on n a g sz w = (1, n, a, g, sz, va_up w r.toNat (oRev (w r.toNat) (sz r.toNat))) := (oAtt_ok (by rw [oRefA_4]; exact oRef4_0.mpr h)).trans (by rw [oDoS_4])
theorem oAt4_no {n a g : Nat} {r x on : Int} {sz w : Nat → Nat} (h : ¬ (0 ≤ r ∧ r < (n : Int))) : oAtt 4 r x on n a g sz w = (0, n, a, g, sz, w) := oAtt_no (by rw [oRefA_4]; exact fun q => h (oRef4_0.mp q))
theorem oAt50 {v n a g : Nat} {on : Int} {sz w : Nat → Nat} (h : 1 ≤ v ∧ v ≤ 6) : oAtt 5 0 ((v : Nat) : Int) on n a g sz w = (1, n, v, g, sz, w) := (oAtt_ok (by rw [oRefA_5]; exact oRef5_0.mpr (Or.inl ⟨rfl, by omega, by omega⟩))).trans (by rw [oDoS_50]; rfl)
theorem oAt51 {v n a g : Nat} {on : Int} {sz w : Nat → Nat} (h : 10 ≤ v ∧ v ≤ 150) : oAtt 5 1 ((v : Nat) : Int) on n a g sz w = (1, n, a, v, sz, w) := (oAtt_ok (by rw [oRefA_5]; exact oRef5_0.mpr (Or.inr ⟨rfl, by omega, by omega⟩))).trans (by rw [oDoS_51]; rfl)
theorem oAt5_no {n a g : Nat} {r x on : Int} {sz w : Nat → Nat} (h : ¬ ((r = 0 ∧ 1 ≤ x ∧ x ≤ 6) ∨ (r = 1 ∧ 10 ≤ x ∧ x ≤ 150))) : oAtt 5 r x on n a g sz w = (0, n, a, g, sz, w) := oAtt_no (by rw [oRefA_5]; exact fun q => h (oRef5_0.mp q))
theorem oPc1 {w : Nat} (h : w.testBit 0 = true) : 1 ≤ pcnt w := fb_ct_pos.mpr ⟨0, by decide, h⟩
theorem oRS_ext {f f3 : Nat → Int} {n a g : Nat} {sz w : Nat → Nat} (h : oRS f n a g sz w) (hn : n ≤ 4) (e : ∀ k : Nat, k < 171 → f3 k = f k) : oRS f3 n a g sz w :=
  ⟨(e 0 (by omega)).trans h.1, (e 1 (by omega)).trans h.2.1, (e 2 (by omega)).trans h.2.2.1, fun r hr => ⟨(e _ (by omega)).trans (h.2.2.2 r hr).1, fun p hp => (e _ (by omega)).trans ((h.2.2.2 r hr).2 p hp)⟩⟩
theorem oRS_eq {f : Nat → Int} {n a g : Nat} {sz w sz2 w2 : Nat → Nat} (h : oRS f n a g sz w) (e : ∀ r : Nat, r < n → sz2 r = sz r ∧ w2 r = w r) : oRS f n a g sz2 w2 :=
  ⟨h.1, h.2.1, h.2.2.1, fun r hr => by rw [(e r hr).1, (e r hr).2]; exact h.2.2.2 r hr⟩
def oRdC (T : Nat → Int) (z p ou n a g : Nat) (sz w : Nat → Nat) (b9 : Int) (p2 ou2 : Nat) (f2 : Nat → Int) : Prop :=
  (b9 = 1 ∧ ∃ (ac x y : Nat) (on rt : Int) (n1 a1 g1 : Nat) (sz1 w1 : Nat → Nat), oRc T z p (-1) p2 ac x y ∧ ((on = 1 ∧ T p = 109) ∨ (on = 0 ∧ T p ≠ 109)) ∧ oAtt ((ac : Nat) : Int) ((x : Nat) : Int) ((y : Nat) : Int) on n a g sz w = (rt, n1, a1, g1, sz1, w1) ∧ oRS f2 n1 a1 g1 sz1 w1 ∧ oWf n1 sz1 w1 ∧ oAg a1 g1 ∧ ou2 = (if rt = 0 then ou + 1 else ou)) ∨
  (b9 = 0 ∧ ∃ (fo : Int) (ac x y q2 : Nat), ¬ fo = -1 ∧ oRc T z p fo q2 ac x y ∧ fo = (p2 : Int))
theorem oTurnR_b {w s : Nat} (hs : s ≤ 40) : oTurnR w s ≤ 64 := by
  unfold oTurnR
  split
  · omega
  · unfold oLowest
    split <;> omega
set_option maxHeartbeats 4000000 in
set_option maxRecDepth 100000 in
theorem c6_readMark {l : Launch} {D : va_G} {cT : Nat → ClassId} {N b0 : Nat} {ad : Nat → Nat} (hA : oAd b0 N ad) {σ : Nat → va_E} (on : Int) (p1 : Nat) (si ac6 spo ou6 : Nat) (rf : Int) (T : Nat → Int) (n a g : Nat) (f : Nat → Int) (sz w : Nat → Nat) (hN : 76 ≤ N) (hT : ∀ i : Nat, i < si → 0 ≤ T i ∧ T i ≤ 255) (hsi : si ≤ 120) (hwf : oWf n sz w) (hag : oAg a g) (hp : oRS f n a g sz w) (hou : ou6 ≤ 900) (hsp : spo ≤ 140) (hs1 : spo = p1 + 1) (hT9 : T p1 = 109 ∨ T p1 = 120) (hon : (on = 1 ∧ T p1 = 109) ∨ (on = 0 ∧ T p1 ≠ 109)) (eM6 : σ (65) = .inr (6, [.int (oI (rf)), .ref (ad (66)), .int (oI (((si : Nat) : Int))), .ref (ad (67)), .ref (ad (68)), .ref (ad (69)), .int (oI (((ac6 : Nat) : Int))), .ref (ad (70)), .ref (ad (71)), .ref (ad (72)), .ref (ad (73)), .ref (ad (74)), .int (oI (((spo : Nat) : Int))), .int (oI (((ou6 : Nat) : Int)))])) (e66 : σ (66) = oAI cT 120 T) (e68 : σ (68) = oAI cT 171 f) :
    oCi l D cT N ad b0 yX6_readMark cX6_readMark 5 (some .boolean) 4 91 [.ref (ad (65)), .ref (ad (68)), .int (oI (on))] σ (fun rr uu => ∃ b9 : Int, ∃ p2 : Nat, ∃ ou2 : Nat, ∃ g2 : Nat → Int, rr = oI (b9) ∧ (b9 = 0 ∨ b9 = 1) ∧ (oRdC T si p1 ou6 n a g sz w b9 p2 ou2 g2) ∧ (p2 ≤ 150) ∧ (ou2 ≤ ou6 + 1) ∧ uu (65) = .inr (6, [.int (oI (rf)), .ref (ad (66)), .int (oI (((si : Nat) : Int))), .ref (ad (67)), .ref (ad (68)), .ref (ad (69)), .int (oI (((ac6 : Nat) : Int))), .ref (ad (70)), .ref (ad (71)), .ref (ad (72)), .ref (ad (73)), .ref (ad (74)), .int (oI (((p2 : Nat) : Int))), .int (oI (((ou2 : Nat) : Int)))]) ∧ uu (68) = oAI cT 171 g2 ∧ (∀ q : Nat, q ≠ 65 → q ≠ 68 → uu q = σ q)) := by
  refine m_start (cc := cX6_readMark) (by decide) (Nat.le_of_ble_eq_true rfl) rfl ?_
  intro Pp Ee Ss Mm Bb Me Cc Ar ls hx hb hml hown hlk hrt hts hK hH hl
  have hown : Ss.vm.findClass RX6 = some Mm.cls := hown
  have hl : lv_has ls 5 [(0, .ref (ad (65))), (1, .ref (ad (68))), (2, .int (oI (on)))] := hl
  have hf : ∀ q : Nat, q ≠ 65 → q ≠ 68 → σ q = σ q := fun q _ _ => rfl
  refine lv_aload_n hx hb dX6_readMark_0 rfl (lv_at hl 0 rfl) ?_
  refine m_iconst 0 hx hb dX6_readMark_1 rfl ?_
  refine m_iconst 1 hx hb dX6_readMark_2 rfl ?_
  refine m_iconst 0 hx hb dX6_readMark_3 rfl ?_
  refine m_iconst 3 hx hb dX6_readMark_4 rfl ?_
  refine m_callVi hx hb hml hown hts hK hH hl (rest := []) cw_X6_123 (c6_fig hA 0 1 1 0 3 si ac6 spo ou6 rf T (by first | assumption | omega) (by first | assumption | omega) (by first | assumption | omega) (by first | assumption | omega) (by first | assumption | omega) (by first | assumption | omega) (by first | assumption | omega) (by first | assumption | omega) (by first | assumption | omega) eM6 e66) ⟨Nat.le_of_ble_eq_true rfl, Nat.le_of_ble_eq_true rfl⟩ ⟨Nat.le_of_ble_eq_true rfl, Nat.le_of_ble_eq_true rfl⟩ rfl (k := 65) (by omega) eM6 rfl rfl (Nat.le_of_ble_eq_true rfl) dX6_readMark_5 (fun r_4 σ_1 H locs hp_2 hH => ?_)
  obtain ⟨v1, p1a, fo1, q1, rfl, hR1, hp1, hf1, hv1, hq1, eM6, hq_3⟩ := hp_2
  have e66 : σ_1 (66) = oAI cT 120 T := (hq_3 _ (by decide)).trans e66
  have e68 : σ_1 (68) = oAI cT 171 f := (hq_3 _ (by decide)).trans e68
  have hf : ∀ q : Nat, q ≠ 65 → q ≠ 68 → σ_1 q = σ q := fun q n0 n1 => (hq_3 q n0).trans (hf q n0 n1)
  rw [hs1] at hR1
  refine lv_istore_n (lv' := [(3, .int (oI (q1))), (0, .ref (ad (65))), (1, .ref (ad (68))), (2, .int (oI (on)))]) hx hb dX6_readMark_8 rfl hl (by decide) rfl (fun ls hl => ?_)
  refine lv_aload_n hx hb dX6_readMark_9 rfl (lv_at hl 1 rfl) ?_
  refine lv_iload_n hx hb dX6_readMark_10 rfl (lv_at hl 0 rfl) ?_
  refine m_bipush 10 hx hb dX6_readMark_11 (by decide) ?_
  refine m_iconst 0 hx hb dX6_readMark_13 rfl ?_
  refine m_bipush 40 hx hb dX6_readMark_14 (by decide) ?_
  by_cases hq10 : q1 = -1
  · refine m_pVi hx hb hml hown hts hK hH hl (rest := []) cw_X6_123 (c6_fig0 hA q1 10 0 40 si ac6 p1a ou6 rf (by first | assumption | omega) (by first | assumption | omega) (by first | assumption | omega) eM6) ⟨Nat.le_of_ble_eq_true rfl, Nat.le_of_ble_eq_true rfl⟩ ⟨Nat.le_of_ble_eq_true rfl, Nat.le_of_ble_eq_true rfl⟩ rfl (k := 65) (by omega) eM6 rfl rfl (Nat.le_of_ble_eq_true rfl) dX6_readMark_16 (fun H locs hH => ?_)
    refine lv_istore (lv' := [(4, .int (oI ((-1)))), (3, .int (oI (q1))), (0, .ref (ad (65))), (1, .ref (ad (68))), (2, .int (oI (on)))]) hx hb dX6_readMark_19 hl (by decide) rfl (fun ls hl => ?_)
    refine lv_iload hx hb dX6_readMark_21 (lv_at hl 0 rfl) ?_
    refine m_iconst (-1) hx hb dX6_readMark_23 rfl ?_
    refine m_icmp_eq 65 hx hb dX6_readMark_24 (by decide) (by omega) (by omega) (fun h_5 => ?_) (fun h_5 => absurd h_5 (by omega))
    refine m_iconst 0 hx hb dX6_readMark_65 rfl ?_
    exact m_iret hx hb hlk hrt hH m_z0 dX6_readMark_66 ⟨0, p1a, ou6, f, rfl, (Or.inl rfl), (Or.inr ⟨rfl, fo1, 2, v1, 0, p1a, by omega, oRc_m0 hT9 hR1 (by omega), by omega⟩), (by first | assumption | omega), (by first | assumption | omega), eM6, e68, hf⟩
  · refine m_callVi hx hb hml hown hts hK hH hl (rest := []) cw_X6_123 (c6_fig hA q1 2 10 0 40 si ac6 p1a ou6 rf T (by first | assumption | omega) (by first | assumption | omega) (by first | assumption | omega) (by first | assumption | omega) (by first | assumption | omega) (by first | assumption | omega) (by first | assumption | omega) (by first | assumption | omega) (by first | assumption | omega) eM6 e66) ⟨Nat.le_of_ble_eq_true rfl, Nat.le_of_ble_eq_true rfl⟩ ⟨Nat.le_of_ble_eq_true rfl, Nat.le_of_ble_eq_true rfl⟩ rfl (k := 65) (by omega) eM6 rfl rfl (Nat.le_of_ble_eq_true rfl) dX6_readMark_16 (fun r_9 σ_6 H locs hp_7 hH => ?_)
    obtain ⟨v2, p2a, fo2, q2, rfl, hR2, hp2, hf2, hv2, hq2, eM6, hq_8⟩ := hp_7
    have e66 : σ_6 (66) = oAI cT 120 T := (hq_8 _ (by decide)).trans e66
    have e68 : σ_6 (68) = oAI cT 171 f := (hq_8 _ (by decide)).trans e68
    have hf : ∀ q : Nat, q ≠ 65 → q ≠ 68 → σ_6 q = σ q := fun q n0 n1 => (hq_8 q n0).trans (hf q n0 n1)
    refine lv_istore (lv' := [(4, .int (oI (q2))), (3, .int (oI (q1))), (0, .ref (ad (65))), (1, .ref (ad (68))), (2, .int (oI (on)))]) hx hb dX6_readMark_19 hl (by decide) rfl (fun ls hl => ?_)
    refine lv_iload hx hb dX6_readMark_21 (lv_at hl 0 rfl) ?_
    refine m_iconst (-1) hx hb dX6_readMark_23 rfl ?_
    refine m_icmp_eq 65 hx hb dX6_readMark_24 (by decide) (by omega) (by omega) (fun h_10 => ?_) (fun h_10 => ?_)
    · refine m_iconst 0 hx hb dX6_readMark_65 rfl ?_
      exact m_iret hx hb hlk hrt hH m_z0 dX6_readMark_66 ⟨0, p2a, ou6, f, rfl, (Or.inl rfl), (Or.inr ⟨rfl, fo2, 2, v1, v2, p2a, by omega, oRc_m1 hT9 hR1 (by omega) hR2, by omega⟩), (by first | assumption | omega), (by first | assumption | omega), eM6, e68, hf⟩
    · have eq1 : q1 = ((v1 : Nat) : Int) := by omega
      have eq2 : q2 = ((v2 : Nat) : Int) := by omega
      have hc9 : oRc T si p1 (-1) p2a 2 v1 v2 := by have h8 := oRc_m1 hT9 hR1 (by omega) hR2; rw [show fo2 = -1 by omega] at h8; exact h8
      refine lv_aload_n hx hb dX6_readMark_27 rfl (lv_at hl 2 rfl) ?_
      refine lv_aload_n hx hb dX6_readMark_28 rfl (lv_at hl 3 rfl) ?_
      refine lv_iload_n hx hb dX6_readMark_29 rfl (lv_at hl 1 rfl) ?_
      refine m_topI (((v1 : Nat) : Int)) (eq1) ?_
      refine lv_iload hx hb dX6_readMark_30 (lv_at hl 0 rfl) ?_
      refine m_topI (((v2 : Nat) : Int)) (eq2) ?_
      refine lv_iload_n hx hb dX6_readMark_32 rfl (lv_at hl 4 rfl) ?_
      refine m_pSb hx hb hml hown hts hK hH hl (rest := [.ref (ad (65))]) cw_X6_127 rfl (c6_canMark hA 68 n a g f sz w ((v1 : Nat) : Int) ((v2 : Nat) : Int) on (by first | assumption | omega) (by first | assumption | omega) (by first | assumption | omega) (by first | assumption | omega) (by first | assumption | omega) (by first | assumption | omega) e68) ⟨Nat.le_of_ble_eq_true rfl, Nat.le_of_ble_eq_true rfl⟩ ⟨Nat.le_of_ble_eq_true rfl, Nat.le_of_ble_eq_true rfl⟩ rfl rfl (Nat.le_of_ble_eq_true rfl) dX6_readMark_33 (fun hC H locs hH => ?_) (fun hC H locs hH => ?_)
      · refine m_if_eq 54 hx hb dX6_readMark_36 (by decide) (by omega) (fun h_11 => absurd h_11 (by omega)) (fun h_11 => ?_)
        refine lv_aload_n hx hb dX6_readMark_39 rfl (lv_at hl 3 rfl) ?_
        refine lv_iload_n hx hb dX6_readMark_40 rfl (lv_at hl 1 rfl) ?_
        refine m_topI (((v1 : Nat) : Int)) (eq1) ?_
        refine lv_iload hx hb dX6_readMark_41 (lv_at hl 0 rfl) ?_
        refine m_topI (((v2 : Nat) : Int)) (eq2) ?_
        refine lv_iload_n hx hb dX6_readMark_43 rfl (lv_at hl 4 rfl) ?_
        have eS : oSize n sz ((v1 : Nat) : Int) = sz v1 := oSize_in hC.1.1
        refine m_callSi hx hb hml hown hts hK hH hl (rest := [.ref (ad (65))]) cw_X6_131 rfl (c6_markOn hA 68 n a g f sz w v1 v2 on (by first | assumption | omega) (by first | assumption | omega) (by first | assumption | omega) (by first | assumption | omega) (by first | assumption | omega) (by first | assumption | omega) (by first | assumption | omega) e68) ⟨Nat.le_of_ble_eq_true rfl, Nat.le_of_ble_eq_true rfl⟩ ⟨Nat.le_of_ble_eq_true rfl, Nat.le_of_ble_eq_true rfl⟩ rfl rfl (Nat.le_of_ble_eq_true rfl) dX6_readMark_44 (fun r_15 σ_12 H locs hp_13 hH => ?_)
        obtain ⟨f5, rfl, hp5, hwf5, e68, hq_14⟩ := hp_13
        have eM6 : σ_12 (65) = .inr (6, [.int (oI (rf)), .ref (ad (66)), .int (oI (((si : Nat) : Int))), .ref (ad (67)), .ref (ad (68)), .ref (ad (69)), .int (oI (((ac6 : Nat) : Int))), .ref (ad (70)), .ref (ad (71)), .ref (ad (72)), .ref (ad (73)), .ref (ad (74)), .int (oI (((p2a : Nat) : Int))), .int (oI (((ou6 : Nat) : Int)))]) := (hq_14 _ (by decide)).trans eM6
        have e66 : σ_12 (66) = oAI cT 120 T := (hq_14 _ (by decide)).trans e66
        have hf : ∀ q : Nat, q ≠ 65 → q ≠ 68 → σ_12 q = σ q := fun q n0 n1 => (hq_14 q n1).trans (hf q n0 n1)
        have hpos : 1 ≤ pcnt (oDoW (w v1) ((v2 : Nat) : Int) on) := by have h8 := (hwf5.2 v1 (by omega)).2.2.2.1; rw [va_up_s] at h8; exact oPc1 h8
        have hple := pcnt_le (oDoW (w v1) ((v2 : Nat) : Int) on)
        refine m_if_le 54 hx hb dX6_readMark_47 (by decide) (by omega) (fun h_16 => absurd h_16 (by omega)) (fun h_16 => ?_)
        refine m_iconst 1 hx hb dX6_readMark_50 rfl ?_
        refine lv_goto (tgt := 55) hx hb dX6_readMark_51 (by decide) ?_
        refine m_callVi hx hb hml hown hts hK hH hl (rest := []) cw_X6_135 (c6_done1 hA si ac6 p2a ou6 rf (by first | assumption | omega) (by first | assumption | omega) eM6) ⟨Nat.le_of_ble_eq_true rfl, Nat.le_of_ble_eq_true rfl⟩ ⟨Nat.le_of_ble_eq_true rfl, Nat.le_of_ble_eq_true rfl⟩ rfl (k := 65) (by omega) eM6 rfl rfl (Nat.le_of_ble_eq_true rfl) dX6_readMark_55 (fun r_20 σ_17 H locs hp_18 hH => ?_)
        obtain ⟨rfl, eM6, hq_19⟩ := hp_18
        have e66 : σ_17 (66) = oAI cT 120 T := (hq_19 _ (by decide)).trans e66
        have e68 : σ_17 (68) = oAI cT 171 f5 := (hq_19 _ (by decide)).trans e68
        have hf : ∀ q : Nat, q ≠ 65 → q ≠ 68 → σ_17 q = σ q := fun q n0 n1 => (hq_19 q n0).trans (hf q n0 n1)
        refine m_if_eq 65 hx hb dX6_readMark_58 (by decide) (by omega) (fun h_21 => absurd h_21 (by omega)) (fun h_21 => ?_)
        refine m_iconst 1 hx hb dX6_readMark_61 rfl ?_
        refine lv_goto (tgt := 66) hx hb dX6_readMark_62 (by decide) ?_
        exact m_iret hx hb hlk hrt hH m_z1 dX6_readMark_66 ⟨1, p2a, ou6, f5, rfl, (Or.inr rfl), (Or.inl ⟨rfl, 2, v1, v2, on, 1, _, _, _, _, _, hc9, hon, oAt2_ok hC, hp5, hwf5, hag, (if_neg (by decide)).symm⟩), (by first | assumption | omega), (by first | assumption | omega), eM6, e68, hf⟩
      · refine m_if_eq 54 hx hb dX6_readMark_36 (by decide) (by omega) (fun h_22 => ?_) (fun h_22 => absurd h_22 (by omega))
        refine m_iconst 0 hx hb dX6_readMark_54 rfl ?_
        refine m_callVi hx hb hml hown hts hK hH hl (rest := []) cw_X6_135 (c6_done0 hA si ac6 p2a ou6 rf (by first | assumption | omega) (by first | assumption | omega) eM6) ⟨Nat.le_of_ble_eq_true rfl, Nat.le_of_ble_eq_true rfl⟩ ⟨Nat.le_of_ble_eq_true rfl, Nat.le_of_ble_eq_true rfl⟩ rfl (k := 65) (by omega) eM6 rfl rfl (Nat.le_of_ble_eq_true rfl) dX6_readMark_55 (fun r_26 σ_23 H locs hp_24 hH => ?_)
        obtain ⟨rfl, eM6, hq_25⟩ := hp_24
        have e66 : σ_23 (66) = oAI cT 120 T := (hq_25 _ (by decide)).trans e66
        have e68 : σ_23 (68) = oAI cT 171 f := (hq_25 _ (by decide)).trans e68
        have hf : ∀ q : Nat, q ≠ 65 → q ≠ 68 → σ_23 q = σ q := fun q n0 n1 => (hq_25 q n0).trans (hf q n0 n1)
        refine m_if_eq 65 hx hb dX6_readMark_58 (by decide) (by omega) (fun h_27 => absurd h_27 (by omega)) (fun h_27 => ?_)
        refine m_iconst 1 hx hb dX6_readMark_61 rfl ?_
        refine lv_goto (tgt := 66) hx hb dX6_readMark_62 (by decide) ?_
        exact m_iret hx hb hlk hrt hH m_z1 dX6_readMark_66 ⟨1, p2a, (ou6 + 1), f, rfl, (Or.inr rfl), (Or.inl ⟨rfl, 2, v1, v2, on, 0, _, _, _, _, _, hc9, hon, oAt2_no (by omega) hC, hp, hwf, hag, (if_pos rfl).symm⟩), (by first | assumption | omega), (by first | assumption | omega), eM6, e68, hf⟩
set_option maxHeartbeats 4000000 in
set_option maxRecDepth 100000 in
theorem c6_readCommand {l : Launch} {D : va_G} {cT : Nat → ClassId} {N b0 : Nat} {ad : Nat → Nat} (hA : oAd b0 N ad) {σ : Nat → va_E} (si ac6 spo ou6 : Nat) (rf : Int) (T : Nat → Int) (n a g : Nat) (f : Nat → Int) (sz w : Nat → Nat) (hN : 76 ≤ N) (hT : ∀ i : Nat, i < si → 0 ≤ T i ∧ T i ≤ 255) (hsi : si ≤ 120) (hwf : oWf n sz w) (hag : oAg a g) (hp : oRS f n a g sz w) (hou : ou6 ≤ 900) (hsp : spo < si) (eM6 : σ (65) = .inr (6, [.int (oI (rf)), .ref (ad (66)), .int (oI (((si : Nat) : Int))), .ref (ad (67)), .ref (ad (68)), .ref (ad (69)), .int (oI (((ac6 : Nat) : Int))), .ref (ad (70)), .ref (ad (71)), .ref (ad (72)), .ref (ad (73)), .ref (ad (74)), .int (oI (((spo : Nat) : Int))), .int (oI (((ou6 : Nat) : Int)))])) (e66 : σ (66) = oAI cT 120 T) (e68 : σ (68) = oAI cT 171 f) :
    oCi l D cT N ad b0 yX6_readCommand cX6_readCommand 5 (some .boolean) 5 115 [.ref (ad (65)), .ref (ad (68))] σ (fun rr uu => ∃ b9 : Int, ∃ p2 : Nat, ∃ ou2 : Nat, ∃ g2 : Nat → Int, rr = oI (b9) ∧ (b9 = 0 ∨ b9 = 1) ∧ (oRdC T si spo ou6 n a g sz w b9 p2 ou2 g2) ∧ (p2 ≤ 150) ∧ (ou2 ≤ ou6 + 1) ∧ uu (65) = .inr (6, [.int (oI (rf)), .ref (ad (66)), .int (oI (((si : Nat) : Int))), .ref (ad (67)), .ref (ad (68)), .ref (ad (69)), .int (oI (((ac6 : Nat) : Int))), .ref (ad (70)), .ref (ad (71)), .ref (ad (72)), .ref (ad (73)), .ref (ad (74)), .int (oI (((p2 : Nat) : Int))), .int (oI (((ou2 : Nat) : Int)))]) ∧ uu (68) = oAI cT 171 g2 ∧ (∀ q : Nat, q ≠ 65 → q ≠ 68 → uu q = σ q)) := by
  refine m_start (cc := cX6_readCommand) (by decide) (Nat.le_of_ble_eq_true rfl) rfl ?_
  intro Pp Ee Ss Mm Bb Me Cc Ar ls hx hb hml hown hlk hrt hts hK hH hl
  have hown : Ss.vm.findClass RX6 = some Mm.cls := hown
  have hT0 := hT spo hsp
  have hn := hwf.1
  have hl : lv_has ls 5 [(0, .ref (ad (65))), (1, .ref (ad (68)))] := hl
  have hf : ∀ q : Nat, q ≠ 65 → q ≠ 68 → σ q = σ q := fun q _ _ => rfl
  refine lv_aload_n hx hb dX6_readCommand_0 rfl (lv_at hl 0 rfl) ?_
  refine gf_X6_text hx hb hts hown hK hH (k := 65) (by omega) eM6 dX6_readCommand_1 ?_
  refine lv_aload_n hx hb dX6_readCommand_4 rfl (lv_at hl 0 rfl) ?_
  refine gf_X6_spot hx hb hts hown hK hH (k := 65) (by omega) eM6 dX6_readCommand_5 ?_
  refine m_iald hx hb hK hH (k := 66) (by omega) e66 (spo) (by omega) (by omega) (by decide) dX6_readCommand_8 ?_
  refine lv_istore_n (lv' := [(2, .int (oI ((T spo)))), (0, .ref (ad (65))), (1, .ref (ad (68)))]) hx hb dX6_readCommand_9 rfl hl (by decide) rfl (fun ls hl => ?_)
  refine lv_aload_n hx hb dX6_readCommand_10 rfl (lv_at hl 1 rfl) ?_
  refine lv_dup hx hb dX6_readCommand_11 rfl ?_
  refine gf_X6_spot hx hb hts hown hK hH (k := 65) (by omega) eM6 dX6_readCommand_12 ?_
  refine m_iconst 1 hx hb dX6_readCommand_15 rfl ?_
  refine m_iadd (((spo : Nat) : Int) + 1) hx hb dX6_readCommand_16 (by omega) ?_
  refine pf_X6_spot hx hb hts hown hK hH hA (k := 65) (by omega) eM6 dX6_readCommand_17 (fun H locs σ_1 eM6 hq_2 hH => ?_)
  have e66 : σ_1 (66) = oAI cT 120 T := (hq_2 _ (by decide)).trans e66
  have e68 : σ_1 (68) = oAI cT 171 f := (hq_2 _ (by decide)).trans e68
  have hf : ∀ q : Nat, q ≠ 65 → q ≠ 68 → σ_1 q = σ q := fun q n0 n1 => (hq_2 q n0).trans (hf q n0 n1)
  refine lv_iload_n hx hb dX6_readCommand_20 rfl (lv_at hl 0 rfl) ?_
  rcases (show ((T spo) : Int) = 99 ∨ ((T spo) : Int) = 100 ∨ ((T spo) : Int) = 101 ∨ ((T spo) : Int) = 102 ∨ ((T spo) : Int) = 103 ∨ ((T spo) : Int) = 104 ∨ ((T spo) : Int) = 105 ∨ ((T spo) : Int) = 106 ∨ ((T spo) : Int) = 107 ∨ ((T spo) : Int) = 108 ∨ ((T spo) : Int) = 109 ∨ ((T spo) : Int) = 110 ∨ ((T spo) : Int) = 111 ∨ ((T spo) : Int) = 112 ∨ ((T spo) : Int) = 113 ∨ ((T spo) : Int) = 114 ∨ ((T spo) : Int) = 115 ∨ ((T spo) : Int) = 116 ∨ ((T spo) : Int) = 117 ∨ ((T spo) : Int) = 118 ∨ ((T spo) : Int) = 119 ∨ ((T spo) : Int) = 120 ∨ (((T spo) : Int) < 99 ∨ 120 < ((T spo) : Int)) by omega) with hch | hch | hch | hch | hch | hch | hch | hch | hch | hch | hch | hch | hch | hch | hch | hch | hch | hch | hch | hch | hch | hch | hch
  · refine m_tabIn 190 hx hb dX6_readCommand_21 (by omega) (by omega) (by rw [hch]; rfl) (by decide) ?_
    refine lv_aload_n hx hb dX6_readCommand_190 rfl (lv_at hl 1 rfl) ?_
    refine m_iconst 0 hx hb dX6_readCommand_191 rfl ?_
    refine m_iconst 1 hx hb dX6_readCommand_192 rfl ?_
    refine m_iconst 0 hx hb dX6_readCommand_193 rfl ?_
    refine m_iconst 3 hx hb dX6_readCommand_194 rfl ?_
    refine m_callVi hx hb hml hown hts hK hH hl (rest := []) cw_X6_123 (c6_fig hA 0 1 1 0 3 si ac6 (spo + 1) ou6 rf T (by first | assumption | omega) (by first | assumption | omega) (by first | assumption | omega) (by first | assumption | omega) (by first | assumption | omega) (by first | assumption | omega) (by first | assumption | omega) (by first | assumption | omega) (by first | assumption | omega) eM6 e66) ⟨Nat.le_of_ble_eq_true rfl, Nat.le_of_ble_eq_true rfl⟩ ⟨Nat.le_of_ble_eq_true rfl, Nat.le_of_ble_eq_true rfl⟩ rfl (k := 65) (by omega) eM6 rfl rfl (Nat.le_of_ble_eq_true rfl) dX6_readCommand_195 (fun r_6 σ_3 H locs hp_4 hH => ?_)
    obtain ⟨v1, p1a, fo1, q1, rfl, hR1, hp1, hf1, hv1, hq1, eM6, hq_5⟩ := hp_4
    have e66 : σ_3 (66) = oAI cT 120 T := (hq_5 _ (by decide)).trans e66
    have e68 : σ_3 (68) = oAI cT 171 f := (hq_5 _ (by decide)).trans e68
    have hf : ∀ q : Nat, q ≠ 65 → q ≠ 68 → σ_3 q = σ q := fun q n0 n1 => (hq_5 q n0).trans (hf q n0 n1)
    refine lv_istore_n (lv' := [(3, .int (oI (q1))), (2, .int (oI ((T spo)))), (0, .ref (ad (65))), (1, .ref (ad (68)))]) hx hb dX6_readCommand_198 rfl hl (by decide) rfl (fun ls hl => ?_)
    refine lv_aload_n hx hb dX6_readCommand_199 rfl (lv_at hl 2 rfl) ?_
    refine lv_iload_n hx hb dX6_readCommand_200 rfl (lv_at hl 0 rfl) ?_
    refine m_bipush 10 hx hb dX6_readCommand_201 (by decide) ?_
    refine m_iconst 2 hx hb dX6_readCommand_203 rfl ?_
    refine m_bipush 40 hx hb dX6_readCommand_204 (by decide) ?_
    by_cases hq10 : q1 = -1
    · refine m_pVi hx hb hml hown hts hK hH hl (rest := []) cw_X6_123 (c6_fig0 hA q1 10 2 40 si ac6 p1a ou6 rf (by first | assumption | omega) (by first | assumption | omega) (by first | assumption | omega) eM6) ⟨Nat.le_of_ble_eq_true rfl, Nat.le_of_ble_eq_true rfl⟩ ⟨Nat.le_of_ble_eq_true rfl, Nat.le_of_ble_eq_true rfl⟩ rfl (k := 65) (by omega) eM6 rfl rfl (Nat.le_of_ble_eq_true rfl) dX6_readCommand_206 (fun H locs hH => ?_)
      refine lv_istore (lv' := [(4, .int (oI ((-1)))), (3, .int (oI (q1))), (2, .int (oI ((T spo)))), (0, .ref (ad (65))), (1, .ref (ad (68)))]) hx hb dX6_readCommand_209 hl (by decide) rfl (fun ls hl => ?_)
      refine lv_iload hx hb dX6_readCommand_211 (lv_at hl 0 rfl) ?_
      refine m_iconst (-1) hx hb dX6_readCommand_213 rfl ?_
      refine m_icmp_eq 261 hx hb dX6_readCommand_214 (by decide) (by omega) (by omega) (fun h_7 => ?_) (fun h_7 => absurd h_7 (by omega))
      refine m_iconst 0 hx hb dX6_readCommand_261 rfl ?_
      exact m_iret hx hb hlk hrt hH m_z0 dX6_readCommand_262 ⟨0, p1a, ou6, f, rfl, (Or.inl rfl), (Or.inr ⟨rfl, fo1, 3, v1, 0, p1a, by omega, oRc_c0 hch hR1 (by omega), by omega⟩), (by first | assumption | omega), (by first | assumption | omega), eM6, e68, hf⟩
    · refine m_callVi hx hb hml hown hts hK hH hl (rest := []) cw_X6_123 (c6_fig hA q1 2 10 2 40 si ac6 p1a ou6 rf T (by first | assumption | omega) (by first | assumption | omega) (by first | assumption | omega) (by first | assumption | omega) (by first | assumption | omega) (by first | assumption | omega) (by first | assumption | omega) (by first | assumption | omega) (by first | assumption | omega) eM6 e66) ⟨Nat.le_of_ble_eq_true rfl, Nat.le_of_ble_eq_true rfl⟩ ⟨Nat.le_of_ble_eq_true rfl, Nat.le_of_ble_eq_true rfl⟩ rfl (k := 65) (by omega) eM6 rfl rfl (Nat.le_of_ble_eq_true rfl) dX6_readCommand_206 (fun r_11 σ_8 H locs hp_9 hH => ?_)
      obtain ⟨v2, p2a, fo2, q2, rfl, hR2, hp2, hf2, hv2, hq2, eM6, hq_10⟩ := hp_9
      have e66 : σ_8 (66) = oAI cT 120 T := (hq_10 _ (by decide)).trans e66
      have e68 : σ_8 (68) = oAI cT 171 f := (hq_10 _ (by decide)).trans e68
      have hf : ∀ q : Nat, q ≠ 65 → q ≠ 68 → σ_8 q = σ q := fun q n0 n1 => (hq_10 q n0).trans (hf q n0 n1)
      refine lv_istore (lv' := [(4, .int (oI (q2))), (3, .int (oI (q1))), (2, .int (oI ((T spo)))), (0, .ref (ad (65))), (1, .ref (ad (68)))]) hx hb dX6_readCommand_209 hl (by decide) rfl (fun ls hl => ?_)
      refine lv_iload hx hb dX6_readCommand_211 (lv_at hl 0 rfl) ?_
      refine m_iconst (-1) hx hb dX6_readCommand_213 rfl ?_
      refine m_icmp_eq 261 hx hb dX6_readCommand_214 (by decide) (by omega) (by omega) (fun h_12 => ?_) (fun h_12 => ?_)
      · refine m_iconst 0 hx hb dX6_readCommand_261 rfl ?_
        exact m_iret hx hb hlk hrt hH m_z0 dX6_readCommand_262 ⟨0, p2a, ou6, f, rfl, (Or.inl rfl), (Or.inr ⟨rfl, fo2, 3, v1, v2, p2a, by omega, oRc_c1 hch hR1 (by omega) hR2, by omega⟩), (by first | assumption | omega), (by first | assumption | omega), eM6, e68, hf⟩
      · have eq1 : q1 = ((v1 : Nat) : Int) := by omega
        have eq2 : q2 = ((v2 : Nat) : Int) := by omega
        have hc9 : oRc T si spo (-1) p2a 3 v1 v2 := by have h8 := oRc_c1 hch hR1 (by omega) hR2; rw [show fo2 = -1 by omega] at h8; exact h8
        refine lv_aload_n hx hb dX6_readCommand_217 rfl (lv_at hl 3 rfl) ?_
        refine lv_aload_n hx hb dX6_readCommand_218 rfl (lv_at hl 4 rfl) ?_
        refine lv_iload_n hx hb dX6_readCommand_219 rfl (lv_at hl 1 rfl) ?_
        refine m_topI (((v1 : Nat) : Int)) (eq1) ?_
        refine m_pSb hx hb hml hown hts hK hH hl (rest := [.ref (ad (65))]) cw_X6_50 rfl (c6_isRuler hA 68 n a g f sz w ((v1 : Nat) : Int) (by first | assumption | omega) (by first | assumption | omega) (by first | assumption | omega) (by first | assumption | omega) e68) ⟨Nat.le_of_ble_eq_true rfl, Nat.le_of_ble_eq_true rfl⟩ ⟨Nat.le_of_ble_eq_true rfl, Nat.le_of_ble_eq_true rfl⟩ rfl rfl (Nat.le_of_ble_eq_true rfl) dX6_readCommand_220 (fun hR9 H locs hH => ?_) (fun hR9 H locs hH => ?_)
        · have eS : oSize n sz ((v1 : Nat) : Int) = sz v1 := oSize_in hR9
          have hs9 := hwf.2 v1 (by omega)
          refine m_if_eq 250 hx hb dX6_readCommand_223 (by decide) (by omega) (fun h_13 => absurd h_13 (by omega)) (fun h_13 => ?_)
          refine lv_iload hx hb dX6_readCommand_226 (lv_at hl 0 rfl) ?_
          refine m_topI (((v2 : Nat) : Int)) (eq2) ?_
          refine lv_aload_n hx hb dX6_readCommand_228 rfl (lv_at hl 4 rfl) ?_
          refine lv_iload_n hx hb dX6_readCommand_229 rfl (lv_at hl 1 rfl) ?_
          refine m_topI (((v1 : Nat) : Int)) (eq1) ?_
          refine m_pSi hx hb hml hown hts hK hH hl (rest := [.int (oI (((v2 : Nat) : Int))), .ref (ad (65))]) cw_X6_54 rfl (c6_length hA 68 n a g f sz w v1 (by first | assumption | omega) (by first | assumption | omega) (by first | assumption | omega) (by first | assumption | omega) e68) ⟨Nat.le_of_ble_eq_true rfl, Nat.le_of_ble_eq_true rfl⟩ ⟨Nat.le_of_ble_eq_true rfl, Nat.le_of_ble_eq_true rfl⟩ rfl rfl (Nat.le_of_ble_eq_true rfl) dX6_readCommand_230 (fun H locs hH => ?_)
          refine m_icmp_gt 250 hx hb dX6_readCommand_233 (by decide) (by omega) (by omega) (fun h_14 => ?_) (fun h_14 => ?_)
          · refine m_iconst 0 hx hb dX6_readCommand_250 rfl ?_
            refine m_callVi hx hb hml hown hts hK hH hl (rest := []) cw_X6_135 (c6_done0 hA si ac6 p2a ou6 rf (by first | assumption | omega) (by first | assumption | omega) eM6) ⟨Nat.le_of_ble_eq_true rfl, Nat.le_of_ble_eq_true rfl⟩ ⟨Nat.le_of_ble_eq_true rfl, Nat.le_of_ble_eq_true rfl⟩ rfl (k := 65) (by omega) eM6 rfl rfl (Nat.le_of_ble_eq_true rfl) dX6_readCommand_251 (fun r_18 σ_15 H locs hp_16 hH => ?_)
            obtain ⟨rfl, eM6, hq_17⟩ := hp_16
            have e66 : σ_15 (66) = oAI cT 120 T := (hq_17 _ (by decide)).trans e66
            have e68 : σ_15 (68) = oAI cT 171 f := (hq_17 _ (by decide)).trans e68
            have hf : ∀ q : Nat, q ≠ 65 → q ≠ 68 → σ_15 q = σ q := fun q n0 n1 => (hq_17 q n0).trans (hf q n0 n1)
            refine m_if_eq 261 hx hb dX6_readCommand_254 (by decide) (by omega) (fun h_19 => absurd h_19 (by omega)) (fun h_19 => ?_)
            refine m_iconst 1 hx hb dX6_readCommand_257 rfl ?_
            refine lv_goto (tgt := 262) hx hb dX6_readCommand_258 (by decide) ?_
            exact m_iret hx hb hlk hrt hH m_z1 dX6_readCommand_262 ⟨1, p2a, (ou6 + 1), f, rfl, (Or.inr rfl), (Or.inl ⟨rfl, 3, v1, v2, 0, 0, _, _, _, _, _, hc9, Or.inr ⟨rfl, by omega⟩, oAt3_no (by omega), hp, hwf, hag, (if_pos rfl).symm⟩), (by first | assumption | omega), (by first | assumption | omega), eM6, e68, hf⟩
          · refine lv_aload_n hx hb dX6_readCommand_236 rfl (lv_at hl 4 rfl) ?_
            refine lv_iload_n hx hb dX6_readCommand_237 rfl (lv_at hl 1 rfl) ?_
            refine m_topI (((v1 : Nat) : Int)) (eq1) ?_
            refine lv_iload hx hb dX6_readCommand_238 (lv_at hl 0 rfl) ?_
            refine m_topI (((v2 : Nat) : Int)) (eq2) ?_
            refine m_callSi hx hb hml hown hts hK hH hl (rest := [.ref (ad (65))]) cw_X6_146 rfl (c6_cutOn hA 68 n a g f sz w v1 v2 (by first | assumption | omega) (by first | assumption | omega) (by first | assumption | omega) (by first | assumption | omega) (by first | assumption | omega) e68) ⟨Nat.le_of_ble_eq_true rfl, Nat.le_of_ble_eq_true rfl⟩ ⟨Nat.le_of_ble_eq_true rfl, Nat.le_of_ble_eq_true rfl⟩ rfl rfl (Nat.le_of_ble_eq_true rfl) dX6_readCommand_240 (fun r_23 σ_20 H locs hp_21 hH => ?_)
            obtain ⟨f5, rfl, hp5, e68, hq_22⟩ := hp_21
            have eM6 : σ_20 (65) = .inr (6, [.int (oI (rf)), .ref (ad (66)), .int (oI (((si : Nat) : Int))), .ref (ad (67)), .ref (ad (68)), .ref (ad (69)), .int (oI (((ac6 : Nat) : Int))), .ref (ad (70)), .ref (ad (71)), .ref (ad (72)), .ref (ad (73)), .ref (ad (74)), .int (oI (((p2a : Nat) : Int))), .int (oI (((ou6 : Nat) : Int)))]) := (hq_22 _ (by decide)).trans eM6
            have e66 : σ_20 (66) = oAI cT 120 T := (hq_22 _ (by decide)).trans e66
            have hf : ∀ q : Nat, q ≠ 65 → q ≠ 68 → σ_20 q = σ q := fun q n0 n1 => (hq_22 q n1).trans (hf q n0 n1)
            have hwf5 := hwf.cut (r := v1) (x := v2) (by omega) (by omega) (by omega)
            have hpos : 1 ≤ pcnt (oCutW (w v1) v2) := by have h8 := (hwf5.2 v1 (by omega)).2.2.2.1; rw [va_up_s] at h8; exact oPc1 h8
            have hple := pcnt_le (oCutW (w v1) v2)
            refine m_if_le 250 hx hb dX6_readCommand_243 (by decide) (by omega) (fun h_24 => absurd h_24 (by omega)) (fun h_24 => ?_)
            refine m_iconst 1 hx hb dX6_readCommand_246 rfl ?_
            refine lv_goto (tgt := 251) hx hb dX6_readCommand_247 (by decide) ?_
            refine m_callVi hx hb hml hown hts hK hH hl (rest := []) cw_X6_135 (c6_done1 hA si ac6 p2a ou6 rf (by first | assumption | omega) (by first | assumption | omega) eM6) ⟨Nat.le_of_ble_eq_true rfl, Nat.le_of_ble_eq_true rfl⟩ ⟨Nat.le_of_ble_eq_true rfl, Nat.le_of_ble_eq_true rfl⟩ rfl (k := 65) (by omega) eM6 rfl rfl (Nat.le_of_ble_eq_true rfl) dX6_readCommand_251 (fun r_28 σ_25 H locs hp_26 hH => ?_)
            obtain ⟨rfl, eM6, hq_27⟩ := hp_26
            have e66 : σ_25 (66) = oAI cT 120 T := (hq_27 _ (by decide)).trans e66
            have e68 : σ_25 (68) = oAI cT 171 f5 := (hq_27 _ (by decide)).trans e68
            have hf : ∀ q : Nat, q ≠ 65 → q ≠ 68 → σ_25 q = σ q := fun q n0 n1 => (hq_27 q n0).trans (hf q n0 n1)
            refine m_if_eq 261 hx hb dX6_readCommand_254 (by decide) (by omega) (fun h_29 => absurd h_29 (by omega)) (fun h_29 => ?_)
            refine m_iconst 1 hx hb dX6_readCommand_257 rfl ?_
            refine lv_goto (tgt := 262) hx hb dX6_readCommand_258 (by decide) ?_
            exact m_iret hx hb hlk hrt hH m_z1 dX6_readCommand_262 ⟨1, p2a, ou6, f5, rfl, (Or.inr rfl), (Or.inl ⟨rfl, 3, v1, v2, 0, 1, _, _, _, _, _, hc9, Or.inr ⟨rfl, by omega⟩, oAt3_ok (by omega), hp5, hwf5, hag, (if_neg (by decide)).symm⟩), (by first | assumption | omega), (by first | assumption | omega), eM6, e68, hf⟩
        · refine m_if_eq 250 hx hb dX6_readCommand_223 (by decide) (by omega) (fun h_30 => ?_) (fun h_30 => absurd h_30 (by omega))
          refine m_iconst 0 hx hb dX6_readCommand_250 rfl ?_
          refine m_callVi hx hb hml hown hts hK hH hl (rest := []) cw_X6_135 (c6_done0 hA si ac6 p2a ou6 rf (by first | assumption | omega) (by first | assumption | omega) eM6) ⟨Nat.le_of_ble_eq_true rfl, Nat.le_of_ble_eq_true rfl⟩ ⟨Nat.le_of_ble_eq_true rfl, Nat.le_of_ble_eq_true rfl⟩ rfl (k := 65) (by omega) eM6 rfl rfl (Nat.le_of_ble_eq_true rfl) dX6_readCommand_251 (fun r_34 σ_31 H locs hp_32 hH => ?_)
          obtain ⟨rfl, eM6, hq_33⟩ := hp_32
          have e66 : σ_31 (66) = oAI cT 120 T := (hq_33 _ (by decide)).trans e66
          have e68 : σ_31 (68) = oAI cT 171 f := (hq_33 _ (by decide)).trans e68
          have hf : ∀ q : Nat, q ≠ 65 → q ≠ 68 → σ_31 q = σ q := fun q n0 n1 => (hq_33 q n0).trans (hf q n0 n1)
          refine m_if_eq 261 hx hb dX6_readCommand_254 (by decide) (by omega) (fun h_35 => absurd h_35 (by omega)) (fun h_35 => ?_)
          refine m_iconst 1 hx hb dX6_readCommand_257 rfl ?_
          refine lv_goto (tgt := 262) hx hb dX6_readCommand_258 (by decide) ?_
          exact m_iret hx hb hlk hrt hH m_z1 dX6_readCommand_262 ⟨1, p2a, (ou6 + 1), f, rfl, (Or.inr rfl), (Or.inl ⟨rfl, 3, v1, v2, 0, 0, _, _, _, _, _, hc9, Or.inr ⟨rfl, by omega⟩, oAt3_no (by omega), hp, hwf, hag, (if_pos rfl).symm⟩), (by first | assumption | omega), (by first | assumption | omega), eM6, e68, hf⟩
  · refine m_tabIn 398 hx hb dX6_readCommand_21 (by omega) (by omega) (by rw [hch]; rfl) (by decide) ?_
    refine lv_aload_n hx hb dX6_readCommand_398 rfl (lv_at hl 1 rfl) ?_
    refine lv_dup hx hb dX6_readCommand_399 rfl ?_
    refine gf_X6_spot hx hb hts hown hK hH (k := 65) (by omega) eM6 dX6_readCommand_400 ?_
    refine m_iconst 1 hx hb dX6_readCommand_403 rfl ?_
    refine m_isub (((spo : Nat) : Int)) hx hb dX6_readCommand_404 (by omega) ?_
    refine pf_X6_spot hx hb hts hown hK hH hA (k := 65) (by omega) eM6 dX6_readCommand_405 (fun H locs σ_36 eM6 hq_37 hH => ?_)
    have e66 : σ_36 (66) = oAI cT 120 T := (hq_37 _ (by decide)).trans e66
    have e68 : σ_36 (68) = oAI cT 171 f := (hq_37 _ (by decide)).trans e68
    have hf : ∀ q : Nat, q ≠ 65 → q ≠ 68 → σ_36 q = σ q := fun q n0 n1 => (hq_37 q n0).trans (hf q n0 n1)
    refine m_iconst 0 hx hb dX6_readCommand_408 rfl ?_
    exact m_iret hx hb hlk hrt hH m_z0 dX6_readCommand_409 ⟨0, spo, ou6, f, rfl, (Or.inl rfl), (Or.inr ⟨rfl, ((spo : Nat) : Int), 0, 0, 0, spo, by omega, oRc_d (by omega), by omega⟩), (by first | assumption | omega), (by first | assumption | omega), eM6, e68, hf⟩
  · refine m_tabIn 398 hx hb dX6_readCommand_21 (by omega) (by omega) (by rw [hch]; rfl) (by decide) ?_
    refine lv_aload_n hx hb dX6_readCommand_398 rfl (lv_at hl 1 rfl) ?_
    refine lv_dup hx hb dX6_readCommand_399 rfl ?_
    refine gf_X6_spot hx hb hts hown hK hH (k := 65) (by omega) eM6 dX6_readCommand_400 ?_
    refine m_iconst 1 hx hb dX6_readCommand_403 rfl ?_
    refine m_isub (((spo : Nat) : Int)) hx hb dX6_readCommand_404 (by omega) ?_
    refine pf_X6_spot hx hb hts hown hK hH hA (k := 65) (by omega) eM6 dX6_readCommand_405 (fun H locs σ_38 eM6 hq_39 hH => ?_)
    have e66 : σ_38 (66) = oAI cT 120 T := (hq_39 _ (by decide)).trans e66
    have e68 : σ_38 (68) = oAI cT 171 f := (hq_39 _ (by decide)).trans e68
    have hf : ∀ q : Nat, q ≠ 65 → q ≠ 68 → σ_38 q = σ q := fun q n0 n1 => (hq_39 q n0).trans (hf q n0 n1)
    refine m_iconst 0 hx hb dX6_readCommand_408 rfl ?_
    exact m_iret hx hb hlk hrt hH m_z0 dX6_readCommand_409 ⟨0, spo, ou6, f, rfl, (Or.inl rfl), (Or.inr ⟨rfl, ((spo : Nat) : Int), 0, 0, 0, spo, by omega, oRc_d (by omega), by omega⟩), (by first | assumption | omega), (by first | assumption | omega), eM6, e68, hf⟩
  · refine m_tabIn 398 hx hb dX6_readCommand_21 (by omega) (by omega) (by rw [hch]; rfl) (by decide) ?_
    refine lv_aload_n hx hb dX6_readCommand_398 rfl (lv_at hl 1 rfl) ?_
    refine lv_dup hx hb dX6_readCommand_399 rfl ?_
    refine gf_X6_spot hx hb hts hown hK hH (k := 65) (by omega) eM6 dX6_readCommand_400 ?_
    refine m_iconst 1 hx hb dX6_readCommand_403 rfl ?_
    refine m_isub (((spo : Nat) : Int)) hx hb dX6_readCommand_404 (by omega) ?_
    refine pf_X6_spot hx hb hts hown hK hH hA (k := 65) (by omega) eM6 dX6_readCommand_405 (fun H locs σ_40 eM6 hq_41 hH => ?_)
    have e66 : σ_40 (66) = oAI cT 120 T := (hq_41 _ (by decide)).trans e66
    have e68 : σ_40 (68) = oAI cT 171 f := (hq_41 _ (by decide)).trans e68
    have hf : ∀ q : Nat, q ≠ 65 → q ≠ 68 → σ_40 q = σ q := fun q n0 n1 => (hq_41 q n0).trans (hf q n0 n1)
    refine m_iconst 0 hx hb dX6_readCommand_408 rfl ?_
    exact m_iret hx hb hlk hrt hH m_z0 dX6_readCommand_409 ⟨0, spo, ou6, f, rfl, (Or.inl rfl), (Or.inr ⟨rfl, ((spo : Nat) : Int), 0, 0, 0, spo, by omega, oRc_d (by omega), by omega⟩), (by first | assumption | omega), (by first | assumption | omega), eM6, e68, hf⟩
  · refine m_tabIn 353 hx hb dX6_readCommand_21 (by omega) (by omega) (by rw [hch]; rfl) (by decide) ?_
    refine lv_aload_n hx hb dX6_readCommand_353 rfl (lv_at hl 1 rfl) ?_
    refine m_iconst 0 hx hb dX6_readCommand_354 rfl ?_
    refine m_bipush 100 hx hb dX6_readCommand_355 (by decide) ?_
    refine m_bipush 10 hx hb dX6_readCommand_357 (by decide) ?_
    refine m_sipush 150 hx hb dX6_readCommand_359 (by decide) ?_
    refine m_callVi hx hb hml hown hts hK hH hl (rest := []) cw_X6_123 (c6_fig hA 0 3 100 10 150 si ac6 (spo + 1) ou6 rf T (by first | assumption | omega) (by first | assumption | omega) (by first | assumption | omega) (by first | assumption | omega) (by first | assumption | omega) (by first | assumption | omega) (by first | assumption | omega) (by first | assumption | omega) (by first | assumption | omega) eM6 e66) ⟨Nat.le_of_ble_eq_true rfl, Nat.le_of_ble_eq_true rfl⟩ ⟨Nat.le_of_ble_eq_true rfl, Nat.le_of_ble_eq_true rfl⟩ rfl (k := 65) (by omega) eM6 rfl rfl (Nat.le_of_ble_eq_true rfl) dX6_readCommand_362 (fun r_45 σ_42 H locs hp_43 hH => ?_)
    obtain ⟨v1, p1a, fo1, q1, rfl, hR1, hp1, hf1, hv1, hq1, eM6, hq_44⟩ := hp_43
    have e66 : σ_42 (66) = oAI cT 120 T := (hq_44 _ (by decide)).trans e66
    have e68 : σ_42 (68) = oAI cT 171 f := (hq_44 _ (by decide)).trans e68
    have hf : ∀ q : Nat, q ≠ 65 → q ≠ 68 → σ_42 q = σ q := fun q n0 n1 => (hq_44 q n0).trans (hf q n0 n1)
    refine lv_istore_n (lv' := [(3, .int (oI (q1))), (2, .int (oI ((T spo)))), (0, .ref (ad (65))), (1, .ref (ad (68)))]) hx hb dX6_readCommand_365 rfl hl (by decide) rfl (fun ls hl => ?_)
    refine lv_iload_n hx hb dX6_readCommand_366 rfl (lv_at hl 0 rfl) ?_
    refine m_iconst (-1) hx hb dX6_readCommand_367 rfl ?_
    refine m_icmp_eq 396 hx hb dX6_readCommand_368 (by decide) (by omega) (by omega) (fun h_46 => ?_) (fun h_46 => ?_)
    · refine m_iconst 0 hx hb dX6_readCommand_396 rfl ?_
      exact m_iret hx hb hlk hrt hH m_z0 dX6_readCommand_397 ⟨0, p1a, ou6, f, rfl, (Or.inl rfl), (Or.inr ⟨rfl, fo1, 5, 1, v1, p1a, by omega, oRc_g hch hR1, by omega⟩), (by first | assumption | omega), (by first | assumption | omega), eM6, e68, hf⟩
    · have eq1 : q1 = ((v1 : Nat) : Int) := by omega
      have hc9 : oRc T si spo (-1) p1a 5 1 v1 := by have h8 := oRc_g hch hR1; rw [show fo1 = -1 by omega] at h8; exact h8
      refine lv_aload_n hx hb dX6_readCommand_371 rfl (lv_at hl 2 rfl) ?_
      refine lv_aload_n hx hb dX6_readCommand_372 rfl (lv_at hl 3 rfl) ?_
      refine m_iconst 1 hx hb dX6_readCommand_373 rfl ?_
      refine lv_iload_n hx hb dX6_readCommand_374 rfl (lv_at hl 0 rfl) ?_
      refine m_topI (((v1 : Nat) : Int)) (eq1) ?_
      refine m_callSi hx hb hml hown hts hK hH hl (rest := [.ref (ad (65))]) cw_X6_153 rfl (c6_change1 hA 68 n a g f sz w v1 (by first | assumption | omega) (by first | assumption | omega) (by first | assumption | omega) (by first | assumption | omega) e68) ⟨Nat.le_of_ble_eq_true rfl, Nat.le_of_ble_eq_true rfl⟩ ⟨Nat.le_of_ble_eq_true rfl, Nat.le_of_ble_eq_true rfl⟩ rfl rfl (Nat.le_of_ble_eq_true rfl) dX6_readCommand_375 (fun r_50 σ_47 H locs hp_48 hH => ?_)
      obtain ⟨f5, rfl, hp5, e68, hq_49⟩ := hp_48
      have eM6 : σ_47 (65) = .inr (6, [.int (oI (rf)), .ref (ad (66)), .int (oI (((si : Nat) : Int))), .ref (ad (67)), .ref (ad (68)), .ref (ad (69)), .int (oI (((ac6 : Nat) : Int))), .ref (ad (70)), .ref (ad (71)), .ref (ad (72)), .ref (ad (73)), .ref (ad (74)), .int (oI (((p1a : Nat) : Int))), .int (oI (((ou6 : Nat) : Int)))]) := (hq_49 _ (by decide)).trans eM6
      have e66 : σ_47 (66) = oAI cT 120 T := (hq_49 _ (by decide)).trans e66
      have hf : ∀ q : Nat, q ≠ 65 → q ≠ 68 → σ_47 q = σ q := fun q n0 n1 => (hq_49 q n1).trans (hf q n0 n1)
      have hag1 := hag.2
      refine m_if_le 385 hx hb dX6_readCommand_378 (by decide) (by omega) (fun h_51 => absurd h_51 (by omega)) (fun h_51 => ?_)
      refine m_iconst 1 hx hb dX6_readCommand_381 rfl ?_
      refine lv_goto (tgt := 386) hx hb dX6_readCommand_382 (by decide) ?_
      refine m_callVi hx hb hml hown hts hK hH hl (rest := []) cw_X6_135 (c6_done1 hA si ac6 p1a ou6 rf (by first | assumption | omega) (by first | assumption | omega) eM6) ⟨Nat.le_of_ble_eq_true rfl, Nat.le_of_ble_eq_true rfl⟩ ⟨Nat.le_of_ble_eq_true rfl, Nat.le_of_ble_eq_true rfl⟩ rfl (k := 65) (by omega) eM6 rfl rfl (Nat.le_of_ble_eq_true rfl) dX6_readCommand_386 (fun r_55 σ_52 H locs hp_53 hH => ?_)
      obtain ⟨rfl, eM6, hq_54⟩ := hp_53
      have e66 : σ_52 (66) = oAI cT 120 T := (hq_54 _ (by decide)).trans e66
      have e68 : σ_52 (68) = oAI cT 171 f5 := (hq_54 _ (by decide)).trans e68
      have hf : ∀ q : Nat, q ≠ 65 → q ≠ 68 → σ_52 q = σ q := fun q n0 n1 => (hq_54 q n0).trans (hf q n0 n1)
      refine m_if_eq 396 hx hb dX6_readCommand_389 (by decide) (by omega) (fun h_56 => absurd h_56 (by omega)) (fun h_56 => ?_)
      refine m_iconst 1 hx hb dX6_readCommand_392 rfl ?_
      refine lv_goto (tgt := 397) hx hb dX6_readCommand_393 (by decide) ?_
      exact m_iret hx hb hlk hrt hH m_z1 dX6_readCommand_397 ⟨1, p1a, ou6, f5, rfl, (Or.inr rfl), (Or.inl ⟨rfl, 5, 1, v1, 0, 1, _, _, _, _, _, hc9, Or.inr ⟨rfl, by omega⟩, oAt51 (by omega), hp5, hwf, ⟨hag.1, by omega⟩, (if_neg (by decide)).symm⟩), (by first | assumption | omega), (by first | assumption | omega), eM6, e68, hf⟩
  · refine m_tabIn 398 hx hb dX6_readCommand_21 (by omega) (by omega) (by rw [hch]; rfl) (by decide) ?_
    refine lv_aload_n hx hb dX6_readCommand_398 rfl (lv_at hl 1 rfl) ?_
    refine lv_dup hx hb dX6_readCommand_399 rfl ?_
    refine gf_X6_spot hx hb hts hown hK hH (k := 65) (by omega) eM6 dX6_readCommand_400 ?_
    refine m_iconst 1 hx hb dX6_readCommand_403 rfl ?_
    refine m_isub (((spo : Nat) : Int)) hx hb dX6_readCommand_404 (by omega) ?_
    refine pf_X6_spot hx hb hts hown hK hH hA (k := 65) (by omega) eM6 dX6_readCommand_405 (fun H locs σ_57 eM6 hq_58 hH => ?_)
    have e66 : σ_57 (66) = oAI cT 120 T := (hq_58 _ (by decide)).trans e66
    have e68 : σ_57 (68) = oAI cT 171 f := (hq_58 _ (by decide)).trans e68
    have hf : ∀ q : Nat, q ≠ 65 → q ≠ 68 → σ_57 q = σ q := fun q n0 n1 => (hq_58 q n0).trans (hf q n0 n1)
    refine m_iconst 0 hx hb dX6_readCommand_408 rfl ?_
    exact m_iret hx hb hlk hrt hH m_z0 dX6_readCommand_409 ⟨0, spo, ou6, f, rfl, (Or.inl rfl), (Or.inr ⟨rfl, ((spo : Nat) : Int), 0, 0, 0, spo, by omega, oRc_d (by omega), by omega⟩), (by first | assumption | omega), (by first | assumption | omega), eM6, e68, hf⟩
  · refine m_tabIn 398 hx hb dX6_readCommand_21 (by omega) (by omega) (by rw [hch]; rfl) (by decide) ?_
    refine lv_aload_n hx hb dX6_readCommand_398 rfl (lv_at hl 1 rfl) ?_
    refine lv_dup hx hb dX6_readCommand_399 rfl ?_
    refine gf_X6_spot hx hb hts hown hK hH (k := 65) (by omega) eM6 dX6_readCommand_400 ?_
    refine m_iconst 1 hx hb dX6_readCommand_403 rfl ?_
    refine m_isub (((spo : Nat) : Int)) hx hb dX6_readCommand_404 (by omega) ?_
    refine pf_X6_spot hx hb hts hown hK hH hA (k := 65) (by omega) eM6 dX6_readCommand_405 (fun H locs σ_59 eM6 hq_60 hH => ?_)
    have e66 : σ_59 (66) = oAI cT 120 T := (hq_60 _ (by decide)).trans e66
    have e68 : σ_59 (68) = oAI cT 171 f := (hq_60 _ (by decide)).trans e68
    have hf : ∀ q : Nat, q ≠ 65 → q ≠ 68 → σ_59 q = σ q := fun q n0 n1 => (hq_60 q n0).trans (hf q n0 n1)
    refine m_iconst 0 hx hb dX6_readCommand_408 rfl ?_
    exact m_iret hx hb hlk hrt hH m_z0 dX6_readCommand_409 ⟨0, spo, ou6, f, rfl, (Or.inl rfl), (Or.inr ⟨rfl, ((spo : Nat) : Int), 0, 0, 0, spo, by omega, oRc_d (by omega), by omega⟩), (by first | assumption | omega), (by first | assumption | omega), eM6, e68, hf⟩
  · refine m_tabIn 398 hx hb dX6_readCommand_21 (by omega) (by omega) (by rw [hch]; rfl) (by decide) ?_
    refine lv_aload_n hx hb dX6_readCommand_398 rfl (lv_at hl 1 rfl) ?_
    refine lv_dup hx hb dX6_readCommand_399 rfl ?_
    refine gf_X6_spot hx hb hts hown hK hH (k := 65) (by omega) eM6 dX6_readCommand_400 ?_
    refine m_iconst 1 hx hb dX6_readCommand_403 rfl ?_
    refine m_isub (((spo : Nat) : Int)) hx hb dX6_readCommand_404 (by omega) ?_
    refine pf_X6_spot hx hb hts hown hK hH hA (k := 65) (by omega) eM6 dX6_readCommand_405 (fun H locs σ_61 eM6 hq_62 hH => ?_)
    have e66 : σ_61 (66) = oAI cT 120 T := (hq_62 _ (by decide)).trans e66
    have e68 : σ_61 (68) = oAI cT 171 f := (hq_62 _ (by decide)).trans e68
    have hf : ∀ q : Nat, q ≠ 65 → q ≠ 68 → σ_61 q = σ q := fun q n0 n1 => (hq_62 q n0).trans (hf q n0 n1)
    refine m_iconst 0 hx hb dX6_readCommand_408 rfl ?_
    exact m_iret hx hb hlk hrt hH m_z0 dX6_readCommand_409 ⟨0, spo, ou6, f, rfl, (Or.inl rfl), (Or.inr ⟨rfl, ((spo : Nat) : Int), 0, 0, 0, spo, by omega, oRc_d (by omega), by omega⟩), (by first | assumption | omega), (by first | assumption | omega), eM6, e68, hf⟩
  · refine m_tabIn 398 hx hb dX6_readCommand_21 (by omega) (by omega) (by rw [hch]; rfl) (by decide) ?_
    refine lv_aload_n hx hb dX6_readCommand_398 rfl (lv_at hl 1 rfl) ?_
    refine lv_dup hx hb dX6_readCommand_399 rfl ?_
    refine gf_X6_spot hx hb hts hown hK hH (k := 65) (by omega) eM6 dX6_readCommand_400 ?_
    refine m_iconst 1 hx hb dX6_readCommand_403 rfl ?_
    refine m_isub (((spo : Nat) : Int)) hx hb dX6_readCommand_404 (by omega) ?_
    refine pf_X6_spot hx hb hts hown hK hH hA (k := 65) (by omega) eM6 dX6_readCommand_405 (fun H locs σ_63 eM6 hq_64 hH => ?_)
    have e66 : σ_63 (66) = oAI cT 120 T := (hq_64 _ (by decide)).trans e66
    have e68 : σ_63 (68) = oAI cT 171 f := (hq_64 _ (by decide)).trans e68
    have hf : ∀ q : Nat, q ≠ 65 → q ≠ 68 → σ_63 q = σ q := fun q n0 n1 => (hq_64 q n0).trans (hf q n0 n1)
    refine m_iconst 0 hx hb dX6_readCommand_408 rfl ?_
    exact m_iret hx hb hlk hrt hH m_z0 dX6_readCommand_409 ⟨0, spo, ou6, f, rfl, (Or.inl rfl), (Or.inr ⟨rfl, ((spo : Nat) : Int), 0, 0, 0, spo, by omega, oRc_d (by omega), by omega⟩), (by first | assumption | omega), (by first | assumption | omega), eM6, e68, hf⟩
  · refine m_tabIn 398 hx hb dX6_readCommand_21 (by omega) (by omega) (by rw [hch]; rfl) (by decide) ?_
    refine lv_aload_n hx hb dX6_readCommand_398 rfl (lv_at hl 1 rfl) ?_
    refine lv_dup hx hb dX6_readCommand_399 rfl ?_
    refine gf_X6_spot hx hb hts hown hK hH (k := 65) (by omega) eM6 dX6_readCommand_400 ?_
    refine m_iconst 1 hx hb dX6_readCommand_403 rfl ?_
    refine m_isub (((spo : Nat) : Int)) hx hb dX6_readCommand_404 (by omega) ?_
    refine pf_X6_spot hx hb hts hown hK hH hA (k := 65) (by omega) eM6 dX6_readCommand_405 (fun H locs σ_65 eM6 hq_66 hH => ?_)
    have e66 : σ_65 (66) = oAI cT 120 T := (hq_66 _ (by decide)).trans e66
    have e68 : σ_65 (68) = oAI cT 171 f := (hq_66 _ (by decide)).trans e68
    have hf : ∀ q : Nat, q ≠ 65 → q ≠ 68 → σ_65 q = σ q := fun q n0 n1 => (hq_66 q n0).trans (hf q n0 n1)
    refine m_iconst 0 hx hb dX6_readCommand_408 rfl ?_
    exact m_iret hx hb hlk hrt hH m_z0 dX6_readCommand_409 ⟨0, spo, ou6, f, rfl, (Or.inl rfl), (Or.inr ⟨rfl, ((spo : Nat) : Int), 0, 0, 0, spo, by omega, oRc_d (by omega), by omega⟩), (by first | assumption | omega), (by first | assumption | omega), eM6, e68, hf⟩
  · refine m_tabIn 173 hx hb dX6_readCommand_21 (by omega) (by omega) (by rw [hch]; rfl) (by decide) ?_
    refine lv_aload_n hx hb dX6_readCommand_173 rfl (lv_at hl 1 rfl) ?_
    refine lv_aload_n hx hb dX6_readCommand_174 rfl (lv_at hl 2 rfl) ?_
    refine lv_iload_n hx hb dX6_readCommand_175 rfl (lv_at hl 0 rfl) ?_
    refine m_bipush 109 hx hb dX6_readCommand_176 (by decide) ?_
    refine m_icmp_ne 185 hx hb dX6_readCommand_178 (by decide) (by omega) (by omega) (fun h_67 => absurd h_67 (by omega)) (fun h_67 => ?_)
    refine m_iconst 1 hx hb dX6_readCommand_181 rfl ?_
    refine lv_goto (tgt := 186) hx hb dX6_readCommand_182 (by decide) ?_
    refine m_callVi hx hb hml hown hts hK hH hl (rest := []) cw_X6_142 (c6_readMark hA 1 spo si ac6 (spo + 1) ou6 rf T n a g f sz w (by first | assumption | omega) (by first | assumption | omega) (by first | assumption | omega) (by first | assumption | omega) (by first | assumption | omega) (hp) (by first | assumption | omega) (by first | assumption | omega) (by first | assumption | omega) (by first | assumption | omega) (by first | assumption | omega) eM6 e66 e68) ⟨Nat.le_of_ble_eq_true rfl, Nat.le_of_ble_eq_true rfl⟩ ⟨Nat.le_of_ble_eq_true rfl, Nat.le_of_ble_eq_true rfl⟩ rfl (k := 65) (by omega) eM6 rfl rfl (Nat.le_of_ble_eq_true rfl) dX6_readCommand_186 (fun r_71 σ_68 H locs hp_69 hH => ?_)
    obtain ⟨b5, p5a, ou5, f5, rfl, hb5, hC5, f_72, f_73, eM6, e68, hq_70⟩ := hp_69
    have e66 : σ_68 (66) = oAI cT 120 T := (hq_70 _ (by decide) (by decide)).trans e66
    have hf : ∀ q : Nat, q ≠ 65 → q ≠ 68 → σ_68 q = σ q := fun q n0 n1 => (hq_70 q n0 n1).trans (hf q n0 n1)
    exact m_iret hx hb hlk hrt hH (m_zb (by omega)) dX6_readCommand_189 ⟨b5, p5a, ou5, f5, rfl, hb5, hC5, (by first | assumption | omega), (by first | assumption | omega), eM6, e68, hf⟩
  · refine m_tabIn 398 hx hb dX6_readCommand_21 (by omega) (by omega) (by rw [hch]; rfl) (by decide) ?_
    refine lv_aload_n hx hb dX6_readCommand_398 rfl (lv_at hl 1 rfl) ?_
    refine lv_dup hx hb dX6_readCommand_399 rfl ?_
    refine gf_X6_spot hx hb hts hown hK hH (k := 65) (by omega) eM6 dX6_readCommand_400 ?_
    refine m_iconst 1 hx hb dX6_readCommand_403 rfl ?_
    refine m_isub (((spo : Nat) : Int)) hx hb dX6_readCommand_404 (by omega) ?_
    refine pf_X6_spot hx hb hts hown hK hH hA (k := 65) (by omega) eM6 dX6_readCommand_405 (fun H locs σ_74 eM6 hq_75 hH => ?_)
    have e66 : σ_74 (66) = oAI cT 120 T := (hq_75 _ (by decide)).trans e66
    have e68 : σ_74 (68) = oAI cT 171 f := (hq_75 _ (by decide)).trans e68
    have hf : ∀ q : Nat, q ≠ 65 → q ≠ 68 → σ_74 q = σ q := fun q n0 n1 => (hq_75 q n0).trans (hf q n0 n1)
    refine m_iconst 0 hx hb dX6_readCommand_408 rfl ?_
    exact m_iret hx hb hlk hrt hH m_z0 dX6_readCommand_409 ⟨0, spo, ou6, f, rfl, (Or.inl rfl), (Or.inr ⟨rfl, ((spo : Nat) : Int), 0, 0, 0, spo, by omega, oRc_d (by omega), by omega⟩), (by first | assumption | omega), (by first | assumption | omega), eM6, e68, hf⟩
  · refine m_tabIn 398 hx hb dX6_readCommand_21 (by omega) (by omega) (by rw [hch]; rfl) (by decide) ?_
    refine lv_aload_n hx hb dX6_readCommand_398 rfl (lv_at hl 1 rfl) ?_
    refine lv_dup hx hb dX6_readCommand_399 rfl ?_
    refine gf_X6_spot hx hb hts hown hK hH (k := 65) (by omega) eM6 dX6_readCommand_400 ?_
    refine m_iconst 1 hx hb dX6_readCommand_403 rfl ?_
    refine m_isub (((spo : Nat) : Int)) hx hb dX6_readCommand_404 (by omega) ?_
    refine pf_X6_spot hx hb hts hown hK hH hA (k := 65) (by omega) eM6 dX6_readCommand_405 (fun H locs σ_76 eM6 hq_77 hH => ?_)
    have e66 : σ_76 (66) = oAI cT 120 T := (hq_77 _ (by decide)).trans e66
    have e68 : σ_76 (68) = oAI cT 171 f := (hq_77 _ (by decide)).trans e68
    have hf : ∀ q : Nat, q ≠ 65 → q ≠ 68 → σ_76 q = σ q := fun q n0 n1 => (hq_77 q n0).trans (hf q n0 n1)
    refine m_iconst 0 hx hb dX6_readCommand_408 rfl ?_
    exact m_iret hx hb hlk hrt hH m_z0 dX6_readCommand_409 ⟨0, spo, ou6, f, rfl, (Or.inl rfl), (Or.inr ⟨rfl, ((spo : Nat) : Int), 0, 0, 0, spo, by omega, oRc_d (by omega), by omega⟩), (by first | assumption | omega), (by first | assumption | omega), eM6, e68, hf⟩
  · refine m_tabIn 398 hx hb dX6_readCommand_21 (by omega) (by omega) (by rw [hch]; rfl) (by decide) ?_
    refine lv_aload_n hx hb dX6_readCommand_398 rfl (lv_at hl 1 rfl) ?_
    refine lv_dup hx hb dX6_readCommand_399 rfl ?_
    refine gf_X6_spot hx hb hts hown hK hH (k := 65) (by omega) eM6 dX6_readCommand_400 ?_
    refine m_iconst 1 hx hb dX6_readCommand_403 rfl ?_
    refine m_isub (((spo : Nat) : Int)) hx hb dX6_readCommand_404 (by omega) ?_
    refine pf_X6_spot hx hb hts hown hK hH hA (k := 65) (by omega) eM6 dX6_readCommand_405 (fun H locs σ_78 eM6 hq_79 hH => ?_)
    have e66 : σ_78 (66) = oAI cT 120 T := (hq_79 _ (by decide)).trans e66
    have e68 : σ_78 (68) = oAI cT 171 f := (hq_79 _ (by decide)).trans e68
    have hf : ∀ q : Nat, q ≠ 65 → q ≠ 68 → σ_78 q = σ q := fun q n0 n1 => (hq_79 q n0).trans (hf q n0 n1)
    refine m_iconst 0 hx hb dX6_readCommand_408 rfl ?_
    exact m_iret hx hb hlk hrt hH m_z0 dX6_readCommand_409 ⟨0, spo, ou6, f, rfl, (Or.inl rfl), (Or.inr ⟨rfl, ((spo : Nat) : Int), 0, 0, 0, spo, by omega, oRc_d (by omega), by omega⟩), (by first | assumption | omega), (by first | assumption | omega), eM6, e68, hf⟩
  · refine m_tabIn 398 hx hb dX6_readCommand_21 (by omega) (by omega) (by rw [hch]; rfl) (by decide) ?_
    refine lv_aload_n hx hb dX6_readCommand_398 rfl (lv_at hl 1 rfl) ?_
    refine lv_dup hx hb dX6_readCommand_399 rfl ?_
    refine gf_X6_spot hx hb hts hown hK hH (k := 65) (by omega) eM6 dX6_readCommand_400 ?_
    refine m_iconst 1 hx hb dX6_readCommand_403 rfl ?_
    refine m_isub (((spo : Nat) : Int)) hx hb dX6_readCommand_404 (by omega) ?_
    refine pf_X6_spot hx hb hts hown hK hH hA (k := 65) (by omega) eM6 dX6_readCommand_405 (fun H locs σ_80 eM6 hq_81 hH => ?_)
    have e66 : σ_80 (66) = oAI cT 120 T := (hq_81 _ (by decide)).trans e66
    have e68 : σ_80 (68) = oAI cT 171 f := (hq_81 _ (by decide)).trans e68
    have hf : ∀ q : Nat, q ≠ 65 → q ≠ 68 → σ_80 q = σ q := fun q n0 n1 => (hq_81 q n0).trans (hf q n0 n1)
    refine m_iconst 0 hx hb dX6_readCommand_408 rfl ?_
    exact m_iret hx hb hlk hrt hH m_z0 dX6_readCommand_409 ⟨0, spo, ou6, f, rfl, (Or.inl rfl), (Or.inr ⟨rfl, ((spo : Nat) : Int), 0, 0, 0, spo, by omega, oRc_d (by omega), by omega⟩), (by first | assumption | omega), (by first | assumption | omega), eM6, e68, hf⟩
  · refine m_tabIn 124 hx hb dX6_readCommand_21 (by omega) (by omega) (by rw [hch]; rfl) (by decide) ?_
    refine lv_aload_n hx hb dX6_readCommand_124 rfl (lv_at hl 1 rfl) ?_
    refine m_iconst 0 hx hb dX6_readCommand_125 rfl ?_
    refine m_bipush 10 hx hb dX6_readCommand_126 (by decide) ?_
    refine m_iconst 2 hx hb dX6_readCommand_128 rfl ?_
    refine m_bipush 40 hx hb dX6_readCommand_129 (by decide) ?_
    refine m_callVi hx hb hml hown hts hK hH hl (rest := []) cw_X6_123 (c6_fig hA 0 2 10 2 40 si ac6 (spo + 1) ou6 rf T (by first | assumption | omega) (by first | assumption | omega) (by first | assumption | omega) (by first | assumption | omega) (by first | assumption | omega) (by first | assumption | omega) (by first | assumption | omega) (by first | assumption | omega) (by first | assumption | omega) eM6 e66) ⟨Nat.le_of_ble_eq_true rfl, Nat.le_of_ble_eq_true rfl⟩ ⟨Nat.le_of_ble_eq_true rfl, Nat.le_of_ble_eq_true rfl⟩ rfl (k := 65) (by omega) eM6 rfl rfl (Nat.le_of_ble_eq_true rfl) dX6_readCommand_131 (fun r_85 σ_82 H locs hp_83 hH => ?_)
    obtain ⟨v1, p1a, fo1, q1, rfl, hR1, hp1, hf1, hv1, hq1, eM6, hq_84⟩ := hp_83
    have e66 : σ_82 (66) = oAI cT 120 T := (hq_84 _ (by decide)).trans e66
    have e68 : σ_82 (68) = oAI cT 171 f := (hq_84 _ (by decide)).trans e68
    have hf : ∀ q : Nat, q ≠ 65 → q ≠ 68 → σ_82 q = σ q := fun q n0 n1 => (hq_84 q n0).trans (hf q n0 n1)
    refine lv_istore_n (lv' := [(3, .int (oI (q1))), (2, .int (oI ((T spo)))), (0, .ref (ad (65))), (1, .ref (ad (68)))]) hx hb dX6_readCommand_134 rfl hl (by decide) rfl (fun ls hl => ?_)
    refine lv_iload_n hx hb dX6_readCommand_135 rfl (lv_at hl 0 rfl) ?_
    refine m_iconst (-1) hx hb dX6_readCommand_136 rfl ?_
    refine m_icmp_eq 171 hx hb dX6_readCommand_137 (by decide) (by omega) (by omega) (fun h_86 => ?_) (fun h_86 => ?_)
    · refine m_iconst 0 hx hb dX6_readCommand_171 rfl ?_
      exact m_iret hx hb hlk hrt hH m_z0 dX6_readCommand_172 ⟨0, p1a, ou6, f, rfl, (Or.inl rfl), (Or.inr ⟨rfl, fo1, 1, v1, 0, p1a, by omega, oRc_r hch hR1, by omega⟩), (by first | assumption | omega), (by first | assumption | omega), eM6, e68, hf⟩
    · have eq1 : q1 = ((v1 : Nat) : Int) := by omega
      have hc9 : oRc T si spo (-1) p1a 1 v1 0 := by have h8 := oRc_r hch hR1; rw [show fo1 = -1 by omega] at h8; exact h8
      refine lv_aload_n hx hb dX6_readCommand_140 rfl (lv_at hl 2 rfl) ?_
      refine lv_aload_n hx hb dX6_readCommand_141 rfl (lv_at hl 3 rfl) ?_
      refine m_iconst 0 hx hb dX6_readCommand_142 rfl ?_
      refine m_iald hx hb hK hH (k := 68) (by omega) e68 (0) (by omega) (by omega) (by decide) dX6_readCommand_143 ?_
      refine m_topI (((n : Nat) : Int)) (hp.1) ?_
      refine m_iconst 4 hx hb dX6_readCommand_144 rfl ?_
      refine m_icmp_ge 160 hx hb dX6_readCommand_145 (by decide) (by omega) (by omega) (fun h_87 => ?_) (fun h_87 => ?_)
      · refine m_iconst 0 hx hb dX6_readCommand_160 rfl ?_
        refine m_callVi hx hb hml hown hts hK hH hl (rest := []) cw_X6_135 (c6_done0 hA si ac6 p1a ou6 rf (by first | assumption | omega) (by first | assumption | omega) eM6) ⟨Nat.le_of_ble_eq_true rfl, Nat.le_of_ble_eq_true rfl⟩ ⟨Nat.le_of_ble_eq_true rfl, Nat.le_of_ble_eq_true rfl⟩ rfl (k := 65) (by omega) eM6 rfl rfl (Nat.le_of_ble_eq_true rfl) dX6_readCommand_161 (fun r_91 σ_88 H locs hp_89 hH => ?_)
        obtain ⟨rfl, eM6, hq_90⟩ := hp_89
        have e66 : σ_88 (66) = oAI cT 120 T := (hq_90 _ (by decide)).trans e66
        have e68 : σ_88 (68) = oAI cT 171 f := (hq_90 _ (by decide)).trans e68
        have hf : ∀ q : Nat, q ≠ 65 → q ≠ 68 → σ_88 q = σ q := fun q n0 n1 => (hq_90 q n0).trans (hf q n0 n1)
        refine m_if_eq 171 hx hb dX6_readCommand_164 (by decide) (by omega) (fun h_92 => absurd h_92 (by omega)) (fun h_92 => ?_)
        refine m_iconst 1 hx hb dX6_readCommand_167 rfl ?_
        refine lv_goto (tgt := 172) hx hb dX6_readCommand_168 (by decide) ?_
        exact m_iret hx hb hlk hrt hH m_z1 dX6_readCommand_172 ⟨1, p1a, (ou6 + 1), f, rfl, (Or.inr rfl), (Or.inl ⟨rfl, 1, v1, 0, 0, 0, _, _, _, _, _, hc9, Or.inr ⟨rfl, by omega⟩, oAt1_no (by omega), hp, hwf, hag, (if_pos rfl).symm⟩), (by first | assumption | omega), (by first | assumption | omega), eM6, e68, hf⟩
      · refine lv_aload_n hx hb dX6_readCommand_148 rfl (lv_at hl 3 rfl) ?_
        refine lv_iload_n hx hb dX6_readCommand_149 rfl (lv_at hl 0 rfl) ?_
        refine m_topI (((v1 : Nat) : Int)) (eq1) ?_
        refine m_callSi hx hb hml hown hts hK hH hl (rest := [.ref (ad (65))]) cw_X6_139 rfl (c6_rulerOn hA 68 n a g f sz w v1 (by first | assumption | omega) (by first | assumption | omega) (by first | assumption | omega) (by first | assumption | omega) (by first | assumption | omega) e68) ⟨Nat.le_of_ble_eq_true rfl, Nat.le_of_ble_eq_true rfl⟩ ⟨Nat.le_of_ble_eq_true rfl, Nat.le_of_ble_eq_true rfl⟩ rfl rfl (Nat.le_of_ble_eq_true rfl) dX6_readCommand_150 (fun r_96 σ_93 H locs hp_94 hH => ?_)
        obtain ⟨f5, rfl, hp5, e68, hq_95⟩ := hp_94
        have eM6 : σ_93 (65) = .inr (6, [.int (oI (rf)), .ref (ad (66)), .int (oI (((si : Nat) : Int))), .ref (ad (67)), .ref (ad (68)), .ref (ad (69)), .int (oI (((ac6 : Nat) : Int))), .ref (ad (70)), .ref (ad (71)), .ref (ad (72)), .ref (ad (73)), .ref (ad (74)), .int (oI (((p1a : Nat) : Int))), .int (oI (((ou6 : Nat) : Int)))]) := (hq_95 _ (by decide)).trans eM6
        have e66 : σ_93 (66) = oAI cT 120 T := (hq_95 _ (by decide)).trans e66
        have hf : ∀ q : Nat, q ≠ 65 → q ≠ 68 → σ_93 q = σ q := fun q n0 n1 => (hq_95 q n1).trans (hf q n0 n1)
        refine m_if_lt 160 hx hb dX6_readCommand_153 (by decide) (by omega) (fun h_97 => absurd h_97 (by omega)) (fun h_97 => ?_)
        refine m_iconst 1 hx hb dX6_readCommand_156 rfl ?_
        refine lv_goto (tgt := 161) hx hb dX6_readCommand_157 (by decide) ?_
        refine m_callVi hx hb hml hown hts hK hH hl (rest := []) cw_X6_135 (c6_done1 hA si ac6 p1a ou6 rf (by first | assumption | omega) (by first | assumption | omega) eM6) ⟨Nat.le_of_ble_eq_true rfl, Nat.le_of_ble_eq_true rfl⟩ ⟨Nat.le_of_ble_eq_true rfl, Nat.le_of_ble_eq_true rfl⟩ rfl (k := 65) (by omega) eM6 rfl rfl (Nat.le_of_ble_eq_true rfl) dX6_readCommand_161 (fun r_101 σ_98 H locs hp_99 hH => ?_)
        obtain ⟨rfl, eM6, hq_100⟩ := hp_99
        have e66 : σ_98 (66) = oAI cT 120 T := (hq_100 _ (by decide)).trans e66
        have e68 : σ_98 (68) = oAI cT 171 f5 := (hq_100 _ (by decide)).trans e68
        have hf : ∀ q : Nat, q ≠ 65 → q ≠ 68 → σ_98 q = σ q := fun q n0 n1 => (hq_100 q n0).trans (hf q n0 n1)
        refine m_if_eq 171 hx hb dX6_readCommand_164 (by decide) (by omega) (fun h_102 => absurd h_102 (by omega)) (fun h_102 => ?_)
        refine m_iconst 1 hx hb dX6_readCommand_167 rfl ?_
        refine lv_goto (tgt := 172) hx hb dX6_readCommand_168 (by decide) ?_
        exact m_iret hx hb hlk hrt hH m_z1 dX6_readCommand_172 ⟨1, p1a, ou6, f5, rfl, (Or.inr rfl), (Or.inl ⟨rfl, 1, v1, 0, 0, 1, _, _, _, _, _, hc9, Or.inr ⟨rfl, by omega⟩, oAt1_ok (by omega) (by omega) (by omega), hp5, (hwf.add (by omega) (by omega) (by omega)), hag, (if_neg (by decide)).symm⟩), (by first | assumption | omega), (by first | assumption | omega), eM6, e68, hf⟩
  · refine m_tabIn 311 hx hb dX6_readCommand_21 (by omega) (by omega) (by rw [hch]; rfl) (by decide) ?_
    refine lv_aload_n hx hb dX6_readCommand_311 rfl (lv_at hl 1 rfl) ?_
    refine m_iconst 0 hx hb dX6_readCommand_312 rfl ?_
    refine m_iconst 1 hx hb dX6_readCommand_313 rfl ?_
    refine m_iconst 1 hx hb dX6_readCommand_314 rfl ?_
    refine m_bipush 6 hx hb dX6_readCommand_315 (by decide) ?_
    refine m_callVi hx hb hml hown hts hK hH hl (rest := []) cw_X6_123 (c6_fig hA 0 1 1 1 6 si ac6 (spo + 1) ou6 rf T (by first | assumption | omega) (by first | assumption | omega) (by first | assumption | omega) (by first | assumption | omega) (by first | assumption | omega) (by first | assumption | omega) (by first | assumption | omega) (by first | assumption | omega) (by first | assumption | omega) eM6 e66) ⟨Nat.le_of_ble_eq_true rfl, Nat.le_of_ble_eq_true rfl⟩ ⟨Nat.le_of_ble_eq_true rfl, Nat.le_of_ble_eq_true rfl⟩ rfl (k := 65) (by omega) eM6 rfl rfl (Nat.le_of_ble_eq_true rfl) dX6_readCommand_317 (fun r_106 σ_103 H locs hp_104 hH => ?_)
    obtain ⟨v1, p1a, fo1, q1, rfl, hR1, hp1, hf1, hv1, hq1, eM6, hq_105⟩ := hp_104
    have e66 : σ_103 (66) = oAI cT 120 T := (hq_105 _ (by decide)).trans e66
    have e68 : σ_103 (68) = oAI cT 171 f := (hq_105 _ (by decide)).trans e68
    have hf : ∀ q : Nat, q ≠ 65 → q ≠ 68 → σ_103 q = σ q := fun q n0 n1 => (hq_105 q n0).trans (hf q n0 n1)
    refine lv_istore_n (lv' := [(3, .int (oI (q1))), (2, .int (oI ((T spo)))), (0, .ref (ad (65))), (1, .ref (ad (68)))]) hx hb dX6_readCommand_320 rfl hl (by decide) rfl (fun ls hl => ?_)
    refine lv_iload_n hx hb dX6_readCommand_321 rfl (lv_at hl 0 rfl) ?_
    refine m_iconst (-1) hx hb dX6_readCommand_322 rfl ?_
    refine m_icmp_eq 351 hx hb dX6_readCommand_323 (by decide) (by omega) (by omega) (fun h_107 => ?_) (fun h_107 => ?_)
    · refine m_iconst 0 hx hb dX6_readCommand_351 rfl ?_
      exact m_iret hx hb hlk hrt hH m_z0 dX6_readCommand_352 ⟨0, p1a, ou6, f, rfl, (Or.inl rfl), (Or.inr ⟨rfl, fo1, 5, 0, v1, p1a, by omega, oRc_s hch hR1, by omega⟩), (by first | assumption | omega), (by first | assumption | omega), eM6, e68, hf⟩
    · have eq1 : q1 = ((v1 : Nat) : Int) := by omega
      have hc9 : oRc T si spo (-1) p1a 5 0 v1 := by have h8 := oRc_s hch hR1; rw [show fo1 = -1 by omega] at h8; exact h8
      refine lv_aload_n hx hb dX6_readCommand_326 rfl (lv_at hl 2 rfl) ?_
      refine lv_aload_n hx hb dX6_readCommand_327 rfl (lv_at hl 3 rfl) ?_
      refine m_iconst 0 hx hb dX6_readCommand_328 rfl ?_
      refine lv_iload_n hx hb dX6_readCommand_329 rfl (lv_at hl 0 rfl) ?_
      refine m_topI (((v1 : Nat) : Int)) (eq1) ?_
      refine m_callSi hx hb hml hown hts hK hH hl (rest := [.ref (ad (65))]) cw_X6_153 rfl (c6_change0 hA 68 n a g f sz w v1 (by first | assumption | omega) (by first | assumption | omega) (by first | assumption | omega) (by first | assumption | omega) e68) ⟨Nat.le_of_ble_eq_true rfl, Nat.le_of_ble_eq_true rfl⟩ ⟨Nat.le_of_ble_eq_true rfl, Nat.le_of_ble_eq_true rfl⟩ rfl rfl (Nat.le_of_ble_eq_true rfl) dX6_readCommand_330 (fun r_111 σ_108 H locs hp_109 hH => ?_)
      obtain ⟨f5, rfl, hp5, e68, hq_110⟩ := hp_109
      have eM6 : σ_108 (65) = .inr (6, [.int (oI (rf)), .ref (ad (66)), .int (oI (((si : Nat) : Int))), .ref (ad (67)), .ref (ad (68)), .ref (ad (69)), .int (oI (((ac6 : Nat) : Int))), .ref (ad (70)), .ref (ad (71)), .ref (ad (72)), .ref (ad (73)), .ref (ad (74)), .int (oI (((p1a : Nat) : Int))), .int (oI (((ou6 : Nat) : Int)))]) := (hq_110 _ (by decide)).trans eM6
      have e66 : σ_108 (66) = oAI cT 120 T := (hq_110 _ (by decide)).trans e66
      have hf : ∀ q : Nat, q ≠ 65 → q ≠ 68 → σ_108 q = σ q := fun q n0 n1 => (hq_110 q n1).trans (hf q n0 n1)
      have hag1 := hag.1
      refine m_if_le 340 hx hb dX6_readCommand_333 (by decide) (by omega) (fun h_112 => absurd h_112 (by omega)) (fun h_112 => ?_)
      refine m_iconst 1 hx hb dX6_readCommand_336 rfl ?_
      refine lv_goto (tgt := 341) hx hb dX6_readCommand_337 (by decide) ?_
      refine m_callVi hx hb hml hown hts hK hH hl (rest := []) cw_X6_135 (c6_done1 hA si ac6 p1a ou6 rf (by first | assumption | omega) (by first | assumption | omega) eM6) ⟨Nat.le_of_ble_eq_true rfl, Nat.le_of_ble_eq_true rfl⟩ ⟨Nat.le_of_ble_eq_true rfl, Nat.le_of_ble_eq_true rfl⟩ rfl (k := 65) (by omega) eM6 rfl rfl (Nat.le_of_ble_eq_true rfl) dX6_readCommand_341 (fun r_116 σ_113 H locs hp_114 hH => ?_)
      obtain ⟨rfl, eM6, hq_115⟩ := hp_114
      have e66 : σ_113 (66) = oAI cT 120 T := (hq_115 _ (by decide)).trans e66
      have e68 : σ_113 (68) = oAI cT 171 f5 := (hq_115 _ (by decide)).trans e68
      have hf : ∀ q : Nat, q ≠ 65 → q ≠ 68 → σ_113 q = σ q := fun q n0 n1 => (hq_115 q n0).trans (hf q n0 n1)
      refine m_if_eq 351 hx hb dX6_readCommand_344 (by decide) (by omega) (fun h_117 => absurd h_117 (by omega)) (fun h_117 => ?_)
      refine m_iconst 1 hx hb dX6_readCommand_347 rfl ?_
      refine lv_goto (tgt := 352) hx hb dX6_readCommand_348 (by decide) ?_
      exact m_iret hx hb hlk hrt hH m_z1 dX6_readCommand_352 ⟨1, p1a, ou6, f5, rfl, (Or.inr rfl), (Or.inl ⟨rfl, 5, 0, v1, 0, 1, _, _, _, _, _, hc9, Or.inr ⟨rfl, by omega⟩, oAt50 (by omega), hp5, hwf, ⟨by omega, hag.2⟩, (if_neg (by decide)).symm⟩), (by first | assumption | omega), (by first | assumption | omega), eM6, e68, hf⟩
  · refine m_tabIn 263 hx hb dX6_readCommand_21 (by omega) (by omega) (by rw [hch]; rfl) (by decide) ?_
    refine lv_aload_n hx hb dX6_readCommand_263 rfl (lv_at hl 1 rfl) ?_
    refine m_iconst 0 hx hb dX6_readCommand_264 rfl ?_
    refine m_iconst 1 hx hb dX6_readCommand_265 rfl ?_
    refine m_iconst 0 hx hb dX6_readCommand_266 rfl ?_
    refine m_iconst 3 hx hb dX6_readCommand_267 rfl ?_
    refine m_callVi hx hb hml hown hts hK hH hl (rest := []) cw_X6_123 (c6_fig hA 0 1 1 0 3 si ac6 (spo + 1) ou6 rf T (by first | assumption | omega) (by first | assumption | omega) (by first | assumption | omega) (by first | assumption | omega) (by first | assumption | omega) (by first | assumption | omega) (by first | assumption | omega) (by first | assumption | omega) (by first | assumption | omega) eM6 e66) ⟨Nat.le_of_ble_eq_true rfl, Nat.le_of_ble_eq_true rfl⟩ ⟨Nat.le_of_ble_eq_true rfl, Nat.le_of_ble_eq_true rfl⟩ rfl (k := 65) (by omega) eM6 rfl rfl (Nat.le_of_ble_eq_true rfl) dX6_readCommand_268 (fun r_121 σ_118 H locs hp_119 hH => ?_)
    obtain ⟨v1, p1a, fo1, q1, rfl, hR1, hp1, hf1, hv1, hq1, eM6, hq_120⟩ := hp_119
    have e66 : σ_118 (66) = oAI cT 120 T := (hq_120 _ (by decide)).trans e66
    have e68 : σ_118 (68) = oAI cT 171 f := (hq_120 _ (by decide)).trans e68
    have hf : ∀ q : Nat, q ≠ 65 → q ≠ 68 → σ_118 q = σ q := fun q n0 n1 => (hq_120 q n0).trans (hf q n0 n1)
    refine lv_istore_n (lv' := [(3, .int (oI (q1))), (2, .int (oI ((T spo)))), (0, .ref (ad (65))), (1, .ref (ad (68)))]) hx hb dX6_readCommand_271 rfl hl (by decide) rfl (fun ls hl => ?_)
    refine lv_iload_n hx hb dX6_readCommand_272 rfl (lv_at hl 0 rfl) ?_
    refine m_iconst (-1) hx hb dX6_readCommand_273 rfl ?_
    refine m_icmp_eq 309 hx hb dX6_readCommand_274 (by decide) (by omega) (by omega) (fun h_122 => ?_) (fun h_122 => ?_)
    · refine m_iconst 0 hx hb dX6_readCommand_309 rfl ?_
      exact m_iret hx hb hlk hrt hH m_z0 dX6_readCommand_310 ⟨0, p1a, ou6, f, rfl, (Or.inl rfl), (Or.inr ⟨rfl, fo1, 4, v1, 0, p1a, by omega, oRc_t hch hR1, by omega⟩), (by first | assumption | omega), (by first | assumption | omega), eM6, e68, hf⟩
    · have eq1 : q1 = ((v1 : Nat) : Int) := by omega
      have hc9 : oRc T si spo (-1) p1a 4 v1 0 := by have h8 := oRc_t hch hR1; rw [show fo1 = -1 by omega] at h8; exact h8
      refine lv_aload_n hx hb dX6_readCommand_277 rfl (lv_at hl 2 rfl) ?_
      refine lv_aload_n hx hb dX6_readCommand_278 rfl (lv_at hl 3 rfl) ?_
      refine lv_iload_n hx hb dX6_readCommand_279 rfl (lv_at hl 0 rfl) ?_
      refine m_topI (((v1 : Nat) : Int)) (eq1) ?_
      refine m_pSb hx hb hml hown hts hK hH hl (rest := [.ref (ad (65))]) cw_X6_50 rfl (c6_isRuler hA 68 n a g f sz w ((v1 : Nat) : Int) (by first | assumption | omega) (by first | assumption | omega) (by first | assumption | omega) (by first | assumption | omega) e68) ⟨Nat.le_of_ble_eq_true rfl, Nat.le_of_ble_eq_true rfl⟩ ⟨Nat.le_of_ble_eq_true rfl, Nat.le_of_ble_eq_true rfl⟩ rfl rfl (Nat.le_of_ble_eq_true rfl) dX6_readCommand_280 (fun hR9 H locs hH => ?_) (fun hR9 H locs hH => ?_)
      · refine m_if_eq 298 hx hb dX6_readCommand_283 (by decide) (by omega) (fun h_123 => absurd h_123 (by omega)) (fun h_123 => ?_)
        refine lv_aload_n hx hb dX6_readCommand_286 rfl (lv_at hl 3 rfl) ?_
        refine lv_iload_n hx hb dX6_readCommand_287 rfl (lv_at hl 0 rfl) ?_
        refine m_topI (((v1 : Nat) : Int)) (eq1) ?_
        refine m_callSi hx hb hml hown hts hK hH hl (rest := [.ref (ad (65))]) cw_X6_150 rfl (c6_turnOn hA 68 n a g f sz w v1 (by first | assumption | omega) (by first | assumption | omega) (by first | assumption | omega) (by first | assumption | omega) e68) ⟨Nat.le_of_ble_eq_true rfl, Nat.le_of_ble_eq_true rfl⟩ ⟨Nat.le_of_ble_eq_true rfl, Nat.le_of_ble_eq_true rfl⟩ rfl rfl (Nat.le_of_ble_eq_true rfl) dX6_readCommand_288 (fun r_127 σ_124 H locs hp_125 hH => ?_)
        obtain ⟨f5, rfl, hp5, hpos, e68, hq_126⟩ := hp_125
        have eM6 : σ_124 (65) = .inr (6, [.int (oI (rf)), .ref (ad (66)), .int (oI (((si : Nat) : Int))), .ref (ad (67)), .ref (ad (68)), .ref (ad (69)), .int (oI (((ac6 : Nat) : Int))), .ref (ad (70)), .ref (ad (71)), .ref (ad (72)), .ref (ad (73)), .ref (ad (74)), .int (oI (((p1a : Nat) : Int))), .int (oI (((ou6 : Nat) : Int)))]) := (hq_126 _ (by decide)).trans eM6
        have e66 : σ_124 (66) = oAI cT 120 T := (hq_126 _ (by decide)).trans e66
        have hf : ∀ q : Nat, q ≠ 65 → q ≠ 68 → σ_124 q = σ q := fun q n0 n1 => (hq_126 q n1).trans (hf q n0 n1)
        have hs9 := hwf.2 v1 (by omega)
        have hTb := oTurnR_b (w := oRev (w v1) (sz v1)) hs9.2.1
        refine m_if_le 298 hx hb dX6_readCommand_291 (by decide) (by omega) (fun h_128 => absurd h_128 (by omega)) (fun h_128 => ?_)
        refine m_iconst 1 hx hb dX6_readCommand_294 rfl ?_
        refine lv_goto (tgt := 299) hx hb dX6_readCommand_295 (by decide) ?_
        refine m_callVi hx hb hml hown hts hK hH hl (rest := []) cw_X6_135 (c6_done1 hA si ac6 p1a ou6 rf (by first | assumption | omega) (by first | assumption | omega) eM6) ⟨Nat.le_of_ble_eq_true rfl, Nat.le_of_ble_eq_true rfl⟩ ⟨Nat.le_of_ble_eq_true rfl, Nat.le_of_ble_eq_true rfl⟩ rfl (k := 65) (by omega) eM6 rfl rfl (Nat.le_of_ble_eq_true rfl) dX6_readCommand_299 (fun r_132 σ_129 H locs hp_130 hH => ?_)
        obtain ⟨rfl, eM6, hq_131⟩ := hp_130
        have e66 : σ_129 (66) = oAI cT 120 T := (hq_131 _ (by decide)).trans e66
        have e68 : σ_129 (68) = oAI cT 171 f5 := (hq_131 _ (by decide)).trans e68
        have hf : ∀ q : Nat, q ≠ 65 → q ≠ 68 → σ_129 q = σ q := fun q n0 n1 => (hq_131 q n0).trans (hf q n0 n1)
        refine m_if_eq 309 hx hb dX6_readCommand_302 (by decide) (by omega) (fun h_133 => absurd h_133 (by omega)) (fun h_133 => ?_)
        refine m_iconst 1 hx hb dX6_readCommand_305 rfl ?_
        refine lv_goto (tgt := 310) hx hb dX6_readCommand_306 (by decide) ?_
        exact m_iret hx hb hlk hrt hH m_z1 dX6_readCommand_310 ⟨1, p1a, ou6, f5, rfl, (Or.inr rfl), (Or.inl ⟨rfl, 4, v1, 0, 0, 1, _, _, _, _, _, hc9, Or.inr ⟨rfl, by omega⟩, oAt4_ok hR9, hp5, (hwf.turn (by omega)), hag, (if_neg (by decide)).symm⟩), (by first | assumption | omega), (by first | assumption | omega), eM6, e68, hf⟩
      · refine m_if_eq 298 hx hb dX6_readCommand_283 (by decide) (by omega) (fun h_134 => ?_) (fun h_134 => absurd h_134 (by omega))
        refine m_iconst 0 hx hb dX6_readCommand_298 rfl ?_
        refine m_callVi hx hb hml hown hts hK hH hl (rest := []) cw_X6_135 (c6_done0 hA si ac6 p1a ou6 rf (by first | assumption | omega) (by first | assumption | omega) eM6) ⟨Nat.le_of_ble_eq_true rfl, Nat.le_of_ble_eq_true rfl⟩ ⟨Nat.le_of_ble_eq_true rfl, Nat.le_of_ble_eq_true rfl⟩ rfl (k := 65) (by omega) eM6 rfl rfl (Nat.le_of_ble_eq_true rfl) dX6_readCommand_299 (fun r_138 σ_135 H locs hp_136 hH => ?_)
        obtain ⟨rfl, eM6, hq_137⟩ := hp_136
        have e66 : σ_135 (66) = oAI cT 120 T := (hq_137 _ (by decide)).trans e66
        have e68 : σ_135 (68) = oAI cT 171 f := (hq_137 _ (by decide)).trans e68
        have hf : ∀ q : Nat, q ≠ 65 → q ≠ 68 → σ_135 q = σ q := fun q n0 n1 => (hq_137 q n0).trans (hf q n0 n1)
        refine m_if_eq 309 hx hb dX6_readCommand_302 (by decide) (by omega) (fun h_139 => absurd h_139 (by omega)) (fun h_139 => ?_)
        refine m_iconst 1 hx hb dX6_readCommand_305 rfl ?_
        refine lv_goto (tgt := 310) hx hb dX6_readCommand_306 (by decide) ?_
        exact m_iret hx hb hlk hrt hH m_z1 dX6_readCommand_310 ⟨1, p1a, (ou6 + 1), f, rfl, (Or.inr rfl), (Or.inl ⟨rfl, 4, v1, 0, 0, 0, _, _, _, _, _, hc9, Or.inr ⟨rfl, by omega⟩, oAt4_no hR9, hp, hwf, hag, (if_pos rfl).symm⟩), (by first | assumption | omega), (by first | assumption | omega), eM6, e68, hf⟩
  · refine m_tabIn 398 hx hb dX6_readCommand_21 (by omega) (by omega) (by rw [hch]; rfl) (by decide) ?_
    refine lv_aload_n hx hb dX6_readCommand_398 rfl (lv_at hl 1 rfl) ?_
    refine lv_dup hx hb dX6_readCommand_399 rfl ?_
    refine gf_X6_spot hx hb hts hown hK hH (k := 65) (by omega) eM6 dX6_readCommand_400 ?_
    refine m_iconst 1 hx hb dX6_readCommand_403 rfl ?_
    refine m_isub (((spo : Nat) : Int)) hx hb dX6_readCommand_404 (by omega) ?_
    refine pf_X6_spot hx hb hts hown hK hH hA (k := 65) (by omega) eM6 dX6_readCommand_405 (fun H locs σ_140 eM6 hq_141 hH => ?_)
    have e66 : σ_140 (66) = oAI cT 120 T := (hq_141 _ (by decide)).trans e66
    have e68 : σ_140 (68) = oAI cT 171 f := (hq_141 _ (by decide)).trans e68
    have hf : ∀ q : Nat, q ≠ 65 → q ≠ 68 → σ_140 q = σ q := fun q n0 n1 => (hq_141 q n0).trans (hf q n0 n1)
    refine m_iconst 0 hx hb dX6_readCommand_408 rfl ?_
    exact m_iret hx hb hlk hrt hH m_z0 dX6_readCommand_409 ⟨0, spo, ou6, f, rfl, (Or.inl rfl), (Or.inr ⟨rfl, ((spo : Nat) : Int), 0, 0, 0, spo, by omega, oRc_d (by omega), by omega⟩), (by first | assumption | omega), (by first | assumption | omega), eM6, e68, hf⟩
  · refine m_tabIn 398 hx hb dX6_readCommand_21 (by omega) (by omega) (by rw [hch]; rfl) (by decide) ?_
    refine lv_aload_n hx hb dX6_readCommand_398 rfl (lv_at hl 1 rfl) ?_
    refine lv_dup hx hb dX6_readCommand_399 rfl ?_
    refine gf_X6_spot hx hb hts hown hK hH (k := 65) (by omega) eM6 dX6_readCommand_400 ?_
    refine m_iconst 1 hx hb dX6_readCommand_403 rfl ?_
    refine m_isub (((spo : Nat) : Int)) hx hb dX6_readCommand_404 (by omega) ?_
    refine pf_X6_spot hx hb hts hown hK hH hA (k := 65) (by omega) eM6 dX6_readCommand_405 (fun H locs σ_142 eM6 hq_143 hH => ?_)
    have e66 : σ_142 (66) = oAI cT 120 T := (hq_143 _ (by decide)).trans e66
    have e68 : σ_142 (68) = oAI cT 171 f := (hq_143 _ (by decide)).trans e68
    have hf : ∀ q : Nat, q ≠ 65 → q ≠ 68 → σ_142 q = σ q := fun q n0 n1 => (hq_143 q n0).trans (hf q n0 n1)
    refine m_iconst 0 hx hb dX6_readCommand_408 rfl ?_
    exact m_iret hx hb hlk hrt hH m_z0 dX6_readCommand_409 ⟨0, spo, ou6, f, rfl, (Or.inl rfl), (Or.inr ⟨rfl, ((spo : Nat) : Int), 0, 0, 0, spo, by omega, oRc_d (by omega), by omega⟩), (by first | assumption | omega), (by first | assumption | omega), eM6, e68, hf⟩
  · refine m_tabIn 398 hx hb dX6_readCommand_21 (by omega) (by omega) (by rw [hch]; rfl) (by decide) ?_
    refine lv_aload_n hx hb dX6_readCommand_398 rfl (lv_at hl 1 rfl) ?_
    refine lv_dup hx hb dX6_readCommand_399 rfl ?_
    refine gf_X6_spot hx hb hts hown hK hH (k := 65) (by omega) eM6 dX6_readCommand_400 ?_
    refine m_iconst 1 hx hb dX6_readCommand_403 rfl ?_
    refine m_isub (((spo : Nat) : Int)) hx hb dX6_readCommand_404 (by omega) ?_
    refine pf_X6_spot hx hb hts hown hK hH hA (k := 65) (by omega) eM6 dX6_readCommand_405 (fun H locs σ_144 eM6 hq_145 hH => ?_)
    have e66 : σ_144 (66) = oAI cT 120 T := (hq_145 _ (by decide)).trans e66
    have e68 : σ_144 (68) = oAI cT 171 f := (hq_145 _ (by decide)).trans e68
    have hf : ∀ q : Nat, q ≠ 65 → q ≠ 68 → σ_144 q = σ q := fun q n0 n1 => (hq_145 q n0).trans (hf q n0 n1)
    refine m_iconst 0 hx hb dX6_readCommand_408 rfl ?_
    exact m_iret hx hb hlk hrt hH m_z0 dX6_readCommand_409 ⟨0, spo, ou6, f, rfl, (Or.inl rfl), (Or.inr ⟨rfl, ((spo : Nat) : Int), 0, 0, 0, spo, by omega, oRc_d (by omega), by omega⟩), (by first | assumption | omega), (by first | assumption | omega), eM6, e68, hf⟩
  · refine m_tabIn 173 hx hb dX6_readCommand_21 (by omega) (by omega) (by rw [hch]; rfl) (by decide) ?_
    refine lv_aload_n hx hb dX6_readCommand_173 rfl (lv_at hl 1 rfl) ?_
    refine lv_aload_n hx hb dX6_readCommand_174 rfl (lv_at hl 2 rfl) ?_
    refine lv_iload_n hx hb dX6_readCommand_175 rfl (lv_at hl 0 rfl) ?_
    refine m_bipush 109 hx hb dX6_readCommand_176 (by decide) ?_
    refine m_icmp_ne 185 hx hb dX6_readCommand_178 (by decide) (by omega) (by omega) (fun h_146 => ?_) (fun h_146 => absurd h_146 (by omega))
    refine m_iconst 0 hx hb dX6_readCommand_185 rfl ?_
    refine m_callVi hx hb hml hown hts hK hH hl (rest := []) cw_X6_142 (c6_readMark hA 0 spo si ac6 (spo + 1) ou6 rf T n a g f sz w (by first | assumption | omega) (by first | assumption | omega) (by first | assumption | omega) (by first | assumption | omega) (by first | assumption | omega) (hp) (by first | assumption | omega) (by first | assumption | omega) (by first | assumption | omega) (by first | assumption | omega) (by first | assumption | omega) eM6 e66 e68) ⟨Nat.le_of_ble_eq_true rfl, Nat.le_of_ble_eq_true rfl⟩ ⟨Nat.le_of_ble_eq_true rfl, Nat.le_of_ble_eq_true rfl⟩ rfl (k := 65) (by omega) eM6 rfl rfl (Nat.le_of_ble_eq_true rfl) dX6_readCommand_186 (fun r_150 σ_147 H locs hp_148 hH => ?_)
    obtain ⟨b5, p5a, ou5, f5, rfl, hb5, hC5, f_151, f_152, eM6, e68, hq_149⟩ := hp_148
    have e66 : σ_147 (66) = oAI cT 120 T := (hq_149 _ (by decide) (by decide)).trans e66
    have hf : ∀ q : Nat, q ≠ 65 → q ≠ 68 → σ_147 q = σ q := fun q n0 n1 => (hq_149 q n0 n1).trans (hf q n0 n1)
    exact m_iret hx hb hlk hrt hH (m_zb (by omega)) dX6_readCommand_189 ⟨b5, p5a, ou5, f5, rfl, hb5, hC5, (by first | assumption | omega), (by first | assumption | omega), eM6, e68, hf⟩
  · refine m_tabOut 398 hx hb dX6_readCommand_21 (by omega) hch (by decide) ?_
    refine lv_aload_n hx hb dX6_readCommand_398 rfl (lv_at hl 1 rfl) ?_
    refine lv_dup hx hb dX6_readCommand_399 rfl ?_
    refine gf_X6_spot hx hb hts hown hK hH (k := 65) (by omega) eM6 dX6_readCommand_400 ?_
    refine m_iconst 1 hx hb dX6_readCommand_403 rfl ?_
    refine m_isub (((spo : Nat) : Int)) hx hb dX6_readCommand_404 (by omega) ?_
    refine pf_X6_spot hx hb hts hown hK hH hA (k := 65) (by omega) eM6 dX6_readCommand_405 (fun H locs σ_153 eM6 hq_154 hH => ?_)
    have e66 : σ_153 (66) = oAI cT 120 T := (hq_154 _ (by decide)).trans e66
    have e68 : σ_153 (68) = oAI cT 171 f := (hq_154 _ (by decide)).trans e68
    have hf : ∀ q : Nat, q ≠ 65 → q ≠ 68 → σ_153 q = σ q := fun q n0 n1 => (hq_154 q n0).trans (hf q n0 n1)
    refine m_iconst 0 hx hb dX6_readCommand_408 rfl ?_
    exact m_iret hx hb hlk hrt hH m_z0 dX6_readCommand_409 ⟨0, spo, ou6, f, rfl, (Or.inl rfl), (Or.inr ⟨rfl, ((spo : Nat) : Int), 0, 0, 0, spo, by omega, oRc_d (by omega), by omega⟩), (by first | assumption | omega), (by first | assumption | omega), eM6, e68, hf⟩
