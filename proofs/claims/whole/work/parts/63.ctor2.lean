theorem oS0.mq {cT : Nat → ClassId} {ad : Nat → Nat} {σ σ1 : Nat → va_E} {j k : Nat} (h : oS0 cT ad σ j) (hq : ∀ q : Nat, q ≠ k → σ1 q = σ q) (hj : k < j) : oS0 cT ad σ1 j :=
  ⟨(hq _ (by omega)).trans h.1, (hq _ (by omega)).trans h.2.1, (hq _ (by omega)).trans h.2.2⟩
theorem oMemF {ad : Nat → Nat} {j i : Nat} : va_up (fun q => if q < i then some (ad (j + 2 + 3 * q)) else none) i (some (ad (j + 2 + 3 * i))) = fun q => if q < i + 1 then some (ad (j + 2 + 3 * q)) else none := by
  funext q
  by_cases h : q = i
  · rw [h, va_up_s, if_pos (by omega)]
  · rw [va_up_n _ _ h]
    by_cases h2 : q < i
    · rw [if_pos h2, if_pos (by omega)]
    · rw [if_neg h2, if_neg (by omega)]
theorem ciX2_17 : oCI RX2 17 yX4_init cX4_init 1 := ⟨⟨(o_in0 (List.mem_of_getElem? (i := 57) (by decide +kernel))), (o_in0 (List.mem_of_getElem? (i := 38) (by decide +kernel))), (o_in0 (List.mem_of_getElem? (i := 16) (by decide +kernel))), (o_in0 (List.mem_of_getElem? (i := 39) (by decide +kernel)))⟩, rfl, by decide +kernel⟩
theorem ciX5_9 : oCI RX5 9 yX4_init cX4_init 1 := ⟨⟨(o_in0 (List.mem_of_getElem? (i := 37) (by decide +kernel))), (o_in0 (List.mem_of_getElem? (i := 38) (by decide +kernel))), (o_in0 (List.mem_of_getElem? (i := 16) (by decide +kernel))), (o_in0 (List.mem_of_getElem? (i := 39) (by decide +kernel)))⟩, rfl, by decide +kernel⟩
theorem ciX5_27 : oCI RX5 27 yX2_init cX2_init 2 := ⟨⟨(o_in0 (List.mem_of_getElem? (i := 51) (by decide +kernel))), (o_in0 (List.mem_of_getElem? (i := 52) (by decide +kernel))), (o_in0 (List.mem_of_getElem? (i := 23) (by decide +kernel))), (o_in0 (List.mem_of_getElem? (i := 53) (by decide +kernel)))⟩, rfl, by decide +kernel⟩
theorem ciL_91 : oCI RL 91 yX5_init cX5_init 1 := ⟨⟨(o_in0 (List.mem_of_getElem? (i := 8) (by decide +kernel))), (o_in0 (List.mem_of_getElem? (i := 9) (by decide +kernel))), (o_in0 (List.mem_of_getElem? (i := 2) (by decide +kernel))), (o_in0 (List.mem_of_getElem? (i := 10) (by decide +kernel)))⟩, rfl, by decide +kernel⟩
theorem ciL_94 : oCI RL 94 yX6_init cX6_init 1 := ⟨⟨(o_in0 (List.mem_of_getElem? (i := 73) (by decide +kernel))), (o_in0 (List.mem_of_getElem? (i := 74) (by decide +kernel))), (o_in0 (List.mem_of_getElem? (i := 5) (by decide +kernel))), (o_in0 (List.mem_of_getElem? (i := 75) (by decide +kernel)))⟩, rfl, by decide +kernel⟩
theorem cjX0 : oCJ yX0_init cX0_init 1 := ⟨⟨(o_in0 (List.mem_of_getElem? (i := 58) (by decide +kernel))), (o_in0 (List.mem_of_getElem? (i := 27) (by decide +kernel))), (o_in0 (List.mem_of_getElem? (i := 59) (by decide +kernel)))⟩, rfl, by decide +kernel⟩
theorem cjX3 : oCJ yX3_init cX3_init 1 := ⟨⟨(o_in0 (List.mem_of_getElem? (i := 63) (by decide +kernel))), (o_in0 (List.mem_of_getElem? (i := 31) (by decide +kernel))), (o_in0 (List.mem_of_getElem? (i := 64) (by decide +kernel)))⟩, rfl, by decide +kernel⟩
theorem cjX1 : oCJ yX1_init cX1_init 1 := ⟨⟨(o_in0 (List.mem_of_getElem? (i := 70) (by decide +kernel))), (o_in0 (List.mem_of_getElem? (i := 35) (by decide +kernel))), (o_in0 (List.mem_of_getElem? (i := 71) (by decide +kernel)))⟩, rfl, by decide +kernel⟩
set_option maxHeartbeats 4000000 in
set_option maxRecDepth 100000 in
theorem c2_init {l : Launch} {D : va_G} {cT : Nat → ClassId} {b0 : Nat} {ad : Nat → Nat} {j : Nat} (hA : oAd b0 (j + 1) ad) {σ : Nat → va_E} (e0 : σ j = .inr (2, [.null, .int (oI 0), .int (oI 0)])) :
    oCn l D cT (j + 1) ad b0 yX2_init cX2_init 2 2 100 43 196 [.ref (ad j)] σ (fun u => oGx (j + 1) ad u.1 ∧ (∀ i : Nat, i < j → u.2 i = σ i) ∧ u.2 j = .inr (2, [.ref (u.1 (j + 1)), .int (oI 0), .int (oI 0)]) ∧ u.2 (j + 1) = oAO cT 14 (fun q => if q < 14 then some (u.1 (j + 2 + 3 * q)) else none) ∧ ∀ q : Nat, q < 14 → oS0 cT u.1 u.2 (j + 2 + 3 * q)) := by
  refine m_startN (cc := cX2_init) (by decide) (Nat.le_of_ble_eq_true rfl) rfl ?_
  intro Pp Ee Ss Mm Bb Me Cc Ar ls hx hb hml hown hlk hrt hts hK hH hl hmi hAO
  have hown : Ss.vm.findClass RX2 = some Mm.cls := hown
  obtain ⟨h, hh⟩ : ∃ h : Nat, ad j = h := ⟨_, rfl⟩
  rw [hh] at hl
  refine lv_aload_n hx hb dX2_init_0 rfl (lv_at hl 0 rfl) ?_
  refine W.objInit hx hb hown (hts _ (o_in0 (List.mem_of_getElem? (i := 54) (by decide +kernel)))) (hts _ (o_in0 (List.mem_of_getElem? (i := 12) (by decide +kernel)))) (hts _ (o_in0 (List.mem_of_getElem? (i := 13) (by decide +kernel)))) rfl (by rw [hml]; exact hl.1) rfl dX2_init_1 (Nat.le_of_ble_eq_true rfl) (Nat.le_of_ble_eq_true rfl) ?_
  refine W.eq (g2 := F0 Mm 4 ls []) rfl ?_
  refine lv_aload_n hx hb dX2_init_4 rfl (lv_at hl 0 rfl) ?_
  refine m_bipush 14 hx hb dX2_init_5 (by decide) ?_
  refine m_newS (n := 14) hx hb hts hown (o_in0 (List.mem_of_getElem? (i := 55) (by decide +kernel))) hAO hK hH hA (by decide) (by decide) (Nat.le_of_ble_eq_true rfl) (Nat.le_of_ble_eq_true rfl) (Nat.le_of_ble_eq_true rfl) dX2_init_7 (fun H ad1 s1 hg1 hs1 hn1 hA hH => ?_)
  have hh : ad1 j = h := (hg1 _ (by omega)).trans hh
  have e0 : s1 j = .inr (2, [.null, .int (oI 0), .int (oI 0)]) := (hs1 _ (by omega)).trans e0
  rw [← hh]
  refine pf_X2_states hx hb hts hown hK hH hA hmi (k := j) (by omega) e0 dX2_init_10 (fun H locs s2 e0 hq hH => ?_)
  refine m_iconst 0 hx hb dX2_init_13 rfl ?_
  refine lv_istore_n (lv' := [(1, .int (oI 0)), (0, .ref h)]) hx hb dX2_init_14 rfl hl (by decide) rfl (fun ls hl => ?_)
  have L15 : ∀ (fu i : Nat) (adi : Nat → Nat) (si : Nat → va_E), (15 - i < fu) → i ≤ 14 → adi j = h → oGx (j + 1) ad adi → (∀ q : Nat, q < j → si q = σ q) → si j = .inr (2, [.ref (adi (j + 1)), .int (oI 0), .int (oI 0)]) → si (j + 1) = oAO cT 14 (fun q => if q < i then some (adi (j + 2 + 3 * q)) else none) → (∀ q : Nat, q < i → oS0 cT adi si (j + 2 + 3 * q)) → oAd b0 (j + 2 + 3 * i) adi → ∀ (H : Heap) (locs : List Loc), oH b0 D (j + 2 + 3 * i) adi Ss.heap si H locs → ∀ ls : Array Slot, lv_has ls 2 [(0, .ref h), (1, .int (oI ((i : Nat) : Int)))] → W Pp l Ee { frames := 2, cells := 43, slots := 196, locals := 100 } Ss Mm Ar Bb Me Cc H locs (1 + 3 * i) (14 + 13 * i) (MQ Bb (va_Qv (fun u : (Nat → Nat) × (Nat → va_E) => oAd b0 (j + 1 + 43) u.1 ∧ (oGx (j + 1) ad u.1 ∧ (∀ i : Nat, i < j → u.2 i = σ i) ∧ u.2 j = .inr (2, [.ref (u.1 (j + 1)), .int (oI 0), .int (oI 0)]) ∧ u.2 (j + 1) = oAO cT 14 (fun q => if q < 14 then some (u.1 (j + 2 + 3 * q)) else none) ∧ ∀ q : Nat, q < 14 → oS0 cT u.1 u.2 (j + 2 + 3 * q))) (fun u t => oV D (j + 1 + 43) u.1 u.2 t) (fun q => b0 ≤ q)) Ar Ss 43 196 (fun q => b0 ≤ q)) (F0 Mm 15 ls []) := by
    intro fu
    induction fu with
    | zero =>
      intro i adi si hm
      exact absurd hm (Nat.not_lt_zero _)
    | succ fu ih =>
      intro i adi si hm hi hh hgT hsT e0 ek hS hA H locs hH ls hl
      refine lv_iload_n hx hb dX2_init_15 rfl (lv_at hl 1 rfl) ?_
      refine lv_aload_n hx hb dX2_init_16 rfl (lv_at hl 0 rfl) ?_
      rw [← hh]
      refine gf_X2_states hx hb hts hown hK hH (k := j) (by omega) e0 dX2_init_17 ?_
      refine m_alen hx hb hK hH (k := j + 1) (by omega) ek 4 rfl 14 rfl dX2_init_20 ?_
      refine m_icmp_ge 43 hx hb dX2_init_21 (by decide) (by omega) (by omega) (fun hge => ?_) (fun hlt => ?_)
      · have ei : i = 14 := by omega
        subst ei
        exact m_vretN (N0 := j + 1) (k := 43) hx hb hlk hrt hA hH ⟨Nat.le_of_ble_eq_true rfl, Nat.le_of_ble_eq_true rfl⟩ dX2_init_43 ⟨hgT, hsT, e0, ek, hS⟩
      · refine lv_aload_n hx hb dX2_init_24 rfl (lv_at hl 0 rfl) ?_
        rw [← hh]
        refine gf_X2_states hx hb hts hown hK hH (k := j) (by omega) e0 dX2_init_25 ?_
        refine lv_iload_n hx hb dX2_init_28 rfl (lv_at hl 1 rfl) ?_
        refine m_newO (ci := 4) (fs := [.null, .null, .int (oI 0), .int (oI 0), .int (oI 0)]) (C := RX4) (T := TX4) (nf := 5) hx hb hts inlX4 tyX4 tyX4_ok hown (o_in0 (List.mem_of_getElem? (i := 55) (by decide +kernel))) (o_in0 (List.mem_of_getElem? (i := 15) (by decide +kernel))) (o_in0 (List.mem_of_getElem? (i := 16) (by decide +kernel))) hK hH hA rfl (fun q9 hq9 => by rcases (show q9 = 0 ∨ q9 = 1 ∨ q9 = 2 ∨ q9 = 3 ∨ q9 = 4 by omega) with rfl | rfl | rfl | rfl | rfl <;> rfl) (by show _ ≤ _; simp only []; omega) (by show _ ≤ _; simp only []; omega) dX2_init_29 (fun H ad3 s3 hg1 hs1 hn1 hA hH => ?_)
        refine lv_dup hx hb dX2_init_32 rfl ?_
        refine m_init hx hb hml hown hts hAO hK hH hl ciX2_17 (c4_init (j := j + 2 + 3 * i) hA hn1) ⟨Nat.le_of_ble_eq_true rfl, Nat.le_of_ble_eq_true rfl⟩ ⟨by show _ ≤ 43; omega, by show _ ≤ 196; omega⟩ (Nat.le_of_ble_eq_true rfl) dX2_init_33 (fun ad4 s4 H locs hA hpo hH => ?_)
        obtain ⟨hg2, hs2, hS2⟩ := hpo
        have hg : oGx (j + 2 + 3 * i) adi ad4 := fun q hq => (hg2 q (by omega)).trans (hg1 q hq)
        have hs : ∀ q : Nat, q < j + 2 + 3 * i → s4 q = si q := fun q hq => (hs2 q hq).trans (hs1 q hq)
        have ek4 : s4 (j + 1) = oAO cT 14 (fun q => if q < i then some (ad4 (j + 2 + 3 * q)) else none) := by
          rw [hs _ (by omega), ek]
          refine congrArg (oAO cT 14) (funext fun q => ?_)
          by_cases c : q < i
          · rw [if_pos c, if_pos c, hg _ (by omega)]
          · rw [if_neg c, if_neg c]
        rw [show adi (j + 1) = ad4 (j + 1) from (hg _ (by omega)).symm, show ad3 (j + 2 + 3 * i) = ad4 (j + 2 + 3 * i) from (hg2 _ (by omega)).symm]
        refine m_aast i hx hb hK hH hA (k := j + 1) (q := j + 2 + 3 * i) (by omega) ek4 (by omega) hS2.1 rfl (by omega) (by decide) dX2_init_36 (fun H locs s5 ek5 hq hH => ?_)
        rw [oMemF] at ek5
        refine m_iinc (((i : Nat) : Int) + 1) [(1, .int (oI (((i : Nat) : Int) + 1))), (0, .ref h)] hx hb dX2_init_37 hl (j := 1) rfl (by omega) (by decide) rfl (fun ls hl => ?_)
        refine lv_goto (tgt := 15) hx hb dX2_init_40 (by decide) ?_
        refine W.widen (k := 1 + 3 * (i + 1)) (n := 14 + 13 * (i + 1)) (by omega) (by omega) ?_
        have eN : j + 2 + 3 * (i + 1) = j + 2 + 3 * i + 1 + 2 := by omega
        refine ih (i + 1) ad4 s5 (by omega) (by omega) ((hg _ (by omega)).trans hh) (fun q hq => (hg q (by omega)).trans (hgT q hq)) (fun q hq9 => ((hq q (by omega)).trans (hs q (by omega))).trans (hsT q hq9)) (by rw [hq j (by omega), hs j (by omega), e0, hg (j + 1) (by omega)]) ek5 (fun q hq9 => ?_) (by rw [eN]; exact hA) H locs (by rw [eN]; exact hH) ls (lv_sub hl [1, 0] rfl)
        by_cases c : q = i
        · subst c
          exact oS0.mq hS2 hq (by omega)
        · exact oS0.mq (oS0.mv (M := j + 2 + 3 * i) (hS q (by omega)) (fun x hx9 => hg x hx9) (fun x _ h2 => hs x h2) ⟨by omega, by omega⟩) hq (by omega)
  exact L15 _ 0 ad1 s2 (Nat.lt_succ_self _) (by omega) hh (fun q hq9 => hg1 q hq9) (fun q hq9 => (hq q (by omega)).trans (hs1 q (by omega))) e0 ((hq _ (by omega)).trans hn1) (fun q h9 => absurd h9 (Nat.not_lt_zero _)) hA H locs hH ls (lv_sub hl [1, 0] rfl)
