set_option maxHeartbeats 4000000 in
set_option maxRecDepth 100000 in
theorem c3_stepsTo {l : Launch} {D : va_G} {cT : Nat → ClassId} {N b0 : Nat} {ad : Nat → Nat} (hA : oAd b0 N ad) {σ : Nat → va_E} (x : Int) (S Ln : Nat → Int) (ld : Nat) (hN : 76 ≤ N) (hbx : -2147483648 ≤ x ∧ x < 2147483648) (e59 : σ (59) = .inr (3, [.ref (ad (60)), .ref (ad (61)), .int (oI (((ld : Nat) : Int))), .ref (ad (62)), .ref (ad (63))])) (e60 : σ (60) = oAI cT 201 S) (e61 : σ (61) = oAI cT 201 Ln) :
    oCi l D cT N ad b0 yX3_stepsTo cX3_stepsTo 2 (some .int) 0 0 [.ref (ad (59)), .int (oI (x))] σ (fun rr uu => rr = oI ((oSt S x)) ∧ uu = σ) := by
  refine m_start (cc := cX3_stepsTo) (by decide) (Nat.le_of_ble_eq_true rfl) rfl ?_
  intro Pp Ee Ss Mm Bb Me Cc Ar ls hx hb hml hown hlk hrt hts hK hH hl
  have hown : Ss.vm.findClass RX3 = some Mm.cls := hown
  have hl : lv_has ls 2 [(0, .ref (ad (59))), (1, .int (oI (x)))] := hl
  refine lv_iload_n hx hb dX3_stepsTo_0 rfl (lv_at hl 1 rfl) ?_
  refine m_if_lt 22 hx hb dX3_stepsTo_1 (by decide) (by omega) (fun h_1 => ?_) (fun h_1 => ?_)
  · refine m_iconst (-1) hx hb dX3_stepsTo_22 rfl ?_
    exact m_iret hx hb hlk hrt hH (m_ni _) dX3_stepsTo_23 ⟨congrArg oI (by rw [oSt_out (by omega)]), rfl⟩
  · refine lv_iload_n hx hb dX3_stepsTo_4 rfl (lv_at hl 1 rfl) ?_
    refine lv_aload_n hx hb dX3_stepsTo_5 rfl (lv_at hl 0 rfl) ?_
    refine gf_X3_steps hx hb hts hown hK hH (k := 59) (by omega) e59 dX3_stepsTo_6 ?_
    refine m_alen hx hb hK hH (k := 60) (by omega) e60 0 rfl 201 rfl dX3_stepsTo_9 ?_
    refine m_icmp_ge 22 hx hb dX3_stepsTo_10 (by decide) (by omega) (by omega) (fun h_2 => ?_) (fun h_2 => ?_)
    · refine m_iconst (-1) hx hb dX3_stepsTo_22 rfl ?_
      exact m_iret hx hb hlk hrt hH (m_ni _) dX3_stepsTo_23 ⟨congrArg oI (by rw [oSt_out (by omega)]), rfl⟩
    · refine lv_aload_n hx hb dX3_stepsTo_13 rfl (lv_at hl 0 rfl) ?_
      refine gf_X3_steps hx hb hts hown hK hH (k := 59) (by omega) e59 dX3_stepsTo_14 ?_
      refine lv_iload_n hx hb dX3_stepsTo_17 rfl (lv_at hl 1 rfl) ?_
      refine m_iald hx hb hK hH (k := 60) (by omega) e60 ((x).toNat) (by omega) (by omega) (by decide) dX3_stepsTo_18 ?_
      refine lv_goto (tgt := 23) hx hb dX3_stepsTo_19 (by decide) ?_
      exact m_iret hx hb hlk hrt hH (m_ni _) dX3_stepsTo_23 ⟨congrArg oI (by rw [oSt_in (by omega)]), rfl⟩
set_option maxHeartbeats 4000000 in
set_option maxRecDepth 100000 in
theorem c3_visit {l : Launch} {D : va_G} {cT : Nat → ClassId} {N b0 : Nat} {ad : Nat → Nat} (hA : oAd b0 N ad) {σ : Nat → va_E} (x z : Int) (S Ln : Nat → Int) (ld : Nat) (hN : 76 ≤ N) (hbx : -2147483648 ≤ x ∧ x < 2147483648) (hbz : -2147483648 ≤ z ∧ z < 2147483648) (hld : ld ≤ 201) (hcap : 0 ≤ x → x ≤ 200 → S x.toNat = -1 → ld < 201) (hSb : ∀ t : Nat, t ≤ 200 → -2147483648 ≤ S t ∧ S t < 2147483648) (e59 : σ (59) = .inr (3, [.ref (ad (60)), .ref (ad (61)), .int (oI (((ld : Nat) : Int))), .ref (ad (62)), .ref (ad (63))])) (e60 : σ (60) = oAI cT 201 S) (e61 : σ (61) = oAI cT 201 Ln) :
    oCv l D cT N ad b0 yX3_visit cX3_visit 3 none 0 0 [.ref (ad (59)), .int (oI (x)), .int (oI (z))] σ (fun uu => ∃ S2 : Nat → Int, ∃ Ln2 : Nat → Int, ∃ ld2 : Nat, (oVis S Ln ld x z S2 Ln2 ld2) ∧ uu (59) = .inr (3, [.ref (ad (60)), .ref (ad (61)), .int (oI (((ld2 : Nat) : Int))), .ref (ad (62)), .ref (ad (63))]) ∧ uu (60) = oAI cT 201 S2 ∧ uu (61) = oAI cT 201 Ln2 ∧ (∀ q : Nat, q ≠ 59 → q ≠ 60 → q ≠ 61 → uu q = σ q)) := by
  refine m_start (cc := cX3_visit) (by decide) (Nat.le_of_ble_eq_true rfl) rfl ?_
  intro Pp Ee Ss Mm Bb Me Cc Ar ls hx hb hml hown hlk hrt hts hK hH hl
  have hown : Ss.vm.findClass RX3 = some Mm.cls := hown
  have hl : lv_has ls 3 [(0, .ref (ad (59))), (1, .int (oI (x))), (2, .int (oI (z)))] := hl
  have hf : ∀ q : Nat, q ≠ 59 → q ≠ 60 → q ≠ 61 → σ q = σ q := fun q _ _ _ => rfl
  refine lv_iload_n hx hb dX3_visit_0 rfl (lv_at hl 1 rfl) ?_
  refine m_if_lt 42 hx hb dX3_visit_1 (by decide) (by omega) (fun h_1 => ?_) (fun h_1 => ?_)
  · exact m_vret hx hb hlk hrt hH dX3_visit_42 ⟨S, Ln, ld, (Or.inr ⟨fun q => by omega, rfl, rfl, rfl⟩), e59, e60, e61, hf⟩
  · refine lv_iload_n hx hb dX3_visit_4 rfl (lv_at hl 1 rfl) ?_
    refine lv_aload_n hx hb dX3_visit_5 rfl (lv_at hl 0 rfl) ?_
    refine gf_X3_steps hx hb hts hown hK hH (k := 59) (by omega) e59 dX3_visit_6 ?_
    refine m_alen hx hb hK hH (k := 60) (by omega) e60 0 rfl 201 rfl dX3_visit_9 ?_
    refine m_icmp_ge 42 hx hb dX3_visit_10 (by decide) (by omega) (by omega) (fun h_2 => ?_) (fun h_2 => ?_)
    · exact m_vret hx hb hlk hrt hH dX3_visit_42 ⟨S, Ln, ld, (Or.inr ⟨fun q => by omega, rfl, rfl, rfl⟩), e59, e60, e61, hf⟩
    · refine lv_aload_n hx hb dX3_visit_13 rfl (lv_at hl 0 rfl) ?_
      refine gf_X3_lined hx hb hts hown hK hH (k := 59) (by omega) e59 dX3_visit_14 ?_
      refine m_if_lt 42 hx hb dX3_visit_17 (by decide) (by omega) (fun h_3 => absurd h_3 (by omega)) (fun h_3 => ?_)
      refine lv_aload_n hx hb dX3_visit_20 rfl (lv_at hl 0 rfl) ?_
      refine gf_X3_lined hx hb hts hown hK hH (k := 59) (by omega) e59 dX3_visit_21 ?_
      refine lv_aload_n hx hb dX3_visit_24 rfl (lv_at hl 0 rfl) ?_
      refine gf_X3_line hx hb hts hown hK hH (k := 59) (by omega) e59 dX3_visit_25 ?_
      refine m_alen hx hb hK hH (k := 61) (by omega) e61 0 rfl 201 rfl dX3_visit_28 ?_
      refine m_icmp_ge 42 hx hb dX3_visit_29 (by decide) (by omega) (by omega) (fun h_4 => ?_) (fun h_4 => ?_)
      · exact m_vret hx hb hlk hrt hH dX3_visit_42 ⟨S, Ln, ld, (Or.inr ⟨fun q => by have := hcap q.1 q.2.1 q.2.2; omega, rfl, rfl, rfl⟩), e59, e60, e61, hf⟩
      · refine lv_aload_n hx hb dX3_visit_32 rfl (lv_at hl 0 rfl) ?_
        refine gf_X3_steps hx hb hts hown hK hH (k := 59) (by omega) e59 dX3_visit_33 ?_
        refine lv_iload_n hx hb dX3_visit_36 rfl (lv_at hl 1 rfl) ?_
        refine m_iald hx hb hK hH (k := 60) (by omega) e60 ((x).toNat) (by omega) (by omega) (by decide) dX3_visit_37 ?_
        have hsb := hSb x.toNat (by omega)
        refine m_iconst (-1) hx hb dX3_visit_38 rfl ?_
        refine m_icmp_eq 43 hx hb dX3_visit_39 (by decide) (by omega) (by omega) (fun hs1 => ?_) (fun hs1 => ?_)
        · refine lv_aload_n hx hb dX3_visit_43 rfl (lv_at hl 0 rfl) ?_
          refine gf_X3_steps hx hb hts hown hK hH (k := 59) (by omega) e59 dX3_visit_44 ?_
          refine lv_iload_n hx hb dX3_visit_47 rfl (lv_at hl 1 rfl) ?_
          refine lv_iload_n hx hb dX3_visit_48 rfl (lv_at hl 2 rfl) ?_
          refine m_iast hx hb hK hH hA (k := 60) (by omega) e60 ((x).toNat) (by omega) (by omega) (by decide) dX3_visit_49 (fun H locs σ_6 e60 hq_7 hH => ?_)
          have e59 : σ_6 (59) = .inr (3, [.ref (ad (60)), .ref (ad (61)), .int (oI (((ld : Nat) : Int))), .ref (ad (62)), .ref (ad (63))]) := (hq_7 _ (by decide)).trans e59
          have e61 : σ_6 (61) = oAI cT 201 Ln := (hq_7 _ (by decide)).trans e61
          have hf : ∀ q : Nat, q ≠ 59 → q ≠ 60 → q ≠ 61 → σ_6 q = σ q := fun q n0 n1 n2 => (hq_7 q n1).trans (hf q n0 n1 n2)
          refine lv_aload_n hx hb dX3_visit_50 rfl (lv_at hl 0 rfl) ?_
          refine gf_X3_line hx hb hts hown hK hH (k := 59) (by omega) e59 dX3_visit_51 ?_
          refine lv_aload_n hx hb dX3_visit_54 rfl (lv_at hl 0 rfl) ?_
          refine gf_X3_lined hx hb hts hown hK hH (k := 59) (by omega) e59 dX3_visit_55 ?_
          refine lv_iload_n hx hb dX3_visit_58 rfl (lv_at hl 1 rfl) ?_
          refine m_iast hx hb hK hH hA (k := 61) (by omega) e61 (ld) (by omega) (by have := hcap (by omega) (by omega) hs1; omega) (by decide) dX3_visit_59 (fun H locs σ_8 e61 hq_9 hH => ?_)
          have e59 : σ_8 (59) = .inr (3, [.ref (ad (60)), .ref (ad (61)), .int (oI (((ld : Nat) : Int))), .ref (ad (62)), .ref (ad (63))]) := (hq_9 _ (by decide)).trans e59
          have e60 : σ_8 (60) = oAI cT 201 (va_up S ((x).toNat) z) := (hq_9 _ (by decide)).trans e60
          have hf : ∀ q : Nat, q ≠ 59 → q ≠ 60 → q ≠ 61 → σ_8 q = σ q := fun q n0 n1 n2 => (hq_9 q n2).trans (hf q n0 n1 n2)
          refine lv_aload_n hx hb dX3_visit_60 rfl (lv_at hl 0 rfl) ?_
          refine lv_dup hx hb dX3_visit_61 rfl ?_
          refine gf_X3_lined hx hb hts hown hK hH (k := 59) (by omega) e59 dX3_visit_62 ?_
          refine m_iconst 1 hx hb dX3_visit_65 rfl ?_
          refine m_iadd (((ld : Nat) : Int) + 1) hx hb dX3_visit_66 (by omega) ?_
          refine pf_X3_lined hx hb hts hown hK hH hA (k := 59) (by omega) e59 dX3_visit_67 (fun H locs σ_10 e59 hq_11 hH => ?_)
          have e60 : σ_10 (60) = oAI cT 201 (va_up S ((x).toNat) z) := (hq_11 _ (by decide)).trans e60
          have e61 : σ_10 (61) = oAI cT 201 (va_up Ln ld x) := (hq_11 _ (by decide)).trans e61
          have hf : ∀ q : Nat, q ≠ 59 → q ≠ 60 → q ≠ 61 → σ_10 q = σ q := fun q n0 n1 n2 => (hq_11 q n0).trans (hf q n0 n1 n2)
          exact m_vret hx hb hlk hrt hH dX3_visit_70 ⟨va_up S x.toNat z, va_up Ln ld x, ld + 1, (Or.inl ⟨by omega, by omega, hs1, rfl, rfl, rfl⟩), e59, e60, e61, hf⟩
        · exact m_vret hx hb hlk hrt hH dX3_visit_42 ⟨S, Ln, ld, (Or.inr ⟨fun q => hs1 q.2.2, rfl, rfl, rfl⟩), e59, e60, e61, hf⟩
set_option maxHeartbeats 4000000 in
set_option maxRecDepth 100000 in
theorem c3_walk {l : Launch} {D : va_G} {cT : Nat → ClassId} {N b0 : Nat} {ad : Nat → Nat} (hA : oAd b0 N ad) {σ : Nat → va_E} (a sp ld : Nat) (S Ln : Nat → Int) (hN : 76 ≤ N) (ha : a ≤ 200) (hsp : sp < 2 ^ 64) (e59 : σ (59) = .inr (3, [.ref (ad (60)), .ref (ad (61)), .int (oI (((ld : Nat) : Int))), .ref (ad (62)), .ref (ad (63))])) (e60 : σ (60) = oAI cT 201 S) (e61 : σ (61) = oAI cT 201 Ln) :
    oCv l D cT N ad b0 yX3_walk cX3_walk 8 none 1 23 [.ref (ad (59)), .int (oI (((a : Nat) : Int))), .long (lN (sp))] σ (fun uu => ∃ S2 : Nat → Int, ∃ Ln2 : Nat → Int, ∃ ld2 : Nat, (∀ t : Nat, t ≤ 200 → S2 t = oDist sp a t) ∧ uu (59) = .inr (3, [.ref (ad (60)), .ref (ad (61)), .int (oI (((ld2 : Nat) : Int))), .ref (ad (62)), .ref (ad (63))]) ∧ uu (60) = oAI cT 201 S2 ∧ uu (61) = oAI cT 201 Ln2 ∧ (∀ q : Nat, q ≠ 59 → q ≠ 60 → q ≠ 61 → uu q = σ q)) := by
  refine m_start (cc := cX3_walk) (by decide) (Nat.le_of_ble_eq_true rfl) rfl ?_
  intro Pp Ee Ss Mm Bb Me Cc Ar ls hx hb hml hown hlk hrt hts hK hH hl
  have hown : Ss.vm.findClass RX3 = some Mm.cls := hown
  have hl : lv_has ls 8 [(0, .ref (ad (59))), (1, .int (oI (((a : Nat) : Int)))), (2, .long (lN (sp)))] := hl
  have hf : ∀ q : Nat, q ≠ 59 → q ≠ 60 → q ≠ 61 → σ q = σ q := fun q _ _ _ => rfl
  refine lv_aload_n hx hb dX3_walk_0 rfl (lv_at hl 0 rfl) ?_
  refine gf_X3_steps hx hb hts hown hK hH (k := 59) (by omega) e59 dX3_walk_1 ?_
  refine m_iconst (-1) hx hb dX3_walk_4 rfl ?_
  refine m_callFv hx hb hml hown hts hK hH hl (rest := []) cw_X3_25 (cJ_fillI hA 60 (-1) S (by omega) (by first | assumption | omega) e60) ⟨Nat.le_of_ble_eq_true rfl, Nat.le_of_ble_eq_true rfl⟩ ⟨Nat.le_of_ble_eq_true rfl, Nat.le_of_ble_eq_true rfl⟩ rfl rfl (Nat.le_of_ble_eq_true rfl) dX3_walk_5 (fun σ_1 H locs hp_2 hH => ?_)
  obtain ⟨e60, hq_3⟩ := hp_2
  have e59 : σ_1 (59) = .inr (3, [.ref (ad (60)), .ref (ad (61)), .int (oI (((ld : Nat) : Int))), .ref (ad (62)), .ref (ad (63))]) := (hq_3 _ (by decide)).trans e59
  have e61 : σ_1 (61) = oAI cT 201 Ln := (hq_3 _ (by decide)).trans e61
  have hf : ∀ q : Nat, q ≠ 59 → q ≠ 60 → q ≠ 61 → σ_1 q = σ q := fun q n0 n1 n2 => (hq_3 q n1).trans (hf q n0 n1 n2)
  refine lv_aload_n hx hb dX3_walk_8 rfl (lv_at hl 0 rfl) ?_
  refine m_iconst 0 hx hb dX3_walk_9 rfl ?_
  refine pf_X3_lined hx hb hts hown hK hH hA (k := 59) (by omega) e59 dX3_walk_10 (fun H locs σ_5 e59 hq_6 hH => ?_)
  have e60 : σ_5 (60) = oAI cT 201 (fun q => if q < 201 then (-1) else S q) := (hq_6 _ (by decide)).trans e60
  have e61 : σ_5 (61) = oAI cT 201 Ln := (hq_6 _ (by decide)).trans e61
  have hf : ∀ q : Nat, q ≠ 59 → q ≠ 60 → q ≠ 61 → σ_5 q = σ q := fun q n0 n1 n2 => (hq_6 q n0).trans (hf q n0 n1 n2)
  refine lv_aload_n hx hb dX3_walk_13 rfl (lv_at hl 0 rfl) ?_
  refine lv_iload_n hx hb dX3_walk_14 rfl (lv_at hl 1 rfl) ?_
  refine m_iconst 0 hx hb dX3_walk_15 rfl ?_
  refine m_callVv hx hb hml hown hts hK hH hl (rest := []) cw_X3_35 (c3_visit hA ((a : Nat) : Int) 0 (fun q => if q < 201 then (-1) else S q) Ln 0 (by first | assumption | omega) (by first | assumption | omega) (by first | assumption | omega) (by first | assumption | omega) (fun _ _ _ => by omega) (fun t ht => by rw [if_pos (by omega)]; omega) e59 e60 e61) ⟨Nat.le_of_ble_eq_true rfl, Nat.le_of_ble_eq_true rfl⟩ ⟨Nat.le_of_ble_eq_true rfl, Nat.le_of_ble_eq_true rfl⟩ rfl (k := 59) (by omega) e59 rfl rfl (Nat.le_of_ble_eq_true rfl) dX3_walk_16 (fun σ_7 H locs hp_8 hH => ?_)
  obtain ⟨S1, L1, ld1, hv0, e59, e60, e61, hq_9⟩ := hp_8
  have hf : ∀ q : Nat, q ≠ 59 → q ≠ 60 → q ≠ 61 → σ_7 q = σ q := fun q n0 n1 n2 => (hq_9 q n0 n1 n2).trans (hf q n0 n1 n2)
  refine m_iconst 0 hx hb dX3_walk_19 rfl ?_
  refine lv_istore (lv' := [(4, .int (oI (0))), (0, .ref (ad (59))), (1, .int (oI (((a : Nat) : Int)))), (2, .long (lN (sp)))]) hx hb dX3_walk_20 hl (by decide) rfl (fun ls hl => ?_)
  have L22 : ∀ (fu : Nat) (i : Nat) (ld : Nat) (S : Nat → Int) (Ln : Nat → Int), (202 - i < fu) → (i ≤ ld) → (oBG sp a i ld S Ln) → ∀ σL22 : Nat → va_E, σL22 (59) = .inr (3, [.ref (ad (60)), .ref (ad (61)), .int (oI (((ld : Nat) : Int))), .ref (ad (62)), .ref (ad (63))]) → σL22 (60) = oAI cT 201 S → σL22 (61) = oAI cT 201 Ln → (∀ q : Nat, q ≠ 59 → q ≠ 60 → q ≠ 61 → σL22 q = σ_7 q) → ∀ (H : Heap) (locs : List Loc), oH b0 D N ad Ss.heap σL22 H locs → ∀ ls : Array Slot, lv_has ls 8 [(0, .ref (ad (59))), (2, .long (lN (sp))), (4, .int (oI (((i : Nat) : Int))))] → W Pp l Ee { frames := 1, cells := 0, slots := 0, locals := 23 } Ss Mm Ar Bb Me Cc H locs 0 0 (MQ Bb (va_Qv (fun uu => ∃ S2 : Nat → Int, ∃ Ln2 : Nat → Int, ∃ ld2 : Nat, (∀ t : Nat, t ≤ 200 → S2 t = oDist sp a t) ∧ uu (59) = .inr (3, [.ref (ad (60)), .ref (ad (61)), .int (oI (((ld2 : Nat) : Int))), .ref (ad (62)), .ref (ad (63))]) ∧ uu (60) = oAI cT 201 S2 ∧ uu (61) = oAI cT 201 Ln2 ∧ (∀ q : Nat, q ≠ 59 → q ≠ 60 → q ≠ 61 → uu q = σ q)) (oV D N ad) (fun q => b0 ≤ q)) Ar Ss 0 0 (fun q => b0 ≤ q)) (F0 Mm 22 ls []) := by
    intro fu22
    induction fu22 with
    | zero =>
      intro i ld S Ln hm22
      exact absurd hm22 (Nat.not_lt_zero _)
    | succ fu22 ih22 =>
      intro i ld S Ln hm22 hi hG σL22 e59 e60 e61 hL22 H locs hH ls hl
      have hf : ∀ q : Nat, q ≠ 59 → q ≠ 60 → q ≠ 61 → σL22 q = σ q := fun q n0 n1 n2 => (hL22 q n0 n1 n2).trans (hf q n0 n1 n2)
      have hld := oBq_ld hG.1
      refine lv_iload hx hb dX3_walk_22 (lv_at hl 2 rfl) ?_
      refine lv_aload_n hx hb dX3_walk_24 rfl (lv_at hl 0 rfl) ?_
      refine gf_X3_lined hx hb hts hown hK hH (k := 59) (by omega) e59 dX3_walk_25 ?_
      refine m_icmp_ge 113 hx hb dX3_walk_28 (by decide) (by omega) (by omega) (fun hlt => ?_) (fun hlt => ?_)
      · exact m_vret hx hb hlk hrt hH dX3_walk_113 ⟨S, Ln, ld, (fun t ht => oBG_end hG (by omega) ht), e59, e60, e61, hf⟩
      · refine lv_iload hx hb dX3_walk_31 (lv_at hl 2 rfl) ?_
        refine lv_aload_n hx hb dX3_walk_33 rfl (lv_at hl 0 rfl) ?_
        refine gf_X3_line hx hb hts hown hK hH (k := 59) (by omega) e59 dX3_walk_34 ?_
        refine m_alen hx hb hK hH (k := 61) (by omega) e61 0 rfl 201 rfl dX3_walk_37 ?_
        refine m_icmp_ge 113 hx hb dX3_walk_38 (by decide) (by omega) (by omega) (fun h_12 => absurd h_12 (by omega)) (fun h_12 => ?_)
        refine lv_aload_n hx hb dX3_walk_41 rfl (lv_at hl 0 rfl) ?_
        refine gf_X3_line hx hb hts hown hK hH (k := 59) (by omega) e59 dX3_walk_42 ?_
        refine lv_iload hx hb dX3_walk_45 (lv_at hl 2 rfl) ?_
        obtain ⟨fr, hfr⟩ : ∃ z : Int, Ln i = z := ⟨_, rfl⟩
        refine m_iald hx hb hK hH (k := 61) (by omega) e61 (i) (by omega) (by omega) (by decide) dX3_walk_47 ?_
        refine m_topI (fr) (hfr) ?_
        have hb0 := oBJ_b (oBG_in hG (by omega))
        rw [hfr] at hb0
        refine lv_istore (lv' := [(5, .int (oI (fr))), (0, .ref (ad (59))), (2, .long (lN (sp))), (4, .int (oI (((i : Nat) : Int))))]) hx hb dX3_walk_48 hl (by decide) rfl (fun ls hl => ?_)
        refine lv_aload_n hx hb dX3_walk_50 rfl (lv_at hl 1 rfl) ?_
        refine lv_iload hx hb dX3_walk_51 (lv_at hl 0 rfl) ?_
        obtain ⟨nx0, hnx⟩ : ∃ z : Int, S fr.toNat = z := ⟨_, rfl⟩
        refine m_pVi hx hb hml hown hts hK hH hl (rest := []) cw_X3_39 (c3_stepsTo hA fr S Ln ld (by first | assumption | omega) (by first | assumption | omega) e59 e60 e61) ⟨Nat.le_of_ble_eq_true rfl, Nat.le_of_ble_eq_true rfl⟩ ⟨Nat.le_of_ble_eq_true rfl, Nat.le_of_ble_eq_true rfl⟩ rfl (k := 59) (by omega) e59 rfl rfl (Nat.le_of_ble_eq_true rfl) dX3_walk_53 (fun H locs hH => ?_)
        refine m_topI (nx0) ((oSt_in ⟨by omega, by omega⟩).trans hnx) ?_
        rw [hnx] at hb0
        refine m_iconst 1 hx hb dX3_walk_56 rfl ?_
        refine m_iadd (nx0 + 1) hx hb dX3_walk_57 (by omega) ?_
        refine lv_istore (lv' := [(6, .int (oI (nx0 + 1))), (5, .int (oI (fr))), (0, .ref (ad (59))), (2, .long (lN (sp))), (4, .int (oI (((i : Nat) : Int))))]) hx hb dX3_walk_58 hl (by decide) rfl (fun ls hl => ?_)
        refine m_iconst 1 hx hb dX3_walk_60 rfl ?_
        refine lv_istore (lv' := [(7, .int (oI (1))), (6, .int (oI (nx0 + 1))), (5, .int (oI (fr))), (0, .ref (ad (59))), (2, .long (lN (sp))), (4, .int (oI (((i : Nat) : Int))))]) hx hb dX3_walk_61 hl (by decide) rfl (fun ls hl => ?_)
        have L63 : ∀ (fu : Nat) (d : Nat) (ld : Nat) (S : Nat → Int) (Ln : Nat → Int), (41 - d < fu) → (1 ≤ d ∧ d ≤ 41) → (oBJ sp a i d ld S Ln) → (Ln i = fr) → (S fr.toNat = nx0) → ∀ σL63 : Nat → va_E, σL63 (59) = .inr (3, [.ref (ad (60)), .ref (ad (61)), .int (oI (((ld : Nat) : Int))), .ref (ad (62)), .ref (ad (63))]) → σL63 (60) = oAI cT 201 S → σL63 (61) = oAI cT 201 Ln → (∀ q : Nat, q ≠ 59 → q ≠ 60 → q ≠ 61 → σL63 q = σL22 q) → ∀ (H : Heap) (locs : List Loc), oH b0 D N ad Ss.heap σL63 H locs → ∀ ls : Array Slot, lv_has ls 8 [(0, .ref (ad (59))), (2, .long (lN (sp))), (4, .int (oI (((i : Nat) : Int)))), (5, .int (oI (fr))), (6, .int (oI (nx0 + 1))), (7, .int (oI (((d : Nat) : Int))))] → W Pp l Ee { frames := 1, cells := 0, slots := 0, locals := 23 } Ss Mm Ar Bb Me Cc H locs 0 0 (MQ Bb (va_Qv (fun uu => ∃ S2 : Nat → Int, ∃ Ln2 : Nat → Int, ∃ ld2 : Nat, (∀ t : Nat, t ≤ 200 → S2 t = oDist sp a t) ∧ uu (59) = .inr (3, [.ref (ad (60)), .ref (ad (61)), .int (oI (((ld2 : Nat) : Int))), .ref (ad (62)), .ref (ad (63))]) ∧ uu (60) = oAI cT 201 S2 ∧ uu (61) = oAI cT 201 Ln2 ∧ (∀ q : Nat, q ≠ 59 → q ≠ 60 → q ≠ 61 → uu q = σ q)) (oV D N ad) (fun q => b0 ≤ q)) Ar Ss 0 0 (fun q => b0 ≤ q)) (F0 Mm 63 ls []) := by
          intro fu63
          induction fu63 with
          | zero =>
            intro d ld S Ln hm63
            exact absurd hm63 (Nat.not_lt_zero _)
          | succ fu63 ih63 =>
            intro d ld S Ln hm63 hd hJ hfr hnx σL63 e59 e60 e61 hL63 H locs hH ls hl
            have hf : ∀ q : Nat, q ≠ 59 → q ≠ 60 → q ≠ 61 → σL63 q = σ q := fun q n0 n1 n2 => (hL63 q n0 n1 n2).trans (hf q n0 n1 n2)
            have hL22 : ∀ q : Nat, q ≠ 59 → q ≠ 60 → q ≠ 61 → σL63 q = σ_7 q := fun q n0 n1 n2 => (hL63 q n0 n1 n2).trans (hL22 q n0 n1 n2)
            have hil := hJ.2.1
            have hbj := oBJ_b hJ
            rw [hfr, hnx] at hbj
            refine lv_iload hx hb dX3_walk_63 (lv_at hl 5 rfl) ?_
            refine m_bipush 40 hx hb dX3_walk_65 (by decide) ?_
            refine m_icmp_gt 107 hx hb dX3_walk_67 (by decide) (by omega) (by omega) (fun h_13 => ?_) (fun h_13 => ?_)
            · refine m_iinc (((i : Nat) : Int) + 1) [(4, .int (oI (((i : Nat) : Int) + 1))), (0, .ref (ad (59))), (2, .long (lN (sp))), (5, .int (oI (fr))), (6, .int (oI (nx0 + 1))), (7, .int (oI (((d : Nat) : Int))))] hx hb dX3_walk_107 hl (j := 2) rfl (by omega) (by decide) rfl (fun ls hl => ?_)
              refine lv_goto (tgt := 22) hx hb dX3_walk_110 (by decide) ?_
              exact ih22 (i + 1) ld S Ln (by omega) (by first | assumption | omega) (by rw [show d = 41 by omega] at hJ; exact oBJ_end hJ) _ e59 e60 e61 (hL22) _ _ hH ls (lv_sub hl [1, 2, 0] rfl)
            · refine lv_lload_n hx hb dX3_walk_70 rfl (lv_at hl 1 rfl) ?_
              refine lv_iload hx hb dX3_walk_71 (lv_at hl 5 rfl) ?_
              refine m_pNb hx hb hml hown hts hK hH hl (rest := []) cn_X5_hasBit hK.2.1.1 (c5_hasBit hA sp ((d : Nat) : Int) (by first | assumption | omega) (by first | assumption | omega) ) ⟨Nat.le_of_ble_eq_true rfl, Nat.le_of_ble_eq_true rfl⟩ ⟨Nat.le_of_ble_eq_true rfl, Nat.le_of_ble_eq_true rfl⟩ rfl rfl (Nat.le_of_ble_eq_true rfl) dX3_walk_73 (fun hz H locs hH => ?_) (fun hz H locs hH => ?_)
              · refine m_if_eq 101 hx hb dX3_walk_76 (by decide) (by omega) (fun h_14 => absurd h_14 (by omega)) (fun h_14 => ?_)
                refine lv_aload_n hx hb dX3_walk_79 rfl (lv_at hl 0 rfl) ?_
                refine lv_iload hx hb dX3_walk_80 (lv_at hl 3 rfl) ?_
                refine lv_iload hx hb dX3_walk_82 (lv_at hl 5 rfl) ?_
                refine m_iadd (((d : Nat) : Int) + fr) hx hb dX3_walk_84 (by omega) ?_
                refine lv_iload hx hb dX3_walk_85 (lv_at hl 4 rfl) ?_
                refine m_callVv hx hb hml hown hts hK hH hl (rest := []) cw_X3_35 (c3_visit hA (((d : Nat) : Int) + fr) (nx0 + 1) S Ln ld (by first | assumption | omega) (by first | assumption | omega) (by first | assumption | omega) (by first | assumption | omega) (fun g0 g1 g2 => oBJ_cap hJ ⟨by omega, by omega⟩ hz.2.2 (x := ((d : Nat) : Int) + fr) (Or.inl (by omega)) g0 g1 g2) (oBq_b hJ.1) e59 e60 e61) ⟨Nat.le_of_ble_eq_true rfl, Nat.le_of_ble_eq_true rfl⟩ ⟨Nat.le_of_ble_eq_true rfl, Nat.le_of_ble_eq_true rfl⟩ rfl (k := 59) (by omega) e59 rfl rfl (Nat.le_of_ble_eq_true rfl) dX3_walk_87 (fun σ_15 H locs hp_16 hH => ?_)
                obtain ⟨S2, L2, ld2, hv1, e59, e60, e61, hq_17⟩ := hp_16
                have hf : ∀ q : Nat, q ≠ 59 → q ≠ 60 → q ≠ 61 → σ_15 q = σ q := fun q n0 n1 n2 => (hq_17 q n0 n1 n2).trans (hf q n0 n1 n2)
                have hL22 : ∀ q : Nat, q ≠ 59 → q ≠ 60 → q ≠ 61 → σ_15 q = σ_7 q := fun q n0 n1 n2 => (hq_17 q n0 n1 n2).trans (hL22 q n0 n1 n2)
                have hL63 : ∀ q : Nat, q ≠ 59 → q ≠ 60 → q ≠ 61 → σ_15 q = σL22 q := fun q n0 n1 n2 => (hq_17 q n0 n1 n2).trans (hL63 q n0 n1 n2)
                have hJ2 := (oBJ_vis hJ ⟨by omega, by omega⟩ hz.2.2 (Or.inl (by omega)) (by rw [hfr, hnx]) hv1).1
                have hb2 := oBJ_b hJ2
                refine lv_aload_n hx hb dX3_walk_90 rfl (lv_at hl 0 rfl) ?_
                refine lv_iload hx hb dX3_walk_91 (lv_at hl 3 rfl) ?_
                refine lv_iload hx hb dX3_walk_93 (lv_at hl 5 rfl) ?_
                refine m_isub (-((d : Nat) : Int) + fr) hx hb dX3_walk_95 (by omega) ?_
                refine lv_iload hx hb dX3_walk_96 (lv_at hl 4 rfl) ?_
                refine m_callVv hx hb hml hown hts hK hH hl (rest := []) cw_X3_35 (c3_visit hA (-((d : Nat) : Int) + fr) (nx0 + 1) S2 L2 ld2 (by first | assumption | omega) (by first | assumption | omega) (by first | assumption | omega) (by first | assumption | omega) (oBJ_cap2 hJ ⟨by omega, by omega⟩ hz.2.2 hfr (by rw [hnx]) (by omega) (by omega) hv1) (oBq_b hJ2.1) e59 e60 e61) ⟨Nat.le_of_ble_eq_true rfl, Nat.le_of_ble_eq_true rfl⟩ ⟨Nat.le_of_ble_eq_true rfl, Nat.le_of_ble_eq_true rfl⟩ rfl (k := 59) (by omega) e59 rfl rfl (Nat.le_of_ble_eq_true rfl) dX3_walk_98 (fun σ_19 H locs hp_20 hH => ?_)
                obtain ⟨S3, L3, ld3, hv2, e59, e60, e61, hq_21⟩ := hp_20
                have hf : ∀ q : Nat, q ≠ 59 → q ≠ 60 → q ≠ 61 → σ_19 q = σ q := fun q n0 n1 n2 => (hq_21 q n0 n1 n2).trans (hf q n0 n1 n2)
                have hL22 : ∀ q : Nat, q ≠ 59 → q ≠ 60 → q ≠ 61 → σ_19 q = σ_7 q := fun q n0 n1 n2 => (hq_21 q n0 n1 n2).trans (hL22 q n0 n1 n2)
                have hL63 : ∀ q : Nat, q ≠ 59 → q ≠ 60 → q ≠ 61 → σ_19 q = σL22 q := fun q n0 n1 n2 => (hq_21 q n0 n1 n2).trans (hL63 q n0 n1 n2)
                have hY := oBJ_yes2 hJ ⟨by omega, by omega⟩ hz.2.2 hfr (by rw [hnx]) (by omega) (by omega) hv1 hv2
                have hb3 := oBJ_b hY.1
                refine m_iinc (((d : Nat) : Int) + 1) [(7, .int (oI (((d : Nat) : Int) + 1))), (0, .ref (ad (59))), (2, .long (lN (sp))), (4, .int (oI (((i : Nat) : Int)))), (5, .int (oI (fr))), (6, .int (oI (nx0 + 1)))] hx hb dX3_walk_101 hl (j := 5) rfl (by omega) (by decide) rfl (fun ls hl => ?_)
                refine lv_goto (tgt := 63) hx hb dX3_walk_104 (by decide) ?_
                exact ih63 (d + 1) ld3 S3 L3 (by omega) (by first | assumption | omega) (hY.1) (hY.2.1) (by have := hY.2.2; omega) _ e59 e60 e61 (hL63) _ _ hH ls (lv_sub hl [1, 2, 3, 4, 5, 0] rfl)
              · refine m_if_eq 101 hx hb dX3_walk_76 (by decide) (by omega) (fun h_23 => ?_) (fun h_23 => absurd h_23 (by omega))
                refine m_iinc (((d : Nat) : Int) + 1) [(7, .int (oI (((d : Nat) : Int) + 1))), (0, .ref (ad (59))), (2, .long (lN (sp))), (4, .int (oI (((i : Nat) : Int)))), (5, .int (oI (fr))), (6, .int (oI (nx0 + 1)))] hx hb dX3_walk_101 hl (j := 5) rfl (by omega) (by decide) rfl (fun ls hl => ?_)
                refine lv_goto (tgt := 63) hx hb dX3_walk_104 (by decide) ?_
                exact ih63 (d + 1) ld S Ln (by omega) (by first | assumption | omega) (oBJ_no hJ (fun q => hz ⟨by omega, by omega, q⟩)) (by first | assumption | omega) (by first | assumption | omega) _ e59 e60 e61 (hL63) _ _ hH ls (lv_sub hl [1, 2, 3, 4, 5, 0] rfl)
        exact L63 _ 1 ld S Ln (Nat.lt_succ_self _) (by first | assumption | omega) (oBG_in hG (by omega)) (by first | assumption | omega) (by first | assumption | omega) _ e59 e60 e61 (fun q _ _ _ => rfl) _ _ hH ls (lv_sub hl [3, 4, 5, 2, 1, 0] rfl)
  exact L22 _ 0 ld1 S1 L1 (Nat.lt_succ_self _) (Nat.zero_le _) (oVis_start ha hv0) _ e59 e60 e61 (fun q _ _ _ => rfl) _ _ hH ls (lv_sub hl [1, 3, 0] rfl)
set_option maxHeartbeats 4000000 in
set_option maxRecDepth 100000 in
theorem c3_fewestByLengths {l : Launch} {D : va_G} {cT : Nat → ClassId} {N b0 : Nat} {ad : Nat → Nat} (hA : oAd b0 N ad) {σ : Nat → va_E} (t sp ld : Nat) (S Ln : Nat → Int) (hN : 76 ≤ N) (ht : t ≤ 200) (hsp : sp < 2 ^ 64) (e59 : σ (59) = .inr (3, [.ref (ad (60)), .ref (ad (61)), .int (oI (((ld : Nat) : Int))), .ref (ad (62)), .ref (ad (63))])) (e60 : σ (60) = oAI cT 201 S) (e61 : σ (61) = oAI cT 201 Ln) :
    oCi l D cT N ad b0 yX3_fewestByLengths cX3_fewestByLengths 4 (some .int) 2 50 [.ref (ad (59)), .int (oI (((t : Nat) : Int))), .long (lN (sp))] σ (fun rr uu => ∃ S2 : Nat → Int, ∃ Ln2 : Nat → Int, ∃ ld2 : Nat, rr = oI ((oDist sp 0 t)) ∧ (∀ t : Nat, t ≤ 200 → S2 t = oDist sp 0 t) ∧ uu (59) = .inr (3, [.ref (ad (60)), .ref (ad (61)), .int (oI (((ld2 : Nat) : Int))), .ref (ad (62)), .ref (ad (63))]) ∧ uu (60) = oAI cT 201 S2 ∧ uu (61) = oAI cT 201 Ln2 ∧ (∀ q : Nat, q ≠ 59 → q ≠ 60 → q ≠ 61 → uu q = σ q)) := by
  refine m_start (cc := cX3_fewestByLengths) (by decide) (Nat.le_of_ble_eq_true rfl) rfl ?_
  intro Pp Ee Ss Mm Bb Me Cc Ar ls hx hb hml hown hlk hrt hts hK hH hl
  have hown : Ss.vm.findClass RX3 = some Mm.cls := hown
  have hl : lv_has ls 4 [(0, .ref (ad (59))), (1, .int (oI (((t : Nat) : Int)))), (2, .long (lN (sp)))] := hl
  have hf : ∀ q : Nat, q ≠ 59 → q ≠ 60 → q ≠ 61 → σ q = σ q := fun q _ _ _ => rfl
  refine lv_aload_n hx hb dX3_fewestByLengths_0 rfl (lv_at hl 0 rfl) ?_
  refine m_iconst 0 hx hb dX3_fewestByLengths_1 rfl ?_
  refine lv_lload_n hx hb dX3_fewestByLengths_2 rfl (lv_at hl 2 rfl) ?_
  refine m_callVv hx hb hml hown hts hK hH hl (rest := []) cw_X3_47 (c3_walk hA 0 sp ld S Ln (by first | assumption | omega) (by first | assumption | omega) (by first | assumption | omega) e59 e60 e61) ⟨Nat.le_of_ble_eq_true rfl, Nat.le_of_ble_eq_true rfl⟩ ⟨Nat.le_of_ble_eq_true rfl, Nat.le_of_ble_eq_true rfl⟩ rfl (k := 59) (by omega) e59 rfl rfl (Nat.le_of_ble_eq_true rfl) dX3_fewestByLengths_3 (fun σ_1 H locs hp_2 hH => ?_)
  obtain ⟨S1, L1, ld1, hD, e59, e60, e61, hq_3⟩ := hp_2
  have hf : ∀ q : Nat, q ≠ 59 → q ≠ 60 → q ≠ 61 → σ_1 q = σ q := fun q n0 n1 n2 => (hq_3 q n0 n1 n2).trans (hf q n0 n1 n2)
  refine lv_aload_n hx hb dX3_fewestByLengths_6 rfl (lv_at hl 0 rfl) ?_
  refine lv_iload_n hx hb dX3_fewestByLengths_7 rfl (lv_at hl 1 rfl) ?_
  refine m_pVi hx hb hml hown hts hK hH hl (rest := []) cw_X3_39 (c3_stepsTo hA ((t : Nat) : Int) S1 L1 ld1 (by first | assumption | omega) (by first | assumption | omega) e59 e60 e61) ⟨Nat.le_of_ble_eq_true rfl, Nat.le_of_ble_eq_true rfl⟩ ⟨Nat.le_of_ble_eq_true rfl, Nat.le_of_ble_eq_true rfl⟩ rfl (k := 59) (by omega) e59 rfl rfl (Nat.le_of_ble_eq_true rfl) dX3_fewestByLengths_8 (fun H locs hH => ?_)
  exact m_iret hx hb hlk hrt hH (m_ni _) dX3_fewestByLengths_11 ⟨S1, L1, ld1, congrArg oI (by rw [oSt_in ⟨by omega, by omega⟩]; exact hD t ht), hD, e59, e60, e61, hf⟩
