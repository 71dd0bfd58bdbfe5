set_option maxHeartbeats 4000000 in
set_option maxRecDepth 100000 in
theorem c3_word {l : Launch} {D : va_G} {cT : Nat → ClassId} {N b0 : Nat} {ad : Nat → Nat} (hA : oAd b0 N ad) {σ : Nat → va_E} (x : Int) (ld : Nat) (w gr : Nat → Nat) (hN : 76 ≤ N) (hbx : -2147483648 ≤ x ∧ x < 2147483648) (e59 : σ (59) = .inr (3, [.ref (ad (60)), .ref (ad (61)), .int (oI (((ld : Nat) : Int))), .ref (ad (62)), .ref (ad (63))])) (e62 : σ (62) = oAJ cT 4 w) (e63 : σ (63) = oAJ cT 4 gr) :
    oCl l D cT N ad b0 yX3_word cX3_word 2 (some .long) 0 0 [.ref (ad (59)), .int (oI (x))] σ (fun rr uu => rr = lN (oWd w x) ∧ uu = σ) := by
  refine m_start (cc := cX3_word) (by decide) (Nat.le_of_ble_eq_true rfl) rfl ?_
  intro Pp Ee Ss Mm Bb Me Cc Ar ls hx hb hml hown hlk hrt hts hK hH hl
  have hown : Ss.vm.findClass RX3 = some Mm.cls := hown
  have hl : lv_has ls 2 [(0, .ref (ad (59))), (1, .int (oI (x)))] := hl
  refine lv_iload_n hx hb dX3_word_0 rfl (lv_at hl 1 rfl) ?_
  refine m_if_lt 22 hx hb dX3_word_1 (by decide) (by omega) (fun h_1 => ?_) (fun h_1 => ?_)
  · refine m_lconstN 0 hx hb dX3_word_22 rfl ?_
    exact m_lret hx hb hlk hrt hH dX3_word_23 ⟨congrArg lN (by rw [oWd_out (by omega)]), rfl⟩
  · refine lv_iload_n hx hb dX3_word_4 rfl (lv_at hl 1 rfl) ?_
    refine lv_aload_n hx hb dX3_word_5 rfl (lv_at hl 0 rfl) ?_
    refine gf_X3_reached hx hb hts hown hK hH (k := 59) (by omega) e59 dX3_word_6 ?_
    refine m_alen hx hb hK hH (k := 62) (by omega) e62 1 rfl 4 rfl dX3_word_9 ?_
    refine m_icmp_ge 22 hx hb dX3_word_10 (by decide) (by omega) (by omega) (fun h_2 => ?_) (fun h_2 => ?_)
    · refine m_lconstN 0 hx hb dX3_word_22 rfl ?_
      exact m_lret hx hb hlk hrt hH dX3_word_23 ⟨congrArg lN (by rw [oWd_out (by omega)]), rfl⟩
    · refine lv_aload_n hx hb dX3_word_13 rfl (lv_at hl 0 rfl) ?_
      refine gf_X3_reached hx hb hts hown hK hH (k := 59) (by omega) e59 dX3_word_14 ?_
      refine lv_iload_n hx hb dX3_word_17 rfl (lv_at hl 1 rfl) ?_
      refine m_lald hx hb hK hH (k := 62) (by omega) e62 ((x).toNat) (by omega) (by omega) (by decide) dX3_word_18 ?_
      refine lv_goto (tgt := 23) hx hb dX3_word_19 (by decide) ?_
      exact m_lret hx hb hlk hrt hH dX3_word_23 ⟨congrArg lN (by rw [oWd_in (by omega)]), rfl⟩
set_option maxHeartbeats 4000000 in
set_option maxRecDepth 100000 in
theorem c3_setGrown {l : Launch} {D : va_G} {cT : Nat → ClassId} {N b0 : Nat} {ad : Nat → Nat} (hA : oAd b0 N ad) {σ : Nat → va_E} (i v : Nat) (ld : Nat) (w gr : Nat → Nat) (hN : 76 ≤ N) (hi : i < 4) (e59 : σ (59) = .inr (3, [.ref (ad (60)), .ref (ad (61)), .int (oI (((ld : Nat) : Int))), .ref (ad (62)), .ref (ad (63))])) (e62 : σ (62) = oAJ cT 4 w) (e63 : σ (63) = oAJ cT 4 gr) :
    oCv l D cT N ad b0 yX3_setGrown cX3_setGrown 4 none 0 0 [.ref (ad (59)), .int (oI (((i : Nat) : Int))), .long (lN (v))] σ (fun uu => uu (63) = oAJ cT 4 (va_up gr i v) ∧ (∀ q : Nat, q ≠ 63 → uu q = σ q)) := by
  refine m_start (cc := cX3_setGrown) (by decide) (Nat.le_of_ble_eq_true rfl) rfl ?_
  intro Pp Ee Ss Mm Bb Me Cc Ar ls hx hb hml hown hlk hrt hts hK hH hl
  have hown : Ss.vm.findClass RX3 = some Mm.cls := hown
  have hl : lv_has ls 4 [(0, .ref (ad (59))), (1, .int (oI (((i : Nat) : Int)))), (2, .long (lN (v)))] := hl
  have hf : ∀ q : Nat, q ≠ 63 → σ q = σ q := fun q _ => rfl
  refine lv_iload_n hx hb dX3_setGrown_0 rfl (lv_at hl 1 rfl) ?_
  refine m_if_lt 20 hx hb dX3_setGrown_1 (by decide) (by omega) (fun h_1 => absurd h_1 (by omega)) (fun h_1 => ?_)
  refine lv_iload_n hx hb dX3_setGrown_4 rfl (lv_at hl 1 rfl) ?_
  refine lv_aload_n hx hb dX3_setGrown_5 rfl (lv_at hl 0 rfl) ?_
  refine gf_X3_grown hx hb hts hown hK hH (k := 59) (by omega) e59 dX3_setGrown_6 ?_
  refine m_alen hx hb hK hH (k := 63) (by omega) e63 1 rfl 4 rfl dX3_setGrown_9 ?_
  refine m_icmp_ge 20 hx hb dX3_setGrown_10 (by decide) (by omega) (by omega) (fun h_2 => absurd h_2 (by omega)) (fun h_2 => ?_)
  refine lv_aload_n hx hb dX3_setGrown_13 rfl (lv_at hl 0 rfl) ?_
  refine gf_X3_grown hx hb hts hown hK hH (k := 59) (by omega) e59 dX3_setGrown_14 ?_
  refine lv_iload_n hx hb dX3_setGrown_17 rfl (lv_at hl 1 rfl) ?_
  refine lv_lload_n hx hb dX3_setGrown_18 rfl (lv_at hl 2 rfl) ?_
  refine m_last hx hb hK hH hA (k := 63) (by omega) e63 (i) (by omega) (by omega) (by decide) dX3_setGrown_19 (fun H locs σ_3 e63 hq_4 hH => ?_)
  have e63 : σ_3 (63) = oAJ cT 4 (va_up gr i v) := e63.trans (oAJ_up _ _ _ _ _)
  have e59 : σ_3 (59) = .inr (3, [.ref (ad (60)), .ref (ad (61)), .int (oI (((ld : Nat) : Int))), .ref (ad (62)), .ref (ad (63))]) := (hq_4 _ (by decide)).trans e59
  have e62 : σ_3 (62) = oAJ cT 4 w := (hq_4 _ (by decide)).trans e62
  have hf : ∀ q : Nat, q ≠ 63 → σ_3 q = σ q := fun q n0 => (hq_4 q n0).trans (hf q n0)
  exact m_vret hx hb hlk hrt hH dX3_setGrown_20 ⟨e63, hf⟩
set_option maxHeartbeats 4000000 in
set_option maxRecDepth 100000 in
theorem c3_addMoved {l : Launch} {D : va_G} {cT : Nat → ClassId} {N b0 : Nat} {ad : Nat → Nat} (hA : oAd b0 N ad) {σ : Nat → va_E} (d : Nat) (ld : Nat) (w gr : Nat → Nat) (hN : 76 ≤ N) (hd : 1 ≤ d ∧ d ≤ 40) (hW : ∀ x : Int, oWd w x < 2 ^ 64) (e59 : σ (59) = .inr (3, [.ref (ad (60)), .ref (ad (61)), .int (oI (((ld : Nat) : Int))), .ref (ad (62)), .ref (ad (63))])) (e62 : σ (62) = oAJ cT 4 w) (e63 : σ (63) = oAJ cT 4 gr) :
    oCv l D cT N ad b0 yX3_addMoved cX3_addMoved 7 none 1 21 [.ref (ad (59)), .int (oI (((d : Nat) : Int)))] σ (fun uu => ∃ gr2 : Nat → Nat, (∀ q : Nat, q < 4 → gr2 q = gr q ||| (oFw w d q ||| oBk w d q)) ∧ uu (63) = oAJ cT 4 gr2 ∧ (∀ q : Nat, q ≠ 63 → uu q = σ q)) := by
  refine m_start (cc := cX3_addMoved) (by decide) (Nat.le_of_ble_eq_true rfl) rfl ?_
  intro Pp Ee Ss Mm Bb Me Cc Ar ls hx hb hml hown hlk hrt hts hK hH hl
  have hown : Ss.vm.findClass RX3 = some Mm.cls := hown
  have hl : lv_has ls 7 [(0, .ref (ad (59))), (1, .int (oI (((d : Nat) : Int))))] := hl
  have hf : ∀ q : Nat, q ≠ 63 → σ q = σ q := fun q _ => rfl
  refine m_iconst 0 hx hb dX3_addMoved_0 rfl ?_
  refine lv_istore_n (lv' := [(2, .int (oI (0))), (0, .ref (ad (59))), (1, .int (oI (((d : Nat) : Int))))]) hx hb dX3_addMoved_1 rfl hl (by decide) rfl (fun ls hl => ?_)
  have L2 : ∀ (fu : Nat) (i : Nat) (gr2 : Nat → Nat), (4 - i < fu) → (i ≤ 4) → (∀ q : Nat, q < 4 → gr2 q = if q < i then gr q ||| (oFw w d q ||| oBk w d q) else gr q) → ∀ σL2 : Nat → va_E, σL2 (63) = oAJ cT 4 gr2 → (∀ q : Nat, q ≠ 63 → σL2 q = σ q) → ∀ (H : Heap) (locs : List Loc), oH b0 D N ad Ss.heap σL2 H locs → ∀ ls : Array Slot, lv_has ls 7 [(0, .ref (ad (59))), (1, .int (oI (((d : Nat) : Int)))), (2, .int (oI (((i : Nat) : Int))))] → W Pp l Ee { frames := 1, cells := 0, slots := 0, locals := 21 } Ss Mm Ar Bb Me Cc H locs 0 0 (MQ Bb (va_Qv (fun uu => ∃ gr2 : Nat → Nat, (∀ q : Nat, q < 4 → gr2 q = gr q ||| (oFw w d q ||| oBk w d q)) ∧ uu (63) = oAJ cT 4 gr2 ∧ (∀ q : Nat, q ≠ 63 → uu q = σ q)) (oV D N ad) (fun q => b0 ≤ q)) Ar Ss 0 0 (fun q => b0 ≤ q)) (F0 Mm 2 ls []) := by
    intro fu2
    induction fu2 with
    | zero =>
      intro i gr2 hm2
      exact absurd hm2 (Nat.not_lt_zero _)
    | succ fu2 ih2 =>
      intro i gr2 hm2 hi hg σL2 e63 hL2 H locs hH ls hl
      have e59 : σL2 (59) = .inr (3, [.ref (ad (60)), .ref (ad (61)), .int (oI (((ld : Nat) : Int))), .ref (ad (62)), .ref (ad (63))]) := (hL2 _ (by decide)).trans e59
      have e62 : σL2 (62) = oAJ cT 4 w := (hL2 _ (by decide)).trans e62
      have hf : ∀ q : Nat, q ≠ 63 → σL2 q = σ q := fun q n0 => (hL2 q n0).trans (hf q n0)
      refine lv_iload_n hx hb dX3_addMoved_2 rfl (lv_at hl 2 rfl) ?_
      refine lv_aload_n hx hb dX3_addMoved_3 rfl (lv_at hl 0 rfl) ?_
      refine gf_X3_grown hx hb hts hown hK hH (k := 59) (by omega) e59 dX3_addMoved_4 ?_
      refine m_alen hx hb hK hH (k := 63) (by omega) e63 1 rfl 4 rfl dX3_addMoved_7 ?_
      refine m_icmp_ge 73 hx hb dX3_addMoved_8 (by decide) (by omega) (by omega) (fun h_1 => ?_) (fun h_1 => ?_)
      · exact m_vret hx hb hlk hrt hH dX3_addMoved_73 ⟨gr2, (fun q hq => by rw [hg q hq, if_pos (by omega)]), e63, hf⟩
      · refine lv_aload_n hx hb dX3_addMoved_11 rfl (lv_at hl 0 rfl) ?_
        refine lv_iload_n hx hb dX3_addMoved_12 rfl (lv_at hl 2 rfl) ?_
        refine m_pVn hx hb hml hown hts hK hH hl (rest := []) cw_X3_65 (c3_word hA ((i : Nat) : Int) ld w gr2 (by first | assumption | omega) (by first | assumption | omega) e59 e62 e63) ⟨Nat.le_of_ble_eq_true rfl, Nat.le_of_ble_eq_true rfl⟩ ⟨Nat.le_of_ble_eq_true rfl, Nat.le_of_ble_eq_true rfl⟩ rfl (k := 59) (by omega) e59 rfl rfl (Nat.le_of_ble_eq_true rfl) dX3_addMoved_13 (fun H locs hH => ?_)
        refine lv_iload_n hx hb dX3_addMoved_16 rfl (lv_at hl 1 rfl) ?_
        refine m_lshl ((oWd w ((i : Nat) : Int)) * 2 ^ d) hx hb dX3_addMoved_17 (by omega) (by rw [show (((d : Nat) : Int) : Int).toNat = d by omega]) ?_
        refine m_topM (oShl (oWd w ((i : Nat) : Int)) d) (rfl) ?_
        refine lv_aload_n hx hb dX3_addMoved_18 rfl (lv_at hl 0 rfl) ?_
        refine lv_iload_n hx hb dX3_addMoved_19 rfl (lv_at hl 2 rfl) ?_
        refine m_iconst 1 hx hb dX3_addMoved_20 rfl ?_
        refine m_isub (((i : Nat) : Int) - 1) hx hb dX3_addMoved_21 (by omega) ?_
        refine m_pVn hx hb hml hown hts hK hH hl (rest := [.long (lN (oShl (oWd w ((i : Nat) : Int)) d))]) cw_X3_65 (c3_word hA (((i : Nat) : Int) - 1) ld w gr2 (by first | assumption | omega) (by first | assumption | omega) e59 e62 e63) ⟨Nat.le_of_ble_eq_true rfl, Nat.le_of_ble_eq_true rfl⟩ ⟨Nat.le_of_ble_eq_true rfl, Nat.le_of_ble_eq_true rfl⟩ rfl (k := 59) (by omega) e59 rfl rfl (Nat.le_of_ble_eq_true rfl) dX3_addMoved_22 (fun H locs hH => ?_)
        refine m_bipush 64 hx hb dX3_addMoved_25 (by decide) ?_
        refine lv_iload_n hx hb dX3_addMoved_27 rfl (lv_at hl 1 rfl) ?_
        refine m_isub (-((d : Nat) : Int) + 64) hx hb dX3_addMoved_28 (by omega) ?_
        refine m_lushr ((oWd w (((i : Nat) : Int) - 1)) / 2 ^ (64 - d)) hx hb dX3_addMoved_29 (hW _) (by omega) (by rw [show (-((d : Nat) : Int) + 64 : Int).toNat = 64 - d by omega]) ?_
        refine m_lor (oFw w d i) hx hb dX3_addMoved_30 (rfl) ?_
        refine lv_lstore_n (lv' := [(3, .long (lN (oFw w d i))), (0, .ref (ad (59))), (1, .int (oI (((d : Nat) : Int)))), (2, .int (oI (((i : Nat) : Int))))]) hx hb dX3_addMoved_31 rfl hl (by decide) rfl (fun ls hl => ?_)
        refine lv_aload_n hx hb dX3_addMoved_32 rfl (lv_at hl 1 rfl) ?_
        refine lv_iload_n hx hb dX3_addMoved_33 rfl (lv_at hl 3 rfl) ?_
        refine m_pVn hx hb hml hown hts hK hH hl (rest := []) cw_X3_65 (c3_word hA ((i : Nat) : Int) ld w gr2 (by first | assumption | omega) (by first | assumption | omega) e59 e62 e63) ⟨Nat.le_of_ble_eq_true rfl, Nat.le_of_ble_eq_true rfl⟩ ⟨Nat.le_of_ble_eq_true rfl, Nat.le_of_ble_eq_true rfl⟩ rfl (k := 59) (by omega) e59 rfl rfl (Nat.le_of_ble_eq_true rfl) dX3_addMoved_34 (fun H locs hH => ?_)
        refine lv_iload_n hx hb dX3_addMoved_37 rfl (lv_at hl 2 rfl) ?_
        refine m_lushr ((oWd w ((i : Nat) : Int)) / 2 ^ d) hx hb dX3_addMoved_38 (hW _) (by omega) (by rw [show (((d : Nat) : Int) : Int).toNat = d by omega]) ?_
        refine lv_aload_n hx hb dX3_addMoved_39 rfl (lv_at hl 1 rfl) ?_
        refine lv_iload_n hx hb dX3_addMoved_40 rfl (lv_at hl 3 rfl) ?_
        refine m_iconst 1 hx hb dX3_addMoved_41 rfl ?_
        refine m_iadd (((i : Nat) : Int) + 1) hx hb dX3_addMoved_42 (by omega) ?_
        refine m_pVn hx hb hml hown hts hK hH hl (rest := [.long (lN ((oWd w ((i : Nat) : Int)) / 2 ^ d))]) cw_X3_65 (c3_word hA (((i : Nat) : Int) + 1) ld w gr2 (by first | assumption | omega) (by first | assumption | omega) e59 e62 e63) ⟨Nat.le_of_ble_eq_true rfl, Nat.le_of_ble_eq_true rfl⟩ ⟨Nat.le_of_ble_eq_true rfl, Nat.le_of_ble_eq_true rfl⟩ rfl (k := 59) (by omega) e59 rfl rfl (Nat.le_of_ble_eq_true rfl) dX3_addMoved_43 (fun H locs hH => ?_)
        refine m_bipush 64 hx hb dX3_addMoved_46 (by decide) ?_
        refine lv_iload_n hx hb dX3_addMoved_48 rfl (lv_at hl 2 rfl) ?_
        refine m_isub (-((d : Nat) : Int) + 64) hx hb dX3_addMoved_49 (by omega) ?_
        refine m_lshl ((oWd w (((i : Nat) : Int) + 1)) * 2 ^ (64 - d)) hx hb dX3_addMoved_50 (by omega) (by rw [show (-((d : Nat) : Int) + 64 : Int).toNat = 64 - d by omega]) ?_
        refine m_topM (oShl (oWd w (((i : Nat) : Int) + 1)) (64 - d)) (rfl) ?_
        refine m_lor (oBk w d i) hx hb dX3_addMoved_51 (rfl) ?_
        refine lv_lstore (lv' := [(5, .long (lN (oBk w d i))), (3, .long (lN (oFw w d i))), (0, .ref (ad (59))), (1, .int (oI (((d : Nat) : Int)))), (2, .int (oI (((i : Nat) : Int))))]) hx hb dX3_addMoved_52 hl (by decide) rfl (fun ls hl => ?_)
        refine lv_aload_n hx hb dX3_addMoved_54 rfl (lv_at hl 2 rfl) ?_
        refine gf_X3_grown hx hb hts hown hK hH (k := 59) (by omega) e59 dX3_addMoved_55 ?_
        refine lv_iload_n hx hb dX3_addMoved_58 rfl (lv_at hl 4 rfl) ?_
        refine lv_dup2_11 hx hb dX3_addMoved_59 rfl rfl ?_
        refine m_lald hx hb hK hH (k := 63) (by omega) e63 (i) (by omega) (by omega) (by decide) dX3_addMoved_60 ?_
        refine lv_lload_n hx hb dX3_addMoved_61 rfl (lv_at hl 1 rfl) ?_
        refine lv_lload hx hb dX3_addMoved_62 (lv_at hl 0 rfl) ?_
        refine m_lor ((oFw w d i) ||| (oBk w d i)) hx hb dX3_addMoved_64 (rfl) ?_
        refine m_lor ((gr2 i) ||| ((oFw w d i) ||| (oBk w d i))) hx hb dX3_addMoved_65 (rfl) ?_
        refine m_last hx hb hK hH hA (k := 63) (by omega) e63 (i) (by omega) (by omega) (by decide) dX3_addMoved_66 (fun H locs σ_2 e63 hq_3 hH => ?_)
        have e63 : σ_2 (63) = oAJ cT 4 (va_up gr2 i ((gr2 i) ||| ((oFw w d i) ||| (oBk w d i)))) := e63.trans (oAJ_up _ _ _ _ _)
        have e59 : σ_2 (59) = .inr (3, [.ref (ad (60)), .ref (ad (61)), .int (oI (((ld : Nat) : Int))), .ref (ad (62)), .ref (ad (63))]) := (hq_3 _ (by decide)).trans e59
        have e62 : σ_2 (62) = oAJ cT 4 w := (hq_3 _ (by decide)).trans e62
        have hf : ∀ q : Nat, q ≠ 63 → σ_2 q = σ q := fun q n0 => (hq_3 q n0).trans (hf q n0)
        have hL2 : ∀ q : Nat, q ≠ 63 → σ_2 q = σ q := fun q n0 => (hq_3 q n0).trans (hL2 q n0)
        refine m_iinc (((i : Nat) : Int) + 1) [(2, .int (oI (((i : Nat) : Int) + 1))), (5, .long (lN (oBk w d i))), (3, .long (lN (oFw w d i))), (0, .ref (ad (59))), (1, .int (oI (((d : Nat) : Int))))] hx hb dX3_addMoved_67 hl (j := 4) rfl (by omega) (by decide) rfl (fun ls hl => ?_)
        refine lv_goto (tgt := 2) hx hb dX3_addMoved_70 (by decide) ?_
        exact ih2 (i + 1) (va_up gr2 i ((gr2 i) ||| ((oFw w d i) ||| (oBk w d i)))) (by omega) (by first | assumption | omega) (oMv_s (by omega) rfl hg) _ e63 (hL2) _ _ hH ls (lv_sub hl [3, 4, 0] rfl)
  exact L2 _ 0 gr (Nat.lt_succ_self _) (by first | assumption | omega) (fun q hq => by rw [if_neg (Nat.not_lt_zero _)]) _ e63 (fun q _ => rfl) _ _ hH ls (lv_sub hl [1, 2, 0] rfl)
set_option maxHeartbeats 4000000 in
set_option maxRecDepth 100000 in
theorem c3_takeGrown {l : Launch} {D : va_G} {cT : Nat → ClassId} {N b0 : Nat} {ad : Nat → Nat} (hA : oAd b0 N ad) {σ : Nat → va_E} (ld : Nat) (w gr : Nat → Nat) (hN : 76 ≤ N) (hgr : ∀ i : Nat, i < 4 → gr i < 2 ^ 64) (hw : ∀ i : Nat, i < 4 → w i < 2 ^ 64) (e59 : σ (59) = .inr (3, [.ref (ad (60)), .ref (ad (61)), .int (oI (((ld : Nat) : Int))), .ref (ad (62)), .ref (ad (63))])) (e62 : σ (62) = oAJ cT 4 w) (e63 : σ (63) = oAJ cT 4 gr) :
    oCi l D cT N ad b0 yX3_takeGrown cX3_takeGrown 5 (some .boolean) 0 0 [.ref (ad (59))] σ (fun rr uu => ∃ mo : Int, ∃ w2 : Nat → Nat, rr = oI (mo) ∧ (mo = 0 ∨ mo = 1) ∧ (mo = 0 → ∀ q : Nat, q < 4 → w2 q = w q) ∧ (∀ q : Nat, q < 4 → w2 q = oTk gr q) ∧ uu (62) = oAJ cT 4 w2 ∧ (∀ q : Nat, q ≠ 62 → uu q = σ q)) := by
  refine m_start (cc := cX3_takeGrown) (by decide) (Nat.le_of_ble_eq_true rfl) rfl ?_
  intro Pp Ee Ss Mm Bb Me Cc Ar ls hx hb hml hown hlk hrt hts hK hH hl
  have hown : Ss.vm.findClass RX3 = some Mm.cls := hown
  have hl : lv_has ls 5 [(0, .ref (ad (59)))] := hl
  have hf : ∀ q : Nat, q ≠ 62 → σ q = σ q := fun q _ => rfl
  refine m_iconst 0 hx hb dX3_takeGrown_0 rfl ?_
  refine lv_istore_n (lv' := [(1, .int (oI (0))), (0, .ref (ad (59)))]) hx hb dX3_takeGrown_1 rfl hl (by decide) rfl (fun ls hl => ?_)
  refine m_iconst 0 hx hb dX3_takeGrown_2 rfl ?_
  refine lv_istore_n (lv' := [(2, .int (oI (0))), (1, .int (oI (0))), (0, .ref (ad (59)))]) hx hb dX3_takeGrown_3 rfl hl (by decide) rfl (fun ls hl => ?_)
  have L4 : ∀ (fu : Nat) (i : Nat) (mo : Int) (w2 : Nat → Nat), (4 - i < fu) → (i ≤ 4) → (mo = 0 ∨ mo = 1) → (mo = 0 → ∀ q : Nat, q < i → w2 q = w q) → (∀ q : Nat, q < 4 → w2 q = if q < i then oTk gr q else w q) → ∀ σL4 : Nat → va_E, σL4 (62) = oAJ cT 4 w2 → (∀ q : Nat, q ≠ 62 → σL4 q = σ q) → ∀ (H : Heap) (locs : List Loc), oH b0 D N ad Ss.heap σL4 H locs → ∀ ls : Array Slot, lv_has ls 5 [(0, .ref (ad (59))), (1, .int (oI (mo))), (2, .int (oI (((i : Nat) : Int))))] → W Pp l Ee { frames := 0, cells := 0, slots := 0, locals := 0 } Ss Mm Ar Bb Me Cc H locs 0 0 (MQ Bb (va_Qi (fun rr uu => ∃ mo : Int, ∃ w2 : Nat → Nat, rr = oI (mo) ∧ (mo = 0 ∨ mo = 1) ∧ (mo = 0 → ∀ q : Nat, q < 4 → w2 q = w q) ∧ (∀ q : Nat, q < 4 → w2 q = oTk gr q) ∧ uu (62) = oAJ cT 4 w2 ∧ (∀ q : Nat, q ≠ 62 → uu q = σ q)) (oV D N ad) (fun q => b0 ≤ q)) Ar Ss 0 0 (fun q => b0 ≤ q)) (F0 Mm 4 ls []) := by
    intro fu4
    induction fu4 with
    | zero =>
      intro i mo w2 hm4
      exact absurd hm4 (Nat.not_lt_zero _)
    | succ fu4 ih4 =>
      intro i mo w2 hm4 hi hmo hk hg σL4 e62 hL4 H locs hH ls hl
      have e59 : σL4 (59) = .inr (3, [.ref (ad (60)), .ref (ad (61)), .int (oI (((ld : Nat) : Int))), .ref (ad (62)), .ref (ad (63))]) := (hL4 _ (by decide)).trans e59
      have e63 : σL4 (63) = oAJ cT 4 gr := (hL4 _ (by decide)).trans e63
      have hf : ∀ q : Nat, q ≠ 62 → σL4 q = σ q := fun q n0 => (hL4 q n0).trans (hf q n0)
      refine lv_iload_n hx hb dX3_takeGrown_4 rfl (lv_at hl 2 rfl) ?_
      refine lv_aload_n hx hb dX3_takeGrown_5 rfl (lv_at hl 0 rfl) ?_
      refine gf_X3_reached hx hb hts hown hK hH (k := 59) (by omega) e59 dX3_takeGrown_6 ?_
      refine m_alen hx hb hK hH (k := 62) (by omega) e62 1 rfl 4 rfl dX3_takeGrown_9 ?_
      refine m_icmp_ge 81 hx hb dX3_takeGrown_10 (by decide) (by omega) (by omega) (fun h_1 => ?_) (fun h_1 => ?_)
      · refine lv_iload_n hx hb dX3_takeGrown_81 rfl (lv_at hl 1 rfl) ?_
        exact m_iret hx hb hlk hrt hH (m_zb hmo) dX3_takeGrown_82 ⟨mo, w2, rfl, hmo, (fun z q hq => hk z q (by omega)), (fun q hq => by rw [hg q hq, if_pos (by omega)]), e62, hf⟩
      · refine lv_iload_n hx hb dX3_takeGrown_13 rfl (lv_at hl 2 rfl) ?_
        refine lv_aload_n hx hb dX3_takeGrown_14 rfl (lv_at hl 0 rfl) ?_
        refine gf_X3_grown hx hb hts hown hK hH (k := 59) (by omega) e59 dX3_takeGrown_15 ?_
        refine m_alen hx hb hK hH (k := 63) (by omega) e63 1 rfl 4 rfl dX3_takeGrown_18 ?_
        refine m_icmp_ge 81 hx hb dX3_takeGrown_19 (by decide) (by omega) (by omega) (fun h_2 => absurd h_2 (by omega)) (fun h_2 => ?_)
        refine lv_iload_n hx hb dX3_takeGrown_22 rfl (lv_at hl 2 rfl) ?_
        refine m_iconst 3 hx hb dX3_takeGrown_23 rfl ?_
        refine m_icmp_ne 40 hx hb dX3_takeGrown_24 (by decide) (by omega) (by omega) (fun h_3 => ?_) (fun h_3 => ?_)
        · have hv : gr i = oTk gr i := (if_neg (by omega)).symm
          refine lv_aload_n hx hb dX3_takeGrown_40 rfl (lv_at hl 0 rfl) ?_
          refine gf_X3_grown hx hb hts hown hK hH (k := 59) (by omega) e59 dX3_takeGrown_41 ?_
          refine lv_iload_n hx hb dX3_takeGrown_44 rfl (lv_at hl 2 rfl) ?_
          refine m_lald hx hb hK hH (k := 63) (by omega) e63 (i) (by omega) (by omega) (by decide) dX3_takeGrown_45 ?_
          refine lv_lstore_n (lv' := [(3, .long (lN (gr i))), (0, .ref (ad (59))), (1, .int (oI (mo))), (2, .int (oI (((i : Nat) : Int))))]) hx hb dX3_takeGrown_46 rfl hl (by decide) rfl (fun ls hl => ?_)
          refine lv_iload_n hx hb dX3_takeGrown_47 rfl (lv_at hl 2 rfl) ?_
          refine m_if_ne 62 hx hb dX3_takeGrown_48 (by decide) (by omega) (fun h_4 => ?_) (fun h_4 => ?_)
          · refine m_iconst 1 hx hb dX3_takeGrown_62 rfl ?_
            refine lv_goto (tgt := 67) hx hb dX3_takeGrown_63 (by decide) ?_
            refine lv_istore_n (lv' := [(1, .int (oI (1))), (3, .long (lN (gr i))), (0, .ref (ad (59))), (2, .int (oI (((i : Nat) : Int))))]) hx hb dX3_takeGrown_67 rfl hl (by decide) rfl (fun ls hl => ?_)
            refine lv_aload_n hx hb dX3_takeGrown_68 rfl (lv_at hl 2 rfl) ?_
            refine gf_X3_reached hx hb hts hown hK hH (k := 59) (by omega) e59 dX3_takeGrown_69 ?_
            refine lv_iload_n hx hb dX3_takeGrown_72 rfl (lv_at hl 3 rfl) ?_
            refine lv_lload_n hx hb dX3_takeGrown_73 rfl (lv_at hl 1 rfl) ?_
            refine m_last hx hb hK hH hA (k := 62) (by omega) e62 (i) (by omega) (by omega) (by decide) dX3_takeGrown_74 (fun H locs σ_5 e62 hq_6 hH => ?_)
            have e62 : σ_5 (62) = oAJ cT 4 (va_up w2 i (gr i)) := e62.trans (oAJ_up _ _ _ _ _)
            have e59 : σ_5 (59) = .inr (3, [.ref (ad (60)), .ref (ad (61)), .int (oI (((ld : Nat) : Int))), .ref (ad (62)), .ref (ad (63))]) := (hq_6 _ (by decide)).trans e59
            have e63 : σ_5 (63) = oAJ cT 4 gr := (hq_6 _ (by decide)).trans e63
            have hf : ∀ q : Nat, q ≠ 62 → σ_5 q = σ q := fun q n0 => (hq_6 q n0).trans (hf q n0)
            have hL4 : ∀ q : Nat, q ≠ 62 → σ_5 q = σ q := fun q n0 => (hq_6 q n0).trans (hL4 q n0)
            refine m_iinc (((i : Nat) : Int) + 1) [(2, .int (oI (((i : Nat) : Int) + 1))), (1, .int (oI (1))), (3, .long (lN (gr i))), (0, .ref (ad (59)))] hx hb dX3_takeGrown_75 hl (j := 3) rfl (by omega) (by decide) rfl (fun ls hl => ?_)
            refine lv_goto (tgt := 4) hx hb dX3_takeGrown_78 (by decide) ?_
            exact ih4 (i + 1) 1 (va_up w2 i (gr i)) (by omega) (by first | assumption | omega) (by first | assumption | omega) (fun z => by omega) (oTk_s hv hg) _ e62 (hL4) _ _ hH ls (lv_sub hl [3, 1, 0] rfl)
          · refine lv_lload_n hx hb dX3_takeGrown_51 rfl (lv_at hl 0 rfl) ?_
            refine lv_aload_n hx hb dX3_takeGrown_52 rfl (lv_at hl 1 rfl) ?_
            refine gf_X3_reached hx hb hts hown hK hH (k := 59) (by omega) e59 dX3_takeGrown_53 ?_
            refine lv_iload_n hx hb dX3_takeGrown_56 rfl (lv_at hl 3 rfl) ?_
            refine m_lald hx hb hK hH (k := 62) (by omega) e62 (i) (by omega) (by omega) (by decide) dX3_takeGrown_57 ?_
            refine m_lcmpN_eq 66 hx hb dX3_takeGrown_58 dX3_takeGrown_59 (by decide) (by rw [hv]; exact oTk_64 hgr (by omega)) (by rw [hg i (by omega), if_neg (Nat.lt_irrefl _)]; exact hw i (by omega)) (fun hz => ?_) (fun hz => ?_)
            · refine m_iconst 0 hx hb dX3_takeGrown_66 rfl ?_
              refine lv_istore_n (lv' := [(1, .int (oI (0))), (3, .long (lN (gr i))), (0, .ref (ad (59))), (2, .int (oI (((i : Nat) : Int))))]) hx hb dX3_takeGrown_67 rfl hl (by decide) rfl (fun ls hl => ?_)
              refine lv_aload_n hx hb dX3_takeGrown_68 rfl (lv_at hl 2 rfl) ?_
              refine gf_X3_reached hx hb hts hown hK hH (k := 59) (by omega) e59 dX3_takeGrown_69 ?_
              refine lv_iload_n hx hb dX3_takeGrown_72 rfl (lv_at hl 3 rfl) ?_
              refine lv_lload_n hx hb dX3_takeGrown_73 rfl (lv_at hl 1 rfl) ?_
              refine m_last hx hb hK hH hA (k := 62) (by omega) e62 (i) (by omega) (by omega) (by decide) dX3_takeGrown_74 (fun H locs σ_7 e62 hq_8 hH => ?_)
              have e62 : σ_7 (62) = oAJ cT 4 (va_up w2 i (gr i)) := e62.trans (oAJ_up _ _ _ _ _)
              have e59 : σ_7 (59) = .inr (3, [.ref (ad (60)), .ref (ad (61)), .int (oI (((ld : Nat) : Int))), .ref (ad (62)), .ref (ad (63))]) := (hq_8 _ (by decide)).trans e59
              have e63 : σ_7 (63) = oAJ cT 4 gr := (hq_8 _ (by decide)).trans e63
              have hf : ∀ q : Nat, q ≠ 62 → σ_7 q = σ q := fun q n0 => (hq_8 q n0).trans (hf q n0)
              have hL4 : ∀ q : Nat, q ≠ 62 → σ_7 q = σ q := fun q n0 => (hq_8 q n0).trans (hL4 q n0)
              refine m_iinc (((i : Nat) : Int) + 1) [(2, .int (oI (((i : Nat) : Int) + 1))), (1, .int (oI (0))), (3, .long (lN (gr i))), (0, .ref (ad (59)))] hx hb dX3_takeGrown_75 hl (j := 3) rfl (by omega) (by decide) rfl (fun ls hl => ?_)
              refine lv_goto (tgt := 4) hx hb dX3_takeGrown_78 (by decide) ?_
              exact ih4 (i + 1) 0 (va_up w2 i (gr i)) (by omega) (by first | assumption | omega) (by first | assumption | omega) (fun _ => oTk_k (by omega) hz hg (hk (by omega))) (oTk_s hv hg) _ e62 (hL4) _ _ hH ls (lv_sub hl [3, 1, 0] rfl)
            · refine m_iconst 1 hx hb dX3_takeGrown_62 rfl ?_
              refine lv_goto (tgt := 67) hx hb dX3_takeGrown_63 (by decide) ?_
              refine lv_istore_n (lv' := [(1, .int (oI (1))), (3, .long (lN (gr i))), (0, .ref (ad (59))), (2, .int (oI (((i : Nat) : Int))))]) hx hb dX3_takeGrown_67 rfl hl (by decide) rfl (fun ls hl => ?_)
              refine lv_aload_n hx hb dX3_takeGrown_68 rfl (lv_at hl 2 rfl) ?_
              refine gf_X3_reached hx hb hts hown hK hH (k := 59) (by omega) e59 dX3_takeGrown_69 ?_
              refine lv_iload_n hx hb dX3_takeGrown_72 rfl (lv_at hl 3 rfl) ?_
              refine lv_lload_n hx hb dX3_takeGrown_73 rfl (lv_at hl 1 rfl) ?_
              refine m_last hx hb hK hH hA (k := 62) (by omega) e62 (i) (by omega) (by omega) (by decide) dX3_takeGrown_74 (fun H locs σ_9 e62 hq_10 hH => ?_)
              have e62 : σ_9 (62) = oAJ cT 4 (va_up w2 i (gr i)) := e62.trans (oAJ_up _ _ _ _ _)
              have e59 : σ_9 (59) = .inr (3, [.ref (ad (60)), .ref (ad (61)), .int (oI (((ld : Nat) : Int))), .ref (ad (62)), .ref (ad (63))]) := (hq_10 _ (by decide)).trans e59
              have e63 : σ_9 (63) = oAJ cT 4 gr := (hq_10 _ (by decide)).trans e63
              have hf : ∀ q : Nat, q ≠ 62 → σ_9 q = σ q := fun q n0 => (hq_10 q n0).trans (hf q n0)
              have hL4 : ∀ q : Nat, q ≠ 62 → σ_9 q = σ q := fun q n0 => (hq_10 q n0).trans (hL4 q n0)
              refine m_iinc (((i : Nat) : Int) + 1) [(2, .int (oI (((i : Nat) : Int) + 1))), (1, .int (oI (1))), (3, .long (lN (gr i))), (0, .ref (ad (59)))] hx hb dX3_takeGrown_75 hl (j := 3) rfl (by omega) (by decide) rfl (fun ls hl => ?_)
              refine lv_goto (tgt := 4) hx hb dX3_takeGrown_78 (by decide) ?_
              exact ih4 (i + 1) 1 (va_up w2 i (gr i)) (by omega) (by first | assumption | omega) (by first | assumption | omega) (fun z => by omega) (oTk_s hv hg) _ e62 (hL4) _ _ hH ls (lv_sub hl [3, 1, 0] rfl)
        · have hv : gr i &&& 511 = oTk gr i := (if_pos (by omega)).symm
          refine lv_aload_n hx hb dX3_takeGrown_27 rfl (lv_at hl 0 rfl) ?_
          refine gf_X3_grown hx hb hts hown hK hH (k := 59) (by omega) e59 dX3_takeGrown_28 ?_
          refine lv_iload_n hx hb dX3_takeGrown_31 rfl (lv_at hl 2 rfl) ?_
          refine m_lald hx hb hK hH (k := 63) (by omega) e63 (i) (by omega) (by omega) (by decide) dX3_takeGrown_32 ?_
          refine lv_ldc2 (v := 511) hx hb hown (hts _ kl_X3_80) dX3_takeGrown_33 ?_
          refine m_J2N 511 (by decide +kernel) ?_
          refine m_land ((gr i) &&& 511) hx hb dX3_takeGrown_36 (rfl) ?_
          refine lv_goto (tgt := 46) hx hb dX3_takeGrown_37 (by decide) ?_
          refine lv_lstore_n (lv' := [(3, .long (lN ((gr i) &&& 511))), (0, .ref (ad (59))), (1, .int (oI (mo))), (2, .int (oI (((i : Nat) : Int))))]) hx hb dX3_takeGrown_46 rfl hl (by decide) rfl (fun ls hl => ?_)
          refine lv_iload_n hx hb dX3_takeGrown_47 rfl (lv_at hl 2 rfl) ?_
          refine m_if_ne 62 hx hb dX3_takeGrown_48 (by decide) (by omega) (fun h_11 => ?_) (fun h_11 => ?_)
          · refine m_iconst 1 hx hb dX3_takeGrown_62 rfl ?_
            refine lv_goto (tgt := 67) hx hb dX3_takeGrown_63 (by decide) ?_
            refine lv_istore_n (lv' := [(1, .int (oI (1))), (3, .long (lN ((gr i) &&& 511))), (0, .ref (ad (59))), (2, .int (oI (((i : Nat) : Int))))]) hx hb dX3_takeGrown_67 rfl hl (by decide) rfl (fun ls hl => ?_)
            refine lv_aload_n hx hb dX3_takeGrown_68 rfl (lv_at hl 2 rfl) ?_
            refine gf_X3_reached hx hb hts hown hK hH (k := 59) (by omega) e59 dX3_takeGrown_69 ?_
            refine lv_iload_n hx hb dX3_takeGrown_72 rfl (lv_at hl 3 rfl) ?_
            refine lv_lload_n hx hb dX3_takeGrown_73 rfl (lv_at hl 1 rfl) ?_
            refine m_last hx hb hK hH hA (k := 62) (by omega) e62 (i) (by omega) (by omega) (by decide) dX3_takeGrown_74 (fun H locs σ_12 e62 hq_13 hH => ?_)
            have e62 : σ_12 (62) = oAJ cT 4 (va_up w2 i ((gr i) &&& 511)) := e62.trans (oAJ_up _ _ _ _ _)
            have e59 : σ_12 (59) = .inr (3, [.ref (ad (60)), .ref (ad (61)), .int (oI (((ld : Nat) : Int))), .ref (ad (62)), .ref (ad (63))]) := (hq_13 _ (by decide)).trans e59
            have e63 : σ_12 (63) = oAJ cT 4 gr := (hq_13 _ (by decide)).trans e63
            have hf : ∀ q : Nat, q ≠ 62 → σ_12 q = σ q := fun q n0 => (hq_13 q n0).trans (hf q n0)
            have hL4 : ∀ q : Nat, q ≠ 62 → σ_12 q = σ q := fun q n0 => (hq_13 q n0).trans (hL4 q n0)
            refine m_iinc (((i : Nat) : Int) + 1) [(2, .int (oI (((i : Nat) : Int) + 1))), (1, .int (oI (1))), (3, .long (lN ((gr i) &&& 511))), (0, .ref (ad (59)))] hx hb dX3_takeGrown_75 hl (j := 3) rfl (by omega) (by decide) rfl (fun ls hl => ?_)
            refine lv_goto (tgt := 4) hx hb dX3_takeGrown_78 (by decide) ?_
            exact ih4 (i + 1) 1 (va_up w2 i ((gr i) &&& 511)) (by omega) (by first | assumption | omega) (by first | assumption | omega) (fun z => by omega) (oTk_s hv hg) _ e62 (hL4) _ _ hH ls (lv_sub hl [3, 1, 0] rfl)
          · refine lv_lload_n hx hb dX3_takeGrown_51 rfl (lv_at hl 0 rfl) ?_
            refine lv_aload_n hx hb dX3_takeGrown_52 rfl (lv_at hl 1 rfl) ?_
            refine gf_X3_reached hx hb hts hown hK hH (k := 59) (by omega) e59 dX3_takeGrown_53 ?_
            refine lv_iload_n hx hb dX3_takeGrown_56 rfl (lv_at hl 3 rfl) ?_
            refine m_lald hx hb hK hH (k := 62) (by omega) e62 (i) (by omega) (by omega) (by decide) dX3_takeGrown_57 ?_
            refine m_lcmpN_eq 66 hx hb dX3_takeGrown_58 dX3_takeGrown_59 (by decide) (by rw [hv]; exact oTk_64 hgr (by omega)) (by rw [hg i (by omega), if_neg (Nat.lt_irrefl _)]; exact hw i (by omega)) (fun hz => ?_) (fun hz => ?_)
            · refine m_iconst 0 hx hb dX3_takeGrown_66 rfl ?_
              refine lv_istore_n (lv' := [(1, .int (oI (0))), (3, .long (lN ((gr i) &&& 511))), (0, .ref (ad (59))), (2, .int (oI (((i : Nat) : Int))))]) hx hb dX3_takeGrown_67 rfl hl (by decide) rfl (fun ls hl => ?_)
              refine lv_aload_n hx hb dX3_takeGrown_68 rfl (lv_at hl 2 rfl) ?_
              refine gf_X3_reached hx hb hts hown hK hH (k := 59) (by omega) e59 dX3_takeGrown_69 ?_
              refine lv_iload_n hx hb dX3_takeGrown_72 rfl (lv_at hl 3 rfl) ?_
              refine lv_lload_n hx hb dX3_takeGrown_73 rfl (lv_at hl 1 rfl) ?_
              refine m_last hx hb hK hH hA (k := 62) (by omega) e62 (i) (by omega) (by omega) (by decide) dX3_takeGrown_74 (fun H locs σ_14 e62 hq_15 hH => ?_)
              have e62 : σ_14 (62) = oAJ cT 4 (va_up w2 i ((gr i) &&& 511)) := e62.trans (oAJ_up _ _ _ _ _)
              have e59 : σ_14 (59) = .inr (3, [.ref (ad (60)), .ref (ad (61)), .int (oI (((ld : Nat) : Int))), .ref (ad (62)), .ref (ad (63))]) := (hq_15 _ (by decide)).trans e59
              have e63 : σ_14 (63) = oAJ cT 4 gr := (hq_15 _ (by decide)).trans e63
              have hf : ∀ q : Nat, q ≠ 62 → σ_14 q = σ q := fun q n0 => (hq_15 q n0).trans (hf q n0)
              have hL4 : ∀ q : Nat, q ≠ 62 → σ_14 q = σ q := fun q n0 => (hq_15 q n0).trans (hL4 q n0)
              refine m_iinc (((i : Nat) : Int) + 1) [(2, .int (oI (((i : Nat) : Int) + 1))), (1, .int (oI (0))), (3, .long (lN ((gr i) &&& 511))), (0, .ref (ad (59)))] hx hb dX3_takeGrown_75 hl (j := 3) rfl (by omega) (by decide) rfl (fun ls hl => ?_)
              refine lv_goto (tgt := 4) hx hb dX3_takeGrown_78 (by decide) ?_
              exact ih4 (i + 1) 0 (va_up w2 i ((gr i) &&& 511)) (by omega) (by first | assumption | omega) (by first | assumption | omega) (fun _ => oTk_k (by omega) hz hg (hk (by omega))) (oTk_s hv hg) _ e62 (hL4) _ _ hH ls (lv_sub hl [3, 1, 0] rfl)
            · refine m_iconst 1 hx hb dX3_takeGrown_62 rfl ?_
              refine lv_goto (tgt := 67) hx hb dX3_takeGrown_63 (by decide) ?_
              refine lv_istore_n (lv' := [(1, .int (oI (1))), (3, .long (lN ((gr i) &&& 511))), (0, .ref (ad (59))), (2, .int (oI (((i : Nat) : Int))))]) hx hb dX3_takeGrown_67 rfl hl (by decide) rfl (fun ls hl => ?_)
              refine lv_aload_n hx hb dX3_takeGrown_68 rfl (lv_at hl 2 rfl) ?_
              refine gf_X3_reached hx hb hts hown hK hH (k := 59) (by omega) e59 dX3_takeGrown_69 ?_
              refine lv_iload_n hx hb dX3_takeGrown_72 rfl (lv_at hl 3 rfl) ?_
              refine lv_lload_n hx hb dX3_takeGrown_73 rfl (lv_at hl 1 rfl) ?_
              refine m_last hx hb hK hH hA (k := 62) (by omega) e62 (i) (by omega) (by omega) (by decide) dX3_takeGrown_74 (fun H locs σ_16 e62 hq_17 hH => ?_)
              have e62 : σ_16 (62) = oAJ cT 4 (va_up w2 i ((gr i) &&& 511)) := e62.trans (oAJ_up _ _ _ _ _)
              have e59 : σ_16 (59) = .inr (3, [.ref (ad (60)), .ref (ad (61)), .int (oI (((ld : Nat) : Int))), .ref (ad (62)), .ref (ad (63))]) := (hq_17 _ (by decide)).trans e59
              have e63 : σ_16 (63) = oAJ cT 4 gr := (hq_17 _ (by decide)).trans e63
              have hf : ∀ q : Nat, q ≠ 62 → σ_16 q = σ q := fun q n0 => (hq_17 q n0).trans (hf q n0)
              have hL4 : ∀ q : Nat, q ≠ 62 → σ_16 q = σ q := fun q n0 => (hq_17 q n0).trans (hL4 q n0)
              refine m_iinc (((i : Nat) : Int) + 1) [(2, .int (oI (((i : Nat) : Int) + 1))), (1, .int (oI (1))), (3, .long (lN ((gr i) &&& 511))), (0, .ref (ad (59)))] hx hb dX3_takeGrown_75 hl (j := 3) rfl (by omega) (by decide) rfl (fun ls hl => ?_)
              refine lv_goto (tgt := 4) hx hb dX3_takeGrown_78 (by decide) ?_
              exact ih4 (i + 1) 1 (va_up w2 i ((gr i) &&& 511)) (by omega) (by first | assumption | omega) (by first | assumption | omega) (fun z => by omega) (oTk_s hv hg) _ e62 (hL4) _ _ hH ls (lv_sub hl [3, 1, 0] rfl)
  exact L4 _ 0 0 w (Nat.lt_succ_self _) (by first | assumption | omega) (by first | assumption | omega) (fun _ q h => absurd h (Nat.not_lt_zero _)) (fun q hq => by rw [if_neg (Nat.not_lt_zero _)]) _ e62 (fun q _ => rfl) _ _ hH ls (lv_sub hl [2, 1, 0] rfl)
set_option maxHeartbeats 4000000 in
set_option maxRecDepth 100000 in
theorem c3_layNothing {l : Launch} {D : va_G} {cT : Nat → ClassId} {N b0 : Nat} {ad : Nat → Nat} (hA : oAd b0 N ad) {σ : Nat → va_E} (ld : Nat) (w gr : Nat → Nat) (hN : 76 ≤ N) (e59 : σ (59) = .inr (3, [.ref (ad (60)), .ref (ad (61)), .int (oI (((ld : Nat) : Int))), .ref (ad (62)), .ref (ad (63))])) (e62 : σ (62) = oAJ cT 4 w) (e63 : σ (63) = oAJ cT 4 gr) :
    oCv l D cT N ad b0 yX3_layNothing cX3_layNothing 1 none 1 24 [.ref (ad (59))] σ (fun uu => ∃ w2 : Nat → Nat, (∀ i : Nat, i < 4 → w2 i = if i = 0 then 1 else 0) ∧ uu (62) = oAJ cT 4 w2 ∧ (∀ q : Nat, q ≠ 62 → uu q = σ q)) := by
  refine m_start (cc := cX3_layNothing) (by decide) (Nat.le_of_ble_eq_true rfl) rfl ?_
  intro Pp Ee Ss Mm Bb Me Cc Ar ls hx hb hml hown hlk hrt hts hK hH hl
  have hown : Ss.vm.findClass RX3 = some Mm.cls := hown
  have hl : lv_has ls 1 [(0, .ref (ad (59)))] := hl
  have hf : ∀ q : Nat, q ≠ 62 → σ q = σ q := fun q _ => rfl
  refine lv_aload_n hx hb dX3_layNothing_0 rfl (lv_at hl 0 rfl) ?_
  refine gf_X3_reached hx hb hts hown hK hH (k := 59) (by omega) e59 dX3_layNothing_1 ?_
  refine m_lconstN 0 hx hb dX3_layNothing_4 rfl ?_
  refine m_callFv hx hb hml hown hts hK hH hl (rest := []) cw_X3_62 (cJ_fillJ hA 62 w (by omega) e62) ⟨Nat.le_of_ble_eq_true rfl, Nat.le_of_ble_eq_true rfl⟩ ⟨Nat.le_of_ble_eq_true rfl, Nat.le_of_ble_eq_true rfl⟩ rfl rfl (Nat.le_of_ble_eq_true rfl) dX3_layNothing_5 (fun σ_1 H locs hp_2 hH => ?_)
  obtain ⟨e62, hq_3⟩ := hp_2
  have e59 : σ_1 (59) = .inr (3, [.ref (ad (60)), .ref (ad (61)), .int (oI (((ld : Nat) : Int))), .ref (ad (62)), .ref (ad (63))]) := (hq_3 _ (by decide)).trans e59
  have e63 : σ_1 (63) = oAJ cT 4 gr := (hq_3 _ (by decide)).trans e63
  have hf : ∀ q : Nat, q ≠ 62 → σ_1 q = σ q := fun q n0 => (hq_3 q n0).trans (hf q n0)
  refine lv_aload_n hx hb dX3_layNothing_8 rfl (lv_at hl 0 rfl) ?_
  refine gf_X3_reached hx hb hts hown hK hH (k := 59) (by omega) e59 dX3_layNothing_9 ?_
  refine m_alen hx hb hK hH (k := 62) (by omega) e62 1 rfl 4 rfl dX3_layNothing_12 ?_
  refine m_if_le 23 hx hb dX3_layNothing_13 (by decide) (by omega) (fun h_5 => absurd h_5 (by omega)) (fun h_5 => ?_)
  refine lv_aload_n hx hb dX3_layNothing_16 rfl (lv_at hl 0 rfl) ?_
  refine gf_X3_reached hx hb hts hown hK hH (k := 59) (by omega) e59 dX3_layNothing_17 ?_
  refine m_iconst 0 hx hb dX3_layNothing_20 rfl ?_
  refine m_lconstN 1 hx hb dX3_layNothing_21 rfl ?_
  refine m_last hx hb hK hH hA (k := 62) (by omega) e62 (0) (by omega) (by omega) (by decide) dX3_layNothing_22 (fun H locs σ_6 e62 hq_7 hH => ?_)
  have e62 : σ_6 (62) = oAJ cT 4 (va_up (fun q => if q < 4 then 0 else w q) 0 1) := e62.trans (oAJ_up _ _ _ _ _)
  have e59 : σ_6 (59) = .inr (3, [.ref (ad (60)), .ref (ad (61)), .int (oI (((ld : Nat) : Int))), .ref (ad (62)), .ref (ad (63))]) := (hq_7 _ (by decide)).trans e59
  have e63 : σ_6 (63) = oAJ cT 4 gr := (hq_7 _ (by decide)).trans e63
  have hf : ∀ q : Nat, q ≠ 62 → σ_6 q = σ q := fun q n0 => (hq_7 q n0).trans (hf q n0)
  exact m_vret hx hb hlk hrt hH dX3_layNothing_23 ⟨(va_up (fun q => if q < 4 then 0 else w q) 0 1), (fun i hi => by by_cases e : i = 0 <;> simp [va_up, e, hi]), e62, hf⟩
set_option maxHeartbeats 4000000 in
set_option maxRecDepth 100000 in
theorem c3_layOneMore {l : Launch} {D : va_G} {cT : Nat → ClassId} {N b0 : Nat} {ad : Nat → Nat} (hA : oAd b0 N ad) {σ : Nat → va_E} (sp k ld : Nat) (w gr : Nat → Nat) (hN : 76 ≤ N) (hX : oXw sp k w) (hsp : sp < 2 ^ 64) (e59 : σ (59) = .inr (3, [.ref (ad (60)), .ref (ad (61)), .int (oI (((ld : Nat) : Int))), .ref (ad (62)), .ref (ad (63))])) (e62 : σ (62) = oAJ cT 4 w) (e63 : σ (63) = oAJ cT 4 gr) :
    oCi l D cT N ad b0 yX3_layOneMore cX3_layOneMore 4 (some .boolean) 2 47 [.ref (ad (59)), .long (lN (sp))] σ (fun rr uu => ∃ mo : Int, ∃ w2 : Nat → Nat, ∃ gr2 : Nat → Nat, rr = oI (mo) ∧ (mo = 0 ∨ mo = 1) ∧ (mo = 0 → ∀ t : Nat, oR sp 0 (k + 1) t → oR sp 0 k t) ∧ (oXw sp (k + 1) w2) ∧ uu (62) = oAJ cT 4 w2 ∧ uu (63) = oAJ cT 4 gr2 ∧ (∀ q : Nat, q ≠ 62 → q ≠ 63 → uu q = σ q)) := by
  refine m_start (cc := cX3_layOneMore) (by decide) (Nat.le_of_ble_eq_true rfl) rfl ?_
  intro Pp Ee Ss Mm Bb Me Cc Ar ls hx hb hml hown hlk hrt hts hK hH hl
  have hown : Ss.vm.findClass RX3 = some Mm.cls := hown
  have hl : lv_has ls 4 [(0, .ref (ad (59))), (1, .long (lN (sp)))] := hl
  have hf : ∀ q : Nat, q ≠ 62 → q ≠ 63 → σ q = σ q := fun q _ _ => rfl
  refine m_iconst 0 hx hb dX3_layOneMore_0 rfl ?_
  refine lv_istore_n (lv' := [(3, .int (oI (0))), (0, .ref (ad (59))), (1, .long (lN (sp)))]) hx hb dX3_layOneMore_1 rfl hl (by decide) rfl (fun ls hl => ?_)
  have L2 : ∀ (fu : Nat) (i : Nat) (gr1 : Nat → Nat), (4 - i < fu) → (i ≤ 4) → (∀ q : Nat, q < i → gr1 q = oWd w ((q : Nat) : Int)) → ∀ σL2 : Nat → va_E, σL2 (63) = oAJ cT 4 gr1 → (∀ q : Nat, q ≠ 63 → σL2 q = σ q) → ∀ (H : Heap) (locs : List Loc), oH b0 D N ad Ss.heap σL2 H locs → ∀ ls : Array Slot, lv_has ls 4 [(0, .ref (ad (59))), (1, .long (lN (sp))), (3, .int (oI (((i : Nat) : Int))))] → W Pp l Ee { frames := 2, cells := 0, slots := 0, locals := 47 } Ss Mm Ar Bb Me Cc H locs 0 0 (MQ Bb (va_Qi (fun rr uu => ∃ mo : Int, ∃ w2 : Nat → Nat, ∃ gr2 : Nat → Nat, rr = oI (mo) ∧ (mo = 0 ∨ mo = 1) ∧ (mo = 0 → ∀ t : Nat, oR sp 0 (k + 1) t → oR sp 0 k t) ∧ (oXw sp (k + 1) w2) ∧ uu (62) = oAJ cT 4 w2 ∧ uu (63) = oAJ cT 4 gr2 ∧ (∀ q : Nat, q ≠ 62 → q ≠ 63 → uu q = σ q)) (oV D N ad) (fun q => b0 ≤ q)) Ar Ss 0 0 (fun q => b0 ≤ q)) (F0 Mm 2 ls []) := by
    intro fu2
    induction fu2 with
    | zero =>
      intro i gr1 hm2
      exact absurd hm2 (Nat.not_lt_zero _)
    | succ fu2 ih2 =>
      intro i gr1 hm2 hi hg σL2 e63 hL2 H locs hH ls hl
      have e59 : σL2 (59) = .inr (3, [.ref (ad (60)), .ref (ad (61)), .int (oI (((ld : Nat) : Int))), .ref (ad (62)), .ref (ad (63))]) := (hL2 _ (by decide)).trans e59
      have e62 : σL2 (62) = oAJ cT 4 w := (hL2 _ (by decide)).trans e62
      have hf : ∀ q : Nat, q ≠ 62 → q ≠ 63 → σL2 q = σ q := fun q n0 n1 => (hL2 q n1).trans (hf q n0 n1)
      refine lv_iload_n hx hb dX3_layOneMore_2 rfl (lv_at hl 2 rfl) ?_
      refine m_iconst 4 hx hb dX3_layOneMore_3 rfl ?_
      refine m_icmp_ge 23 hx hb dX3_layOneMore_4 (by decide) (by omega) (by omega) (fun h_1 => ?_) (fun h_1 => ?_)
      · refine m_iconst 1 hx hb dX3_layOneMore_23 rfl ?_
        refine lv_istore_n (lv' := [(3, .int (oI (1))), (0, .ref (ad (59))), (1, .long (lN (sp)))]) hx hb dX3_layOneMore_24 rfl hl (by decide) rfl (fun ls hl => ?_)
        have L25 : ∀ (fu : Nat) (d : Nat) (gr2 : Nat → Nat), (41 - d < fu) → (1 ≤ d ∧ d ≤ 41) → (oGw sp k d gr2) → ∀ σL25 : Nat → va_E, σL25 (63) = oAJ cT 4 gr2 → (∀ q : Nat, q ≠ 63 → σL25 q = σL2 q) → ∀ (H : Heap) (locs : List Loc), oH b0 D N ad Ss.heap σL25 H locs → ∀ ls : Array Slot, lv_has ls 4 [(0, .ref (ad (59))), (1, .long (lN (sp))), (3, .int (oI (((d : Nat) : Int))))] → W Pp l Ee { frames := 2, cells := 0, slots := 0, locals := 47 } Ss Mm Ar Bb Me Cc H locs 0 0 (MQ Bb (va_Qi (fun rr uu => ∃ mo : Int, ∃ w2 : Nat → Nat, ∃ gr2 : Nat → Nat, rr = oI (mo) ∧ (mo = 0 ∨ mo = 1) ∧ (mo = 0 → ∀ t : Nat, oR sp 0 (k + 1) t → oR sp 0 k t) ∧ (oXw sp (k + 1) w2) ∧ uu (62) = oAJ cT 4 w2 ∧ uu (63) = oAJ cT 4 gr2 ∧ (∀ q : Nat, q ≠ 62 → q ≠ 63 → uu q = σ q)) (oV D N ad) (fun q => b0 ≤ q)) Ar Ss 0 0 (fun q => b0 ≤ q)) (F0 Mm 25 ls []) := by
          intro fu25
          induction fu25 with
          | zero =>
            intro d gr2 hm25
            exact absurd hm25 (Nat.not_lt_zero _)
          | succ fu25 ih25 =>
            intro d gr2 hm25 hd hG σL25 e63 hL25 H locs hH ls hl
            have e59 : σL25 (59) = .inr (3, [.ref (ad (60)), .ref (ad (61)), .int (oI (((ld : Nat) : Int))), .ref (ad (62)), .ref (ad (63))]) := (hL25 _ (by decide)).trans e59
            have e62 : σL25 (62) = oAJ cT 4 w := (hL25 _ (by decide)).trans e62
            have hf : ∀ q : Nat, q ≠ 62 → q ≠ 63 → σL25 q = σ q := fun q n0 n1 => (hL25 q n1).trans (hf q n0 n1)
            have hL2 : ∀ q : Nat, q ≠ 63 → σL25 q = σ q := fun q n0 => (hL25 q n0).trans (hL2 q n0)
            refine lv_iload_n hx hb dX3_layOneMore_25 rfl (lv_at hl 2 rfl) ?_
            refine m_bipush 40 hx hb dX3_layOneMore_26 (by decide) ?_
            refine m_icmp_gt 50 hx hb dX3_layOneMore_28 (by decide) (by omega) (by omega) (fun h_2 => ?_) (fun h_2 => ?_)
            · refine lv_aload_n hx hb dX3_layOneMore_50 rfl (lv_at hl 0 rfl) ?_
              have hG2 : oGw sp k 41 gr2 := by rw [show d = 41 by omega] at hG; exact hG
              refine m_callVi hx hb hml hown hts hK hH hl (rest := []) cw_X3_76 (c3_takeGrown hA ld w gr2 (by first | assumption | omega) (fun i hi => (hG i hi).1) (fun i hi => (hX i hi).1) e59 e62 e63) ⟨Nat.le_of_ble_eq_true rfl, Nat.le_of_ble_eq_true rfl⟩ ⟨Nat.le_of_ble_eq_true rfl, Nat.le_of_ble_eq_true rfl⟩ rfl (k := 59) (by omega) e59 rfl rfl (Nat.le_of_ble_eq_true rfl) dX3_layOneMore_51 (fun r_6 σ_3 H locs hp_4 hH => ?_)
              obtain ⟨mo, w2, rfl, hm0, hm1, hm2, e62, hq_5⟩ := hp_4
              have e59 : σ_3 (59) = .inr (3, [.ref (ad (60)), .ref (ad (61)), .int (oI (((ld : Nat) : Int))), .ref (ad (62)), .ref (ad (63))]) := (hq_5 _ (by decide)).trans e59
              have e63 : σ_3 (63) = oAJ cT 4 gr2 := (hq_5 _ (by decide)).trans e63
              have hf : ∀ q : Nat, q ≠ 62 → q ≠ 63 → σ_3 q = σ q := fun q n0 n1 => (hq_5 q n0).trans (hf q n0 n1)
              have hN2 := oXw_next hG2 hm2
              exact m_iret hx hb hlk hrt hH (m_zb hm0) dX3_layOneMore_54 ⟨mo, w2, gr2, rfl, hm0, (fun z t q => oXw_same hX hN2 (hm1 z) t q), hN2, e62, e63, hf⟩
            · refine lv_lload_n hx hb dX3_layOneMore_31 rfl (lv_at hl 1 rfl) ?_
              refine lv_iload_n hx hb dX3_layOneMore_32 rfl (lv_at hl 2 rfl) ?_
              refine m_pNb hx hb hml hown hts hK hH hl (rest := []) cn_X5_hasBit hK.2.1.1 (c5_hasBit hA sp ((d : Nat) : Int) (by first | assumption | omega) (by first | assumption | omega) ) ⟨Nat.le_of_ble_eq_true rfl, Nat.le_of_ble_eq_true rfl⟩ ⟨Nat.le_of_ble_eq_true rfl, Nat.le_of_ble_eq_true rfl⟩ rfl rfl (Nat.le_of_ble_eq_true rfl) dX3_layOneMore_33 (fun hz H locs hH => ?_) (fun hz H locs hH => ?_)
              · refine m_if_eq 44 hx hb dX3_layOneMore_36 (by decide) (by omega) (fun h_7 => absurd h_7 (by omega)) (fun h_7 => ?_)
                refine lv_aload_n hx hb dX3_layOneMore_39 rfl (lv_at hl 0 rfl) ?_
                refine lv_iload_n hx hb dX3_layOneMore_40 rfl (lv_at hl 2 rfl) ?_
                refine m_callVv hx hb hml hown hts hK hH hl (rest := []) cw_X3_72 (c3_addMoved hA d ld w gr2 (by first | assumption | omega) (by first | assumption | omega) (oWd_64 hX) e59 e62 e63) ⟨Nat.le_of_ble_eq_true rfl, Nat.le_of_ble_eq_true rfl⟩ ⟨Nat.le_of_ble_eq_true rfl, Nat.le_of_ble_eq_true rfl⟩ rfl (k := 59) (by omega) e59 rfl rfl (Nat.le_of_ble_eq_true rfl) dX3_layOneMore_41 (fun σ_8 H locs hp_9 hH => ?_)
                obtain ⟨gr3, hgm, e63, hq_10⟩ := hp_9
                have e59 : σ_8 (59) = .inr (3, [.ref (ad (60)), .ref (ad (61)), .int (oI (((ld : Nat) : Int))), .ref (ad (62)), .ref (ad (63))]) := (hq_10 _ (by decide)).trans e59
                have e62 : σ_8 (62) = oAJ cT 4 w := (hq_10 _ (by decide)).trans e62
                have hf : ∀ q : Nat, q ≠ 62 → q ≠ 63 → σ_8 q = σ q := fun q n0 n1 => (hq_10 q n1).trans (hf q n0 n1)
                have hL2 : ∀ q : Nat, q ≠ 63 → σ_8 q = σ q := fun q n0 => (hq_10 q n0).trans (hL2 q n0)
                have hL25 : ∀ q : Nat, q ≠ 63 → σ_8 q = σL2 q := fun q n0 => (hq_10 q n0).trans (hL25 q n0)
                refine m_iinc (((d : Nat) : Int) + 1) [(3, .int (oI (((d : Nat) : Int) + 1))), (0, .ref (ad (59))), (1, .long (lN (sp)))] hx hb dX3_layOneMore_44 hl (j := 2) rfl (by omega) (by decide) rfl (fun ls hl => ?_)
                refine lv_goto (tgt := 25) hx hb dX3_layOneMore_47 (by decide) ?_
                exact ih25 (d + 1) gr3 (by omega) (by first | assumption | omega) (oGw_yes hX hG ⟨by omega, by omega⟩ hz.2.2 hgm) _ e63 (hL25) _ _ hH ls (lv_sub hl [1, 2, 0] rfl)
              · refine m_if_eq 44 hx hb dX3_layOneMore_36 (by decide) (by omega) (fun h_12 => ?_) (fun h_12 => absurd h_12 (by omega))
                refine m_iinc (((d : Nat) : Int) + 1) [(3, .int (oI (((d : Nat) : Int) + 1))), (0, .ref (ad (59))), (1, .long (lN (sp)))] hx hb dX3_layOneMore_44 hl (j := 2) rfl (by omega) (by decide) rfl (fun ls hl => ?_)
                refine lv_goto (tgt := 25) hx hb dX3_layOneMore_47 (by decide) ?_
                exact ih25 (d + 1) gr2 (by omega) (by first | assumption | omega) (oGw_no hG (fun q => hz ⟨by omega, by omega, q⟩)) _ e63 (hL25) _ _ hH ls (lv_sub hl [1, 2, 0] rfl)
        exact L25 _ 1 gr1 (Nat.lt_succ_self _) (by first | assumption | omega) (oGw_1 hX (fun q hq => hg q (by omega))) _ e63 (fun q _ => rfl) _ _ hH ls (lv_sub hl [1, 2, 0] rfl)
      · refine lv_aload_n hx hb dX3_layOneMore_7 rfl (lv_at hl 0 rfl) ?_
        refine lv_iload_n hx hb dX3_layOneMore_8 rfl (lv_at hl 2 rfl) ?_
        refine lv_aload_n hx hb dX3_layOneMore_9 rfl (lv_at hl 0 rfl) ?_
        refine lv_iload_n hx hb dX3_layOneMore_10 rfl (lv_at hl 2 rfl) ?_
        refine m_pVn hx hb hml hown hts hK hH hl (rest := [.int (oI (((i : Nat) : Int))), .ref (ad (59))]) cw_X3_65 (c3_word hA ((i : Nat) : Int) ld w gr1 (by first | assumption | omega) (by first | assumption | omega) e59 e62 e63) ⟨Nat.le_of_ble_eq_true rfl, Nat.le_of_ble_eq_true rfl⟩ ⟨Nat.le_of_ble_eq_true rfl, Nat.le_of_ble_eq_true rfl⟩ rfl (k := 59) (by omega) e59 rfl rfl (Nat.le_of_ble_eq_true rfl) dX3_layOneMore_11 (fun H locs hH => ?_)
        refine m_callVv hx hb hml hown hts hK hH hl (rest := []) cw_X3_69 (c3_setGrown hA i (oWd w ((i : Nat) : Int)) ld w gr1 (by first | assumption | omega) (by first | assumption | omega) e59 e62 e63) ⟨Nat.le_of_ble_eq_true rfl, Nat.le_of_ble_eq_true rfl⟩ ⟨Nat.le_of_ble_eq_true rfl, Nat.le_of_ble_eq_true rfl⟩ rfl (k := 59) (by omega) e59 rfl rfl (Nat.le_of_ble_eq_true rfl) dX3_layOneMore_14 (fun σ_13 H locs hp_14 hH => ?_)
        obtain ⟨e63, hq_15⟩ := hp_14
        have e59 : σ_13 (59) = .inr (3, [.ref (ad (60)), .ref (ad (61)), .int (oI (((ld : Nat) : Int))), .ref (ad (62)), .ref (ad (63))]) := (hq_15 _ (by decide)).trans e59
        have e62 : σ_13 (62) = oAJ cT 4 w := (hq_15 _ (by decide)).trans e62
        have hf : ∀ q : Nat, q ≠ 62 → q ≠ 63 → σ_13 q = σ q := fun q n0 n1 => (hq_15 q n1).trans (hf q n0 n1)
        have hL2 : ∀ q : Nat, q ≠ 63 → σ_13 q = σ q := fun q n0 => (hq_15 q n0).trans (hL2 q n0)
        refine m_iinc (((i : Nat) : Int) + 1) [(3, .int (oI (((i : Nat) : Int) + 1))), (0, .ref (ad (59))), (1, .long (lN (sp)))] hx hb dX3_layOneMore_17 hl (j := 2) rfl (by omega) (by decide) rfl (fun ls hl => ?_)
        refine lv_goto (tgt := 2) hx hb dX3_layOneMore_20 (by decide) ?_
        exact ih2 (i + 1) (va_up gr1 i (oWd w ((i : Nat) : Int))) (by omega) (by first | assumption | omega) (fun q hq => by
        by_cases e : q = i
        · rw [e, va_up_s]
        · rw [va_up_n _ _ e]; exact hg q (by omega)) _ e63 (hL2) _ _ hH ls (lv_sub hl [1, 2, 0] rfl)
  exact L2 _ 0 gr (Nat.lt_succ_self _) (by first | assumption | omega) (fun q hq => absurd hq (Nat.not_lt_zero _)) _ e63 (fun q _ => rfl) _ _ hH ls (lv_sub hl [1, 2, 0] rfl)
set_option maxHeartbeats 4000000 in
set_option maxRecDepth 100000 in
theorem c3_layAtMost {l : Launch} {D : va_G} {cT : Nat → ClassId} {N b0 : Nat} {ad : Nat → Nat} (hA : oAd b0 N ad) {σ : Nat → va_E} (mo sp ld : Nat) (w gr : Nat → Nat) (hN : 76 ≤ N) (hmo : 1 ≤ mo ∧ mo ≤ 6) (hsp : sp < 2 ^ 64) (e59 : σ (59) = .inr (3, [.ref (ad (60)), .ref (ad (61)), .int (oI (((ld : Nat) : Int))), .ref (ad (62)), .ref (ad (63))])) (e62 : σ (62) = oAJ cT 4 w) (e63 : σ (63) = oAJ cT 4 gr) :
    oCv l D cT N ad b0 yX3_layAtMost cX3_layAtMost 5 none 3 70 [.ref (ad (59)), .int (oI (((mo : Nat) : Int))), .long (lN (sp))] σ (fun uu => ∃ w2 : Nat → Nat, ∃ gr2 : Nat → Nat, (oXw sp mo w2) ∧ uu (62) = oAJ cT 4 w2 ∧ uu (63) = oAJ cT 4 gr2 ∧ (∀ q : Nat, q ≠ 62 → q ≠ 63 → uu q = σ q)) := by
  refine m_start (cc := cX3_layAtMost) (by decide) (Nat.le_of_ble_eq_true rfl) rfl ?_
  intro Pp Ee Ss Mm Bb Me Cc Ar ls hx hb hml hown hlk hrt hts hK hH hl
  have hown : Ss.vm.findClass RX3 = some Mm.cls := hown
  have hl : lv_has ls 5 [(0, .ref (ad (59))), (1, .int (oI (((mo : Nat) : Int)))), (2, .long (lN (sp)))] := hl
  have hf : ∀ q : Nat, q ≠ 62 → q ≠ 63 → σ q = σ q := fun q _ _ => rfl
  refine lv_aload_n hx hb dX3_layAtMost_0 rfl (lv_at hl 0 rfl) ?_
  refine m_callVv hx hb hml hown hts hK hH hl (rest := []) cw_X3_51 (c3_layNothing hA ld w gr (by first | assumption | omega) e59 e62 e63) ⟨Nat.le_of_ble_eq_true rfl, Nat.le_of_ble_eq_true rfl⟩ ⟨Nat.le_of_ble_eq_true rfl, Nat.le_of_ble_eq_true rfl⟩ rfl (k := 59) (by omega) e59 rfl rfl (Nat.le_of_ble_eq_true rfl) dX3_layAtMost_1 (fun σ_1 H locs hp_2 hH => ?_)
  obtain ⟨w1, hw0, e62, hq_3⟩ := hp_2
  have e59 : σ_1 (59) = .inr (3, [.ref (ad (60)), .ref (ad (61)), .int (oI (((ld : Nat) : Int))), .ref (ad (62)), .ref (ad (63))]) := (hq_3 _ (by decide)).trans e59
  have e63 : σ_1 (63) = oAJ cT 4 gr := (hq_3 _ (by decide)).trans e63
  have hf : ∀ q : Nat, q ≠ 62 → q ≠ 63 → σ_1 q = σ q := fun q n0 n1 => (hq_3 q n0).trans (hf q n0 n1)
  refine m_iconst 0 hx hb dX3_layAtMost_4 rfl ?_
  refine lv_istore (lv' := [(4, .int (oI (0))), (0, .ref (ad (59))), (1, .int (oI (((mo : Nat) : Int)))), (2, .long (lN (sp)))]) hx hb dX3_layAtMost_5 hl (by decide) rfl (fun ls hl => ?_)
  have L7 : ∀ (fu : Nat) (n : Nat) (w : Nat → Nat) (gr : Nat → Nat), (7 - n < fu) → (n ≤ mo) → (oXw sp n w) → ∀ σL7 : Nat → va_E, σL7 (62) = oAJ cT 4 w → σL7 (63) = oAJ cT 4 gr → (∀ q : Nat, q ≠ 62 → q ≠ 63 → σL7 q = σ_1 q) → ∀ (H : Heap) (locs : List Loc), oH b0 D N ad Ss.heap σL7 H locs → ∀ ls : Array Slot, lv_has ls 5 [(0, .ref (ad (59))), (1, .int (oI (((mo : Nat) : Int)))), (2, .long (lN (sp))), (4, .int (oI (((n : Nat) : Int))))] → W Pp l Ee { frames := 3, cells := 0, slots := 0, locals := 70 } Ss Mm Ar Bb Me Cc H locs 0 0 (MQ Bb (va_Qv (fun uu => ∃ w2 : Nat → Nat, ∃ gr2 : Nat → Nat, (oXw sp mo w2) ∧ uu (62) = oAJ cT 4 w2 ∧ uu (63) = oAJ cT 4 gr2 ∧ (∀ q : Nat, q ≠ 62 → q ≠ 63 → uu q = σ q)) (oV D N ad) (fun q => b0 ≤ q)) Ar Ss 0 0 (fun q => b0 ≤ q)) (F0 Mm 7 ls []) := by
    intro fu7
    induction fu7 with
    | zero =>
      intro n w gr hm7
      exact absurd hm7 (Nat.not_lt_zero _)
    | succ fu7 ih7 =>
      intro n w gr hm7 hn hX σL7 e62 e63 hL7 H locs hH ls hl
      have e59 : σL7 (59) = .inr (3, [.ref (ad (60)), .ref (ad (61)), .int (oI (((ld : Nat) : Int))), .ref (ad (62)), .ref (ad (63))]) := (hL7 _ (by decide) (by decide)).trans e59
      have hf : ∀ q : Nat, q ≠ 62 → q ≠ 63 → σL7 q = σ q := fun q n0 n1 => (hL7 q n0 n1).trans (hf q n0 n1)
      refine lv_iload hx hb dX3_layAtMost_7 (lv_at hl 3 rfl) ?_
      refine lv_iload_n hx hb dX3_layAtMost_9 rfl (lv_at hl 1 rfl) ?_
      refine m_icmp_ge 35 hx hb dX3_layAtMost_10 (by decide) (by omega) (by omega) (fun h_5 => ?_) (fun h_5 => ?_)
      · exact m_vret hx hb hlk hrt hH dX3_layAtMost_35 ⟨w, gr, (by rw [show n = mo by omega] at hX; exact hX), e62, e63, hf⟩
      · refine lv_iload hx hb dX3_layAtMost_13 (lv_at hl 3 rfl) ?_
        refine m_bipush 6 hx hb dX3_layAtMost_15 (by decide) ?_
        refine m_icmp_ge 35 hx hb dX3_layAtMost_17 (by decide) (by omega) (by omega) (fun h_6 => absurd h_6 (by omega)) (fun h_6 => ?_)
        refine lv_aload_n hx hb dX3_layAtMost_20 rfl (lv_at hl 0 rfl) ?_
        refine lv_lload_n hx hb dX3_layAtMost_21 rfl (lv_at hl 2 rfl) ?_
        refine m_callVi hx hb hml hown hts hK hH hl (rest := []) cw_X3_58 (c3_layOneMore hA sp n ld w gr (by first | assumption | omega) (by first | assumption | omega) (by first | assumption | omega) e59 e62 e63) ⟨Nat.le_of_ble_eq_true rfl, Nat.le_of_ble_eq_true rfl⟩ ⟨Nat.le_of_ble_eq_true rfl, Nat.le_of_ble_eq_true rfl⟩ rfl (k := 59) (by omega) e59 rfl rfl (Nat.le_of_ble_eq_true rfl) dX3_layAtMost_22 (fun r_10 σ_7 H locs hp_8 hH => ?_)
        obtain ⟨mr, w2, gr2, rfl, hr0, hr1, hx2, e62, e63, hq_9⟩ := hp_8
        have e59 : σ_7 (59) = .inr (3, [.ref (ad (60)), .ref (ad (61)), .int (oI (((ld : Nat) : Int))), .ref (ad (62)), .ref (ad (63))]) := (hq_9 _ (by decide) (by decide)).trans e59
        have hf : ∀ q : Nat, q ≠ 62 → q ≠ 63 → σ_7 q = σ q := fun q n0 n1 => (hq_9 q n0 n1).trans (hf q n0 n1)
        have hL7 : ∀ q : Nat, q ≠ 62 → q ≠ 63 → σ_7 q = σ_1 q := fun q n0 n1 => (hq_9 q n0 n1).trans (hL7 q n0 n1)
        refine m_if_ne 29 hx hb dX3_layAtMost_25 (by decide) (by omega) (fun h_11 => ?_) (fun h_11 => ?_)
        · refine m_iinc (((n : Nat) : Int) + 1) [(4, .int (oI (((n : Nat) : Int) + 1))), (0, .ref (ad (59))), (1, .int (oI (((mo : Nat) : Int)))), (2, .long (lN (sp)))] hx hb dX3_layAtMost_29 hl (j := 3) rfl (by omega) (by decide) rfl (fun ls hl => ?_)
          refine lv_goto (tgt := 7) hx hb dX3_layAtMost_32 (by decide) ?_
          exact ih7 (n + 1) w2 gr2 (by omega) (by first | assumption | omega) (hx2) _ e62 e63 (hL7) _ _ hH ls (lv_sub hl [1, 2, 3, 0] rfl)
        · exact m_vret hx hb hlk hrt hH dX3_layAtMost_28 ⟨w2, gr2, (oXw_iff hx2 (fun t => ⟨fun q => Or.inl (oR_fix (hr1 (by omega)) mo t q), fun q => oR_mono (by omega) (oR_fix (hr1 (by omega)) (n + 1) t q)⟩)), e62, e63, hf⟩
  exact L7 _ 0 w1 gr (Nat.lt_succ_self _) (Nat.zero_le _) (oXw_0 sp hw0) _ e62 e63 (fun q _ _ => rfl) _ _ hH ls (lv_sub hl [1, 2, 3, 0] rfl)
set_option maxHeartbeats 4000000 in
set_option maxRecDepth 100000 in
theorem c3_isLaid {l : Launch} {D : va_G} {cT : Nat → ClassId} {N b0 : Nat} {ad : Nat → Nat} (hA : oAd b0 N ad) {σ : Nat → va_E} (x : Nat) (sp k ld : Nat) (w gr : Nat → Nat) (hN : 76 ≤ N) (hX : oXw sp k w) (hx200 : x ≤ 200) (e59 : σ (59) = .inr (3, [.ref (ad (60)), .ref (ad (61)), .int (oI (((ld : Nat) : Int))), .ref (ad (62)), .ref (ad (63))])) (e62 : σ (62) = oAJ cT 4 w) (e63 : σ (63) = oAJ cT 4 gr) :
    oCi l D cT N ad b0 yX3_isLaid cX3_isLaid 2 (some .boolean) 1 22 [.ref (ad (59)), .int (oI (((x : Nat) : Int)))] σ (fun rr uu => (rr = oI 1 ∧ (oLd sp k x = true) ∨ rr = oI 0 ∧ ¬ (oLd sp k x = true)) ∧ uu = σ) := by
  refine m_start (cc := cX3_isLaid) (by decide) (Nat.le_of_ble_eq_true rfl) rfl ?_
  intro Pp Ee Ss Mm Bb Me Cc Ar ls hx hb hml hown hlk hrt hts hK hH hl
  have hown : Ss.vm.findClass RX3 = some Mm.cls := hown
  have hl : lv_has ls 2 [(0, .ref (ad (59))), (1, .int (oI (((x : Nat) : Int))))] := hl
  refine lv_iload_n hx hb dX3_isLaid_0 rfl (lv_at hl 1 rfl) ?_
  refine m_if_lt 33 hx hb dX3_isLaid_1 (by decide) (by omega) (fun h_1 => absurd h_1 (by omega)) (fun h_1 => ?_)
  refine lv_iload_n hx hb dX3_isLaid_4 rfl (lv_at hl 1 rfl) ?_
  refine m_sipush 200 hx hb dX3_isLaid_5 (by decide) ?_
  refine m_icmp_gt 33 hx hb dX3_isLaid_8 (by decide) (by omega) (by omega) (fun h_2 => absurd h_2 (by omega)) (fun h_2 => ?_)
  refine lv_aload_n hx hb dX3_isLaid_11 rfl (lv_at hl 0 rfl) ?_
  refine lv_iload_n hx hb dX3_isLaid_12 rfl (lv_at hl 1 rfl) ?_
  refine m_bipush 64 hx hb dX3_isLaid_13 (by decide) ?_
  refine m_idiv ((((x : Nat) : Int) / 64)) hx hb dX3_isLaid_15 (by omega) (by omega) (rfl) ?_
  refine m_pVn hx hb hml hown hts hK hH hl (rest := []) cw_X3_65 (c3_word hA (((x : Nat) : Int) / 64) ld w gr (by first | assumption | omega) (by first | assumption | omega) e59 e62 e63) ⟨Nat.le_of_ble_eq_true rfl, Nat.le_of_ble_eq_true rfl⟩ ⟨Nat.le_of_ble_eq_true rfl, Nat.le_of_ble_eq_true rfl⟩ rfl (k := 59) (by omega) e59 rfl rfl (Nat.le_of_ble_eq_true rfl) dX3_isLaid_16 (fun H locs hH => ?_)
  refine lv_iload_n hx hb dX3_isLaid_19 rfl (lv_at hl 1 rfl) ?_
  refine m_bipush 64 hx hb dX3_isLaid_20 (by decide) ?_
  refine m_irem ((((x : Nat) : Int) % 64)) hx hb dX3_isLaid_22 (by omega) (by omega) (rfl) ?_
  refine m_pNb hx hb hml hown hts hK hH hl (rest := []) cn_X5_hasBit hK.2.1.1 (c5_hasBit hA (oWd w (((x : Nat) : Int) / 64)) (((x : Nat) : Int) % 64) (oWd_64 hX _) (by first | assumption | omega) ) ⟨Nat.le_of_ble_eq_true rfl, Nat.le_of_ble_eq_true rfl⟩ ⟨Nat.le_of_ble_eq_true rfl, Nat.le_of_ble_eq_true rfl⟩ rfl rfl (Nat.le_of_ble_eq_true rfl) dX3_isLaid_23 (fun hz H locs hH => ?_) (fun hz H locs hH => ?_)
  · refine m_if_eq 33 hx hb dX3_isLaid_26 (by decide) (by omega) (fun h_3 => absurd h_3 (by omega)) (fun h_3 => ?_)
    refine m_iconst 1 hx hb dX3_isLaid_29 rfl ?_
    refine lv_goto (tgt := 34) hx hb dX3_isLaid_30 (by decide) ?_
    exact m_iret hx hb hlk hrt hH m_z1 dX3_isLaid_34 ⟨Or.inl ⟨rfl, (oLd_w hX hx200).mp hz.2.2⟩, rfl⟩
  · refine m_if_eq 33 hx hb dX3_isLaid_26 (by decide) (by omega) (fun h_4 => ?_) (fun h_4 => absurd h_4 (by omega))
    refine m_iconst 0 hx hb dX3_isLaid_33 rfl ?_
    exact m_iret hx hb hlk hrt hH m_z0 dX3_isLaid_34 ⟨Or.inr ⟨rfl, fun q => hz ⟨by omega, by omega, (oLd_w hX hx200).mpr q⟩⟩, rfl⟩
set_option maxHeartbeats 4000000 in
set_option maxRecDepth 100000 in
theorem c3_fewestBySets {l : Launch} {D : va_G} {cT : Nat → ClassId} {N b0 : Nat} {ad : Nat → Nat} (hA : oAd b0 N ad) {σ : Nat → va_E} (t sp ld : Nat) (w gr : Nat → Nat) (hN : 76 ≤ N) (ht : t ≤ 200) (hsp : sp < 2 ^ 64) (e59 : σ (59) = .inr (3, [.ref (ad (60)), .ref (ad (61)), .int (oI (((ld : Nat) : Int))), .ref (ad (62)), .ref (ad (63))])) (e62 : σ (62) = oAJ cT 4 w) (e63 : σ (63) = oAJ cT 4 gr) :
    oCi l D cT N ad b0 yX3_fewestBySets cX3_fewestBySets 5 (some .int) 3 70 [.ref (ad (59)), .int (oI (((t : Nat) : Int))), .long (lN (sp))] σ (fun rr uu => ∃ w2 : Nat → Nat, ∃ gr2 : Nat → Nat, rr = oI ((oDist sp 0 t)) ∧ uu (62) = oAJ cT 4 w2 ∧ uu (63) = oAJ cT 4 gr2 ∧ (∀ q : Nat, q ≠ 62 → q ≠ 63 → uu q = σ q)) := by
  refine m_start (cc := cX3_fewestBySets) (by decide) (Nat.le_of_ble_eq_true rfl) rfl ?_
  intro Pp Ee Ss Mm Bb Me Cc Ar ls hx hb hml hown hlk hrt hts hK hH hl
  have hown : Ss.vm.findClass RX3 = some Mm.cls := hown
  have hl : lv_has ls 5 [(0, .ref (ad (59))), (1, .int (oI (((t : Nat) : Int)))), (2, .long (lN (sp)))] := hl
  have hf : ∀ q : Nat, q ≠ 62 → q ≠ 63 → σ q = σ q := fun q _ _ => rfl
  refine lv_aload_n hx hb dX3_fewestBySets_0 rfl (lv_at hl 0 rfl) ?_
  refine m_callVv hx hb hml hown hts hK hH hl (rest := []) cw_X3_51 (c3_layNothing hA ld w gr (by first | assumption | omega) e59 e62 e63) ⟨Nat.le_of_ble_eq_true rfl, Nat.le_of_ble_eq_true rfl⟩ ⟨Nat.le_of_ble_eq_true rfl, Nat.le_of_ble_eq_true rfl⟩ rfl (k := 59) (by omega) e59 rfl rfl (Nat.le_of_ble_eq_true rfl) dX3_fewestBySets_1 (fun σ_1 H locs hp_2 hH => ?_)
  obtain ⟨w1, hw0, e62, hq_3⟩ := hp_2
  have e59 : σ_1 (59) = .inr (3, [.ref (ad (60)), .ref (ad (61)), .int (oI (((ld : Nat) : Int))), .ref (ad (62)), .ref (ad (63))]) := (hq_3 _ (by decide)).trans e59
  have e63 : σ_1 (63) = oAJ cT 4 gr := (hq_3 _ (by decide)).trans e63
  have hf : ∀ q : Nat, q ≠ 62 → q ≠ 63 → σ_1 q = σ q := fun q n0 n1 => (hq_3 q n0).trans (hf q n0 n1)
  refine m_iconst 0 hx hb dX3_fewestBySets_4 rfl ?_
  refine lv_istore (lv' := [(4, .int (oI (0))), (0, .ref (ad (59))), (1, .int (oI (((t : Nat) : Int)))), (2, .long (lN (sp)))]) hx hb dX3_fewestBySets_5 hl (by decide) rfl (fun ls hl => ?_)
  have L7 : ∀ (fu : Nat) (n : Nat) (w : Nat → Nat) (gr : Nat → Nat), (202 - n < fu) → (n ≤ 201) → (oXw sp n w) → (∀ k : Nat, k < n → ¬ oR sp 0 k t) → ∀ σL7 : Nat → va_E, σL7 (62) = oAJ cT 4 w → σL7 (63) = oAJ cT 4 gr → (∀ q : Nat, q ≠ 62 → q ≠ 63 → σL7 q = σ_1 q) → ∀ (H : Heap) (locs : List Loc), oH b0 D N ad Ss.heap σL7 H locs → ∀ ls : Array Slot, lv_has ls 5 [(0, .ref (ad (59))), (1, .int (oI (((t : Nat) : Int)))), (2, .long (lN (sp))), (4, .int (oI (((n : Nat) : Int))))] → W Pp l Ee { frames := 3, cells := 0, slots := 0, locals := 70 } Ss Mm Ar Bb Me Cc H locs 0 0 (MQ Bb (va_Qi (fun rr uu => ∃ w2 : Nat → Nat, ∃ gr2 : Nat → Nat, rr = oI ((oDist sp 0 t)) ∧ uu (62) = oAJ cT 4 w2 ∧ uu (63) = oAJ cT 4 gr2 ∧ (∀ q : Nat, q ≠ 62 → q ≠ 63 → uu q = σ q)) (oV D N ad) (fun q => b0 ≤ q)) Ar Ss 0 0 (fun q => b0 ≤ q)) (F0 Mm 7 ls []) := by
    intro fu7
    induction fu7 with
    | zero =>
      intro n w gr hm7
      exact absurd hm7 (Nat.not_lt_zero _)
    | succ fu7 ih7 =>
      intro n w gr hm7 hn hX hno σL7 e62 e63 hL7 H locs hH ls hl
      have e59 : σL7 (59) = .inr (3, [.ref (ad (60)), .ref (ad (61)), .int (oI (((ld : Nat) : Int))), .ref (ad (62)), .ref (ad (63))]) := (hL7 _ (by decide) (by decide)).trans e59
      have hf : ∀ q : Nat, q ≠ 62 → q ≠ 63 → σL7 q = σ q := fun q n0 n1 => (hL7 q n0 n1).trans (hf q n0 n1)
      refine lv_iload hx hb dX3_fewestBySets_7 (lv_at hl 3 rfl) ?_
      refine m_sipush 200 hx hb dX3_fewestBySets_9 (by decide) ?_
      refine m_icmp_gt 42 hx hb dX3_fewestBySets_12 (by decide) (by omega) (by omega) (fun h_5 => ?_) (fun h_5 => ?_)
      · refine m_iconst (-1) hx hb dX3_fewestBySets_42 rfl ?_
        exact m_iret hx hb hlk hrt hH (m_ni _) dX3_fewestBySets_43 ⟨w, gr, congrArg oI ((oR_none (fun k h => hno k (by omega))).symm), e62, e63, hf⟩
      · refine lv_aload_n hx hb dX3_fewestBySets_15 rfl (lv_at hl 0 rfl) ?_
        refine lv_iload_n hx hb dX3_fewestBySets_16 rfl (lv_at hl 1 rfl) ?_
        refine m_pVb hx hb hml hown hts hK hH hl (rest := []) cw_X3_54 (c3_isLaid hA t sp n ld w gr (by first | assumption | omega) (by first | assumption | omega) (by first | assumption | omega) e59 e62 e63) ⟨Nat.le_of_ble_eq_true rfl, Nat.le_of_ble_eq_true rfl⟩ ⟨Nat.le_of_ble_eq_true rfl, Nat.le_of_ble_eq_true rfl⟩ rfl (k := 59) (by omega) e59 rfl rfl (Nat.le_of_ble_eq_true rfl) dX3_fewestBySets_17 (fun hz H locs hH => ?_) (fun hz H locs hH => ?_)
        · refine m_if_eq 26 hx hb dX3_fewestBySets_20 (by decide) (by omega) (fun h_6 => absurd h_6 (by omega)) (fun h_6 => ?_)
          refine lv_iload hx hb dX3_fewestBySets_23 (lv_at hl 3 rfl) ?_
          exact m_iret hx hb hlk hrt hH (m_ni _) dX3_fewestBySets_25 ⟨w, gr, congrArg oI ((oDist_at ⟨oLd_iff.mp hz, hno⟩).symm), e62, e63, hf⟩
        · refine m_if_eq 26 hx hb dX3_fewestBySets_20 (by decide) (by omega) (fun h_7 => ?_) (fun h_7 => absurd h_7 (by omega))
          refine lv_aload_n hx hb dX3_fewestBySets_26 rfl (lv_at hl 0 rfl) ?_
          refine lv_lload_n hx hb dX3_fewestBySets_27 rfl (lv_at hl 2 rfl) ?_
          refine m_callVi hx hb hml hown hts hK hH hl (rest := []) cw_X3_58 (c3_layOneMore hA sp n ld w gr (by first | assumption | omega) (by first | assumption | omega) (by first | assumption | omega) e59 e62 e63) ⟨Nat.le_of_ble_eq_true rfl, Nat.le_of_ble_eq_true rfl⟩ ⟨Nat.le_of_ble_eq_true rfl, Nat.le_of_ble_eq_true rfl⟩ rfl (k := 59) (by omega) e59 rfl rfl (Nat.le_of_ble_eq_true rfl) dX3_fewestBySets_28 (fun r_11 σ_8 H locs hp_9 hH => ?_)
          obtain ⟨mr, w2, gr2, rfl, hr0, hr1, hx2, e62, e63, hq_10⟩ := hp_9
          have e59 : σ_8 (59) = .inr (3, [.ref (ad (60)), .ref (ad (61)), .int (oI (((ld : Nat) : Int))), .ref (ad (62)), .ref (ad (63))]) := (hq_10 _ (by decide) (by decide)).trans e59
          have hf : ∀ q : Nat, q ≠ 62 → q ≠ 63 → σ_8 q = σ q := fun q n0 n1 => (hq_10 q n0 n1).trans (hf q n0 n1)
          have hL7 : ∀ q : Nat, q ≠ 62 → q ≠ 63 → σ_8 q = σ_1 q := fun q n0 n1 => (hq_10 q n0 n1).trans (hL7 q n0 n1)
          refine m_if_ne 36 hx hb dX3_fewestBySets_31 (by decide) (by omega) (fun h_12 => ?_) (fun h_12 => ?_)
          · refine m_iinc (((n : Nat) : Int) + 1) [(4, .int (oI (((n : Nat) : Int) + 1))), (0, .ref (ad (59))), (1, .int (oI (((t : Nat) : Int)))), (2, .long (lN (sp)))] hx hb dX3_fewestBySets_36 hl (j := 3) rfl (by omega) (by decide) rfl (fun ls hl => ?_)
            refine lv_goto (tgt := 7) hx hb dX3_fewestBySets_39 (by decide) ?_
            exact ih7 (n + 1) w2 gr2 (by omega) (by first | assumption | omega) (hx2) (fun k h => (Nat.lt_or_ge k n).elim (hno k) (fun h2 q => hz (oLd_iff.mpr (by rw [show n = k by omega]; exact q)))) _ e62 e63 (hL7) _ _ hH ls (lv_sub hl [1, 2, 3, 0] rfl)
          · refine m_iconst (-1) hx hb dX3_fewestBySets_34 rfl ?_
            exact m_iret hx hb hlk hrt hH (m_ni _) dX3_fewestBySets_35 ⟨w2, gr2, congrArg oI ((oDist_no (fun k q => hz (oLd_iff.mpr (oR_fix (hr1 (by omega)) k t q)))).symm), e62, e63, hf⟩
  exact L7 _ 0 w1 gr (Nat.lt_succ_self _) (Nat.zero_le _) (oXw_0 sp hw0) (fun k h => absurd h (Nat.not_lt_zero _)) _ e62 e63 (fun q _ _ => rfl) _ _ hH ls (lv_sub hl [1, 2, 3, 0] rfl)
set_option maxHeartbeats 4000000 in
set_option maxRecDepth 100000 in
theorem c3_countLaid {l : Launch} {D : va_G} {cT : Nat → ClassId} {N b0 : Nat} {ad : Nat → Nat} (hA : oAd b0 N ad) {σ : Nat → va_E} (g : Nat) (sp k ld : Nat) (w gr : Nat → Nat) (hN : 76 ≤ N) (hX : oXw sp k w) (hg : g ≤ 150) (e59 : σ (59) = .inr (3, [.ref (ad (60)), .ref (ad (61)), .int (oI (((ld : Nat) : Int))), .ref (ad (62)), .ref (ad (63))])) (e62 : σ (62) = oAJ cT 4 w) (e63 : σ (63) = oAJ cT 4 gr) :
    oCi l D cT N ad b0 yX3_countLaid cX3_countLaid 4 (some .int) 2 43 [.ref (ad (59)), .int (oI (((g : Nat) : Int)))] σ (fun rr uu => rr = oI (((oCnt sp k g : Nat) : Int)) ∧ uu = σ) := by
  refine m_start (cc := cX3_countLaid) (by decide) (Nat.le_of_ble_eq_true rfl) rfl ?_
  intro Pp Ee Ss Mm Bb Me Cc Ar ls hx hb hml hown hlk hrt hts hK hH hl
  have hown : Ss.vm.findClass RX3 = some Mm.cls := hown
  have hl : lv_has ls 4 [(0, .ref (ad (59))), (1, .int (oI (((g : Nat) : Int))))] := hl
  refine m_iconst 0 hx hb dX3_countLaid_0 rfl ?_
  refine lv_istore_n (lv' := [(2, .int (oI (0))), (0, .ref (ad (59))), (1, .int (oI (((g : Nat) : Int))))]) hx hb dX3_countLaid_1 rfl hl (by decide) rfl (fun ls hl => ?_)
  refine m_iconst 1 hx hb dX3_countLaid_2 rfl ?_
  refine lv_istore_n (lv' := [(3, .int (oI (1))), (2, .int (oI (0))), (0, .ref (ad (59))), (1, .int (oI (((g : Nat) : Int))))]) hx hb dX3_countLaid_3 rfl hl (by decide) rfl (fun ls hl => ?_)
  have L4 : ∀ (fu : Nat) (i : Nat) (ac : Nat), (g + 1 - i < fu) → (i ≤ g) → (ac = oCnt sp k i) → ∀ (H : Heap) (locs : List Loc), oH b0 D N ad Ss.heap σ H locs → ∀ ls : Array Slot, lv_has ls 4 [(0, .ref (ad (59))), (1, .int (oI (((g : Nat) : Int)))), (2, .int (oI (((ac : Nat) : Int)))), (3, .int (oI (((i : Nat) : Int) + 1)))] → W Pp l Ee { frames := 2, cells := 0, slots := 0, locals := 43 } Ss Mm Ar Bb Me Cc H locs 0 0 (MQ Bb (va_Qi (fun rr uu => rr = oI (((oCnt sp k g : Nat) : Int)) ∧ uu = σ) (oV D N ad) (fun q => b0 ≤ q)) Ar Ss 0 0 (fun q => b0 ≤ q)) (F0 Mm 4 ls []) := by
    intro fu4
    induction fu4 with
    | zero =>
      intro i ac hm4
      exact absurd hm4 (Nat.not_lt_zero _)
    | succ fu4 ih4 =>
      intro i ac hm4 hi hc H locs hH ls hl
      have hle := oCnt_le sp k i
      refine lv_iload_n hx hb dX3_countLaid_4 rfl (lv_at hl 3 rfl) ?_
      refine lv_iload_n hx hb dX3_countLaid_5 rfl (lv_at hl 1 rfl) ?_
      refine m_icmp_gt 33 hx hb dX3_countLaid_6 (by decide) (by omega) (by omega) (fun h_1 => ?_) (fun h_1 => ?_)
      · refine lv_iload_n hx hb dX3_countLaid_33 rfl (lv_at hl 2 rfl) ?_
        exact m_iret hx hb hlk hrt hH (m_ni _) dX3_countLaid_34 ⟨congrArg oI (by rw [hc, show i = g by omega]), rfl⟩
      · refine lv_iload_n hx hb dX3_countLaid_9 rfl (lv_at hl 3 rfl) ?_
        refine m_sipush 150 hx hb dX3_countLaid_10 (by decide) ?_
        refine m_icmp_gt 33 hx hb dX3_countLaid_13 (by decide) (by omega) (by omega) (fun h_2 => absurd h_2 (by omega)) (fun h_2 => ?_)
        refine lv_aload_n hx hb dX3_countLaid_16 rfl (lv_at hl 0 rfl) ?_
        refine lv_iload_n hx hb dX3_countLaid_17 rfl (lv_at hl 3 rfl) ?_
        refine m_pVb hx hb hml hown hts hK hH hl (rest := []) cw_X3_54 (c3_isLaid hA (i + 1) sp k ld w gr (by first | assumption | omega) (by first | assumption | omega) (by first | assumption | omega) e59 e62 e63) ⟨Nat.le_of_ble_eq_true rfl, Nat.le_of_ble_eq_true rfl⟩ ⟨Nat.le_of_ble_eq_true rfl, Nat.le_of_ble_eq_true rfl⟩ rfl (k := 59) (by omega) e59 rfl rfl (Nat.le_of_ble_eq_true rfl) dX3_countLaid_18 (fun hz H locs hH => ?_) (fun hz H locs hH => ?_)
        · refine m_if_eq 27 hx hb dX3_countLaid_21 (by decide) (by omega) (fun h_3 => absurd h_3 (by omega)) (fun h_3 => ?_)
          refine m_iinc (((ac : Nat) : Int) + 1) [(2, .int (oI (((ac : Nat) : Int) + 1))), (0, .ref (ad (59))), (1, .int (oI (((g : Nat) : Int)))), (3, .int (oI (((i : Nat) : Int) + 1)))] hx hb dX3_countLaid_24 hl (j := 2) rfl (by omega) (by decide) rfl (fun ls hl => ?_)
          refine m_iinc (((i : Nat) : Int) + 2) [(3, .int (oI (((i : Nat) : Int) + 2))), (2, .int (oI (((ac : Nat) : Int) + 1))), (0, .ref (ad (59))), (1, .int (oI (((g : Nat) : Int))))] hx hb dX3_countLaid_27 hl (j := 3) rfl (by omega) (by decide) rfl (fun ls hl => ?_)
          refine lv_goto (tgt := 4) hx hb dX3_countLaid_30 (by decide) ?_
          exact ih4 (i + 1) (ac + 1) (by omega) (by first | assumption | omega) (by rw [oCnt_y hz, hc]) _ _ hH ls (lv_sub hl [2, 3, 1, 0] rfl)
        · refine m_if_eq 27 hx hb dX3_countLaid_21 (by decide) (by omega) (fun h_4 => ?_) (fun h_4 => absurd h_4 (by omega))
          refine m_iinc (((i : Nat) : Int) + 2) [(3, .int (oI (((i : Nat) : Int) + 2))), (0, .ref (ad (59))), (1, .int (oI (((g : Nat) : Int)))), (2, .int (oI (((ac : Nat) : Int))))] hx hb dX3_countLaid_27 hl (j := 3) rfl (by omega) (by decide) rfl (fun ls hl => ?_)
          refine lv_goto (tgt := 4) hx hb dX3_countLaid_30 (by decide) ?_
          exact ih4 (i + 1) ac (by omega) (by first | assumption | omega) (by rw [oCnt_n hz]; exact hc) _ _ hH ls (lv_sub hl [1, 2, 3, 0] rfl)
  exact L4 _ 0 0 (Nat.lt_succ_self _) (by first | assumption | omega) (rfl) _ _ hH ls (lv_sub hl [2, 3, 1, 0] rfl)
set_option maxHeartbeats 4000000 in
set_option maxRecDepth 100000 in
theorem c3_startsGap {l : Launch} {D : va_G} {cT : Nat → ClassId} {N b0 : Nat} {ad : Nat → Nat} (hA : oAd b0 N ad) {σ : Nat → va_E} (i : Nat) (sp k ld : Nat) (w gr : Nat → Nat) (hN : 76 ≤ N) (hX : oXw sp k w) (hi : i < 200) (e59 : σ (59) = .inr (3, [.ref (ad (60)), .ref (ad (61)), .int (oI (((ld : Nat) : Int))), .ref (ad (62)), .ref (ad (63))])) (e62 : σ (62) = oAJ cT 4 w) (e63 : σ (63) = oAJ cT 4 gr) :
    oCi l D cT N ad b0 yX3_startsGap cX3_startsGap 2 (some .boolean) 2 43 [.ref (ad (59)), .int (oI (((i : Nat) : Int) + 1))] σ (fun rr uu => (rr = oI 1 ∧ (oGp sp k (i + 1) = true) ∨ rr = oI 0 ∧ ¬ (oGp sp k (i + 1) = true)) ∧ uu = σ) := by
  refine m_start (cc := cX3_startsGap) (by decide) (Nat.le_of_ble_eq_true rfl) rfl ?_
  intro Pp Ee Ss Mm Bb Me Cc Ar ls hx hb hml hown hlk hrt hts hK hH hl
  have hown : Ss.vm.findClass RX3 = some Mm.cls := hown
  have hl : lv_has ls 2 [(0, .ref (ad (59))), (1, .int (oI (((i : Nat) : Int) + 1)))] := hl
  refine lv_aload_n hx hb dX3_startsGap_0 rfl (lv_at hl 0 rfl) ?_
  refine lv_iload_n hx hb dX3_startsGap_1 rfl (lv_at hl 1 rfl) ?_
  refine m_pVb hx hb hml hown hts hK hH hl (rest := []) cw_X3_54 (c3_isLaid hA (i + 1) sp k ld w gr (by first | assumption | omega) (by first | assumption | omega) (by first | assumption | omega) e59 e62 e63) ⟨Nat.le_of_ble_eq_true rfl, Nat.le_of_ble_eq_true rfl⟩ ⟨Nat.le_of_ble_eq_true rfl, Nat.le_of_ble_eq_true rfl⟩ rfl (k := 59) (by omega) e59 rfl rfl (Nat.le_of_ble_eq_true rfl) dX3_startsGap_2 (fun hz H locs hH => ?_) (fun hz H locs hH => ?_)
  · refine m_if_ne 22 hx hb dX3_startsGap_5 (by decide) (by omega) (fun h_1 => ?_) (fun h_1 => absurd h_1 (by omega))
    refine m_iconst 0 hx hb dX3_startsGap_22 rfl ?_
    exact m_iret hx hb hlk hrt hH m_z0 dX3_startsGap_23 ⟨Or.inr ⟨rfl, fun q => (oGp_iff.mp q).1 hz⟩, rfl⟩
  · refine m_if_ne 22 hx hb dX3_startsGap_5 (by decide) (by omega) (fun h_2 => absurd h_2 (by omega)) (fun h_2 => ?_)
    refine lv_aload_n hx hb dX3_startsGap_8 rfl (lv_at hl 0 rfl) ?_
    refine lv_iload_n hx hb dX3_startsGap_9 rfl (lv_at hl 1 rfl) ?_
    refine m_iconst 1 hx hb dX3_startsGap_10 rfl ?_
    refine m_isub (((i : Nat) : Int)) hx hb dX3_startsGap_11 (by omega) ?_
    refine m_pVb hx hb hml hown hts hK hH hl (rest := []) cw_X3_54 (c3_isLaid hA i sp k ld w gr (by first | assumption | omega) (by first | assumption | omega) (by first | assumption | omega) e59 e62 e63) ⟨Nat.le_of_ble_eq_true rfl, Nat.le_of_ble_eq_true rfl⟩ ⟨Nat.le_of_ble_eq_true rfl, Nat.le_of_ble_eq_true rfl⟩ rfl (k := 59) (by omega) e59 rfl rfl (Nat.le_of_ble_eq_true rfl) dX3_startsGap_12 (fun hz2 H locs hH => ?_) (fun hz2 H locs hH => ?_)
    · refine m_if_eq 22 hx hb dX3_startsGap_15 (by decide) (by omega) (fun h_3 => absurd h_3 (by omega)) (fun h_3 => ?_)
      refine m_iconst 1 hx hb dX3_startsGap_18 rfl ?_
      refine lv_goto (tgt := 23) hx hb dX3_startsGap_19 (by decide) ?_
      exact m_iret hx hb hlk hrt hH m_z1 dX3_startsGap_23 ⟨Or.inl ⟨rfl, oGp_iff.mpr ⟨hz, hz2⟩⟩, rfl⟩
    · refine m_if_eq 22 hx hb dX3_startsGap_15 (by decide) (by omega) (fun h_4 => ?_) (fun h_4 => absurd h_4 (by omega))
      refine m_iconst 0 hx hb dX3_startsGap_22 rfl ?_
      exact m_iret hx hb hlk hrt hH m_z0 dX3_startsGap_23 ⟨Or.inr ⟨rfl, fun q => hz2 (oGp_iff.mp q).2⟩, rfl⟩
set_option maxHeartbeats 4000000 in
set_option maxRecDepth 100000 in
theorem c3_countGaps {l : Launch} {D : va_G} {cT : Nat → ClassId} {N b0 : Nat} {ad : Nat → Nat} (hA : oAd b0 N ad) {σ : Nat → va_E} (g : Nat) (sp k ld : Nat) (w gr : Nat → Nat) (hN : 76 ≤ N) (hX : oXw sp k w) (hg : g ≤ 150) (e59 : σ (59) = .inr (3, [.ref (ad (60)), .ref (ad (61)), .int (oI (((ld : Nat) : Int))), .ref (ad (62)), .ref (ad (63))])) (e62 : σ (62) = oAJ cT 4 w) (e63 : σ (63) = oAJ cT 4 gr) :
    oCi l D cT N ad b0 yX3_countGaps cX3_countGaps 4 (some .int) 3 64 [.ref (ad (59)), .int (oI (((g : Nat) : Int)))] σ (fun rr uu => rr = oI (((oGaps sp k g : Nat) : Int)) ∧ uu = σ) := by
  refine m_start (cc := cX3_countGaps) (by decide) (Nat.le_of_ble_eq_true rfl) rfl ?_
  intro Pp Ee Ss Mm Bb Me Cc Ar ls hx hb hml hown hlk hrt hts hK hH hl
  have hown : Ss.vm.findClass RX3 = some Mm.cls := hown
  have hl : lv_has ls 4 [(0, .ref (ad (59))), (1, .int (oI (((g : Nat) : Int))))] := hl
  refine m_iconst 0 hx hb dX3_countGaps_0 rfl ?_
  refine lv_istore_n (lv' := [(2, .int (oI (0))), (0, .ref (ad (59))), (1, .int (oI (((g : Nat) : Int))))]) hx hb dX3_countGaps_1 rfl hl (by decide) rfl (fun ls hl => ?_)
  refine m_iconst 1 hx hb dX3_countGaps_2 rfl ?_
  refine lv_istore_n (lv' := [(3, .int (oI (1))), (2, .int (oI (0))), (0, .ref (ad (59))), (1, .int (oI (((g : Nat) : Int))))]) hx hb dX3_countGaps_3 rfl hl (by decide) rfl (fun ls hl => ?_)
  have L4 : ∀ (fu : Nat) (i : Nat) (ac : Nat), (g + 1 - i < fu) → (i ≤ g) → (ac = oGaps sp k i) → ∀ (H : Heap) (locs : List Loc), oH b0 D N ad Ss.heap σ H locs → ∀ ls : Array Slot, lv_has ls 4 [(0, .ref (ad (59))), (1, .int (oI (((g : Nat) : Int)))), (2, .int (oI (((ac : Nat) : Int)))), (3, .int (oI (((i : Nat) : Int) + 1)))] → W Pp l Ee { frames := 3, cells := 0, slots := 0, locals := 64 } Ss Mm Ar Bb Me Cc H locs 0 0 (MQ Bb (va_Qi (fun rr uu => rr = oI (((oGaps sp k g : Nat) : Int)) ∧ uu = σ) (oV D N ad) (fun q => b0 ≤ q)) Ar Ss 0 0 (fun q => b0 ≤ q)) (F0 Mm 4 ls []) := by
    intro fu4
    induction fu4 with
    | zero =>
      intro i ac hm4
      exact absurd hm4 (Nat.not_lt_zero _)
    | succ fu4 ih4 =>
      intro i ac hm4 hi hc H locs hH ls hl
      have hle := oGaps_le sp k i
      refine lv_iload_n hx hb dX3_countGaps_4 rfl (lv_at hl 3 rfl) ?_
      refine lv_iload_n hx hb dX3_countGaps_5 rfl (lv_at hl 1 rfl) ?_
      refine m_icmp_gt 33 hx hb dX3_countGaps_6 (by decide) (by omega) (by omega) (fun h_1 => ?_) (fun h_1 => ?_)
      · refine lv_iload_n hx hb dX3_countGaps_33 rfl (lv_at hl 2 rfl) ?_
        exact m_iret hx hb hlk hrt hH (m_ni _) dX3_countGaps_34 ⟨congrArg oI (by rw [hc, show i = g by omega]), rfl⟩
      · refine lv_iload_n hx hb dX3_countGaps_9 rfl (lv_at hl 3 rfl) ?_
        refine m_sipush 150 hx hb dX3_countGaps_10 (by decide) ?_
        refine m_icmp_gt 33 hx hb dX3_countGaps_13 (by decide) (by omega) (by omega) (fun h_2 => absurd h_2 (by omega)) (fun h_2 => ?_)
        refine lv_aload_n hx hb dX3_countGaps_16 rfl (lv_at hl 0 rfl) ?_
        refine lv_iload_n hx hb dX3_countGaps_17 rfl (lv_at hl 3 rfl) ?_
        refine m_pVb hx hb hml hown hts hK hH hl (rest := []) cw_X3_82 (c3_startsGap hA i sp k ld w gr (by first | assumption | omega) (by first | assumption | omega) (by first | assumption | omega) e59 e62 e63) ⟨Nat.le_of_ble_eq_true rfl, Nat.le_of_ble_eq_true rfl⟩ ⟨Nat.le_of_ble_eq_true rfl, Nat.le_of_ble_eq_true rfl⟩ rfl (k := 59) (by omega) e59 rfl rfl (Nat.le_of_ble_eq_true rfl) dX3_countGaps_18 (fun hz H locs hH => ?_) (fun hz H locs hH => ?_)
        · refine m_if_eq 27 hx hb dX3_countGaps_21 (by decide) (by omega) (fun h_3 => absurd h_3 (by omega)) (fun h_3 => ?_)
          refine m_iinc (((ac : Nat) : Int) + 1) [(2, .int (oI (((ac : Nat) : Int) + 1))), (0, .ref (ad (59))), (1, .int (oI (((g : Nat) : Int)))), (3, .int (oI (((i : Nat) : Int) + 1)))] hx hb dX3_countGaps_24 hl (j := 2) rfl (by omega) (by decide) rfl (fun ls hl => ?_)
          refine m_iinc (((i : Nat) : Int) + 2) [(3, .int (oI (((i : Nat) : Int) + 2))), (2, .int (oI (((ac : Nat) : Int) + 1))), (0, .ref (ad (59))), (1, .int (oI (((g : Nat) : Int))))] hx hb dX3_countGaps_27 hl (j := 3) rfl (by omega) (by decide) rfl (fun ls hl => ?_)
          refine lv_goto (tgt := 4) hx hb dX3_countGaps_30 (by decide) ?_
          exact ih4 (i + 1) (ac + 1) (by omega) (by first | assumption | omega) (by rw [oGaps_y hz, hc]) _ _ hH ls (lv_sub hl [2, 3, 1, 0] rfl)
        · refine m_if_eq 27 hx hb dX3_countGaps_21 (by decide) (by omega) (fun h_4 => ?_) (fun h_4 => absurd h_4 (by omega))
          refine m_iinc (((i : Nat) : Int) + 2) [(3, .int (oI (((i : Nat) : Int) + 2))), (0, .ref (ad (59))), (1, .int (oI (((g : Nat) : Int)))), (2, .int (oI (((ac : Nat) : Int))))] hx hb dX3_countGaps_27 hl (j := 3) rfl (by omega) (by decide) rfl (fun ls hl => ?_)
          refine lv_goto (tgt := 4) hx hb dX3_countGaps_30 (by decide) ?_
          exact ih4 (i + 1) ac (by omega) (by first | assumption | omega) (by rw [oGaps_n hz]; exact hc) _ _ hH ls (lv_sub hl [1, 2, 3, 0] rfl)
  exact L4 _ 0 0 (Nat.lt_succ_self _) (by first | assumption | omega) (rfl) _ _ hH ls (lv_sub hl [2, 3, 1, 0] rfl)
set_option maxHeartbeats 4000000 in
set_option maxRecDepth 100000 in
theorem c3_gapStart {l : Launch} {D : va_G} {cT : Nat → ClassId} {N b0 : Nat} {ad : Nat → Nat} (hA : oAd b0 N ad) {σ : Nat → va_E} (q g : Nat) (sp k ld : Nat) (w gr : Nat → Nat) (hN : 76 ≤ N) (hX : oXw sp k w) (hg : g ≤ 150) (hq150 : q ≤ 150) (e59 : σ (59) = .inr (3, [.ref (ad (60)), .ref (ad (61)), .int (oI (((ld : Nat) : Int))), .ref (ad (62)), .ref (ad (63))])) (e62 : σ (62) = oAJ cT 4 w) (e63 : σ (63) = oAJ cT 4 gr) :
    oCi l D cT N ad b0 yX3_gapStart cX3_gapStart 5 (some .int) 3 64 [.ref (ad (59)), .int (oI (((q : Nat) : Int))), .int (oI (((g : Nat) : Int)))] σ (fun rr uu => rr = oI ((oGs sp k g q)) ∧ uu = σ) := by
  refine m_start (cc := cX3_gapStart) (by decide) (Nat.le_of_ble_eq_true rfl) rfl ?_
  intro Pp Ee Ss Mm Bb Me Cc Ar ls hx hb hml hown hlk hrt hts hK hH hl
  have hown : Ss.vm.findClass RX3 = some Mm.cls := hown
  have hl : lv_has ls 5 [(0, .ref (ad (59))), (1, .int (oI (((q : Nat) : Int)))), (2, .int (oI (((g : Nat) : Int))))] := hl
  refine lv_iload_n hx hb dX3_gapStart_0 rfl (lv_at hl 1 rfl) ?_
  refine lv_istore_n (lv' := [(3, .int (oI (((q : Nat) : Int)))), (0, .ref (ad (59))), (1, .int (oI (((q : Nat) : Int)))), (2, .int (oI (((g : Nat) : Int))))]) hx hb dX3_gapStart_1 rfl hl (by decide) rfl (fun ls hl => ?_)
  refine m_iconst 1 hx hb dX3_gapStart_2 rfl ?_
  refine lv_istore (lv' := [(4, .int (oI (1))), (3, .int (oI (((q : Nat) : Int)))), (0, .ref (ad (59))), (1, .int (oI (((q : Nat) : Int)))), (2, .int (oI (((g : Nat) : Int))))]) hx hb dX3_gapStart_3 hl (by decide) rfl (fun ls hl => ?_)
  have L5 : ∀ (fu : Nat) (i : Nat) (le : Nat), (g + 1 - i < fu) → (i ≤ g) → (le + oGaps sp k i = q) → ∀ (H : Heap) (locs : List Loc), oH b0 D N ad Ss.heap σ H locs → ∀ ls : Array Slot, lv_has ls 5 [(0, .ref (ad (59))), (1, .int (oI (((q : Nat) : Int)))), (2, .int (oI (((g : Nat) : Int)))), (3, .int (oI (((le : Nat) : Int)))), (4, .int (oI (((i : Nat) : Int) + 1)))] → W Pp l Ee { frames := 3, cells := 0, slots := 0, locals := 64 } Ss Mm Ar Bb Me Cc H locs 0 0 (MQ Bb (va_Qi (fun rr uu => rr = oI ((oGs sp k g q)) ∧ uu = σ) (oV D N ad) (fun q => b0 ≤ q)) Ar Ss 0 0 (fun q => b0 ≤ q)) (F0 Mm 5 ls []) := by
    intro fu5
    induction fu5 with
    | zero =>
      intro i le hm5
      exact absurd hm5 (Nat.not_lt_zero _)
    | succ fu5 ih5 =>
      intro i le hm5 hi hc H locs hH ls hl
      refine lv_iload hx hb dX3_gapStart_5 (lv_at hl 4 rfl) ?_
      refine lv_iload_n hx hb dX3_gapStart_7 rfl (lv_at hl 2 rfl) ?_
      refine m_icmp_gt 44 hx hb dX3_gapStart_8 (by decide) (by omega) (by omega) (fun h_1 => ?_) (fun h_1 => ?_)
      · refine m_iconst (-1) hx hb dX3_gapStart_44 rfl ?_
        exact m_iret hx hb hlk hrt hH (m_ni _) dX3_gapStart_45 ⟨congrArg oI (by rw [oGs_no (by rw [← show i = g by omega]; omega)]), rfl⟩
      · refine lv_iload hx hb dX3_gapStart_11 (lv_at hl 4 rfl) ?_
        refine m_sipush 150 hx hb dX3_gapStart_13 (by decide) ?_
        refine m_icmp_gt 44 hx hb dX3_gapStart_16 (by decide) (by omega) (by omega) (fun h_2 => absurd h_2 (by omega)) (fun h_2 => ?_)
        refine lv_aload_n hx hb dX3_gapStart_19 rfl (lv_at hl 0 rfl) ?_
        refine lv_iload hx hb dX3_gapStart_20 (lv_at hl 4 rfl) ?_
        refine m_pVb hx hb hml hown hts hK hH hl (rest := []) cw_X3_82 (c3_startsGap hA i sp k ld w gr (by first | assumption | omega) (by first | assumption | omega) (by first | assumption | omega) e59 e62 e63) ⟨Nat.le_of_ble_eq_true rfl, Nat.le_of_ble_eq_true rfl⟩ ⟨Nat.le_of_ble_eq_true rfl, Nat.le_of_ble_eq_true rfl⟩ rfl (k := 59) (by omega) e59 rfl rfl (Nat.le_of_ble_eq_true rfl) dX3_gapStart_22 (fun hz H locs hH => ?_) (fun hz H locs hH => ?_)
        · refine m_if_eq 38 hx hb dX3_gapStart_25 (by decide) (by omega) (fun h_3 => absurd h_3 (by omega)) (fun h_3 => ?_)
          refine lv_iload_n hx hb dX3_gapStart_28 rfl (lv_at hl 3 rfl) ?_
          refine m_if_ne 35 hx hb dX3_gapStart_29 (by decide) (by omega) (fun h_4 => ?_) (fun h_4 => ?_)
          · refine m_iinc (((le - 1 : Nat) : Int)) [(3, .int (oI (((le - 1 : Nat) : Int)))), (0, .ref (ad (59))), (1, .int (oI (((q : Nat) : Int)))), (2, .int (oI (((g : Nat) : Int)))), (4, .int (oI (((i : Nat) : Int) + 1)))] hx hb dX3_gapStart_35 hl (j := 3) rfl (by omega) (by decide) rfl (fun ls hl => ?_)
            refine m_iinc (((i : Nat) : Int) + 2) [(4, .int (oI (((i : Nat) : Int) + 2))), (3, .int (oI (((le - 1 : Nat) : Int)))), (0, .ref (ad (59))), (1, .int (oI (((q : Nat) : Int)))), (2, .int (oI (((g : Nat) : Int))))] hx hb dX3_gapStart_38 hl (j := 4) rfl (by omega) (by decide) rfl (fun ls hl => ?_)
            refine lv_goto (tgt := 5) hx hb dX3_gapStart_41 (by decide) ?_
            exact ih5 (i + 1) (le - 1) (by omega) (by first | assumption | omega) (by rw [oGaps_y hz]; omega) _ _ hH ls (lv_sub hl [2, 3, 4, 1, 0] rfl)
          · refine lv_iload hx hb dX3_gapStart_32 (lv_at hl 4 rfl) ?_
            exact m_iret hx hb hlk hrt hH (m_ni _) dX3_gapStart_34 ⟨congrArg oI (by rw [oGs_at (i := i) (by omega) hz (by omega)]; rfl), rfl⟩
        · refine m_if_eq 38 hx hb dX3_gapStart_25 (by decide) (by omega) (fun h_5 => ?_) (fun h_5 => absurd h_5 (by omega))
          refine m_iinc (((i : Nat) : Int) + 2) [(4, .int (oI (((i : Nat) : Int) + 2))), (0, .ref (ad (59))), (1, .int (oI (((q : Nat) : Int)))), (2, .int (oI (((g : Nat) : Int)))), (3, .int (oI (((le : Nat) : Int))))] hx hb dX3_gapStart_38 hl (j := 4) rfl (by omega) (by decide) rfl (fun ls hl => ?_)
          refine lv_goto (tgt := 5) hx hb dX3_gapStart_41 (by decide) ?_
          exact ih5 (i + 1) le (by omega) (by first | assumption | omega) (by rw [oGaps_n hz]; exact hc) _ _ hH ls (lv_sub hl [1, 2, 3, 4, 0] rfl)
  exact L5 _ 0 q (Nat.lt_succ_self _) (by first | assumption | omega) (rfl) _ _ hH ls (lv_sub hl [2, 3, 4, 1, 0] rfl)
set_option maxHeartbeats 4000000 in
set_option maxRecDepth 100000 in
theorem c3_gapLength {l : Launch} {D : va_G} {cT : Nat → ClassId} {N b0 : Nat} {ad : Nat → Nat} (hA : oAd b0 N ad) {σ : Nat → va_E} (s0 g : Nat) (sp k ld : Nat) (w gr : Nat → Nat) (hN : 76 ≤ N) (hX : oXw sp k w) (hg : g ≤ 150) (hs : s0 ≤ g) (e59 : σ (59) = .inr (3, [.ref (ad (60)), .ref (ad (61)), .int (oI (((ld : Nat) : Int))), .ref (ad (62)), .ref (ad (63))])) (e62 : σ (62) = oAJ cT 4 w) (e63 : σ (63) = oAJ cT 4 gr) :
    oCi l D cT N ad b0 yX3_gapLength cX3_gapLength 5 (some .int) 2 43 [.ref (ad (59)), .int (oI (((s0 : Nat) : Int))), .int (oI (((g : Nat) : Int)))] σ (fun rr uu => rr = oI (((oGl sp k g s0 : Nat) : Int)) ∧ uu = σ) := by
  refine m_start (cc := cX3_gapLength) (by decide) (Nat.le_of_ble_eq_true rfl) rfl ?_
  intro Pp Ee Ss Mm Bb Me Cc Ar ls hx hb hml hown hlk hrt hts hK hH hl
  have hown : Ss.vm.findClass RX3 = some Mm.cls := hown
  have hl : lv_has ls 5 [(0, .ref (ad (59))), (1, .int (oI (((s0 : Nat) : Int)))), (2, .int (oI (((g : Nat) : Int))))] := hl
  refine m_iconst 0 hx hb dX3_gapLength_0 rfl ?_
  refine lv_istore_n (lv' := [(3, .int (oI (0))), (0, .ref (ad (59))), (1, .int (oI (((s0 : Nat) : Int)))), (2, .int (oI (((g : Nat) : Int))))]) hx hb dX3_gapLength_1 rfl hl (by decide) rfl (fun ls hl => ?_)
  refine lv_iload_n hx hb dX3_gapLength_2 rfl (lv_at hl 2 rfl) ?_
  refine lv_istore (lv' := [(4, .int (oI (((s0 : Nat) : Int)))), (3, .int (oI (0))), (0, .ref (ad (59))), (1, .int (oI (((s0 : Nat) : Int)))), (2, .int (oI (((g : Nat) : Int))))]) hx hb dX3_gapLength_3 hl (by decide) rfl (fun ls hl => ?_)
  have L5 : ∀ (fu : Nat) (ti : Nat), (g + 2 - ti < fu) → (ti ≤ g + 1 - s0) → (∀ q : Nat, q < ti → ¬ oLd sp k (s0 + q) = true) → ∀ (H : Heap) (locs : List Loc), oH b0 D N ad Ss.heap σ H locs → ∀ ls : Array Slot, lv_has ls 5 [(0, .ref (ad (59))), (1, .int (oI (((s0 : Nat) : Int)))), (2, .int (oI (((g : Nat) : Int)))), (3, .int (oI (((ti : Nat) : Int)))), (4, .int (oI (((s0 : Nat) : Int) + ((ti : Nat) : Int))))] → W Pp l Ee { frames := 2, cells := 0, slots := 0, locals := 43 } Ss Mm Ar Bb Me Cc H locs 0 0 (MQ Bb (va_Qi (fun rr uu => rr = oI (((oGl sp k g s0 : Nat) : Int)) ∧ uu = σ) (oV D N ad) (fun q => b0 ≤ q)) Ar Ss 0 0 (fun q => b0 ≤ q)) (F0 Mm 5 ls []) := by
    intro fu5
    induction fu5 with
    | zero =>
      intro ti hm5
      exact absurd hm5 (Nat.not_lt_zero _)
    | succ fu5 ih5 =>
      intro ti hm5 hi hc H locs hH ls hl
      refine lv_iload hx hb dX3_gapLength_5 (lv_at hl 4 rfl) ?_
      refine lv_iload_n hx hb dX3_gapLength_7 rfl (lv_at hl 2 rfl) ?_
      refine m_icmp_gt 39 hx hb dX3_gapLength_8 (by decide) (by omega) (by omega) (fun h_1 => ?_) (fun h_1 => ?_)
      · refine lv_iload_n hx hb dX3_gapLength_39 rfl (lv_at hl 3 rfl) ?_
        exact m_iret hx hb hlk hrt hH (m_ni _) dX3_gapLength_40 ⟨congrArg oI (by rw [oGl_no (j := ti) (by omega) hc]), rfl⟩
      · refine lv_iload hx hb dX3_gapLength_11 (lv_at hl 4 rfl) ?_
        refine m_sipush 150 hx hb dX3_gapLength_13 (by decide) ?_
        refine m_icmp_gt 39 hx hb dX3_gapLength_16 (by decide) (by omega) (by omega) (fun h_2 => absurd h_2 (by omega)) (fun h_2 => ?_)
        refine lv_aload_n hx hb dX3_gapLength_19 rfl (lv_at hl 0 rfl) ?_
        refine lv_iload hx hb dX3_gapLength_20 (lv_at hl 4 rfl) ?_
        refine m_pVb hx hb hml hown hts hK hH hl (rest := []) cw_X3_54 (c3_isLaid hA (s0 + ti) sp k ld w gr (by first | assumption | omega) (by first | assumption | omega) (by first | assumption | omega) e59 e62 e63) ⟨Nat.le_of_ble_eq_true rfl, Nat.le_of_ble_eq_true rfl⟩ ⟨Nat.le_of_ble_eq_true rfl, Nat.le_of_ble_eq_true rfl⟩ rfl (k := 59) (by omega) e59 rfl rfl (Nat.le_of_ble_eq_true rfl) dX3_gapLength_22 (fun hz H locs hH => ?_) (fun hz H locs hH => ?_)
        · refine m_if_eq 30 hx hb dX3_gapLength_25 (by decide) (by omega) (fun h_3 => absurd h_3 (by omega)) (fun h_3 => ?_)
          refine lv_iload_n hx hb dX3_gapLength_28 rfl (lv_at hl 3 rfl) ?_
          exact m_iret hx hb hlk hrt hH (m_ni _) dX3_gapLength_29 ⟨congrArg oI (by rw [oGl_at (j := ti) (by omega) hz hc]), rfl⟩
        · refine m_if_eq 30 hx hb dX3_gapLength_25 (by decide) (by omega) (fun h_4 => ?_) (fun h_4 => absurd h_4 (by omega))
          refine m_iinc (((ti : Nat) : Int) + 1) [(3, .int (oI (((ti : Nat) : Int) + 1))), (0, .ref (ad (59))), (1, .int (oI (((s0 : Nat) : Int)))), (2, .int (oI (((g : Nat) : Int)))), (4, .int (oI (((s0 : Nat) : Int) + ((ti : Nat) : Int))))] hx hb dX3_gapLength_30 hl (j := 3) rfl (by omega) (by decide) rfl (fun ls hl => ?_)
          refine m_iinc (((s0 : Nat) : Int) + ((ti : Nat) : Int) + 1) [(4, .int (oI (((s0 : Nat) : Int) + ((ti : Nat) : Int) + 1))), (3, .int (oI (((ti : Nat) : Int) + 1))), (0, .ref (ad (59))), (1, .int (oI (((s0 : Nat) : Int)))), (2, .int (oI (((g : Nat) : Int))))] hx hb dX3_gapLength_33 hl (j := 4) rfl (by omega) (by decide) rfl (fun ls hl => ?_)
          refine lv_goto (tgt := 5) hx hb dX3_gapLength_36 (by decide) ?_
          exact ih5 (ti + 1) (by omega) (by first | assumption | omega) (fun q h => (Nat.lt_or_ge q ti).elim (hc q) (fun h2 => by rw [show s0 + q = s0 + ti by omega]; exact hz)) _ _ hH ls (lv_sub hl [2, 3, 4, 1, 0] rfl)
  exact L5 _ 0 (Nat.lt_succ_self _) (by first | assumption | omega) (fun q h => absurd h (Nat.not_lt_zero _)) _ _ hH ls (lv_sub hl [2, 3, 4, 1, 0] rfl)
