set_option maxHeartbeats 4000000 in
set_option maxRecDepth 100000 in
theorem cJ_bitCount {l : Launch} {D : va_G} {cT : Nat → ClassId} {N b0 : Nat} {ad : Nat → Nat} (hA : oAd b0 N ad) {σ : Nat → va_E} (w : Nat) (hw : w < 2 ^ 64) :
    oCi l D cT N ad b0 yJ13_bitCount_95d88 cJ13_bitCount_95d88 2 (some .int) 0 0 [.long (lN (w))] σ (fun rr uu => rr = oI (((pcnt w : Nat) : Int)) ∧ uu = σ) := by
  refine m_start (cc := cJ13_bitCount_95d88) (by decide) (Nat.le_of_ble_eq_true rfl) rfl ?_
  intro Pp Ee Ss Mm Bb Me Cc Ar ls hx hb hml hown hlk hrt hts hK hH hl
  have hown : Ss.vm.findClass RJ13 = some Mm.cls := hown
  have hB := bc_all hw
  have hB1 := bc_1lt hw
  have hB2 := bc_2lt hw
  have hp := pow64
  have hl : lv_has ls 2 [(0, .long (lN (w)))] := hl
  refine lv_lload_n hx hb dJ13_bitCount_95d88_0 rfl (lv_at hl 0 rfl) ?_
  refine lv_lload_n hx hb dJ13_bitCount_95d88_1 rfl (lv_at hl 0 rfl) ?_
  refine m_iconst 1 hx hb dJ13_bitCount_95d88_2 rfl ?_
  refine m_lushr (w / 2 ^ 1) hx hb dJ13_bitCount_95d88_3 (hw) (by omega) (by rw [show (1 : Int).toNat = 1 by omega]) ?_
  refine lv_ldc2 (v := 6148914691236517205) hx hb hown (hts _ kl_J13_314) dJ13_bitCount_95d88_4 ?_
  refine m_J2N 6148914691236517205 (by decide +kernel) ?_
  refine m_land ((w / 2 ^ 1) &&& 6148914691236517205) hx hb dJ13_bitCount_95d88_7 (rfl) ?_
  refine m_lsubN (bc1 w) hx hb dJ13_bitCount_95d88_8 (bc_le hw) (rfl) ?_
  refine lv_lstore_n (lv' := [(0, .long (lN (bc1 w)))]) hx hb dJ13_bitCount_95d88_9 rfl hl (by decide) rfl (fun ls hl => ?_)
  refine lv_lload_n hx hb dJ13_bitCount_95d88_10 rfl (lv_at hl 0 rfl) ?_
  refine lv_ldc2 (v := 3689348814741910323) hx hb hown (hts _ kl_J13_316) dJ13_bitCount_95d88_11 ?_
  refine m_J2N 3689348814741910323 (by decide +kernel) ?_
  refine m_land ((bc1 w) &&& 3689348814741910323) hx hb dJ13_bitCount_95d88_14 (rfl) ?_
  refine lv_lload_n hx hb dJ13_bitCount_95d88_15 rfl (lv_at hl 0 rfl) ?_
  refine m_iconst 2 hx hb dJ13_bitCount_95d88_16 rfl ?_
  refine m_lushr ((bc1 w) / 2 ^ 2) hx hb dJ13_bitCount_95d88_17 (hB1) (by omega) (by rw [show (2 : Int).toNat = 2 by omega]) ?_
  refine lv_ldc2 (v := 3689348814741910323) hx hb hown (hts _ kl_J13_316) dJ13_bitCount_95d88_18 ?_
  refine m_J2N 3689348814741910323 (by decide +kernel) ?_
  refine m_land (((bc1 w) / 2 ^ 2) &&& 3689348814741910323) hx hb dJ13_bitCount_95d88_21 (rfl) ?_
  refine m_laddN (bc2 w) hx hb dJ13_bitCount_95d88_22 (rfl) ?_
  refine lv_lstore_n (lv' := [(0, .long (lN (bc2 w)))]) hx hb dJ13_bitCount_95d88_23 rfl hl (by decide) rfl (fun ls hl => ?_)
  refine lv_lload_n hx hb dJ13_bitCount_95d88_24 rfl (lv_at hl 0 rfl) ?_
  refine lv_lload_n hx hb dJ13_bitCount_95d88_25 rfl (lv_at hl 0 rfl) ?_
  refine m_iconst 4 hx hb dJ13_bitCount_95d88_26 rfl ?_
  refine m_lushr ((bc2 w) / 2 ^ 4) hx hb dJ13_bitCount_95d88_27 (hB2) (by omega) (by rw [show (4 : Int).toNat = 4 by omega]) ?_
  refine m_laddN ((bc2 w) + ((bc2 w) / 2 ^ 4)) hx hb dJ13_bitCount_95d88_28 (rfl) ?_
  refine lv_ldc2 (v := 1085102592571150095) hx hb hown (hts _ kl_J13_318) dJ13_bitCount_95d88_29 ?_
  refine m_J2N 1085102592571150095 (by decide +kernel) ?_
  refine m_land (bc3 w) hx hb dJ13_bitCount_95d88_32 (rfl) ?_
  refine lv_lstore_n (lv' := [(0, .long (lN (bc3 w)))]) hx hb dJ13_bitCount_95d88_33 rfl hl (by decide) rfl (fun ls hl => ?_)
  refine lv_lload_n hx hb dJ13_bitCount_95d88_34 rfl (lv_at hl 0 rfl) ?_
  refine lv_lload_n hx hb dJ13_bitCount_95d88_35 rfl (lv_at hl 0 rfl) ?_
  refine m_bipush 8 hx hb dJ13_bitCount_95d88_36 (by decide) ?_
  refine m_lushr ((bc3 w) / 2 ^ 8) hx hb dJ13_bitCount_95d88_38 (by omega) (by omega) (by rw [show (8 : Int).toNat = 8 by omega]) ?_
  refine m_laddN (bc4 w) hx hb dJ13_bitCount_95d88_39 (rfl) ?_
  refine lv_lstore_n (lv' := [(0, .long (lN (bc4 w)))]) hx hb dJ13_bitCount_95d88_40 rfl hl (by decide) rfl (fun ls hl => ?_)
  refine lv_lload_n hx hb dJ13_bitCount_95d88_41 rfl (lv_at hl 0 rfl) ?_
  refine lv_lload_n hx hb dJ13_bitCount_95d88_42 rfl (lv_at hl 0 rfl) ?_
  refine m_bipush 16 hx hb dJ13_bitCount_95d88_43 (by decide) ?_
  refine m_lushr ((bc4 w) / 2 ^ 16) hx hb dJ13_bitCount_95d88_45 (by omega) (by omega) (by rw [show (16 : Int).toNat = 16 by omega]) ?_
  refine m_laddN (bc5 w) hx hb dJ13_bitCount_95d88_46 (rfl) ?_
  refine lv_lstore_n (lv' := [(0, .long (lN (bc5 w)))]) hx hb dJ13_bitCount_95d88_47 rfl hl (by decide) rfl (fun ls hl => ?_)
  refine lv_lload_n hx hb dJ13_bitCount_95d88_48 rfl (lv_at hl 0 rfl) ?_
  refine lv_lload_n hx hb dJ13_bitCount_95d88_49 rfl (lv_at hl 0 rfl) ?_
  refine m_bipush 32 hx hb dJ13_bitCount_95d88_50 (by decide) ?_
  refine m_lushr ((bc5 w) / 2 ^ 32) hx hb dJ13_bitCount_95d88_52 (by omega) (by omega) (by rw [show (32 : Int).toNat = 32 by omega]) ?_
  refine m_laddN (bc6 w) hx hb dJ13_bitCount_95d88_53 (rfl) ?_
  refine lv_lstore_n (lv' := [(0, .long (lN (bc6 w)))]) hx hb dJ13_bitCount_95d88_54 rfl hl (by decide) rfl (fun ls hl => ?_)
  refine lv_lload_n hx hb dJ13_bitCount_95d88_55 rfl (lv_at hl 0 rfl) ?_
  refine m_l2iN hx hb dJ13_bitCount_95d88_56 ?_
  refine m_bipush 127 hx hb dJ13_bitCount_95d88_57 (by decide) ?_
  refine m_iand (pcnt w) hx hb dJ13_bitCount_95d88_59 ((Nat.and_two_pow_sub_one_eq_mod _ 7).trans hB.2.2.2) ?_
  exact m_iret hx hb hlk hrt hH (m_ni _) dJ13_bitCount_95d88_60 ⟨rfl, rfl⟩
set_option maxHeartbeats 4000000 in
set_option maxRecDepth 100000 in
theorem cJ_fillI {l : Launch} {D : va_G} {cT : Nat → ClassId} {N b0 : Nat} {ad : Nat → Nat} (hA : oAd b0 N ad) {σ : Nat → va_E} (k : Nat) (x : Int) (f : Nat → Int) (hk : k < N) (hx32 : -2147483648 ≤ x ∧ x < 2147483648) (e0 : σ (k) = oAI cT 201 f) :
    oCv l D cT N ad b0 yJ7_fill_53178 cJ7_fill_53178 4 none 0 0 [.ref (ad (k)), .int (oI (x))] σ (fun uu => uu (k) = oAI cT 201 (fun q => if q < 201 then x else f q) ∧ (∀ q : Nat, q ≠ k → uu q = σ q)) := by
  refine m_start (cc := cJ7_fill_53178) (by decide) (Nat.le_of_ble_eq_true rfl) rfl ?_
  intro Pp Ee Ss Mm Bb Me Cc Ar ls hx hb hml hown hlk hrt hts hK hH hl
  have hown : Ss.vm.findClass RJ7 = some Mm.cls := hown
  have hl : lv_has ls 4 [(0, .ref (ad (k))), (1, .int (oI (x)))] := hl
  have hf : ∀ q : Nat, q ≠ k → σ q = σ q := fun q _ => rfl
  refine m_iconst 0 hx hb dJ7_fill_53178_0 rfl ?_
  refine lv_istore_n (lv' := [(2, .int (oI (0))), (0, .ref (ad (k))), (1, .int (oI (x)))]) hx hb dJ7_fill_53178_1 rfl hl (by decide) rfl (fun ls hl => ?_)
  refine lv_aload_n hx hb dJ7_fill_53178_2 rfl (lv_at hl 1 rfl) ?_
  refine m_alen hx hb hK hH (k := k) (by omega) e0 0 rfl 201 rfl dJ7_fill_53178_3 ?_
  refine lv_istore_n (lv' := [(3, .int (oI (201))), (2, .int (oI (0))), (0, .ref (ad (k))), (1, .int (oI (x)))]) hx hb dJ7_fill_53178_4 rfl hl (by decide) rfl (fun ls hl => ?_)
  have L5 : ∀ (fu : Nat) (i : Nat), (201 - i < fu) → (i ≤ 201) → ∀ σL5 : Nat → va_E, σL5 (k) = oAI cT 201 (fun q => if q < i then x else f q) → (∀ q : Nat, q ≠ k → σL5 q = σ q) → ∀ (H : Heap) (locs : List Loc), oH b0 D N ad Ss.heap σL5 H locs → ∀ ls : Array Slot, lv_has ls 4 [(0, .ref (ad (k))), (1, .int (oI (x))), (2, .int (oI (((i : Nat) : Int)))), (3, .int (oI (201)))] → W Pp l Ee { frames := 0, cells := 0, slots := 0, locals := 0 } Ss Mm Ar Bb Me Cc H locs 0 0 (MQ Bb (va_Qv (fun uu => uu (k) = oAI cT 201 (fun q => if q < 201 then x else f q) ∧ (∀ q : Nat, q ≠ k → uu q = σ q)) (oV D N ad) (fun q => b0 ≤ q)) Ar Ss 0 0 (fun q => b0 ≤ q)) (F0 Mm 5 ls []) := by
    intro fu5
    induction fu5 with
    | zero =>
      intro i hm5
      exact absurd hm5 (Nat.not_lt_zero _)
    | succ fu5 ih5 =>
      intro i hm5 hi σL5 e0 hL5 H locs hH ls hl
      have hf : ∀ q : Nat, q ≠ k → σL5 q = σ q := fun q n0 => (hL5 q n0).trans (hf q n0)
      refine lv_iload_n hx hb dJ7_fill_53178_5 rfl (lv_at hl 2 rfl) ?_
      refine lv_iload_n hx hb dJ7_fill_53178_6 rfl (lv_at hl 3 rfl) ?_
      refine m_icmp_ge 20 hx hb dJ7_fill_53178_7 (by decide) (by omega) (by omega) (fun h_1 => ?_) (fun h_1 => ?_)
      · exact m_vret hx hb hlk hrt hH dJ7_fill_53178_20 ⟨(e0.trans (congrArg (fun z => oAI cT 201 z) (by rw [show i = 201 by omega]))), hf⟩
      · refine lv_aload_n hx hb dJ7_fill_53178_10 rfl (lv_at hl 0 rfl) ?_
        refine lv_iload_n hx hb dJ7_fill_53178_11 rfl (lv_at hl 2 rfl) ?_
        refine lv_iload_n hx hb dJ7_fill_53178_12 rfl (lv_at hl 1 rfl) ?_
        refine m_iast hx hb hK hH hA (k := k) (by omega) e0 (i) (by omega) (by omega) (by decide) dJ7_fill_53178_13 (fun H locs σ_2 e0 hq_3 hH => ?_)
        have e0 : σ_2 (k) = oAI cT 201 (fun q => if q < i + 1 then x else f q) := e0.trans (congrArg (fun w => oAI cT 201 w) (o_fill x f i))
        have hf : ∀ q : Nat, q ≠ k → σ_2 q = σ q := fun q n0 => (hq_3 q n0).trans (hf q n0)
        have hL5 : ∀ q : Nat, q ≠ k → σ_2 q = σ q := fun q n0 => (hq_3 q n0).trans (hL5 q n0)
        refine m_iinc (((i : Nat) : Int) + 1) [(2, .int (oI (((i : Nat) : Int) + 1))), (0, .ref (ad (k))), (1, .int (oI (x))), (3, .int (oI (201)))] hx hb dJ7_fill_53178_14 hl (j := 2) rfl (by omega) (by decide) rfl (fun ls hl => ?_)
        refine lv_goto (tgt := 5) hx hb dJ7_fill_53178_17 (by decide) ?_
        exact ih5 (i + 1) (by omega) (by first | assumption | omega) _ e0 (hL5) _ _ hH ls (lv_sub hl [1, 2, 0, 3] rfl)
  exact L5 _ 0 (Nat.lt_succ_self _) (by first | assumption | omega) _ (e0.trans (congrArg (fun z => oAI cT 201 z) (by funext q; rw [if_neg (Nat.not_lt_zero _)]))) (fun q _ => rfl) _ _ hH ls (lv_sub hl [2, 3, 1, 0] rfl)
set_option maxHeartbeats 4000000 in
set_option maxRecDepth 100000 in
theorem cJ_fillJ {l : Launch} {D : va_G} {cT : Nat → ClassId} {N b0 : Nat} {ad : Nat → Nat} (hA : oAd b0 N ad) {σ : Nat → va_E} (k : Nat) (f : Nat → Nat) (hk : k < N) (e0 : σ (k) = oAJ cT 4 f) :
    oCv l D cT N ad b0 yJ7_fill_d0a16 cJ7_fill_d0a16 5 none 0 0 [.ref (ad (k)), .long (lN (0))] σ (fun uu => uu (k) = oAJ cT 4 (fun q => if q < 4 then 0 else f q) ∧ (∀ q : Nat, q ≠ k → uu q = σ q)) := by
  refine m_start (cc := cJ7_fill_d0a16) (by decide) (Nat.le_of_ble_eq_true rfl) rfl ?_
  intro Pp Ee Ss Mm Bb Me Cc Ar ls hx hb hml hown hlk hrt hts hK hH hl
  have hown : Ss.vm.findClass RJ7 = some Mm.cls := hown
  have hl : lv_has ls 5 [(0, .ref (ad (k))), (1, .long (lN (0)))] := hl
  have hf : ∀ q : Nat, q ≠ k → σ q = σ q := fun q _ => rfl
  refine m_iconst 0 hx hb dJ7_fill_d0a16_0 rfl ?_
  refine lv_istore_n (lv' := [(3, .int (oI (0))), (0, .ref (ad (k))), (1, .long (lN (0)))]) hx hb dJ7_fill_d0a16_1 rfl hl (by decide) rfl (fun ls hl => ?_)
  refine lv_aload_n hx hb dJ7_fill_d0a16_2 rfl (lv_at hl 1 rfl) ?_
  refine m_alen hx hb hK hH (k := k) (by omega) e0 1 rfl 4 rfl dJ7_fill_d0a16_3 ?_
  refine lv_istore (lv' := [(4, .int (oI (4))), (3, .int (oI (0))), (0, .ref (ad (k))), (1, .long (lN (0)))]) hx hb dJ7_fill_d0a16_4 hl (by decide) rfl (fun ls hl => ?_)
  have L6 : ∀ (fu : Nat) (i : Nat), (4 - i < fu) → (i ≤ 4) → ∀ σL6 : Nat → va_E, σL6 (k) = oAJ cT 4 (fun q => if q < i then 0 else f q) → (∀ q : Nat, q ≠ k → σL6 q = σ q) → ∀ (H : Heap) (locs : List Loc), oH b0 D N ad Ss.heap σL6 H locs → ∀ ls : Array Slot, lv_has ls 5 [(0, .ref (ad (k))), (1, .long (lN (0))), (3, .int (oI (((i : Nat) : Int)))), (4, .int (oI (4)))] → W Pp l Ee { frames := 0, cells := 0, slots := 0, locals := 0 } Ss Mm Ar Bb Me Cc H locs 0 0 (MQ Bb (va_Qv (fun uu => uu (k) = oAJ cT 4 (fun q => if q < 4 then 0 else f q) ∧ (∀ q : Nat, q ≠ k → uu q = σ q)) (oV D N ad) (fun q => b0 ≤ q)) Ar Ss 0 0 (fun q => b0 ≤ q)) (F0 Mm 6 ls []) := by
    intro fu6
    induction fu6 with
    | zero =>
      intro i hm6
      exact absurd hm6 (Nat.not_lt_zero _)
    | succ fu6 ih6 =>
      intro i hm6 hi σL6 e0 hL6 H locs hH ls hl
      have hf : ∀ q : Nat, q ≠ k → σL6 q = σ q := fun q n0 => (hL6 q n0).trans (hf q n0)
      refine lv_iload_n hx hb dJ7_fill_d0a16_6 rfl (lv_at hl 2 rfl) ?_
      refine lv_iload hx hb dJ7_fill_d0a16_7 (lv_at hl 3 rfl) ?_
      refine m_icmp_ge 22 hx hb dJ7_fill_d0a16_9 (by decide) (by omega) (by omega) (fun h_1 => ?_) (fun h_1 => ?_)
      · exact m_vret hx hb hlk hrt hH dJ7_fill_d0a16_22 ⟨(e0.trans (congrArg (fun z => oAJ cT 4 z) (by rw [show i = 4 by omega]))), hf⟩
      · refine lv_aload_n hx hb dJ7_fill_d0a16_12 rfl (lv_at hl 0 rfl) ?_
        refine lv_iload_n hx hb dJ7_fill_d0a16_13 rfl (lv_at hl 2 rfl) ?_
        refine lv_lload_n hx hb dJ7_fill_d0a16_14 rfl (lv_at hl 1 rfl) ?_
        refine m_last hx hb hK hH hA (k := k) (by omega) e0 (i) (by omega) (by omega) (by decide) dJ7_fill_d0a16_15 (fun H locs σ_2 e0 hq_3 hH => ?_)
        have e0 : σ_2 (k) = oAJ cT 4 (va_up (fun q => if q < i then 0 else f q) i 0) := e0.trans (oAJ_up _ _ _ _ _)
        have e0 : σ_2 (k) = oAJ cT 4 (fun q => if q < i + 1 then 0 else f q) := e0.trans (congrArg (fun w => oAJ cT 4 w) (o_fill 0 f i))
        have hf : ∀ q : Nat, q ≠ k → σ_2 q = σ q := fun q n0 => (hq_3 q n0).trans (hf q n0)
        have hL6 : ∀ q : Nat, q ≠ k → σ_2 q = σ q := fun q n0 => (hq_3 q n0).trans (hL6 q n0)
        refine m_iinc (((i : Nat) : Int) + 1) [(3, .int (oI (((i : Nat) : Int) + 1))), (0, .ref (ad (k))), (1, .long (lN (0))), (4, .int (oI (4)))] hx hb dJ7_fill_d0a16_16 hl (j := 2) rfl (by omega) (by decide) rfl (fun ls hl => ?_)
        refine lv_goto (tgt := 6) hx hb dJ7_fill_d0a16_19 (by decide) ?_
        exact ih6 (i + 1) (by omega) (by first | assumption | omega) _ e0 (hL6) _ _ hH ls (lv_sub hl [1, 2, 0, 3] rfl)
  exact L6 _ 0 (Nat.lt_succ_self _) (by first | assumption | omega) _ (e0.trans (congrArg (fun z => oAJ cT 4 z) (by funext q; rw [if_neg (Nat.not_lt_zero _)]))) (fun q _ => rfl) _ _ hH ls (lv_sub hl [2, 3, 1, 0] rfl)
set_option maxHeartbeats 4000000 in
set_option maxRecDepth 100000 in
theorem c4_rulers {l : Launch} {D : va_G} {cT : Nat → ClassId} {N b0 : Nat} {ad : Nat → Nat} (hA : oAd b0 N ad) {σ : Nat → va_E} (j n a g : Nat) (sz w : Nat → Nat) (hj : j + 2 < N) (e0 : σ (j) = .inr (4, [.ref (ad (j + 1)), .ref (ad (j + 2)), .int (oI (((n : Nat) : Int))), .int (oI (((a : Nat) : Int))), .int (oI (((g : Nat) : Int)))])) (e1 : σ (j + 1) = oAN cT 4 sz) (e2 : σ (j + 2) = oAJ cT 4 w) :
    oCi l D cT N ad b0 yX4_rulers cX4_rulers 1 (some .int) 0 0 [.ref (ad (j))] σ (fun rr uu => rr = oI (((n : Nat) : Int)) ∧ uu = σ) := by
  refine m_start (cc := cX4_rulers) (by decide) (Nat.le_of_ble_eq_true rfl) rfl ?_
  intro Pp Ee Ss Mm Bb Me Cc Ar ls hx hb hml hown hlk hrt hts hK hH hl
  have hown : Ss.vm.findClass RX4 = some Mm.cls := hown
  have hl : lv_has ls 1 [(0, .ref (ad (j)))] := hl
  refine lv_aload_n hx hb dX4_rulers_0 rfl (lv_at hl 0 rfl) ?_
  refine gf_X4_rulers hx hb hts hown hK hH (k := j) (by omega) e0 dX4_rulers_1 ?_
  exact m_iret hx hb hlk hrt hH (m_ni _) dX4_rulers_4 ⟨rfl, rfl⟩
set_option maxHeartbeats 4000000 in
set_option maxRecDepth 100000 in
theorem c4_allowed {l : Launch} {D : va_G} {cT : Nat → ClassId} {N b0 : Nat} {ad : Nat → Nat} (hA : oAd b0 N ad) {σ : Nat → va_E} (j n a g : Nat) (sz w : Nat → Nat) (hj : j + 2 < N) (e0 : σ (j) = .inr (4, [.ref (ad (j + 1)), .ref (ad (j + 2)), .int (oI (((n : Nat) : Int))), .int (oI (((a : Nat) : Int))), .int (oI (((g : Nat) : Int)))])) (e1 : σ (j + 1) = oAN cT 4 sz) (e2 : σ (j + 2) = oAJ cT 4 w) :
    oCi l D cT N ad b0 yX4_allowed cX4_allowed 1 (some .int) 0 0 [.ref (ad (j))] σ (fun rr uu => rr = oI (((a : Nat) : Int)) ∧ uu = σ) := by
  refine m_start (cc := cX4_allowed) (by decide) (Nat.le_of_ble_eq_true rfl) rfl ?_
  intro Pp Ee Ss Mm Bb Me Cc Ar ls hx hb hml hown hlk hrt hts hK hH hl
  have hown : Ss.vm.findClass RX4 = some Mm.cls := hown
  have hl : lv_has ls 1 [(0, .ref (ad (j)))] := hl
  refine lv_aload_n hx hb dX4_allowed_0 rfl (lv_at hl 0 rfl) ?_
  refine gf_X4_allowed hx hb hts hown hK hH (k := j) (by omega) e0 dX4_allowed_1 ?_
  exact m_iret hx hb hlk hrt hH (m_ni _) dX4_allowed_4 ⟨rfl, rfl⟩
set_option maxHeartbeats 4000000 in
set_option maxRecDepth 100000 in
theorem c4_range {l : Launch} {D : va_G} {cT : Nat → ClassId} {N b0 : Nat} {ad : Nat → Nat} (hA : oAd b0 N ad) {σ : Nat → va_E} (j n a g : Nat) (sz w : Nat → Nat) (hj : j + 2 < N) (e0 : σ (j) = .inr (4, [.ref (ad (j + 1)), .ref (ad (j + 2)), .int (oI (((n : Nat) : Int))), .int (oI (((a : Nat) : Int))), .int (oI (((g : Nat) : Int)))])) (e1 : σ (j + 1) = oAN cT 4 sz) (e2 : σ (j + 2) = oAJ cT 4 w) :
    oCi l D cT N ad b0 yX4_range cX4_range 1 (some .int) 0 0 [.ref (ad (j))] σ (fun rr uu => rr = oI (((g : Nat) : Int)) ∧ uu = σ) := by
  refine m_start (cc := cX4_range) (by decide) (Nat.le_of_ble_eq_true rfl) rfl ?_
  intro Pp Ee Ss Mm Bb Me Cc Ar ls hx hb hml hown hlk hrt hts hK hH hl
  have hown : Ss.vm.findClass RX4 = some Mm.cls := hown
  have hl : lv_has ls 1 [(0, .ref (ad (j)))] := hl
  refine lv_aload_n hx hb dX4_range_0 rfl (lv_at hl 0 rfl) ?_
  refine gf_X4_range hx hb hts hown hK hH (k := j) (by omega) e0 dX4_range_1 ?_
  exact m_iret hx hb hlk hrt hH (m_ni _) dX4_range_4 ⟨rfl, rfl⟩
set_option maxHeartbeats 4000000 in
set_option maxRecDepth 100000 in
theorem c4_hasRuler {l : Launch} {D : va_G} {cT : Nat → ClassId} {N b0 : Nat} {ad : Nat → Nat} (hA : oAd b0 N ad) {σ : Nat → va_E} (j n a g : Nat) (sz w : Nat → Nat) (r : Int) (hj : j + 2 < N) (hn : n ≤ 4) (hr : -2147483648 ≤ r ∧ r < 2147483648) (e0 : σ (j) = .inr (4, [.ref (ad (j + 1)), .ref (ad (j + 2)), .int (oI (((n : Nat) : Int))), .int (oI (((a : Nat) : Int))), .int (oI (((g : Nat) : Int)))])) (e1 : σ (j + 1) = oAN cT 4 sz) (e2 : σ (j + 2) = oAJ cT 4 w) :
    oCi l D cT N ad b0 yX4_hasRuler cX4_hasRuler 2 (some .boolean) 0 0 [.ref (ad (j)), .int (oI (r))] σ (fun rr uu => (rr = oI 1 ∧ (0 ≤ r ∧ r < (n : Int)) ∨ rr = oI 0 ∧ ¬ (0 ≤ r ∧ r < (n : Int))) ∧ uu = σ) := by
  refine m_start (cc := cX4_hasRuler) (by decide) (Nat.le_of_ble_eq_true rfl) rfl ?_
  intro Pp Ee Ss Mm Bb Me Cc Ar ls hx hb hml hown hlk hrt hts hK hH hl
  have hown : Ss.vm.findClass RX4 = some Mm.cls := hown
  have hl : lv_has ls 2 [(0, .ref (ad (j))), (1, .int (oI (r)))] := hl
  refine lv_iload_n hx hb dX4_hasRuler_0 rfl (lv_at hl 1 rfl) ?_
  refine m_if_lt 16 hx hb dX4_hasRuler_1 (by decide) (by omega) (fun h_1 => ?_) (fun h_1 => ?_)
  · refine m_iconst 0 hx hb dX4_hasRuler_16 rfl ?_
    exact m_iret hx hb hlk hrt hH m_z0 dX4_hasRuler_17 ⟨Or.inr ⟨rfl, by first | assumption | omega | simp_all⟩, rfl⟩
  · refine lv_iload_n hx hb dX4_hasRuler_4 rfl (lv_at hl 1 rfl) ?_
    refine lv_aload_n hx hb dX4_hasRuler_5 rfl (lv_at hl 0 rfl) ?_
    refine gf_X4_rulers hx hb hts hown hK hH (k := j) (by omega) e0 dX4_hasRuler_6 ?_
    refine m_icmp_ge 16 hx hb dX4_hasRuler_9 (by decide) (by omega) (by omega) (fun h_2 => ?_) (fun h_2 => ?_)
    · refine m_iconst 0 hx hb dX4_hasRuler_16 rfl ?_
      exact m_iret hx hb hlk hrt hH m_z0 dX4_hasRuler_17 ⟨Or.inr ⟨rfl, by first | assumption | omega | simp_all⟩, rfl⟩
    · refine m_iconst 1 hx hb dX4_hasRuler_12 rfl ?_
      refine lv_goto (tgt := 17) hx hb dX4_hasRuler_13 (by decide) ?_
      exact m_iret hx hb hlk hrt hH m_z1 dX4_hasRuler_17 ⟨Or.inl ⟨rfl, by first | assumption | omega | simp_all⟩, rfl⟩
set_option maxHeartbeats 4000000 in
set_option maxRecDepth 100000 in
theorem c4_size {l : Launch} {D : va_G} {cT : Nat → ClassId} {N b0 : Nat} {ad : Nat → Nat} (hA : oAd b0 N ad) {σ : Nat → va_E} (j n a g : Nat) (sz w : Nat → Nat) (r : Int) (hj : j + 2 < N) (hn : n ≤ 4) (hr : -2147483648 ≤ r ∧ r < 2147483648) (e0 : σ (j) = .inr (4, [.ref (ad (j + 1)), .ref (ad (j + 2)), .int (oI (((n : Nat) : Int))), .int (oI (((a : Nat) : Int))), .int (oI (((g : Nat) : Int)))])) (e1 : σ (j + 1) = oAN cT 4 sz) (e2 : σ (j + 2) = oAJ cT 4 w) :
    oCi l D cT N ad b0 yX4_size cX4_size 2 (some .int) 0 0 [.ref (ad (j)), .int (oI (r))] σ (fun rr uu => rr = oI (((oSize n sz r : Nat) : Int)) ∧ uu = σ) := by
  refine m_start (cc := cX4_size) (by decide) (Nat.le_of_ble_eq_true rfl) rfl ?_
  intro Pp Ee Ss Mm Bb Me Cc Ar ls hx hb hml hown hlk hrt hts hK hH hl
  have hown : Ss.vm.findClass RX4 = some Mm.cls := hown
  have hl : lv_has ls 2 [(0, .ref (ad (j))), (1, .int (oI (r)))] := hl
  refine lv_iload_n hx hb dX4_size_0 rfl (lv_at hl 1 rfl) ?_
  refine m_if_lt 30 hx hb dX4_size_1 (by decide) (by omega) (fun h_1 => ?_) (fun h_1 => ?_)
  · refine m_iconst 0 hx hb dX4_size_30 rfl ?_
    exact m_iret hx hb hlk hrt hH (m_ni _) dX4_size_31 ⟨congrArg oI (by rw [oSize_out (by omega)]; rfl), rfl⟩
  · refine lv_iload_n hx hb dX4_size_4 rfl (lv_at hl 1 rfl) ?_
    refine lv_aload_n hx hb dX4_size_5 rfl (lv_at hl 0 rfl) ?_
    refine gf_X4_rulers hx hb hts hown hK hH (k := j) (by omega) e0 dX4_size_6 ?_
    refine m_icmp_ge 30 hx hb dX4_size_9 (by decide) (by omega) (by omega) (fun h_2 => ?_) (fun h_2 => ?_)
    · refine m_iconst 0 hx hb dX4_size_30 rfl ?_
      exact m_iret hx hb hlk hrt hH (m_ni _) dX4_size_31 ⟨congrArg oI (by rw [oSize_out (by omega)]; rfl), rfl⟩
    · refine lv_iload_n hx hb dX4_size_12 rfl (lv_at hl 1 rfl) ?_
      refine lv_aload_n hx hb dX4_size_13 rfl (lv_at hl 0 rfl) ?_
      refine gf_X4_sizes hx hb hts hown hK hH (k := j) (by omega) e0 dX4_size_14 ?_
      refine m_alen hx hb hK hH (k := j + 1) (by omega) e1 0 rfl 4 rfl dX4_size_17 ?_
      refine m_icmp_ge 30 hx hb dX4_size_18 (by decide) (by omega) (by omega) (fun h_3 => ?_) (fun h_3 => ?_)
      · refine m_iconst 0 hx hb dX4_size_30 rfl ?_
        exact m_iret hx hb hlk hrt hH (m_ni _) dX4_size_31 ⟨congrArg oI (by rw [oSize_out (by omega)]; rfl), rfl⟩
      · refine lv_aload_n hx hb dX4_size_21 rfl (lv_at hl 0 rfl) ?_
        refine gf_X4_sizes hx hb hts hown hK hH (k := j) (by omega) e0 dX4_size_22 ?_
        refine lv_iload_n hx hb dX4_size_25 rfl (lv_at hl 1 rfl) ?_
        refine m_iald hx hb hK hH (k := j + 1) (by omega) e1 ((r).toNat) (by omega) (by omega) (by decide) dX4_size_26 ?_
        refine lv_goto (tgt := 31) hx hb dX4_size_27 (by decide) ?_
        exact m_iret hx hb hlk hrt hH (m_ni _) dX4_size_31 ⟨congrArg oI (by rw [oSize_in (by omega)]), rfl⟩
set_option maxHeartbeats 4000000 in
set_option maxRecDepth 100000 in
theorem c4_row {l : Launch} {D : va_G} {cT : Nat → ClassId} {N b0 : Nat} {ad : Nat → Nat} (hA : oAd b0 N ad) {σ : Nat → va_E} (j n a g : Nat) (sz w : Nat → Nat) (r : Int) (hj : j + 2 < N) (hn : n ≤ 4) (hr : -2147483648 ≤ r ∧ r < 2147483648) (e0 : σ (j) = .inr (4, [.ref (ad (j + 1)), .ref (ad (j + 2)), .int (oI (((n : Nat) : Int))), .int (oI (((a : Nat) : Int))), .int (oI (((g : Nat) : Int)))])) (e1 : σ (j + 1) = oAN cT 4 sz) (e2 : σ (j + 2) = oAJ cT 4 w) :
    oCl l D cT N ad b0 yX4_row cX4_row 2 (some .long) 0 0 [.ref (ad (j)), .int (oI (r))] σ (fun rr uu => rr = lN (oRow n w r) ∧ uu = σ) := by
  refine m_start (cc := cX4_row) (by decide) (Nat.le_of_ble_eq_true rfl) rfl ?_
  intro Pp Ee Ss Mm Bb Me Cc Ar ls hx hb hml hown hlk hrt hts hK hH hl
  have hown : Ss.vm.findClass RX4 = some Mm.cls := hown
  have hl : lv_has ls 2 [(0, .ref (ad (j))), (1, .int (oI (r)))] := hl
  refine lv_iload_n hx hb dX4_row_0 rfl (lv_at hl 1 rfl) ?_
  refine m_if_lt 30 hx hb dX4_row_1 (by decide) (by omega) (fun h_1 => ?_) (fun h_1 => ?_)
  · refine m_lconstN 0 hx hb dX4_row_30 rfl ?_
    exact m_lret hx hb hlk hrt hH dX4_row_31 ⟨congrArg lN (by rw [oRow_out (by omega)]), rfl⟩
  · refine lv_iload_n hx hb dX4_row_4 rfl (lv_at hl 1 rfl) ?_
    refine lv_aload_n hx hb dX4_row_5 rfl (lv_at hl 0 rfl) ?_
    refine gf_X4_rulers hx hb hts hown hK hH (k := j) (by omega) e0 dX4_row_6 ?_
    refine m_icmp_ge 30 hx hb dX4_row_9 (by decide) (by omega) (by omega) (fun h_2 => ?_) (fun h_2 => ?_)
    · refine m_lconstN 0 hx hb dX4_row_30 rfl ?_
      exact m_lret hx hb hlk hrt hH dX4_row_31 ⟨congrArg lN (by rw [oRow_out (by omega)]), rfl⟩
    · refine lv_iload_n hx hb dX4_row_12 rfl (lv_at hl 1 rfl) ?_
      refine lv_aload_n hx hb dX4_row_13 rfl (lv_at hl 0 rfl) ?_
      refine gf_X4_rows hx hb hts hown hK hH (k := j) (by omega) e0 dX4_row_14 ?_
      refine m_alen hx hb hK hH (k := j + 2) (by omega) e2 1 rfl 4 rfl dX4_row_17 ?_
      refine m_icmp_ge 30 hx hb dX4_row_18 (by decide) (by omega) (by omega) (fun h_3 => ?_) (fun h_3 => ?_)
      · refine m_lconstN 0 hx hb dX4_row_30 rfl ?_
        exact m_lret hx hb hlk hrt hH dX4_row_31 ⟨congrArg lN (by rw [oRow_out (by omega)]), rfl⟩
      · refine lv_aload_n hx hb dX4_row_21 rfl (lv_at hl 0 rfl) ?_
        refine gf_X4_rows hx hb hts hown hK hH (k := j) (by omega) e0 dX4_row_22 ?_
        refine lv_iload_n hx hb dX4_row_25 rfl (lv_at hl 1 rfl) ?_
        refine m_lald hx hb hK hH (k := j + 2) (by omega) e2 ((r).toNat) (by omega) (by omega) (by decide) dX4_row_26 ?_
        refine lv_goto (tgt := 31) hx hb dX4_row_27 (by decide) ?_
        exact m_lret hx hb hlk hrt hH dX4_row_31 ⟨congrArg lN (by rw [oRow_in (by omega)]), rfl⟩
set_option maxHeartbeats 4000000 in
set_option maxRecDepth 100000 in
theorem c4_hasPlace {l : Launch} {D : va_G} {cT : Nat → ClassId} {N b0 : Nat} {ad : Nat → Nat} (hA : oAd b0 N ad) {σ : Nat → va_E} (j n a g : Nat) (sz w : Nat → Nat) (r p : Int) (hj : j + 2 < N) (hn : n ≤ 4) (hr : -2147483648 ≤ r ∧ r < 2147483648) (hp : -2147483648 ≤ p ∧ p < 2147483648) (hsz : ∀ r : Int, oSize n sz r ≤ 40) (e0 : σ (j) = .inr (4, [.ref (ad (j + 1)), .ref (ad (j + 2)), .int (oI (((n : Nat) : Int))), .int (oI (((a : Nat) : Int))), .int (oI (((g : Nat) : Int)))])) (e1 : σ (j + 1) = oAN cT 4 sz) (e2 : σ (j + 2) = oAJ cT 4 w) :
    oCi l D cT N ad b0 yX4_hasPlace cX4_hasPlace 3 (some .boolean) 1 21 [.ref (ad (j)), .int (oI (r)), .int (oI (p))] σ (fun rr uu => (rr = oI 1 ∧ ((0 ≤ r ∧ r < (n : Int)) ∧ 0 ≤ p ∧ p ≤ (oSize n sz r : Int)) ∨ rr = oI 0 ∧ ¬ ((0 ≤ r ∧ r < (n : Int)) ∧ 0 ≤ p ∧ p ≤ (oSize n sz r : Int))) ∧ uu = σ) := by
  refine m_start (cc := cX4_hasPlace) (by decide) (Nat.le_of_ble_eq_true rfl) rfl ?_
  intro Pp Ee Ss Mm Bb Me Cc Ar ls hx hb hml hown hlk hrt hts hK hH hl
  have hown : Ss.vm.findClass RX4 = some Mm.cls := hown
  have hsr := hsz r
  have hl : lv_has ls 3 [(0, .ref (ad (j))), (1, .int (oI (r))), (2, .int (oI (p)))] := hl
  refine lv_aload_n hx hb dX4_hasPlace_0 rfl (lv_at hl 0 rfl) ?_
  refine lv_iload_n hx hb dX4_hasPlace_1 rfl (lv_at hl 1 rfl) ?_
  refine m_pVb hx hb hml hown hts hK hH hl (rest := []) cw_X4_44 (c4_hasRuler hA j n a g sz w r (by first | assumption | omega) (by first | assumption | omega) (by first | assumption | omega) e0 e1 e2) ⟨Nat.le_of_ble_eq_true rfl, Nat.le_of_ble_eq_true rfl⟩ ⟨Nat.le_of_ble_eq_true rfl, Nat.le_of_ble_eq_true rfl⟩ rfl (k := j) (by omega) e0 rfl rfl (Nat.le_of_ble_eq_true rfl) dX4_hasPlace_2 (fun h_1 H locs hH => ?_) (fun h_1 H locs hH => ?_)
  · refine m_if_eq 25 hx hb dX4_hasPlace_5 (by decide) (by omega) (fun h_2 => absurd h_2 (by omega)) (fun h_2 => ?_)
    refine lv_iload_n hx hb dX4_hasPlace_8 rfl (lv_at hl 2 rfl) ?_
    refine m_if_lt 25 hx hb dX4_hasPlace_9 (by decide) (by omega) (fun h_3 => ?_) (fun h_3 => ?_)
    · refine m_iconst 0 hx hb dX4_hasPlace_25 rfl ?_
      exact m_iret hx hb hlk hrt hH m_z0 dX4_hasPlace_26 ⟨Or.inr ⟨rfl, by first | assumption | omega | simp_all⟩, rfl⟩
    · refine lv_iload_n hx hb dX4_hasPlace_12 rfl (lv_at hl 2 rfl) ?_
      refine lv_aload_n hx hb dX4_hasPlace_13 rfl (lv_at hl 0 rfl) ?_
      refine lv_iload_n hx hb dX4_hasPlace_14 rfl (lv_at hl 1 rfl) ?_
      refine m_pVi hx hb hml hown hts hK hH hl (rest := [.int (oI (p))]) cw_X4_32 (c4_size hA j n a g sz w r (by first | assumption | omega) (by first | assumption | omega) (by first | assumption | omega) e0 e1 e2) ⟨Nat.le_of_ble_eq_true rfl, Nat.le_of_ble_eq_true rfl⟩ ⟨Nat.le_of_ble_eq_true rfl, Nat.le_of_ble_eq_true rfl⟩ rfl (k := j) (by omega) e0 rfl rfl (Nat.le_of_ble_eq_true rfl) dX4_hasPlace_15 (fun H locs hH => ?_)
      refine m_icmp_gt 25 hx hb dX4_hasPlace_18 (by decide) (by omega) (by omega) (fun h_4 => ?_) (fun h_4 => ?_)
      · refine m_iconst 0 hx hb dX4_hasPlace_25 rfl ?_
        exact m_iret hx hb hlk hrt hH m_z0 dX4_hasPlace_26 ⟨Or.inr ⟨rfl, by first | assumption | omega | simp_all⟩, rfl⟩
      · refine m_iconst 1 hx hb dX4_hasPlace_21 rfl ?_
        refine lv_goto (tgt := 26) hx hb dX4_hasPlace_22 (by decide) ?_
        exact m_iret hx hb hlk hrt hH m_z1 dX4_hasPlace_26 ⟨Or.inl ⟨rfl, by first | assumption | omega | simp_all⟩, rfl⟩
  · refine m_if_eq 25 hx hb dX4_hasPlace_5 (by decide) (by omega) (fun h_5 => ?_) (fun h_5 => absurd h_5 (by omega))
    refine m_iconst 0 hx hb dX4_hasPlace_25 rfl ?_
    exact m_iret hx hb hlk hrt hH m_z0 dX4_hasPlace_26 ⟨Or.inr ⟨rfl, by first | assumption | omega | simp_all⟩, rfl⟩
set_option maxHeartbeats 4000000 in
set_option maxRecDepth 100000 in
theorem c5_hasBit {l : Launch} {D : va_G} {cT : Nat → ClassId} {N b0 : Nat} {ad : Nat → Nat} (hA : oAd b0 N ad) {σ : Nat → va_E} (w : Nat) (p : Int) (hw : w < 2 ^ 64) (hp : -2147483648 ≤ p ∧ p < 2147483648) :
    oCi l D cT N ad b0 yX5_hasBit cX5_hasBit 3 (some .boolean) 0 0 [.long (lN (w)), .int (oI (p))] σ (fun rr uu => (rr = oI 1 ∧ (0 ≤ p ∧ p < 64 ∧ w.testBit p.toNat = true) ∨ rr = oI 0 ∧ ¬ (0 ≤ p ∧ p < 64 ∧ w.testBit p.toNat = true)) ∧ uu = σ) := by
  refine m_start (cc := cX5_hasBit) (by decide) (Nat.le_of_ble_eq_true rfl) rfl ?_
  intro Pp Ee Ss Mm Bb Me Cc Ar ls hx hb hml hown hlk hrt hts hK hH hl
  have hown : Ss.vm.findClass RX5 = some Mm.cls := hown
  have hl : lv_has ls 3 [(0, .long (lN (w))), (2, .int (oI (p)))] := hl
  refine lv_iload_n hx hb dX5_hasBit_0 rfl (lv_at hl 1 rfl) ?_
  refine m_if_lt 24 hx hb dX5_hasBit_1 (by decide) (by omega) (fun h_1 => ?_) (fun h_1 => ?_)
  · refine m_iconst 0 hx hb dX5_hasBit_24 rfl ?_
    exact m_iret hx hb hlk hrt hH m_z0 dX5_hasBit_25 ⟨Or.inr ⟨rfl, by omega⟩, rfl⟩
  · refine lv_iload_n hx hb dX5_hasBit_4 rfl (lv_at hl 1 rfl) ?_
    refine m_bipush 64 hx hb dX5_hasBit_5 (by decide) ?_
    refine m_icmp_ge 24 hx hb dX5_hasBit_7 (by decide) (by omega) (by omega) (fun h_2 => ?_) (fun h_2 => ?_)
    · refine m_iconst 0 hx hb dX5_hasBit_24 rfl ?_
      exact m_iret hx hb hlk hrt hH m_z0 dX5_hasBit_25 ⟨Or.inr ⟨rfl, by omega⟩, rfl⟩
    · refine lv_lload_n hx hb dX5_hasBit_10 rfl (lv_at hl 0 rfl) ?_
      refine lv_iload_n hx hb dX5_hasBit_11 rfl (lv_at hl 1 rfl) ?_
      refine m_lushr (w / 2 ^ ((p).toNat)) hx hb dX5_hasBit_12 (hw) (by omega) (rfl) ?_
      refine m_lconstN 1 hx hb dX5_hasBit_13 rfl ?_
      refine m_land ((w / 2 ^ ((p).toNat)) &&& 1) hx hb dX5_hasBit_14 (rfl) ?_
      refine m_lconstN 0 hx hb dX5_hasBit_15 rfl ?_
      refine m_lcmpN_eq 24 hx hb dX5_hasBit_16 dX5_hasBit_17 (by decide) (o_and1 _) (by decide) (fun hz => ?_) (fun hz => ?_)
      · refine m_iconst 0 hx hb dX5_hasBit_24 rfl ?_
        exact m_iret hx hb hlk hrt hH m_z0 dX5_hasBit_25 ⟨Or.inr ⟨rfl, fun q => absurd q.2.2 (by rw [(o_tb _ _).mp hz]; decide)⟩, rfl⟩
      · refine m_iconst 1 hx hb dX5_hasBit_20 rfl ?_
        refine lv_goto (tgt := 25) hx hb dX5_hasBit_21 (by decide) ?_
        exact m_iret hx hb hlk hrt hH m_z1 dX5_hasBit_25 ⟨Or.inl ⟨rfl, ⟨by omega, by omega, (o_tb1 _ _).mp hz⟩⟩, rfl⟩
set_option maxHeartbeats 4000000 in
set_option maxRecDepth 100000 in
theorem c4_hasMark {l : Launch} {D : va_G} {cT : Nat → ClassId} {N b0 : Nat} {ad : Nat → Nat} (hA : oAd b0 N ad) {σ : Nat → va_E} (j n a g : Nat) (sz w : Nat → Nat) (r p : Int) (hj : j + 2 < N) (hn : n ≤ 4) (hr : -2147483648 ≤ r ∧ r < 2147483648) (hp : -2147483648 ≤ p ∧ p < 2147483648) (hw : ∀ r : Int, oRow n w r < 2 ^ 64) (e0 : σ (j) = .inr (4, [.ref (ad (j + 1)), .ref (ad (j + 2)), .int (oI (((n : Nat) : Int))), .int (oI (((a : Nat) : Int))), .int (oI (((g : Nat) : Int)))])) (e1 : σ (j + 1) = oAN cT 4 sz) (e2 : σ (j + 2) = oAJ cT 4 w) :
    oCi l D cT N ad b0 yX4_hasMark cX4_hasMark 3 (some .boolean) 1 22 [.ref (ad (j)), .int (oI (r)), .int (oI (p))] σ (fun rr uu => (rr = oI 1 ∧ (0 ≤ p ∧ p < 64 ∧ (oRow n w r).testBit p.toNat = true) ∨ rr = oI 0 ∧ ¬ (0 ≤ p ∧ p < 64 ∧ (oRow n w r).testBit p.toNat = true)) ∧ uu = σ) := by
  refine m_start (cc := cX4_hasMark) (by decide) (Nat.le_of_ble_eq_true rfl) rfl ?_
  intro Pp Ee Ss Mm Bb Me Cc Ar ls hx hb hml hown hlk hrt hts hK hH hl
  have hown : Ss.vm.findClass RX4 = some Mm.cls := hown
  have hl : lv_has ls 3 [(0, .ref (ad (j))), (1, .int (oI (r))), (2, .int (oI (p)))] := hl
  refine lv_aload_n hx hb dX4_hasMark_0 rfl (lv_at hl 0 rfl) ?_
  refine lv_iload_n hx hb dX4_hasMark_1 rfl (lv_at hl 1 rfl) ?_
  refine m_pVn hx hb hml hown hts hK hH hl (rest := []) cw_X4_36 (c4_row hA j n a g sz w r (by first | assumption | omega) (by first | assumption | omega) (by first | assumption | omega) e0 e1 e2) ⟨Nat.le_of_ble_eq_true rfl, Nat.le_of_ble_eq_true rfl⟩ ⟨Nat.le_of_ble_eq_true rfl, Nat.le_of_ble_eq_true rfl⟩ rfl (k := j) (by omega) e0 rfl rfl (Nat.le_of_ble_eq_true rfl) dX4_hasMark_2 (fun H locs hH => ?_)
  refine lv_iload_n hx hb dX4_hasMark_5 rfl (lv_at hl 2 rfl) ?_
  refine m_pNb hx hb hml hown hts hK hH hl (rest := []) cn_X5_hasBit hK.2.1.2.1 (c5_hasBit hA (oRow n w r) p (hw r) (by first | assumption | omega) ) ⟨Nat.le_of_ble_eq_true rfl, Nat.le_of_ble_eq_true rfl⟩ ⟨Nat.le_of_ble_eq_true rfl, Nat.le_of_ble_eq_true rfl⟩ rfl rfl (Nat.le_of_ble_eq_true rfl) dX4_hasMark_6 (fun h_1 H locs hH => ?_) (fun h_1 H locs hH => ?_)
  · exact m_iret hx hb hlk hrt hH m_z1 dX4_hasMark_9 ⟨Or.inl ⟨rfl, by first | assumption | omega | simp_all⟩, rfl⟩
  · exact m_iret hx hb hlk hrt hH m_z0 dX4_hasMark_9 ⟨Or.inr ⟨rfl, by first | assumption | omega | simp_all⟩, rfl⟩
set_option maxHeartbeats 4000000 in
set_option maxRecDepth 100000 in
theorem c4_isEnd {l : Launch} {D : va_G} {cT : Nat → ClassId} {N b0 : Nat} {ad : Nat → Nat} (hA : oAd b0 N ad) {σ : Nat → va_E} (j n a g : Nat) (sz w : Nat → Nat) (r p : Int) (hj : j + 2 < N) (hn : n ≤ 4) (hr : -2147483648 ≤ r ∧ r < 2147483648) (hp : -2147483648 ≤ p ∧ p < 2147483648) (hsz : ∀ r : Int, oSize n sz r ≤ 40) (e0 : σ (j) = .inr (4, [.ref (ad (j + 1)), .ref (ad (j + 2)), .int (oI (((n : Nat) : Int))), .int (oI (((a : Nat) : Int))), .int (oI (((g : Nat) : Int)))])) (e1 : σ (j + 1) = oAN cT 4 sz) (e2 : σ (j + 2) = oAJ cT 4 w) :
    oCi l D cT N ad b0 yX4_isEnd cX4_isEnd 3 (some .boolean) 1 21 [.ref (ad (j)), .int (oI (r)), .int (oI (p))] σ (fun rr uu => (rr = oI 1 ∧ (p = 0 ∨ p = (oSize n sz r : Int)) ∨ rr = oI 0 ∧ ¬ (p = 0 ∨ p = (oSize n sz r : Int))) ∧ uu = σ) := by
  refine m_start (cc := cX4_isEnd) (by decide) (Nat.le_of_ble_eq_true rfl) rfl ?_
  intro Pp Ee Ss Mm Bb Me Cc Ar ls hx hb hml hown hlk hrt hts hK hH hl
  have hown : Ss.vm.findClass RX4 = some Mm.cls := hown
  have hsr := hsz r
  have hl : lv_has ls 3 [(0, .ref (ad (j))), (1, .int (oI (r))), (2, .int (oI (p)))] := hl
  refine lv_iload_n hx hb dX4_isEnd_0 rfl (lv_at hl 2 rfl) ?_
  refine m_if_eq 13 hx hb dX4_isEnd_1 (by decide) (by omega) (fun h_1 => ?_) (fun h_1 => ?_)
  · refine m_iconst 1 hx hb dX4_isEnd_13 rfl ?_
    refine lv_goto (tgt := 18) hx hb dX4_isEnd_14 (by decide) ?_
    exact m_iret hx hb hlk hrt hH m_z1 dX4_isEnd_18 ⟨Or.inl ⟨rfl, by first | assumption | omega | simp_all⟩, rfl⟩
  · refine lv_iload_n hx hb dX4_isEnd_4 rfl (lv_at hl 2 rfl) ?_
    refine lv_aload_n hx hb dX4_isEnd_5 rfl (lv_at hl 0 rfl) ?_
    refine lv_iload_n hx hb dX4_isEnd_6 rfl (lv_at hl 1 rfl) ?_
    refine m_pVi hx hb hml hown hts hK hH hl (rest := [.int (oI (p))]) cw_X4_32 (c4_size hA j n a g sz w r (by first | assumption | omega) (by first | assumption | omega) (by first | assumption | omega) e0 e1 e2) ⟨Nat.le_of_ble_eq_true rfl, Nat.le_of_ble_eq_true rfl⟩ ⟨Nat.le_of_ble_eq_true rfl, Nat.le_of_ble_eq_true rfl⟩ rfl (k := j) (by omega) e0 rfl rfl (Nat.le_of_ble_eq_true rfl) dX4_isEnd_7 (fun H locs hH => ?_)
    refine m_icmp_ne 17 hx hb dX4_isEnd_10 (by decide) (by omega) (by omega) (fun h_2 => ?_) (fun h_2 => ?_)
    · refine m_iconst 0 hx hb dX4_isEnd_17 rfl ?_
      exact m_iret hx hb hlk hrt hH m_z0 dX4_isEnd_18 ⟨Or.inr ⟨rfl, by first | assumption | omega | simp_all⟩, rfl⟩
    · refine m_iconst 1 hx hb dX4_isEnd_13 rfl ?_
      refine lv_goto (tgt := 18) hx hb dX4_isEnd_14 (by decide) ?_
      exact m_iret hx hb hlk hrt hH m_z1 dX4_isEnd_18 ⟨Or.inl ⟨rfl, by first | assumption | omega | simp_all⟩, rfl⟩
