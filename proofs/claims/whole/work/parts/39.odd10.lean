def oLyR (n : Nat) (w : Nat → Nat) (D : Int → Int) (al : Int) : Nat → Nat → Nat → Int → Int → Prop
  | 0, _, _, _, e => e = 0
  | i + 1, r, k, f, e => ∃ (r' k' : Nat) (f' e' : Int), oLyR n w D al i r' k' f' e' ∧ oNx n w D e' (al - ((i : Nat) : Int) - 1) r k f e
theorem oNx_D {n : Nat} {w : Nat → Nat} {D : Int → Int} {fr lt : Int} {r k : Nat} {fw to : Int} (h : oNx n w D fr lt r k fw to) : D to = lt := h.2.2.2.elim (fun q => q.2.2) (fun q => q.2.2.1)
theorem oSt_D {S : Nat → Int} {sp a : Nat} (h : ∀ t : Nat, t ≤ 200 → S t = oDist sp a t) (x : Int) : oSt S x = oD sp a x := by
  by_cases hx : 0 ≤ x ∧ x ≤ 200
  · rw [oSt_in hx, h _ (by omega)]
    unfold oD
    rw [if_pos hx]
  · rw [oSt_out hx]
    unfold oD
    rw [if_neg hx]
set_option maxHeartbeats 8000000 in
set_option maxRecDepth 100000 in
theorem c5_laying {l : Launch} {D : va_G} {cT : Nat → ClassId} {N b0 : Nat} {ad : Nat → Nat} (hA : oAd b0 N ad) {σ : Nat → va_E} (t k x : Int) (n a g : Nat) (sz w : Nat → Nat) (ld : Nat) (S Ln : Nat → Int) (lr lk : Nat) (lf le : Int) (ff sf : Int) (hl0 : l.stackTraces = false) (hN : 76 ≤ N) (hwf : oWf n sz w) (hbt : -2147483648 ≤ t ∧ t < 2147483648) (hbk : -2147483648 ≤ k ∧ k < 2147483648) (hbx : -2147483648 ≤ x ∧ x < 2147483648) (hlf : lf = 0 ∨ lf = 1) (hle : -2147483648 ≤ le ∧ le < 2147483648) (eO : σ (0) = .inr (5, [.ref (ad (1)), .ref (ad (4)), .ref (ad (7)), .ref (ad (10)), .int (oI (ff)), .int (oI (sf)), .ref (ad (13)), .ref (ad (57)), .ref (ad (59)), .ref (ad (64))])) (e0 : σ (1) = .inr (4, [.ref (ad (2)), .ref (ad (3)), .int (oI (((n : Nat) : Int))), .int (oI (((a : Nat) : Int))), .int (oI (((g : Nat) : Int)))])) (e1 : σ (2) = oAN cT 4 sz) (e2 : σ (3) = oAJ cT 4 w) (e59 : σ (59) = .inr (3, [.ref (ad (60)), .ref (ad (61)), .int (oI (((ld : Nat) : Int))), .ref (ad (62)), .ref (ad (63))])) (e60 : σ (60) = oAI cT 201 S) (e61 : σ (61) = oAI cT 201 Ln) (e64 : σ (64) = .inr (1, [.int (oI (((lr : Nat) : Int))), .int (oI (((lk : Nat) : Int))), .int (oI (lf)), .int (oI (le))])) :
    oXi l D cT N ad b0 yX5_laying cX5_laying 6 (some .int) 7 110 2 [.ref (ad (0)), .int (oI (t)), .int (oI (k)), .int (oI (x))] σ (fun rr uu => ∃ q : Int, ∃ ld2 : Nat, ∃ S2 : Nat → Int, ∃ Ln2 : Nat → Int, ∃ r2 : Nat, ∃ k2 : Nat, ∃ f2 : Int, ∃ e2 : Int, rr = oI (q) ∧ ((0 ≤ t ∧ t ≤ 200) ∧ 0 ≤ k ∧ 0 ≤ x ∧ x ≤ 3) ∧ (((oD (oOrW n w (-1) 4) t.toNat) 0 ≤ k ∧ q = -1) ∨ (k < (oD (oOrW n w (-1) 4) t.toNat) 0 ∧ oLyR n w (oD (oOrW n w (-1) 4) t.toNat) ((oD (oOrW n w (-1) 4) t.toNat) 0) (k.toNat + 1) r2 k2 f2 e2 ∧ q = oLn x r2 k2 f2 e2)) ∧ (f2 = 0 ∨ f2 = 1) ∧ (-2147483648 ≤ e2 ∧ e2 < 2147483648) ∧ uu (59) = .inr (3, [.ref (ad (60)), .ref (ad (61)), .int (oI (((ld2 : Nat) : Int))), .ref (ad (62)), .ref (ad (63))]) ∧ uu (60) = oAI cT 201 S2 ∧ uu (61) = oAI cT 201 Ln2 ∧ uu (64) = .inr (1, [.int (oI (((r2 : Nat) : Int))), .int (oI (((k2 : Nat) : Int))), .int (oI (f2)), .int (oI (e2))]) ∧ (∀ q : Nat, q ≠ 59 → q ≠ 60 → q ≠ 61 → q ≠ 64 → uu q = σ q)) (fun E uu => (E = oIA ∧ ¬ ((0 ≤ t ∧ t ≤ 200) ∧ 0 ≤ k ∧ 0 ≤ x ∧ x ≤ 3)) ∧ uu = σ) := by
  refine m_startX (cc := cX5_laying) (by decide) (Nat.le_of_ble_eq_true rfl) rfl ?_
  intro Pp Ee Ss Mm Bb Me Cc Ar ls hx hb hml hown hlk hrt hts hK hH hl hXT hnt
  have hown : Ss.vm.findClass RX5 = some Mm.cls := hown
  have hn := hwf.1
  have hsz := oSize_le hwf
  have hw64 := oRow_64 hwf
  have hw41 := oRow_lt hwf
  have hs64 := oOrW_64 n w (-1) 4
  have hl : lv_has ls 6 [(0, .ref (ad (0))), (1, .int (oI (t))), (2, .int (oI (k))), (3, .int (oI (x)))] := hl
  have hf : ∀ q : Nat, q ≠ 59 → q ≠ 60 → q ≠ 61 → q ≠ 64 → σ q = σ q := fun q _ _ _ _ => rfl
  refine lv_iload_n hx hb dX5_laying_0 rfl (lv_at hl 1 rfl) ?_
  refine m_xSv hx hb hml hown hts hK hXT hH hl hlk hnt (rest := []) cw_X5_229 (c5_checkLength hA t (by first | assumption | omega) (by first | assumption | omega) ) ⟨Nat.le_of_ble_eq_true rfl, Nat.le_of_ble_eq_true rfl⟩ ⟨Nat.le_of_ble_eq_true rfl, Nat.le_of_ble_eq_true rfl⟩ ⟨Nat.le_of_ble_eq_true rfl, Nat.le_of_ble_eq_true rfl⟩ rfl rfl rfl (Nat.le_of_ble_eq_true rfl) dX5_laying_1 (fun E u h => ⟨⟨h.1, fun q => h.2.1 q.1⟩, h.2.2⟩) (fun σ_1 H locs hp_2 hH => ?_)
  obtain ⟨htt, hu⟩ := hp_2
  have hu := hu.symm
  subst hu
  refine lv_iload_n hx hb dX5_laying_4 rfl (lv_at hl 2 rfl) ?_
  refine m_if_lt 17 hx hb dX5_laying_5 (by decide) (by omega) (fun h_4 => ?_) (fun h_4 => ?_)
  · exact m_throw (text := "no such number") hx hb hl0 hml hown hts hK hXT hH hl hlk hnt oth_0 (by decide) dX5_laying_17 dX5_laying_20 dX5_laying_21 dX5_laying_23 dX5_laying_26 ⟨Nat.le_of_ble_eq_true rfl, Nat.le_of_ble_eq_true rfl⟩ (Nat.le_of_ble_eq_true rfl) ⟨Nat.le_of_ble_eq_true rfl, Nat.le_of_ble_eq_true rfl⟩ ⟨Nat.le_of_ble_eq_true rfl, Nat.le_of_ble_eq_true rfl⟩ (⟨⟨rfl, by omega⟩, rfl⟩)
  · refine lv_iload_n hx hb dX5_laying_8 rfl (lv_at hl 3 rfl) ?_
    refine m_if_lt 17 hx hb dX5_laying_9 (by decide) (by omega) (fun h_5 => ?_) (fun h_5 => ?_)
    · exact m_throw (text := "no such number") hx hb hl0 hml hown hts hK hXT hH hl hlk hnt oth_0 (by decide) dX5_laying_17 dX5_laying_20 dX5_laying_21 dX5_laying_23 dX5_laying_26 ⟨Nat.le_of_ble_eq_true rfl, Nat.le_of_ble_eq_true rfl⟩ (Nat.le_of_ble_eq_true rfl) ⟨Nat.le_of_ble_eq_true rfl, Nat.le_of_ble_eq_true rfl⟩ ⟨Nat.le_of_ble_eq_true rfl, Nat.le_of_ble_eq_true rfl⟩ (⟨⟨rfl, by omega⟩, rfl⟩)
    · refine lv_iload_n hx hb dX5_laying_12 rfl (lv_at hl 3 rfl) ?_
      refine m_iconst 3 hx hb dX5_laying_13 rfl ?_
      refine m_icmp_le 27 hx hb dX5_laying_14 (by decide) (by omega) (by omega) (fun h_6 => ?_) (fun h_6 => ?_)
      · refine lv_aload_n hx hb dX5_laying_27 rfl (lv_at hl 0 rfl) ?_
        refine gf_X5_reach hx hb hts hown hK hH (k := 0) (by omega) eO dX5_laying_28 ?_
        refine lv_iload_n hx hb dX5_laying_31 rfl (lv_at hl 1 rfl) ?_
        refine m_topI (((t.toNat : Nat) : Int)) (by omega) ?_
        refine lv_aload_n hx hb dX5_laying_32 rfl (lv_at hl 0 rfl) ?_
        refine gf_X5_present hx hb hts hown hK hH (k := 0) (by omega) eO dX5_laying_33 ?_
        refine m_pVn hx hb hml hown hts hK hH hl (rest := [.int (oI (((t.toNat : Nat) : Int))), .ref (ad (59))]) cw_X5_107 (c4_spread hA 1 n a g sz w (by first | assumption | omega) (by first | assumption | omega) e0 e1 e2) ⟨Nat.le_of_ble_eq_true rfl, Nat.le_of_ble_eq_true rfl⟩ ⟨Nat.le_of_ble_eq_true rfl, Nat.le_of_ble_eq_true rfl⟩ rfl (k := 1) (by omega) e0 rfl rfl (Nat.le_of_ble_eq_true rfl) dX5_laying_36 (fun H locs hH => ?_)
        refine m_callVv hx hb hml hown hts hK hH hl (rest := []) cw_X5_241 (c3_walk hA t.toNat (oOrW n w (-1) 4) ld S Ln (by first | assumption | omega) (by first | assumption | omega) (by first | assumption | omega) e59 e60 e61) ⟨Nat.le_of_ble_eq_true rfl, Nat.le_of_ble_eq_true rfl⟩ ⟨Nat.le_of_ble_eq_true rfl, Nat.le_of_ble_eq_true rfl⟩ rfl (k := 59) (by omega) e59 rfl rfl (Nat.le_of_ble_eq_true rfl) dX5_laying_39 (fun σ_7 H locs hp_8 hH => ?_)
        obtain ⟨S3, L3, ld3, hD, e59, e60, e61, hq_9⟩ := hp_8
        have eO : σ_7 (0) = .inr (5, [.ref (ad (1)), .ref (ad (4)), .ref (ad (7)), .ref (ad (10)), .int (oI (ff)), .int (oI (sf)), .ref (ad (13)), .ref (ad (57)), .ref (ad (59)), .ref (ad (64))]) := (hq_9 _ (by decide) (by decide) (by decide)).trans eO
        have e0 : σ_7 (1) = .inr (4, [.ref (ad (2)), .ref (ad (3)), .int (oI (((n : Nat) : Int))), .int (oI (((a : Nat) : Int))), .int (oI (((g : Nat) : Int)))]) := (hq_9 _ (by decide) (by decide) (by decide)).trans e0
        have e1 : σ_7 (2) = oAN cT 4 sz := (hq_9 _ (by decide) (by decide) (by decide)).trans e1
        have e2 : σ_7 (3) = oAJ cT 4 w := (hq_9 _ (by decide) (by decide) (by decide)).trans e2
        have e64 : σ_7 (64) = .inr (1, [.int (oI (((lr : Nat) : Int))), .int (oI (((lk : Nat) : Int))), .int (oI (lf)), .int (oI (le))]) := (hq_9 _ (by decide) (by decide) (by decide)).trans e64
        have hf : ∀ q : Nat, q ≠ 59 → q ≠ 60 → q ≠ 61 → q ≠ 64 → σ_7 q = σ q := fun q n0 n1 n2 n3 => (hq_9 q n0 n1 n2).trans (hf q n0 n1 n2 n3)
        have hS := oSt_D hD
        obtain ⟨al, hal⟩ : ∃ y : Int, (oD (oOrW n w (-1) 4) t.toNat) 0 = y := ⟨_, rfl⟩
        have halb : -1 ≤ al ∧ al ≤ 200 := by rw [← hal]; exact oDist_b0 (by omega) _
        refine lv_aload_n hx hb dX5_laying_42 rfl (lv_at hl 0 rfl) ?_
        refine gf_X5_reach hx hb hts hown hK hH (k := 0) (by omega) eO dX5_laying_43 ?_
        refine m_iconst 0 hx hb dX5_laying_46 rfl ?_
        refine m_pVi hx hb hml hown hts hK hH hl (rest := []) cw_X5_245 (c3_stepsTo hA 0 S3 L3 ld3 (by first | assumption | omega) (by first | assumption | omega) e59 e60 e61) ⟨Nat.le_of_ble_eq_true rfl, Nat.le_of_ble_eq_true rfl⟩ ⟨Nat.le_of_ble_eq_true rfl, Nat.le_of_ble_eq_true rfl⟩ rfl (k := 59) (by omega) e59 rfl rfl (Nat.le_of_ble_eq_true rfl) dX5_laying_47 (fun H locs hH => ?_)
        refine m_topI (al) ((hS 0).trans hal) ?_
        refine lv_istore (lv' := [(4, .int (oI (al))), (0, .ref (ad (0))), (1, .int (oI (t))), (2, .int (oI (k))), (3, .int (oI (x)))]) hx hb dX5_laying_50 hl (by decide) rfl (fun ls hl => ?_)
        refine lv_iload_n hx hb dX5_laying_52 rfl (lv_at hl 3 rfl) ?_
        refine lv_iload hx hb dX5_laying_53 (lv_at hl 0 rfl) ?_
        refine m_icmp_lt 60 hx hb dX5_laying_55 (by decide) (by omega) (by omega) (fun h_11 => ?_) (fun h_11 => ?_)
        · refine lv_aload_n hx hb dX5_laying_60 rfl (lv_at hl 1 rfl) ?_
          refine gf_X5_laid hx hb hts hown hK hH (k := 0) (by omega) eO dX5_laying_61 ?_
          refine m_callVv hx hb hml hown hts hK hH hl (rest := []) cw_X5_248 (c1_begin hA lr lk lf le (by first | assumption | omega) (by first | assumption | omega) e64) ⟨Nat.le_of_ble_eq_true rfl, Nat.le_of_ble_eq_true rfl⟩ ⟨Nat.le_of_ble_eq_true rfl, Nat.le_of_ble_eq_true rfl⟩ rfl (k := 64) (by omega) e64 rfl rfl (Nat.le_of_ble_eq_true rfl) dX5_laying_64 (fun σ_12 H locs hp_13 hH => ?_)
          obtain ⟨e64, hq_14⟩ := hp_13
          have eO : σ_12 (0) = .inr (5, [.ref (ad (1)), .ref (ad (4)), .ref (ad (7)), .ref (ad (10)), .int (oI (ff)), .int (oI (sf)), .ref (ad (13)), .ref (ad (57)), .ref (ad (59)), .ref (ad (64))]) := (hq_14 _ (by decide)).trans eO
          have e0 : σ_12 (1) = .inr (4, [.ref (ad (2)), .ref (ad (3)), .int (oI (((n : Nat) : Int))), .int (oI (((a : Nat) : Int))), .int (oI (((g : Nat) : Int)))]) := (hq_14 _ (by decide)).trans e0
          have e1 : σ_12 (2) = oAN cT 4 sz := (hq_14 _ (by decide)).trans e1
          have e2 : σ_12 (3) = oAJ cT 4 w := (hq_14 _ (by decide)).trans e2
          have e59 : σ_12 (59) = .inr (3, [.ref (ad (60)), .ref (ad (61)), .int (oI (((ld3 : Nat) : Int))), .ref (ad (62)), .ref (ad (63))]) := (hq_14 _ (by decide)).trans e59
          have e60 : σ_12 (60) = oAI cT 201 S3 := (hq_14 _ (by decide)).trans e60
          have e61 : σ_12 (61) = oAI cT 201 L3 := (hq_14 _ (by decide)).trans e61
          have hf : ∀ q : Nat, q ≠ 59 → q ≠ 60 → q ≠ 61 → q ≠ 64 → σ_12 q = σ q := fun q n0 n1 n2 n3 => (hq_14 q n3).trans (hf q n0 n1 n2 n3)
          refine m_iconst 0 hx hb dX5_laying_67 rfl ?_
          refine lv_istore (lv' := [(5, .int (oI (0))), (4, .int (oI (al))), (0, .ref (ad (0))), (1, .int (oI (t))), (2, .int (oI (k))), (3, .int (oI (x)))]) hx hb dX5_laying_68 hl (by decide) rfl (fun ls hl => ?_)
          have L70 : ∀ (fu : Nat) (i : Nat) (r1 : Nat) (k1 : Nat) (f1 : Int) (v1 : Int), (202 - i < fu) → ((i : Int) ≤ k + 1) → (oLyR n w (oD (oOrW n w (-1) 4) t.toNat) al i r1 k1 f1 v1) → (0 ≤ v1 ∧ v1 ≤ 200) → (f1 = 0 ∨ f1 = 1) → ((oD (oOrW n w (-1) 4) t.toNat) v1 = al - ((i : Nat) : Int)) → ∀ σL70 : Nat → va_E, σL70 (64) = .inr (1, [.int (oI (((r1 : Nat) : Int))), .int (oI (((k1 : Nat) : Int))), .int (oI (f1)), .int (oI (v1))]) → (∀ q : Nat, q ≠ 64 → σL70 q = σ_12 q) → ∀ (H : Heap) (locs : List Loc), oH b0 D N ad Ss.heap σL70 H locs → ∀ ls : Array Slot, lv_has ls 6 [(0, .ref (ad (0))), (1, .int (oI (t))), (2, .int (oI (k))), (3, .int (oI (x))), (4, .int (oI (al))), (5, .int (oI (((i : Nat) : Int))))] → W Pp l Ee { frames := 7, cells := 2, slots := 6 * 2, locals := 110 } Ss Mm Ar Bb Me Cc H locs (0 + 1) (0 + 6 * 1) (vx_MQ Bb (va_Qi (fun rr uu => ∃ q : Int, ∃ ld2 : Nat, ∃ S2 : Nat → Int, ∃ Ln2 : Nat → Int, ∃ r2 : Nat, ∃ k2 : Nat, ∃ f2 : Int, ∃ e2 : Int, rr = oI (q) ∧ ((0 ≤ t ∧ t ≤ 200) ∧ 0 ≤ k ∧ 0 ≤ x ∧ x ≤ 3) ∧ (((oD (oOrW n w (-1) 4) t.toNat) 0 ≤ k ∧ q = -1) ∨ (k < (oD (oOrW n w (-1) 4) t.toNat) 0 ∧ oLyR n w (oD (oOrW n w (-1) 4) t.toNat) ((oD (oOrW n w (-1) 4) t.toNat) 0) (k.toNat + 1) r2 k2 f2 e2 ∧ q = oLn x r2 k2 f2 e2)) ∧ (f2 = 0 ∨ f2 = 1) ∧ (-2147483648 ≤ e2 ∧ e2 < 2147483648) ∧ uu (59) = .inr (3, [.ref (ad (60)), .ref (ad (61)), .int (oI (((ld2 : Nat) : Int))), .ref (ad (62)), .ref (ad (63))]) ∧ uu (60) = oAI cT 201 S2 ∧ uu (61) = oAI cT 201 Ln2 ∧ uu (64) = .inr (1, [.int (oI (((r2 : Nat) : Int))), .int (oI (((k2 : Nat) : Int))), .int (oI (f2)), .int (oI (e2))]) ∧ (∀ q : Nat, q ≠ 59 → q ≠ 60 → q ≠ 61 → q ≠ 64 → uu q = σ q)) (oV D N ad) (fun q => b0 ≤ q)) (oXC b0 D N ad (fun E uu => (E = oIA ∧ ¬ ((0 ≤ t ∧ t ≤ 200) ∧ 0 ≤ k ∧ 0 ≤ x ∧ x ≤ 3)) ∧ uu = σ)) Ar Ss 2 (6 * 2) (fun q => b0 ≤ q)) (F0 Mm 70 ls []) := by
            intro fu70
            induction fu70 with
            | zero =>
              intro i r1 k1 f1 v1 hm70
              exact absurd hm70 (Nat.not_lt_zero _)
            | succ fu70 ih70 =>
              intro i r1 k1 f1 v1 hm70 hi hR hv1 hf1 hDe σL70 e64 hL70 H locs hH ls hl
              have eO : σL70 (0) = .inr (5, [.ref (ad (1)), .ref (ad (4)), .ref (ad (7)), .ref (ad (10)), .int (oI (ff)), .int (oI (sf)), .ref (ad (13)), .ref (ad (57)), .ref (ad (59)), .ref (ad (64))]) := (hL70 _ (by decide)).trans eO
              have e0 : σL70 (1) = .inr (4, [.ref (ad (2)), .ref (ad (3)), .int (oI (((n : Nat) : Int))), .int (oI (((a : Nat) : Int))), .int (oI (((g : Nat) : Int)))]) := (hL70 _ (by decide)).trans e0
              have e1 : σL70 (2) = oAN cT 4 sz := (hL70 _ (by decide)).trans e1
              have e2 : σL70 (3) = oAJ cT 4 w := (hL70 _ (by decide)).trans e2
              have e59 : σL70 (59) = .inr (3, [.ref (ad (60)), .ref (ad (61)), .int (oI (((ld3 : Nat) : Int))), .ref (ad (62)), .ref (ad (63))]) := (hL70 _ (by decide)).trans e59
              have e60 : σL70 (60) = oAI cT 201 S3 := (hL70 _ (by decide)).trans e60
              have e61 : σL70 (61) = oAI cT 201 L3 := (hL70 _ (by decide)).trans e61
              have hf : ∀ q : Nat, q ≠ 59 → q ≠ 60 → q ≠ 61 → q ≠ 64 → σL70 q = σ q := fun q n0 n1 n2 n3 => (hL70 q n3).trans (hf q n0 n1 n2 n3)
              refine lv_iload hx hb dX5_laying_70 (lv_at hl 5 rfl) ?_
              refine lv_iload_n hx hb dX5_laying_72 rfl (lv_at hl 2 rfl) ?_
              refine m_icmp_gt 101 hx hb dX5_laying_73 (by decide) (by omega) (by omega) (fun h_16 => ?_) (fun h_16 => ?_)
              · refine lv_aload_n hx hb dX5_laying_101 rfl (lv_at hl 0 rfl) ?_
                refine gf_X5_laid hx hb hts hown hK hH (k := 0) (by omega) eO dX5_laying_102 ?_
                refine lv_iload_n hx hb dX5_laying_105 rfl (lv_at hl 3 rfl) ?_
                refine m_pVi hx hb hml hown hts hK hH hl (rest := []) cw_X5_252 (c1_number hA x r1 k1 f1 v1 (by first | assumption | omega) (by first | assumption | omega) (by first | assumption | omega) (by first | assumption | omega) e64) ⟨Nat.le_of_ble_eq_true rfl, Nat.le_of_ble_eq_true rfl⟩ ⟨Nat.le_of_ble_eq_true rfl, Nat.le_of_ble_eq_true rfl⟩ rfl (k := 64) (by omega) e64 rfl rfl (Nat.le_of_ble_eq_true rfl) dX5_laying_106 (fun H locs hH => ?_)
                exact m_iretX hx hb hlk hrt hH ⟨Nat.le_of_ble_eq_true rfl, Nat.le_of_ble_eq_true rfl⟩ (m_ni _) dX5_laying_109 ⟨(oLn x r1 k1 f1 v1), ld3, S3, L3, r1, k1, f1, v1, rfl, (by omega), (Or.inr ⟨by rw [hal]; omega, by rw [hal, show k.toNat + 1 = i by omega]; exact hR, rfl⟩), hf1, (by omega), e59, e60, e61, e64, hf⟩
              · refine lv_iload hx hb dX5_laying_76 (lv_at hl 5 rfl) ?_
                refine m_sipush 200 hx hb dX5_laying_78 (by decide) ?_
                refine m_icmp_gt 101 hx hb dX5_laying_81 (by decide) (by omega) (by omega) (fun h_17 => absurd h_17 (by omega)) (fun h_17 => ?_)
                refine lv_aload_n hx hb dX5_laying_84 rfl (lv_at hl 0 rfl) ?_
                refine lv_iload hx hb dX5_laying_85 (lv_at hl 4 rfl) ?_
                refine m_iconst 1 hx hb dX5_laying_87 rfl ?_
                refine m_isub (al - 1) hx hb dX5_laying_88 (by omega) ?_
                refine lv_iload hx hb dX5_laying_89 (lv_at hl 5 rfl) ?_
                refine m_isub (al - ((i : Nat) : Int) - 1) hx hb dX5_laying_91 (by omega) ?_
                have hex : ∃ r k : Nat, r < n ∧ k < oCk n w r ∧ ((oD (oOrW n w (-1) 4) t.toNat) (v1 + oBy n w r k) = al - ((i : Nat) : Int) - 1 ∨ (oD (oOrW n w (-1) 4) t.toNat) (v1 - oBy n w r k) = al - ((i : Nat) : Int) - 1) := by
                  have h9 := oNx_ex (fr := v1) hw41 rfl (show t.toNat ≤ 200 by omega) (v := (al - ((i : Nat) : Int) - 1).toNat) (by rw [hDe]; omega)
                  rw [Int.toNat_of_nonneg (by omega)] at h9
                  exact h9
                refine m_callVv hx hb hml hown hts hK hH hl (rest := []) cw_X5_249 (c5_layNext hA (al - ((i : Nat) : Int) - 1) n a g sz w ld3 (oOrW n w (-1) 4) t.toNat S3 L3 r1 k1 f1 v1 ff sf (by first | assumption | omega) (by first | assumption | omega) (hS) (by first | assumption | omega) (by first | assumption | omega) (by first | assumption | omega) (hex) eO e0 e1 e2 e59 e60 e61 e64) ⟨Nat.le_of_ble_eq_true rfl, Nat.le_of_ble_eq_true rfl⟩ ⟨Nat.le_of_ble_eq_true rfl, Nat.le_of_ble_eq_true rfl⟩ rfl (k := 0) (by omega) eO rfl rfl (Nat.le_of_ble_eq_true rfl) dX5_laying_92 (fun σ_18 H locs hp_19 hH => ?_)
                obtain ⟨r3, k3, f3, e3, hnx, hed, hfd, e64, hq_20⟩ := hp_19
                have eO : σ_18 (0) = .inr (5, [.ref (ad (1)), .ref (ad (4)), .ref (ad (7)), .ref (ad (10)), .int (oI (ff)), .int (oI (sf)), .ref (ad (13)), .ref (ad (57)), .ref (ad (59)), .ref (ad (64))]) := (hq_20 _ (by decide)).trans eO
                have e0 : σ_18 (1) = .inr (4, [.ref (ad (2)), .ref (ad (3)), .int (oI (((n : Nat) : Int))), .int (oI (((a : Nat) : Int))), .int (oI (((g : Nat) : Int)))]) := (hq_20 _ (by decide)).trans e0
                have e1 : σ_18 (2) = oAN cT 4 sz := (hq_20 _ (by decide)).trans e1
                have e2 : σ_18 (3) = oAJ cT 4 w := (hq_20 _ (by decide)).trans e2
                have e59 : σ_18 (59) = .inr (3, [.ref (ad (60)), .ref (ad (61)), .int (oI (((ld3 : Nat) : Int))), .ref (ad (62)), .ref (ad (63))]) := (hq_20 _ (by decide)).trans e59
                have e60 : σ_18 (60) = oAI cT 201 S3 := (hq_20 _ (by decide)).trans e60
                have e61 : σ_18 (61) = oAI cT 201 L3 := (hq_20 _ (by decide)).trans e61
                have hf : ∀ q : Nat, q ≠ 59 → q ≠ 60 → q ≠ 61 → q ≠ 64 → σ_18 q = σ q := fun q n0 n1 n2 n3 => (hq_20 q n3).trans (hf q n0 n1 n2 n3)
                have hL70 : ∀ q : Nat, q ≠ 64 → σ_18 q = σ_12 q := fun q n0 => (hq_20 q n0).trans (hL70 q n0)
                refine m_iinc (((i : Nat) : Int) + 1) [(5, .int (oI (((i : Nat) : Int) + 1))), (0, .ref (ad (0))), (1, .int (oI (t))), (2, .int (oI (k))), (3, .int (oI (x))), (4, .int (oI (al)))] hx hb dX5_laying_95 hl (j := 5) rfl (by omega) (by decide) rfl (fun ls hl => ?_)
                refine lv_goto (tgt := 70) hx hb dX5_laying_98 (by decide) ?_
                exact ih70 (i + 1) r3 k3 f3 e3 (by omega) (by first | assumption | omega) (⟨r1, k1, f1, v1, hR, hnx⟩) (by first | assumption | omega) (by first | assumption | omega) (by rw [oNx_D hnx]; omega) _ e64 (hL70) _ _ hH ls (lv_sub hl [1, 2, 3, 4, 5, 0] rfl)
          exact L70 _ 0 lr lk lf 0 (Nat.lt_succ_self _) (by first | assumption | omega) (rfl) (by first | assumption | omega) (by first | assumption | omega) (by rw [hal]; omega) _ e64 (fun q _ => rfl) _ _ hH ls (lv_sub hl [2, 3, 4, 5, 1, 0] rfl)
        · refine m_iconst (-1) hx hb dX5_laying_58 rfl ?_
          exact m_iretX hx hb hlk hrt hH ⟨Nat.le_of_ble_eq_true rfl, Nat.le_of_ble_eq_true rfl⟩ (m_ni _) dX5_laying_59 ⟨(-1), ld3, S3, L3, lr, lk, lf, le, rfl, (by omega), (Or.inl ⟨by rw [hal]; omega, rfl⟩), hlf, hle, e59, e60, e61, e64, hf⟩
      · exact m_throw (text := "no such number") hx hb hl0 hml hown hts hK hXT hH hl hlk hnt oth_0 (by decide) dX5_laying_17 dX5_laying_20 dX5_laying_21 dX5_laying_23 dX5_laying_26 ⟨Nat.le_of_ble_eq_true rfl, Nat.le_of_ble_eq_true rfl⟩ (Nat.le_of_ble_eq_true rfl) ⟨Nat.le_of_ble_eq_true rfl, Nat.le_of_ble_eq_true rfl⟩ ⟨Nat.le_of_ble_eq_true rfl, Nat.le_of_ble_eq_true rfl⟩ (⟨⟨rfl, by omega⟩, rfl⟩)
