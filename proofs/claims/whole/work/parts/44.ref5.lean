def oUn (s : Nat → Nat) (k : Nat) : Nat := fb_ct (fun i => decide (0 < s (i + 1))) k
theorem oUn_y {s : Nat → Nat} {k : Nat} (h : 0 < s (k + 1)) : oUn s (k + 1) = oUn s k + 1 := by unfold oUn; rw [fb_ct_succ, if_pos (decide_eq_true h)]
theorem oUn_n {s : Nat → Nat} {k : Nat} (h : ¬ 0 < s (k + 1)) : oUn s (k + 1) = oUn s k := by unfold oUn; rw [fb_ct_succ, if_neg (by rw [decide_eq_false h]; decide)]; rfl
set_option maxHeartbeats 4000000 in
set_option maxRecDepth 100000 in
theorem c6_noSpans {l : Launch} {D : va_G} {cT : Nat → ClassId} {N b0 : Nat} {ad : Nat → Nat} (hA : oAd b0 N ad) {σ : Nat → va_E} (si ac6 spo ou6 : Nat) (rf : Int) (s : Nat → Nat) (hN : 76 ≤ N) (eM6 : σ (65) = .inr (6, [.int (oI (rf)), .ref (ad (66)), .int (oI (((si : Nat) : Int))), .ref (ad (67)), .ref (ad (68)), .ref (ad (69)), .int (oI (((ac6 : Nat) : Int))), .ref (ad (70)), .ref (ad (71)), .ref (ad (72)), .ref (ad (73)), .ref (ad (74)), .int (oI (((spo : Nat) : Int))), .int (oI (((ou6 : Nat) : Int)))])) (e72 : σ (72) = oAN cT 41 s) :
    oCv l D cT N ad b0 yX6_noSpans cX6_noSpans 2 none 0 0 [.ref (ad (65))] σ (fun uu => ∃ s2 : Nat → Nat, (∀ k : Nat, k < 41 → s2 k = 0) ∧ uu (72) = oAN cT 41 s2 ∧ (∀ q : Nat, q ≠ 72 → uu q = σ q)) := by
  refine m_start (cc := cX6_noSpans) (by decide) (Nat.le_of_ble_eq_true rfl) rfl ?_
  intro Pp Ee Ss Mm Bb Me Cc Ar ls hx hb hml hown hlk hrt hts hK hH hl
  have hown : Ss.vm.findClass RX6 = some Mm.cls := hown
  have hl : lv_has ls 2 [(0, .ref (ad (65)))] := hl
  have hf : ∀ q : Nat, q ≠ 72 → σ q = σ q := fun q _ => rfl
  refine m_iconst 0 hx hb dX6_noSpans_0 rfl ?_
  refine lv_istore_n (lv' := [(1, .int (oI (0))), (0, .ref (ad (65)))]) hx hb dX6_noSpans_1 rfl hl (by decide) rfl (fun ls hl => ?_)
  have L2 : ∀ (fu : Nat) (i : Nat) (s1 : Nat → Nat), (42 - i < fu) → (i ≤ 41) → (∀ k : Nat, k < i → s1 k = 0) → ∀ σL2 : Nat → va_E, σL2 (72) = oAN cT 41 s1 → (∀ q : Nat, q ≠ 72 → σL2 q = σ q) → ∀ (H : Heap) (locs : List Loc), oH b0 D N ad Ss.heap σL2 H locs → ∀ ls : Array Slot, lv_has ls 2 [(0, .ref (ad (65))), (1, .int (oI (((i : Nat) : Int))))] → W Pp l Ee { frames := 0, cells := 0, slots := 0, locals := 0 } Ss Mm Ar Bb Me Cc H locs 0 0 (MQ Bb (va_Qv (fun uu => ∃ s2 : Nat → Nat, (∀ k : Nat, k < 41 → s2 k = 0) ∧ uu (72) = oAN cT 41 s2 ∧ (∀ q : Nat, q ≠ 72 → uu q = σ q)) (oV D N ad) (fun q => b0 ≤ q)) Ar Ss 0 0 (fun q => b0 ≤ q)) (F0 Mm 2 ls []) := by
    intro fu2
    induction fu2 with
    | zero =>
      intro i s1 hm2
      exact absurd hm2 (Nat.not_lt_zero _)
    | succ fu2 ih2 =>
      intro i s1 hm2 hi hz σL2 e72 hL2 H locs hH ls hl
      have eM6 : σL2 (65) = .inr (6, [.int (oI (rf)), .ref (ad (66)), .int (oI (((si : Nat) : Int))), .ref (ad (67)), .ref (ad (68)), .ref (ad (69)), .int (oI (((ac6 : Nat) : Int))), .ref (ad (70)), .ref (ad (71)), .ref (ad (72)), .ref (ad (73)), .ref (ad (74)), .int (oI (((spo : Nat) : Int))), .int (oI (((ou6 : Nat) : Int)))]) := (hL2 _ (by decide)).trans eM6
      have hf : ∀ q : Nat, q ≠ 72 → σL2 q = σ q := fun q n0 => (hL2 q n0).trans (hf q n0)
      refine lv_iload_n hx hb dX6_noSpans_2 rfl (lv_at hl 1 rfl) ?_
      refine m_bipush 40 hx hb dX6_noSpans_3 (by decide) ?_
      refine m_icmp_gt 21 hx hb dX6_noSpans_5 (by decide) (by omega) (by omega) (fun h_1 => ?_) (fun h_1 => ?_)
      · exact m_vret hx hb hlk hrt hH dX6_noSpans_21 ⟨s1, (fun k h => hz k (by omega)), e72, hf⟩
      · refine lv_aload_n hx hb dX6_noSpans_8 rfl (lv_at hl 0 rfl) ?_
        refine gf_X6_spans hx hb hts hown hK hH (k := 65) (by omega) eM6 dX6_noSpans_9 ?_
        refine lv_iload_n hx hb dX6_noSpans_12 rfl (lv_at hl 1 rfl) ?_
        refine m_iconst 0 hx hb dX6_noSpans_13 rfl ?_
        refine m_iast hx hb hK hH hA (k := 72) (by omega) e72 (i) (by omega) (by omega) (by decide) dX6_noSpans_14 (fun H locs σ_2 e72 hq_3 hH => ?_)
        have e72 : σ_2 (72) = oAN cT 41 (va_up s1 i 0) := e72.trans (oAN_up _ _ _ _ _)
        have eM6 : σ_2 (65) = .inr (6, [.int (oI (rf)), .ref (ad (66)), .int (oI (((si : Nat) : Int))), .ref (ad (67)), .ref (ad (68)), .ref (ad (69)), .int (oI (((ac6 : Nat) : Int))), .ref (ad (70)), .ref (ad (71)), .ref (ad (72)), .ref (ad (73)), .ref (ad (74)), .int (oI (((spo : Nat) : Int))), .int (oI (((ou6 : Nat) : Int)))]) := (hq_3 _ (by decide)).trans eM6
        have hf : ∀ q : Nat, q ≠ 72 → σ_2 q = σ q := fun q n0 => (hq_3 q n0).trans (hf q n0)
        have hL2 : ∀ q : Nat, q ≠ 72 → σ_2 q = σ q := fun q n0 => (hq_3 q n0).trans (hL2 q n0)
        refine m_iinc (((i : Nat) : Int) + 1) [(1, .int (oI (((i : Nat) : Int) + 1))), (0, .ref (ad (65)))] hx hb dX6_noSpans_15 hl (j := 1) rfl (by omega) (by decide) rfl (fun ls hl => ?_)
        refine lv_goto (tgt := 2) hx hb dX6_noSpans_18 (by decide) ?_
        exact ih2 (i + 1) (va_up s1 i 0) (by omega) (by first | assumption | omega) (fun k h => by
        by_cases e : k = i
        · rw [e, va_up_s]
        · rw [va_up_n _ _ e]; exact hz k (by omega)) _ e72 (hL2) _ _ hH ls (lv_sub hl [1, 0] rfl)
  exact L2 _ 0 s (Nat.lt_succ_self _) (by first | assumption | omega) (fun k h => absurd h (Nat.not_lt_zero _)) _ e72 (fun q _ => rfl) _ _ hH ls (lv_sub hl [1, 0] rfl)
set_option maxHeartbeats 4000000 in
set_option maxRecDepth 100000 in
theorem c6_unlike {l : Launch} {D : va_G} {cT : Nat → ClassId} {N b0 : Nat} {ad : Nat → Nat} (hA : oAd b0 N ad) {σ : Nat → va_E} (si ac6 spo ou6 : Nat) (rf : Int) (s : Nat → Nat) (hN : 76 ≤ N) (hs : ∀ k : Nat, k < 41 → s k ≤ 10000) (eM6 : σ (65) = .inr (6, [.int (oI (rf)), .ref (ad (66)), .int (oI (((si : Nat) : Int))), .ref (ad (67)), .ref (ad (68)), .ref (ad (69)), .int (oI (((ac6 : Nat) : Int))), .ref (ad (70)), .ref (ad (71)), .ref (ad (72)), .ref (ad (73)), .ref (ad (74)), .int (oI (((spo : Nat) : Int))), .int (oI (((ou6 : Nat) : Int)))])) (e72 : σ (72) = oAN cT 41 s) :
    oCi l D cT N ad b0 yX6_unlike cX6_unlike 3 (some .int) 0 0 [.ref (ad (65))] σ (fun rr uu => rr = oI (((oUn s 40 : Nat) : Int)) ∧ uu = σ) := by
  refine m_start (cc := cX6_unlike) (by decide) (Nat.le_of_ble_eq_true rfl) rfl ?_
  intro Pp Ee Ss Mm Bb Me Cc Ar ls hx hb hml hown hlk hrt hts hK hH hl
  have hown : Ss.vm.findClass RX6 = some Mm.cls := hown
  have hl : lv_has ls 3 [(0, .ref (ad (65)))] := hl
  refine m_iconst 0 hx hb dX6_unlike_0 rfl ?_
  refine lv_istore_n (lv' := [(1, .int (oI (0))), (0, .ref (ad (65)))]) hx hb dX6_unlike_1 rfl hl (by decide) rfl (fun ls hl => ?_)
  refine m_iconst 1 hx hb dX6_unlike_2 rfl ?_
  refine lv_istore_n (lv' := [(2, .int (oI (1))), (1, .int (oI (0))), (0, .ref (ad (65)))]) hx hb dX6_unlike_3 rfl hl (by decide) rfl (fun ls hl => ?_)
  have L4 : ∀ (fu : Nat) (i : Nat) (k : Nat), (41 - i < fu) → (i ≤ 40) → (k = oUn s i) → (k ≤ i) → ∀ (H : Heap) (locs : List Loc), oH b0 D N ad Ss.heap σ H locs → ∀ ls : Array Slot, lv_has ls 3 [(0, .ref (ad (65))), (1, .int (oI (((k : Nat) : Int)))), (2, .int (oI (((i : Nat) : Int) + 1)))] → W Pp l Ee { frames := 0, cells := 0, slots := 0, locals := 0 } Ss Mm Ar Bb Me Cc H locs 0 0 (MQ Bb (va_Qi (fun rr uu => rr = oI (((oUn s 40 : Nat) : Int)) ∧ uu = σ) (oV D N ad) (fun q => b0 ≤ q)) Ar Ss 0 0 (fun q => b0 ≤ q)) (F0 Mm 4 ls []) := by
    intro fu4
    induction fu4 with
    | zero =>
      intro i k hm4
      exact absurd hm4 (Nat.not_lt_zero _)
    | succ fu4 ih4 =>
      intro i k hm4 hi hc hk H locs hH ls hl
      refine lv_iload_n hx hb dX6_unlike_4 rfl (lv_at hl 2 rfl) ?_
      refine m_bipush 40 hx hb dX6_unlike_5 (by decide) ?_
      refine m_icmp_gt 33 hx hb dX6_unlike_7 (by decide) (by omega) (by omega) (fun h_1 => ?_) (fun h_1 => ?_)
      · refine lv_iload_n hx hb dX6_unlike_33 rfl (lv_at hl 1 rfl) ?_
        exact m_iret hx hb hlk hrt hH (m_ni _) dX6_unlike_34 ⟨congrArg oI (by rw [hc, show i = 40 by omega]), rfl⟩
      · refine lv_iload_n hx hb dX6_unlike_10 rfl (lv_at hl 1 rfl) ?_
        refine lv_aload_n hx hb dX6_unlike_11 rfl (lv_at hl 0 rfl) ?_
        refine gf_X6_spans hx hb hts hown hK hH (k := 65) (by omega) eM6 dX6_unlike_12 ?_
        refine lv_iload_n hx hb dX6_unlike_15 rfl (lv_at hl 2 rfl) ?_
        refine m_iald hx hb hK hH (k := 72) (by omega) e72 (i + 1) (by omega) (by omega) (by decide) dX6_unlike_16 ?_
        have hsb := hs (i + 1) (by omega)
        refine m_if_le 24 hx hb dX6_unlike_17 (by decide) (by omega) (fun h_2 => ?_) (fun h_2 => ?_)
        · refine m_iconst 0 hx hb dX6_unlike_24 rfl ?_
          refine m_iadd (((k : Nat) : Int)) hx hb dX6_unlike_25 (by omega) ?_
          refine lv_istore_n (lv' := [(1, .int (oI (((k : Nat) : Int)))), (0, .ref (ad (65))), (2, .int (oI (((i : Nat) : Int) + 1)))]) hx hb dX6_unlike_26 rfl hl (by decide) rfl (fun ls hl => ?_)
          refine m_iinc (((i : Nat) : Int) + 2) [(2, .int (oI (((i : Nat) : Int) + 2))), (1, .int (oI (((k : Nat) : Int)))), (0, .ref (ad (65)))] hx hb dX6_unlike_27 hl (j := 2) rfl (by omega) (by decide) rfl (fun ls hl => ?_)
          refine lv_goto (tgt := 4) hx hb dX6_unlike_30 (by decide) ?_
          exact ih4 (i + 1) k (by omega) (by first | assumption | omega) (by rw [oUn_n (by omega)]; exact hc) (by first | assumption | omega) _ _ hH ls (lv_sub hl [2, 1, 0] rfl)
        · refine m_iconst 1 hx hb dX6_unlike_20 rfl ?_
          refine lv_goto (tgt := 25) hx hb dX6_unlike_21 (by decide) ?_
          refine m_iadd (((k : Nat) : Int) + 1) hx hb dX6_unlike_25 (by omega) ?_
          refine lv_istore_n (lv' := [(1, .int (oI (((k : Nat) : Int) + 1))), (0, .ref (ad (65))), (2, .int (oI (((i : Nat) : Int) + 1)))]) hx hb dX6_unlike_26 rfl hl (by decide) rfl (fun ls hl => ?_)
          refine m_iinc (((i : Nat) : Int) + 2) [(2, .int (oI (((i : Nat) : Int) + 2))), (1, .int (oI (((k : Nat) : Int) + 1))), (0, .ref (ad (65)))] hx hb dX6_unlike_27 hl (j := 2) rfl (by omega) (by decide) rfl (fun ls hl => ?_)
          refine lv_goto (tgt := 4) hx hb dX6_unlike_30 (by decide) ?_
          exact ih4 (i + 1) (k + 1) (by omega) (by first | assumption | omega) (by rw [oUn_y (by omega), hc]) (by first | assumption | omega) _ _ hH ls (lv_sub hl [2, 1, 0] rfl)
  exact L4 _ 0 0 (Nat.lt_succ_self _) (by first | assumption | omega) (rfl) (by first | assumption | omega) _ _ hH ls (lv_sub hl [2, 1, 0] rfl)
