theorem oChR {f : Nat → Int} {n a g v : Nat} {r : Int} {sz w : Nat → Nat} (h : oRS f n a g sz w) (hr : r = 0 ∨ r = 1) : oRS (va_up f (1 + r).toNat ((v : Nat) : Int)) n (if r = 0 then v else a) (if r = 0 then g else v) sz w := by
  rcases hr with e | e
  · rw [e]
    exact oRS_a h
  · rw [e]
    exact oRS_g h
theorem oDoV_5r {r p on : Int} {n a g : Nat} {sz w : Nat → Nat} (hr : r = 0 ∨ r = 1) : oDoV 5 r p on n a g sz w = ((if r = 0 then a else g : Nat) : Int) := by
  rcases hr with e | e
  · rw [e, oDoV_50, if_pos rfl]
  · rw [e, oDoV_51, if_neg (by decide)]
theorem oDoS_5r {r p on : Int} {n a g : Nat} {sz w : Nat → Nat} (hr : r = 0 ∨ r = 1) : oDoS 5 r p on n a g sz w = (n, (if r = 0 then p.toNat else a), (if r = 0 then g else p.toNat), sz, w) := by
  rcases hr with e | e
  · rw [e, oDoS_50, if_pos rfl, if_pos rfl]
  · rw [e, oDoS_51, if_neg (by decide), if_neg (by decide)]
set_option maxHeartbeats 4000000 in
set_option maxRecDepth 100000 in
theorem c6_changeR {l : Launch} {D : va_G} {cT : Nat → ClassId} {N b0 : Nat} {ad : Nat → Nat} (hA : oAd b0 N ad) {σ : Nat → va_E} (j n a g : Nat) (f : Nat → Int) (sz w : Nat → Nat) (r : Int) (v : Nat) (hj : j < N) (hwf : oWf n sz w) (hp : oRS f n a g sz w) (hr01 : r = 0 ∨ r = 1) (hv : v ≤ 1000) (ef : σ (j) = oAI cT 171 f) :
    oCi l D cT N ad b0 yX6_change cX6_change 4 (some .int) 0 0 [.ref (ad (j)), .int (oI (r)), .int (oI (((v : Nat) : Int)))] σ (fun rr uu => ∃ f2 : Nat → Int, rr = oI (((if r = 0 then a else g : Nat) : Int)) ∧ (oRS f2 n (if r = 0 then v else a) (if r = 0 then g else v) sz w) ∧ uu (j) = oAI cT 171 f2 ∧ (∀ q : Nat, q ≠ j → uu q = σ q)) := by
  refine m_start (cc := cX6_change) (by decide) (Nat.le_of_ble_eq_true rfl) rfl ?_
  intro Pp Ee Ss Mm Bb Me Cc Ar ls hx hb hml hown hlk hrt hts hK hH hl
  have hown : Ss.vm.findClass RX6 = some Mm.cls := hown
  have hn := hwf.1
  have hl : lv_has ls 4 [(0, .ref (ad (j))), (1, .int (oI (r))), (2, .int (oI (((v : Nat) : Int))))] := hl
  have hf : ∀ q : Nat, q ≠ j → σ q = σ q := fun q _ => rfl
  refine lv_aload_n hx hb dX6_change_0 rfl (lv_at hl 0 rfl) ?_
  refine m_iconst 1 hx hb dX6_change_1 rfl ?_
  refine lv_iload_n hx hb dX6_change_2 rfl (lv_at hl 1 rfl) ?_
  refine m_iadd (r + 1) hx hb dX6_change_3 (by omega) ?_
  refine m_iald hx hb hK hH (k := j) (by omega) ef ((1 + r).toNat) (by omega) (by omega) (by decide) dX6_change_4 ?_
  refine m_topI (((if r = 0 then a else g : Nat) : Int)) (by
    rcases hr01 with e | e
    · rw [e]; exact hp.2.1
    · rw [e]; exact hp.2.2.1) ?_
  refine lv_istore_n (lv' := [(3, .int (oI (((if r = 0 then a else g : Nat) : Int)))), (0, .ref (ad (j))), (1, .int (oI (r))), (2, .int (oI (((v : Nat) : Int))))]) hx hb dX6_change_5 rfl hl (by decide) rfl (fun ls hl => ?_)
  refine lv_aload_n hx hb dX6_change_6 rfl (lv_at hl 1 rfl) ?_
  refine m_iconst 1 hx hb dX6_change_7 rfl ?_
  refine lv_iload_n hx hb dX6_change_8 rfl (lv_at hl 2 rfl) ?_
  refine m_iadd (r + 1) hx hb dX6_change_9 (by omega) ?_
  refine lv_iload_n hx hb dX6_change_10 rfl (lv_at hl 3 rfl) ?_
  refine m_iast hx hb hK hH hA (k := j) (by omega) ef ((1 + r).toNat) (by omega) (by omega) (by decide) dX6_change_11 (fun H locs σ_1 ef hq_2 hH => ?_)
  have hf : ∀ q : Nat, q ≠ j → σ_1 q = σ q := fun q n0 => (hq_2 q n0).trans (hf q n0)
  refine lv_iload_n hx hb dX6_change_12 rfl (lv_at hl 0 rfl) ?_
  exact m_iret hx hb hlk hrt hH (m_ni _) dX6_change_13 ⟨(va_up f (1 + r).toNat ((v : Nat) : Int)), rfl, (oChR hp hr01), ef, hf⟩
set_option maxHeartbeats 4000000 in
set_option maxRecDepth 100000 in
theorem c6_remember {l : Launch} {D : va_G} {cT : Nat → ClassId} {N b0 : Nat} {ad : Nat → Nat} (hA : oAd b0 N ad) {σ : Nat → va_E} (si ac6 spo ou6 : Nat) (rf : Int) (f fd : Nat → Int) (hN : 76 ≤ N) (hac : ac6 ≤ 14) (eM6 : σ (65) = .inr (6, [.int (oI (rf)), .ref (ad (66)), .int (oI (((si : Nat) : Int))), .ref (ad (67)), .ref (ad (68)), .ref (ad (69)), .int (oI (((ac6 : Nat) : Int))), .ref (ad (70)), .ref (ad (71)), .ref (ad (72)), .ref (ad (73)), .ref (ad (74)), .int (oI (((spo : Nat) : Int))), .int (oI (((ou6 : Nat) : Int)))])) (e67 : σ (67) = oAI cT 171 f) (e69 : σ (69) = oAI cT 2394 fd) :
    oCv l D cT N ad b0 yX6_remember cX6_remember 2 none 1 24 [.ref (ad (65))] σ (fun uu => ∃ ac2 : Nat, ∃ d2 : Nat → Int, (oRem f fd d2 ac6 ac2) ∧ uu (65) = .inr (6, [.int (oI (rf)), .ref (ad (66)), .int (oI (((si : Nat) : Int))), .ref (ad (67)), .ref (ad (68)), .ref (ad (69)), .int (oI (((ac2 : Nat) : Int))), .ref (ad (70)), .ref (ad (71)), .ref (ad (72)), .ref (ad (73)), .ref (ad (74)), .int (oI (((spo : Nat) : Int))), .int (oI (((ou6 : Nat) : Int)))]) ∧ uu (69) = oAI cT 2394 d2 ∧ (∀ q : Nat, q ≠ 65 → q ≠ 69 → uu q = σ q)) := by
  refine m_start (cc := cX6_remember) (by decide) (Nat.le_of_ble_eq_true rfl) rfl ?_
  intro Pp Ee Ss Mm Bb Me Cc Ar ls hx hb hml hown hlk hrt hts hK hH hl
  have hown : Ss.vm.findClass RX6 = some Mm.cls := hown
  have hl : lv_has ls 2 [(0, .ref (ad (65)))] := hl
  have hf : ∀ q : Nat, q ≠ 65 → q ≠ 69 → σ q = σ q := fun q _ _ => rfl
  refine lv_aload_n hx hb dX6_remember_0 rfl (lv_at hl 0 rfl) ?_
  refine gf_X6_acts hx hb hts hown hK hH (k := 65) (by omega) eM6 dX6_remember_1 ?_
  refine m_bipush 14 hx hb dX6_remember_4 (by decide) ?_
  refine m_icmp_ne 50 hx hb dX6_remember_6 (by decide) (by omega) (by omega) (fun h_1 => ?_) (fun h_1 => ?_)
  · refine lv_aload_n hx hb dX6_remember_50 rfl (lv_at hl 0 rfl) ?_
    refine gf_X6_now hx hb hts hown hK hH (k := 65) (by omega) eM6 dX6_remember_51 ?_
    refine m_iconst 0 hx hb dX6_remember_54 rfl ?_
    refine lv_aload_n hx hb dX6_remember_55 rfl (lv_at hl 0 rfl) ?_
    refine gf_X6_diary hx hb hts hown hK hH (k := 65) (by omega) eM6 dX6_remember_56 ?_
    refine m_sipush 171 hx hb dX6_remember_59 (by decide) ?_
    refine lv_aload_n hx hb dX6_remember_62 rfl (lv_at hl 0 rfl) ?_
    refine gf_X6_acts hx hb hts hown hK hH (k := 65) (by omega) eM6 dX6_remember_63 ?_
    refine m_imul (171 * ((ac6 : Nat) : Int)) hx hb dX6_remember_66 (by omega) ?_
    refine m_callSv hx hb hml hown hts hK hH hl (rest := []) cw_X6_163 rfl (c6_copy1d hA 67 69 0 (171 * ac6) f fd (by first | assumption | omega) (by first | assumption | omega) (by first | assumption | omega) (by first | assumption | omega) (by first | assumption | omega) e67 e69) ⟨Nat.le_of_ble_eq_true rfl, Nat.le_of_ble_eq_true rfl⟩ ⟨Nat.le_of_ble_eq_true rfl, Nat.le_of_ble_eq_true rfl⟩ rfl rfl (Nat.le_of_ble_eq_true rfl) dX6_remember_67 (fun σ_2 H locs hp_3 hH => ?_)
    obtain ⟨d5, hc1, hc2, e69, hq_4⟩ := hp_3
    have eM6 : σ_2 (65) = .inr (6, [.int (oI (rf)), .ref (ad (66)), .int (oI (((si : Nat) : Int))), .ref (ad (67)), .ref (ad (68)), .ref (ad (69)), .int (oI (((ac6 : Nat) : Int))), .ref (ad (70)), .ref (ad (71)), .ref (ad (72)), .ref (ad (73)), .ref (ad (74)), .int (oI (((spo : Nat) : Int))), .int (oI (((ou6 : Nat) : Int)))]) := (hq_4 _ (by decide)).trans eM6
    have e67 : σ_2 (67) = oAI cT 171 f := (hq_4 _ (by decide)).trans e67
    have hf : ∀ q : Nat, q ≠ 65 → q ≠ 69 → σ_2 q = σ q := fun q n0 n1 => (hq_4 q n1).trans (hf q n0 n1)
    refine lv_aload_n hx hb dX6_remember_70 rfl (lv_at hl 0 rfl) ?_
    refine lv_dup hx hb dX6_remember_71 rfl ?_
    refine gf_X6_acts hx hb hts hown hK hH (k := 65) (by omega) eM6 dX6_remember_72 ?_
    refine m_iconst 1 hx hb dX6_remember_75 rfl ?_
    refine m_iadd (((ac6 : Nat) : Int) + 1) hx hb dX6_remember_76 (by omega) ?_
    refine pf_X6_acts hx hb hts hown hK hH hA (k := 65) (by omega) eM6 dX6_remember_77 (fun H locs σ_6 eM6 hq_7 hH => ?_)
    have e67 : σ_6 (67) = oAI cT 171 f := (hq_7 _ (by decide)).trans e67
    have e69 : σ_6 (69) = oAI cT 2394 d5 := (hq_7 _ (by decide)).trans e69
    have hf : ∀ q : Nat, q ≠ 65 → q ≠ 69 → σ_6 q = σ q := fun q n0 n1 => (hq_7 q n0).trans (hf q n0 n1)
    exact m_vret hx hb hlk hrt hH dX6_remember_80 ⟨(ac6 + 1), d5, (Or.inl ⟨by omega, rfl, fun k hk => hc2 k (Or.inl hk), fun k hk => hc1 k hk⟩), eM6, e69, hf⟩
  · refine m_iconst 0 hx hb dX6_remember_9 rfl ?_
    refine lv_istore_n (lv' := [(1, .int (oI (0))), (0, .ref (ad (65)))]) hx hb dX6_remember_10 rfl hl (by decide) rfl (fun ls hl => ?_)
    have L11 : ∀ (fu : Nat) (i : Nat) (d3 : Nat → Int), (2224 - i < fu) → (i ≤ 2223) → (∀ k : Nat, k < i → d3 k = fd (k + 171)) → (∀ k : Nat, i ≤ k → d3 k = fd k) → ∀ σL11 : Nat → va_E, σL11 (69) = oAI cT 2394 d3 → (∀ q : Nat, q ≠ 69 → σL11 q = σ q) → ∀ (H : Heap) (locs : List Loc), oH b0 D N ad Ss.heap σL11 H locs → ∀ ls : Array Slot, lv_has ls 2 [(0, .ref (ad (65))), (1, .int (oI (((i : Nat) : Int))))] → W Pp l Ee { frames := 1, cells := 0, slots := 0, locals := 24 } Ss Mm Ar Bb Me Cc H locs 0 0 (MQ Bb (va_Qv (fun uu => ∃ ac2 : Nat, ∃ d2 : Nat → Int, (oRem f fd d2 ac6 ac2) ∧ uu (65) = .inr (6, [.int (oI (rf)), .ref (ad (66)), .int (oI (((si : Nat) : Int))), .ref (ad (67)), .ref (ad (68)), .ref (ad (69)), .int (oI (((ac2 : Nat) : Int))), .ref (ad (70)), .ref (ad (71)), .ref (ad (72)), .ref (ad (73)), .ref (ad (74)), .int (oI (((spo : Nat) : Int))), .int (oI (((ou6 : Nat) : Int)))]) ∧ uu (69) = oAI cT 2394 d2 ∧ (∀ q : Nat, q ≠ 65 → q ≠ 69 → uu q = σ q)) (oV D N ad) (fun q => b0 ≤ q)) Ar Ss 0 0 (fun q => b0 ≤ q)) (F0 Mm 11 ls []) := by
      intro fu11
      induction fu11 with
      | zero =>
        intro i d3 hm11
        exact absurd hm11 (Nat.not_lt_zero _)
      | succ fu11 ih11 =>
        intro i d3 hm11 hi hz hz2 σL11 e69 hL11 H locs hH ls hl
        have eM6 : σL11 (65) = .inr (6, [.int (oI (rf)), .ref (ad (66)), .int (oI (((si : Nat) : Int))), .ref (ad (67)), .ref (ad (68)), .ref (ad (69)), .int (oI (((ac6 : Nat) : Int))), .ref (ad (70)), .ref (ad (71)), .ref (ad (72)), .ref (ad (73)), .ref (ad (74)), .int (oI (((spo : Nat) : Int))), .int (oI (((ou6 : Nat) : Int)))]) := (hL11 _ (by decide)).trans eM6
        have e67 : σL11 (67) = oAI cT 171 f := (hL11 _ (by decide)).trans e67
        have hf : ∀ q : Nat, q ≠ 65 → q ≠ 69 → σL11 q = σ q := fun q n0 n1 => (hL11 q n1).trans (hf q n0 n1)
        refine lv_iload_n hx hb dX6_remember_11 rfl (lv_at hl 1 rfl) ?_
        refine m_sipush 2223 hx hb dX6_remember_12 (by decide) ?_
        refine m_icmp_ge 40 hx hb dX6_remember_15 (by decide) (by omega) (by omega) (fun h_8 => ?_) (fun h_8 => ?_)
        · refine lv_aload_n hx hb dX6_remember_40 rfl (lv_at hl 0 rfl) ?_
          refine lv_dup hx hb dX6_remember_41 rfl ?_
          refine gf_X6_acts hx hb hts hown hK hH (k := 65) (by omega) eM6 dX6_remember_42 ?_
          refine m_topI (14) (by omega) ?_
          refine m_iconst 1 hx hb dX6_remember_45 rfl ?_
          refine m_isub (13) hx hb dX6_remember_46 (by omega) ?_
          refine pf_X6_acts hx hb hts hown hK hH hA (k := 65) (by omega) eM6 dX6_remember_47 (fun H locs σ_9 eM6 hq_10 hH => ?_)
          have e67 : σ_9 (67) = oAI cT 171 f := (hq_10 _ (by decide)).trans e67
          have e69 : σ_9 (69) = oAI cT 2394 d3 := (hq_10 _ (by decide)).trans e69
          have hf : ∀ q : Nat, q ≠ 65 → q ≠ 69 → σ_9 q = σ q := fun q n0 n1 => (hq_10 q n0).trans (hf q n0 n1)
          refine lv_aload_n hx hb dX6_remember_50 rfl (lv_at hl 0 rfl) ?_
          refine gf_X6_now hx hb hts hown hK hH (k := 65) (by omega) eM6 dX6_remember_51 ?_
          refine m_iconst 0 hx hb dX6_remember_54 rfl ?_
          refine lv_aload_n hx hb dX6_remember_55 rfl (lv_at hl 0 rfl) ?_
          refine gf_X6_diary hx hb hts hown hK hH (k := 65) (by omega) eM6 dX6_remember_56 ?_
          refine m_sipush 171 hx hb dX6_remember_59 (by decide) ?_
          refine lv_aload_n hx hb dX6_remember_62 rfl (lv_at hl 0 rfl) ?_
          refine gf_X6_acts hx hb hts hown hK hH (k := 65) (by omega) eM6 dX6_remember_63 ?_
          refine m_imul (2223) hx hb dX6_remember_66 (by omega) ?_
          refine m_callSv hx hb hml hown hts hK hH hl (rest := []) cw_X6_163 rfl (c6_copy1d hA 67 69 0 2223 f d3 (by first | assumption | omega) (by first | assumption | omega) (by first | assumption | omega) (by first | assumption | omega) (by first | assumption | omega) e67 e69) ⟨Nat.le_of_ble_eq_true rfl, Nat.le_of_ble_eq_true rfl⟩ ⟨Nat.le_of_ble_eq_true rfl, Nat.le_of_ble_eq_true rfl⟩ rfl rfl (Nat.le_of_ble_eq_true rfl) dX6_remember_67 (fun σ_11 H locs hp_12 hH => ?_)
          obtain ⟨d5, hc1, hc2, e69, hq_13⟩ := hp_12
          have eM6 : σ_11 (65) = .inr (6, [.int (oI (rf)), .ref (ad (66)), .int (oI (((si : Nat) : Int))), .ref (ad (67)), .ref (ad (68)), .ref (ad (69)), .int (oI (13)), .ref (ad (70)), .ref (ad (71)), .ref (ad (72)), .ref (ad (73)), .ref (ad (74)), .int (oI (((spo : Nat) : Int))), .int (oI (((ou6 : Nat) : Int)))]) := (hq_13 _ (by decide)).trans eM6
          have e67 : σ_11 (67) = oAI cT 171 f := (hq_13 _ (by decide)).trans e67
          have hf : ∀ q : Nat, q ≠ 65 → q ≠ 69 → σ_11 q = σ q := fun q n0 n1 => (hq_13 q n1).trans (hf q n0 n1)
          refine lv_aload_n hx hb dX6_remember_70 rfl (lv_at hl 0 rfl) ?_
          refine lv_dup hx hb dX6_remember_71 rfl ?_
          refine gf_X6_acts hx hb hts hown hK hH (k := 65) (by omega) eM6 dX6_remember_72 ?_
          refine m_iconst 1 hx hb dX6_remember_75 rfl ?_
          refine m_iadd (14) hx hb dX6_remember_76 (by omega) ?_
          refine pf_X6_acts hx hb hts hown hK hH hA (k := 65) (by omega) eM6 dX6_remember_77 (fun H locs σ_15 eM6 hq_16 hH => ?_)
          have e67 : σ_15 (67) = oAI cT 171 f := (hq_16 _ (by decide)).trans e67
          have e69 : σ_15 (69) = oAI cT 2394 d5 := (hq_16 _ (by decide)).trans e69
          have hf : ∀ q : Nat, q ≠ 65 → q ≠ 69 → σ_15 q = σ q := fun q n0 n1 => (hq_16 q n0).trans (hf q n0 n1)
          exact m_vret hx hb hlk hrt hH dX6_remember_80 ⟨14, d5, (Or.inr ⟨by omega, rfl, fun k hk => (hc2 k (Or.inl hk)).trans (hz k (by omega)), fun k hk => hc1 k hk⟩), eM6, e69, hf⟩
        · refine lv_aload_n hx hb dX6_remember_18 rfl (lv_at hl 0 rfl) ?_
          refine gf_X6_diary hx hb hts hown hK hH (k := 65) (by omega) eM6 dX6_remember_19 ?_
          refine lv_iload_n hx hb dX6_remember_22 rfl (lv_at hl 1 rfl) ?_
          refine lv_aload_n hx hb dX6_remember_23 rfl (lv_at hl 0 rfl) ?_
          refine gf_X6_diary hx hb hts hown hK hH (k := 65) (by omega) eM6 dX6_remember_24 ?_
          refine lv_iload_n hx hb dX6_remember_27 rfl (lv_at hl 1 rfl) ?_
          refine m_sipush 171 hx hb dX6_remember_28 (by decide) ?_
          refine m_iadd (((i : Nat) : Int) + 171) hx hb dX6_remember_31 (by omega) ?_
          refine m_iald hx hb hK hH (k := 69) (by omega) e69 (i + 171) (by omega) (by omega) (by decide) dX6_remember_32 ?_
          refine m_topI ((fd (i + 171))) (hz2 (i + 171) (by omega)) ?_
          refine m_iast hx hb hK hH hA (k := 69) (by omega) e69 (i) (by omega) (by omega) (by decide) dX6_remember_33 (fun H locs σ_17 e69 hq_18 hH => ?_)
          have eM6 : σ_17 (65) = .inr (6, [.int (oI (rf)), .ref (ad (66)), .int (oI (((si : Nat) : Int))), .ref (ad (67)), .ref (ad (68)), .ref (ad (69)), .int (oI (((ac6 : Nat) : Int))), .ref (ad (70)), .ref (ad (71)), .ref (ad (72)), .ref (ad (73)), .ref (ad (74)), .int (oI (((spo : Nat) : Int))), .int (oI (((ou6 : Nat) : Int)))]) := (hq_18 _ (by decide)).trans eM6
          have e67 : σ_17 (67) = oAI cT 171 f := (hq_18 _ (by decide)).trans e67
          have hf : ∀ q : Nat, q ≠ 65 → q ≠ 69 → σ_17 q = σ q := fun q n0 n1 => (hq_18 q n1).trans (hf q n0 n1)
          have hL11 : ∀ q : Nat, q ≠ 69 → σ_17 q = σ q := fun q n0 => (hq_18 q n0).trans (hL11 q n0)
          refine m_iinc (((i : Nat) : Int) + 1) [(1, .int (oI (((i : Nat) : Int) + 1))), (0, .ref (ad (65)))] hx hb dX6_remember_34 hl (j := 1) rfl (by omega) (by decide) rfl (fun ls hl => ?_)
          refine lv_goto (tgt := 11) hx hb dX6_remember_37 (by decide) ?_
          exact ih11 (i + 1) (va_up d3 i (fd (i + 171))) (by omega) (by first | assumption | omega) (fun k h => by
        by_cases e : k = i
        · rw [e, va_up_s]
        · rw [va_up_n _ _ e]; exact hz k (by omega)) (fun k h => by rw [va_up_n _ _ (by omega)]; exact hz2 k (by omega)) _ e69 (hL11) _ _ hH ls (lv_sub hl [1, 0] rfl)
    exact L11 _ 0 fd (Nat.lt_succ_self _) (by first | assumption | omega) (fun k h => absurd h (Nat.not_lt_zero _)) (fun _ _ => rfl) _ e69 (fun q _ => rfl) _ _ hH ls (lv_sub hl [1, 0] rfl)
set_option maxHeartbeats 4000000 in
set_option maxRecDepth 100000 in
theorem c6_ruler {l : Launch} {D : va_G} {cT : Nat → ClassId} {N b0 : Nat} {ad : Nat → Nat} (hA : oAd b0 N ad) {σ : Nat → va_E} (r : Int) (si ac6 spo ou6 : Nat) (rf : Int) (n a g : Nat) (f : Nat → Int) (sz w : Nat → Nat) (fd : Nat → Int) (hN : 76 ≤ N) (hwf : oWf n sz w) (hag : oAg a g) (hp : oRS f n a g sz w) (hac : ac6 ≤ 14) (hbr : -2147483648 ≤ r ∧ r < 2147483648) (eM6 : σ (65) = .inr (6, [.int (oI (rf)), .ref (ad (66)), .int (oI (((si : Nat) : Int))), .ref (ad (67)), .ref (ad (68)), .ref (ad (69)), .int (oI (((ac6 : Nat) : Int))), .ref (ad (70)), .ref (ad (71)), .ref (ad (72)), .ref (ad (73)), .ref (ad (74)), .int (oI (((spo : Nat) : Int))), .int (oI (((ou6 : Nat) : Int)))])) (e67 : σ (67) = oAI cT 171 f) (e69 : σ (69) = oAI cT 2394 fd) :
    oCi l D cT N ad b0 yX6_ruler cX6_ruler 2 (some .int) 2 45 [.ref (ad (65)), .int (oI (r))] σ (fun rr uu => ∃ v9 : Int, ∃ r9 : Int, ∃ ac2 : Nat, ∃ g7 : Nat → Int, ∃ d2 : Nat → Int, rr = oI (v9) ∧ ((oRefA 1 n sz r 0 0 = 0 ∧ r9 = 0 ∧ v9 = oDoV 1 r 0 0 n a g sz w ∧ oRem f fd d2 ac6 ac2 ∧ ∃ (n1 a1 g1 : Nat) (sz1 w1 : Nat → Nat), oDoS 1 r 0 0 n a g sz w = (n1, a1, g1, sz1, w1) ∧ oRS g7 n1 a1 g1 sz1 w1) ∨ (ac2 = ac6 ∧ g7 = f ∧ d2 = fd ∧ ((r9 = 1 ∧ oRefA 1 n sz r 0 0 = 2) ∨ (r9 = 2 ∧ oRefA 1 n sz r 0 0 = 3)))) ∧ uu (65) = .inr (6, [.int (oI (r9)), .ref (ad (66)), .int (oI (((si : Nat) : Int))), .ref (ad (67)), .ref (ad (68)), .ref (ad (69)), .int (oI (((ac2 : Nat) : Int))), .ref (ad (70)), .ref (ad (71)), .ref (ad (72)), .ref (ad (73)), .ref (ad (74)), .int (oI (((spo : Nat) : Int))), .int (oI (((ou6 : Nat) : Int)))]) ∧ uu (67) = oAI cT 171 g7 ∧ uu (69) = oAI cT 2394 d2 ∧ (∀ q : Nat, q ≠ 65 → q ≠ 67 → q ≠ 69 → uu q = σ q)) := by
  refine m_start (cc := cX6_ruler) (by decide) (Nat.le_of_ble_eq_true rfl) rfl ?_
  intro Pp Ee Ss Mm Bb Me Cc Ar ls hx hb hml hown hlk hrt hts hK hH hl
  have hown : Ss.vm.findClass RX6 = some Mm.cls := hown
  have hn := hwf.1
  have hl : lv_has ls 2 [(0, .ref (ad (65))), (1, .int (oI (r)))] := hl
  have hf : ∀ q : Nat, q ≠ 65 → q ≠ 67 → q ≠ 69 → σ q = σ q := fun q _ _ _ => rfl
  refine lv_aload_n hx hb dX6_ruler_0 rfl (lv_at hl 0 rfl) ?_
  refine lv_iload_n hx hb dX6_ruler_1 rfl (lv_at hl 1 rfl) ?_
  refine m_i2l hx hb dX6_ruler_2 (by omega) ?_
  refine lv_ldc2 (v := 2) hx hb hown (hts _ kl_X6_202) dX6_ruler_3 ?_
  refine m_J2L 2 (by decide +kernel) ?_
  refine lv_ldc2 (v := 40) hx hb hown (hts _ kl_X6_204) dX6_ruler_6 ?_
  refine m_J2L 40 (by decide +kernel) ?_
  refine m_pSb hx hb hml hown hts hK hH hl (rest := [.ref (ad (65))]) cw_X6_46 rfl (c6_in hA r 2 40 (by first | assumption | omega) (by first | assumption | omega) (by first | assumption | omega) ) ⟨Nat.le_of_ble_eq_true rfl, Nat.le_of_ble_eq_true rfl⟩ ⟨Nat.le_of_ble_eq_true rfl, Nat.le_of_ble_eq_true rfl⟩ rfl rfl (Nat.le_of_ble_eq_true rfl) dX6_ruler_9 (fun h_1 H locs hH => ?_) (fun h_1 H locs hH => ?_)
  · refine m_if_ne 19 hx hb dX6_ruler_12 (by decide) (by omega) (fun h_2 => ?_) (fun h_2 => absurd h_2 (by omega))
    refine lv_aload_n hx hb dX6_ruler_19 rfl (lv_at hl 0 rfl) ?_
    refine gf_X6_now hx hb hts hown hK hH (k := 65) (by omega) eM6 dX6_ruler_20 ?_
    refine m_iconst 0 hx hb dX6_ruler_23 rfl ?_
    refine m_iald hx hb hK hH (k := 67) (by omega) e67 (0) (by omega) (by omega) (by decide) dX6_ruler_24 ?_
    refine m_topI (((n : Nat) : Int)) (hp.1) ?_
    refine m_iconst 4 hx hb dX6_ruler_25 rfl ?_
    refine m_icmp_ge 33 hx hb dX6_ruler_26 (by decide) (by omega) (by omega) (fun h_3 => ?_) (fun h_3 => ?_)
    · refine m_iconst 2 hx hb dX6_ruler_33 rfl ?_
      refine m_callVi hx hb hml hown hts hK hH hl (rest := []) cw_X6_111 (c6_ref1 hA 2 si ac6 spo ou6 rf (by first | assumption | omega) (by first | assumption | omega) eM6) ⟨Nat.le_of_ble_eq_true rfl, Nat.le_of_ble_eq_true rfl⟩ ⟨Nat.le_of_ble_eq_true rfl, Nat.le_of_ble_eq_true rfl⟩ rfl (k := 65) (by omega) eM6 rfl rfl (Nat.le_of_ble_eq_true rfl) dX6_ruler_34 (fun r_7 σ_4 H locs hp_5 hH => ?_)
      obtain ⟨rfl, eM6, hq_6⟩ := hp_5
      have e67 : σ_4 (67) = oAI cT 171 f := (hq_6 _ (by decide)).trans e67
      have e69 : σ_4 (69) = oAI cT 2394 fd := (hq_6 _ (by decide)).trans e69
      have hf : ∀ q : Nat, q ≠ 65 → q ≠ 67 → q ≠ 69 → σ_4 q = σ q := fun q n0 n1 n2 => (hq_6 q n0).trans (hf q n0 n1 n2)
      refine m_if_eq 42 hx hb dX6_ruler_37 (by decide) (by omega) (fun h_8 => absurd h_8 (by omega)) (fun h_8 => ?_)
      refine m_iconst 0 hx hb dX6_ruler_40 rfl ?_
      exact m_iret hx hb hlk hrt hH (m_ni _) dX6_ruler_41 ⟨0, 2, ac6, f, fd, rfl, (Or.inr ⟨rfl, rfl, rfl, Or.inr ⟨rfl, by rw [oRefA_1]; unfold oRef1; rw [if_neg (by omega), if_pos (by omega)]⟩⟩), eM6, e67, e69, hf⟩
    · refine m_iconst 0 hx hb dX6_ruler_29 rfl ?_
      refine lv_goto (tgt := 34) hx hb dX6_ruler_30 (by decide) ?_
      refine m_callVi hx hb hml hown hts hK hH hl (rest := []) cw_X6_111 (c6_ref0 hA si ac6 spo ou6 rf (by first | assumption | omega) eM6) ⟨Nat.le_of_ble_eq_true rfl, Nat.le_of_ble_eq_true rfl⟩ ⟨Nat.le_of_ble_eq_true rfl, Nat.le_of_ble_eq_true rfl⟩ rfl (k := 65) (by omega) eM6 rfl rfl (Nat.le_of_ble_eq_true rfl) dX6_ruler_34 (fun r_12 σ_9 H locs hp_10 hH => ?_)
      obtain ⟨rfl, eM6, hq_11⟩ := hp_10
      have e67 : σ_9 (67) = oAI cT 171 f := (hq_11 _ (by decide)).trans e67
      have e69 : σ_9 (69) = oAI cT 2394 fd := (hq_11 _ (by decide)).trans e69
      have hf : ∀ q : Nat, q ≠ 65 → q ≠ 67 → q ≠ 69 → σ_9 q = σ q := fun q n0 n1 n2 => (hq_11 q n0).trans (hf q n0 n1 n2)
      refine m_if_eq 42 hx hb dX6_ruler_37 (by decide) (by omega) (fun h_13 => ?_) (fun h_13 => absurd h_13 (by omega))
      refine lv_aload_n hx hb dX6_ruler_42 rfl (lv_at hl 0 rfl) ?_
      refine m_callVv hx hb hml hown hts hK hH hl (rest := []) cw_X6_206 (c6_remember hA si ac6 spo ou6 0 f fd (by first | assumption | omega) (by first | assumption | omega) eM6 e67 e69) ⟨Nat.le_of_ble_eq_true rfl, Nat.le_of_ble_eq_true rfl⟩ ⟨Nat.le_of_ble_eq_true rfl, Nat.le_of_ble_eq_true rfl⟩ rfl (k := 65) (by omega) eM6 rfl rfl (Nat.le_of_ble_eq_true rfl) dX6_ruler_43 (fun σ_14 H locs hp_15 hH => ?_)
      obtain ⟨ac5, d5, hrem, eM6, e69, hq_16⟩ := hp_15
      have e67 : σ_14 (67) = oAI cT 171 f := (hq_16 _ (by decide) (by decide)).trans e67
      have hf : ∀ q : Nat, q ≠ 65 → q ≠ 67 → q ≠ 69 → σ_14 q = σ q := fun q n0 n1 n2 => (hq_16 q n0 n2).trans (hf q n0 n1 n2)
      refine lv_aload_n hx hb dX6_ruler_46 rfl (lv_at hl 0 rfl) ?_
      refine gf_X6_now hx hb hts hown hK hH (k := 65) (by omega) eM6 dX6_ruler_47 ?_
      refine lv_iload_n hx hb dX6_ruler_50 rfl (lv_at hl 1 rfl) ?_
      refine m_topI (((r.toNat : Nat) : Int)) (by omega) ?_
      refine m_callSi hx hb hml hown hts hK hH hl (rest := []) cw_X6_139 rfl (c6_rulerOn hA 67 n a g f sz w r.toNat (by first | assumption | omega) (by first | assumption | omega) (by first | assumption | omega) (by first | assumption | omega) (by first | assumption | omega) e67) ⟨Nat.le_of_ble_eq_true rfl, Nat.le_of_ble_eq_true rfl⟩ ⟨Nat.le_of_ble_eq_true rfl, Nat.le_of_ble_eq_true rfl⟩ rfl rfl (Nat.le_of_ble_eq_true rfl) dX6_ruler_51 (fun r_21 σ_18 H locs hp_19 hH => ?_)
      obtain ⟨f5, rfl, hp5, e67, hq_20⟩ := hp_19
      have eM6 : σ_18 (65) = .inr (6, [.int (oI (0)), .ref (ad (66)), .int (oI (((si : Nat) : Int))), .ref (ad (67)), .ref (ad (68)), .ref (ad (69)), .int (oI (((ac5 : Nat) : Int))), .ref (ad (70)), .ref (ad (71)), .ref (ad (72)), .ref (ad (73)), .ref (ad (74)), .int (oI (((spo : Nat) : Int))), .int (oI (((ou6 : Nat) : Int)))]) := (hq_20 _ (by decide)).trans eM6
      have e69 : σ_18 (69) = oAI cT 2394 d5 := (hq_20 _ (by decide)).trans e69
      have hf : ∀ q : Nat, q ≠ 65 → q ≠ 67 → q ≠ 69 → σ_18 q = σ q := fun q n0 n1 n2 => (hq_20 q n1).trans (hf q n0 n1 n2)
      exact m_iret hx hb hlk hrt hH (m_ni _) dX6_ruler_54 ⟨((n : Nat) : Int), 0, ac5, f5, d5, rfl, (Or.inl ⟨by rw [oRefA_1]; exact oRef1_0.mpr (by omega), rfl, (oDoV_1 _ _ _ _ _ _ _ _).symm, hrem, _, _, _, _, _, (oDoS_1 _ _ _ _ _ _ _ _), hp5⟩), eM6, e67, e69, hf⟩
  · refine m_if_ne 19 hx hb dX6_ruler_12 (by decide) (by omega) (fun h_22 => absurd h_22 (by omega)) (fun h_22 => ?_)
    refine m_iconst 1 hx hb dX6_ruler_15 rfl ?_
    refine lv_goto (tgt := 34) hx hb dX6_ruler_16 (by decide) ?_
    refine m_callVi hx hb hml hown hts hK hH hl (rest := []) cw_X6_111 (c6_ref1 hA 1 si ac6 spo ou6 rf (by first | assumption | omega) (by first | assumption | omega) eM6) ⟨Nat.le_of_ble_eq_true rfl, Nat.le_of_ble_eq_true rfl⟩ ⟨Nat.le_of_ble_eq_true rfl, Nat.le_of_ble_eq_true rfl⟩ rfl (k := 65) (by omega) eM6 rfl rfl (Nat.le_of_ble_eq_true rfl) dX6_ruler_34 (fun r_26 σ_23 H locs hp_24 hH => ?_)
    obtain ⟨rfl, eM6, hq_25⟩ := hp_24
    have e67 : σ_23 (67) = oAI cT 171 f := (hq_25 _ (by decide)).trans e67
    have e69 : σ_23 (69) = oAI cT 2394 fd := (hq_25 _ (by decide)).trans e69
    have hf : ∀ q : Nat, q ≠ 65 → q ≠ 67 → q ≠ 69 → σ_23 q = σ q := fun q n0 n1 n2 => (hq_25 q n0).trans (hf q n0 n1 n2)
    refine m_if_eq 42 hx hb dX6_ruler_37 (by decide) (by omega) (fun h_27 => absurd h_27 (by omega)) (fun h_27 => ?_)
    refine m_iconst 0 hx hb dX6_ruler_40 rfl ?_
    exact m_iret hx hb hlk hrt hH (m_ni _) dX6_ruler_41 ⟨0, 1, ac6, f, fd, rfl, (Or.inr ⟨rfl, rfl, rfl, Or.inl ⟨rfl, by rw [oRefA_1]; unfold oRef1; rw [if_pos (by omega)]⟩⟩), eM6, e67, e69, hf⟩
set_option maxHeartbeats 4000000 in
set_option maxRecDepth 100000 in
theorem c6_mark {l : Launch} {D : va_G} {cT : Nat → ClassId} {N b0 : Nat} {ad : Nat → Nat} (hA : oAd b0 N ad) {σ : Nat → va_E} (r p on : Int) (si ac6 spo ou6 : Nat) (rf : Int) (n a g : Nat) (f : Nat → Int) (sz w : Nat → Nat) (fd : Nat → Int) (hN : 76 ≤ N) (hwf : oWf n sz w) (hag : oAg a g) (hp : oRS f n a g sz w) (hac : ac6 ≤ 14) (hbr : -2147483648 ≤ r ∧ r < 2147483648) (hbp : -2147483648 ≤ p ∧ p < 2147483648) (hon : on = 0 ∨ on = 1) (eM6 : σ (65) = .inr (6, [.int (oI (rf)), .ref (ad (66)), .int (oI (((si : Nat) : Int))), .ref (ad (67)), .ref (ad (68)), .ref (ad (69)), .int (oI (((ac6 : Nat) : Int))), .ref (ad (70)), .ref (ad (71)), .ref (ad (72)), .ref (ad (73)), .ref (ad (74)), .int (oI (((spo : Nat) : Int))), .int (oI (((ou6 : Nat) : Int)))])) (e67 : σ (67) = oAI cT 171 f) (e69 : σ (69) = oAI cT 2394 fd) :
    oCi l D cT N ad b0 yX6_mark cX6_mark 4 (some .int) 4 91 [.ref (ad (65)), .int (oI (r)), .int (oI (p)), .int (oI (on))] σ (fun rr uu => ∃ v9 : Int, ∃ r9 : Int, ∃ ac2 : Nat, ∃ g7 : Nat → Int, ∃ d2 : Nat → Int, rr = oI (v9) ∧ ((oRefA 2 n sz r p on = 0 ∧ r9 = 0 ∧ v9 = oDoV 2 r p on n a g sz w ∧ oRem f fd d2 ac6 ac2 ∧ ∃ (n1 a1 g1 : Nat) (sz1 w1 : Nat → Nat), oDoS 2 r p on n a g sz w = (n1, a1, g1, sz1, w1) ∧ oRS g7 n1 a1 g1 sz1 w1) ∨ (ac2 = ac6 ∧ g7 = f ∧ d2 = fd ∧ ((r9 = 1 ∧ oRefA 2 n sz r p on = 1) ∨ (r9 = 2 ∧ oRefA 2 n sz r p on = 3)))) ∧ uu (65) = .inr (6, [.int (oI (r9)), .ref (ad (66)), .int (oI (((si : Nat) : Int))), .ref (ad (67)), .ref (ad (68)), .ref (ad (69)), .int (oI (((ac2 : Nat) : Int))), .ref (ad (70)), .ref (ad (71)), .ref (ad (72)), .ref (ad (73)), .ref (ad (74)), .int (oI (((spo : Nat) : Int))), .int (oI (((ou6 : Nat) : Int)))]) ∧ uu (67) = oAI cT 171 g7 ∧ uu (69) = oAI cT 2394 d2 ∧ (∀ q : Nat, q ≠ 65 → q ≠ 67 → q ≠ 69 → uu q = σ q)) := by
  refine m_start (cc := cX6_mark) (by decide) (Nat.le_of_ble_eq_true rfl) rfl ?_
  intro Pp Ee Ss Mm Bb Me Cc Ar ls hx hb hml hown hlk hrt hts hK hH hl
  have hown : Ss.vm.findClass RX6 = some Mm.cls := hown
  have hn := hwf.1
  have hl : lv_has ls 4 [(0, .ref (ad (65))), (1, .int (oI (r))), (2, .int (oI (p))), (3, .int (oI (on)))] := hl
  have hf : ∀ q : Nat, q ≠ 65 → q ≠ 67 → q ≠ 69 → σ q = σ q := fun q _ _ _ => rfl
  refine lv_aload_n hx hb dX6_mark_0 rfl (lv_at hl 0 rfl) ?_
  refine lv_aload_n hx hb dX6_mark_1 rfl (lv_at hl 0 rfl) ?_
  refine gf_X6_now hx hb hts hown hK hH (k := 65) (by omega) eM6 dX6_mark_2 ?_
  refine lv_iload_n hx hb dX6_mark_5 rfl (lv_at hl 1 rfl) ?_
  refine lv_iload_n hx hb dX6_mark_6 rfl (lv_at hl 2 rfl) ?_
  refine m_pSb hx hb hml hown hts hK hH hl (rest := [.ref (ad (65))]) cw_X6_99 rfl (c6_isPlace hA 67 n a g f sz w r p (by first | assumption | omega) (by first | assumption | omega) (by first | assumption | omega) (by first | assumption | omega) (by first | assumption | omega) e67) ⟨Nat.le_of_ble_eq_true rfl, Nat.le_of_ble_eq_true rfl⟩ ⟨Nat.le_of_ble_eq_true rfl, Nat.le_of_ble_eq_true rfl⟩ rfl rfl (Nat.le_of_ble_eq_true rfl) dX6_mark_7 (fun hP H locs hH => ?_) (fun hP H locs hH => ?_)
  · have eS : oSize n sz r = sz r.toNat := oSize_in hP.1
    have hs9 := hwf.2 r.toNat (by omega)
    refine m_if_ne 17 hx hb dX6_mark_10 (by decide) (by omega) (fun h_1 => ?_) (fun h_1 => absurd h_1 (by omega))
    refine lv_aload_n hx hb dX6_mark_17 rfl (lv_at hl 0 rfl) ?_
    refine gf_X6_now hx hb hts hown hK hH (k := 65) (by omega) eM6 dX6_mark_18 ?_
    refine lv_iload_n hx hb dX6_mark_21 rfl (lv_at hl 1 rfl) ?_
    refine lv_iload_n hx hb dX6_mark_22 rfl (lv_at hl 2 rfl) ?_
    refine lv_iload_n hx hb dX6_mark_23 rfl (lv_at hl 3 rfl) ?_
    refine m_pSb hx hb hml hown hts hK hH hl (rest := [.ref (ad (65))]) cw_X6_127 rfl (c6_canMark hA 67 n a g f sz w r p on (by first | assumption | omega) (by first | assumption | omega) (by first | assumption | omega) (by first | assumption | omega) (by first | assumption | omega) (by first | assumption | omega) e67) ⟨Nat.le_of_ble_eq_true rfl, Nat.le_of_ble_eq_true rfl⟩ ⟨Nat.le_of_ble_eq_true rfl, Nat.le_of_ble_eq_true rfl⟩ rfl rfl (Nat.le_of_ble_eq_true rfl) dX6_mark_24 (fun hC H locs hH => ?_) (fun hC H locs hH => ?_)
    · refine m_if_eq 34 hx hb dX6_mark_27 (by decide) (by omega) (fun h_2 => absurd h_2 (by omega)) (fun h_2 => ?_)
      refine m_iconst 0 hx hb dX6_mark_30 rfl ?_
      refine lv_goto (tgt := 35) hx hb dX6_mark_31 (by decide) ?_
      refine m_callVi hx hb hml hown hts hK hH hl (rest := []) cw_X6_111 (c6_ref0 hA si ac6 spo ou6 rf (by first | assumption | omega) eM6) ⟨Nat.le_of_ble_eq_true rfl, Nat.le_of_ble_eq_true rfl⟩ ⟨Nat.le_of_ble_eq_true rfl, Nat.le_of_ble_eq_true rfl⟩ rfl (k := 65) (by omega) eM6 rfl rfl (Nat.le_of_ble_eq_true rfl) dX6_mark_35 (fun r_6 σ_3 H locs hp_4 hH => ?_)
      obtain ⟨rfl, eM6, hq_5⟩ := hp_4
      have e67 : σ_3 (67) = oAI cT 171 f := (hq_5 _ (by decide)).trans e67
      have e69 : σ_3 (69) = oAI cT 2394 fd := (hq_5 _ (by decide)).trans e69
      have hf : ∀ q : Nat, q ≠ 65 → q ≠ 67 → q ≠ 69 → σ_3 q = σ q := fun q n0 n1 n2 => (hq_5 q n0).trans (hf q n0 n1 n2)
      refine m_if_eq 43 hx hb dX6_mark_38 (by decide) (by omega) (fun h_7 => ?_) (fun h_7 => absurd h_7 (by omega))
      refine lv_aload_n hx hb dX6_mark_43 rfl (lv_at hl 0 rfl) ?_
      refine m_callVv hx hb hml hown hts hK hH hl (rest := []) cw_X6_206 (c6_remember hA si ac6 spo ou6 0 f fd (by first | assumption | omega) (by first | assumption | omega) eM6 e67 e69) ⟨Nat.le_of_ble_eq_true rfl, Nat.le_of_ble_eq_true rfl⟩ ⟨Nat.le_of_ble_eq_true rfl, Nat.le_of_ble_eq_true rfl⟩ rfl (k := 65) (by omega) eM6 rfl rfl (Nat.le_of_ble_eq_true rfl) dX6_mark_44 (fun σ_8 H locs hp_9 hH => ?_)
      obtain ⟨ac5, d5, hrem, eM6, e69, hq_10⟩ := hp_9
      have e67 : σ_8 (67) = oAI cT 171 f := (hq_10 _ (by decide) (by decide)).trans e67
      have hf : ∀ q : Nat, q ≠ 65 → q ≠ 67 → q ≠ 69 → σ_8 q = σ q := fun q n0 n1 n2 => (hq_10 q n0 n2).trans (hf q n0 n1 n2)
      refine lv_aload_n hx hb dX6_mark_47 rfl (lv_at hl 0 rfl) ?_
      refine gf_X6_now hx hb hts hown hK hH (k := 65) (by omega) eM6 dX6_mark_48 ?_
      refine lv_iload_n hx hb dX6_mark_51 rfl (lv_at hl 1 rfl) ?_
      refine m_topI (((r.toNat : Nat) : Int)) (by omega) ?_
      refine lv_iload_n hx hb dX6_mark_52 rfl (lv_at hl 2 rfl) ?_
      refine m_topI (((p.toNat : Nat) : Int)) (by omega) ?_
      refine lv_iload_n hx hb dX6_mark_53 rfl (lv_at hl 3 rfl) ?_
      refine m_callSi hx hb hml hown hts hK hH hl (rest := []) cw_X6_131 rfl (c6_markOn hA 67 n a g f sz w r.toNat p.toNat on (by first | assumption | omega) (by first | assumption | omega) (by first | assumption | omega) (by first | assumption | omega) (by first | assumption | omega) (by first | assumption | omega) (by first | assumption | omega) e67) ⟨Nat.le_of_ble_eq_true rfl, Nat.le_of_ble_eq_true rfl⟩ ⟨Nat.le_of_ble_eq_true rfl, Nat.le_of_ble_eq_true rfl⟩ rfl rfl (Nat.le_of_ble_eq_true rfl) dX6_mark_54 (fun r_15 σ_12 H locs hp_13 hH => ?_)
      obtain ⟨f5, rfl, hp5, hwf5, e67, hq_14⟩ := hp_13
      have eM6 : σ_12 (65) = .inr (6, [.int (oI (0)), .ref (ad (66)), .int (oI (((si : Nat) : Int))), .ref (ad (67)), .ref (ad (68)), .ref (ad (69)), .int (oI (((ac5 : Nat) : Int))), .ref (ad (70)), .ref (ad (71)), .ref (ad (72)), .ref (ad (73)), .ref (ad (74)), .int (oI (((spo : Nat) : Int))), .int (oI (((ou6 : Nat) : Int)))]) := (hq_14 _ (by decide)).trans eM6
      have e69 : σ_12 (69) = oAI cT 2394 d5 := (hq_14 _ (by decide)).trans e69
      have hf : ∀ q : Nat, q ≠ 65 → q ≠ 67 → q ≠ 69 → σ_12 q = σ q := fun q n0 n1 n2 => (hq_14 q n1).trans (hf q n0 n1 n2)
      have ep : ((p.toNat : Nat) : Int) = p := by omega
      rw [ep] at hp5
      exact m_iret hx hb hlk hrt hH (m_ni _) dX6_mark_57 ⟨((pcnt (oDoW (w r.toNat) p on) : Nat) : Int), 0, ac5, f5, d5, congrArg oI (by rw [ep]), (Or.inl ⟨by rw [oRefA_2]; exact oRef2_0.mpr ⟨hP, by omega⟩, rfl, (oDoV_2 _ _ _ _ _ _ _ _).symm, hrem, _, _, _, _, _, (oDoS_2 _ _ _ _ _ _ _ _), hp5⟩), eM6, e67, e69, hf⟩
    · refine m_if_eq 34 hx hb dX6_mark_27 (by decide) (by omega) (fun h_16 => ?_) (fun h_16 => absurd h_16 (by omega))
      refine m_iconst 2 hx hb dX6_mark_34 rfl ?_
      refine m_callVi hx hb hml hown hts hK hH hl (rest := []) cw_X6_111 (c6_ref1 hA 2 si ac6 spo ou6 rf (by first | assumption | omega) (by first | assumption | omega) eM6) ⟨Nat.le_of_ble_eq_true rfl, Nat.le_of_ble_eq_true rfl⟩ ⟨Nat.le_of_ble_eq_true rfl, Nat.le_of_ble_eq_true rfl⟩ rfl (k := 65) (by omega) eM6 rfl rfl (Nat.le_of_ble_eq_true rfl) dX6_mark_35 (fun r_20 σ_17 H locs hp_18 hH => ?_)
      obtain ⟨rfl, eM6, hq_19⟩ := hp_18
      have e67 : σ_17 (67) = oAI cT 171 f := (hq_19 _ (by decide)).trans e67
      have e69 : σ_17 (69) = oAI cT 2394 fd := (hq_19 _ (by decide)).trans e69
      have hf : ∀ q : Nat, q ≠ 65 → q ≠ 67 → q ≠ 69 → σ_17 q = σ q := fun q n0 n1 n2 => (hq_19 q n0).trans (hf q n0 n1 n2)
      refine m_if_eq 43 hx hb dX6_mark_38 (by decide) (by omega) (fun h_21 => absurd h_21 (by omega)) (fun h_21 => ?_)
      refine m_iconst 0 hx hb dX6_mark_41 rfl ?_
      exact m_iret hx hb hlk hrt hH (m_ni _) dX6_mark_42 ⟨0, 2, ac6, f, fd, rfl, (Or.inr ⟨rfl, rfl, rfl, Or.inr ⟨rfl, by rw [oRefA_2]; unfold oRef2; rw [if_neg (fun q => q hP), if_pos (by omega)]⟩⟩), eM6, e67, e69, hf⟩
  · refine m_if_ne 17 hx hb dX6_mark_10 (by decide) (by omega) (fun h_22 => absurd h_22 (by omega)) (fun h_22 => ?_)
    refine m_iconst 1 hx hb dX6_mark_13 rfl ?_
    refine lv_goto (tgt := 35) hx hb dX6_mark_14 (by decide) ?_
    refine m_callVi hx hb hml hown hts hK hH hl (rest := []) cw_X6_111 (c6_ref1 hA 1 si ac6 spo ou6 rf (by first | assumption | omega) (by first | assumption | omega) eM6) ⟨Nat.le_of_ble_eq_true rfl, Nat.le_of_ble_eq_true rfl⟩ ⟨Nat.le_of_ble_eq_true rfl, Nat.le_of_ble_eq_true rfl⟩ rfl (k := 65) (by omega) eM6 rfl rfl (Nat.le_of_ble_eq_true rfl) dX6_mark_35 (fun r_26 σ_23 H locs hp_24 hH => ?_)
    obtain ⟨rfl, eM6, hq_25⟩ := hp_24
    have e67 : σ_23 (67) = oAI cT 171 f := (hq_25 _ (by decide)).trans e67
    have e69 : σ_23 (69) = oAI cT 2394 fd := (hq_25 _ (by decide)).trans e69
    have hf : ∀ q : Nat, q ≠ 65 → q ≠ 67 → q ≠ 69 → σ_23 q = σ q := fun q n0 n1 n2 => (hq_25 q n0).trans (hf q n0 n1 n2)
    refine m_if_eq 43 hx hb dX6_mark_38 (by decide) (by omega) (fun h_27 => absurd h_27 (by omega)) (fun h_27 => ?_)
    refine m_iconst 0 hx hb dX6_mark_41 rfl ?_
    exact m_iret hx hb hlk hrt hH (m_ni _) dX6_mark_42 ⟨0, 1, ac6, f, fd, rfl, (Or.inr ⟨rfl, rfl, rfl, Or.inl ⟨rfl, by rw [oRefA_2]; unfold oRef2; rw [if_pos hP]⟩⟩), eM6, e67, e69, hf⟩
set_option maxHeartbeats 4000000 in
set_option maxRecDepth 100000 in
theorem c6_cut {l : Launch} {D : va_G} {cT : Nat → ClassId} {N b0 : Nat} {ad : Nat → Nat} (hA : oAd b0 N ad) {σ : Nat → va_E} (r p : Int) (si ac6 spo ou6 : Nat) (rf : Int) (n a g : Nat) (f : Nat → Int) (sz w : Nat → Nat) (fd : Nat → Int) (hN : 76 ≤ N) (hwf : oWf n sz w) (hag : oAg a g) (hp : oRS f n a g sz w) (hac : ac6 ≤ 14) (hbr : -2147483648 ≤ r ∧ r < 2147483648) (hbp : -2147483648 ≤ p ∧ p < 2147483648) (eM6 : σ (65) = .inr (6, [.int (oI (rf)), .ref (ad (66)), .int (oI (((si : Nat) : Int))), .ref (ad (67)), .ref (ad (68)), .ref (ad (69)), .int (oI (((ac6 : Nat) : Int))), .ref (ad (70)), .ref (ad (71)), .ref (ad (72)), .ref (ad (73)), .ref (ad (74)), .int (oI (((spo : Nat) : Int))), .int (oI (((ou6 : Nat) : Int)))])) (e67 : σ (67) = oAI cT 171 f) (e69 : σ (69) = oAI cT 2394 fd) :
    oCi l D cT N ad b0 yX6_cut cX6_cut 3 (some .int) 3 67 [.ref (ad (65)), .int (oI (r)), .int (oI (p))] σ (fun rr uu => ∃ v9 : Int, ∃ r9 : Int, ∃ ac2 : Nat, ∃ g7 : Nat → Int, ∃ d2 : Nat → Int, rr = oI (v9) ∧ ((oRefA 3 n sz r p 0 = 0 ∧ r9 = 0 ∧ v9 = oDoV 3 r p 0 n a g sz w ∧ oRem f fd d2 ac6 ac2 ∧ ∃ (n1 a1 g1 : Nat) (sz1 w1 : Nat → Nat), oDoS 3 r p 0 n a g sz w = (n1, a1, g1, sz1, w1) ∧ oRS g7 n1 a1 g1 sz1 w1) ∨ (ac2 = ac6 ∧ g7 = f ∧ d2 = fd ∧ ((r9 = 1 ∧ oRefA 3 n sz r p 0 = 1) ∨ (r9 = 2 ∧ oRefA 3 n sz r p 0 = 2)))) ∧ uu (65) = .inr (6, [.int (oI (r9)), .ref (ad (66)), .int (oI (((si : Nat) : Int))), .ref (ad (67)), .ref (ad (68)), .ref (ad (69)), .int (oI (((ac2 : Nat) : Int))), .ref (ad (70)), .ref (ad (71)), .ref (ad (72)), .ref (ad (73)), .ref (ad (74)), .int (oI (((spo : Nat) : Int))), .int (oI (((ou6 : Nat) : Int)))]) ∧ uu (67) = oAI cT 171 g7 ∧ uu (69) = oAI cT 2394 d2 ∧ (∀ q : Nat, q ≠ 65 → q ≠ 67 → q ≠ 69 → uu q = σ q)) := by
  refine m_start (cc := cX6_cut) (by decide) (Nat.le_of_ble_eq_true rfl) rfl ?_
  intro Pp Ee Ss Mm Bb Me Cc Ar ls hx hb hml hown hlk hrt hts hK hH hl
  have hown : Ss.vm.findClass RX6 = some Mm.cls := hown
  have hn := hwf.1
  have hl : lv_has ls 3 [(0, .ref (ad (65))), (1, .int (oI (r))), (2, .int (oI (p)))] := hl
  have hf : ∀ q : Nat, q ≠ 65 → q ≠ 67 → q ≠ 69 → σ q = σ q := fun q _ _ _ => rfl
  refine lv_aload_n hx hb dX6_cut_0 rfl (lv_at hl 0 rfl) ?_
  refine lv_aload_n hx hb dX6_cut_1 rfl (lv_at hl 0 rfl) ?_
  refine gf_X6_now hx hb hts hown hK hH (k := 65) (by omega) eM6 dX6_cut_2 ?_
  refine lv_iload_n hx hb dX6_cut_5 rfl (lv_at hl 1 rfl) ?_
  refine m_pSb hx hb hml hown hts hK hH hl (rest := [.ref (ad (65))]) cw_X6_50 rfl (c6_isRuler hA 67 n a g f sz w r (by first | assumption | omega) (by first | assumption | omega) (by first | assumption | omega) (by first | assumption | omega) e67) ⟨Nat.le_of_ble_eq_true rfl, Nat.le_of_ble_eq_true rfl⟩ ⟨Nat.le_of_ble_eq_true rfl, Nat.le_of_ble_eq_true rfl⟩ rfl rfl (Nat.le_of_ble_eq_true rfl) dX6_cut_6 (fun hP H locs hH => ?_) (fun hP H locs hH => ?_)
  · have eS : oSize n sz r = sz r.toNat := oSize_in hP
    have hs9 := hwf.2 r.toNat (by omega)
    refine m_if_ne 16 hx hb dX6_cut_9 (by decide) (by omega) (fun h_1 => ?_) (fun h_1 => absurd h_1 (by omega))
    refine lv_iload_n hx hb dX6_cut_16 rfl (lv_at hl 2 rfl) ?_
    refine m_i2l hx hb dX6_cut_17 (by omega) ?_
    refine lv_ldc2 (v := 2) hx hb hown (hts _ kl_X6_202) dX6_cut_18 ?_
    refine m_J2L 2 (by decide +kernel) ?_
    refine lv_aload_n hx hb dX6_cut_21 rfl (lv_at hl 0 rfl) ?_
    refine gf_X6_now hx hb hts hown hK hH (k := 65) (by omega) eM6 dX6_cut_22 ?_
    refine lv_iload_n hx hb dX6_cut_25 rfl (lv_at hl 1 rfl) ?_
    refine m_topI (((r.toNat : Nat) : Int)) (by omega) ?_
    refine m_pSi hx hb hml hown hts hK hH hl (rest := [.long (oL (2)), .long (oL (p)), .ref (ad (65))]) cw_X6_54 rfl (c6_length hA 67 n a g f sz w r.toNat (by first | assumption | omega) (by first | assumption | omega) (by first | assumption | omega) (by first | assumption | omega) e67) ⟨Nat.le_of_ble_eq_true rfl, Nat.le_of_ble_eq_true rfl⟩ ⟨Nat.le_of_ble_eq_true rfl, Nat.le_of_ble_eq_true rfl⟩ rfl rfl (Nat.le_of_ble_eq_true rfl) dX6_cut_26 (fun H locs hH => ?_)
    refine m_i2l hx hb dX6_cut_29 (by omega) ?_
    refine m_pSb hx hb hml hown hts hK hH hl (rest := [.ref (ad (65))]) cw_X6_46 rfl (c6_in hA p 2 ((sz r.toNat : Nat) : Int) (by first | assumption | omega) (by first | assumption | omega) (by first | assumption | omega) ) ⟨Nat.le_of_ble_eq_true rfl, Nat.le_of_ble_eq_true rfl⟩ ⟨Nat.le_of_ble_eq_true rfl, Nat.le_of_ble_eq_true rfl⟩ rfl rfl (Nat.le_of_ble_eq_true rfl) dX6_cut_30 (fun hC H locs hH => ?_) (fun hC H locs hH => ?_)
    · refine m_if_eq 40 hx hb dX6_cut_33 (by decide) (by omega) (fun h_2 => absurd h_2 (by omega)) (fun h_2 => ?_)
      refine m_iconst 0 hx hb dX6_cut_36 rfl ?_
      refine lv_goto (tgt := 41) hx hb dX6_cut_37 (by decide) ?_
      refine m_callVi hx hb hml hown hts hK hH hl (rest := []) cw_X6_111 (c6_ref0 hA si ac6 spo ou6 rf (by first | assumption | omega) eM6) ⟨Nat.le_of_ble_eq_true rfl, Nat.le_of_ble_eq_true rfl⟩ ⟨Nat.le_of_ble_eq_true rfl, Nat.le_of_ble_eq_true rfl⟩ rfl (k := 65) (by omega) eM6 rfl rfl (Nat.le_of_ble_eq_true rfl) dX6_cut_41 (fun r_6 σ_3 H locs hp_4 hH => ?_)
      obtain ⟨rfl, eM6, hq_5⟩ := hp_4
      have e67 : σ_3 (67) = oAI cT 171 f := (hq_5 _ (by decide)).trans e67
      have e69 : σ_3 (69) = oAI cT 2394 fd := (hq_5 _ (by decide)).trans e69
      have hf : ∀ q : Nat, q ≠ 65 → q ≠ 67 → q ≠ 69 → σ_3 q = σ q := fun q n0 n1 n2 => (hq_5 q n0).trans (hf q n0 n1 n2)
      refine m_if_eq 49 hx hb dX6_cut_44 (by decide) (by omega) (fun h_7 => ?_) (fun h_7 => absurd h_7 (by omega))
      refine lv_aload_n hx hb dX6_cut_49 rfl (lv_at hl 0 rfl) ?_
      refine m_callVv hx hb hml hown hts hK hH hl (rest := []) cw_X6_206 (c6_remember hA si ac6 spo ou6 0 f fd (by first | assumption | omega) (by first | assumption | omega) eM6 e67 e69) ⟨Nat.le_of_ble_eq_true rfl, Nat.le_of_ble_eq_true rfl⟩ ⟨Nat.le_of_ble_eq_true rfl, Nat.le_of_ble_eq_true rfl⟩ rfl (k := 65) (by omega) eM6 rfl rfl (Nat.le_of_ble_eq_true rfl) dX6_cut_50 (fun σ_8 H locs hp_9 hH => ?_)
      obtain ⟨ac5, d5, hrem, eM6, e69, hq_10⟩ := hp_9
      have e67 : σ_8 (67) = oAI cT 171 f := (hq_10 _ (by decide) (by decide)).trans e67
      have hf : ∀ q : Nat, q ≠ 65 → q ≠ 67 → q ≠ 69 → σ_8 q = σ q := fun q n0 n1 n2 => (hq_10 q n0 n2).trans (hf q n0 n1 n2)
      refine lv_aload_n hx hb dX6_cut_53 rfl (lv_at hl 0 rfl) ?_
      refine gf_X6_now hx hb hts hown hK hH (k := 65) (by omega) eM6 dX6_cut_54 ?_
      refine lv_iload_n hx hb dX6_cut_57 rfl (lv_at hl 1 rfl) ?_
      refine m_topI (((r.toNat : Nat) : Int)) (by omega) ?_
      refine lv_iload_n hx hb dX6_cut_58 rfl (lv_at hl 2 rfl) ?_
      refine m_topI (((p.toNat : Nat) : Int)) (by omega) ?_
      refine m_callSi hx hb hml hown hts hK hH hl (rest := []) cw_X6_146 rfl (c6_cutOn hA 67 n a g f sz w r.toNat p.toNat (by first | assumption | omega) (by first | assumption | omega) (by first | assumption | omega) (by first | assumption | omega) (by first | assumption | omega) e67) ⟨Nat.le_of_ble_eq_true rfl, Nat.le_of_ble_eq_true rfl⟩ ⟨Nat.le_of_ble_eq_true rfl, Nat.le_of_ble_eq_true rfl⟩ rfl rfl (Nat.le_of_ble_eq_true rfl) dX6_cut_59 (fun r_15 σ_12 H locs hp_13 hH => ?_)
      obtain ⟨f5, rfl, hp5, e67, hq_14⟩ := hp_13
      have eM6 : σ_12 (65) = .inr (6, [.int (oI (0)), .ref (ad (66)), .int (oI (((si : Nat) : Int))), .ref (ad (67)), .ref (ad (68)), .ref (ad (69)), .int (oI (((ac5 : Nat) : Int))), .ref (ad (70)), .ref (ad (71)), .ref (ad (72)), .ref (ad (73)), .ref (ad (74)), .int (oI (((spo : Nat) : Int))), .int (oI (((ou6 : Nat) : Int)))]) := (hq_14 _ (by decide)).trans eM6
      have e69 : σ_12 (69) = oAI cT 2394 d5 := (hq_14 _ (by decide)).trans e69
      have hf : ∀ q : Nat, q ≠ 65 → q ≠ 67 → q ≠ 69 → σ_12 q = σ q := fun q n0 n1 n2 => (hq_14 q n1).trans (hf q n0 n1 n2)
      exact m_iret hx hb hlk hrt hH (m_ni _) dX6_cut_62 ⟨((pcnt (oCutW (w r.toNat) p.toNat) : Nat) : Int), 0, ac5, f5, d5, rfl, (Or.inl ⟨by rw [oRefA_3]; exact oRef3_0.mpr ⟨hP, by omega⟩, rfl, (oDoV_3 _ _ _ _ _ _ _ _).symm, hrem, _, _, _, _, _, (oDoS_3 _ _ _ _ _ _ _ _), hp5⟩), eM6, e67, e69, hf⟩
    · refine m_if_eq 40 hx hb dX6_cut_33 (by decide) (by omega) (fun h_16 => ?_) (fun h_16 => absurd h_16 (by omega))
      refine m_iconst 2 hx hb dX6_cut_40 rfl ?_
      refine m_callVi hx hb hml hown hts hK hH hl (rest := []) cw_X6_111 (c6_ref1 hA 2 si ac6 spo ou6 rf (by first | assumption | omega) (by first | assumption | omega) eM6) ⟨Nat.le_of_ble_eq_true rfl, Nat.le_of_ble_eq_true rfl⟩ ⟨Nat.le_of_ble_eq_true rfl, Nat.le_of_ble_eq_true rfl⟩ rfl (k := 65) (by omega) eM6 rfl rfl (Nat.le_of_ble_eq_true rfl) dX6_cut_41 (fun r_20 σ_17 H locs hp_18 hH => ?_)
      obtain ⟨rfl, eM6, hq_19⟩ := hp_18
      have e67 : σ_17 (67) = oAI cT 171 f := (hq_19 _ (by decide)).trans e67
      have e69 : σ_17 (69) = oAI cT 2394 fd := (hq_19 _ (by decide)).trans e69
      have hf : ∀ q : Nat, q ≠ 65 → q ≠ 67 → q ≠ 69 → σ_17 q = σ q := fun q n0 n1 n2 => (hq_19 q n0).trans (hf q n0 n1 n2)
      refine m_if_eq 49 hx hb dX6_cut_44 (by decide) (by omega) (fun h_21 => absurd h_21 (by omega)) (fun h_21 => ?_)
      refine m_iconst 0 hx hb dX6_cut_47 rfl ?_
      exact m_iret hx hb hlk hrt hH (m_ni _) dX6_cut_48 ⟨0, 2, ac6, f, fd, rfl, (Or.inr ⟨rfl, rfl, rfl, Or.inr ⟨rfl, by rw [oRefA_3]; unfold oRef3; rw [if_neg (fun q => q hP), if_pos (by omega)]⟩⟩), eM6, e67, e69, hf⟩
  · refine m_if_ne 16 hx hb dX6_cut_9 (by decide) (by omega) (fun h_22 => absurd h_22 (by omega)) (fun h_22 => ?_)
    refine m_iconst 1 hx hb dX6_cut_12 rfl ?_
    refine lv_goto (tgt := 41) hx hb dX6_cut_13 (by decide) ?_
    refine m_callVi hx hb hml hown hts hK hH hl (rest := []) cw_X6_111 (c6_ref1 hA 1 si ac6 spo ou6 rf (by first | assumption | omega) (by first | assumption | omega) eM6) ⟨Nat.le_of_ble_eq_true rfl, Nat.le_of_ble_eq_true rfl⟩ ⟨Nat.le_of_ble_eq_true rfl, Nat.le_of_ble_eq_true rfl⟩ rfl (k := 65) (by omega) eM6 rfl rfl (Nat.le_of_ble_eq_true rfl) dX6_cut_41 (fun r_26 σ_23 H locs hp_24 hH => ?_)
    obtain ⟨rfl, eM6, hq_25⟩ := hp_24
    have e67 : σ_23 (67) = oAI cT 171 f := (hq_25 _ (by decide)).trans e67
    have e69 : σ_23 (69) = oAI cT 2394 fd := (hq_25 _ (by decide)).trans e69
    have hf : ∀ q : Nat, q ≠ 65 → q ≠ 67 → q ≠ 69 → σ_23 q = σ q := fun q n0 n1 n2 => (hq_25 q n0).trans (hf q n0 n1 n2)
    refine m_if_eq 49 hx hb dX6_cut_44 (by decide) (by omega) (fun h_27 => absurd h_27 (by omega)) (fun h_27 => ?_)
    refine m_iconst 0 hx hb dX6_cut_47 rfl ?_
    exact m_iret hx hb hlk hrt hH (m_ni _) dX6_cut_48 ⟨0, 1, ac6, f, fd, rfl, (Or.inr ⟨rfl, rfl, rfl, Or.inl ⟨rfl, by rw [oRefA_3]; unfold oRef3; rw [if_pos hP]⟩⟩), eM6, e67, e69, hf⟩
set_option maxHeartbeats 4000000 in
set_option maxRecDepth 100000 in
theorem c6_turn {l : Launch} {D : va_G} {cT : Nat → ClassId} {N b0 : Nat} {ad : Nat → Nat} (hA : oAd b0 N ad) {σ : Nat → va_E} (r : Int) (si ac6 spo ou6 : Nat) (rf : Int) (n a g : Nat) (f : Nat → Int) (sz w : Nat → Nat) (fd : Nat → Int) (hN : 76 ≤ N) (hwf : oWf n sz w) (hag : oAg a g) (hp : oRS f n a g sz w) (hac : ac6 ≤ 14) (hbr : -2147483648 ≤ r ∧ r < 2147483648) (eM6 : σ (65) = .inr (6, [.int (oI (rf)), .ref (ad (66)), .int (oI (((si : Nat) : Int))), .ref (ad (67)), .ref (ad (68)), .ref (ad (69)), .int (oI (((ac6 : Nat) : Int))), .ref (ad (70)), .ref (ad (71)), .ref (ad (72)), .ref (ad (73)), .ref (ad (74)), .int (oI (((spo : Nat) : Int))), .int (oI (((ou6 : Nat) : Int)))])) (e67 : σ (67) = oAI cT 171 f) (e69 : σ (69) = oAI cT 2394 fd) :
    oCi l D cT N ad b0 yX6_turn cX6_turn 2 (some .int) 2 46 [.ref (ad (65)), .int (oI (r))] σ (fun rr uu => ∃ v9 : Int, ∃ r9 : Int, ∃ ac2 : Nat, ∃ g7 : Nat → Int, ∃ d2 : Nat → Int, rr = oI (v9) ∧ ((oRefA 4 n sz r 0 0 = 0 ∧ r9 = 0 ∧ v9 = oDoV 4 r 0 0 n a g sz w ∧ oRem f fd d2 ac6 ac2 ∧ ∃ (n1 a1 g1 : Nat) (sz1 w1 : Nat → Nat), oDoS 4 r 0 0 n a g sz w = (n1, a1, g1, sz1, w1) ∧ oRS g7 n1 a1 g1 sz1 w1) ∨ (ac2 = ac6 ∧ g7 = f ∧ d2 = fd ∧ (r9 = 1 ∧ oRefA 4 n sz r 0 0 = 1))) ∧ uu (65) = .inr (6, [.int (oI (r9)), .ref (ad (66)), .int (oI (((si : Nat) : Int))), .ref (ad (67)), .ref (ad (68)), .ref (ad (69)), .int (oI (((ac2 : Nat) : Int))), .ref (ad (70)), .ref (ad (71)), .ref (ad (72)), .ref (ad (73)), .ref (ad (74)), .int (oI (((spo : Nat) : Int))), .int (oI (((ou6 : Nat) : Int)))]) ∧ uu (67) = oAI cT 171 g7 ∧ uu (69) = oAI cT 2394 d2 ∧ (∀ q : Nat, q ≠ 65 → q ≠ 67 → q ≠ 69 → uu q = σ q)) := by
  refine m_start (cc := cX6_turn) (by decide) (Nat.le_of_ble_eq_true rfl) rfl ?_
  intro Pp Ee Ss Mm Bb Me Cc Ar ls hx hb hml hown hlk hrt hts hK hH hl
  have hown : Ss.vm.findClass RX6 = some Mm.cls := hown
  have hn := hwf.1
  have hl : lv_has ls 2 [(0, .ref (ad (65))), (1, .int (oI (r)))] := hl
  have hf : ∀ q : Nat, q ≠ 65 → q ≠ 67 → q ≠ 69 → σ q = σ q := fun q _ _ _ => rfl
  refine lv_aload_n hx hb dX6_turn_0 rfl (lv_at hl 0 rfl) ?_
  refine lv_aload_n hx hb dX6_turn_1 rfl (lv_at hl 0 rfl) ?_
  refine gf_X6_now hx hb hts hown hK hH (k := 65) (by omega) eM6 dX6_turn_2 ?_
  refine lv_iload_n hx hb dX6_turn_5 rfl (lv_at hl 1 rfl) ?_
  refine m_pSb hx hb hml hown hts hK hH hl (rest := [.ref (ad (65))]) cw_X6_50 rfl (c6_isRuler hA 67 n a g f sz w r (by first | assumption | omega) (by first | assumption | omega) (by first | assumption | omega) (by first | assumption | omega) e67) ⟨Nat.le_of_ble_eq_true rfl, Nat.le_of_ble_eq_true rfl⟩ ⟨Nat.le_of_ble_eq_true rfl, Nat.le_of_ble_eq_true rfl⟩ rfl rfl (Nat.le_of_ble_eq_true rfl) dX6_turn_6 (fun hP H locs hH => ?_) (fun hP H locs hH => ?_)
  · refine m_if_eq 16 hx hb dX6_turn_9 (by decide) (by omega) (fun h_1 => absurd h_1 (by omega)) (fun h_1 => ?_)
    refine m_iconst 0 hx hb dX6_turn_12 rfl ?_
    refine lv_goto (tgt := 17) hx hb dX6_turn_13 (by decide) ?_
    refine m_callVi hx hb hml hown hts hK hH hl (rest := []) cw_X6_111 (c6_ref0 hA si ac6 spo ou6 rf (by first | assumption | omega) eM6) ⟨Nat.le_of_ble_eq_true rfl, Nat.le_of_ble_eq_true rfl⟩ ⟨Nat.le_of_ble_eq_true rfl, Nat.le_of_ble_eq_true rfl⟩ rfl (k := 65) (by omega) eM6 rfl rfl (Nat.le_of_ble_eq_true rfl) dX6_turn_17 (fun r_5 σ_2 H locs hp_3 hH => ?_)
    obtain ⟨rfl, eM6, hq_4⟩ := hp_3
    have e67 : σ_2 (67) = oAI cT 171 f := (hq_4 _ (by decide)).trans e67
    have e69 : σ_2 (69) = oAI cT 2394 fd := (hq_4 _ (by decide)).trans e69
    have hf : ∀ q : Nat, q ≠ 65 → q ≠ 67 → q ≠ 69 → σ_2 q = σ q := fun q n0 n1 n2 => (hq_4 q n0).trans (hf q n0 n1 n2)
    refine m_if_eq 25 hx hb dX6_turn_20 (by decide) (by omega) (fun h_6 => ?_) (fun h_6 => absurd h_6 (by omega))
    refine lv_aload_n hx hb dX6_turn_25 rfl (lv_at hl 0 rfl) ?_
    refine m_callVv hx hb hml hown hts hK hH hl (rest := []) cw_X6_206 (c6_remember hA si ac6 spo ou6 0 f fd (by first | assumption | omega) (by first | assumption | omega) eM6 e67 e69) ⟨Nat.le_of_ble_eq_true rfl, Nat.le_of_ble_eq_true rfl⟩ ⟨Nat.le_of_ble_eq_true rfl, Nat.le_of_ble_eq_true rfl⟩ rfl (k := 65) (by omega) eM6 rfl rfl (Nat.le_of_ble_eq_true rfl) dX6_turn_26 (fun σ_7 H locs hp_8 hH => ?_)
    obtain ⟨ac5, d5, hrem, eM6, e69, hq_9⟩ := hp_8
    have e67 : σ_7 (67) = oAI cT 171 f := (hq_9 _ (by decide) (by decide)).trans e67
    have hf : ∀ q : Nat, q ≠ 65 → q ≠ 67 → q ≠ 69 → σ_7 q = σ q := fun q n0 n1 n2 => (hq_9 q n0 n2).trans (hf q n0 n1 n2)
    refine lv_aload_n hx hb dX6_turn_29 rfl (lv_at hl 0 rfl) ?_
    refine gf_X6_now hx hb hts hown hK hH (k := 65) (by omega) eM6 dX6_turn_30 ?_
    refine lv_iload_n hx hb dX6_turn_33 rfl (lv_at hl 1 rfl) ?_
    refine m_topI (((r.toNat : Nat) : Int)) (by omega) ?_
    refine m_callSi hx hb hml hown hts hK hH hl (rest := []) cw_X6_150 rfl (c6_turnOn hA 67 n a g f sz w r.toNat (by first | assumption | omega) (by first | assumption | omega) (by first | assumption | omega) (by first | assumption | omega) e67) ⟨Nat.le_of_ble_eq_true rfl, Nat.le_of_ble_eq_true rfl⟩ ⟨Nat.le_of_ble_eq_true rfl, Nat.le_of_ble_eq_true rfl⟩ rfl rfl (Nat.le_of_ble_eq_true rfl) dX6_turn_34 (fun r_14 σ_11 H locs hp_12 hH => ?_)
    obtain ⟨f5, rfl, hp5, f_15, e67, hq_13⟩ := hp_12
    have eM6 : σ_11 (65) = .inr (6, [.int (oI (0)), .ref (ad (66)), .int (oI (((si : Nat) : Int))), .ref (ad (67)), .ref (ad (68)), .ref (ad (69)), .int (oI (((ac5 : Nat) : Int))), .ref (ad (70)), .ref (ad (71)), .ref (ad (72)), .ref (ad (73)), .ref (ad (74)), .int (oI (((spo : Nat) : Int))), .int (oI (((ou6 : Nat) : Int)))]) := (hq_13 _ (by decide)).trans eM6
    have e69 : σ_11 (69) = oAI cT 2394 d5 := (hq_13 _ (by decide)).trans e69
    have hf : ∀ q : Nat, q ≠ 65 → q ≠ 67 → q ≠ 69 → σ_11 q = σ q := fun q n0 n1 n2 => (hq_13 q n1).trans (hf q n0 n1 n2)
    exact m_iret hx hb hlk hrt hH (m_ni _) dX6_turn_37 ⟨(oTurnR (oRev (w r.toNat) (sz r.toNat)) (sz r.toNat)), 0, ac5, f5, d5, rfl, (Or.inl ⟨by rw [oRefA_4]; exact oRef4_0.mpr hP, rfl, (oDoV_4 _ _ _ _ _ _ _ _).symm, hrem, _, _, _, _, _, (oDoS_4 _ _ _ _ _ _ _ _), hp5⟩), eM6, e67, e69, hf⟩
  · refine m_if_eq 16 hx hb dX6_turn_9 (by decide) (by omega) (fun h_16 => ?_) (fun h_16 => absurd h_16 (by omega))
    refine m_iconst 1 hx hb dX6_turn_16 rfl ?_
    refine m_callVi hx hb hml hown hts hK hH hl (rest := []) cw_X6_111 (c6_ref1 hA 1 si ac6 spo ou6 rf (by first | assumption | omega) (by first | assumption | omega) eM6) ⟨Nat.le_of_ble_eq_true rfl, Nat.le_of_ble_eq_true rfl⟩ ⟨Nat.le_of_ble_eq_true rfl, Nat.le_of_ble_eq_true rfl⟩ rfl (k := 65) (by omega) eM6 rfl rfl (Nat.le_of_ble_eq_true rfl) dX6_turn_17 (fun r_20 σ_17 H locs hp_18 hH => ?_)
    obtain ⟨rfl, eM6, hq_19⟩ := hp_18
    have e67 : σ_17 (67) = oAI cT 171 f := (hq_19 _ (by decide)).trans e67
    have e69 : σ_17 (69) = oAI cT 2394 fd := (hq_19 _ (by decide)).trans e69
    have hf : ∀ q : Nat, q ≠ 65 → q ≠ 67 → q ≠ 69 → σ_17 q = σ q := fun q n0 n1 n2 => (hq_19 q n0).trans (hf q n0 n1 n2)
    refine m_if_eq 25 hx hb dX6_turn_20 (by decide) (by omega) (fun h_21 => absurd h_21 (by omega)) (fun h_21 => ?_)
    refine m_iconst 0 hx hb dX6_turn_23 rfl ?_
    exact m_iret hx hb hlk hrt hH (m_ni _) dX6_turn_24 ⟨0, 1, ac6, f, fd, rfl, (Or.inr ⟨rfl, rfl, rfl, rfl, by rw [oRefA_4]; unfold oRef4; rw [if_neg hP]⟩), eM6, e67, e69, hf⟩
set_option maxHeartbeats 4000000 in
set_option maxRecDepth 100000 in
theorem c6_set {l : Launch} {D : va_G} {cT : Nat → ClassId} {N b0 : Nat} {ad : Nat → Nat} (hA : oAd b0 N ad) {σ : Nat → va_E} (r p : Int) (si ac6 spo ou6 : Nat) (rf : Int) (n a g : Nat) (f : Nat → Int) (sz w : Nat → Nat) (fd : Nat → Int) (hN : 76 ≤ N) (hwf : oWf n sz w) (hag : oAg a g) (hp : oRS f n a g sz w) (hac : ac6 ≤ 14) (hbr : -2147483648 ≤ r ∧ r < 2147483648) (hbp : -2147483648 ≤ p ∧ p < 2147483648) (eM6 : σ (65) = .inr (6, [.int (oI (rf)), .ref (ad (66)), .int (oI (((si : Nat) : Int))), .ref (ad (67)), .ref (ad (68)), .ref (ad (69)), .int (oI (((ac6 : Nat) : Int))), .ref (ad (70)), .ref (ad (71)), .ref (ad (72)), .ref (ad (73)), .ref (ad (74)), .int (oI (((spo : Nat) : Int))), .int (oI (((ou6 : Nat) : Int)))])) (e67 : σ (67) = oAI cT 171 f) (e69 : σ (69) = oAI cT 2394 fd) :
    oCi l D cT N ad b0 yX6_set cX6_set 3 (some .int) 2 46 [.ref (ad (65)), .int (oI (r)), .int (oI (p))] σ (fun rr uu => ∃ v9 : Int, ∃ r9 : Int, ∃ ac2 : Nat, ∃ g7 : Nat → Int, ∃ d2 : Nat → Int, rr = oI (v9) ∧ ((oRefA 5 n sz r p 0 = 0 ∧ r9 = 0 ∧ v9 = oDoV 5 r p 0 n a g sz w ∧ oRem f fd d2 ac6 ac2 ∧ ∃ (n1 a1 g1 : Nat) (sz1 w1 : Nat → Nat), oDoS 5 r p 0 n a g sz w = (n1, a1, g1, sz1, w1) ∧ oRS g7 n1 a1 g1 sz1 w1) ∨ (ac2 = ac6 ∧ g7 = f ∧ d2 = fd ∧ (r9 = 1 ∧ oRefA 5 n sz r p 0 = 2))) ∧ uu (65) = .inr (6, [.int (oI (r9)), .ref (ad (66)), .int (oI (((si : Nat) : Int))), .ref (ad (67)), .ref (ad (68)), .ref (ad (69)), .int (oI (((ac2 : Nat) : Int))), .ref (ad (70)), .ref (ad (71)), .ref (ad (72)), .ref (ad (73)), .ref (ad (74)), .int (oI (((spo : Nat) : Int))), .int (oI (((ou6 : Nat) : Int)))]) ∧ uu (67) = oAI cT 171 g7 ∧ uu (69) = oAI cT 2394 d2 ∧ (∀ q : Nat, q ≠ 65 → q ≠ 67 → q ≠ 69 → uu q = σ q)) := by
  refine m_start (cc := cX6_set) (by decide) (Nat.le_of_ble_eq_true rfl) rfl ?_
  intro Pp Ee Ss Mm Bb Me Cc Ar ls hx hb hml hown hlk hrt hts hK hH hl
  have hown : Ss.vm.findClass RX6 = some Mm.cls := hown
  have hn := hwf.1
  have hl : lv_has ls 3 [(0, .ref (ad (65))), (1, .int (oI (r))), (2, .int (oI (p)))] := hl
  have hf : ∀ q : Nat, q ≠ 65 → q ≠ 67 → q ≠ 69 → σ q = σ q := fun q _ _ _ => rfl
  refine lv_aload_n hx hb dX6_set_0 rfl (lv_at hl 0 rfl) ?_
  refine lv_iload_n hx hb dX6_set_1 rfl (lv_at hl 1 rfl) ?_
  refine lv_iload_n hx hb dX6_set_2 rfl (lv_at hl 2 rfl) ?_
  refine m_pSb hx hb hml hown hts hK hH hl (rest := [.ref (ad (65))]) cw_X6_209 rfl (c6_isSetting hA r p (by first | assumption | omega) (by first | assumption | omega) ) ⟨Nat.le_of_ble_eq_true rfl, Nat.le_of_ble_eq_true rfl⟩ ⟨Nat.le_of_ble_eq_true rfl, Nat.le_of_ble_eq_true rfl⟩ rfl rfl (Nat.le_of_ble_eq_true rfl) dX6_set_3 (fun hS H locs hH => ?_) (fun hS H locs hH => ?_)
  · refine m_if_eq 13 hx hb dX6_set_6 (by decide) (by omega) (fun h_1 => absurd h_1 (by omega)) (fun h_1 => ?_)
    refine m_iconst 0 hx hb dX6_set_9 rfl ?_
    refine lv_goto (tgt := 14) hx hb dX6_set_10 (by decide) ?_
    refine m_callVi hx hb hml hown hts hK hH hl (rest := []) cw_X6_111 (c6_ref0 hA si ac6 spo ou6 rf (by first | assumption | omega) eM6) ⟨Nat.le_of_ble_eq_true rfl, Nat.le_of_ble_eq_true rfl⟩ ⟨Nat.le_of_ble_eq_true rfl, Nat.le_of_ble_eq_true rfl⟩ rfl (k := 65) (by omega) eM6 rfl rfl (Nat.le_of_ble_eq_true rfl) dX6_set_14 (fun r_5 σ_2 H locs hp_3 hH => ?_)
    obtain ⟨rfl, eM6, hq_4⟩ := hp_3
    have e67 : σ_2 (67) = oAI cT 171 f := (hq_4 _ (by decide)).trans e67
    have e69 : σ_2 (69) = oAI cT 2394 fd := (hq_4 _ (by decide)).trans e69
    have hf : ∀ q : Nat, q ≠ 65 → q ≠ 67 → q ≠ 69 → σ_2 q = σ q := fun q n0 n1 n2 => (hq_4 q n0).trans (hf q n0 n1 n2)
    refine m_if_eq 22 hx hb dX6_set_17 (by decide) (by omega) (fun h_6 => ?_) (fun h_6 => absurd h_6 (by omega))
    refine lv_aload_n hx hb dX6_set_22 rfl (lv_at hl 0 rfl) ?_
    refine m_callVv hx hb hml hown hts hK hH hl (rest := []) cw_X6_206 (c6_remember hA si ac6 spo ou6 0 f fd (by first | assumption | omega) (by first | assumption | omega) eM6 e67 e69) ⟨Nat.le_of_ble_eq_true rfl, Nat.le_of_ble_eq_true rfl⟩ ⟨Nat.le_of_ble_eq_true rfl, Nat.le_of_ble_eq_true rfl⟩ rfl (k := 65) (by omega) eM6 rfl rfl (Nat.le_of_ble_eq_true rfl) dX6_set_23 (fun σ_7 H locs hp_8 hH => ?_)
    obtain ⟨ac5, d5, hrem, eM6, e69, hq_9⟩ := hp_8
    have e67 : σ_7 (67) = oAI cT 171 f := (hq_9 _ (by decide) (by decide)).trans e67
    have hf : ∀ q : Nat, q ≠ 65 → q ≠ 67 → q ≠ 69 → σ_7 q = σ q := fun q n0 n1 n2 => (hq_9 q n0 n2).trans (hf q n0 n1 n2)
    refine lv_aload_n hx hb dX6_set_26 rfl (lv_at hl 0 rfl) ?_
    refine gf_X6_now hx hb hts hown hK hH (k := 65) (by omega) eM6 dX6_set_27 ?_
    refine lv_iload_n hx hb dX6_set_30 rfl (lv_at hl 1 rfl) ?_
    refine lv_iload_n hx hb dX6_set_31 rfl (lv_at hl 2 rfl) ?_
    refine m_topI (((p.toNat : Nat) : Int)) (by omega) ?_
    refine m_callSi hx hb hml hown hts hK hH hl (rest := []) cw_X6_153 rfl (c6_changeR hA 67 n a g f sz w r p.toNat (by first | assumption | omega) (by first | assumption | omega) (by first | assumption | omega) (by first | assumption | omega) (by first | assumption | omega) e67) ⟨Nat.le_of_ble_eq_true rfl, Nat.le_of_ble_eq_true rfl⟩ ⟨Nat.le_of_ble_eq_true rfl, Nat.le_of_ble_eq_true rfl⟩ rfl rfl (Nat.le_of_ble_eq_true rfl) dX6_set_32 (fun r_14 σ_11 H locs hp_12 hH => ?_)
    obtain ⟨f5, rfl, hp5, e67, hq_13⟩ := hp_12
    have eM6 : σ_11 (65) = .inr (6, [.int (oI (0)), .ref (ad (66)), .int (oI (((si : Nat) : Int))), .ref (ad (67)), .ref (ad (68)), .ref (ad (69)), .int (oI (((ac5 : Nat) : Int))), .ref (ad (70)), .ref (ad (71)), .ref (ad (72)), .ref (ad (73)), .ref (ad (74)), .int (oI (((spo : Nat) : Int))), .int (oI (((ou6 : Nat) : Int)))]) := (hq_13 _ (by decide)).trans eM6
    have e69 : σ_11 (69) = oAI cT 2394 d5 := (hq_13 _ (by decide)).trans e69
    have hf : ∀ q : Nat, q ≠ 65 → q ≠ 67 → q ≠ 69 → σ_11 q = σ q := fun q n0 n1 n2 => (hq_13 q n1).trans (hf q n0 n1 n2)
    exact m_iret hx hb hlk hrt hH (m_ni _) dX6_set_35 ⟨((if r = 0 then a else g : Nat) : Int), 0, ac5, f5, d5, rfl, (Or.inl ⟨by rw [oRefA_5]; exact oRef5_0.mpr hS, rfl, (oDoV_5r (by omega)).symm, hrem, _, _, _, _, _, oDoS_5r (by omega), hp5⟩), eM6, e67, e69, hf⟩
  · refine m_if_eq 13 hx hb dX6_set_6 (by decide) (by omega) (fun h_15 => ?_) (fun h_15 => absurd h_15 (by omega))
    refine m_iconst 1 hx hb dX6_set_13 rfl ?_
    refine m_callVi hx hb hml hown hts hK hH hl (rest := []) cw_X6_111 (c6_ref1 hA 1 si ac6 spo ou6 rf (by first | assumption | omega) (by first | assumption | omega) eM6) ⟨Nat.le_of_ble_eq_true rfl, Nat.le_of_ble_eq_true rfl⟩ ⟨Nat.le_of_ble_eq_true rfl, Nat.le_of_ble_eq_true rfl⟩ rfl (k := 65) (by omega) eM6 rfl rfl (Nat.le_of_ble_eq_true rfl) dX6_set_14 (fun r_19 σ_16 H locs hp_17 hH => ?_)
    obtain ⟨rfl, eM6, hq_18⟩ := hp_17
    have e67 : σ_16 (67) = oAI cT 171 f := (hq_18 _ (by decide)).trans e67
    have e69 : σ_16 (69) = oAI cT 2394 fd := (hq_18 _ (by decide)).trans e69
    have hf : ∀ q : Nat, q ≠ 65 → q ≠ 67 → q ≠ 69 → σ_16 q = σ q := fun q n0 n1 n2 => (hq_18 q n0).trans (hf q n0 n1 n2)
    refine m_if_eq 22 hx hb dX6_set_17 (by decide) (by omega) (fun h_20 => absurd h_20 (by omega)) (fun h_20 => ?_)
    refine m_iconst 0 hx hb dX6_set_20 rfl ?_
    exact m_iret hx hb hlk hrt hH (m_ni _) dX6_set_21 ⟨0, 1, ac6, f, fd, rfl, (Or.inr ⟨rfl, rfl, rfl, rfl, by rw [oRefA_5]; unfold oRef5; rw [if_neg hS]⟩), eM6, e67, e69, hf⟩
set_option maxHeartbeats 4000000 in
set_option maxRecDepth 100000 in
theorem c6_undo {l : Launch} {D : va_G} {cT : Nat → ClassId} {N b0 : Nat} {ad : Nat → Nat} (hA : oAd b0 N ad) {σ : Nat → va_E} (si ac6 spo ou6 : Nat) (rf : Int) (f fd : Nat → Int) (hN : 76 ≤ N) (hac : ac6 ≤ 14) (eM6 : σ (65) = .inr (6, [.int (oI (rf)), .ref (ad (66)), .int (oI (((si : Nat) : Int))), .ref (ad (67)), .ref (ad (68)), .ref (ad (69)), .int (oI (((ac6 : Nat) : Int))), .ref (ad (70)), .ref (ad (71)), .ref (ad (72)), .ref (ad (73)), .ref (ad (74)), .int (oI (((spo : Nat) : Int))), .int (oI (((ou6 : Nat) : Int)))])) (e67 : σ (67) = oAI cT 171 f) (e69 : σ (69) = oAI cT 2394 fd) :
    oCi l D cT N ad b0 yX6_undo cX6_undo 1 (some .int) 1 24 [.ref (ad (65))] σ (fun rr uu => ∃ v9 : Int, ∃ r9 : Int, ∃ ac2 : Nat, ∃ g7 : Nat → Int, rr = oI (v9) ∧ ((1 ≤ ac6 ∧ r9 = 0 ∧ v9 = ((ac6 - 1 : Nat) : Int) ∧ ac2 = ac6 - 1 ∧ ∀ k : Nat, k < 171 → g7 k = fd (k + 171 * (ac6 - 1))) ∨ (ac6 = 0 ∧ r9 = 1 ∧ ac2 = ac6 ∧ g7 = f)) ∧ uu (65) = .inr (6, [.int (oI (r9)), .ref (ad (66)), .int (oI (((si : Nat) : Int))), .ref (ad (67)), .ref (ad (68)), .ref (ad (69)), .int (oI (((ac2 : Nat) : Int))), .ref (ad (70)), .ref (ad (71)), .ref (ad (72)), .ref (ad (73)), .ref (ad (74)), .int (oI (((spo : Nat) : Int))), .int (oI (((ou6 : Nat) : Int)))]) ∧ uu (67) = oAI cT 171 g7 ∧ (∀ q : Nat, q ≠ 65 → q ≠ 67 → uu q = σ q)) := by
  refine m_start (cc := cX6_undo) (by decide) (Nat.le_of_ble_eq_true rfl) rfl ?_
  intro Pp Ee Ss Mm Bb Me Cc Ar ls hx hb hml hown hlk hrt hts hK hH hl
  have hown : Ss.vm.findClass RX6 = some Mm.cls := hown
  have hl : lv_has ls 1 [(0, .ref (ad (65)))] := hl
  have hf : ∀ q : Nat, q ≠ 65 → q ≠ 67 → σ q = σ q := fun q _ _ => rfl
  refine lv_aload_n hx hb dX6_undo_0 rfl (lv_at hl 0 rfl) ?_
  refine lv_aload_n hx hb dX6_undo_1 rfl (lv_at hl 0 rfl) ?_
  refine gf_X6_acts hx hb hts hown hK hH (k := 65) (by omega) eM6 dX6_undo_2 ?_
  refine m_if_ne 12 hx hb dX6_undo_5 (by decide) (by omega) (fun h_1 => ?_) (fun h_1 => ?_)
  · refine m_iconst 0 hx hb dX6_undo_12 rfl ?_
    refine m_callVi hx hb hml hown hts hK hH hl (rest := []) cw_X6_111 (c6_ref0 hA si ac6 spo ou6 rf (by first | assumption | omega) eM6) ⟨Nat.le_of_ble_eq_true rfl, Nat.le_of_ble_eq_true rfl⟩ ⟨Nat.le_of_ble_eq_true rfl, Nat.le_of_ble_eq_true rfl⟩ rfl (k := 65) (by omega) eM6 rfl rfl (Nat.le_of_ble_eq_true rfl) dX6_undo_13 (fun r_5 σ_2 H locs hp_3 hH => ?_)
    obtain ⟨rfl, eM6, hq_4⟩ := hp_3
    have e67 : σ_2 (67) = oAI cT 171 f := (hq_4 _ (by decide)).trans e67
    have e69 : σ_2 (69) = oAI cT 2394 fd := (hq_4 _ (by decide)).trans e69
    have hf : ∀ q : Nat, q ≠ 65 → q ≠ 67 → σ_2 q = σ q := fun q n0 n1 => (hq_4 q n0).trans (hf q n0 n1)
    refine m_if_eq 21 hx hb dX6_undo_16 (by decide) (by omega) (fun h_6 => ?_) (fun h_6 => absurd h_6 (by omega))
    refine lv_aload_n hx hb dX6_undo_21 rfl (lv_at hl 0 rfl) ?_
    refine lv_dup hx hb dX6_undo_22 rfl ?_
    refine gf_X6_acts hx hb hts hown hK hH (k := 65) (by omega) eM6 dX6_undo_23 ?_
    refine m_iconst 1 hx hb dX6_undo_26 rfl ?_
    refine m_isub (((ac6 : Nat) : Int) - 1) hx hb dX6_undo_27 (by omega) ?_
    refine m_topI (((ac6 - 1 : Nat) : Int)) (by omega) ?_
    refine pf_X6_acts hx hb hts hown hK hH hA (k := 65) (by omega) eM6 dX6_undo_28 (fun H locs σ_7 eM6 hq_8 hH => ?_)
    have e67 : σ_7 (67) = oAI cT 171 f := (hq_8 _ (by decide)).trans e67
    have e69 : σ_7 (69) = oAI cT 2394 fd := (hq_8 _ (by decide)).trans e69
    have hf : ∀ q : Nat, q ≠ 65 → q ≠ 67 → σ_7 q = σ q := fun q n0 n1 => (hq_8 q n0).trans (hf q n0 n1)
    refine lv_aload_n hx hb dX6_undo_31 rfl (lv_at hl 0 rfl) ?_
    refine gf_X6_diary hx hb hts hown hK hH (k := 65) (by omega) eM6 dX6_undo_32 ?_
    refine m_sipush 171 hx hb dX6_undo_35 (by decide) ?_
    refine lv_aload_n hx hb dX6_undo_38 rfl (lv_at hl 0 rfl) ?_
    refine gf_X6_acts hx hb hts hown hK hH (k := 65) (by omega) eM6 dX6_undo_39 ?_
    refine m_imul (171 * ((ac6 - 1 : Nat) : Int)) hx hb dX6_undo_42 (by omega) ?_
    refine lv_aload_n hx hb dX6_undo_43 rfl (lv_at hl 0 rfl) ?_
    refine gf_X6_now hx hb hts hown hK hH (k := 65) (by omega) eM6 dX6_undo_44 ?_
    refine m_iconst 0 hx hb dX6_undo_47 rfl ?_
    refine m_callSv hx hb hml hown hts hK hH hl (rest := []) cw_X6_163 rfl (c6_copyd1 hA 69 67 (171 * (ac6 - 1)) 0 fd f (by first | assumption | omega) (by first | assumption | omega) (by first | assumption | omega) (by first | assumption | omega) (by first | assumption | omega) e69 e67) ⟨Nat.le_of_ble_eq_true rfl, Nat.le_of_ble_eq_true rfl⟩ ⟨Nat.le_of_ble_eq_true rfl, Nat.le_of_ble_eq_true rfl⟩ rfl rfl (Nat.le_of_ble_eq_true rfl) dX6_undo_48 (fun σ_9 H locs hp_10 hH => ?_)
    obtain ⟨f5, hc1, f_13, e67, hq_11⟩ := hp_10
    have eM6 : σ_9 (65) = .inr (6, [.int (oI (0)), .ref (ad (66)), .int (oI (((si : Nat) : Int))), .ref (ad (67)), .ref (ad (68)), .ref (ad (69)), .int (oI (((ac6 - 1 : Nat) : Int))), .ref (ad (70)), .ref (ad (71)), .ref (ad (72)), .ref (ad (73)), .ref (ad (74)), .int (oI (((spo : Nat) : Int))), .int (oI (((ou6 : Nat) : Int)))]) := (hq_11 _ (by decide)).trans eM6
    have e69 : σ_9 (69) = oAI cT 2394 fd := (hq_11 _ (by decide)).trans e69
    have hf : ∀ q : Nat, q ≠ 65 → q ≠ 67 → σ_9 q = σ q := fun q n0 n1 => (hq_11 q n1).trans (hf q n0 n1)
    refine lv_aload_n hx hb dX6_undo_51 rfl (lv_at hl 0 rfl) ?_
    refine gf_X6_acts hx hb hts hown hK hH (k := 65) (by omega) eM6 dX6_undo_52 ?_
    exact m_iret hx hb hlk hrt hH (m_ni _) dX6_undo_55 ⟨((ac6 - 1 : Nat) : Int), 0, (ac6 - 1), f5, rfl, (Or.inl ⟨by omega, rfl, rfl, rfl, fun k hk => hc1 k hk⟩), eM6, e67, hf⟩
  · refine m_iconst 1 hx hb dX6_undo_8 rfl ?_
    refine lv_goto (tgt := 13) hx hb dX6_undo_9 (by decide) ?_
    refine m_callVi hx hb hml hown hts hK hH hl (rest := []) cw_X6_111 (c6_ref1 hA 1 si ac6 spo ou6 rf (by first | assumption | omega) (by first | assumption | omega) eM6) ⟨Nat.le_of_ble_eq_true rfl, Nat.le_of_ble_eq_true rfl⟩ ⟨Nat.le_of_ble_eq_true rfl, Nat.le_of_ble_eq_true rfl⟩ rfl (k := 65) (by omega) eM6 rfl rfl (Nat.le_of_ble_eq_true rfl) dX6_undo_13 (fun r_17 σ_14 H locs hp_15 hH => ?_)
    obtain ⟨rfl, eM6, hq_16⟩ := hp_15
    have e67 : σ_14 (67) = oAI cT 171 f := (hq_16 _ (by decide)).trans e67
    have e69 : σ_14 (69) = oAI cT 2394 fd := (hq_16 _ (by decide)).trans e69
    have hf : ∀ q : Nat, q ≠ 65 → q ≠ 67 → σ_14 q = σ q := fun q n0 n1 => (hq_16 q n0).trans (hf q n0 n1)
    refine m_if_eq 21 hx hb dX6_undo_16 (by decide) (by omega) (fun h_18 => absurd h_18 (by omega)) (fun h_18 => ?_)
    refine m_iconst 0 hx hb dX6_undo_19 rfl ?_
    exact m_iret hx hb hlk hrt hH (m_ni _) dX6_undo_20 ⟨0, 1, ac6, f, rfl, (Or.inr ⟨by omega, rfl, rfl, rfl⟩), eM6, e67, hf⟩
set_option maxHeartbeats 4000000 in
set_option maxRecDepth 100000 in
theorem c6_save {l : Launch} {D : va_G} {cT : Nat → ClassId} {N b0 : Nat} {ad : Nat → Nat} (hA : oAd b0 N ad) {σ : Nat → va_E} (t : Int) (si ac6 spo ou6 : Nat) (rf : Int) (n a g : Nat) (f : Nat → Int) (sz w : Nat → Nat) (fk kz : Nat → Int) (hN : 76 ≤ N) (hwf : oWf n sz w) (hag : oAg a g) (hp : oRS f n a g sz w) (hbt : -2147483648 ≤ t ∧ t < 2147483648) (eM6 : σ (65) = .inr (6, [.int (oI (rf)), .ref (ad (66)), .int (oI (((si : Nat) : Int))), .ref (ad (67)), .ref (ad (68)), .ref (ad (69)), .int (oI (((ac6 : Nat) : Int))), .ref (ad (70)), .ref (ad (71)), .ref (ad (72)), .ref (ad (73)), .ref (ad (74)), .int (oI (((spo : Nat) : Int))), .int (oI (((ou6 : Nat) : Int)))])) (e67 : σ (67) = oAI cT 171 f) (e70 : σ (70) = oAI cT 342 fk) (e71 : σ (71) = oAZ cT 2 kz) :
    oCi l D cT N ad b0 yX6_save cX6_save 2 (some .int) 1 25 [.ref (ad (65)), .int (oI (t))] σ (fun rr uu => ∃ v9 : Int, ∃ r9 : Int, ∃ k2 : Nat → Int, ∃ kz2 : Nat → Int, rr = oI (v9) ∧ (((t = 0 ∨ t = 1) ∧ r9 = 0 ∧ v9 = ((n : Nat) : Int) ∧ (∀ k : Nat, k < 171 → k2 (k + 171 * t.toNat) = f k) ∧ (∀ k : Nat, k < 171 * t.toNat ∨ 171 * t.toNat + 171 ≤ k → k2 k = fk k) ∧ kz2 = va_up kz t.toNat 1) ∨ (¬ (t = 0 ∨ t = 1) ∧ r9 = 1 ∧ k2 = fk ∧ kz2 = kz)) ∧ uu (65) = .inr (6, [.int (oI (r9)), .ref (ad (66)), .int (oI (((si : Nat) : Int))), .ref (ad (67)), .ref (ad (68)), .ref (ad (69)), .int (oI (((ac6 : Nat) : Int))), .ref (ad (70)), .ref (ad (71)), .ref (ad (72)), .ref (ad (73)), .ref (ad (74)), .int (oI (((spo : Nat) : Int))), .int (oI (((ou6 : Nat) : Int)))]) ∧ uu (70) = oAI cT 342 k2 ∧ uu (71) = oAZ cT 2 kz2 ∧ (∀ q : Nat, q ≠ 65 → q ≠ 70 → q ≠ 71 → uu q = σ q)) := by
  refine m_start (cc := cX6_save) (by decide) (Nat.le_of_ble_eq_true rfl) rfl ?_
  intro Pp Ee Ss Mm Bb Me Cc Ar ls hx hb hml hown hlk hrt hts hK hH hl
  have hown : Ss.vm.findClass RX6 = some Mm.cls := hown
  have hl : lv_has ls 2 [(0, .ref (ad (65))), (1, .int (oI (t)))] := hl
  have hf : ∀ q : Nat, q ≠ 65 → q ≠ 70 → q ≠ 71 → σ q = σ q := fun q _ _ _ => rfl
  refine lv_aload_n hx hb dX6_save_0 rfl (lv_at hl 0 rfl) ?_
  refine lv_iload_n hx hb dX6_save_1 rfl (lv_at hl 1 rfl) ?_
  refine m_i2l hx hb dX6_save_2 (by omega) ?_
  refine m_lconst 0 hx hb dX6_save_3 rfl ?_
  refine m_lconst 1 hx hb dX6_save_4 rfl ?_
  refine m_pSb hx hb hml hown hts hK hH hl (rest := [.ref (ad (65))]) cw_X6_46 rfl (c6_in hA t 0 1 (by first | assumption | omega) (by first | assumption | omega) (by first | assumption | omega) ) ⟨Nat.le_of_ble_eq_true rfl, Nat.le_of_ble_eq_true rfl⟩ ⟨Nat.le_of_ble_eq_true rfl, Nat.le_of_ble_eq_true rfl⟩ rfl rfl (Nat.le_of_ble_eq_true rfl) dX6_save_5 (fun hT H locs hH => ?_) (fun hT H locs hH => ?_)
  · refine m_if_eq 15 hx hb dX6_save_8 (by decide) (by omega) (fun h_1 => absurd h_1 (by omega)) (fun h_1 => ?_)
    refine m_iconst 0 hx hb dX6_save_11 rfl ?_
    refine lv_goto (tgt := 16) hx hb dX6_save_12 (by decide) ?_
    refine m_callVi hx hb hml hown hts hK hH hl (rest := []) cw_X6_111 (c6_ref0 hA si ac6 spo ou6 rf (by first | assumption | omega) eM6) ⟨Nat.le_of_ble_eq_true rfl, Nat.le_of_ble_eq_true rfl⟩ ⟨Nat.le_of_ble_eq_true rfl, Nat.le_of_ble_eq_true rfl⟩ rfl (k := 65) (by omega) eM6 rfl rfl (Nat.le_of_ble_eq_true rfl) dX6_save_16 (fun r_5 σ_2 H locs hp_3 hH => ?_)
    obtain ⟨rfl, eM6, hq_4⟩ := hp_3
    have e67 : σ_2 (67) = oAI cT 171 f := (hq_4 _ (by decide)).trans e67
    have e70 : σ_2 (70) = oAI cT 342 fk := (hq_4 _ (by decide)).trans e70
    have e71 : σ_2 (71) = oAZ cT 2 kz := (hq_4 _ (by decide)).trans e71
    have hf : ∀ q : Nat, q ≠ 65 → q ≠ 70 → q ≠ 71 → σ_2 q = σ q := fun q n0 n1 n2 => (hq_4 q n0).trans (hf q n0 n1 n2)
    refine m_if_eq 24 hx hb dX6_save_19 (by decide) (by omega) (fun h_6 => ?_) (fun h_6 => absurd h_6 (by omega))
    refine lv_aload_n hx hb dX6_save_24 rfl (lv_at hl 0 rfl) ?_
    refine gf_X6_now hx hb hts hown hK hH (k := 65) (by omega) eM6 dX6_save_25 ?_
    refine m_iconst 0 hx hb dX6_save_28 rfl ?_
    refine lv_aload_n hx hb dX6_save_29 rfl (lv_at hl 0 rfl) ?_
    refine gf_X6_kept hx hb hts hown hK hH (k := 65) (by omega) eM6 dX6_save_30 ?_
    refine m_sipush 171 hx hb dX6_save_33 (by decide) ?_
    refine lv_iload_n hx hb dX6_save_36 rfl (lv_at hl 1 rfl) ?_
    refine m_topI (((t.toNat : Nat) : Int)) (by omega) ?_
    refine m_imul (171 * ((t.toNat : Nat) : Int)) hx hb dX6_save_37 (by omega) ?_
    refine m_callSv hx hb hml hown hts hK hH hl (rest := []) cw_X6_163 rfl (c6_copy1k hA 67 70 0 (171 * t.toNat) f fk (by first | assumption | omega) (by first | assumption | omega) (by first | assumption | omega) (by first | assumption | omega) (by first | assumption | omega) e67 e70) ⟨Nat.le_of_ble_eq_true rfl, Nat.le_of_ble_eq_true rfl⟩ ⟨Nat.le_of_ble_eq_true rfl, Nat.le_of_ble_eq_true rfl⟩ rfl rfl (Nat.le_of_ble_eq_true rfl) dX6_save_38 (fun σ_7 H locs hp_8 hH => ?_)
    obtain ⟨f5, hc1, hc2, e70, hq_9⟩ := hp_8
    have eM6 : σ_7 (65) = .inr (6, [.int (oI (0)), .ref (ad (66)), .int (oI (((si : Nat) : Int))), .ref (ad (67)), .ref (ad (68)), .ref (ad (69)), .int (oI (((ac6 : Nat) : Int))), .ref (ad (70)), .ref (ad (71)), .ref (ad (72)), .ref (ad (73)), .ref (ad (74)), .int (oI (((spo : Nat) : Int))), .int (oI (((ou6 : Nat) : Int)))]) := (hq_9 _ (by decide)).trans eM6
    have e67 : σ_7 (67) = oAI cT 171 f := (hq_9 _ (by decide)).trans e67
    have e71 : σ_7 (71) = oAZ cT 2 kz := (hq_9 _ (by decide)).trans e71
    have hf : ∀ q : Nat, q ≠ 65 → q ≠ 70 → q ≠ 71 → σ_7 q = σ q := fun q n0 n1 n2 => (hq_9 q n1).trans (hf q n0 n1 n2)
    refine lv_aload_n hx hb dX6_save_41 rfl (lv_at hl 0 rfl) ?_
    refine gf_X6_isKept hx hb hts hown hK hH (k := 65) (by omega) eM6 dX6_save_42 ?_
    refine lv_iload_n hx hb dX6_save_45 rfl (lv_at hl 1 rfl) ?_
    refine m_topI (((t.toNat : Nat) : Int)) (by omega) ?_
    refine m_iconst 1 hx hb dX6_save_46 rfl ?_
    refine m_zast hx hb hK hH hA (k := 71) (by omega) e71 (t.toNat) (by omega) (by omega) (by decide) m_nz1 dX6_save_47 (fun H locs σ_11 e71 hq_12 hH => ?_)
    have eM6 : σ_11 (65) = .inr (6, [.int (oI (0)), .ref (ad (66)), .int (oI (((si : Nat) : Int))), .ref (ad (67)), .ref (ad (68)), .ref (ad (69)), .int (oI (((ac6 : Nat) : Int))), .ref (ad (70)), .ref (ad (71)), .ref (ad (72)), .ref (ad (73)), .ref (ad (74)), .int (oI (((spo : Nat) : Int))), .int (oI (((ou6 : Nat) : Int)))]) := (hq_12 _ (by decide)).trans eM6
    have e67 : σ_11 (67) = oAI cT 171 f := (hq_12 _ (by decide)).trans e67
    have e70 : σ_11 (70) = oAI cT 342 f5 := (hq_12 _ (by decide)).trans e70
    have hf : ∀ q : Nat, q ≠ 65 → q ≠ 70 → q ≠ 71 → σ_11 q = σ q := fun q n0 n1 n2 => (hq_12 q n2).trans (hf q n0 n1 n2)
    refine lv_aload_n hx hb dX6_save_48 rfl (lv_at hl 0 rfl) ?_
    refine gf_X6_now hx hb hts hown hK hH (k := 65) (by omega) eM6 dX6_save_49 ?_
    refine m_iconst 0 hx hb dX6_save_52 rfl ?_
    refine m_iald hx hb hK hH (k := 67) (by omega) e67 (0) (by omega) (by omega) (by decide) dX6_save_53 ?_
    refine m_topI (((n : Nat) : Int)) (hp.1) ?_
    exact m_iret hx hb hlk hrt hH (m_ni _) dX6_save_54 ⟨((n : Nat) : Int), 0, f5, (va_up kz t.toNat 1), rfl, (Or.inl ⟨by omega, rfl, rfl, fun k hk => hc1 k hk, fun k hk => hc2 k hk, rfl⟩), eM6, e70, e71, hf⟩
  · refine m_if_eq 15 hx hb dX6_save_8 (by decide) (by omega) (fun h_13 => ?_) (fun h_13 => absurd h_13 (by omega))
    refine m_iconst 1 hx hb dX6_save_15 rfl ?_
    refine m_callVi hx hb hml hown hts hK hH hl (rest := []) cw_X6_111 (c6_ref1 hA 1 si ac6 spo ou6 rf (by first | assumption | omega) (by first | assumption | omega) eM6) ⟨Nat.le_of_ble_eq_true rfl, Nat.le_of_ble_eq_true rfl⟩ ⟨Nat.le_of_ble_eq_true rfl, Nat.le_of_ble_eq_true rfl⟩ rfl (k := 65) (by omega) eM6 rfl rfl (Nat.le_of_ble_eq_true rfl) dX6_save_16 (fun r_17 σ_14 H locs hp_15 hH => ?_)
    obtain ⟨rfl, eM6, hq_16⟩ := hp_15
    have e67 : σ_14 (67) = oAI cT 171 f := (hq_16 _ (by decide)).trans e67
    have e70 : σ_14 (70) = oAI cT 342 fk := (hq_16 _ (by decide)).trans e70
    have e71 : σ_14 (71) = oAZ cT 2 kz := (hq_16 _ (by decide)).trans e71
    have hf : ∀ q : Nat, q ≠ 65 → q ≠ 70 → q ≠ 71 → σ_14 q = σ q := fun q n0 n1 n2 => (hq_16 q n0).trans (hf q n0 n1 n2)
    refine m_if_eq 24 hx hb dX6_save_19 (by decide) (by omega) (fun h_18 => absurd h_18 (by omega)) (fun h_18 => ?_)
    refine m_iconst 0 hx hb dX6_save_22 rfl ?_
    exact m_iret hx hb hlk hrt hH (m_ni _) dX6_save_23 ⟨0, 1, fk, kz, rfl, (Or.inr ⟨by omega, rfl, rfl, rfl⟩), eM6, e70, e71, hf⟩
set_option maxHeartbeats 4000000 in
set_option maxRecDepth 100000 in
theorem c6_restore {l : Launch} {D : va_G} {cT : Nat → ClassId} {N b0 : Nat} {ad : Nat → Nat} (hA : oAd b0 N ad) {σ : Nat → va_E} (t : Int) (si ac6 spo ou6 : Nat) (rf : Int) (f fk kz : Nat → Int) (hN : 76 ≤ N) (hkz : ∀ i : Nat, i < 2 → kz i = 0 ∨ kz i = 1) (hbt : -2147483648 ≤ t ∧ t < 2147483648) (eM6 : σ (65) = .inr (6, [.int (oI (rf)), .ref (ad (66)), .int (oI (((si : Nat) : Int))), .ref (ad (67)), .ref (ad (68)), .ref (ad (69)), .int (oI (((ac6 : Nat) : Int))), .ref (ad (70)), .ref (ad (71)), .ref (ad (72)), .ref (ad (73)), .ref (ad (74)), .int (oI (((spo : Nat) : Int))), .int (oI (((ou6 : Nat) : Int)))])) (e67 : σ (67) = oAI cT 171 f) (e70 : σ (70) = oAI cT 342 fk) (e71 : σ (71) = oAZ cT 2 kz) :
    oCi l D cT N ad b0 yX6_restore cX6_restore 2 (some .int) 1 25 [.ref (ad (65)), .int (oI (t))] σ (fun rr uu => ∃ v9 : Int, ∃ r9 : Int, ∃ ac2 : Nat, ∃ g7 : Nat → Int, rr = oI (v9) ∧ (((t = 0 ∨ t = 1) ∧ kz t.toNat = 1 ∧ r9 = 0 ∧ v9 = g7 0 ∧ ac2 = 0 ∧ ∀ k : Nat, k < 171 → g7 k = fk (k + 171 * t.toNat)) ∨ (ac2 = ac6 ∧ g7 = f ∧ ((r9 = 1 ∧ ¬ (t = 0 ∨ t = 1)) ∨ (r9 = 2 ∧ (t = 0 ∨ t = 1) ∧ kz t.toNat = 0)))) ∧ uu (65) = .inr (6, [.int (oI (r9)), .ref (ad (66)), .int (oI (((si : Nat) : Int))), .ref (ad (67)), .ref (ad (68)), .ref (ad (69)), .int (oI (((ac2 : Nat) : Int))), .ref (ad (70)), .ref (ad (71)), .ref (ad (72)), .ref (ad (73)), .ref (ad (74)), .int (oI (((spo : Nat) : Int))), .int (oI (((ou6 : Nat) : Int)))]) ∧ uu (67) = oAI cT 171 g7 ∧ (∀ q : Nat, q ≠ 65 → q ≠ 67 → uu q = σ q)) := by
  refine m_start (cc := cX6_restore) (by decide) (Nat.le_of_ble_eq_true rfl) rfl ?_
  intro Pp Ee Ss Mm Bb Me Cc Ar ls hx hb hml hown hlk hrt hts hK hH hl
  have hown : Ss.vm.findClass RX6 = some Mm.cls := hown
  have hl : lv_has ls 2 [(0, .ref (ad (65))), (1, .int (oI (t)))] := hl
  have hf : ∀ q : Nat, q ≠ 65 → q ≠ 67 → σ q = σ q := fun q _ _ => rfl
  refine lv_aload_n hx hb dX6_restore_0 rfl (lv_at hl 0 rfl) ?_
  refine lv_iload_n hx hb dX6_restore_1 rfl (lv_at hl 1 rfl) ?_
  refine m_i2l hx hb dX6_restore_2 (by omega) ?_
  refine m_lconst 0 hx hb dX6_restore_3 rfl ?_
  refine m_lconst 1 hx hb dX6_restore_4 rfl ?_
  refine m_pSb hx hb hml hown hts hK hH hl (rest := [.ref (ad (65))]) cw_X6_46 rfl (c6_in hA t 0 1 (by first | assumption | omega) (by first | assumption | omega) (by first | assumption | omega) ) ⟨Nat.le_of_ble_eq_true rfl, Nat.le_of_ble_eq_true rfl⟩ ⟨Nat.le_of_ble_eq_true rfl, Nat.le_of_ble_eq_true rfl⟩ rfl rfl (Nat.le_of_ble_eq_true rfl) dX6_restore_5 (fun hT H locs hH => ?_) (fun hT H locs hH => ?_)
  · refine m_if_ne 15 hx hb dX6_restore_8 (by decide) (by omega) (fun h_1 => ?_) (fun h_1 => absurd h_1 (by omega))
    refine lv_aload_n hx hb dX6_restore_15 rfl (lv_at hl 0 rfl) ?_
    refine gf_X6_isKept hx hb hts hown hK hH (k := 65) (by omega) eM6 dX6_restore_16 ?_
    refine lv_iload_n hx hb dX6_restore_19 rfl (lv_at hl 1 rfl) ?_
    refine m_topI (((t.toNat : Nat) : Int)) (by omega) ?_
    refine m_zald hx hb hK hH (k := 71) (by omega) e71 (t.toNat) (by omega) (by omega) (by decide) dX6_restore_20 ?_
    have hkt := hkz t.toNat (by omega)
    refine m_if_ne 28 hx hb dX6_restore_21 (by decide) (by omega) (fun h_2 => ?_) (fun h_2 => ?_)
    · refine m_iconst 0 hx hb dX6_restore_28 rfl ?_
      refine m_callVi hx hb hml hown hts hK hH hl (rest := []) cw_X6_111 (c6_ref0 hA si ac6 spo ou6 rf (by first | assumption | omega) eM6) ⟨Nat.le_of_ble_eq_true rfl, Nat.le_of_ble_eq_true rfl⟩ ⟨Nat.le_of_ble_eq_true rfl, Nat.le_of_ble_eq_true rfl⟩ rfl (k := 65) (by omega) eM6 rfl rfl (Nat.le_of_ble_eq_true rfl) dX6_restore_29 (fun r_6 σ_3 H locs hp_4 hH => ?_)
      obtain ⟨rfl, eM6, hq_5⟩ := hp_4
      have e67 : σ_3 (67) = oAI cT 171 f := (hq_5 _ (by decide)).trans e67
      have e70 : σ_3 (70) = oAI cT 342 fk := (hq_5 _ (by decide)).trans e70
      have e71 : σ_3 (71) = oAZ cT 2 kz := (hq_5 _ (by decide)).trans e71
      have hf : ∀ q : Nat, q ≠ 65 → q ≠ 67 → σ_3 q = σ q := fun q n0 n1 => (hq_5 q n0).trans (hf q n0 n1)
      refine m_if_eq 37 hx hb dX6_restore_32 (by decide) (by omega) (fun h_7 => ?_) (fun h_7 => absurd h_7 (by omega))
      refine lv_aload_n hx hb dX6_restore_37 rfl (lv_at hl 0 rfl) ?_
      refine gf_X6_kept hx hb hts hown hK hH (k := 65) (by omega) eM6 dX6_restore_38 ?_
      refine m_sipush 171 hx hb dX6_restore_41 (by decide) ?_
      refine lv_iload_n hx hb dX6_restore_44 rfl (lv_at hl 1 rfl) ?_
      refine m_topI (((t.toNat : Nat) : Int)) (by omega) ?_
      refine m_imul (171 * ((t.toNat : Nat) : Int)) hx hb dX6_restore_45 (by omega) ?_
      refine lv_aload_n hx hb dX6_restore_46 rfl (lv_at hl 0 rfl) ?_
      refine gf_X6_now hx hb hts hown hK hH (k := 65) (by omega) eM6 dX6_restore_47 ?_
      refine m_iconst 0 hx hb dX6_restore_50 rfl ?_
      refine m_callSv hx hb hml hown hts hK hH hl (rest := []) cw_X6_163 rfl (c6_copyk1 hA 70 67 (171 * t.toNat) 0 fk f (by first | assumption | omega) (by first | assumption | omega) (by first | assumption | omega) (by first | assumption | omega) (by first | assumption | omega) e70 e67) ⟨Nat.le_of_ble_eq_true rfl, Nat.le_of_ble_eq_true rfl⟩ ⟨Nat.le_of_ble_eq_true rfl, Nat.le_of_ble_eq_true rfl⟩ rfl rfl (Nat.le_of_ble_eq_true rfl) dX6_restore_51 (fun σ_8 H locs hp_9 hH => ?_)
      obtain ⟨f5, hc1, f_12, e67, hq_10⟩ := hp_9
      have eM6 : σ_8 (65) = .inr (6, [.int (oI (0)), .ref (ad (66)), .int (oI (((si : Nat) : Int))), .ref (ad (67)), .ref (ad (68)), .ref (ad (69)), .int (oI (((ac6 : Nat) : Int))), .ref (ad (70)), .ref (ad (71)), .ref (ad (72)), .ref (ad (73)), .ref (ad (74)), .int (oI (((spo : Nat) : Int))), .int (oI (((ou6 : Nat) : Int)))]) := (hq_10 _ (by decide)).trans eM6
      have e70 : σ_8 (70) = oAI cT 342 fk := (hq_10 _ (by decide)).trans e70
      have e71 : σ_8 (71) = oAZ cT 2 kz := (hq_10 _ (by decide)).trans e71
      have hf : ∀ q : Nat, q ≠ 65 → q ≠ 67 → σ_8 q = σ q := fun q n0 n1 => (hq_10 q n1).trans (hf q n0 n1)
      refine lv_aload_n hx hb dX6_restore_54 rfl (lv_at hl 0 rfl) ?_
      refine m_iconst 0 hx hb dX6_restore_55 rfl ?_
      refine pf_X6_acts hx hb hts hown hK hH hA (k := 65) (by omega) eM6 dX6_restore_56 (fun H locs σ_13 eM6 hq_14 hH => ?_)
      have e67 : σ_13 (67) = oAI cT 171 f5 := (hq_14 _ (by decide)).trans e67
      have e70 : σ_13 (70) = oAI cT 342 fk := (hq_14 _ (by decide)).trans e70
      have e71 : σ_13 (71) = oAZ cT 2 kz := (hq_14 _ (by decide)).trans e71
      have hf : ∀ q : Nat, q ≠ 65 → q ≠ 67 → σ_13 q = σ q := fun q n0 n1 => (hq_14 q n0).trans (hf q n0 n1)
      refine lv_aload_n hx hb dX6_restore_59 rfl (lv_at hl 0 rfl) ?_
      refine gf_X6_now hx hb hts hown hK hH (k := 65) (by omega) eM6 dX6_restore_60 ?_
      refine m_iconst 0 hx hb dX6_restore_63 rfl ?_
      refine m_iald hx hb hK hH (k := 67) (by omega) e67 (0) (by omega) (by omega) (by decide) dX6_restore_64 ?_
      exact m_iret hx hb hlk hrt hH (m_ni _) dX6_restore_65 ⟨(f5 0), 0, 0, f5, rfl, (Or.inl ⟨by omega, by omega, rfl, rfl, rfl, fun k hk => hc1 k hk⟩), eM6, e67, hf⟩
    · refine m_iconst 2 hx hb dX6_restore_24 rfl ?_
      refine lv_goto (tgt := 29) hx hb dX6_restore_25 (by decide) ?_
      refine m_callVi hx hb hml hown hts hK hH hl (rest := []) cw_X6_111 (c6_ref1 hA 2 si ac6 spo ou6 rf (by first | assumption | omega) (by first | assumption | omega) eM6) ⟨Nat.le_of_ble_eq_true rfl, Nat.le_of_ble_eq_true rfl⟩ ⟨Nat.le_of_ble_eq_true rfl, Nat.le_of_ble_eq_true rfl⟩ rfl (k := 65) (by omega) eM6 rfl rfl (Nat.le_of_ble_eq_true rfl) dX6_restore_29 (fun r_18 σ_15 H locs hp_16 hH => ?_)
      obtain ⟨rfl, eM6, hq_17⟩ := hp_16
      have e67 : σ_15 (67) = oAI cT 171 f := (hq_17 _ (by decide)).trans e67
      have e70 : σ_15 (70) = oAI cT 342 fk := (hq_17 _ (by decide)).trans e70
      have e71 : σ_15 (71) = oAZ cT 2 kz := (hq_17 _ (by decide)).trans e71
      have hf : ∀ q : Nat, q ≠ 65 → q ≠ 67 → σ_15 q = σ q := fun q n0 n1 => (hq_17 q n0).trans (hf q n0 n1)
      refine m_if_eq 37 hx hb dX6_restore_32 (by decide) (by omega) (fun h_19 => absurd h_19 (by omega)) (fun h_19 => ?_)
      refine m_iconst 0 hx hb dX6_restore_35 rfl ?_
      exact m_iret hx hb hlk hrt hH (m_ni _) dX6_restore_36 ⟨0, 2, ac6, f, rfl, (Or.inr ⟨rfl, rfl, Or.inr ⟨rfl, by omega, by omega⟩⟩), eM6, e67, hf⟩
  · refine m_if_ne 15 hx hb dX6_restore_8 (by decide) (by omega) (fun h_20 => absurd h_20 (by omega)) (fun h_20 => ?_)
    refine m_iconst 1 hx hb dX6_restore_11 rfl ?_
    refine lv_goto (tgt := 29) hx hb dX6_restore_12 (by decide) ?_
    refine m_callVi hx hb hml hown hts hK hH hl (rest := []) cw_X6_111 (c6_ref1 hA 1 si ac6 spo ou6 rf (by first | assumption | omega) (by first | assumption | omega) eM6) ⟨Nat.le_of_ble_eq_true rfl, Nat.le_of_ble_eq_true rfl⟩ ⟨Nat.le_of_ble_eq_true rfl, Nat.le_of_ble_eq_true rfl⟩ rfl (k := 65) (by omega) eM6 rfl rfl (Nat.le_of_ble_eq_true rfl) dX6_restore_29 (fun r_24 σ_21 H locs hp_22 hH => ?_)
    obtain ⟨rfl, eM6, hq_23⟩ := hp_22
    have e67 : σ_21 (67) = oAI cT 171 f := (hq_23 _ (by decide)).trans e67
    have e70 : σ_21 (70) = oAI cT 342 fk := (hq_23 _ (by decide)).trans e70
    have e71 : σ_21 (71) = oAZ cT 2 kz := (hq_23 _ (by decide)).trans e71
    have hf : ∀ q : Nat, q ≠ 65 → q ≠ 67 → σ_21 q = σ q := fun q n0 n1 => (hq_23 q n0).trans (hf q n0 n1)
    refine m_if_eq 37 hx hb dX6_restore_32 (by decide) (by omega) (fun h_25 => absurd h_25 (by omega)) (fun h_25 => ?_)
    refine m_iconst 0 hx hb dX6_restore_35 rfl ?_
    exact m_iret hx hb hlk hrt hH (m_ni _) dX6_restore_36 ⟨0, 1, ac6, f, rfl, (Or.inr ⟨rfl, rfl, Or.inl ⟨rfl, by omega⟩⟩), eM6, e67, hf⟩
