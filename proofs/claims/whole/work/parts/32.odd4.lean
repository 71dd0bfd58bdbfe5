theorem oNm_le {T : Nat → Int} {z lo hi n p v : Nat} : -1 ≤ (oNm T z lo hi n p v).1 ∧ (oNm T z lo hi n p v).1 < (p : Int) + (n : Int) + 1 := by
  have := oNm_f (T := T) (z := z) (lo := lo) (hi := hi) (n := n) (p := p) (v := v)
  omega
theorem oCm_b {T : Nat → Int} {z p : Nat} : -1 ≤ (oCm T z p).1 ∧ (oCm T z p).1 ≤ (p : Int) + 4 := by
  unfold oCm
  split
  · have := oNm_le (T := T) (z := z) (lo := 2) (hi := 40) (n := 2) (p := p + 1) (v := 0); dsimp only; omega
  · split
    · split
      · have := oNm_le (T := T) (z := z) (lo := 0) (hi := 3) (n := 1) (p := p + 1) (v := 0); dsimp only; omega
      · rename_i h
        have h0 := oNm_at (T := T) (z := z) (lo := 0) (hi := 3) (n := 1) (p := p + 1) (v := 0) (Nat.zero_le _) (fun e => by omega) (by omega)
        have := oNm_le (T := T) (z := z) (lo := 0) (hi := 40) (n := 2) (p := (oNm T z 0 3 1 (p + 1) 0).2.1) (v := 0); dsimp only; omega
    · split
      · split
        · have := oNm_le (T := T) (z := z) (lo := 0) (hi := 3) (n := 1) (p := p + 1) (v := 0); dsimp only; omega
        · rename_i h
          have h0 := oNm_at (T := T) (z := z) (lo := 0) (hi := 3) (n := 1) (p := p + 1) (v := 0) (Nat.zero_le _) (fun e => by omega) (by omega)
          have := oNm_le (T := T) (z := z) (lo := 2) (hi := 40) (n := 2) (p := (oNm T z 0 3 1 (p + 1) 0).2.1) (v := 0); dsimp only; omega
      · split
        · have := oNm_le (T := T) (z := z) (lo := 0) (hi := 3) (n := 1) (p := p + 1) (v := 0); dsimp only; omega
        · split
          · have := oNm_le (T := T) (z := z) (lo := 1) (hi := 6) (n := 1) (p := p + 1) (v := 0); dsimp only; omega
          · split
            · have := oNm_le (T := T) (z := z) (lo := 10) (hi := 150) (n := 3) (p := p + 1) (v := 0); dsimp only; omega
            · dsimp only; omega
theorem oScan_b {T : Nat → Int} {z : Nat} : ∀ (m p : Nat), p ≤ z + 1 → -1 ≤ oScan T z m p ∧ oScan T z m p ≤ (z : Int) + 4
  | 0, p, _ => by show -1 ≤ (-1 : Int) ∧ (-1 : Int) ≤ _; omega
  | m + 1, p, hp => by
    by_cases h : z ≤ p
    · rw [oScan_end h]; omega
    · by_cases h2 : (oCm T z p).1 = -1
      · rw [oScan_go h h2]
        exact oScan_b m _ (by have := (oCm_ok h2).2.1; omega)
      · rw [oScan_bad h h2]
        have := oCm_b (T := T) (z := z) (p := p)
        omega
theorem oErr_b {T : Nat → Int} {z : Nat} (hz : z ≤ 120) : -1 ≤ oErr T z ∧ oErr T z ≤ 200 := by
  unfold oErr
  split
  · omega
  · have := oScan_b (T := T) (z := z) 120 1 (by omega)
    omega
set_option maxHeartbeats 4000000 in
set_option maxRecDepth 100000 in
theorem c5_undo {l : Launch} {D : va_G} {cT : Nat → ClassId} {N b0 : Nat} {ad : Nat → Nat} (hA : oAd b0 N ad) {σ : Nat → va_E} (kb nx ms n a g : Nat) (sz w : Nat → Nat) (mn ma mg : Nat → Nat) (msz mw : Nat → Nat → Nat) (ff sf : Int) (hl0 : l.stackTraces = false) (hN : 76 ≤ N) (hkb : kb < 14) (hkn : (0 < nx ∧ kb + 1 = nx) ∨ (nx = 0 ∧ kb = 13)) (hms : ms ≤ 14) (hm : ∀ i : Nat, i < 14 → σ (3 * i + 15) = .inr (4, [.ref (ad (3 * i + 16)), .ref (ad (3 * i + 17)), .int (oI ((mn i : Nat) : Int)), .int (oI ((ma i : Nat) : Int)), .int (oI ((mg i : Nat) : Int))]) ∧ σ (3 * i + 16) = oAN cT 4 (msz i) ∧ σ (3 * i + 17) = oAJ cT 4 (mw i)) (hmn4 : mn kb ≤ 4) (eO : σ (0) = .inr (5, [.ref (ad (1)), .ref (ad (4)), .ref (ad (7)), .ref (ad (10)), .int (oI (ff)), .int (oI (sf)), .ref (ad (13)), .ref (ad (57)), .ref (ad (59)), .ref (ad (64))])) (e0 : σ (1) = .inr (4, [.ref (ad (2)), .ref (ad (3)), .int (oI (((n : Nat) : Int))), .int (oI (((a : Nat) : Int))), .int (oI (((g : Nat) : Int)))])) (e1 : σ (2) = oAN cT 4 sz) (e2 : σ (3) = oAJ cT 4 w) (eM : σ (13) = .inr (2, [.ref (ad (14)), .int (oI (((nx : Nat) : Int))), .int (oI (((ms : Nat) : Int)))])) (eA : σ (14) = oAO cT 14 (oMem ad)) :
    oXi l D cT N ad b0 yX5_undo cX5_undo 1 (some .int) 6 90 1 [.ref (ad (0))] σ (fun rr uu => ∃ sz1 : Nat → Nat, ∃ w1 : Nat → Nat, rr = oI (((ms - 1 : Nat) : Int)) ∧ (1 ≤ ms) ∧ (∀ r : Nat, r < mn kb → sz1 r = msz kb r ∧ w1 r = mw kb r) ∧ uu (13) = .inr (2, [.ref (ad (14)), .int (oI (((kb : Nat) : Int))), .int (oI (((ms - 1 : Nat) : Int)))]) ∧ uu (1) = .inr (4, [.ref (ad (2)), .ref (ad (3)), .int (oI (((mn kb : Nat) : Int))), .int (oI (((ma kb : Nat) : Int))), .int (oI (((mg kb : Nat) : Int)))]) ∧ uu (2) = oAN cT 4 sz1 ∧ uu (3) = oAJ cT 4 w1 ∧ (∀ q : Nat, q ≠ 13 → q ≠ 1 → q ≠ 2 → q ≠ 3 → uu q = σ q)) (fun E uu => (E = oIS ∧ ms = 0) ∧ uu = σ) := by
  refine m_startX (cc := cX5_undo) (by decide) (Nat.le_of_ble_eq_true rfl) rfl ?_
  intro Pp Ee Ss Mm Bb Me Cc Ar ls hx hb hml hown hlk hrt hts hK hH hl hXT hnt
  have hown : Ss.vm.findClass RX5 = some Mm.cls := hown
  have hl : lv_has ls 1 [(0, .ref (ad (0)))] := hl
  have hf : ∀ q : Nat, q ≠ 13 → q ≠ 1 → q ≠ 2 → q ≠ 3 → σ q = σ q := fun q _ _ _ _ => rfl
  refine lv_aload_n hx hb dX5_undo_0 rfl (lv_at hl 0 rfl) ?_
  refine gf_X5_memory hx hb hts hown hK hH (k := 0) (by omega) eO dX5_undo_1 ?_
  refine lv_aload_n hx hb dX5_undo_4 rfl (lv_at hl 0 rfl) ?_
  refine gf_X5_present hx hb hts hown hK hH (k := 0) (by omega) eO dX5_undo_5 ?_
  by_cases hz9 : ms = 0
  · refine m_pVi hx hb hml hown hts hK hH hl (rest := []) cw_X5_201 (c2_giveBack0 hA nx ms (by first | assumption | omega) (by first | assumption | omega) eM) ⟨Nat.le_of_ble_eq_true rfl, Nat.le_of_ble_eq_true rfl⟩ ⟨Nat.le_of_ble_eq_true rfl, Nat.le_of_ble_eq_true rfl⟩ rfl (k := 13) (by omega) eM rfl rfl (Nat.le_of_ble_eq_true rfl) dX5_undo_8 (fun H locs hH => ?_)
    refine m_if_ne 24 hx hb dX5_undo_11 (by decide) (by omega) (fun h_1 => absurd h_1 (by omega)) (fun h_1 => ?_)
    exact m_throw (text := "no state is remembered") hx hb hl0 hml hown hts hK hXT hH hl hlk hnt oth_1 (by decide) dX5_undo_14 dX5_undo_17 dX5_undo_18 dX5_undo_20 dX5_undo_23 ⟨Nat.le_of_ble_eq_true rfl, Nat.le_of_ble_eq_true rfl⟩ (Nat.le_of_ble_eq_true rfl) ⟨Nat.le_of_ble_eq_true rfl, Nat.le_of_ble_eq_true rfl⟩ ⟨Nat.le_of_ble_eq_true rfl, Nat.le_of_ble_eq_true rfl⟩ (⟨⟨rfl, by omega⟩, rfl⟩)
  · refine m_callVi hx hb hml hown hts hK hH hl (rest := []) cw_X5_201 (c2_giveBack hA kb nx ms n a g sz w mn ma mg msz mw (by first | assumption | omega) (by first | assumption | omega) (by first | assumption | omega) (by first | assumption | omega) (by first | assumption | omega) (by first | assumption | omega) eM eA e0 e1 e2) ⟨Nat.le_of_ble_eq_true rfl, Nat.le_of_ble_eq_true rfl⟩ ⟨Nat.le_of_ble_eq_true rfl, Nat.le_of_ble_eq_true rfl⟩ rfl (k := 13) (by omega) eM rfl rfl (Nat.le_of_ble_eq_true rfl) dX5_undo_8 (fun r_5 σ_2 H locs hp_3 hH => ?_)
    obtain ⟨sz8, w8, rfl, hsw, eM, e0, e1, e2, hq_4⟩ := hp_3
    have eO : σ_2 (0) = .inr (5, [.ref (ad (1)), .ref (ad (4)), .ref (ad (7)), .ref (ad (10)), .int (oI (ff)), .int (oI (sf)), .ref (ad (13)), .ref (ad (57)), .ref (ad (59)), .ref (ad (64))]) := (hq_4 _ (by decide) (by decide) (by decide) (by decide)).trans eO
    have eA : σ_2 (14) = oAO cT 14 (oMem ad) := (hq_4 _ (by decide) (by decide) (by decide) (by decide)).trans eA
    have hf : ∀ q : Nat, q ≠ 13 → q ≠ 1 → q ≠ 2 → q ≠ 3 → σ_2 q = σ q := fun q n0 n1 n2 n3 => (hq_4 q n0 n1 n2 n3).trans (hf q n0 n1 n2 n3)
    refine m_if_ne 24 hx hb dX5_undo_11 (by decide) (by omega) (fun h_6 => ?_) (fun h_6 => absurd h_6 (by omega))
    refine lv_aload_n hx hb dX5_undo_24 rfl (lv_at hl 0 rfl) ?_
    refine gf_X5_memory hx hb hts hown hK hH (k := 0) (by omega) eO dX5_undo_25 ?_
    refine m_pVi hx hb hml hown hts hK hH hl (rest := []) cw_X5_207 (c2_size hA kb (ms - 1) (by first | assumption | omega) eM) ⟨Nat.le_of_ble_eq_true rfl, Nat.le_of_ble_eq_true rfl⟩ ⟨Nat.le_of_ble_eq_true rfl, Nat.le_of_ble_eq_true rfl⟩ rfl (k := 13) (by omega) eM rfl rfl (Nat.le_of_ble_eq_true rfl) dX5_undo_28 (fun H locs hH => ?_)
    exact m_iretX hx hb hlk hrt hH ⟨Nat.le_of_ble_eq_true rfl, Nat.le_of_ble_eq_true rfl⟩ (m_ni _) dX5_undo_31 ⟨sz8, w8, rfl, (by omega), hsw, eM, e0, e1, e2, hf⟩
set_option maxHeartbeats 4000000 in
set_option maxRecDepth 100000 in
theorem c5_load {l : Launch} {D : va_G} {cT : Nat → ClassId} {N b0 : Nat} {ad : Nat → Nat} (hA : oAd b0 N ad) {σ : Nat → va_E} (T : Nat → Int) (z p ac x1 x2 : Nat) (f on : Int) (n a g nx ms : Nat) (sz w : Nat → Nat) (ff sf : Int) (hl0 : l.stackTraces = false) (hN : 76 ≤ N) (hT : ∀ i : Nat, i < z → 0 ≤ T i ∧ T i ≤ 255) (hz : z ≤ 120) (hp : p ≤ 150) (hf0 : -2147483648 ≤ f ∧ f < 2147483648) (eO : σ (0) = .inr (5, [.ref (ad (1)), .ref (ad (4)), .ref (ad (7)), .ref (ad (10)), .int (oI (ff)), .int (oI (sf)), .ref (ad (13)), .ref (ad (57)), .ref (ad (59)), .ref (ad (64))])) (e57 : σ (57) = .inr (0, [.ref (ad (58)), .int (oI (((z : Nat) : Int))), .int (oI (((p : Nat) : Int))), .int (oI (f)), .int (oI (((ac : Nat) : Int))), .int (oI (((x1 : Nat) : Int))), .int (oI (((x2 : Nat) : Int))), .int (oI (on))])) (e58 : σ (58) = oAC cT 120 T) (e0 : σ (1) = .inr (4, [.ref (ad (2)), .ref (ad (3)), .int (oI (((n : Nat) : Int))), .int (oI (((a : Nat) : Int))), .int (oI (((g : Nat) : Int)))])) (e1 : σ (2) = oAN cT 4 sz) (e2 : σ (3) = oAJ cT 4 w) (eM : σ (13) = .inr (2, [.ref (ad (14)), .int (oI (((nx : Nat) : Int))), .int (oI (((ms : Nat) : Int)))])) :
    oXi l D cT N ad b0 yX5_load cX5_load 1 (some .int) 6 139 1 [.ref (ad (0))] σ (fun rr uu => ∃ ou : Nat, ∃ n1 : Nat, ∃ a1 : Nat, ∃ g1 : Nat, ∃ sz1 : Nat → Nat, ∃ w1 : Nat → Nat, ∃ p2 : Nat, ∃ a2 : Nat, ∃ y1 : Nat, ∃ y2 : Nat, ∃ o2 : Int, rr = oI (((ou : Nat) : Int)) ∧ (oErr T z = -1) ∧ (oRunC T z 120 1 0 0 2 40 sz w = (ou, n1, a1, g1, sz1, w1)) ∧ (oWf n1 sz1 w1) ∧ (oAg a1 g1) ∧ (p2 ≤ 150) ∧ uu (57) = .inr (0, [.ref (ad (58)), .int (oI (((z : Nat) : Int))), .int (oI (((p2 : Nat) : Int))), .int (oI ((-1))), .int (oI (((a2 : Nat) : Int))), .int (oI (((y1 : Nat) : Int))), .int (oI (((y2 : Nat) : Int))), .int (oI (o2))]) ∧ uu (1) = .inr (4, [.ref (ad (2)), .ref (ad (3)), .int (oI (((n1 : Nat) : Int))), .int (oI (((a1 : Nat) : Int))), .int (oI (((g1 : Nat) : Int)))]) ∧ uu (2) = oAN cT 4 sz1 ∧ uu (3) = oAJ cT 4 w1 ∧ uu (13) = .inr (2, [.ref (ad (14)), .int (oI (((nx : Nat) : Int))), .int (oI (0))]) ∧ uu (0) = .inr (5, [.ref (ad (1)), .ref (ad (4)), .ref (ad (7)), .ref (ad (10)), .int (oI (0)), .int (oI (0)), .ref (ad (13)), .ref (ad (57)), .ref (ad (59)), .ref (ad (64))]) ∧ (∀ q : Nat, q ≠ 57 → q ≠ 1 → q ≠ 2 → q ≠ 3 → q ≠ 13 → q ≠ 0 → uu q = σ q)) (fun E uu => (E = oIS ∧ ¬ oErr T z = -1) ∧ ∃ p2 a2 y1 y2 : Nat, ∃ f2 o2 : Int, p2 ≤ 150 ∧ uu (57) = .inr (0, [.ref (ad (58)), .int (oI (((z : Nat) : Int))), .int (oI (((p2 : Nat) : Int))), .int (oI (f2)), .int (oI (((a2 : Nat) : Int))), .int (oI (((y1 : Nat) : Int))), .int (oI (((y2 : Nat) : Int))), .int (oI (o2))]) ∧ ∀ q : Nat, q ≠ 57 → uu q = σ q) := by
  refine m_startX (cc := cX5_load) (by decide) (Nat.le_of_ble_eq_true rfl) rfl ?_
  intro Pp Ee Ss Mm Bb Me Cc Ar ls hx hb hml hown hlk hrt hts hK hH hl hXT hnt
  have hown : Ss.vm.findClass RX5 = some Mm.cls := hown
  have heb : oEq2 (-1 ≤ oErr T z ∧ oErr T z ≤ 200) := oErr_b hz
  have hl : lv_has ls 1 [(0, .ref (ad (0)))] := hl
  have hf : ∀ q : Nat, q ≠ 57 → q ≠ 1 → q ≠ 2 → q ≠ 3 → q ≠ 13 → q ≠ 0 → σ q = σ q := fun q _ _ _ _ _ _ => rfl
  refine lv_aload_n hx hb dX5_load_0 rfl (lv_at hl 0 rfl) ?_
  refine gf_X5_text hx hb hts hown hK hH (k := 0) (by omega) eO dX5_load_1 ?_
  refine m_callVi hx hb hml hown hts hK hH hl (rest := []) cw_X5_76 (c0_firstFault hA T z p ac x1 x2 f on (by first | assumption | omega) (by first | assumption | omega) (by first | assumption | omega) (by first | assumption | omega) (by first | assumption | omega) e57 e58) ⟨Nat.le_of_ble_eq_true rfl, Nat.le_of_ble_eq_true rfl⟩ ⟨Nat.le_of_ble_eq_true rfl, Nat.le_of_ble_eq_true rfl⟩ rfl (k := 57) (by omega) e57 rfl rfl (Nat.le_of_ble_eq_true rfl) dX5_load_4 (fun r_4 σ_1 H locs hp_2 hH => ?_)
  obtain ⟨p3, a3, z1, z2, o3, rfl, hp3, e57, hq_3⟩ := hp_2
  have eO : σ_1 (0) = .inr (5, [.ref (ad (1)), .ref (ad (4)), .ref (ad (7)), .ref (ad (10)), .int (oI (ff)), .int (oI (sf)), .ref (ad (13)), .ref (ad (57)), .ref (ad (59)), .ref (ad (64))]) := (hq_3 _ (by decide)).trans eO
  have e58 : σ_1 (58) = oAC cT 120 T := (hq_3 _ (by decide)).trans e58
  have e0 : σ_1 (1) = .inr (4, [.ref (ad (2)), .ref (ad (3)), .int (oI (((n : Nat) : Int))), .int (oI (((a : Nat) : Int))), .int (oI (((g : Nat) : Int)))]) := (hq_3 _ (by decide)).trans e0
  have e1 : σ_1 (2) = oAN cT 4 sz := (hq_3 _ (by decide)).trans e1
  have e2 : σ_1 (3) = oAJ cT 4 w := (hq_3 _ (by decide)).trans e2
  have eM : σ_1 (13) = .inr (2, [.ref (ad (14)), .int (oI (((nx : Nat) : Int))), .int (oI (((ms : Nat) : Int)))]) := (hq_3 _ (by decide)).trans eM
  have hf : ∀ q : Nat, q ≠ 57 → q ≠ 1 → q ≠ 2 → q ≠ 3 → q ≠ 13 → q ≠ 0 → σ_1 q = σ q := fun q n0 n1 n2 n3 n4 n5 => (hq_3 q n0).trans (hf q n0 n1 n2 n3 n4 n5)
  have heb : -1 ≤ oErr T z ∧ oErr T z ≤ 200 := heb
  refine m_iconst (-1) hx hb dX5_load_7 rfl ?_
  refine m_icmp_eq 21 hx hb dX5_load_8 (by decide) (by omega) (by omega) (fun her => ?_) (fun her => ?_)
  · refine lv_aload_n hx hb dX5_load_21 rfl (lv_at hl 0 rfl) ?_
    refine gf_X5_present hx hb hts hown hK hH (k := 0) (by omega) eO dX5_load_22 ?_
    refine m_callVv hx hb hml hown hts hK hH hl (rest := []) cw_X5_81 (c4_begin hA 1 n a g sz w (by first | assumption | omega) e0) ⟨Nat.le_of_ble_eq_true rfl, Nat.le_of_ble_eq_true rfl⟩ ⟨Nat.le_of_ble_eq_true rfl, Nat.le_of_ble_eq_true rfl⟩ rfl (k := 1) (by omega) e0 rfl rfl (Nat.le_of_ble_eq_true rfl) dX5_load_25 (fun σ_6 H locs hp_7 hH => ?_)
    obtain ⟨e0, hq_8⟩ := hp_7
    have eO : σ_6 (0) = .inr (5, [.ref (ad (1)), .ref (ad (4)), .ref (ad (7)), .ref (ad (10)), .int (oI (ff)), .int (oI (sf)), .ref (ad (13)), .ref (ad (57)), .ref (ad (59)), .ref (ad (64))]) := (hq_8 _ (by decide)).trans eO
    have e57 : σ_6 (57) = .inr (0, [.ref (ad (58)), .int (oI (((z : Nat) : Int))), .int (oI (((p3 : Nat) : Int))), .int (oI ((oErr T z))), .int (oI (((a3 : Nat) : Int))), .int (oI (((z1 : Nat) : Int))), .int (oI (((z2 : Nat) : Int))), .int (oI (o3))]) := (hq_8 _ (by decide)).trans e57
    have e58 : σ_6 (58) = oAC cT 120 T := (hq_8 _ (by decide)).trans e58
    have e1 : σ_6 (2) = oAN cT 4 sz := (hq_8 _ (by decide)).trans e1
    have e2 : σ_6 (3) = oAJ cT 4 w := (hq_8 _ (by decide)).trans e2
    have eM : σ_6 (13) = .inr (2, [.ref (ad (14)), .int (oI (((nx : Nat) : Int))), .int (oI (((ms : Nat) : Int)))]) := (hq_8 _ (by decide)).trans eM
    have hf : ∀ q : Nat, q ≠ 57 → q ≠ 1 → q ≠ 2 → q ≠ 3 → q ≠ 13 → q ≠ 0 → σ_6 q = σ q := fun q n0 n1 n2 n3 n4 n5 => (hq_8 q n1).trans (hf q n0 n1 n2 n3 n4 n5)
    refine lv_aload_n hx hb dX5_load_28 rfl (lv_at hl 0 rfl) ?_
    refine gf_X5_memory hx hb hts hown hK hH (k := 0) (by omega) eO dX5_load_29 ?_
    refine m_callVv hx hb hml hown hts hK hH hl (rest := []) cw_X5_84 (c2_forget hA nx ms (by first | assumption | omega) eM) ⟨Nat.le_of_ble_eq_true rfl, Nat.le_of_ble_eq_true rfl⟩ ⟨Nat.le_of_ble_eq_true rfl, Nat.le_of_ble_eq_true rfl⟩ rfl (k := 13) (by omega) eM rfl rfl (Nat.le_of_ble_eq_true rfl) dX5_load_32 (fun σ_10 H locs hp_11 hH => ?_)
    obtain ⟨eM, hq_12⟩ := hp_11
    have eO : σ_10 (0) = .inr (5, [.ref (ad (1)), .ref (ad (4)), .ref (ad (7)), .ref (ad (10)), .int (oI (ff)), .int (oI (sf)), .ref (ad (13)), .ref (ad (57)), .ref (ad (59)), .ref (ad (64))]) := (hq_12 _ (by decide)).trans eO
    have e57 : σ_10 (57) = .inr (0, [.ref (ad (58)), .int (oI (((z : Nat) : Int))), .int (oI (((p3 : Nat) : Int))), .int (oI ((oErr T z))), .int (oI (((a3 : Nat) : Int))), .int (oI (((z1 : Nat) : Int))), .int (oI (((z2 : Nat) : Int))), .int (oI (o3))]) := (hq_12 _ (by decide)).trans e57
    have e58 : σ_10 (58) = oAC cT 120 T := (hq_12 _ (by decide)).trans e58
    have e0 : σ_10 (1) = .inr (4, [.ref (ad (2)), .ref (ad (3)), .int (oI (0)), .int (oI (2)), .int (oI (40))]) := (hq_12 _ (by decide)).trans e0
    have e1 : σ_10 (2) = oAN cT 4 sz := (hq_12 _ (by decide)).trans e1
    have e2 : σ_10 (3) = oAJ cT 4 w := (hq_12 _ (by decide)).trans e2
    have hf : ∀ q : Nat, q ≠ 57 → q ≠ 1 → q ≠ 2 → q ≠ 3 → q ≠ 13 → q ≠ 0 → σ_10 q = σ q := fun q n0 n1 n2 n3 n4 n5 => (hq_12 q n4).trans (hf q n0 n1 n2 n3 n4 n5)
    refine lv_aload_n hx hb dX5_load_35 rfl (lv_at hl 0 rfl) ?_
    refine m_iconst 0 hx hb dX5_load_36 rfl ?_
    refine pf_X5_firstFilled hx hb hts hown hK hH hA (k := 0) (by omega) eO m_z0 m_f0 dX5_load_37 (fun H locs σ_14 eO hq_15 hH => ?_)
    have e57 : σ_14 (57) = .inr (0, [.ref (ad (58)), .int (oI (((z : Nat) : Int))), .int (oI (((p3 : Nat) : Int))), .int (oI ((oErr T z))), .int (oI (((a3 : Nat) : Int))), .int (oI (((z1 : Nat) : Int))), .int (oI (((z2 : Nat) : Int))), .int (oI (o3))]) := (hq_15 _ (by decide)).trans e57
    have e58 : σ_14 (58) = oAC cT 120 T := (hq_15 _ (by decide)).trans e58
    have e0 : σ_14 (1) = .inr (4, [.ref (ad (2)), .ref (ad (3)), .int (oI (0)), .int (oI (2)), .int (oI (40))]) := (hq_15 _ (by decide)).trans e0
    have e1 : σ_14 (2) = oAN cT 4 sz := (hq_15 _ (by decide)).trans e1
    have e2 : σ_14 (3) = oAJ cT 4 w := (hq_15 _ (by decide)).trans e2
    have eM : σ_14 (13) = .inr (2, [.ref (ad (14)), .int (oI (((nx : Nat) : Int))), .int (oI (0))]) := (hq_15 _ (by decide)).trans eM
    have hf : ∀ q : Nat, q ≠ 57 → q ≠ 1 → q ≠ 2 → q ≠ 3 → q ≠ 13 → q ≠ 0 → σ_14 q = σ q := fun q n0 n1 n2 n3 n4 n5 => (hq_15 q n5).trans (hf q n0 n1 n2 n3 n4 n5)
    refine lv_aload_n hx hb dX5_load_40 rfl (lv_at hl 0 rfl) ?_
    refine m_iconst 0 hx hb dX5_load_41 rfl ?_
    refine pf_X5_secondFilled hx hb hts hown hK hH hA (k := 0) (by omega) eO m_z0 m_f0 dX5_load_42 (fun H locs σ_16 eO hq_17 hH => ?_)
    have e57 : σ_16 (57) = .inr (0, [.ref (ad (58)), .int (oI (((z : Nat) : Int))), .int (oI (((p3 : Nat) : Int))), .int (oI ((oErr T z))), .int (oI (((a3 : Nat) : Int))), .int (oI (((z1 : Nat) : Int))), .int (oI (((z2 : Nat) : Int))), .int (oI (o3))]) := (hq_17 _ (by decide)).trans e57
    have e58 : σ_16 (58) = oAC cT 120 T := (hq_17 _ (by decide)).trans e58
    have e0 : σ_16 (1) = .inr (4, [.ref (ad (2)), .ref (ad (3)), .int (oI (0)), .int (oI (2)), .int (oI (40))]) := (hq_17 _ (by decide)).trans e0
    have e1 : σ_16 (2) = oAN cT 4 sz := (hq_17 _ (by decide)).trans e1
    have e2 : σ_16 (3) = oAJ cT 4 w := (hq_17 _ (by decide)).trans e2
    have eM : σ_16 (13) = .inr (2, [.ref (ad (14)), .int (oI (((nx : Nat) : Int))), .int (oI (0))]) := (hq_17 _ (by decide)).trans eM
    have hf : ∀ q : Nat, q ≠ 57 → q ≠ 1 → q ≠ 2 → q ≠ 3 → q ≠ 13 → q ≠ 0 → σ_16 q = σ q := fun q n0 n1 n2 n3 n4 n5 => (hq_17 q n5).trans (hf q n0 n1 n2 n3 n4 n5)
    refine lv_aload_n hx hb dX5_load_45 rfl (lv_at hl 0 rfl) ?_
    refine gf_X5_text hx hb hts hown hK hH (k := 0) (by omega) eO dX5_load_46 ?_
    refine lv_aload_n hx hb dX5_load_49 rfl (lv_at hl 0 rfl) ?_
    refine gf_X5_present hx hb hts hown hK hH (k := 0) (by omega) eO dX5_load_50 ?_
    refine m_callVi hx hb hml hown hts hK hH hl (rest := []) cw_X5_94 (c0_doCommands hA T z p3 a3 z1 z2 (oErr T z) o3 0 2 40 sz w (by first | assumption | omega) (by first | assumption | omega) (by first | assumption | omega) (by omega) (by omega) (⟨by omega, fun r h => absurd h (Nat.not_lt_zero _)⟩) (⟨by omega, by omega⟩) (by first | assumption | omega) e57 e58 e0 e1 e2) ⟨Nat.le_of_ble_eq_true rfl, Nat.le_of_ble_eq_true rfl⟩ ⟨Nat.le_of_ble_eq_true rfl, Nat.le_of_ble_eq_true rfl⟩ rfl (k := 57) (by omega) e57 rfl rfl (Nat.le_of_ble_eq_true rfl) dX5_load_53 (fun r_21 σ_18 H locs hp_19 hH => ?_)
    obtain ⟨ou, n4, a5, g4, s4, w4, p5, a6, z3, z4, o4, rfl, hr0, hr1, hr2, hr3, f_22, e57, e0, e1, e2, hq_20⟩ := hp_19
    have eO : σ_18 (0) = .inr (5, [.ref (ad (1)), .ref (ad (4)), .ref (ad (7)), .ref (ad (10)), .int (oI (0)), .int (oI (0)), .ref (ad (13)), .ref (ad (57)), .ref (ad (59)), .ref (ad (64))]) := (hq_20 _ (by decide) (by decide) (by decide) (by decide)).trans eO
    have e58 : σ_18 (58) = oAC cT 120 T := (hq_20 _ (by decide) (by decide) (by decide) (by decide)).trans e58
    have eM : σ_18 (13) = .inr (2, [.ref (ad (14)), .int (oI (((nx : Nat) : Int))), .int (oI (0))]) := (hq_20 _ (by decide) (by decide) (by decide) (by decide)).trans eM
    have hf : ∀ q : Nat, q ≠ 57 → q ≠ 1 → q ≠ 2 → q ≠ 3 → q ≠ 13 → q ≠ 0 → σ_18 q = σ q := fun q n0 n1 n2 n3 n4 n5 => (hq_20 q n0 n1 n2 n3).trans (hf q n0 n1 n2 n3 n4 n5)
    exact m_iretX hx hb hlk hrt hH ⟨Nat.le_of_ble_eq_true rfl, Nat.le_of_ble_eq_true rfl⟩ (m_ni _) dX5_load_56 ⟨ou, n4, a5, g4, s4, w4, p5, a6, z3, z4, o4, rfl, her, hr0, hr1, hr2, hr3, e57, e0, e1, e2, eM, eO, hf⟩
  · exact m_throw (text := "the text is not a case") hx hb hl0 hml hown hts hK hXT hH hl hlk hnt oth_1 (by decide) dX5_load_11 dX5_load_14 dX5_load_15 dX5_load_17 dX5_load_20 ⟨Nat.le_of_ble_eq_true rfl, Nat.le_of_ble_eq_true rfl⟩ (Nat.le_of_ble_eq_true rfl) ⟨Nat.le_of_ble_eq_true rfl, Nat.le_of_ble_eq_true rfl⟩ ⟨Nat.le_of_ble_eq_true rfl, Nat.le_of_ble_eq_true rfl⟩ (⟨⟨rfl, her⟩, _, _, _, _, _, _, hp3, e57, fun q nq => by first | exact hq_3 q nq | exact hq_2 q nq | exact hq_4 q nq⟩)
set_option maxHeartbeats 4000000 in
set_option maxRecDepth 100000 in
theorem c5_fewest {l : Launch} {D : va_G} {cT : Nat → ClassId} {N b0 : Nat} {ad : Nat → Nat} (hA : oAd b0 N ad) {σ : Nat → va_E} (t x : Int) (n a g : Nat) (sz w : Nat → Nat) (ld : Nat) (wr gr : Nat → Nat) (S Ln : Nat → Int) (ff sf : Int) (hl0 : l.stackTraces = false) (hN : 76 ≤ N) (hwf : oWf n sz w) (hbt : -2147483648 ≤ t ∧ t < 2147483648) (hbx : -2147483648 ≤ x ∧ x < 2147483648) (eO : σ (0) = .inr (5, [.ref (ad (1)), .ref (ad (4)), .ref (ad (7)), .ref (ad (10)), .int (oI (ff)), .int (oI (sf)), .ref (ad (13)), .ref (ad (57)), .ref (ad (59)), .ref (ad (64))])) (e0 : σ (1) = .inr (4, [.ref (ad (2)), .ref (ad (3)), .int (oI (((n : Nat) : Int))), .int (oI (((a : Nat) : Int))), .int (oI (((g : Nat) : Int)))])) (e1 : σ (2) = oAN cT 4 sz) (e2 : σ (3) = oAJ cT 4 w) (e59 : σ (59) = .inr (3, [.ref (ad (60)), .ref (ad (61)), .int (oI (((ld : Nat) : Int))), .ref (ad (62)), .ref (ad (63))])) (e60 : σ (60) = oAI cT 201 S) (e61 : σ (61) = oAI cT 201 Ln) (e62 : σ (62) = oAJ cT 4 wr) (e63 : σ (63) = oAJ cT 4 gr) :
    oXi l D cT N ad b0 yX5_fewest cX5_fewest 5 (some .int) 7 110 2 [.ref (ad (0)), .int (oI (t)), .int (oI (x))] σ (fun rr uu => ∃ ld2 : Nat, ∃ S2 : Nat → Int, ∃ Ln2 : Nat → Int, ∃ w2 : Nat → Nat, ∃ gr2 : Nat → Nat, rr = oI ((oDist (oOrW n w (-1) 4) 0 t.toNat)) ∧ (0 ≤ t ∧ t ≤ 200) ∧ (x = 0 ∨ x = 1) ∧ uu (59) = .inr (3, [.ref (ad (60)), .ref (ad (61)), .int (oI (((ld2 : Nat) : Int))), .ref (ad (62)), .ref (ad (63))]) ∧ uu (60) = oAI cT 201 S2 ∧ uu (61) = oAI cT 201 Ln2 ∧ uu (62) = oAJ cT 4 w2 ∧ uu (63) = oAJ cT 4 gr2 ∧ (∀ q : Nat, q ≠ 59 → q ≠ 60 → q ≠ 61 → q ≠ 62 → q ≠ 63 → uu q = σ q)) (fun E uu => (E = oIA ∧ ¬ ((0 ≤ t ∧ t ≤ 200) ∧ (x = 0 ∨ x = 1))) ∧ uu = σ) := by
  refine m_startX (cc := cX5_fewest) (by decide) (Nat.le_of_ble_eq_true rfl) rfl ?_
  intro Pp Ee Ss Mm Bb Me Cc Ar ls hx hb hml hown hlk hrt hts hK hH hl hXT hnt
  have hown : Ss.vm.findClass RX5 = some Mm.cls := hown
  have hn := hwf.1
  have hsz := oSize_le hwf
  have hw64 := oRow_64 hwf
  have hw41 := oRow_lt hwf
  have hs64 := oOrW_64 n w (-1) 4
  have hl : lv_has ls 5 [(0, .ref (ad (0))), (1, .int (oI (t))), (2, .int (oI (x)))] := hl
  have hf : ∀ q : Nat, q ≠ 59 → q ≠ 60 → q ≠ 61 → q ≠ 62 → q ≠ 63 → σ q = σ q := fun q _ _ _ _ _ => rfl
  refine lv_iload_n hx hb dX5_fewest_0 rfl (lv_at hl 1 rfl) ?_
  refine m_xSv hx hb hml hown hts hK hXT hH hl hlk hnt (rest := []) cw_X5_229 (c5_checkLength hA t (by first | assumption | omega) (by first | assumption | omega) ) ⟨Nat.le_of_ble_eq_true rfl, Nat.le_of_ble_eq_true rfl⟩ ⟨Nat.le_of_ble_eq_true rfl, Nat.le_of_ble_eq_true rfl⟩ ⟨Nat.le_of_ble_eq_true rfl, Nat.le_of_ble_eq_true rfl⟩ rfl rfl rfl (Nat.le_of_ble_eq_true rfl) dX5_fewest_1 (fun E u h => ⟨⟨h.1, fun q => h.2.1 q.1⟩, h.2.2⟩) (fun σ_1 H locs hp_2 hH => ?_)
  obtain ⟨htt, hu⟩ := hp_2
  have hu := hu.symm
  subst hu
  refine lv_iload_n hx hb dX5_fewest_4 rfl (lv_at hl 2 rfl) ?_
  refine m_if_eq 23 hx hb dX5_fewest_5 (by decide) (by omega) (fun h_4 => ?_) (fun h_4 => ?_)
  · refine lv_aload_n hx hb dX5_fewest_23 rfl (lv_at hl 0 rfl) ?_
    refine gf_X5_present hx hb hts hown hK hH (k := 0) (by omega) eO dX5_fewest_24 ?_
    refine m_pVn hx hb hml hown hts hK hH hl (rest := []) cw_X5_107 (c4_spread hA 1 n a g sz w (by first | assumption | omega) (by first | assumption | omega) e0 e1 e2) ⟨Nat.le_of_ble_eq_true rfl, Nat.le_of_ble_eq_true rfl⟩ ⟨Nat.le_of_ble_eq_true rfl, Nat.le_of_ble_eq_true rfl⟩ rfl (k := 1) (by omega) e0 rfl rfl (Nat.le_of_ble_eq_true rfl) dX5_fewest_27 (fun H locs hH => ?_)
    refine lv_lstore_n (lv' := [(3, .long (lN (oOrW n w (-1) 4))), (0, .ref (ad (0))), (1, .int (oI (t))), (2, .int (oI (x)))]) hx hb dX5_fewest_30 rfl hl (by decide) rfl (fun ls hl => ?_)
    refine lv_iload_n hx hb dX5_fewest_31 rfl (lv_at hl 3 rfl) ?_
    refine m_if_ne 47 hx hb dX5_fewest_32 (by decide) (by omega) (fun h_5 => ?_) (fun h_5 => ?_)
    · refine lv_aload_n hx hb dX5_fewest_47 rfl (lv_at hl 1 rfl) ?_
      refine gf_X5_reach hx hb hts hown hK hH (k := 0) (by omega) eO dX5_fewest_48 ?_
      refine lv_iload_n hx hb dX5_fewest_51 rfl (lv_at hl 2 rfl) ?_
      refine m_topI (((t.toNat : Nat) : Int)) (by omega) ?_
      refine lv_lload_n hx hb dX5_fewest_52 rfl (lv_at hl 0 rfl) ?_
      refine m_callVi hx hb hml hown hts hK hH hl (rest := []) cw_X5_238 (c3_fewestBySets hA t.toNat (oOrW n w (-1) 4) ld wr gr (by first | assumption | omega) (by first | assumption | omega) (by first | assumption | omega) e59 e62 e63) ⟨Nat.le_of_ble_eq_true rfl, Nat.le_of_ble_eq_true rfl⟩ ⟨Nat.le_of_ble_eq_true rfl, Nat.le_of_ble_eq_true rfl⟩ rfl (k := 59) (by omega) e59 rfl rfl (Nat.le_of_ble_eq_true rfl) dX5_fewest_53 (fun r_9 σ_6 H locs hp_7 hH => ?_)
      obtain ⟨w3, gr3, rfl, e62, e63, hq_8⟩ := hp_7
      have eO : σ_6 (0) = .inr (5, [.ref (ad (1)), .ref (ad (4)), .ref (ad (7)), .ref (ad (10)), .int (oI (ff)), .int (oI (sf)), .ref (ad (13)), .ref (ad (57)), .ref (ad (59)), .ref (ad (64))]) := (hq_8 _ (by decide) (by decide)).trans eO
      have e0 : σ_6 (1) = .inr (4, [.ref (ad (2)), .ref (ad (3)), .int (oI (((n : Nat) : Int))), .int (oI (((a : Nat) : Int))), .int (oI (((g : Nat) : Int)))]) := (hq_8 _ (by decide) (by decide)).trans e0
      have e1 : σ_6 (2) = oAN cT 4 sz := (hq_8 _ (by decide) (by decide)).trans e1
      have e2 : σ_6 (3) = oAJ cT 4 w := (hq_8 _ (by decide) (by decide)).trans e2
      have e59 : σ_6 (59) = .inr (3, [.ref (ad (60)), .ref (ad (61)), .int (oI (((ld : Nat) : Int))), .ref (ad (62)), .ref (ad (63))]) := (hq_8 _ (by decide) (by decide)).trans e59
      have e60 : σ_6 (60) = oAI cT 201 S := (hq_8 _ (by decide) (by decide)).trans e60
      have e61 : σ_6 (61) = oAI cT 201 Ln := (hq_8 _ (by decide) (by decide)).trans e61
      have hf : ∀ q : Nat, q ≠ 59 → q ≠ 60 → q ≠ 61 → q ≠ 62 → q ≠ 63 → σ_6 q = σ q := fun q n0 n1 n2 n3 n4 => (hq_8 q n3 n4).trans (hf q n0 n1 n2 n3 n4)
      exact m_iretX hx hb hlk hrt hH ⟨Nat.le_of_ble_eq_true rfl, Nat.le_of_ble_eq_true rfl⟩ (m_ni _) dX5_fewest_56 ⟨ld, S, Ln, w3, gr3, rfl, (by first | assumption | omega), (by first | assumption | omega), e59, e60, e61, e62, e63, hf⟩
    · refine lv_aload_n hx hb dX5_fewest_35 rfl (lv_at hl 1 rfl) ?_
      refine gf_X5_reach hx hb hts hown hK hH (k := 0) (by omega) eO dX5_fewest_36 ?_
      refine lv_iload_n hx hb dX5_fewest_39 rfl (lv_at hl 2 rfl) ?_
      refine m_topI (((t.toNat : Nat) : Int)) (by omega) ?_
      refine lv_lload_n hx hb dX5_fewest_40 rfl (lv_at hl 0 rfl) ?_
      refine m_callVi hx hb hml hown hts hK hH hl (rest := []) cw_X5_234 (c3_fewestByLengths hA t.toNat (oOrW n w (-1) 4) ld S Ln (by first | assumption | omega) (by first | assumption | omega) (by first | assumption | omega) e59 e60 e61) ⟨Nat.le_of_ble_eq_true rfl, Nat.le_of_ble_eq_true rfl⟩ ⟨Nat.le_of_ble_eq_true rfl, Nat.le_of_ble_eq_true rfl⟩ rfl (k := 59) (by omega) e59 rfl rfl (Nat.le_of_ble_eq_true rfl) dX5_fewest_41 (fun r_13 σ_10 H locs hp_11 hH => ?_)
      obtain ⟨S3, L3, ld3, rfl, hD, e59, e60, e61, hq_12⟩ := hp_11
      have eO : σ_10 (0) = .inr (5, [.ref (ad (1)), .ref (ad (4)), .ref (ad (7)), .ref (ad (10)), .int (oI (ff)), .int (oI (sf)), .ref (ad (13)), .ref (ad (57)), .ref (ad (59)), .ref (ad (64))]) := (hq_12 _ (by decide) (by decide) (by decide)).trans eO
      have e0 : σ_10 (1) = .inr (4, [.ref (ad (2)), .ref (ad (3)), .int (oI (((n : Nat) : Int))), .int (oI (((a : Nat) : Int))), .int (oI (((g : Nat) : Int)))]) := (hq_12 _ (by decide) (by decide) (by decide)).trans e0
      have e1 : σ_10 (2) = oAN cT 4 sz := (hq_12 _ (by decide) (by decide) (by decide)).trans e1
      have e2 : σ_10 (3) = oAJ cT 4 w := (hq_12 _ (by decide) (by decide) (by decide)).trans e2
      have e62 : σ_10 (62) = oAJ cT 4 wr := (hq_12 _ (by decide) (by decide) (by decide)).trans e62
      have e63 : σ_10 (63) = oAJ cT 4 gr := (hq_12 _ (by decide) (by decide) (by decide)).trans e63
      have hf : ∀ q : Nat, q ≠ 59 → q ≠ 60 → q ≠ 61 → q ≠ 62 → q ≠ 63 → σ_10 q = σ q := fun q n0 n1 n2 n3 n4 => (hq_12 q n0 n1 n2).trans (hf q n0 n1 n2 n3 n4)
      refine lv_goto (tgt := 56) hx hb dX5_fewest_44 (by decide) ?_
      exact m_iretX hx hb hlk hrt hH ⟨Nat.le_of_ble_eq_true rfl, Nat.le_of_ble_eq_true rfl⟩ (m_ni _) dX5_fewest_56 ⟨ld3, S3, L3, wr, gr, rfl, (by first | assumption | omega), (by first | assumption | omega), e59, e60, e61, e62, e63, hf⟩
  · refine lv_iload_n hx hb dX5_fewest_8 rfl (lv_at hl 2 rfl) ?_
    refine m_iconst 1 hx hb dX5_fewest_9 rfl ?_
    refine m_icmp_eq 23 hx hb dX5_fewest_10 (by decide) (by omega) (by omega) (fun h_14 => ?_) (fun h_14 => ?_)
    · refine lv_aload_n hx hb dX5_fewest_23 rfl (lv_at hl 0 rfl) ?_
      refine gf_X5_present hx hb hts hown hK hH (k := 0) (by omega) eO dX5_fewest_24 ?_
      refine m_pVn hx hb hml hown hts hK hH hl (rest := []) cw_X5_107 (c4_spread hA 1 n a g sz w (by first | assumption | omega) (by first | assumption | omega) e0 e1 e2) ⟨Nat.le_of_ble_eq_true rfl, Nat.le_of_ble_eq_true rfl⟩ ⟨Nat.le_of_ble_eq_true rfl, Nat.le_of_ble_eq_true rfl⟩ rfl (k := 1) (by omega) e0 rfl rfl (Nat.le_of_ble_eq_true rfl) dX5_fewest_27 (fun H locs hH => ?_)
      refine lv_lstore_n (lv' := [(3, .long (lN (oOrW n w (-1) 4))), (0, .ref (ad (0))), (1, .int (oI (t))), (2, .int (oI (x)))]) hx hb dX5_fewest_30 rfl hl (by decide) rfl (fun ls hl => ?_)
      refine lv_iload_n hx hb dX5_fewest_31 rfl (lv_at hl 3 rfl) ?_
      refine m_if_ne 47 hx hb dX5_fewest_32 (by decide) (by omega) (fun h_15 => ?_) (fun h_15 => ?_)
      · refine lv_aload_n hx hb dX5_fewest_47 rfl (lv_at hl 1 rfl) ?_
        refine gf_X5_reach hx hb hts hown hK hH (k := 0) (by omega) eO dX5_fewest_48 ?_
        refine lv_iload_n hx hb dX5_fewest_51 rfl (lv_at hl 2 rfl) ?_
        refine m_topI (((t.toNat : Nat) : Int)) (by omega) ?_
        refine lv_lload_n hx hb dX5_fewest_52 rfl (lv_at hl 0 rfl) ?_
        refine m_callVi hx hb hml hown hts hK hH hl (rest := []) cw_X5_238 (c3_fewestBySets hA t.toNat (oOrW n w (-1) 4) ld wr gr (by first | assumption | omega) (by first | assumption | omega) (by first | assumption | omega) e59 e62 e63) ⟨Nat.le_of_ble_eq_true rfl, Nat.le_of_ble_eq_true rfl⟩ ⟨Nat.le_of_ble_eq_true rfl, Nat.le_of_ble_eq_true rfl⟩ rfl (k := 59) (by omega) e59 rfl rfl (Nat.le_of_ble_eq_true rfl) dX5_fewest_53 (fun r_19 σ_16 H locs hp_17 hH => ?_)
        obtain ⟨w3, gr3, rfl, e62, e63, hq_18⟩ := hp_17
        have eO : σ_16 (0) = .inr (5, [.ref (ad (1)), .ref (ad (4)), .ref (ad (7)), .ref (ad (10)), .int (oI (ff)), .int (oI (sf)), .ref (ad (13)), .ref (ad (57)), .ref (ad (59)), .ref (ad (64))]) := (hq_18 _ (by decide) (by decide)).trans eO
        have e0 : σ_16 (1) = .inr (4, [.ref (ad (2)), .ref (ad (3)), .int (oI (((n : Nat) : Int))), .int (oI (((a : Nat) : Int))), .int (oI (((g : Nat) : Int)))]) := (hq_18 _ (by decide) (by decide)).trans e0
        have e1 : σ_16 (2) = oAN cT 4 sz := (hq_18 _ (by decide) (by decide)).trans e1
        have e2 : σ_16 (3) = oAJ cT 4 w := (hq_18 _ (by decide) (by decide)).trans e2
        have e59 : σ_16 (59) = .inr (3, [.ref (ad (60)), .ref (ad (61)), .int (oI (((ld : Nat) : Int))), .ref (ad (62)), .ref (ad (63))]) := (hq_18 _ (by decide) (by decide)).trans e59
        have e60 : σ_16 (60) = oAI cT 201 S := (hq_18 _ (by decide) (by decide)).trans e60
        have e61 : σ_16 (61) = oAI cT 201 Ln := (hq_18 _ (by decide) (by decide)).trans e61
        have hf : ∀ q : Nat, q ≠ 59 → q ≠ 60 → q ≠ 61 → q ≠ 62 → q ≠ 63 → σ_16 q = σ q := fun q n0 n1 n2 n3 n4 => (hq_18 q n3 n4).trans (hf q n0 n1 n2 n3 n4)
        exact m_iretX hx hb hlk hrt hH ⟨Nat.le_of_ble_eq_true rfl, Nat.le_of_ble_eq_true rfl⟩ (m_ni _) dX5_fewest_56 ⟨ld, S, Ln, w3, gr3, rfl, (by first | assumption | omega), (by first | assumption | omega), e59, e60, e61, e62, e63, hf⟩
      · refine lv_aload_n hx hb dX5_fewest_35 rfl (lv_at hl 1 rfl) ?_
        refine gf_X5_reach hx hb hts hown hK hH (k := 0) (by omega) eO dX5_fewest_36 ?_
        refine lv_iload_n hx hb dX5_fewest_39 rfl (lv_at hl 2 rfl) ?_
        refine m_topI (((t.toNat : Nat) : Int)) (by omega) ?_
        refine lv_lload_n hx hb dX5_fewest_40 rfl (lv_at hl 0 rfl) ?_
        refine m_callVi hx hb hml hown hts hK hH hl (rest := []) cw_X5_234 (c3_fewestByLengths hA t.toNat (oOrW n w (-1) 4) ld S Ln (by first | assumption | omega) (by first | assumption | omega) (by first | assumption | omega) e59 e60 e61) ⟨Nat.le_of_ble_eq_true rfl, Nat.le_of_ble_eq_true rfl⟩ ⟨Nat.le_of_ble_eq_true rfl, Nat.le_of_ble_eq_true rfl⟩ rfl (k := 59) (by omega) e59 rfl rfl (Nat.le_of_ble_eq_true rfl) dX5_fewest_41 (fun r_23 σ_20 H locs hp_21 hH => ?_)
        obtain ⟨S3, L3, ld3, rfl, hD, e59, e60, e61, hq_22⟩ := hp_21
        have eO : σ_20 (0) = .inr (5, [.ref (ad (1)), .ref (ad (4)), .ref (ad (7)), .ref (ad (10)), .int (oI (ff)), .int (oI (sf)), .ref (ad (13)), .ref (ad (57)), .ref (ad (59)), .ref (ad (64))]) := (hq_22 _ (by decide) (by decide) (by decide)).trans eO
        have e0 : σ_20 (1) = .inr (4, [.ref (ad (2)), .ref (ad (3)), .int (oI (((n : Nat) : Int))), .int (oI (((a : Nat) : Int))), .int (oI (((g : Nat) : Int)))]) := (hq_22 _ (by decide) (by decide) (by decide)).trans e0
        have e1 : σ_20 (2) = oAN cT 4 sz := (hq_22 _ (by decide) (by decide) (by decide)).trans e1
        have e2 : σ_20 (3) = oAJ cT 4 w := (hq_22 _ (by decide) (by decide) (by decide)).trans e2
        have e62 : σ_20 (62) = oAJ cT 4 wr := (hq_22 _ (by decide) (by decide) (by decide)).trans e62
        have e63 : σ_20 (63) = oAJ cT 4 gr := (hq_22 _ (by decide) (by decide) (by decide)).trans e63
        have hf : ∀ q : Nat, q ≠ 59 → q ≠ 60 → q ≠ 61 → q ≠ 62 → q ≠ 63 → σ_20 q = σ q := fun q n0 n1 n2 n3 n4 => (hq_22 q n0 n1 n2).trans (hf q n0 n1 n2 n3 n4)
        refine lv_goto (tgt := 56) hx hb dX5_fewest_44 (by decide) ?_
        exact m_iretX hx hb hlk hrt hH ⟨Nat.le_of_ble_eq_true rfl, Nat.le_of_ble_eq_true rfl⟩ (m_ni _) dX5_fewest_56 ⟨ld3, S3, L3, wr, gr, rfl, (by first | assumption | omega), (by first | assumption | omega), e59, e60, e61, e62, e63, hf⟩
    · exact m_throw (text := "no such way") hx hb hl0 hml hown hts hK hXT hH hl hlk hnt oth_0 (by decide) dX5_fewest_13 dX5_fewest_16 dX5_fewest_17 dX5_fewest_19 dX5_fewest_22 ⟨Nat.le_of_ble_eq_true rfl, Nat.le_of_ble_eq_true rfl⟩ (Nat.le_of_ble_eq_true rfl) ⟨Nat.le_of_ble_eq_true rfl, Nat.le_of_ble_eq_true rfl⟩ ⟨Nat.le_of_ble_eq_true rfl, Nat.le_of_ble_eq_true rfl⟩ (⟨⟨rfl, by omega⟩, rfl⟩)
set_option maxHeartbeats 4000000 in
set_option maxRecDepth 100000 in
theorem c5_save0 {l : Launch} {D : va_G} {cT : Nat → ClassId} {N b0 : Nat} {ad : Nat → Nat} (hA : oAd b0 N ad) {σ : Nat → va_E} (t : Int) (n a g n7 a7 g7 n8 a8 g8 : Nat) (sz w sz7 w7 sz8 w8 : Nat → Nat) (ff sf : Int) (hl0 : l.stackTraces = false) (hN : 76 ≤ N) (hwf : oWf n sz w) (hbt : -2147483648 ≤ t ∧ t < 2147483648) (htv : t = 0) (eO : σ (0) = .inr (5, [.ref (ad (1)), .ref (ad (4)), .ref (ad (7)), .ref (ad (10)), .int (oI (ff)), .int (oI (sf)), .ref (ad (13)), .ref (ad (57)), .ref (ad (59)), .ref (ad (64))])) (e0 : σ (1) = .inr (4, [.ref (ad (2)), .ref (ad (3)), .int (oI (((n : Nat) : Int))), .int (oI (((a : Nat) : Int))), .int (oI (((g : Nat) : Int)))])) (e1 : σ (2) = oAN cT 4 sz) (e2 : σ (3) = oAJ cT 4 w) (f70 : σ (7) = .inr (4, [.ref (ad (8)), .ref (ad (9)), .int (oI (((n7 : Nat) : Int))), .int (oI (((a7 : Nat) : Int))), .int (oI (((g7 : Nat) : Int)))])) (f71 : σ (8) = oAN cT 4 sz7) (f72 : σ (9) = oAJ cT 4 w7) (f100 : σ (10) = .inr (4, [.ref (ad (11)), .ref (ad (12)), .int (oI (((n8 : Nat) : Int))), .int (oI (((a8 : Nat) : Int))), .int (oI (((g8 : Nat) : Int)))])) (f101 : σ (11) = oAN cT 4 sz8) (f102 : σ (12) = oAJ cT 4 w8) :
    oXi l D cT N ad b0 yX5_save cX5_save 2 (some .int) 7 110 1 [.ref (ad (0)), .int (oI (t))] σ (fun rr uu => ∃ sz2 : Nat → Nat, ∃ w2 : Nat → Nat, rr = oI (((n : Nat) : Int)) ∧ (∀ r : Nat, r < n → sz2 r = sz r ∧ w2 r = w r) ∧ uu (7) = .inr (4, [.ref (ad (8)), .ref (ad (9)), .int (oI (((n : Nat) : Int))), .int (oI (((a : Nat) : Int))), .int (oI (((g : Nat) : Int)))]) ∧ uu (8) = oAN cT 4 sz2 ∧ uu (9) = oAJ cT 4 w2 ∧ uu (0) = .inr (5, [.ref (ad (1)), .ref (ad (4)), .ref (ad (7)), .ref (ad (10)), .int (oI (1)), .int (oI (sf)), .ref (ad (13)), .ref (ad (57)), .ref (ad (59)), .ref (ad (64))]) ∧ (∀ q : Nat, q ≠ 7 → q ≠ 8 → q ≠ 9 → q ≠ 0 → uu q = σ q)) (fun E uu => False) := by
  refine m_startX (cc := cX5_save) (by decide) (Nat.le_of_ble_eq_true rfl) rfl ?_
  intro Pp Ee Ss Mm Bb Me Cc Ar ls hx hb hml hown hlk hrt hts hK hH hl hXT hnt
  have hown : Ss.vm.findClass RX5 = some Mm.cls := hown
  have hn := hwf.1
  have hl : lv_has ls 2 [(0, .ref (ad (0))), (1, .int (oI (t)))] := hl
  have hf : ∀ q : Nat, q ≠ 7 → q ≠ 8 → q ≠ 9 → q ≠ 0 → σ q = σ q := fun q _ _ _ _ => rfl
  refine lv_iload_n hx hb dX5_save_0 rfl (lv_at hl 1 rfl) ?_
  refine m_xSv hx hb hml hown hts hK hXT hH hl hlk hnt (rest := []) cw_X5_338 (c5_checkSlot hA t (by first | assumption | omega) (by first | assumption | omega) ) ⟨Nat.le_of_ble_eq_true rfl, Nat.le_of_ble_eq_true rfl⟩ ⟨Nat.le_of_ble_eq_true rfl, Nat.le_of_ble_eq_true rfl⟩ ⟨Nat.le_of_ble_eq_true rfl, Nat.le_of_ble_eq_true rfl⟩ rfl rfl rfl (Nat.le_of_ble_eq_true rfl) dX5_save_1 (fun E u h => absurd h.2.1 (fun q => q (by omega))) (fun σ_1 H locs hp_2 hH => ?_)
  obtain ⟨f_4, hu⟩ := hp_2
  have hu := hu.symm
  subst hu
  refine lv_iload_n hx hb dX5_save_4 rfl (lv_at hl 1 rfl) ?_
  refine m_if_ne 27 hx hb dX5_save_5 (by decide) (by omega) (fun h_5 => absurd h_5 (by omega)) (fun h_5 => ?_)
  refine lv_aload_n hx hb dX5_save_8 rfl (lv_at hl 0 rfl) ?_
  refine gf_X5_firstSlot hx hb hts hown hK hH (k := 0) (by omega) eO dX5_save_9 ?_
  refine lv_aload_n hx hb dX5_save_12 rfl (lv_at hl 0 rfl) ?_
  refine gf_X5_present hx hb hts hown hK hH (k := 0) (by omega) eO dX5_save_13 ?_
  refine m_callVv hx hb hml hown hts hK hH hl (rest := []) cw_X5_305 (c4_become hA 7 n7 a7 g7 1 n a g sz7 w7 sz w (by first | assumption | omega) (by first | assumption | omega) (by first | assumption | omega) (by first | assumption | omega) f70 f71 f72 e0 e1 e2) ⟨Nat.le_of_ble_eq_true rfl, Nat.le_of_ble_eq_true rfl⟩ ⟨Nat.le_of_ble_eq_true rfl, Nat.le_of_ble_eq_true rfl⟩ rfl (k := 7) (by omega) f70 rfl rfl (Nat.le_of_ble_eq_true rfl) dX5_save_16 (fun σ_6 H locs hp_7 hH => ?_)
  obtain ⟨sz3, w3, hsw, f70, f71, f72, hq_8⟩ := hp_7
  have eO : σ_6 (0) = .inr (5, [.ref (ad (1)), .ref (ad (4)), .ref (ad (7)), .ref (ad (10)), .int (oI (ff)), .int (oI (sf)), .ref (ad (13)), .ref (ad (57)), .ref (ad (59)), .ref (ad (64))]) := (hq_8 _ (by decide) (by decide) (by decide)).trans eO
  have e0 : σ_6 (1) = .inr (4, [.ref (ad (2)), .ref (ad (3)), .int (oI (((n : Nat) : Int))), .int (oI (((a : Nat) : Int))), .int (oI (((g : Nat) : Int)))]) := (hq_8 _ (by decide) (by decide) (by decide)).trans e0
  have e1 : σ_6 (2) = oAN cT 4 sz := (hq_8 _ (by decide) (by decide) (by decide)).trans e1
  have e2 : σ_6 (3) = oAJ cT 4 w := (hq_8 _ (by decide) (by decide) (by decide)).trans e2
  have f100 : σ_6 (10) = .inr (4, [.ref (ad (11)), .ref (ad (12)), .int (oI (((n8 : Nat) : Int))), .int (oI (((a8 : Nat) : Int))), .int (oI (((g8 : Nat) : Int)))]) := (hq_8 _ (by decide) (by decide) (by decide)).trans f100
  have f101 : σ_6 (11) = oAN cT 4 sz8 := (hq_8 _ (by decide) (by decide) (by decide)).trans f101
  have f102 : σ_6 (12) = oAJ cT 4 w8 := (hq_8 _ (by decide) (by decide) (by decide)).trans f102
  have hf : ∀ q : Nat, q ≠ 7 → q ≠ 8 → q ≠ 9 → q ≠ 0 → σ_6 q = σ q := fun q n0 n1 n2 n3 => (hq_8 q n0 n1 n2).trans (hf q n0 n1 n2 n3)
  refine lv_aload_n hx hb dX5_save_19 rfl (lv_at hl 0 rfl) ?_
  refine m_iconst 1 hx hb dX5_save_20 rfl ?_
  refine pf_X5_firstFilled hx hb hts hown hK hH hA (k := 0) (by omega) eO m_z1 m_f1 dX5_save_21 (fun H locs σ_10 eO hq_11 hH => ?_)
  have e0 : σ_10 (1) = .inr (4, [.ref (ad (2)), .ref (ad (3)), .int (oI (((n : Nat) : Int))), .int (oI (((a : Nat) : Int))), .int (oI (((g : Nat) : Int)))]) := (hq_11 _ (by decide)).trans e0
  have e1 : σ_10 (2) = oAN cT 4 sz := (hq_11 _ (by decide)).trans e1
  have e2 : σ_10 (3) = oAJ cT 4 w := (hq_11 _ (by decide)).trans e2
  have f70 : σ_10 (7) = .inr (4, [.ref (ad (8)), .ref (ad (9)), .int (oI (((n : Nat) : Int))), .int (oI (((a : Nat) : Int))), .int (oI (((g : Nat) : Int)))]) := (hq_11 _ (by decide)).trans f70
  have f71 : σ_10 (8) = oAN cT 4 sz3 := (hq_11 _ (by decide)).trans f71
  have f72 : σ_10 (9) = oAJ cT 4 w3 := (hq_11 _ (by decide)).trans f72
  have f100 : σ_10 (10) = .inr (4, [.ref (ad (11)), .ref (ad (12)), .int (oI (((n8 : Nat) : Int))), .int (oI (((a8 : Nat) : Int))), .int (oI (((g8 : Nat) : Int)))]) := (hq_11 _ (by decide)).trans f100
  have f101 : σ_10 (11) = oAN cT 4 sz8 := (hq_11 _ (by decide)).trans f101
  have f102 : σ_10 (12) = oAJ cT 4 w8 := (hq_11 _ (by decide)).trans f102
  have hf : ∀ q : Nat, q ≠ 7 → q ≠ 8 → q ≠ 9 → q ≠ 0 → σ_10 q = σ q := fun q n0 n1 n2 n3 => (hq_11 q n3).trans (hf q n0 n1 n2 n3)
  refine lv_goto (tgt := 43) hx hb dX5_save_24 (by decide) ?_
  refine lv_aload_n hx hb dX5_save_43 rfl (lv_at hl 0 rfl) ?_
  refine gf_X5_present hx hb hts hown hK hH (k := 0) (by omega) eO dX5_save_44 ?_
  refine m_pVi hx hb hml hown hts hK hH hl (rest := []) cw_X5_98 (c4_rulers hA 1 n a g sz w (by first | assumption | omega) e0 e1 e2) ⟨Nat.le_of_ble_eq_true rfl, Nat.le_of_ble_eq_true rfl⟩ ⟨Nat.le_of_ble_eq_true rfl, Nat.le_of_ble_eq_true rfl⟩ rfl (k := 1) (by omega) e0 rfl rfl (Nat.le_of_ble_eq_true rfl) dX5_save_47 (fun H locs hH => ?_)
  exact m_iretX hx hb hlk hrt hH ⟨Nat.le_of_ble_eq_true rfl, Nat.le_of_ble_eq_true rfl⟩ (m_ni _) dX5_save_50 ⟨sz3, w3, rfl, hsw, f70, f71, f72, eO, hf⟩
set_option maxHeartbeats 4000000 in
set_option maxRecDepth 100000 in
theorem c5_save1 {l : Launch} {D : va_G} {cT : Nat → ClassId} {N b0 : Nat} {ad : Nat → Nat} (hA : oAd b0 N ad) {σ : Nat → va_E} (t : Int) (n a g n7 a7 g7 n8 a8 g8 : Nat) (sz w sz7 w7 sz8 w8 : Nat → Nat) (ff sf : Int) (hl0 : l.stackTraces = false) (hN : 76 ≤ N) (hwf : oWf n sz w) (hbt : -2147483648 ≤ t ∧ t < 2147483648) (htv : t = 1) (eO : σ (0) = .inr (5, [.ref (ad (1)), .ref (ad (4)), .ref (ad (7)), .ref (ad (10)), .int (oI (ff)), .int (oI (sf)), .ref (ad (13)), .ref (ad (57)), .ref (ad (59)), .ref (ad (64))])) (e0 : σ (1) = .inr (4, [.ref (ad (2)), .ref (ad (3)), .int (oI (((n : Nat) : Int))), .int (oI (((a : Nat) : Int))), .int (oI (((g : Nat) : Int)))])) (e1 : σ (2) = oAN cT 4 sz) (e2 : σ (3) = oAJ cT 4 w) (f70 : σ (7) = .inr (4, [.ref (ad (8)), .ref (ad (9)), .int (oI (((n7 : Nat) : Int))), .int (oI (((a7 : Nat) : Int))), .int (oI (((g7 : Nat) : Int)))])) (f71 : σ (8) = oAN cT 4 sz7) (f72 : σ (9) = oAJ cT 4 w7) (f100 : σ (10) = .inr (4, [.ref (ad (11)), .ref (ad (12)), .int (oI (((n8 : Nat) : Int))), .int (oI (((a8 : Nat) : Int))), .int (oI (((g8 : Nat) : Int)))])) (f101 : σ (11) = oAN cT 4 sz8) (f102 : σ (12) = oAJ cT 4 w8) :
    oXi l D cT N ad b0 yX5_save cX5_save 2 (some .int) 7 110 1 [.ref (ad (0)), .int (oI (t))] σ (fun rr uu => ∃ sz2 : Nat → Nat, ∃ w2 : Nat → Nat, rr = oI (((n : Nat) : Int)) ∧ (∀ r : Nat, r < n → sz2 r = sz r ∧ w2 r = w r) ∧ uu (10) = .inr (4, [.ref (ad (11)), .ref (ad (12)), .int (oI (((n : Nat) : Int))), .int (oI (((a : Nat) : Int))), .int (oI (((g : Nat) : Int)))]) ∧ uu (11) = oAN cT 4 sz2 ∧ uu (12) = oAJ cT 4 w2 ∧ uu (0) = .inr (5, [.ref (ad (1)), .ref (ad (4)), .ref (ad (7)), .ref (ad (10)), .int (oI (ff)), .int (oI (1)), .ref (ad (13)), .ref (ad (57)), .ref (ad (59)), .ref (ad (64))]) ∧ (∀ q : Nat, q ≠ 10 → q ≠ 11 → q ≠ 12 → q ≠ 0 → uu q = σ q)) (fun E uu => False) := by
  refine m_startX (cc := cX5_save) (by decide) (Nat.le_of_ble_eq_true rfl) rfl ?_
  intro Pp Ee Ss Mm Bb Me Cc Ar ls hx hb hml hown hlk hrt hts hK hH hl hXT hnt
  have hown : Ss.vm.findClass RX5 = some Mm.cls := hown
  have hn := hwf.1
  have hl : lv_has ls 2 [(0, .ref (ad (0))), (1, .int (oI (t)))] := hl
  have hf : ∀ q : Nat, q ≠ 10 → q ≠ 11 → q ≠ 12 → q ≠ 0 → σ q = σ q := fun q _ _ _ _ => rfl
  refine lv_iload_n hx hb dX5_save_0 rfl (lv_at hl 1 rfl) ?_
  refine m_xSv hx hb hml hown hts hK hXT hH hl hlk hnt (rest := []) cw_X5_338 (c5_checkSlot hA t (by first | assumption | omega) (by first | assumption | omega) ) ⟨Nat.le_of_ble_eq_true rfl, Nat.le_of_ble_eq_true rfl⟩ ⟨Nat.le_of_ble_eq_true rfl, Nat.le_of_ble_eq_true rfl⟩ ⟨Nat.le_of_ble_eq_true rfl, Nat.le_of_ble_eq_true rfl⟩ rfl rfl rfl (Nat.le_of_ble_eq_true rfl) dX5_save_1 (fun E u h => absurd h.2.1 (fun q => q (by omega))) (fun σ_1 H locs hp_2 hH => ?_)
  obtain ⟨f_4, hu⟩ := hp_2
  have hu := hu.symm
  subst hu
  refine lv_iload_n hx hb dX5_save_4 rfl (lv_at hl 1 rfl) ?_
  refine m_if_ne 27 hx hb dX5_save_5 (by decide) (by omega) (fun h_5 => ?_) (fun h_5 => absurd h_5 (by omega))
  refine lv_aload_n hx hb dX5_save_27 rfl (lv_at hl 0 rfl) ?_
  refine gf_X5_secondSlot hx hb hts hown hK hH (k := 0) (by omega) eO dX5_save_28 ?_
  refine lv_aload_n hx hb dX5_save_31 rfl (lv_at hl 0 rfl) ?_
  refine gf_X5_present hx hb hts hown hK hH (k := 0) (by omega) eO dX5_save_32 ?_
  refine m_callVv hx hb hml hown hts hK hH hl (rest := []) cw_X5_305 (c4_become hA 10 n8 a8 g8 1 n a g sz8 w8 sz w (by first | assumption | omega) (by first | assumption | omega) (by first | assumption | omega) (by first | assumption | omega) f100 f101 f102 e0 e1 e2) ⟨Nat.le_of_ble_eq_true rfl, Nat.le_of_ble_eq_true rfl⟩ ⟨Nat.le_of_ble_eq_true rfl, Nat.le_of_ble_eq_true rfl⟩ rfl (k := 10) (by omega) f100 rfl rfl (Nat.le_of_ble_eq_true rfl) dX5_save_35 (fun σ_6 H locs hp_7 hH => ?_)
  obtain ⟨sz3, w3, hsw, f100, f101, f102, hq_8⟩ := hp_7
  have eO : σ_6 (0) = .inr (5, [.ref (ad (1)), .ref (ad (4)), .ref (ad (7)), .ref (ad (10)), .int (oI (ff)), .int (oI (sf)), .ref (ad (13)), .ref (ad (57)), .ref (ad (59)), .ref (ad (64))]) := (hq_8 _ (by decide) (by decide) (by decide)).trans eO
  have e0 : σ_6 (1) = .inr (4, [.ref (ad (2)), .ref (ad (3)), .int (oI (((n : Nat) : Int))), .int (oI (((a : Nat) : Int))), .int (oI (((g : Nat) : Int)))]) := (hq_8 _ (by decide) (by decide) (by decide)).trans e0
  have e1 : σ_6 (2) = oAN cT 4 sz := (hq_8 _ (by decide) (by decide) (by decide)).trans e1
  have e2 : σ_6 (3) = oAJ cT 4 w := (hq_8 _ (by decide) (by decide) (by decide)).trans e2
  have f70 : σ_6 (7) = .inr (4, [.ref (ad (8)), .ref (ad (9)), .int (oI (((n7 : Nat) : Int))), .int (oI (((a7 : Nat) : Int))), .int (oI (((g7 : Nat) : Int)))]) := (hq_8 _ (by decide) (by decide) (by decide)).trans f70
  have f71 : σ_6 (8) = oAN cT 4 sz7 := (hq_8 _ (by decide) (by decide) (by decide)).trans f71
  have f72 : σ_6 (9) = oAJ cT 4 w7 := (hq_8 _ (by decide) (by decide) (by decide)).trans f72
  have hf : ∀ q : Nat, q ≠ 10 → q ≠ 11 → q ≠ 12 → q ≠ 0 → σ_6 q = σ q := fun q n0 n1 n2 n3 => (hq_8 q n0 n1 n2).trans (hf q n0 n1 n2 n3)
  refine lv_aload_n hx hb dX5_save_38 rfl (lv_at hl 0 rfl) ?_
  refine m_iconst 1 hx hb dX5_save_39 rfl ?_
  refine pf_X5_secondFilled hx hb hts hown hK hH hA (k := 0) (by omega) eO m_z1 m_f1 dX5_save_40 (fun H locs σ_10 eO hq_11 hH => ?_)
  have e0 : σ_10 (1) = .inr (4, [.ref (ad (2)), .ref (ad (3)), .int (oI (((n : Nat) : Int))), .int (oI (((a : Nat) : Int))), .int (oI (((g : Nat) : Int)))]) := (hq_11 _ (by decide)).trans e0
  have e1 : σ_10 (2) = oAN cT 4 sz := (hq_11 _ (by decide)).trans e1
  have e2 : σ_10 (3) = oAJ cT 4 w := (hq_11 _ (by decide)).trans e2
  have f70 : σ_10 (7) = .inr (4, [.ref (ad (8)), .ref (ad (9)), .int (oI (((n7 : Nat) : Int))), .int (oI (((a7 : Nat) : Int))), .int (oI (((g7 : Nat) : Int)))]) := (hq_11 _ (by decide)).trans f70
  have f71 : σ_10 (8) = oAN cT 4 sz7 := (hq_11 _ (by decide)).trans f71
  have f72 : σ_10 (9) = oAJ cT 4 w7 := (hq_11 _ (by decide)).trans f72
  have f100 : σ_10 (10) = .inr (4, [.ref (ad (11)), .ref (ad (12)), .int (oI (((n : Nat) : Int))), .int (oI (((a : Nat) : Int))), .int (oI (((g : Nat) : Int)))]) := (hq_11 _ (by decide)).trans f100
  have f101 : σ_10 (11) = oAN cT 4 sz3 := (hq_11 _ (by decide)).trans f101
  have f102 : σ_10 (12) = oAJ cT 4 w3 := (hq_11 _ (by decide)).trans f102
  have hf : ∀ q : Nat, q ≠ 10 → q ≠ 11 → q ≠ 12 → q ≠ 0 → σ_10 q = σ q := fun q n0 n1 n2 n3 => (hq_11 q n3).trans (hf q n0 n1 n2 n3)
  refine lv_aload_n hx hb dX5_save_43 rfl (lv_at hl 0 rfl) ?_
  refine gf_X5_present hx hb hts hown hK hH (k := 0) (by omega) eO dX5_save_44 ?_
  refine m_pVi hx hb hml hown hts hK hH hl (rest := []) cw_X5_98 (c4_rulers hA 1 n a g sz w (by first | assumption | omega) e0 e1 e2) ⟨Nat.le_of_ble_eq_true rfl, Nat.le_of_ble_eq_true rfl⟩ ⟨Nat.le_of_ble_eq_true rfl, Nat.le_of_ble_eq_true rfl⟩ rfl (k := 1) (by omega) e0 rfl rfl (Nat.le_of_ble_eq_true rfl) dX5_save_47 (fun H locs hH => ?_)
  exact m_iretX hx hb hlk hrt hH ⟨Nat.le_of_ble_eq_true rfl, Nat.le_of_ble_eq_true rfl⟩ (m_ni _) dX5_save_50 ⟨sz3, w3, rfl, hsw, f100, f101, f102, eO, hf⟩
