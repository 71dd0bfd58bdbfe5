theorem oGc_le (w : Nat) : ∀ k : Nat, oGc w k ≤ k := by
  intro k
  rcases Nat.eq_zero_or_pos (oGc w k) with h | h
  · omega
  · refine Classical.byContradiction (fun hk => ?_)
    by_cases hb : ∃ j, 1 ≤ j ∧ j ≤ k ∧ w.testBit j = true
    · obtain ⟨j, h1, h2, h3⟩ := hb
      have := Nat.le_of_dvd (by omega) (oGc_dvd w k j h1 h2 h3)
      omega
    · have h0 : 2 * oGc w k ∣ oGc w k := oGc_big w (2 * oGc w k) k (fun j h1 h2 h3 => absurd ⟨j, h1, h2, h3⟩ hb)
      have := Nat.le_of_dvd h h0
      omega
noncomputable def oWhy (t n a sp : Nat) : Int := if t = 0 then 0 else if n = 0 then 1 else if 0 < oGc sp 40 ∧ ¬ t % oGc sp 40 = 0 then 2 else if oDist sp 0 t = -1 then 4 else if (a : Int) < oDist sp 0 t then 3 else 0
noncomputable def oLyA (sp : Nat) : Nat → Int
  | 0 => 0
  | t + 1 => if oLyA sp t = -1 ∨ oDist sp 0 (t + 1) = -1 then -1 else if oLyA sp t < oDist sp 0 (t + 1) then oDist sp 0 (t + 1) else oLyA sp t
theorem oLyA_neg {sp t : Nat} (h : oLyA sp t = -1) : ∀ d : Nat, oLyA sp (t + d) = -1
  | 0 => h
  | d + 1 => if_pos (Or.inl (oLyA_neg h d))
theorem oLyA_s {sp t : Nat} {mo dz : Int} (h1 : mo = oLyA sp t) (h0 : ¬ mo = -1) (h2 : oDist sp 0 (t + 1) = dz) (h3 : ¬ dz = -1) : max mo dz = oLyA sp (t + 1) := by
  have e : oLyA sp (t + 1) = if oLyA sp t < oDist sp 0 (t + 1) then oDist sp 0 (t + 1) else oLyA sp t := if_neg (by rw [← h1, h2]; omega)
  rw [e, ← h1, h2]
  split <;> omega
theorem oLyA_n {sp t g : Nat} {dz : Int} (h2 : oDist sp 0 (t + 1) = dz) (h3 : dz = -1) (hg : t + 1 ≤ g) : -1 = oLyA sp g := by
  have e : oLyA sp (t + 1) = -1 := if_pos (Or.inr (h2.trans h3))
  have := oLyA_neg e (g - (t + 1))
  rw [show t + 1 + (g - (t + 1)) = g by omega] at this
  exact this.symm
noncomputable def oNdB (n a g : Nat) (sz w : Nat → Nat) (r : Int) (p : Nat) : Bool := decide ((oRow n w r).testBit p = true ∧ ¬ ((p : Nat) : Int) = (oSize n sz r : Int) ∧ oCnt (oOrW n w r 4 ||| oSpr (oSet0 (oRow n w r) p) 41) a g = oCnt (oOrW n w (-1) 4) a g)
theorem oNdB_iff {n a g : Nat} {sz w : Nat → Nat} {r : Int} {p : Nat} : oNdB n a g sz w r p = true ↔ ((oRow n w r).testBit p = true ∧ ¬ ((p : Nat) : Int) = (oSize n sz r : Int) ∧ oCnt (oOrW n w r 4 ||| oSpr (oSet0 (oRow n w r) p) 41) a g = oCnt (oOrW n w (-1) 4) a g) := decide_eq_true_iff
noncomputable def oNd (n a g : Nat) (sz w : Nat → Nat) (r : Int) (k : Nat) : Nat := fb_ct (fun i => oNdB n a g sz w r (i + 1)) k
theorem oNd_y {n a g : Nat} {sz w : Nat → Nat} {r : Int} {k : Nat} (h : oNdB n a g sz w r (k + 1) = true) : oNd n a g sz w r (k + 1) = oNd n a g sz w r k + 1 := by unfold oNd; rw [fb_ct_succ, if_pos h]
theorem oNd_n {n a g : Nat} {sz w : Nat → Nat} {r : Int} {k : Nat} (h : ¬ oNdB n a g sz w r (k + 1) = true) : oNd n a g sz w r (k + 1) = oNd n a g sz w r k := by unfold oNd; rw [fb_ct_succ, if_neg h]; rfl
theorem oNd_le (n a g : Nat) (sz w : Nat → Nat) (r : Int) (k : Nat) : oNd n a g sz w r k ≤ k := fb_ct_le _ _
noncomputable def oBm (n a g : Nat) (sz w : Nat → Nat) (r : Int) : Nat → Int × Int
  | 0 => (-1, -1)
  | p + 1 => @ite _ ((((p : Nat) : Int) ≤ (oSize n sz r : Int) ∧ ¬ (oRow n w r).testBit p = true) ∧ (oBm n a g sz w r p).2 < (oCnt (oOrW n w r 4 ||| oSpr (oRow n w r ||| 2 ^ p) 41) a g : Int)) (Classical.propDecidable _) (((p : Nat) : Int), (oCnt (oOrW n w r 4 ||| oSpr (oRow n w r ||| 2 ^ p) 41) a g : Int)) (oBm n a g sz w r p)
theorem oBm_y {n a g : Nat} {sz w : Nat → Nat} {r : Int} {p : Nat} (h : (((p : Nat) : Int) ≤ (oSize n sz r : Int) ∧ ¬ (oRow n w r).testBit p = true) ∧ (oBm n a g sz w r p).2 < (oCnt (oOrW n w r 4 ||| oSpr (oRow n w r ||| 2 ^ p) 41) a g : Int)) : oBm n a g sz w r (p + 1) = (((p : Nat) : Int), (oCnt (oOrW n w r 4 ||| oSpr (oRow n w r ||| 2 ^ p) 41) a g : Int)) := if_pos h
theorem oBm_n {n a g : Nat} {sz w : Nat → Nat} {r : Int} {p : Nat} (h : ¬ ((((p : Nat) : Int) ≤ (oSize n sz r : Int) ∧ ¬ (oRow n w r).testBit p = true) ∧ (oBm n a g sz w r p).2 < (oCnt (oOrW n w r 4 ||| oSpr (oRow n w r ||| 2 ^ p) 41) a g : Int))) : oBm n a g sz w r (p + 1) = oBm n a g sz w r p := if_neg h
set_option maxHeartbeats 4000000 in
set_option maxRecDepth 100000 in
theorem c5_saveX {l : Launch} {D : va_G} {cT : Nat → ClassId} {N b0 : Nat} {ad : Nat → Nat} (hA : oAd b0 N ad) {σ : Nat → va_E} (t : Int) (n a g n7 a7 g7 n8 a8 g8 : Nat) (sz w sz7 w7 sz8 w8 : Nat → Nat) (ff sf : Int) (hl0 : l.stackTraces = false) (hN : 76 ≤ N) (hwf : oWf n sz w) (hbt : -2147483648 ≤ t ∧ t < 2147483648) (htv : ¬ (t = 0 ∨ t = 1)) (eO : σ (0) = .inr (5, [.ref (ad (1)), .ref (ad (4)), .ref (ad (7)), .ref (ad (10)), .int (oI (ff)), .int (oI (sf)), .ref (ad (13)), .ref (ad (57)), .ref (ad (59)), .ref (ad (64))])) (e0 : σ (1) = .inr (4, [.ref (ad (2)), .ref (ad (3)), .int (oI (((n : Nat) : Int))), .int (oI (((a : Nat) : Int))), .int (oI (((g : Nat) : Int)))])) (e1 : σ (2) = oAN cT 4 sz) (e2 : σ (3) = oAJ cT 4 w) (f70 : σ (7) = .inr (4, [.ref (ad (8)), .ref (ad (9)), .int (oI (((n7 : Nat) : Int))), .int (oI (((a7 : Nat) : Int))), .int (oI (((g7 : Nat) : Int)))])) (f71 : σ (8) = oAN cT 4 sz7) (f72 : σ (9) = oAJ cT 4 w7) (f100 : σ (10) = .inr (4, [.ref (ad (11)), .ref (ad (12)), .int (oI (((n8 : Nat) : Int))), .int (oI (((a8 : Nat) : Int))), .int (oI (((g8 : Nat) : Int)))])) (f101 : σ (11) = oAN cT 4 sz8) (f102 : σ (12) = oAJ cT 4 w8) :
    oXi l D cT N ad b0 yX5_save cX5_save 2 (some .int) 7 110 1 [.ref (ad (0)), .int (oI (t))] σ (fun rr uu => rr = oI (((n : Nat) : Int)) ∧ (False) ∧ (∀ q : Nat, uu q = σ q)) (fun E uu => E = oIO ∧ uu = σ) := by
  refine m_startX (cc := cX5_save) (by decide) (Nat.le_of_ble_eq_true rfl) rfl ?_
  intro Pp Ee Ss Mm Bb Me Cc Ar ls hx hb hml hown hlk hrt hts hK hH hl hXT hnt
  have hown : Ss.vm.findClass RX5 = some Mm.cls := hown
  have hl : lv_has ls 2 [(0, .ref (ad (0))), (1, .int (oI (t)))] := hl
  refine lv_iload_n hx hb dX5_save_0 rfl (lv_at hl 1 rfl) ?_
  refine m_xSv hx hb hml hown hts hK hXT hH hl hlk hnt (rest := []) cw_X5_338 (c5_checkSlot hA t (by first | assumption | omega) (by first | assumption | omega) ) ⟨Nat.le_of_ble_eq_true rfl, Nat.le_of_ble_eq_true rfl⟩ ⟨Nat.le_of_ble_eq_true rfl, Nat.le_of_ble_eq_true rfl⟩ ⟨Nat.le_of_ble_eq_true rfl, Nat.le_of_ble_eq_true rfl⟩ rfl rfl rfl (Nat.le_of_ble_eq_true rfl) dX5_save_1 (fun E u h => ⟨h.1, h.2.2⟩) (fun σ_1 H locs hp_2 hH => ?_)
  obtain ⟨hbad, hu⟩ := hp_2
  have hu := hu.symm
  subst hu
  exact absurd hbad htv
set_option maxHeartbeats 4000000 in
set_option maxRecDepth 100000 in
theorem c5_restore0 {l : Launch} {D : va_G} {cT : Nat → ClassId} {N b0 : Nat} {ad : Nat → Nat} (hA : oAd b0 N ad) {σ : Nat → va_E} (t : Int) (nx ms : Nat) (n a g n7 a7 g7 n8 a8 g8 : Nat) (sz w sz7 w7 sz8 w8 : Nat → Nat) (ff sf : Int) (hl0 : l.stackTraces = false) (hN : 76 ≤ N) (hn7 : n7 ≤ 4) (hff : ff = 0 ∨ ff = 1) (hbt : -2147483648 ≤ t ∧ t < 2147483648) (htv : t = 0) (eO : σ (0) = .inr (5, [.ref (ad (1)), .ref (ad (4)), .ref (ad (7)), .ref (ad (10)), .int (oI (ff)), .int (oI (sf)), .ref (ad (13)), .ref (ad (57)), .ref (ad (59)), .ref (ad (64))])) (e0 : σ (1) = .inr (4, [.ref (ad (2)), .ref (ad (3)), .int (oI (((n : Nat) : Int))), .int (oI (((a : Nat) : Int))), .int (oI (((g : Nat) : Int)))])) (e1 : σ (2) = oAN cT 4 sz) (e2 : σ (3) = oAJ cT 4 w) (f70 : σ (7) = .inr (4, [.ref (ad (8)), .ref (ad (9)), .int (oI (((n7 : Nat) : Int))), .int (oI (((a7 : Nat) : Int))), .int (oI (((g7 : Nat) : Int)))])) (f71 : σ (8) = oAN cT 4 sz7) (f72 : σ (9) = oAJ cT 4 w7) (f100 : σ (10) = .inr (4, [.ref (ad (11)), .ref (ad (12)), .int (oI (((n8 : Nat) : Int))), .int (oI (((a8 : Nat) : Int))), .int (oI (((g8 : Nat) : Int)))])) (f101 : σ (11) = oAN cT 4 sz8) (f102 : σ (12) = oAJ cT 4 w8) (eM : σ (13) = .inr (2, [.ref (ad (14)), .int (oI (((nx : Nat) : Int))), .int (oI (((ms : Nat) : Int)))])) :
    oXi l D cT N ad b0 yX5_restore cX5_restore 2 (some .int) 7 110 2 [.ref (ad (0)), .int (oI (t))] σ (fun rr uu => ∃ sz2 : Nat → Nat, ∃ w2 : Nat → Nat, rr = oI (((n7 : Nat) : Int)) ∧ (ff = 1) ∧ (∀ r : Nat, r < n7 → sz2 r = sz7 r ∧ w2 r = w7 r) ∧ uu (1) = .inr (4, [.ref (ad (2)), .ref (ad (3)), .int (oI (((n7 : Nat) : Int))), .int (oI (((a7 : Nat) : Int))), .int (oI (((g7 : Nat) : Int)))]) ∧ uu (2) = oAN cT 4 sz2 ∧ uu (3) = oAJ cT 4 w2 ∧ uu (13) = .inr (2, [.ref (ad (14)), .int (oI (((nx : Nat) : Int))), .int (oI (0))]) ∧ (∀ q : Nat, q ≠ 1 → q ≠ 2 → q ≠ 3 → q ≠ 13 → uu q = σ q)) (fun E uu => (E = oIS ∧ ff = 0) ∧ uu = σ) := by
  refine m_startX (cc := cX5_restore) (by decide) (Nat.le_of_ble_eq_true rfl) rfl ?_
  intro Pp Ee Ss Mm Bb Me Cc Ar ls hx hb hml hown hlk hrt hts hK hH hl hXT hnt
  have hown : Ss.vm.findClass RX5 = some Mm.cls := hown
  have hl : lv_has ls 2 [(0, .ref (ad (0))), (1, .int (oI (t)))] := hl
  have hf : ∀ q : Nat, q ≠ 1 → q ≠ 2 → q ≠ 3 → q ≠ 13 → σ q = σ q := fun q _ _ _ _ => rfl
  refine lv_iload_n hx hb dX5_restore_0 rfl (lv_at hl 1 rfl) ?_
  refine m_xSv hx hb hml hown hts hK hXT hH hl hlk hnt (rest := []) cw_X5_338 (c5_checkSlot hA t (by first | assumption | omega) (by first | assumption | omega) ) ⟨Nat.le_of_ble_eq_true rfl, Nat.le_of_ble_eq_true rfl⟩ ⟨Nat.le_of_ble_eq_true rfl, Nat.le_of_ble_eq_true rfl⟩ ⟨Nat.le_of_ble_eq_true rfl, Nat.le_of_ble_eq_true rfl⟩ rfl rfl rfl (Nat.le_of_ble_eq_true rfl) dX5_restore_1 (fun E u h => absurd h.2.1 (fun q => q (by omega))) (fun σ_1 H locs hp_2 hH => ?_)
  obtain ⟨f_4, hu⟩ := hp_2
  have hu := hu.symm
  subst hu
  refine lv_iload_n hx hb dX5_restore_4 rfl (lv_at hl 1 rfl) ?_
  refine m_if_ne 18 hx hb dX5_restore_5 (by decide) (by omega) (fun h_5 => absurd h_5 (by omega)) (fun h_5 => ?_)
  refine lv_aload_n hx hb dX5_restore_8 rfl (lv_at hl 0 rfl) ?_
  refine gf_X5_firstFilled hx hb hts hown hK hH (k := 0) (by omega) eO dX5_restore_9 ?_
  refine m_if_eq 25 hx hb dX5_restore_12 (by decide) (by omega) (fun h_6 => ?_) (fun h_6 => ?_)
  · exact m_throwW (text := "nothing has been saved") hx hb hl0 hml hown hts hK hXT hH hl hlk hnt oth_1 (by decide) dX5_restore_25 dX5_restore_28 dX5_restore_29 dX5_restore_32 dX5_restore_35 ⟨Nat.le_of_ble_eq_true rfl, Nat.le_of_ble_eq_true rfl⟩ (Nat.le_of_ble_eq_true rfl) ⟨Nat.le_of_ble_eq_true rfl, Nat.le_of_ble_eq_true rfl⟩ ⟨Nat.le_of_ble_eq_true rfl, Nat.le_of_ble_eq_true rfl⟩ (⟨⟨rfl, by omega⟩, rfl⟩)
  · refine lv_goto (tgt := 36) hx hb dX5_restore_15 (by decide) ?_
    refine lv_aload_n hx hb dX5_restore_36 rfl (lv_at hl 0 rfl) ?_
    refine gf_X5_present hx hb hts hown hK hH (k := 0) (by omega) eO dX5_restore_37 ?_
    refine lv_iload_n hx hb dX5_restore_40 rfl (lv_at hl 1 rfl) ?_
    refine m_if_ne 51 hx hb dX5_restore_41 (by decide) (by omega) (fun h_7 => absurd h_7 (by omega)) (fun h_7 => ?_)
    refine lv_aload_n hx hb dX5_restore_44 rfl (lv_at hl 0 rfl) ?_
    refine gf_X5_firstSlot hx hb hts hown hK hH (k := 0) (by omega) eO dX5_restore_45 ?_
    refine lv_goto (tgt := 55) hx hb dX5_restore_48 (by decide) ?_
    refine m_callVv hx hb hml hown hts hK hH hl (rest := []) cw_X5_305 (c4_become hA 1 n a g 7 n7 a7 g7 sz w sz7 w7 (by first | assumption | omega) (by first | assumption | omega) (by first | assumption | omega) (by first | assumption | omega) e0 e1 e2 f70 f71 f72) ⟨Nat.le_of_ble_eq_true rfl, Nat.le_of_ble_eq_true rfl⟩ ⟨Nat.le_of_ble_eq_true rfl, Nat.le_of_ble_eq_true rfl⟩ rfl (k := 1) (by omega) e0 rfl rfl (Nat.le_of_ble_eq_true rfl) dX5_restore_55 (fun σ_8 H locs hp_9 hH => ?_)
    obtain ⟨sz3, w3, hsw, e0, e1, e2, hq_10⟩ := hp_9
    have eO : σ_8 (0) = .inr (5, [.ref (ad (1)), .ref (ad (4)), .ref (ad (7)), .ref (ad (10)), .int (oI (ff)), .int (oI (sf)), .ref (ad (13)), .ref (ad (57)), .ref (ad (59)), .ref (ad (64))]) := (hq_10 _ (by decide) (by decide) (by decide)).trans eO
    have f70 : σ_8 (7) = .inr (4, [.ref (ad (8)), .ref (ad (9)), .int (oI (((n7 : Nat) : Int))), .int (oI (((a7 : Nat) : Int))), .int (oI (((g7 : Nat) : Int)))]) := (hq_10 _ (by decide) (by decide) (by decide)).trans f70
    have f71 : σ_8 (8) = oAN cT 4 sz7 := (hq_10 _ (by decide) (by decide) (by decide)).trans f71
    have f72 : σ_8 (9) = oAJ cT 4 w7 := (hq_10 _ (by decide) (by decide) (by decide)).trans f72
    have f100 : σ_8 (10) = .inr (4, [.ref (ad (11)), .ref (ad (12)), .int (oI (((n8 : Nat) : Int))), .int (oI (((a8 : Nat) : Int))), .int (oI (((g8 : Nat) : Int)))]) := (hq_10 _ (by decide) (by decide) (by decide)).trans f100
    have f101 : σ_8 (11) = oAN cT 4 sz8 := (hq_10 _ (by decide) (by decide) (by decide)).trans f101
    have f102 : σ_8 (12) = oAJ cT 4 w8 := (hq_10 _ (by decide) (by decide) (by decide)).trans f102
    have eM : σ_8 (13) = .inr (2, [.ref (ad (14)), .int (oI (((nx : Nat) : Int))), .int (oI (((ms : Nat) : Int)))]) := (hq_10 _ (by decide) (by decide) (by decide)).trans eM
    have hf : ∀ q : Nat, q ≠ 1 → q ≠ 2 → q ≠ 3 → q ≠ 13 → σ_8 q = σ q := fun q n0 n1 n2 n3 => (hq_10 q n0 n1 n2).trans (hf q n0 n1 n2 n3)
    refine lv_aload_n hx hb dX5_restore_58 rfl (lv_at hl 0 rfl) ?_
    refine gf_X5_memory hx hb hts hown hK hH (k := 0) (by omega) eO dX5_restore_59 ?_
    refine m_callVv hx hb hml hown hts hK hH hl (rest := []) cw_X5_84 (c2_forget hA nx ms (by first | assumption | omega) eM) ⟨Nat.le_of_ble_eq_true rfl, Nat.le_of_ble_eq_true rfl⟩ ⟨Nat.le_of_ble_eq_true rfl, Nat.le_of_ble_eq_true rfl⟩ rfl (k := 13) (by omega) eM rfl rfl (Nat.le_of_ble_eq_true rfl) dX5_restore_62 (fun σ_12 H locs hp_13 hH => ?_)
    obtain ⟨eM, hq_14⟩ := hp_13
    have eO : σ_12 (0) = .inr (5, [.ref (ad (1)), .ref (ad (4)), .ref (ad (7)), .ref (ad (10)), .int (oI (ff)), .int (oI (sf)), .ref (ad (13)), .ref (ad (57)), .ref (ad (59)), .ref (ad (64))]) := (hq_14 _ (by decide)).trans eO
    have e0 : σ_12 (1) = .inr (4, [.ref (ad (2)), .ref (ad (3)), .int (oI (((n7 : Nat) : Int))), .int (oI (((a7 : Nat) : Int))), .int (oI (((g7 : Nat) : Int)))]) := (hq_14 _ (by decide)).trans e0
    have e1 : σ_12 (2) = oAN cT 4 sz3 := (hq_14 _ (by decide)).trans e1
    have e2 : σ_12 (3) = oAJ cT 4 w3 := (hq_14 _ (by decide)).trans e2
    have f70 : σ_12 (7) = .inr (4, [.ref (ad (8)), .ref (ad (9)), .int (oI (((n7 : Nat) : Int))), .int (oI (((a7 : Nat) : Int))), .int (oI (((g7 : Nat) : Int)))]) := (hq_14 _ (by decide)).trans f70
    have f71 : σ_12 (8) = oAN cT 4 sz7 := (hq_14 _ (by decide)).trans f71
    have f72 : σ_12 (9) = oAJ cT 4 w7 := (hq_14 _ (by decide)).trans f72
    have f100 : σ_12 (10) = .inr (4, [.ref (ad (11)), .ref (ad (12)), .int (oI (((n8 : Nat) : Int))), .int (oI (((a8 : Nat) : Int))), .int (oI (((g8 : Nat) : Int)))]) := (hq_14 _ (by decide)).trans f100
    have f101 : σ_12 (11) = oAN cT 4 sz8 := (hq_14 _ (by decide)).trans f101
    have f102 : σ_12 (12) = oAJ cT 4 w8 := (hq_14 _ (by decide)).trans f102
    have hf : ∀ q : Nat, q ≠ 1 → q ≠ 2 → q ≠ 3 → q ≠ 13 → σ_12 q = σ q := fun q n0 n1 n2 n3 => (hq_14 q n3).trans (hf q n0 n1 n2 n3)
    refine lv_aload_n hx hb dX5_restore_65 rfl (lv_at hl 0 rfl) ?_
    refine gf_X5_present hx hb hts hown hK hH (k := 0) (by omega) eO dX5_restore_66 ?_
    refine m_pVi hx hb hml hown hts hK hH hl (rest := []) cw_X5_98 (c4_rulers hA 1 n7 a7 g7 sz3 w3 (by first | assumption | omega) e0 e1 e2) ⟨Nat.le_of_ble_eq_true rfl, Nat.le_of_ble_eq_true rfl⟩ ⟨Nat.le_of_ble_eq_true rfl, Nat.le_of_ble_eq_true rfl⟩ rfl (k := 1) (by omega) e0 rfl rfl (Nat.le_of_ble_eq_true rfl) dX5_restore_69 (fun H locs hH => ?_)
    exact m_iretX hx hb hlk hrt hH ⟨Nat.le_of_ble_eq_true rfl, Nat.le_of_ble_eq_true rfl⟩ (m_ni _) dX5_restore_72 ⟨sz3, w3, rfl, (by omega), hsw, e0, e1, e2, eM, hf⟩
set_option maxHeartbeats 4000000 in
set_option maxRecDepth 100000 in
theorem c5_restore1 {l : Launch} {D : va_G} {cT : Nat → ClassId} {N b0 : Nat} {ad : Nat → Nat} (hA : oAd b0 N ad) {σ : Nat → va_E} (t : Int) (nx ms : Nat) (n a g n7 a7 g7 n8 a8 g8 : Nat) (sz w sz7 w7 sz8 w8 : Nat → Nat) (ff sf : Int) (hl0 : l.stackTraces = false) (hN : 76 ≤ N) (hn7 : n8 ≤ 4) (hff : sf = 0 ∨ sf = 1) (hbt : -2147483648 ≤ t ∧ t < 2147483648) (htv : t = 1) (eO : σ (0) = .inr (5, [.ref (ad (1)), .ref (ad (4)), .ref (ad (7)), .ref (ad (10)), .int (oI (ff)), .int (oI (sf)), .ref (ad (13)), .ref (ad (57)), .ref (ad (59)), .ref (ad (64))])) (e0 : σ (1) = .inr (4, [.ref (ad (2)), .ref (ad (3)), .int (oI (((n : Nat) : Int))), .int (oI (((a : Nat) : Int))), .int (oI (((g : Nat) : Int)))])) (e1 : σ (2) = oAN cT 4 sz) (e2 : σ (3) = oAJ cT 4 w) (f70 : σ (7) = .inr (4, [.ref (ad (8)), .ref (ad (9)), .int (oI (((n7 : Nat) : Int))), .int (oI (((a7 : Nat) : Int))), .int (oI (((g7 : Nat) : Int)))])) (f71 : σ (8) = oAN cT 4 sz7) (f72 : σ (9) = oAJ cT 4 w7) (f100 : σ (10) = .inr (4, [.ref (ad (11)), .ref (ad (12)), .int (oI (((n8 : Nat) : Int))), .int (oI (((a8 : Nat) : Int))), .int (oI (((g8 : Nat) : Int)))])) (f101 : σ (11) = oAN cT 4 sz8) (f102 : σ (12) = oAJ cT 4 w8) (eM : σ (13) = .inr (2, [.ref (ad (14)), .int (oI (((nx : Nat) : Int))), .int (oI (((ms : Nat) : Int)))])) :
    oXi l D cT N ad b0 yX5_restore cX5_restore 2 (some .int) 7 110 2 [.ref (ad (0)), .int (oI (t))] σ (fun rr uu => ∃ sz2 : Nat → Nat, ∃ w2 : Nat → Nat, rr = oI (((n8 : Nat) : Int)) ∧ (sf = 1) ∧ (∀ r : Nat, r < n8 → sz2 r = sz8 r ∧ w2 r = w8 r) ∧ uu (1) = .inr (4, [.ref (ad (2)), .ref (ad (3)), .int (oI (((n8 : Nat) : Int))), .int (oI (((a8 : Nat) : Int))), .int (oI (((g8 : Nat) : Int)))]) ∧ uu (2) = oAN cT 4 sz2 ∧ uu (3) = oAJ cT 4 w2 ∧ uu (13) = .inr (2, [.ref (ad (14)), .int (oI (((nx : Nat) : Int))), .int (oI (0))]) ∧ (∀ q : Nat, q ≠ 1 → q ≠ 2 → q ≠ 3 → q ≠ 13 → uu q = σ q)) (fun E uu => (E = oIS ∧ sf = 0) ∧ uu = σ) := by
  refine m_startX (cc := cX5_restore) (by decide) (Nat.le_of_ble_eq_true rfl) rfl ?_
  intro Pp Ee Ss Mm Bb Me Cc Ar ls hx hb hml hown hlk hrt hts hK hH hl hXT hnt
  have hown : Ss.vm.findClass RX5 = some Mm.cls := hown
  have hl : lv_has ls 2 [(0, .ref (ad (0))), (1, .int (oI (t)))] := hl
  have hf : ∀ q : Nat, q ≠ 1 → q ≠ 2 → q ≠ 3 → q ≠ 13 → σ q = σ q := fun q _ _ _ _ => rfl
  refine lv_iload_n hx hb dX5_restore_0 rfl (lv_at hl 1 rfl) ?_
  refine m_xSv hx hb hml hown hts hK hXT hH hl hlk hnt (rest := []) cw_X5_338 (c5_checkSlot hA t (by first | assumption | omega) (by first | assumption | omega) ) ⟨Nat.le_of_ble_eq_true rfl, Nat.le_of_ble_eq_true rfl⟩ ⟨Nat.le_of_ble_eq_true rfl, Nat.le_of_ble_eq_true rfl⟩ ⟨Nat.le_of_ble_eq_true rfl, Nat.le_of_ble_eq_true rfl⟩ rfl rfl rfl (Nat.le_of_ble_eq_true rfl) dX5_restore_1 (fun E u h => absurd h.2.1 (fun q => q (by omega))) (fun σ_1 H locs hp_2 hH => ?_)
  obtain ⟨f_4, hu⟩ := hp_2
  have hu := hu.symm
  subst hu
  refine lv_iload_n hx hb dX5_restore_4 rfl (lv_at hl 1 rfl) ?_
  refine m_if_ne 18 hx hb dX5_restore_5 (by decide) (by omega) (fun h_5 => ?_) (fun h_5 => absurd h_5 (by omega))
  refine lv_aload_n hx hb dX5_restore_18 rfl (lv_at hl 0 rfl) ?_
  refine gf_X5_secondFilled hx hb hts hown hK hH (k := 0) (by omega) eO dX5_restore_19 ?_
  refine m_if_ne 36 hx hb dX5_restore_22 (by decide) (by omega) (fun h_6 => ?_) (fun h_6 => ?_)
  · refine lv_aload_n hx hb dX5_restore_36 rfl (lv_at hl 0 rfl) ?_
    refine gf_X5_present hx hb hts hown hK hH (k := 0) (by omega) eO dX5_restore_37 ?_
    refine lv_iload_n hx hb dX5_restore_40 rfl (lv_at hl 1 rfl) ?_
    refine m_if_ne 51 hx hb dX5_restore_41 (by decide) (by omega) (fun h_7 => ?_) (fun h_7 => absurd h_7 (by omega))
    refine lv_aload_n hx hb dX5_restore_51 rfl (lv_at hl 0 rfl) ?_
    refine gf_X5_secondSlot hx hb hts hown hK hH (k := 0) (by omega) eO dX5_restore_52 ?_
    refine m_callVv hx hb hml hown hts hK hH hl (rest := []) cw_X5_305 (c4_become hA 1 n a g 10 n8 a8 g8 sz w sz8 w8 (by first | assumption | omega) (by first | assumption | omega) (by first | assumption | omega) (by first | assumption | omega) e0 e1 e2 f100 f101 f102) ⟨Nat.le_of_ble_eq_true rfl, Nat.le_of_ble_eq_true rfl⟩ ⟨Nat.le_of_ble_eq_true rfl, Nat.le_of_ble_eq_true rfl⟩ rfl (k := 1) (by omega) e0 rfl rfl (Nat.le_of_ble_eq_true rfl) dX5_restore_55 (fun σ_8 H locs hp_9 hH => ?_)
    obtain ⟨sz3, w3, hsw, e0, e1, e2, hq_10⟩ := hp_9
    have eO : σ_8 (0) = .inr (5, [.ref (ad (1)), .ref (ad (4)), .ref (ad (7)), .ref (ad (10)), .int (oI (ff)), .int (oI (sf)), .ref (ad (13)), .ref (ad (57)), .ref (ad (59)), .ref (ad (64))]) := (hq_10 _ (by decide) (by decide) (by decide)).trans eO
    have f70 : σ_8 (7) = .inr (4, [.ref (ad (8)), .ref (ad (9)), .int (oI (((n7 : Nat) : Int))), .int (oI (((a7 : Nat) : Int))), .int (oI (((g7 : Nat) : Int)))]) := (hq_10 _ (by decide) (by decide) (by decide)).trans f70
    have f71 : σ_8 (8) = oAN cT 4 sz7 := (hq_10 _ (by decide) (by decide) (by decide)).trans f71
    have f72 : σ_8 (9) = oAJ cT 4 w7 := (hq_10 _ (by decide) (by decide) (by decide)).trans f72
    have f100 : σ_8 (10) = .inr (4, [.ref (ad (11)), .ref (ad (12)), .int (oI (((n8 : Nat) : Int))), .int (oI (((a8 : Nat) : Int))), .int (oI (((g8 : Nat) : Int)))]) := (hq_10 _ (by decide) (by decide) (by decide)).trans f100
    have f101 : σ_8 (11) = oAN cT 4 sz8 := (hq_10 _ (by decide) (by decide) (by decide)).trans f101
    have f102 : σ_8 (12) = oAJ cT 4 w8 := (hq_10 _ (by decide) (by decide) (by decide)).trans f102
    have eM : σ_8 (13) = .inr (2, [.ref (ad (14)), .int (oI (((nx : Nat) : Int))), .int (oI (((ms : Nat) : Int)))]) := (hq_10 _ (by decide) (by decide) (by decide)).trans eM
    have hf : ∀ q : Nat, q ≠ 1 → q ≠ 2 → q ≠ 3 → q ≠ 13 → σ_8 q = σ q := fun q n0 n1 n2 n3 => (hq_10 q n0 n1 n2).trans (hf q n0 n1 n2 n3)
    refine lv_aload_n hx hb dX5_restore_58 rfl (lv_at hl 0 rfl) ?_
    refine gf_X5_memory hx hb hts hown hK hH (k := 0) (by omega) eO dX5_restore_59 ?_
    refine m_callVv hx hb hml hown hts hK hH hl (rest := []) cw_X5_84 (c2_forget hA nx ms (by first | assumption | omega) eM) ⟨Nat.le_of_ble_eq_true rfl, Nat.le_of_ble_eq_true rfl⟩ ⟨Nat.le_of_ble_eq_true rfl, Nat.le_of_ble_eq_true rfl⟩ rfl (k := 13) (by omega) eM rfl rfl (Nat.le_of_ble_eq_true rfl) dX5_restore_62 (fun σ_12 H locs hp_13 hH => ?_)
    obtain ⟨eM, hq_14⟩ := hp_13
    have eO : σ_12 (0) = .inr (5, [.ref (ad (1)), .ref (ad (4)), .ref (ad (7)), .ref (ad (10)), .int (oI (ff)), .int (oI (sf)), .ref (ad (13)), .ref (ad (57)), .ref (ad (59)), .ref (ad (64))]) := (hq_14 _ (by decide)).trans eO
    have e0 : σ_12 (1) = .inr (4, [.ref (ad (2)), .ref (ad (3)), .int (oI (((n8 : Nat) : Int))), .int (oI (((a8 : Nat) : Int))), .int (oI (((g8 : Nat) : Int)))]) := (hq_14 _ (by decide)).trans e0
    have e1 : σ_12 (2) = oAN cT 4 sz3 := (hq_14 _ (by decide)).trans e1
    have e2 : σ_12 (3) = oAJ cT 4 w3 := (hq_14 _ (by decide)).trans e2
    have f70 : σ_12 (7) = .inr (4, [.ref (ad (8)), .ref (ad (9)), .int (oI (((n7 : Nat) : Int))), .int (oI (((a7 : Nat) : Int))), .int (oI (((g7 : Nat) : Int)))]) := (hq_14 _ (by decide)).trans f70
    have f71 : σ_12 (8) = oAN cT 4 sz7 := (hq_14 _ (by decide)).trans f71
    have f72 : σ_12 (9) = oAJ cT 4 w7 := (hq_14 _ (by decide)).trans f72
    have f100 : σ_12 (10) = .inr (4, [.ref (ad (11)), .ref (ad (12)), .int (oI (((n8 : Nat) : Int))), .int (oI (((a8 : Nat) : Int))), .int (oI (((g8 : Nat) : Int)))]) := (hq_14 _ (by decide)).trans f100
    have f101 : σ_12 (11) = oAN cT 4 sz8 := (hq_14 _ (by decide)).trans f101
    have f102 : σ_12 (12) = oAJ cT 4 w8 := (hq_14 _ (by decide)).trans f102
    have hf : ∀ q : Nat, q ≠ 1 → q ≠ 2 → q ≠ 3 → q ≠ 13 → σ_12 q = σ q := fun q n0 n1 n2 n3 => (hq_14 q n3).trans (hf q n0 n1 n2 n3)
    refine lv_aload_n hx hb dX5_restore_65 rfl (lv_at hl 0 rfl) ?_
    refine gf_X5_present hx hb hts hown hK hH (k := 0) (by omega) eO dX5_restore_66 ?_
    refine m_pVi hx hb hml hown hts hK hH hl (rest := []) cw_X5_98 (c4_rulers hA 1 n8 a8 g8 sz3 w3 (by first | assumption | omega) e0 e1 e2) ⟨Nat.le_of_ble_eq_true rfl, Nat.le_of_ble_eq_true rfl⟩ ⟨Nat.le_of_ble_eq_true rfl, Nat.le_of_ble_eq_true rfl⟩ rfl (k := 1) (by omega) e0 rfl rfl (Nat.le_of_ble_eq_true rfl) dX5_restore_69 (fun H locs hH => ?_)
    exact m_iretX hx hb hlk hrt hH ⟨Nat.le_of_ble_eq_true rfl, Nat.le_of_ble_eq_true rfl⟩ (m_ni _) dX5_restore_72 ⟨sz3, w3, rfl, (by omega), hsw, e0, e1, e2, eM, hf⟩
  · exact m_throwW (text := "nothing has been saved") hx hb hl0 hml hown hts hK hXT hH hl hlk hnt oth_1 (by decide) dX5_restore_25 dX5_restore_28 dX5_restore_29 dX5_restore_32 dX5_restore_35 ⟨Nat.le_of_ble_eq_true rfl, Nat.le_of_ble_eq_true rfl⟩ (Nat.le_of_ble_eq_true rfl) ⟨Nat.le_of_ble_eq_true rfl, Nat.le_of_ble_eq_true rfl⟩ ⟨Nat.le_of_ble_eq_true rfl, Nat.le_of_ble_eq_true rfl⟩ (⟨⟨rfl, by omega⟩, rfl⟩)
set_option maxHeartbeats 4000000 in
set_option maxRecDepth 100000 in
theorem c5_restoreX {l : Launch} {D : va_G} {cT : Nat → ClassId} {N b0 : Nat} {ad : Nat → Nat} (hA : oAd b0 N ad) {σ : Nat → va_E} (t : Int) (nx ms : Nat) (n a g n7 a7 g7 n8 a8 g8 : Nat) (sz w sz7 w7 sz8 w8 : Nat → Nat) (ff sf : Int) (hl0 : l.stackTraces = false) (hN : 76 ≤ N) (hbt : -2147483648 ≤ t ∧ t < 2147483648) (htv : ¬ (t = 0 ∨ t = 1)) (eO : σ (0) = .inr (5, [.ref (ad (1)), .ref (ad (4)), .ref (ad (7)), .ref (ad (10)), .int (oI (ff)), .int (oI (sf)), .ref (ad (13)), .ref (ad (57)), .ref (ad (59)), .ref (ad (64))])) (e0 : σ (1) = .inr (4, [.ref (ad (2)), .ref (ad (3)), .int (oI (((n : Nat) : Int))), .int (oI (((a : Nat) : Int))), .int (oI (((g : Nat) : Int)))])) (e1 : σ (2) = oAN cT 4 sz) (e2 : σ (3) = oAJ cT 4 w) (f70 : σ (7) = .inr (4, [.ref (ad (8)), .ref (ad (9)), .int (oI (((n7 : Nat) : Int))), .int (oI (((a7 : Nat) : Int))), .int (oI (((g7 : Nat) : Int)))])) (f71 : σ (8) = oAN cT 4 sz7) (f72 : σ (9) = oAJ cT 4 w7) (f100 : σ (10) = .inr (4, [.ref (ad (11)), .ref (ad (12)), .int (oI (((n8 : Nat) : Int))), .int (oI (((a8 : Nat) : Int))), .int (oI (((g8 : Nat) : Int)))])) (f101 : σ (11) = oAN cT 4 sz8) (f102 : σ (12) = oAJ cT 4 w8) (eM : σ (13) = .inr (2, [.ref (ad (14)), .int (oI (((nx : Nat) : Int))), .int (oI (((ms : Nat) : Int)))])) :
    oXi l D cT N ad b0 yX5_restore cX5_restore 2 (some .int) 7 110 1 [.ref (ad (0)), .int (oI (t))] σ (fun rr uu => rr = oI (((n : Nat) : Int)) ∧ (False) ∧ (∀ q : Nat, uu q = σ q)) (fun E uu => E = oIO ∧ uu = σ) := by
  refine m_startX (cc := cX5_restore) (by decide) (Nat.le_of_ble_eq_true rfl) rfl ?_
  intro Pp Ee Ss Mm Bb Me Cc Ar ls hx hb hml hown hlk hrt hts hK hH hl hXT hnt
  have hown : Ss.vm.findClass RX5 = some Mm.cls := hown
  have hl : lv_has ls 2 [(0, .ref (ad (0))), (1, .int (oI (t)))] := hl
  refine lv_iload_n hx hb dX5_restore_0 rfl (lv_at hl 1 rfl) ?_
  refine m_xSv hx hb hml hown hts hK hXT hH hl hlk hnt (rest := []) cw_X5_338 (c5_checkSlot hA t (by first | assumption | omega) (by first | assumption | omega) ) ⟨Nat.le_of_ble_eq_true rfl, Nat.le_of_ble_eq_true rfl⟩ ⟨Nat.le_of_ble_eq_true rfl, Nat.le_of_ble_eq_true rfl⟩ ⟨Nat.le_of_ble_eq_true rfl, Nat.le_of_ble_eq_true rfl⟩ rfl rfl rfl (Nat.le_of_ble_eq_true rfl) dX5_restore_1 (fun E u h => ⟨h.1, h.2.2⟩) (fun σ_1 H locs hp_2 hH => ?_)
  obtain ⟨hbad, hu⟩ := hp_2
  have hu := hu.symm
  subst hu
  exact absurd hbad htv
set_option maxHeartbeats 4000000 in
set_option maxRecDepth 100000 in
theorem c5_why {l : Launch} {D : va_G} {cT : Nat → ClassId} {N b0 : Nat} {ad : Nat → Nat} (hA : oAd b0 N ad) {σ : Nat → va_E} (t : Int) (n a g : Nat) (sz w : Nat → Nat) (ld : Nat) (wr gr : Nat → Nat) (S Ln : Nat → Int) (ff sf : Int) (hl0 : l.stackTraces = false) (hN : 76 ≤ N) (hwf : oWf n sz w) (hag : oAg a g) (hbt : -2147483648 ≤ t ∧ t < 2147483648) (eO : σ (0) = .inr (5, [.ref (ad (1)), .ref (ad (4)), .ref (ad (7)), .ref (ad (10)), .int (oI (ff)), .int (oI (sf)), .ref (ad (13)), .ref (ad (57)), .ref (ad (59)), .ref (ad (64))])) (e0 : σ (1) = .inr (4, [.ref (ad (2)), .ref (ad (3)), .int (oI (((n : Nat) : Int))), .int (oI (((a : Nat) : Int))), .int (oI (((g : Nat) : Int)))])) (e1 : σ (2) = oAN cT 4 sz) (e2 : σ (3) = oAJ cT 4 w) (e59 : σ (59) = .inr (3, [.ref (ad (60)), .ref (ad (61)), .int (oI (((ld : Nat) : Int))), .ref (ad (62)), .ref (ad (63))])) (e60 : σ (60) = oAI cT 201 S) (e61 : σ (61) = oAI cT 201 Ln) (e62 : σ (62) = oAJ cT 4 wr) (e63 : σ (63) = oAJ cT 4 gr) :
    oXi l D cT N ad b0 yX5_why cX5_why 4 (some .int) 7 110 1 [.ref (ad (0)), .int (oI (t))] σ (fun rr uu => ∃ ld2 : Nat, ∃ S2 : Nat → Int, ∃ Ln2 : Nat → Int, rr = oI ((oWhy t.toNat n a (oOrW n w (-1) 4))) ∧ (0 ≤ t ∧ t ≤ 200) ∧ uu (59) = .inr (3, [.ref (ad (60)), .ref (ad (61)), .int (oI (((ld2 : Nat) : Int))), .ref (ad (62)), .ref (ad (63))]) ∧ uu (60) = oAI cT 201 S2 ∧ uu (61) = oAI cT 201 Ln2 ∧ (∀ q : Nat, q ≠ 59 → q ≠ 60 → q ≠ 61 → uu q = σ q)) (fun E uu => (E = oIA ∧ ¬ (0 ≤ t ∧ t ≤ 200)) ∧ uu = σ) := by
  refine m_startX (cc := cX5_why) (by decide) (Nat.le_of_ble_eq_true rfl) rfl ?_
  intro Pp Ee Ss Mm Bb Me Cc Ar ls hx hb hml hown hlk hrt hts hK hH hl hXT hnt
  have hown : Ss.vm.findClass RX5 = some Mm.cls := hown
  have hn := hwf.1
  have hsz := oSize_le hwf
  have hw64 := oRow_64 hwf
  have hw41 := oRow_lt hwf
  have hs64 := oOrW_64 n w (-1) 4
  have ha6 := hag.1
  obtain ⟨G9, hG9⟩ : ∃ y : Nat, oEq (oGc (oOrW n w (-1) 4) 40) y := ⟨oGc (oOrW n w (-1) 4) 40, Eq.refl (oGc (oOrW n w (-1) 4) 40)⟩
  have hG40 : G9 ≤ 40 := by rw [← (show oGc (oOrW n w (-1) 4) 40 = G9 from hG9)]; exact oGc_le _ 40
  obtain ⟨D9, hD9⟩ : ∃ y : Int, oEq (oDist (oOrW n w (-1) 4) 0 t.toNat) y := ⟨oDist (oOrW n w (-1) 4) 0 t.toNat, Eq.refl (oDist (oOrW n w (-1) 4) 0 t.toNat)⟩
  have hDb : -1 ≤ D9 ∧ D9 ≤ 200 := by rw [← (show oDist (oOrW n w (-1) 4) 0 t.toNat = D9 from hD9)]; exact oDist_b (by omega) _
  have hl : lv_has ls 4 [(0, .ref (ad (0))), (1, .int (oI (t)))] := hl
  have hf : ∀ q : Nat, q ≠ 59 → q ≠ 60 → q ≠ 61 → σ q = σ q := fun q _ _ _ => rfl
  refine lv_iload_n hx hb dX5_why_0 rfl (lv_at hl 1 rfl) ?_
  refine m_xSv hx hb hml hown hts hK hXT hH hl hlk hnt (rest := []) cw_X5_229 (c5_checkLength hA t (by first | assumption | omega) (by first | assumption | omega) ) ⟨Nat.le_of_ble_eq_true rfl, Nat.le_of_ble_eq_true rfl⟩ ⟨Nat.le_of_ble_eq_true rfl, Nat.le_of_ble_eq_true rfl⟩ ⟨Nat.le_of_ble_eq_true rfl, Nat.le_of_ble_eq_true rfl⟩ rfl rfl rfl (Nat.le_of_ble_eq_true rfl) dX5_why_1 (fun E u h => ⟨⟨h.1, h.2.1⟩, h.2.2⟩) (fun σ_1 H locs hp_2 hH => ?_)
  obtain ⟨htt, hu⟩ := hp_2
  have hu := hu.symm
  subst hu
  refine lv_iload_n hx hb dX5_why_4 rfl (lv_at hl 1 rfl) ?_
  refine m_if_ne 10 hx hb dX5_why_5 (by decide) (by omega) (fun h_4 => ?_) (fun h_4 => ?_)
  · refine lv_aload_n hx hb dX5_why_10 rfl (lv_at hl 0 rfl) ?_
    refine gf_X5_present hx hb hts hown hK hH (k := 0) (by omega) eO dX5_why_11 ?_
    refine m_pVi hx hb hml hown hts hK hH hl (rest := []) cw_X5_98 (c4_rulers hA 1 n a g sz w (by first | assumption | omega) e0 e1 e2) ⟨Nat.le_of_ble_eq_true rfl, Nat.le_of_ble_eq_true rfl⟩ ⟨Nat.le_of_ble_eq_true rfl, Nat.le_of_ble_eq_true rfl⟩ rfl (k := 1) (by omega) e0 rfl rfl (Nat.le_of_ble_eq_true rfl) dX5_why_14 (fun H locs hH => ?_)
    refine m_if_ne 22 hx hb dX5_why_17 (by decide) (by omega) (fun h_5 => ?_) (fun h_5 => ?_)
    · refine lv_aload_n hx hb dX5_why_22 rfl (lv_at hl 0 rfl) ?_
      refine gf_X5_present hx hb hts hown hK hH (k := 0) (by omega) eO dX5_why_23 ?_
      refine m_pVn hx hb hml hown hts hK hH hl (rest := []) cw_X5_107 (c4_spread hA 1 n a g sz w (by first | assumption | omega) (by first | assumption | omega) e0 e1 e2) ⟨Nat.le_of_ble_eq_true rfl, Nat.le_of_ble_eq_true rfl⟩ ⟨Nat.le_of_ble_eq_true rfl, Nat.le_of_ble_eq_true rfl⟩ rfl (k := 1) (by omega) e0 rfl rfl (Nat.le_of_ble_eq_true rfl) dX5_why_26 (fun H locs hH => ?_)
      refine m_pSi hx hb hml hown hts hK hH hl (rest := []) cw_X5_117 rfl (c5_commonDivisor hA (oOrW n w (-1) 4) (hs64) (oOrW_bits) ) ⟨Nat.le_of_ble_eq_true rfl, Nat.le_of_ble_eq_true rfl⟩ ⟨Nat.le_of_ble_eq_true rfl, Nat.le_of_ble_eq_true rfl⟩ rfl rfl (Nat.le_of_ble_eq_true rfl) dX5_why_29 (fun H locs hH => ?_)
      refine m_topI (((G9 : Nat) : Int)) (by rw [(show oGc (oOrW n w (-1) 4) 40 = G9 from hG9)]) ?_
      refine lv_istore_n (lv' := [(2, .int (oI (((G9 : Nat) : Int)))), (0, .ref (ad (0))), (1, .int (oI (t)))]) hx hb dX5_why_32 rfl hl (by decide) rfl (fun ls hl => ?_)
      refine lv_iload_n hx hb dX5_why_33 rfl (lv_at hl 0 rfl) ?_
      refine m_if_le 45 hx hb dX5_why_34 (by decide) (by omega) (fun h_6 => ?_) (fun h_6 => ?_)
      · refine lv_aload_n hx hb dX5_why_45 rfl (lv_at hl 1 rfl) ?_
        refine gf_X5_reach hx hb hts hown hK hH (k := 0) (by omega) eO dX5_why_46 ?_
        refine lv_iload_n hx hb dX5_why_49 rfl (lv_at hl 2 rfl) ?_
        refine m_topI (((t.toNat : Nat) : Int)) (by omega) ?_
        refine lv_aload_n hx hb dX5_why_50 rfl (lv_at hl 1 rfl) ?_
        refine gf_X5_present hx hb hts hown hK hH (k := 0) (by omega) eO dX5_why_51 ?_
        refine m_pVn hx hb hml hown hts hK hH hl (rest := [.int (oI (((t.toNat : Nat) : Int))), .ref (ad (59))]) cw_X5_107 (c4_spread hA 1 n a g sz w (by first | assumption | omega) (by first | assumption | omega) e0 e1 e2) ⟨Nat.le_of_ble_eq_true rfl, Nat.le_of_ble_eq_true rfl⟩ ⟨Nat.le_of_ble_eq_true rfl, Nat.le_of_ble_eq_true rfl⟩ rfl (k := 1) (by omega) e0 rfl rfl (Nat.le_of_ble_eq_true rfl) dX5_why_54 (fun H locs hH => ?_)
        refine m_callVi hx hb hml hown hts hK hH hl (rest := []) cw_X5_234 (c3_fewestByLengths hA t.toNat (oOrW n w (-1) 4) ld S Ln (by first | assumption | omega) (by first | assumption | omega) (by first | assumption | omega) e59 e60 e61) ⟨Nat.le_of_ble_eq_true rfl, Nat.le_of_ble_eq_true rfl⟩ ⟨Nat.le_of_ble_eq_true rfl, Nat.le_of_ble_eq_true rfl⟩ rfl (k := 59) (by omega) e59 rfl rfl (Nat.le_of_ble_eq_true rfl) dX5_why_57 (fun r_10 σ_7 H locs hp_8 hH => ?_)
        obtain ⟨S3, L3, ld3, rfl, hD, e59, e60, e61, hq_9⟩ := hp_8
        have eO : σ_7 (0) = .inr (5, [.ref (ad (1)), .ref (ad (4)), .ref (ad (7)), .ref (ad (10)), .int (oI (ff)), .int (oI (sf)), .ref (ad (13)), .ref (ad (57)), .ref (ad (59)), .ref (ad (64))]) := (hq_9 _ (by decide) (by decide) (by decide)).trans eO
        have e0 : σ_7 (1) = .inr (4, [.ref (ad (2)), .ref (ad (3)), .int (oI (((n : Nat) : Int))), .int (oI (((a : Nat) : Int))), .int (oI (((g : Nat) : Int)))]) := (hq_9 _ (by decide) (by decide) (by decide)).trans e0
        have e1 : σ_7 (2) = oAN cT 4 sz := (hq_9 _ (by decide) (by decide) (by decide)).trans e1
        have e2 : σ_7 (3) = oAJ cT 4 w := (hq_9 _ (by decide) (by decide) (by decide)).trans e2
        have e62 : σ_7 (62) = oAJ cT 4 wr := (hq_9 _ (by decide) (by decide) (by decide)).trans e62
        have e63 : σ_7 (63) = oAJ cT 4 gr := (hq_9 _ (by decide) (by decide) (by decide)).trans e63
        have hf : ∀ q : Nat, q ≠ 59 → q ≠ 60 → q ≠ 61 → σ_7 q = σ q := fun q n0 n1 n2 => (hq_9 q n0 n1 n2).trans (hf q n0 n1 n2)
        refine m_topI (D9) ((show oDist (oOrW n w (-1) 4) 0 t.toNat = D9 from hD9)) ?_
        refine lv_istore_n (lv' := [(3, .int (oI (D9))), (2, .int (oI (((G9 : Nat) : Int)))), (0, .ref (ad (0))), (1, .int (oI (t)))]) hx hb dX5_why_60 rfl hl (by decide) rfl (fun ls hl => ?_)
        refine lv_iload_n hx hb dX5_why_61 rfl (lv_at hl 0 rfl) ?_
        refine m_iconst (-1) hx hb dX5_why_62 rfl ?_
        refine m_icmp_ne 68 hx hb dX5_why_63 (by decide) (by omega) (by omega) (fun h_11 => ?_) (fun h_11 => ?_)
        · refine lv_iload_n hx hb dX5_why_68 rfl (lv_at hl 0 rfl) ?_
          refine lv_aload_n hx hb dX5_why_69 rfl (lv_at hl 2 rfl) ?_
          refine gf_X5_present hx hb hts hown hK hH (k := 0) (by omega) eO dX5_why_70 ?_
          refine m_pVi hx hb hml hown hts hK hH hl (rest := [.int (oI (D9))]) cw_X5_126 (c4_allowed hA 1 n a g sz w (by first | assumption | omega) e0 e1 e2) ⟨Nat.le_of_ble_eq_true rfl, Nat.le_of_ble_eq_true rfl⟩ ⟨Nat.le_of_ble_eq_true rfl, Nat.le_of_ble_eq_true rfl⟩ rfl (k := 1) (by omega) e0 rfl rfl (Nat.le_of_ble_eq_true rfl) dX5_why_73 (fun H locs hH => ?_)
          refine m_icmp_le 83 hx hb dX5_why_76 (by decide) (by omega) (by omega) (fun h_12 => ?_) (fun h_12 => ?_)
          · refine m_iconst 0 hx hb dX5_why_83 rfl ?_
            exact m_iretX hx hb hlk hrt hH ⟨Nat.le_of_ble_eq_true rfl, Nat.le_of_ble_eq_true rfl⟩ (m_ni _) dX5_why_84 ⟨ld3, S3, L3, congrArg oI (by unfold oWhy; rw [if_neg (by omega), if_neg (by omega), (show oGc (oOrW n w (-1) 4) 40 = G9 from hG9), if_neg (by omega), (show oDist (oOrW n w (-1) 4) 0 t.toNat = D9 from hD9), if_neg (by omega), if_neg (by omega)]), (by first | assumption | omega), e59, e60, e61, hf⟩
          · refine m_iconst 3 hx hb dX5_why_79 rfl ?_
            refine lv_goto (tgt := 84) hx hb dX5_why_80 (by decide) ?_
            exact m_iretX hx hb hlk hrt hH ⟨Nat.le_of_ble_eq_true rfl, Nat.le_of_ble_eq_true rfl⟩ (m_ni _) dX5_why_84 ⟨ld3, S3, L3, congrArg oI (by unfold oWhy; rw [if_neg (by omega), if_neg (by omega), (show oGc (oOrW n w (-1) 4) 40 = G9 from hG9), if_neg (by omega), (show oDist (oOrW n w (-1) 4) 0 t.toNat = D9 from hD9), if_neg (by omega), if_pos (by omega)]), (by first | assumption | omega), e59, e60, e61, hf⟩
        · refine m_iconst 4 hx hb dX5_why_66 rfl ?_
          exact m_iretX hx hb hlk hrt hH ⟨Nat.le_of_ble_eq_true rfl, Nat.le_of_ble_eq_true rfl⟩ (m_ni _) dX5_why_67 ⟨ld3, S3, L3, congrArg oI (by unfold oWhy; rw [if_neg (by omega), if_neg (by omega), (show oGc (oOrW n w (-1) 4) 40 = G9 from hG9), if_neg (by omega), (show oDist (oOrW n w (-1) 4) 0 t.toNat = D9 from hD9), if_pos (by omega)]), (by first | assumption | omega), e59, e60, e61, hf⟩
      · refine lv_iload_n hx hb dX5_why_37 rfl (lv_at hl 2 rfl) ?_
        refine m_topI (((t.toNat : Nat) : Int)) (by omega) ?_
        refine lv_iload_n hx hb dX5_why_38 rfl (lv_at hl 0 rfl) ?_
        refine m_irem (((t.toNat % G9 : Nat) : Int)) hx hb dX5_why_39 (by omega) (by omega) (by first | rfl | omega) ?_
        have hmod : t.toNat % G9 < G9 := Nat.mod_lt _ (by omega)
        refine m_if_eq 45 hx hb dX5_why_40 (by decide) (by omega) (fun h_13 => ?_) (fun h_13 => ?_)
        · refine lv_aload_n hx hb dX5_why_45 rfl (lv_at hl 1 rfl) ?_
          refine gf_X5_reach hx hb hts hown hK hH (k := 0) (by omega) eO dX5_why_46 ?_
          refine lv_iload_n hx hb dX5_why_49 rfl (lv_at hl 2 rfl) ?_
          refine m_topI (((t.toNat : Nat) : Int)) (by omega) ?_
          refine lv_aload_n hx hb dX5_why_50 rfl (lv_at hl 1 rfl) ?_
          refine gf_X5_present hx hb hts hown hK hH (k := 0) (by omega) eO dX5_why_51 ?_
          refine m_pVn hx hb hml hown hts hK hH hl (rest := [.int (oI (((t.toNat : Nat) : Int))), .ref (ad (59))]) cw_X5_107 (c4_spread hA 1 n a g sz w (by first | assumption | omega) (by first | assumption | omega) e0 e1 e2) ⟨Nat.le_of_ble_eq_true rfl, Nat.le_of_ble_eq_true rfl⟩ ⟨Nat.le_of_ble_eq_true rfl, Nat.le_of_ble_eq_true rfl⟩ rfl (k := 1) (by omega) e0 rfl rfl (Nat.le_of_ble_eq_true rfl) dX5_why_54 (fun H locs hH => ?_)
          refine m_callVi hx hb hml hown hts hK hH hl (rest := []) cw_X5_234 (c3_fewestByLengths hA t.toNat (oOrW n w (-1) 4) ld S Ln (by first | assumption | omega) (by first | assumption | omega) (by first | assumption | omega) e59 e60 e61) ⟨Nat.le_of_ble_eq_true rfl, Nat.le_of_ble_eq_true rfl⟩ ⟨Nat.le_of_ble_eq_true rfl, Nat.le_of_ble_eq_true rfl⟩ rfl (k := 59) (by omega) e59 rfl rfl (Nat.le_of_ble_eq_true rfl) dX5_why_57 (fun r_17 σ_14 H locs hp_15 hH => ?_)
          obtain ⟨S3, L3, ld3, rfl, hD, e59, e60, e61, hq_16⟩ := hp_15
          have eO : σ_14 (0) = .inr (5, [.ref (ad (1)), .ref (ad (4)), .ref (ad (7)), .ref (ad (10)), .int (oI (ff)), .int (oI (sf)), .ref (ad (13)), .ref (ad (57)), .ref (ad (59)), .ref (ad (64))]) := (hq_16 _ (by decide) (by decide) (by decide)).trans eO
          have e0 : σ_14 (1) = .inr (4, [.ref (ad (2)), .ref (ad (3)), .int (oI (((n : Nat) : Int))), .int (oI (((a : Nat) : Int))), .int (oI (((g : Nat) : Int)))]) := (hq_16 _ (by decide) (by decide) (by decide)).trans e0
          have e1 : σ_14 (2) = oAN cT 4 sz := (hq_16 _ (by decide) (by decide) (by decide)).trans e1
          have e2 : σ_14 (3) = oAJ cT 4 w := (hq_16 _ (by decide) (by decide) (by decide)).trans e2
          have e62 : σ_14 (62) = oAJ cT 4 wr := (hq_16 _ (by decide) (by decide) (by decide)).trans e62
          have e63 : σ_14 (63) = oAJ cT 4 gr := (hq_16 _ (by decide) (by decide) (by decide)).trans e63
          have hf : ∀ q : Nat, q ≠ 59 → q ≠ 60 → q ≠ 61 → σ_14 q = σ q := fun q n0 n1 n2 => (hq_16 q n0 n1 n2).trans (hf q n0 n1 n2)
          refine m_topI (D9) ((show oDist (oOrW n w (-1) 4) 0 t.toNat = D9 from hD9)) ?_
          refine lv_istore_n (lv' := [(3, .int (oI (D9))), (2, .int (oI (((G9 : Nat) : Int)))), (0, .ref (ad (0))), (1, .int (oI (t)))]) hx hb dX5_why_60 rfl hl (by decide) rfl (fun ls hl => ?_)
          refine lv_iload_n hx hb dX5_why_61 rfl (lv_at hl 0 rfl) ?_
          refine m_iconst (-1) hx hb dX5_why_62 rfl ?_
          refine m_icmp_ne 68 hx hb dX5_why_63 (by decide) (by omega) (by omega) (fun h_18 => ?_) (fun h_18 => ?_)
          · refine lv_iload_n hx hb dX5_why_68 rfl (lv_at hl 0 rfl) ?_
            refine lv_aload_n hx hb dX5_why_69 rfl (lv_at hl 2 rfl) ?_
            refine gf_X5_present hx hb hts hown hK hH (k := 0) (by omega) eO dX5_why_70 ?_
            refine m_pVi hx hb hml hown hts hK hH hl (rest := [.int (oI (D9))]) cw_X5_126 (c4_allowed hA 1 n a g sz w (by first | assumption | omega) e0 e1 e2) ⟨Nat.le_of_ble_eq_true rfl, Nat.le_of_ble_eq_true rfl⟩ ⟨Nat.le_of_ble_eq_true rfl, Nat.le_of_ble_eq_true rfl⟩ rfl (k := 1) (by omega) e0 rfl rfl (Nat.le_of_ble_eq_true rfl) dX5_why_73 (fun H locs hH => ?_)
            refine m_icmp_le 83 hx hb dX5_why_76 (by decide) (by omega) (by omega) (fun h_19 => ?_) (fun h_19 => ?_)
            · refine m_iconst 0 hx hb dX5_why_83 rfl ?_
              exact m_iretX hx hb hlk hrt hH ⟨Nat.le_of_ble_eq_true rfl, Nat.le_of_ble_eq_true rfl⟩ (m_ni _) dX5_why_84 ⟨ld3, S3, L3, congrArg oI (by unfold oWhy; rw [if_neg (by omega), if_neg (by omega), (show oGc (oOrW n w (-1) 4) 40 = G9 from hG9), if_neg (by omega), (show oDist (oOrW n w (-1) 4) 0 t.toNat = D9 from hD9), if_neg (by omega), if_neg (by omega)]), (by first | assumption | omega), e59, e60, e61, hf⟩
            · refine m_iconst 3 hx hb dX5_why_79 rfl ?_
              refine lv_goto (tgt := 84) hx hb dX5_why_80 (by decide) ?_
              exact m_iretX hx hb hlk hrt hH ⟨Nat.le_of_ble_eq_true rfl, Nat.le_of_ble_eq_true rfl⟩ (m_ni _) dX5_why_84 ⟨ld3, S3, L3, congrArg oI (by unfold oWhy; rw [if_neg (by omega), if_neg (by omega), (show oGc (oOrW n w (-1) 4) 40 = G9 from hG9), if_neg (by omega), (show oDist (oOrW n w (-1) 4) 0 t.toNat = D9 from hD9), if_neg (by omega), if_pos (by omega)]), (by first | assumption | omega), e59, e60, e61, hf⟩
          · refine m_iconst 4 hx hb dX5_why_66 rfl ?_
            exact m_iretX hx hb hlk hrt hH ⟨Nat.le_of_ble_eq_true rfl, Nat.le_of_ble_eq_true rfl⟩ (m_ni _) dX5_why_67 ⟨ld3, S3, L3, congrArg oI (by unfold oWhy; rw [if_neg (by omega), if_neg (by omega), (show oGc (oOrW n w (-1) 4) 40 = G9 from hG9), if_neg (by omega), (show oDist (oOrW n w (-1) 4) 0 t.toNat = D9 from hD9), if_pos (by omega)]), (by first | assumption | omega), e59, e60, e61, hf⟩
        · refine m_iconst 2 hx hb dX5_why_43 rfl ?_
          exact m_iretX hx hb hlk hrt hH ⟨Nat.le_of_ble_eq_true rfl, Nat.le_of_ble_eq_true rfl⟩ (m_ni _) dX5_why_44 ⟨ld, S, Ln, congrArg oI (by unfold oWhy; rw [if_neg (by omega), if_neg (by omega), (show oGc (oOrW n w (-1) 4) 40 = G9 from hG9), if_pos ⟨by omega, by omega⟩]), (by first | assumption | omega), e59, e60, e61, hf⟩
    · refine m_iconst 1 hx hb dX5_why_20 rfl ?_
      exact m_iretX hx hb hlk hrt hH ⟨Nat.le_of_ble_eq_true rfl, Nat.le_of_ble_eq_true rfl⟩ (m_ni _) dX5_why_21 ⟨ld, S, Ln, congrArg oI (by unfold oWhy; rw [if_neg (by omega), if_pos (by omega)]), (by first | assumption | omega), e59, e60, e61, hf⟩
  · refine m_iconst 0 hx hb dX5_why_8 rfl ?_
    exact m_iretX hx hb hlk hrt hH ⟨Nat.le_of_ble_eq_true rfl, Nat.le_of_ble_eq_true rfl⟩ (m_ni _) dX5_why_9 ⟨ld, S, Ln, congrArg oI (by unfold oWhy; rw [if_pos (by omega)]), (by first | assumption | omega), e59, e60, e61, hf⟩
set_option maxHeartbeats 4000000 in
set_option maxRecDepth 100000 in
theorem c5_layings {l : Launch} {D : va_G} {cT : Nat → ClassId} {N b0 : Nat} {ad : Nat → Nat} (hA : oAd b0 N ad) {σ : Nat → va_E} (n a g : Nat) (sz w : Nat → Nat) (ld : Nat) (wr gr : Nat → Nat) (S Ln : Nat → Int) (ff sf : Int) (hN : 76 ≤ N) (hwf : oWf n sz w) (hag : oAg a g) (eO : σ (0) = .inr (5, [.ref (ad (1)), .ref (ad (4)), .ref (ad (7)), .ref (ad (10)), .int (oI (ff)), .int (oI (sf)), .ref (ad (13)), .ref (ad (57)), .ref (ad (59)), .ref (ad (64))])) (e0 : σ (1) = .inr (4, [.ref (ad (2)), .ref (ad (3)), .int (oI (((n : Nat) : Int))), .int (oI (((a : Nat) : Int))), .int (oI (((g : Nat) : Int)))])) (e1 : σ (2) = oAN cT 4 sz) (e2 : σ (3) = oAJ cT 4 w) (e59 : σ (59) = .inr (3, [.ref (ad (60)), .ref (ad (61)), .int (oI (((ld : Nat) : Int))), .ref (ad (62)), .ref (ad (63))])) (e60 : σ (60) = oAI cT 201 S) (e61 : σ (61) = oAI cT 201 Ln) (e62 : σ (62) = oAJ cT 4 wr) (e63 : σ (63) = oAJ cT 4 gr) :
    oCi l D cT N ad b0 yX5_layings cX5_layings 4 (some .int) 3 68 [.ref (ad (0))] σ (fun rr uu => ∃ ld2 : Nat, ∃ S2 : Nat → Int, ∃ Ln2 : Nat → Int, rr = oI ((oLyA (oOrW n w (-1) 4) g)) ∧ uu (59) = .inr (3, [.ref (ad (60)), .ref (ad (61)), .int (oI (((ld2 : Nat) : Int))), .ref (ad (62)), .ref (ad (63))]) ∧ uu (60) = oAI cT 201 S2 ∧ uu (61) = oAI cT 201 Ln2 ∧ (∀ q : Nat, q ≠ 59 → q ≠ 60 → q ≠ 61 → uu q = σ q)) := by
  refine m_start (cc := cX5_layings) (by decide) (Nat.le_of_ble_eq_true rfl) rfl ?_
  intro Pp Ee Ss Mm Bb Me Cc Ar ls hx hb hml hown hlk hrt hts hK hH hl
  have hown : Ss.vm.findClass RX5 = some Mm.cls := hown
  have hn := hwf.1
  have hsz := oSize_le hwf
  have hw64 := oRow_64 hwf
  have hw41 := oRow_lt hwf
  have hs64 := oOrW_64 n w (-1) 4
  have hg150 := hag.2
  have hl : lv_has ls 4 [(0, .ref (ad (0)))] := hl
  have hf : ∀ q : Nat, q ≠ 59 → q ≠ 60 → q ≠ 61 → σ q = σ q := fun q _ _ _ => rfl
  refine lv_aload_n hx hb dX5_layings_0 rfl (lv_at hl 0 rfl) ?_
  refine gf_X5_reach hx hb hts hown hK hH (k := 0) (by omega) eO dX5_layings_1 ?_
  refine m_iconst 0 hx hb dX5_layings_4 rfl ?_
  refine lv_aload_n hx hb dX5_layings_5 rfl (lv_at hl 0 rfl) ?_
  refine gf_X5_present hx hb hts hown hK hH (k := 0) (by omega) eO dX5_layings_6 ?_
  refine m_pVn hx hb hml hown hts hK hH hl (rest := [.int (oI (0)), .ref (ad (59))]) cw_X5_107 (c4_spread hA 1 n a g sz w (by first | assumption | omega) (by first | assumption | omega) e0 e1 e2) ⟨Nat.le_of_ble_eq_true rfl, Nat.le_of_ble_eq_true rfl⟩ ⟨Nat.le_of_ble_eq_true rfl, Nat.le_of_ble_eq_true rfl⟩ rfl (k := 1) (by omega) e0 rfl rfl (Nat.le_of_ble_eq_true rfl) dX5_layings_9 (fun H locs hH => ?_)
  refine m_callVv hx hb hml hown hts hK hH hl (rest := []) cw_X5_241 (c3_walk hA 0 (oOrW n w (-1) 4) ld S Ln (by first | assumption | omega) (by first | assumption | omega) (by first | assumption | omega) e59 e60 e61) ⟨Nat.le_of_ble_eq_true rfl, Nat.le_of_ble_eq_true rfl⟩ ⟨Nat.le_of_ble_eq_true rfl, Nat.le_of_ble_eq_true rfl⟩ rfl (k := 59) (by omega) e59 rfl rfl (Nat.le_of_ble_eq_true rfl) dX5_layings_12 (fun σ_1 H locs hp_2 hH => ?_)
  obtain ⟨S3, L3, ld3, hD, e59, e60, e61, hq_3⟩ := hp_2
  have eO : σ_1 (0) = .inr (5, [.ref (ad (1)), .ref (ad (4)), .ref (ad (7)), .ref (ad (10)), .int (oI (ff)), .int (oI (sf)), .ref (ad (13)), .ref (ad (57)), .ref (ad (59)), .ref (ad (64))]) := (hq_3 _ (by decide) (by decide) (by decide)).trans eO
  have e0 : σ_1 (1) = .inr (4, [.ref (ad (2)), .ref (ad (3)), .int (oI (((n : Nat) : Int))), .int (oI (((a : Nat) : Int))), .int (oI (((g : Nat) : Int)))]) := (hq_3 _ (by decide) (by decide) (by decide)).trans e0
  have e1 : σ_1 (2) = oAN cT 4 sz := (hq_3 _ (by decide) (by decide) (by decide)).trans e1
  have e2 : σ_1 (3) = oAJ cT 4 w := (hq_3 _ (by decide) (by decide) (by decide)).trans e2
  have e62 : σ_1 (62) = oAJ cT 4 wr := (hq_3 _ (by decide) (by decide) (by decide)).trans e62
  have e63 : σ_1 (63) = oAJ cT 4 gr := (hq_3 _ (by decide) (by decide) (by decide)).trans e63
  have hf : ∀ q : Nat, q ≠ 59 → q ≠ 60 → q ≠ 61 → σ_1 q = σ q := fun q n0 n1 n2 => (hq_3 q n0 n1 n2).trans (hf q n0 n1 n2)
  refine m_iconst 0 hx hb dX5_layings_15 rfl ?_
  refine lv_istore_n (lv' := [(1, .int (oI (0))), (0, .ref (ad (0)))]) hx hb dX5_layings_16 rfl hl (by decide) rfl (fun ls hl => ?_)
  refine m_iconst 1 hx hb dX5_layings_17 rfl ?_
  refine lv_istore_n (lv' := [(2, .int (oI (1))), (1, .int (oI (0))), (0, .ref (ad (0)))]) hx hb dX5_layings_18 rfl hl (by decide) rfl (fun ls hl => ?_)
  have L19 : ∀ (fu : Nat) (i : Nat) (mo : Int), (g + 1 - i < fu) → (i ≤ g) → (0 ≤ mo ∧ mo ≤ 200) → (mo = oLyA (oOrW n w (-1) 4) i) → ∀ (H : Heap) (locs : List Loc), oH b0 D N ad Ss.heap σ_1 H locs → ∀ ls : Array Slot, lv_has ls 4 [(0, .ref (ad (0))), (1, .int (oI (mo))), (2, .int (oI (((i : Nat) : Int) + 1)))] → W Pp l Ee { frames := 3, cells := 0, slots := 0, locals := 68 } Ss Mm Ar Bb Me Cc H locs 0 0 (MQ Bb (va_Qi (fun rr uu => ∃ ld2 : Nat, ∃ S2 : Nat → Int, ∃ Ln2 : Nat → Int, rr = oI ((oLyA (oOrW n w (-1) 4) g)) ∧ uu (59) = .inr (3, [.ref (ad (60)), .ref (ad (61)), .int (oI (((ld2 : Nat) : Int))), .ref (ad (62)), .ref (ad (63))]) ∧ uu (60) = oAI cT 201 S2 ∧ uu (61) = oAI cT 201 Ln2 ∧ (∀ q : Nat, q ≠ 59 → q ≠ 60 → q ≠ 61 → uu q = σ q)) (oV D N ad) (fun q => b0 ≤ q)) Ar Ss 0 0 (fun q => b0 ≤ q)) (F0 Mm 19 ls []) := by
    intro fu19
    induction fu19 with
    | zero =>
      intro i mo hm19
      exact absurd hm19 (Nat.not_lt_zero _)
    | succ fu19 ih19 =>
      intro i mo hm19 hi hmb hmo H locs hH ls hl
      refine lv_iload_n hx hb dX5_layings_19 rfl (lv_at hl 2 rfl) ?_
      refine lv_aload_n hx hb dX5_layings_20 rfl (lv_at hl 0 rfl) ?_
      refine gf_X5_present hx hb hts hown hK hH (k := 0) (by omega) eO dX5_layings_21 ?_
      refine m_pVi hx hb hml hown hts hK hH hl (rest := [.int (oI (((i : Nat) : Int) + 1))]) cw_X5_129 (c4_range hA 1 n a g sz w (by first | assumption | omega) e0 e1 e2) ⟨Nat.le_of_ble_eq_true rfl, Nat.le_of_ble_eq_true rfl⟩ ⟨Nat.le_of_ble_eq_true rfl, Nat.le_of_ble_eq_true rfl⟩ rfl (k := 1) (by omega) e0 rfl rfl (Nat.le_of_ble_eq_true rfl) dX5_layings_24 (fun H locs hH => ?_)
      refine m_icmp_gt 65 hx hb dX5_layings_27 (by decide) (by omega) (by omega) (fun h_5 => ?_) (fun h_5 => ?_)
      · refine lv_iload_n hx hb dX5_layings_65 rfl (lv_at hl 1 rfl) ?_
        exact m_iret hx hb hlk hrt hH (m_ni _) dX5_layings_66 ⟨ld3, S3, L3, congrArg oI (by rw [hmo, show i = g by omega]), e59, e60, e61, hf⟩
      · refine lv_iload_n hx hb dX5_layings_30 rfl (lv_at hl 2 rfl) ?_
        refine m_sipush 150 hx hb dX5_layings_31 (by decide) ?_
        refine m_icmp_gt 65 hx hb dX5_layings_34 (by decide) (by omega) (by omega) (fun h_6 => absurd h_6 (by omega)) (fun h_6 => ?_)
        refine lv_aload_n hx hb dX5_layings_37 rfl (lv_at hl 0 rfl) ?_
        refine gf_X5_reach hx hb hts hown hK hH (k := 0) (by omega) eO dX5_layings_38 ?_
        refine lv_iload_n hx hb dX5_layings_41 rfl (lv_at hl 2 rfl) ?_
        obtain ⟨dz, hdz⟩ : ∃ y : Int, oDist (oOrW n w (-1) 4) 0 (i + 1) = y := ⟨_, rfl⟩
        have hdb : -1 ≤ dz ∧ dz ≤ 200 := by rw [← hdz]; exact oDist_b (by omega) _
        refine m_pVi hx hb hml hown hts hK hH hl (rest := []) cw_X5_245 (c3_stepsTo hA (((i : Nat) : Int) + 1) S3 L3 ld3 (by first | assumption | omega) (by first | assumption | omega) e59 e60 e61) ⟨Nat.le_of_ble_eq_true rfl, Nat.le_of_ble_eq_true rfl⟩ ⟨Nat.le_of_ble_eq_true rfl, Nat.le_of_ble_eq_true rfl⟩ rfl (k := 59) (by omega) e59 rfl rfl (Nat.le_of_ble_eq_true rfl) dX5_layings_42 (fun H locs hH => ?_)
        refine m_topI (dz) (by rw [oSt_in ⟨by omega, by omega⟩]; exact (hD (i + 1) (by omega)).trans hdz) ?_
        refine lv_istore_n (lv' := [(3, .int (oI (dz))), (0, .ref (ad (0))), (1, .int (oI (mo))), (2, .int (oI (((i : Nat) : Int) + 1)))]) hx hb dX5_layings_45 rfl hl (by decide) rfl (fun ls hl => ?_)
        refine lv_iload_n hx hb dX5_layings_46 rfl (lv_at hl 0 rfl) ?_
        refine m_iconst (-1) hx hb dX5_layings_47 rfl ?_
        refine m_icmp_ne 53 hx hb dX5_layings_48 (by decide) (by omega) (by omega) (fun h_7 => ?_) (fun h_7 => ?_)
        · refine lv_iload_n hx hb dX5_layings_53 rfl (lv_at hl 2 rfl) ?_
          refine lv_iload_n hx hb dX5_layings_54 rfl (lv_at hl 0 rfl) ?_
          refine m_mmax ((max mo dz)) hx hb hml hl hown hts (index := 276) (hts _ (o_in0 (List.mem_of_getElem? (i := 865) (by decide +kernel)))) (Nat.le_of_ble_eq_true rfl) (Nat.le_of_ble_eq_true rfl) ⟨Nat.le_of_ble_eq_true rfl, Nat.le_of_ble_eq_true rfl⟩ (by omega) (by omega) (by omega) dX5_layings_55 ?_
          refine lv_istore_n (lv' := [(1, .int (oI ((max mo dz)))), (3, .int (oI (dz))), (0, .ref (ad (0))), (2, .int (oI (((i : Nat) : Int) + 1)))]) hx hb dX5_layings_58 rfl hl (by decide) rfl (fun ls hl => ?_)
          refine m_iinc (((i : Nat) : Int) + 2) [(2, .int (oI (((i : Nat) : Int) + 2))), (1, .int (oI ((max mo dz)))), (3, .int (oI (dz))), (0, .ref (ad (0)))] hx hb dX5_layings_59 hl (j := 3) rfl (by omega) (by decide) rfl (fun ls hl => ?_)
          refine lv_goto (tgt := 19) hx hb dX5_layings_62 (by decide) ?_
          exact ih19 (i + 1) (max mo dz) (by omega) (by first | assumption | omega) (by omega) (oLyA_s hmo (by omega) hdz (by omega)) _ _ hH ls (lv_sub hl [3, 1, 0] rfl)
        · refine m_iconst (-1) hx hb dX5_layings_51 rfl ?_
          exact m_iret hx hb hlk hrt hH (m_ni _) dX5_layings_52 ⟨ld3, S3, L3, congrArg oI (oLyA_n hdz (by omega) (by omega)), e59, e60, e61, hf⟩
  exact L19 _ 0 0 (Nat.lt_succ_self _) (by first | assumption | omega) (by first | assumption | omega) (rfl) _ _ hH ls (lv_sub hl [2, 1, 0] rfl)
set_option maxHeartbeats 4000000 in
set_option maxRecDepth 100000 in
theorem c5_needless {l : Launch} {D : va_G} {cT : Nat → ClassId} {N b0 : Nat} {ad : Nat → Nat} (hA : oAd b0 N ad) {σ : Nat → va_E} (r : Int) (n a g : Nat) (sz w : Nat → Nat) (ld : Nat) (wr gr : Nat → Nat) (ff sf : Int) (hl0 : l.stackTraces = false) (hN : 76 ≤ N) (hwf : oWf n sz w) (hag : oAg a g) (hr : -2147483648 ≤ r ∧ r < 2147483648) (eO : σ (0) = .inr (5, [.ref (ad (1)), .ref (ad (4)), .ref (ad (7)), .ref (ad (10)), .int (oI (ff)), .int (oI (sf)), .ref (ad (13)), .ref (ad (57)), .ref (ad (59)), .ref (ad (64))])) (e0 : σ (1) = .inr (4, [.ref (ad (2)), .ref (ad (3)), .int (oI (((n : Nat) : Int))), .int (oI (((a : Nat) : Int))), .int (oI (((g : Nat) : Int)))])) (e1 : σ (2) = oAN cT 4 sz) (e2 : σ (3) = oAJ cT 4 w) (e59 : σ (59) = .inr (3, [.ref (ad (60)), .ref (ad (61)), .int (oI (((ld : Nat) : Int))), .ref (ad (62)), .ref (ad (63))])) (e62 : σ (62) = oAJ cT 4 wr) (e63 : σ (63) = oAJ cT 4 gr) :
    oXi l D cT N ad b0 yX5_needless cX5_needless 9 (some .int) 7 116 1 [.ref (ad (0)), .int (oI (r))] σ (fun rr uu => ∃ w2 : Nat → Nat, ∃ gr2 : Nat → Nat, rr = oI (((oNd n a g sz w r 39 : Nat) : Int)) ∧ ((0 ≤ r ∧ r < (n : Int))) ∧ uu (62) = oAJ cT 4 w2 ∧ uu (63) = oAJ cT 4 gr2 ∧ (∀ q : Nat, q ≠ 62 → q ≠ 63 → uu q = σ q)) (fun E uu => (E = oIO ∧ ¬ (0 ≤ r ∧ r < (n : Int))) ∧ uu = σ) := by
  refine m_startX (cc := cX5_needless) (by decide) (Nat.le_of_ble_eq_true rfl) rfl ?_
  intro Pp Ee Ss Mm Bb Me Cc Ar ls hx hb hml hown hlk hrt hts hK hH hl hXT hnt
  have hown : Ss.vm.findClass RX5 = some Mm.cls := hown
  have hn := hwf.1
  have hsz := oSize_le hwf
  have hw64 := oRow_64 hwf
  have hw41 := oRow_lt hwf
  have hsr := hsz r
  have ho64 := oOrW_64 n w r 4
  have hg150 := hag.2
  have hcl := oCnt_le (oOrW n w (-1) 4) a g
  have hl : lv_has ls 9 [(0, .ref (ad (0))), (1, .int (oI (r)))] := hl
  have hf : ∀ q : Nat, q ≠ 62 → q ≠ 63 → σ q = σ q := fun q _ _ => rfl
  refine lv_aload_n hx hb dX5_needless_0 rfl (lv_at hl 0 rfl) ?_
  refine lv_iload_n hx hb dX5_needless_1 rfl (lv_at hl 1 rfl) ?_
  refine m_xVv hx hb hml hown hts hK hXT hH hl hlk hnt (rest := []) cw_X5_134 (c5_checkRuler hA r n a g sz w ff sf (by first | assumption | omega) (by first | assumption | omega) (by first | assumption | omega) (by first | assumption | omega) eO e0 e1 e2) ⟨Nat.le_of_ble_eq_true rfl, Nat.le_of_ble_eq_true rfl⟩ ⟨Nat.le_of_ble_eq_true rfl, Nat.le_of_ble_eq_true rfl⟩ ⟨Nat.le_of_ble_eq_true rfl, Nat.le_of_ble_eq_true rfl⟩ rfl (k := 0) (by omega) eO rfl rfl (Nat.le_of_ble_eq_true rfl) dX5_needless_2 (fun E u h => ⟨⟨h.1, h.2.1⟩, h.2.2⟩) (fun σ_1 H locs hp_2 hH => ?_)
  obtain ⟨hru, hu⟩ := hp_2
  have hu := hu.symm
  subst hu
  refine lv_aload_n hx hb dX5_needless_5 rfl (lv_at hl 0 rfl) ?_
  refine gf_X5_present hx hb hts hown hK hH (k := 0) (by omega) eO dX5_needless_6 ?_
  refine lv_iload_n hx hb dX5_needless_9 rfl (lv_at hl 1 rfl) ?_
  refine m_pVn hx hb hml hown hts hK hH hl (rest := []) cw_X5_255 (c4_spreadWithout hA 1 n a g sz w r (by first | assumption | omega) (by first | assumption | omega) (by first | assumption | omega) e0 e1 e2) ⟨Nat.le_of_ble_eq_true rfl, Nat.le_of_ble_eq_true rfl⟩ ⟨Nat.le_of_ble_eq_true rfl, Nat.le_of_ble_eq_true rfl⟩ rfl (k := 1) (by omega) e0 rfl rfl (Nat.le_of_ble_eq_true rfl) dX5_needless_10 (fun H locs hH => ?_)
  refine lv_lstore_n (lv' := [(2, .long (lN (oOrW n w r 4))), (0, .ref (ad (0))), (1, .int (oI (r)))]) hx hb dX5_needless_13 rfl hl (by decide) rfl (fun ls hl => ?_)
  refine lv_aload_n hx hb dX5_needless_14 rfl (lv_at hl 1 rfl) ?_
  refine lv_aload_n hx hb dX5_needless_15 rfl (lv_at hl 1 rfl) ?_
  refine gf_X5_present hx hb hts hown hK hH (k := 0) (by omega) eO dX5_needless_16 ?_
  refine m_callVi hx hb hml hown hts hK hH hl (rest := []) cw_X5_120 (c5_laidLengths hA 1 n a g sz w ld wr gr ff sf (by first | assumption | omega) (by first | assumption | omega) (by first | assumption | omega) (by first | assumption | omega) eO e0 e1 e2 e59 e62 e63) ⟨Nat.le_of_ble_eq_true rfl, Nat.le_of_ble_eq_true rfl⟩ ⟨Nat.le_of_ble_eq_true rfl, Nat.le_of_ble_eq_true rfl⟩ rfl (k := 0) (by omega) eO rfl rfl (Nat.le_of_ble_eq_true rfl) dX5_needless_19 (fun r_7 σ_4 H locs hp_5 hH => ?_)
  obtain ⟨w3, g3, rfl, hX0, e62, e63, hq_6⟩ := hp_5
  have eO : σ_4 (0) = .inr (5, [.ref (ad (1)), .ref (ad (4)), .ref (ad (7)), .ref (ad (10)), .int (oI (ff)), .int (oI (sf)), .ref (ad (13)), .ref (ad (57)), .ref (ad (59)), .ref (ad (64))]) := (hq_6 _ (by decide) (by decide)).trans eO
  have e0 : σ_4 (1) = .inr (4, [.ref (ad (2)), .ref (ad (3)), .int (oI (((n : Nat) : Int))), .int (oI (((a : Nat) : Int))), .int (oI (((g : Nat) : Int)))]) := (hq_6 _ (by decide) (by decide)).trans e0
  have e1 : σ_4 (2) = oAN cT 4 sz := (hq_6 _ (by decide) (by decide)).trans e1
  have e2 : σ_4 (3) = oAJ cT 4 w := (hq_6 _ (by decide) (by decide)).trans e2
  have e59 : σ_4 (59) = .inr (3, [.ref (ad (60)), .ref (ad (61)), .int (oI (((ld : Nat) : Int))), .ref (ad (62)), .ref (ad (63))]) := (hq_6 _ (by decide) (by decide)).trans e59
  have hf : ∀ q : Nat, q ≠ 62 → q ≠ 63 → σ_4 q = σ q := fun q n0 n1 => (hq_6 q n0 n1).trans (hf q n0 n1)
  refine lv_istore (lv' := [(4, .int (oI (((oCnt (oOrW n w (-1) 4) a g : Nat) : Int)))), (2, .long (lN (oOrW n w r 4))), (0, .ref (ad (0))), (1, .int (oI (r)))]) hx hb dX5_needless_22 hl (by decide) rfl (fun ls hl => ?_)
  refine m_iconst 0 hx hb dX5_needless_24 rfl ?_
  refine lv_istore (lv' := [(5, .int (oI (0))), (4, .int (oI (((oCnt (oOrW n w (-1) 4) a g : Nat) : Int)))), (2, .long (lN (oOrW n w r 4))), (0, .ref (ad (0))), (1, .int (oI (r)))]) hx hb dX5_needless_25 hl (by decide) rfl (fun ls hl => ?_)
  refine m_iconst 1 hx hb dX5_needless_27 rfl ?_
  refine lv_istore (lv' := [(6, .int (oI (1))), (5, .int (oI (0))), (4, .int (oI (((oCnt (oOrW n w (-1) 4) a g : Nat) : Int)))), (2, .long (lN (oOrW n w r 4))), (0, .ref (ad (0))), (1, .int (oI (r)))]) hx hb dX5_needless_28 hl (by decide) rfl (fun ls hl => ?_)
  have L30 : ∀ (fu : Nat) (i : Nat) (ac : Nat) (w4 : Nat → Nat) (g4 : Nat → Nat), (40 - i < fu) → (i ≤ 39) → (ac = oNd n a g sz w r i) → ∀ σL30 : Nat → va_E, σL30 (62) = oAJ cT 4 w4 → σL30 (63) = oAJ cT 4 g4 → (∀ q : Nat, q ≠ 62 → q ≠ 63 → σL30 q = σ_4 q) → ∀ (H : Heap) (locs : List Loc), oH b0 D N ad Ss.heap σL30 H locs → ∀ ls : Array Slot, lv_has ls 9 [(0, .ref (ad (0))), (1, .int (oI (r))), (2, .long (lN (oOrW n w r 4))), (4, .int (oI (((oCnt (oOrW n w (-1) 4) a g : Nat) : Int)))), (5, .int (oI (((ac : Nat) : Int)))), (6, .int (oI (((i : Nat) : Int) + 1)))] → W Pp l Ee { frames := 7, cells := 1, slots := 6 * 1, locals := 116 } Ss Mm Ar Bb Me Cc H locs (0 + 1) (0 + 6 * 1) (vx_MQ Bb (va_Qi (fun rr uu => ∃ w2 : Nat → Nat, ∃ gr2 : Nat → Nat, rr = oI (((oNd n a g sz w r 39 : Nat) : Int)) ∧ ((0 ≤ r ∧ r < (n : Int))) ∧ uu (62) = oAJ cT 4 w2 ∧ uu (63) = oAJ cT 4 gr2 ∧ (∀ q : Nat, q ≠ 62 → q ≠ 63 → uu q = σ q)) (oV D N ad) (fun q => b0 ≤ q)) (oXC b0 D N ad (fun E uu => (E = oIO ∧ ¬ (0 ≤ r ∧ r < (n : Int))) ∧ uu = σ)) Ar Ss 1 (6 * 1) (fun q => b0 ≤ q)) (F0 Mm 30 ls []) := by
    intro fu30
    induction fu30 with
    | zero =>
      intro i ac w4 g4 hm30
      exact absurd hm30 (Nat.not_lt_zero _)
    | succ fu30 ih30 =>
      intro i ac w4 g4 hm30 hi hc σL30 e62 e63 hL30 H locs hH ls hl
      have eO : σL30 (0) = .inr (5, [.ref (ad (1)), .ref (ad (4)), .ref (ad (7)), .ref (ad (10)), .int (oI (ff)), .int (oI (sf)), .ref (ad (13)), .ref (ad (57)), .ref (ad (59)), .ref (ad (64))]) := (hL30 _ (by decide) (by decide)).trans eO
      have e0 : σL30 (1) = .inr (4, [.ref (ad (2)), .ref (ad (3)), .int (oI (((n : Nat) : Int))), .int (oI (((a : Nat) : Int))), .int (oI (((g : Nat) : Int)))]) := (hL30 _ (by decide) (by decide)).trans e0
      have e1 : σL30 (2) = oAN cT 4 sz := (hL30 _ (by decide) (by decide)).trans e1
      have e2 : σL30 (3) = oAJ cT 4 w := (hL30 _ (by decide) (by decide)).trans e2
      have e59 : σL30 (59) = .inr (3, [.ref (ad (60)), .ref (ad (61)), .int (oI (((ld : Nat) : Int))), .ref (ad (62)), .ref (ad (63))]) := (hL30 _ (by decide) (by decide)).trans e59
      have hf : ∀ q : Nat, q ≠ 62 → q ≠ 63 → σL30 q = σ q := fun q n0 n1 => (hL30 q n0 n1).trans (hf q n0 n1)
      have hnl := oNd_le n a g sz w r i
      refine lv_iload hx hb dX5_needless_30 (lv_at hl 5 rfl) ?_
      refine m_bipush 40 hx hb dX5_needless_32 (by decide) ?_
      refine m_icmp_ge 107 hx hb dX5_needless_34 (by decide) (by omega) (by omega) (fun h_8 => ?_) (fun h_8 => ?_)
      · refine lv_iload hx hb dX5_needless_107 (lv_at hl 4 rfl) ?_
        exact m_iretX hx hb hlk hrt hH ⟨Nat.le_of_ble_eq_true rfl, Nat.le_of_ble_eq_true rfl⟩ (m_ni _) dX5_needless_109 ⟨w4, g4, congrArg oI (by rw [hc, show i = 39 by omega]), hru, e62, e63, hf⟩
      · refine lv_aload_n hx hb dX5_needless_37 rfl (lv_at hl 0 rfl) ?_
        refine gf_X5_present hx hb hts hown hK hH (k := 0) (by omega) eO dX5_needless_38 ?_
        refine lv_iload_n hx hb dX5_needless_41 rfl (lv_at hl 1 rfl) ?_
        refine lv_iload hx hb dX5_needless_42 (lv_at hl 5 rfl) ?_
        refine m_pVb hx hb hml hown hts hK hH hl (rest := []) cw_X5_170 (c4_hasMark hA 1 n a g sz w r (((i : Nat) : Int) + 1) (by first | assumption | omega) (by first | assumption | omega) (by first | assumption | omega) (by first | assumption | omega) (by first | assumption | omega) e0 e1 e2) ⟨Nat.le_of_ble_eq_true rfl, Nat.le_of_ble_eq_true rfl⟩ ⟨Nat.le_of_ble_eq_true rfl, Nat.le_of_ble_eq_true rfl⟩ rfl (k := 1) (by omega) e0 rfl rfl (Nat.le_of_ble_eq_true rfl) dX5_needless_44 (fun hM H locs hH => ?_) (fun hM H locs hH => ?_)
        · refine m_if_eq 101 hx hb dX5_needless_47 (by decide) (by omega) (fun h_9 => absurd h_9 (by omega)) (fun h_9 => ?_)
          refine lv_aload_n hx hb dX5_needless_50 rfl (lv_at hl 0 rfl) ?_
          refine gf_X5_present hx hb hts hown hK hH (k := 0) (by omega) eO dX5_needless_51 ?_
          refine lv_iload_n hx hb dX5_needless_54 rfl (lv_at hl 1 rfl) ?_
          refine lv_iload hx hb dX5_needless_55 (lv_at hl 5 rfl) ?_
          refine m_pVb hx hb hml hown hts hK hH hl (rest := []) cw_X5_261 (c4_isEnd hA 1 n a g sz w r (((i : Nat) : Int) + 1) (by first | assumption | omega) (by first | assumption | omega) (by first | assumption | omega) (by first | assumption | omega) (by first | assumption | omega) e0 e1 e2) ⟨Nat.le_of_ble_eq_true rfl, Nat.le_of_ble_eq_true rfl⟩ ⟨Nat.le_of_ble_eq_true rfl, Nat.le_of_ble_eq_true rfl⟩ rfl (k := 1) (by omega) e0 rfl rfl (Nat.le_of_ble_eq_true rfl) dX5_needless_57 (fun hE H locs hH => ?_) (fun hE H locs hH => ?_)
          · refine m_if_ne 101 hx hb dX5_needless_60 (by decide) (by omega) (fun h_10 => ?_) (fun h_10 => absurd h_10 (by omega))
            refine m_iinc (((i : Nat) : Int) + 2) [(6, .int (oI (((i : Nat) : Int) + 2))), (0, .ref (ad (0))), (1, .int (oI (r))), (2, .long (lN (oOrW n w r 4))), (4, .int (oI (((oCnt (oOrW n w (-1) 4) a g : Nat) : Int)))), (5, .int (oI (((ac : Nat) : Int))))] hx hb dX5_needless_101 hl (j := 5) rfl (by omega) (by decide) rfl (fun ls hl => ?_)
            refine lv_goto (tgt := 30) hx hb dX5_needless_104 (by decide) ?_
            exact ih30 (i + 1) ac w4 g4 (by omega) (by first | assumption | omega) (by rw [oNd_n (fun q => (oNdB_iff.mp q).2.1 (by omega))]; exact hc) _ e62 e63 (hL30) _ _ hH ls (lv_sub hl [1, 2, 3, 4, 5, 0] rfl)
          · refine m_if_ne 101 hx hb dX5_needless_60 (by decide) (by omega) (fun h_11 => absurd h_11 (by omega)) (fun h_11 => ?_)
            refine lv_lload_n hx hb dX5_needless_63 rfl (lv_at hl 2 rfl) ?_
            refine lv_aload_n hx hb dX5_needless_64 rfl (lv_at hl 0 rfl) ?_
            refine gf_X5_present hx hb hts hown hK hH (k := 0) (by omega) eO dX5_needless_65 ?_
            refine lv_iload_n hx hb dX5_needless_68 rfl (lv_at hl 1 rfl) ?_
            refine m_pVn hx hb hml hown hts hK hH hl (rest := [.long (lN (oOrW n w r 4))]) cw_X5_147 (c4_row hA 1 n a g sz w r (by first | assumption | omega) (by first | assumption | omega) (by first | assumption | omega) e0 e1 e2) ⟨Nat.le_of_ble_eq_true rfl, Nat.le_of_ble_eq_true rfl⟩ ⟨Nat.le_of_ble_eq_true rfl, Nat.le_of_ble_eq_true rfl⟩ rfl (k := 1) (by omega) e0 rfl rfl (Nat.le_of_ble_eq_true rfl) dX5_needless_69 (fun H locs hH => ?_)
            refine m_lconstN 1 hx hb dX5_needless_72 rfl ?_
            refine lv_iload hx hb dX5_needless_73 (lv_at hl 5 rfl) ?_
            refine m_lshl (2 ^ (i + 1)) hx hb dX5_needless_75 (by omega) (Nat.one_mul _) ?_
            refine lv_ldc2 (v := (-1)) hx hb hown (hts _ kl_X5_264) dX5_needless_76 ?_
            refine m_J2N 18446744073709551615 (by decide +kernel) ?_
            refine m_lxor ((2 ^ (i + 1)) ^^^ 18446744073709551615) hx hb dX5_needless_79 (rfl) ?_
            refine m_land (oSet0 (oRow n w r) (i + 1)) hx hb dX5_needless_80 (rfl) ?_
            refine m_pSn hx hb hml hown hts hK hH hl (rest := [.long (lN (oOrW n w r 4))]) cw_X5_151 rfl (c5_spreadOf hA (oSet0 (oRow n w r) (i + 1)) (Nat.lt_of_le_of_lt Nat.and_le_left (hw64 r)) ) ⟨Nat.le_of_ble_eq_true rfl, Nat.le_of_ble_eq_true rfl⟩ ⟨Nat.le_of_ble_eq_true rfl, Nat.le_of_ble_eq_true rfl⟩ rfl rfl (Nat.le_of_ble_eq_true rfl) dX5_needless_81 (fun H locs hH => ?_)
            refine m_lor ((oOrW n w r 4) ||| (oSpr (oSet0 (oRow n w r) (i + 1)) 41)) hx hb dX5_needless_84 (rfl) ?_
            refine lv_lstore (lv' := [(7, .long (lN ((oOrW n w r 4) ||| (oSpr (oSet0 (oRow n w r) (i + 1)) 41)))), (0, .ref (ad (0))), (1, .int (oI (r))), (2, .long (lN (oOrW n w r 4))), (4, .int (oI (((oCnt (oOrW n w (-1) 4) a g : Nat) : Int)))), (5, .int (oI (((ac : Nat) : Int)))), (6, .int (oI (((i : Nat) : Int) + 1)))]) hx hb dX5_needless_85 hl (by decide) rfl (fun ls hl => ?_)
            refine lv_aload_n hx hb dX5_needless_87 rfl (lv_at hl 1 rfl) ?_
            refine lv_lload hx hb dX5_needless_88 (lv_at hl 0 rfl) ?_
            have hcx := oCnt_le (oOrW n w r 4 ||| oSpr (oSet0 (oRow n w r) (i + 1)) 41) a g
            refine m_callVi hx hb hml hown hts hK hH hl (rest := []) cw_X5_258 (c5_laidBy hA ((oOrW n w r 4) ||| (oSpr (oSet0 (oRow n w r) (i + 1)) 41)) n a g sz w ld w4 g4 ff sf (by first | assumption | omega) (by first | assumption | omega) (Nat.or_lt_two_pow ho64 (oSpr_41 _)) eO e0 e1 e2 e59 e62 e63) ⟨Nat.le_of_ble_eq_true rfl, Nat.le_of_ble_eq_true rfl⟩ ⟨Nat.le_of_ble_eq_true rfl, Nat.le_of_ble_eq_true rfl⟩ rfl (k := 0) (by omega) eO rfl rfl (Nat.le_of_ble_eq_true rfl) dX5_needless_90 (fun r_15 σ_12 H locs hp_13 hH => ?_)
            obtain ⟨w5, g5, rfl, e62, e63, hq_14⟩ := hp_13
            have eO : σ_12 (0) = .inr (5, [.ref (ad (1)), .ref (ad (4)), .ref (ad (7)), .ref (ad (10)), .int (oI (ff)), .int (oI (sf)), .ref (ad (13)), .ref (ad (57)), .ref (ad (59)), .ref (ad (64))]) := (hq_14 _ (by decide) (by decide)).trans eO
            have e0 : σ_12 (1) = .inr (4, [.ref (ad (2)), .ref (ad (3)), .int (oI (((n : Nat) : Int))), .int (oI (((a : Nat) : Int))), .int (oI (((g : Nat) : Int)))]) := (hq_14 _ (by decide) (by decide)).trans e0
            have e1 : σ_12 (2) = oAN cT 4 sz := (hq_14 _ (by decide) (by decide)).trans e1
            have e2 : σ_12 (3) = oAJ cT 4 w := (hq_14 _ (by decide) (by decide)).trans e2
            have e59 : σ_12 (59) = .inr (3, [.ref (ad (60)), .ref (ad (61)), .int (oI (((ld : Nat) : Int))), .ref (ad (62)), .ref (ad (63))]) := (hq_14 _ (by decide) (by decide)).trans e59
            have hf : ∀ q : Nat, q ≠ 62 → q ≠ 63 → σ_12 q = σ q := fun q n0 n1 => (hq_14 q n0 n1).trans (hf q n0 n1)
            have hL30 : ∀ q : Nat, q ≠ 62 → q ≠ 63 → σ_12 q = σ_4 q := fun q n0 n1 => (hq_14 q n0 n1).trans (hL30 q n0 n1)
            refine lv_iload hx hb dX5_needless_93 (lv_at hl 4 rfl) ?_
            refine m_icmp_ne 101 hx hb dX5_needless_95 (by decide) (by omega) (by omega) (fun hne => ?_) (fun hne => ?_)
            · refine m_iinc (((i : Nat) : Int) + 2) [(6, .int (oI (((i : Nat) : Int) + 2))), (7, .long (lN ((oOrW n w r 4) ||| (oSpr (oSet0 (oRow n w r) (i + 1)) 41)))), (0, .ref (ad (0))), (1, .int (oI (r))), (2, .long (lN (oOrW n w r 4))), (4, .int (oI (((oCnt (oOrW n w (-1) 4) a g : Nat) : Int)))), (5, .int (oI (((ac : Nat) : Int))))] hx hb dX5_needless_101 hl (j := 6) rfl (by omega) (by decide) rfl (fun ls hl => ?_)
              refine lv_goto (tgt := 30) hx hb dX5_needless_104 (by decide) ?_
              exact ih30 (i + 1) ac w5 g5 (by omega) (by first | assumption | omega) (by rw [oNd_n (fun q => hne (by rw [(oNdB_iff.mp q).2.2]))]; exact hc) _ e62 e63 (hL30) _ _ hH ls (lv_sub hl [2, 3, 4, 5, 6, 0] rfl)
            · refine m_iinc (((ac : Nat) : Int) + 1) [(5, .int (oI (((ac : Nat) : Int) + 1))), (7, .long (lN ((oOrW n w r 4) ||| (oSpr (oSet0 (oRow n w r) (i + 1)) 41)))), (0, .ref (ad (0))), (1, .int (oI (r))), (2, .long (lN (oOrW n w r 4))), (4, .int (oI (((oCnt (oOrW n w (-1) 4) a g : Nat) : Int)))), (6, .int (oI (((i : Nat) : Int) + 1)))] hx hb dX5_needless_98 hl (j := 5) rfl (by omega) (by decide) rfl (fun ls hl => ?_)
              refine m_iinc (((i : Nat) : Int) + 2) [(6, .int (oI (((i : Nat) : Int) + 2))), (5, .int (oI (((ac : Nat) : Int) + 1))), (7, .long (lN ((oOrW n w r 4) ||| (oSpr (oSet0 (oRow n w r) (i + 1)) 41)))), (0, .ref (ad (0))), (1, .int (oI (r))), (2, .long (lN (oOrW n w r 4))), (4, .int (oI (((oCnt (oOrW n w (-1) 4) a g : Nat) : Int))))] hx hb dX5_needless_101 hl (j := 6) rfl (by omega) (by decide) rfl (fun ls hl => ?_)
              refine lv_goto (tgt := 30) hx hb dX5_needless_104 (by decide) ?_
              exact ih30 (i + 1) (ac + 1) w5 g5 (by omega) (by first | assumption | omega) (by rw [oNd_y (oNdB_iff.mpr ⟨hM.2.2, by omega, Int.ofNat_inj.mp hne⟩), hc]) _ e62 e63 (hL30) _ _ hH ls (lv_sub hl [3, 4, 5, 6, 1, 0] rfl)
        · refine m_if_eq 101 hx hb dX5_needless_47 (by decide) (by omega) (fun h_17 => ?_) (fun h_17 => absurd h_17 (by omega))
          refine m_iinc (((i : Nat) : Int) + 2) [(6, .int (oI (((i : Nat) : Int) + 2))), (0, .ref (ad (0))), (1, .int (oI (r))), (2, .long (lN (oOrW n w r 4))), (4, .int (oI (((oCnt (oOrW n w (-1) 4) a g : Nat) : Int)))), (5, .int (oI (((ac : Nat) : Int))))] hx hb dX5_needless_101 hl (j := 5) rfl (by omega) (by decide) rfl (fun ls hl => ?_)
          refine lv_goto (tgt := 30) hx hb dX5_needless_104 (by decide) ?_
          exact ih30 (i + 1) ac w4 g4 (by omega) (by first | assumption | omega) (by rw [oNd_n (fun q => hM ⟨by omega, by omega, (oNdB_iff.mp q).1⟩)]; exact hc) _ e62 e63 (hL30) _ _ hH ls (lv_sub hl [1, 2, 3, 4, 5, 0] rfl)
  exact L30 _ 0 0 w3 g3 (Nat.lt_succ_self _) (by first | assumption | omega) (rfl) _ e62 e63 (fun q _ _ => rfl) _ _ hH ls (lv_sub hl [4, 5, 3, 2, 1, 0] rfl)
