def oLn (x : Int) (lr lk : Nat) (lf le : Int) : Int := if x = 0 then (lr : Int) else if x = 1 then (lk : Int) else if x = 2 then lf else le
theorem oErr_open {T : Nat → Int} {z : Nat} {f0 : Int} (h : (f0 = -1 ∧ oSg T z 0 = 75) ∨ (f0 = 0 ∧ oSg T z 0 ≠ 75)) : (f0 = -1 → oErr T z = oScan T z 120 1) ∧ (f0 ≠ -1 → f0 = 0 ∧ oErr T z = 0) := by
  have hs : 0 < z → oSg T z 0 = T 0 := fun hz => oSg_in (x := 0) ⟨by omega, by omega⟩
  have ho : z = 0 → oSg T z 0 = 0 := fun hz => oSg_out (by omega)
  refine ⟨fun e => ?_, fun e => ?_⟩
  · refine if_neg (fun q => ?_)
    rcases Nat.eq_zero_or_pos z with hz | hz
    · have := ho hz
      omega
    · have := hs hz
      rcases q with q | q <;> omega
  · refine ⟨by omega, if_pos ?_⟩
    rcases Nat.eq_zero_or_pos z with hz | hz
    · exact Or.inl hz
    · have := hs hz
      exact Or.inr (by omega)
/-- a command read: what the scan goes on with -/
theorem oScan_ok {T : Nat → Int} {z n p p2 ac x y : Nat} {f : Int} (h : p < z) (hc : oRc T z p f p2 ac x y) (e : f = -1) : oScan T z (n + 1) p = oScan T z n p2 := by
  rw [oScan_go (by omega) (hc.1.trans e), hc.2 e]
theorem oScan_no {T : Nat → Int} {z n p p2 ac x y : Nat} {f : Int} (h : p < z) (hc : oRc T z p f p2 ac x y) (e : ¬ f = -1) : oScan T z (n + 1) p = f := by
  rw [oScan_bad (by omega) (by rw [hc.1]; exact e), hc.1]
theorem oRc_good {T : Nat → Int} {z p p2 ac x y : Nat} {f : Int} (hc : oRc T z p f p2 ac x y) (e : f = -1) : p + 1 < p2 ∧ p2 ≤ z ∧ (1 ≤ ac ∧ ac ≤ 5) ∧ x ≤ 150 ∧ y ≤ 150 := by
  have h := oCm_ok (hc.1.trans e)
  rw [hc.2 e] at h
  simp only [] at h
  omega
noncomputable def oRunC (T : Nat → Int) (z : Nat) : Nat → Nat → Nat → Nat → Nat → Nat → (Nat → Nat) → (Nat → Nat) → Nat × Nat × Nat × Nat × (Nat → Nat) × (Nat → Nat)
  | 0, _, ou, n, a, g, sz, w => (ou, n, a, g, sz, w)
  | m + 1, p, ou, n, a, g, sz, w => if z ≤ p then (ou, n, a, g, sz, w) else
    oRunC T z m (oCm T z p).2.1 (if (oAtt ((oCm T z p).2.2.1 : Int) ((oCm T z p).2.2.2.1 : Int) ((oCm T z p).2.2.2.2 : Int) (if T p = 109 then 1 else 0) n a g sz w).1 = 0 then ou + 1 else ou)
      (oAtt ((oCm T z p).2.2.1 : Int) ((oCm T z p).2.2.2.1 : Int) ((oCm T z p).2.2.2.2 : Int) (if T p = 109 then 1 else 0) n a g sz w).2.1 (oAtt ((oCm T z p).2.2.1 : Int) ((oCm T z p).2.2.2.1 : Int) ((oCm T z p).2.2.2.2 : Int) (if T p = 109 then 1 else 0) n a g sz w).2.2.1
      (oAtt ((oCm T z p).2.2.1 : Int) ((oCm T z p).2.2.2.1 : Int) ((oCm T z p).2.2.2.2 : Int) (if T p = 109 then 1 else 0) n a g sz w).2.2.2.1 (oAtt ((oCm T z p).2.2.1 : Int) ((oCm T z p).2.2.2.1 : Int) ((oCm T z p).2.2.2.2 : Int) (if T p = 109 then 1 else 0) n a g sz w).2.2.2.2.1
      (oAtt ((oCm T z p).2.2.1 : Int) ((oCm T z p).2.2.2.1 : Int) ((oCm T z p).2.2.2.2 : Int) (if T p = 109 then 1 else 0) n a g sz w).2.2.2.2.2
theorem oRunC_end {T : Nat → Int} {z m p ou n a g : Nat} {sz w : Nat → Nat} (h : z ≤ p) : oRunC T z m p ou n a g sz w = (ou, n, a, g, sz, w) := by
  cases m with
  | zero => rfl
  | succ m => exact if_pos h
theorem oRunC_s {T : Nat → Int} {z m p ou n a g p2 ac x y n1 a1 g1 : Nat} {sz w sz1 w1 : Nat → Nat} {f on rt : Int} (h : p < z) (hc : oRc T z p f p2 ac x y) (e : f = -1) (ho : (on = 1 ∧ T p = 109) ∨ (on = 0 ∧ T p ≠ 109)) (hat : oAtt ((ac : Nat) : Int) ((x : Nat) : Int) ((y : Nat) : Int) on n a g sz w = (rt, n1, a1, g1, sz1, w1)) :
    oRunC T z (m + 1) p ou n a g sz w = oRunC T z m p2 (if rt = 0 then ou + 1 else ou) n1 a1 g1 sz1 w1 := by
  have hon : (if T p = 109 then (1 : Int) else 0) = on := by
    rcases ho with q | q
    · rw [if_pos q.2, q.1]
    · rw [if_neg q.2, q.1]
  refine (if_neg (by omega)).trans ?_
  rw [hc.2 e, hon]
  simp only []
  rw [hat]
set_option maxHeartbeats 4000000 in
set_option maxRecDepth 100000 in
theorem c2_giveBack {l : Launch} {D : va_G} {cT : Nat → ClassId} {N b0 : Nat} {ad : Nat → Nat} (hA : oAd b0 N ad) {σ : Nat → va_E} (kb nx ms n a g : Nat) (sz w : Nat → Nat) (mn ma mg : Nat → Nat) (msz mw : Nat → Nat → Nat) (hN : 76 ≤ N) (hkb : kb < 14) (hkn : (0 < nx ∧ kb + 1 = nx) ∨ (nx = 0 ∧ kb = 13)) (hms : 1 ≤ ms ∧ ms ≤ 14) (hm : ∀ i : Nat, i < 14 → σ (3 * i + 15) = .inr (4, [.ref (ad (3 * i + 16)), .ref (ad (3 * i + 17)), .int (oI ((mn i : Nat) : Int)), .int (oI ((ma i : Nat) : Int)), .int (oI ((mg i : Nat) : Int))]) ∧ σ (3 * i + 16) = oAN cT 4 (msz i) ∧ σ (3 * i + 17) = oAJ cT 4 (mw i)) (hmn4 : mn kb ≤ 4) (eM : σ (13) = .inr (2, [.ref (ad (14)), .int (oI (((nx : Nat) : Int))), .int (oI (((ms : Nat) : Int)))])) (eA : σ (14) = oAO cT 14 (oMem ad)) (e0 : σ (1) = .inr (4, [.ref (ad (2)), .ref (ad (3)), .int (oI (((n : Nat) : Int))), .int (oI (((a : Nat) : Int))), .int (oI (((g : Nat) : Int)))])) (e1 : σ (2) = oAN cT 4 sz) (e2 : σ (3) = oAJ cT 4 w) :
    oCi l D cT N ad b0 yX2_giveBack cX2_giveBack 2 (some .boolean) 2 46 [.ref (ad (13)), .ref (ad (1))] σ (fun rr uu => ∃ sz1 : Nat → Nat, ∃ w1 : Nat → Nat, rr = oI (1) ∧ (∀ r : Nat, r < mn kb → sz1 r = msz kb r ∧ w1 r = mw kb r) ∧ uu (13) = .inr (2, [.ref (ad (14)), .int (oI (((kb : Nat) : Int))), .int (oI (((ms - 1 : Nat) : Int)))]) ∧ uu (1) = .inr (4, [.ref (ad (2)), .ref (ad (3)), .int (oI (((mn kb : Nat) : Int))), .int (oI (((ma kb : Nat) : Int))), .int (oI (((mg kb : Nat) : Int)))]) ∧ uu (2) = oAN cT 4 sz1 ∧ uu (3) = oAJ cT 4 w1 ∧ (∀ q : Nat, q ≠ 13 → q ≠ 1 → q ≠ 2 → q ≠ 3 → uu q = σ q)) := by
  refine m_start (cc := cX2_giveBack) (by decide) (Nat.le_of_ble_eq_true rfl) rfl ?_
  intro Pp Ee Ss Mm Bb Me Cc Ar ls hx hb hml hown hlk hrt hts hK hH hl
  have hown : Ss.vm.findClass RX2 = some Mm.cls := hown
  obtain ⟨em0, em1, em2⟩ := hm kb hkb
  have hl : lv_has ls 2 [(0, .ref (ad (13))), (1, .ref (ad (1)))] := hl
  have hf : ∀ q : Nat, q ≠ 13 → q ≠ 1 → q ≠ 2 → q ≠ 3 → σ q = σ q := fun q _ _ _ _ => rfl
  refine lv_aload_n hx hb dX2_giveBack_0 rfl (lv_at hl 0 rfl) ?_
  refine gf_X2_size hx hb hts hown hK hH (k := 13) (by omega) eM dX2_giveBack_1 ?_
  refine m_if_eq 11 hx hb dX2_giveBack_4 (by decide) (by omega) (fun h_1 => absurd h_1 (by omega)) (fun h_1 => ?_)
  refine lv_aload_n hx hb dX2_giveBack_7 rfl (lv_at hl 1 rfl) ?_
  refine lv_ifnonnull (tgt := 13) hx hb dX2_giveBack_8 (by decide) ?_
  refine lv_aload_n hx hb dX2_giveBack_13 rfl (lv_at hl 0 rfl) ?_
  refine lv_dup hx hb dX2_giveBack_14 rfl ?_
  refine gf_X2_size hx hb hts hown hK hH (k := 13) (by omega) eM dX2_giveBack_15 ?_
  refine m_iconst 1 hx hb dX2_giveBack_18 rfl ?_
  refine m_isub (((ms : Nat) : Int) - 1) hx hb dX2_giveBack_19 (by omega) ?_
  refine m_topI (((ms - 1 : Nat) : Int)) (by omega) ?_
  refine pf_X2_size hx hb hts hown hK hH hA (k := 13) (by omega) eM dX2_giveBack_20 (fun H locs σ_2 eM hq_3 hH => ?_)
  have eA : σ_2 (14) = oAO cT 14 (oMem ad) := (hq_3 _ (by decide)).trans eA
  have e0 : σ_2 (1) = .inr (4, [.ref (ad (2)), .ref (ad (3)), .int (oI (((n : Nat) : Int))), .int (oI (((a : Nat) : Int))), .int (oI (((g : Nat) : Int)))]) := (hq_3 _ (by decide)).trans e0
  have e1 : σ_2 (2) = oAN cT 4 sz := (hq_3 _ (by decide)).trans e1
  have e2 : σ_2 (3) = oAJ cT 4 w := (hq_3 _ (by decide)).trans e2
  have em0 : σ_2 (3 * kb + 15) = .inr (4, [.ref (ad (3 * kb + 16)), .ref (ad (3 * kb + 17)), .int (oI (((mn kb : Nat) : Int))), .int (oI (((ma kb : Nat) : Int))), .int (oI (((mg kb : Nat) : Int)))]) := (hq_3 _ (by omega)).trans em0
  have em1 : σ_2 (3 * kb + 16) = oAN cT 4 (msz kb) := (hq_3 _ (by omega)).trans em1
  have em2 : σ_2 (3 * kb + 17) = oAJ cT 4 (mw kb) := (hq_3 _ (by omega)).trans em2
  have hf : ∀ q : Nat, q ≠ 13 → q ≠ 1 → q ≠ 2 → q ≠ 3 → σ_2 q = σ q := fun q n0 n1 n2 n3 => (hq_3 q n0).trans (hf q n0 n1 n2 n3)
  refine lv_aload_n hx hb dX2_giveBack_23 rfl (lv_at hl 0 rfl) ?_
  refine lv_aload_n hx hb dX2_giveBack_24 rfl (lv_at hl 0 rfl) ?_
  refine gf_X2_next hx hb hts hown hK hH (k := 13) (by omega) eM dX2_giveBack_25 ?_
  refine m_if_le 40 hx hb dX2_giveBack_28 (by decide) (by omega) (fun h_4 => ?_) (fun h_4 => ?_)
  · refine m_bipush 13 hx hb dX2_giveBack_40 (by decide) ?_
    refine m_topI (((kb : Nat) : Int)) (by omega) ?_
    refine pf_X2_next hx hb hts hown hK hH hA (k := 13) (by omega) eM dX2_giveBack_42 (fun H locs σ_5 eM hq_6 hH => ?_)
    have eA : σ_5 (14) = oAO cT 14 (oMem ad) := (hq_6 _ (by decide)).trans eA
    have e0 : σ_5 (1) = .inr (4, [.ref (ad (2)), .ref (ad (3)), .int (oI (((n : Nat) : Int))), .int (oI (((a : Nat) : Int))), .int (oI (((g : Nat) : Int)))]) := (hq_6 _ (by decide)).trans e0
    have e1 : σ_5 (2) = oAN cT 4 sz := (hq_6 _ (by decide)).trans e1
    have e2 : σ_5 (3) = oAJ cT 4 w := (hq_6 _ (by decide)).trans e2
    have em0 : σ_5 (3 * kb + 15) = .inr (4, [.ref (ad (3 * kb + 16)), .ref (ad (3 * kb + 17)), .int (oI (((mn kb : Nat) : Int))), .int (oI (((ma kb : Nat) : Int))), .int (oI (((mg kb : Nat) : Int)))]) := (hq_6 _ (by omega)).trans em0
    have em1 : σ_5 (3 * kb + 16) = oAN cT 4 (msz kb) := (hq_6 _ (by omega)).trans em1
    have em2 : σ_5 (3 * kb + 17) = oAJ cT 4 (mw kb) := (hq_6 _ (by omega)).trans em2
    have hf : ∀ q : Nat, q ≠ 13 → q ≠ 1 → q ≠ 2 → q ≠ 3 → σ_5 q = σ q := fun q n0 n1 n2 n3 => (hq_6 q n0).trans (hf q n0 n1 n2 n3)
    refine lv_aload_n hx hb dX2_giveBack_45 rfl (lv_at hl 0 rfl) ?_
    refine gf_X2_next hx hb hts hown hK hH (k := 13) (by omega) eM dX2_giveBack_46 ?_
    refine m_if_lt 77 hx hb dX2_giveBack_49 (by decide) (by omega) (fun h_7 => absurd h_7 (by omega)) (fun h_7 => ?_)
    refine lv_aload_n hx hb dX2_giveBack_52 rfl (lv_at hl 0 rfl) ?_
    refine gf_X2_next hx hb hts hown hK hH (k := 13) (by omega) eM dX2_giveBack_53 ?_
    refine lv_aload_n hx hb dX2_giveBack_56 rfl (lv_at hl 0 rfl) ?_
    refine gf_X2_states hx hb hts hown hK hH (k := 13) (by omega) eM dX2_giveBack_57 ?_
    refine m_alen hx hb hK hH (k := 14) (by omega) eA 4 rfl 14 rfl dX2_giveBack_60 ?_
    refine m_icmp_ge 77 hx hb dX2_giveBack_61 (by decide) (by omega) (by omega) (fun h_8 => absurd h_8 (by omega)) (fun h_8 => ?_)
    refine lv_aload_n hx hb dX2_giveBack_64 rfl (lv_at hl 1 rfl) ?_
    refine lv_aload_n hx hb dX2_giveBack_65 rfl (lv_at hl 0 rfl) ?_
    refine gf_X2_states hx hb hts hown hK hH (k := 13) (by omega) eM dX2_giveBack_66 ?_
    refine lv_aload_n hx hb dX2_giveBack_69 rfl (lv_at hl 0 rfl) ?_
    refine gf_X2_next hx hb hts hown hK hH (k := 13) (by omega) eM dX2_giveBack_70 ?_
    refine m_aald hx hb hK hH (k := 14) (by omega) eA (kb) (by omega) (by omega) (by decide) dX2_giveBack_73 ?_
    rw [show (oMem ad) kb = some (ad (3 * kb + 15)) from oMem_in (by omega)]
    show W Pp l Ee _ Ss Mm Ar Bb Me Cc _ _ _ _ _ (F0 Mm 74 ls (.ref (ad (3 * kb + 15)) :: .ref (ad (1)) :: []))
    refine m_callVv hx hb hml hown hts hK hH hl (rest := []) cw_X2_22 (c4_become hA 1 n a g (3 * kb + 15) (mn kb) (ma kb) (mg kb) sz w (msz kb) (mw kb) (by first | assumption | omega) (by first | assumption | omega) (by first | assumption | omega) (by first | assumption | omega) e0 e1 e2 em0 em1 em2) ⟨Nat.le_of_ble_eq_true rfl, Nat.le_of_ble_eq_true rfl⟩ ⟨Nat.le_of_ble_eq_true rfl, Nat.le_of_ble_eq_true rfl⟩ rfl (k := 1) (by omega) e0 rfl rfl (Nat.le_of_ble_eq_true rfl) dX2_giveBack_74 (fun σ_9 H locs hp_10 hH => ?_)
    obtain ⟨sz1, w1, hsw, e0, e1, e2, hq_11⟩ := hp_10
    have eM : σ_9 (13) = .inr (2, [.ref (ad (14)), .int (oI (((kb : Nat) : Int))), .int (oI (((ms - 1 : Nat) : Int)))]) := (hq_11 _ (by decide) (by decide) (by decide)).trans eM
    have eA : σ_9 (14) = oAO cT 14 (oMem ad) := (hq_11 _ (by decide) (by decide) (by decide)).trans eA
    have em0 : σ_9 (3 * kb + 15) = .inr (4, [.ref (ad (3 * kb + 16)), .ref (ad (3 * kb + 17)), .int (oI (((mn kb : Nat) : Int))), .int (oI (((ma kb : Nat) : Int))), .int (oI (((mg kb : Nat) : Int)))]) := (hq_11 _ (by omega) (by omega) (by omega)).trans em0
    have em1 : σ_9 (3 * kb + 16) = oAN cT 4 (msz kb) := (hq_11 _ (by omega) (by omega) (by omega)).trans em1
    have em2 : σ_9 (3 * kb + 17) = oAJ cT 4 (mw kb) := (hq_11 _ (by omega) (by omega) (by omega)).trans em2
    have hf : ∀ q : Nat, q ≠ 13 → q ≠ 1 → q ≠ 2 → q ≠ 3 → σ_9 q = σ q := fun q n0 n1 n2 n3 => (hq_11 q n1 n2 n3).trans (hf q n0 n1 n2 n3)
    refine m_iconst 1 hx hb dX2_giveBack_77 rfl ?_
    exact m_iret hx hb hlk hrt hH m_z1 dX2_giveBack_78 ⟨sz1, w1, rfl, hsw, eM, e0, e1, e2, hf⟩
  · refine lv_aload_n hx hb dX2_giveBack_31 rfl (lv_at hl 0 rfl) ?_
    refine gf_X2_next hx hb hts hown hK hH (k := 13) (by omega) eM dX2_giveBack_32 ?_
    refine m_iconst 1 hx hb dX2_giveBack_35 rfl ?_
    refine m_isub (((nx : Nat) : Int) - 1) hx hb dX2_giveBack_36 (by omega) ?_
    refine m_topI (((kb : Nat) : Int)) (by omega) ?_
    refine lv_goto (tgt := 42) hx hb dX2_giveBack_37 (by decide) ?_
    refine pf_X2_next hx hb hts hown hK hH hA (k := 13) (by omega) eM dX2_giveBack_42 (fun H locs σ_13 eM hq_14 hH => ?_)
    have eA : σ_13 (14) = oAO cT 14 (oMem ad) := (hq_14 _ (by decide)).trans eA
    have e0 : σ_13 (1) = .inr (4, [.ref (ad (2)), .ref (ad (3)), .int (oI (((n : Nat) : Int))), .int (oI (((a : Nat) : Int))), .int (oI (((g : Nat) : Int)))]) := (hq_14 _ (by decide)).trans e0
    have e1 : σ_13 (2) = oAN cT 4 sz := (hq_14 _ (by decide)).trans e1
    have e2 : σ_13 (3) = oAJ cT 4 w := (hq_14 _ (by decide)).trans e2
    have em0 : σ_13 (3 * kb + 15) = .inr (4, [.ref (ad (3 * kb + 16)), .ref (ad (3 * kb + 17)), .int (oI (((mn kb : Nat) : Int))), .int (oI (((ma kb : Nat) : Int))), .int (oI (((mg kb : Nat) : Int)))]) := (hq_14 _ (by omega)).trans em0
    have em1 : σ_13 (3 * kb + 16) = oAN cT 4 (msz kb) := (hq_14 _ (by omega)).trans em1
    have em2 : σ_13 (3 * kb + 17) = oAJ cT 4 (mw kb) := (hq_14 _ (by omega)).trans em2
    have hf : ∀ q : Nat, q ≠ 13 → q ≠ 1 → q ≠ 2 → q ≠ 3 → σ_13 q = σ q := fun q n0 n1 n2 n3 => (hq_14 q n0).trans (hf q n0 n1 n2 n3)
    refine lv_aload_n hx hb dX2_giveBack_45 rfl (lv_at hl 0 rfl) ?_
    refine gf_X2_next hx hb hts hown hK hH (k := 13) (by omega) eM dX2_giveBack_46 ?_
    refine m_if_lt 77 hx hb dX2_giveBack_49 (by decide) (by omega) (fun h_15 => absurd h_15 (by omega)) (fun h_15 => ?_)
    refine lv_aload_n hx hb dX2_giveBack_52 rfl (lv_at hl 0 rfl) ?_
    refine gf_X2_next hx hb hts hown hK hH (k := 13) (by omega) eM dX2_giveBack_53 ?_
    refine lv_aload_n hx hb dX2_giveBack_56 rfl (lv_at hl 0 rfl) ?_
    refine gf_X2_states hx hb hts hown hK hH (k := 13) (by omega) eM dX2_giveBack_57 ?_
    refine m_alen hx hb hK hH (k := 14) (by omega) eA 4 rfl 14 rfl dX2_giveBack_60 ?_
    refine m_icmp_ge 77 hx hb dX2_giveBack_61 (by decide) (by omega) (by omega) (fun h_16 => absurd h_16 (by omega)) (fun h_16 => ?_)
    refine lv_aload_n hx hb dX2_giveBack_64 rfl (lv_at hl 1 rfl) ?_
    refine lv_aload_n hx hb dX2_giveBack_65 rfl (lv_at hl 0 rfl) ?_
    refine gf_X2_states hx hb hts hown hK hH (k := 13) (by omega) eM dX2_giveBack_66 ?_
    refine lv_aload_n hx hb dX2_giveBack_69 rfl (lv_at hl 0 rfl) ?_
    refine gf_X2_next hx hb hts hown hK hH (k := 13) (by omega) eM dX2_giveBack_70 ?_
    refine m_aald hx hb hK hH (k := 14) (by omega) eA (kb) (by omega) (by omega) (by decide) dX2_giveBack_73 ?_
    rw [show (oMem ad) kb = some (ad (3 * kb + 15)) from oMem_in (by omega)]
    show W Pp l Ee _ Ss Mm Ar Bb Me Cc _ _ _ _ _ (F0 Mm 74 ls (.ref (ad (3 * kb + 15)) :: .ref (ad (1)) :: []))
    refine m_callVv hx hb hml hown hts hK hH hl (rest := []) cw_X2_22 (c4_become hA 1 n a g (3 * kb + 15) (mn kb) (ma kb) (mg kb) sz w (msz kb) (mw kb) (by first | assumption | omega) (by first | assumption | omega) (by first | assumption | omega) (by first | assumption | omega) e0 e1 e2 em0 em1 em2) ⟨Nat.le_of_ble_eq_true rfl, Nat.le_of_ble_eq_true rfl⟩ ⟨Nat.le_of_ble_eq_true rfl, Nat.le_of_ble_eq_true rfl⟩ rfl (k := 1) (by omega) e0 rfl rfl (Nat.le_of_ble_eq_true rfl) dX2_giveBack_74 (fun σ_17 H locs hp_18 hH => ?_)
    obtain ⟨sz1, w1, hsw, e0, e1, e2, hq_19⟩ := hp_18
    have eM : σ_17 (13) = .inr (2, [.ref (ad (14)), .int (oI (((kb : Nat) : Int))), .int (oI (((ms - 1 : Nat) : Int)))]) := (hq_19 _ (by decide) (by decide) (by decide)).trans eM
    have eA : σ_17 (14) = oAO cT 14 (oMem ad) := (hq_19 _ (by decide) (by decide) (by decide)).trans eA
    have em0 : σ_17 (3 * kb + 15) = .inr (4, [.ref (ad (3 * kb + 16)), .ref (ad (3 * kb + 17)), .int (oI (((mn kb : Nat) : Int))), .int (oI (((ma kb : Nat) : Int))), .int (oI (((mg kb : Nat) : Int)))]) := (hq_19 _ (by omega) (by omega) (by omega)).trans em0
    have em1 : σ_17 (3 * kb + 16) = oAN cT 4 (msz kb) := (hq_19 _ (by omega) (by omega) (by omega)).trans em1
    have em2 : σ_17 (3 * kb + 17) = oAJ cT 4 (mw kb) := (hq_19 _ (by omega) (by omega) (by omega)).trans em2
    have hf : ∀ q : Nat, q ≠ 13 → q ≠ 1 → q ≠ 2 → q ≠ 3 → σ_17 q = σ q := fun q n0 n1 n2 n3 => (hq_19 q n1 n2 n3).trans (hf q n0 n1 n2 n3)
    refine m_iconst 1 hx hb dX2_giveBack_77 rfl ?_
    exact m_iret hx hb hlk hrt hH m_z1 dX2_giveBack_78 ⟨sz1, w1, rfl, hsw, eM, e0, e1, e2, hf⟩
set_option maxHeartbeats 4000000 in
set_option maxRecDepth 100000 in
theorem c2_giveBack0 {l : Launch} {D : va_G} {cT : Nat → ClassId} {N b0 : Nat} {ad : Nat → Nat} (hA : oAd b0 N ad) {σ : Nat → va_E} (nx ms : Nat) (hN : 76 ≤ N) (hms0 : ms = 0) (eM : σ (13) = .inr (2, [.ref (ad (14)), .int (oI (((nx : Nat) : Int))), .int (oI (((ms : Nat) : Int)))])) :
    oCi l D cT N ad b0 yX2_giveBack cX2_giveBack 2 (some .boolean) 2 46 [.ref (ad (13)), .ref (ad (1))] σ (fun rr uu => rr = oI (0) ∧ uu = σ) := by
  refine m_start (cc := cX2_giveBack) (by decide) (Nat.le_of_ble_eq_true rfl) rfl ?_
  intro Pp Ee Ss Mm Bb Me Cc Ar ls hx hb hml hown hlk hrt hts hK hH hl
  have hown : Ss.vm.findClass RX2 = some Mm.cls := hown
  have hl : lv_has ls 2 [(0, .ref (ad (13))), (1, .ref (ad (1)))] := hl
  refine lv_aload_n hx hb dX2_giveBack_0 rfl (lv_at hl 0 rfl) ?_
  refine gf_X2_size hx hb hts hown hK hH (k := 13) (by omega) eM dX2_giveBack_1 ?_
  refine m_if_eq 11 hx hb dX2_giveBack_4 (by decide) (by omega) (fun h_1 => ?_) (fun h_1 => absurd h_1 (by omega))
  refine m_iconst 0 hx hb dX2_giveBack_11 rfl ?_
  exact m_iret hx hb hlk hrt hH m_z0 dX2_giveBack_12 ⟨rfl, rfl⟩
set_option maxHeartbeats 4000000 in
set_option maxRecDepth 100000 in
theorem c1_begin {l : Launch} {D : va_G} {cT : Nat → ClassId} {N b0 : Nat} {ad : Nat → Nat} (hA : oAd b0 N ad) {σ : Nat → va_E} (lr lk : Nat) (lf le : Int) (hN : 76 ≤ N) (hle : -2147483648 ≤ le ∧ le < 2147483648) (e64 : σ (64) = .inr (1, [.int (oI (((lr : Nat) : Int))), .int (oI (((lk : Nat) : Int))), .int (oI (lf)), .int (oI (le))])) :
    oCv l D cT N ad b0 yX1_begin cX1_begin 1 none 0 0 [.ref (ad (64))] σ (fun uu => uu (64) = .inr (1, [.int (oI (((lr : Nat) : Int))), .int (oI (((lk : Nat) : Int))), .int (oI (lf)), .int (oI (0))]) ∧ (∀ q : Nat, q ≠ 64 → uu q = σ q)) := by
  refine m_start (cc := cX1_begin) (by decide) (Nat.le_of_ble_eq_true rfl) rfl ?_
  intro Pp Ee Ss Mm Bb Me Cc Ar ls hx hb hml hown hlk hrt hts hK hH hl
  have hown : Ss.vm.findClass RX1 = some Mm.cls := hown
  have hl : lv_has ls 1 [(0, .ref (ad (64)))] := hl
  have hf : ∀ q : Nat, q ≠ 64 → σ q = σ q := fun q _ => rfl
  refine lv_aload_n hx hb dX1_begin_0 rfl (lv_at hl 0 rfl) ?_
  refine m_iconst 0 hx hb dX1_begin_1 rfl ?_
  refine pf_X1_end hx hb hts hown hK hH hA (k := 64) (by omega) e64 dX1_begin_2 (fun H locs σ_1 e64 hq_2 hH => ?_)
  have hf : ∀ q : Nat, q ≠ 64 → σ_1 q = σ q := fun q n0 => (hq_2 q n0).trans (hf q n0)
  exact m_vret hx hb hlk hrt hH dX1_begin_5 ⟨e64, hf⟩
set_option maxHeartbeats 4000000 in
set_option maxRecDepth 100000 in
theorem c1_note {l : Launch} {D : va_G} {cT : Nat → ClassId} {N b0 : Nat} {ad : Nat → Nat} (hA : oAd b0 N ad) {σ : Nat → va_E} (r2 k2 : Nat) (f2 e2 : Int) (lr lk : Nat) (lf le : Int) (hN : 76 ≤ N) (hle : -2147483648 ≤ le ∧ le < 2147483648) (hf2 : f2 = 0 ∨ f2 = 1) (e64 : σ (64) = .inr (1, [.int (oI (((lr : Nat) : Int))), .int (oI (((lk : Nat) : Int))), .int (oI (lf)), .int (oI (le))])) :
    oCv l D cT N ad b0 yX1_note cX1_note 5 none 0 0 [.ref (ad (64)), .int (oI (((r2 : Nat) : Int))), .int (oI (((k2 : Nat) : Int))), .int (oI (f2)), .int (oI (e2))] σ (fun uu => uu (64) = .inr (1, [.int (oI (((r2 : Nat) : Int))), .int (oI (((k2 : Nat) : Int))), .int (oI (f2)), .int (oI (e2))]) ∧ (∀ q : Nat, q ≠ 64 → uu q = σ q)) := by
  refine m_start (cc := cX1_note) (by decide) (Nat.le_of_ble_eq_true rfl) rfl ?_
  intro Pp Ee Ss Mm Bb Me Cc Ar ls hx hb hml hown hlk hrt hts hK hH hl
  have hown : Ss.vm.findClass RX1 = some Mm.cls := hown
  have hl : lv_has ls 5 [(0, .ref (ad (64))), (1, .int (oI (((r2 : Nat) : Int)))), (2, .int (oI (((k2 : Nat) : Int)))), (3, .int (oI (f2))), (4, .int (oI (e2)))] := hl
  have hf : ∀ q : Nat, q ≠ 64 → σ q = σ q := fun q _ => rfl
  refine lv_aload_n hx hb dX1_note_0 rfl (lv_at hl 0 rfl) ?_
  refine lv_iload_n hx hb dX1_note_1 rfl (lv_at hl 1 rfl) ?_
  refine pf_X1_ruler hx hb hts hown hK hH hA (k := 64) (by omega) e64 dX1_note_2 (fun H locs σ_1 e64 hq_2 hH => ?_)
  have hf : ∀ q : Nat, q ≠ 64 → σ_1 q = σ q := fun q n0 => (hq_2 q n0).trans (hf q n0)
  refine lv_aload_n hx hb dX1_note_5 rfl (lv_at hl 0 rfl) ?_
  refine lv_iload_n hx hb dX1_note_6 rfl (lv_at hl 2 rfl) ?_
  refine pf_X1_number hx hb hts hown hK hH hA (k := 64) (by omega) e64 dX1_note_7 (fun H locs σ_3 e64 hq_4 hH => ?_)
  have hf : ∀ q : Nat, q ≠ 64 → σ_3 q = σ q := fun q n0 => (hq_4 q n0).trans (hf q n0)
  refine lv_aload_n hx hb dX1_note_10 rfl (lv_at hl 0 rfl) ?_
  refine lv_iload_n hx hb dX1_note_11 rfl (lv_at hl 3 rfl) ?_
  refine pf_X1_forward hx hb hts hown hK hH hA (k := 64) (by omega) e64 (m_zb hf2) (m_fb hf2) dX1_note_12 (fun H locs σ_5 e64 hq_6 hH => ?_)
  have hf : ∀ q : Nat, q ≠ 64 → σ_5 q = σ q := fun q n0 => (hq_6 q n0).trans (hf q n0)
  refine lv_aload_n hx hb dX1_note_15 rfl (lv_at hl 0 rfl) ?_
  refine lv_iload hx hb dX1_note_16 (lv_at hl 4 rfl) ?_
  refine pf_X1_end hx hb hts hown hK hH hA (k := 64) (by omega) e64 dX1_note_18 (fun H locs σ_7 e64 hq_8 hH => ?_)
  have hf : ∀ q : Nat, q ≠ 64 → σ_7 q = σ q := fun q n0 => (hq_8 q n0).trans (hf q n0)
  exact m_vret hx hb hlk hrt hH dX1_note_21 ⟨e64, hf⟩
set_option maxHeartbeats 4000000 in
set_option maxRecDepth 100000 in
theorem c1_end {l : Launch} {D : va_G} {cT : Nat → ClassId} {N b0 : Nat} {ad : Nat → Nat} (hA : oAd b0 N ad) {σ : Nat → va_E} (lr lk : Nat) (lf le : Int) (hN : 76 ≤ N) (hle : -2147483648 ≤ le ∧ le < 2147483648) (e64 : σ (64) = .inr (1, [.int (oI (((lr : Nat) : Int))), .int (oI (((lk : Nat) : Int))), .int (oI (lf)), .int (oI (le))])) :
    oCi l D cT N ad b0 yX1_end cX1_end 1 (some .int) 0 0 [.ref (ad (64))] σ (fun rr uu => rr = oI (le) ∧ uu = σ) := by
  refine m_start (cc := cX1_end) (by decide) (Nat.le_of_ble_eq_true rfl) rfl ?_
  intro Pp Ee Ss Mm Bb Me Cc Ar ls hx hb hml hown hlk hrt hts hK hH hl
  have hown : Ss.vm.findClass RX1 = some Mm.cls := hown
  have hl : lv_has ls 1 [(0, .ref (ad (64)))] := hl
  refine lv_aload_n hx hb dX1_end_0 rfl (lv_at hl 0 rfl) ?_
  refine gf_X1_end hx hb hts hown hK hH (k := 64) (by omega) e64 dX1_end_1 ?_
  exact m_iret hx hb hlk hrt hH (m_ni _) dX1_end_4 ⟨rfl, rfl⟩
set_option maxHeartbeats 4000000 in
set_option maxRecDepth 100000 in
theorem c1_number {l : Launch} {D : va_G} {cT : Nat → ClassId} {N b0 : Nat} {ad : Nat → Nat} (hA : oAd b0 N ad) {σ : Nat → va_E} (x : Int) (lr lk : Nat) (lf le : Int) (hN : 76 ≤ N) (hle : -2147483648 ≤ le ∧ le < 2147483648) (hx : 0 ≤ x ∧ x ≤ 3) (hlf : lf = 0 ∨ lf = 1) (e64 : σ (64) = .inr (1, [.int (oI (((lr : Nat) : Int))), .int (oI (((lk : Nat) : Int))), .int (oI (lf)), .int (oI (le))])) :
    oCi l D cT N ad b0 yX1_number cX1_number 2 (some .int) 0 0 [.ref (ad (64)), .int (oI (x))] σ (fun rr uu => rr = oI ((oLn x lr lk lf le)) ∧ uu = σ) := by
  refine m_start (cc := cX1_number) (by decide) (Nat.le_of_ble_eq_true rfl) rfl ?_
  intro Pp Ee Ss Mm Bb Me Cc Ar ls hx hb hml hown hlk hrt hts hK hH hl
  have hown : Ss.vm.findClass RX1 = some Mm.cls := hown
  have hl : lv_has ls 2 [(0, .ref (ad (64))), (1, .int (oI (x)))] := hl
  refine lv_iload_n hx hb dX1_number_0 rfl (lv_at hl 1 rfl) ?_
  rcases (show (x : Int) = 0 ∨ (x : Int) = 1 ∨ (x : Int) = 2 ∨ ((x : Int) < 0 ∨ 2 < (x : Int)) by omega) with h_1 | h_1 | h_1 | h_1
  · refine m_tabIn 28 hx hb dX1_number_1 (by omega) (by omega) (by rw [h_1]; rfl) (by decide) ?_
    refine lv_aload_n hx hb dX1_number_28 rfl (lv_at hl 0 rfl) ?_
    refine gf_X1_ruler hx hb hts hown hK hH (k := 64) (by omega) e64 dX1_number_29 ?_
    exact m_iret hx hb hlk hrt hH (m_ni _) dX1_number_32 ⟨congrArg oI (by unfold oLn; rw [if_pos (by omega)]), rfl⟩
  · refine m_tabIn 33 hx hb dX1_number_1 (by omega) (by omega) (by rw [h_1]; rfl) (by decide) ?_
    refine lv_aload_n hx hb dX1_number_33 rfl (lv_at hl 0 rfl) ?_
    refine gf_X1_number hx hb hts hown hK hH (k := 64) (by omega) e64 dX1_number_34 ?_
    exact m_iret hx hb hlk hrt hH (m_ni _) dX1_number_37 ⟨congrArg oI (by unfold oLn; rw [if_neg (by omega), if_pos (by omega)]), rfl⟩
  · refine m_tabIn 38 hx hb dX1_number_1 (by omega) (by omega) (by rw [h_1]; rfl) (by decide) ?_
    refine lv_aload_n hx hb dX1_number_38 rfl (lv_at hl 0 rfl) ?_
    refine gf_X1_forward hx hb hts hown hK hH (k := 64) (by omega) e64 dX1_number_39 ?_
    refine m_if_eq 49 hx hb dX1_number_42 (by decide) (by omega) (fun h_2 => ?_) (fun h_2 => ?_)
    · refine m_iconst 0 hx hb dX1_number_49 rfl ?_
      exact m_iret hx hb hlk hrt hH (m_ni _) dX1_number_50 ⟨congrArg oI (by unfold oLn; rw [if_neg (by omega), if_neg (by omega), if_pos (by omega)]; omega), rfl⟩
    · refine m_iconst 1 hx hb dX1_number_45 rfl ?_
      refine lv_goto (tgt := 50) hx hb dX1_number_46 (by decide) ?_
      exact m_iret hx hb hlk hrt hH (m_ni _) dX1_number_50 ⟨congrArg oI (by unfold oLn; rw [if_neg (by omega), if_neg (by omega), if_pos (by omega)]; omega), rfl⟩
  · refine m_tabOut 51 hx hb dX1_number_1 (by omega) h_1 (by decide) ?_
    refine lv_aload_n hx hb dX1_number_51 rfl (lv_at hl 0 rfl) ?_
    refine gf_X1_end hx hb hts hown hK hH (k := 64) (by omega) e64 dX1_number_52 ?_
    exact m_iret hx hb hlk hrt hH (m_ni _) dX1_number_55 ⟨congrArg oI (by unfold oLn; rw [if_neg (by omega), if_neg (by omega), if_neg (by omega)]), rfl⟩
set_option maxHeartbeats 4000000 in
set_option maxRecDepth 100000 in
theorem c0_firstFault {l : Launch} {D : va_G} {cT : Nat → ClassId} {N b0 : Nat} {ad : Nat → Nat} (hA : oAd b0 N ad) {σ : Nat → va_E} (T : Nat → Int) (z p ac x1 x2 : Nat) (f on : Int) (hN : 76 ≤ N) (hT : ∀ i : Nat, i < z → 0 ≤ T i ∧ T i ≤ 255) (hz : z ≤ 120) (hp : p ≤ 150) (hf0 : -2147483648 ≤ f ∧ f < 2147483648) (e57 : σ (57) = .inr (0, [.ref (ad (58)), .int (oI (((z : Nat) : Int))), .int (oI (((p : Nat) : Int))), .int (oI (f)), .int (oI (((ac : Nat) : Int))), .int (oI (((x1 : Nat) : Int))), .int (oI (((x2 : Nat) : Int))), .int (oI (on))])) (e58 : σ (58) = oAC cT 120 T) :
    oCi l D cT N ad b0 yX0_firstFault cX0_firstFault 2 (some .int) 4 90 [.ref (ad (57))] σ (fun rr uu => ∃ p2 : Nat, ∃ a2 : Nat, ∃ y1 : Nat, ∃ y2 : Nat, ∃ o2 : Int, rr = oI ((oErr T z)) ∧ (p2 ≤ 150) ∧ uu (57) = .inr (0, [.ref (ad (58)), .int (oI (((z : Nat) : Int))), .int (oI (((p2 : Nat) : Int))), .int (oI ((oErr T z))), .int (oI (((a2 : Nat) : Int))), .int (oI (((y1 : Nat) : Int))), .int (oI (((y2 : Nat) : Int))), .int (oI (o2))]) ∧ (∀ q : Nat, q ≠ 57 → uu q = σ q)) := by
  refine m_start (cc := cX0_firstFault) (by decide) (Nat.le_of_ble_eq_true rfl) rfl ?_
  intro Pp Ee Ss Mm Bb Me Cc Ar ls hx hb hml hown hlk hrt hts hK hH hl
  have hown : Ss.vm.findClass RX0 = some Mm.cls := hown
  have hl : lv_has ls 2 [(0, .ref (ad (57)))] := hl
  have hf : ∀ q : Nat, q ≠ 57 → σ q = σ q := fun q _ => rfl
  refine lv_aload_n hx hb dX0_firstFault_0 rfl (lv_at hl 0 rfl) ?_
  refine m_callVv hx hb hml hown hts hK hH hl (rest := []) cw_X0_19 (c0_open hA T z p ac x1 x2 f on (by first | assumption | omega) (by first | assumption | omega) (by first | assumption | omega) (by first | assumption | omega) (by first | assumption | omega) e57 e58) ⟨Nat.le_of_ble_eq_true rfl, Nat.le_of_ble_eq_true rfl⟩ ⟨Nat.le_of_ble_eq_true rfl, Nat.le_of_ble_eq_true rfl⟩ rfl (k := 57) (by omega) e57 rfl rfl (Nat.le_of_ble_eq_true rfl) dX0_firstFault_1 (fun σ_1 H locs hp_2 hH => ?_)
  obtain ⟨fq, hop, e57, hq_3⟩ := hp_2
  have e58 : σ_1 (58) = oAC cT 120 T := (hq_3 _ (by decide)).trans e58
  have hf : ∀ q : Nat, q ≠ 57 → σ_1 q = σ q := fun q n0 => (hq_3 q n0).trans (hf q n0)
  refine m_iconst 0 hx hb dX0_firstFault_4 rfl ?_
  refine lv_istore_n (lv' := [(1, .int (oI (0))), (0, .ref (ad (57)))]) hx hb dX0_firstFault_5 rfl hl (by decide) rfl (fun ls hl => ?_)
  have L6 : ∀ (fu : Nat) (ac : Nat) (f : Int) (i : Nat) (on : Int) (p : Nat) (x1 : Nat) (x2 : Nat), (121 - i < fu) → (i ≤ 120) → (p ≤ 150) → (-1 ≤ f ∧ f ≤ 200) → ((f = -1 ∧ oScan T z (120 - i) p = oErr T z) ∨ (¬ f = -1 ∧ f = oErr T z)) → ∀ σL6 : Nat → va_E, σL6 (57) = .inr (0, [.ref (ad (58)), .int (oI (((z : Nat) : Int))), .int (oI (((p : Nat) : Int))), .int (oI (f)), .int (oI (((ac : Nat) : Int))), .int (oI (((x1 : Nat) : Int))), .int (oI (((x2 : Nat) : Int))), .int (oI (on))]) → (∀ q : Nat, q ≠ 57 → σL6 q = σ_1 q) → ∀ (H : Heap) (locs : List Loc), oH b0 D N ad Ss.heap σL6 H locs → ∀ ls : Array Slot, lv_has ls 2 [(0, .ref (ad (57))), (1, .int (oI (((i : Nat) : Int))))] → W Pp l Ee { frames := 4, cells := 0, slots := 0, locals := 90 } Ss Mm Ar Bb Me Cc H locs 0 0 (MQ Bb (va_Qi (fun rr uu => ∃ p2 : Nat, ∃ a2 : Nat, ∃ y1 : Nat, ∃ y2 : Nat, ∃ o2 : Int, rr = oI ((oErr T z)) ∧ (p2 ≤ 150) ∧ uu (57) = .inr (0, [.ref (ad (58)), .int (oI (((z : Nat) : Int))), .int (oI (((p2 : Nat) : Int))), .int (oI ((oErr T z))), .int (oI (((a2 : Nat) : Int))), .int (oI (((y1 : Nat) : Int))), .int (oI (((y2 : Nat) : Int))), .int (oI (o2))]) ∧ (∀ q : Nat, q ≠ 57 → uu q = σ q)) (oV D N ad) (fun q => b0 ≤ q)) Ar Ss 0 0 (fun q => b0 ≤ q)) (F0 Mm 6 ls []) := by
    intro fu6
    induction fu6 with
    | zero =>
      intro ac f i on p x1 x2 hm6
      exact absurd hm6 (Nat.not_lt_zero _)
    | succ fu6 ih6 =>
      intro ac f i on p x1 x2 hm6 hi hp hf0 hh σL6 e57 hL6 H locs hH ls hl
      have e58 : σL6 (58) = oAC cT 120 T := (hL6 _ (by decide)).trans e58
      have hf : ∀ q : Nat, q ≠ 57 → σL6 q = σ q := fun q n0 => (hL6 q n0).trans (hf q n0)
      refine lv_iload_n hx hb dX0_firstFault_6 rfl (lv_at hl 1 rfl) ?_
      refine m_bipush 120 hx hb dX0_firstFault_7 (by decide) ?_
      refine m_icmp_ge 41 hx hb dX0_firstFault_9 (by decide) (by omega) (by omega) (fun h_5 => ?_) (fun h_5 => ?_)
      · have hret : f = oErr T z := by
          rcases hh with ⟨q1, q2⟩ | ⟨_, q⟩
          · rw [← q2, show 120 - i = 0 by omega]; exact q1
          · exact q
        refine lv_aload_n hx hb dX0_firstFault_41 rfl (lv_at hl 0 rfl) ?_
        refine gf_X0_fault hx hb hts hown hK hH (k := 57) (by omega) e57 dX0_firstFault_42 ?_
        exact m_iret hx hb hlk hrt hH (m_ni _) dX0_firstFault_45 ⟨p, ac, x1, x2, on, congrArg oI (hret), (by first | assumption | omega), (by rw [← hret]; exact e57), hf⟩
      · refine lv_aload_n hx hb dX0_firstFault_12 rfl (lv_at hl 0 rfl) ?_
        refine gf_X0_at hx hb hts hown hK hH (k := 57) (by omega) e57 dX0_firstFault_13 ?_
        refine lv_aload_n hx hb dX0_firstFault_16 rfl (lv_at hl 0 rfl) ?_
        refine gf_X0_size hx hb hts hown hK hH (k := 57) (by omega) e57 dX0_firstFault_17 ?_
        refine m_icmp_ge 41 hx hb dX0_firstFault_20 (by decide) (by omega) (by omega) (fun h_6 => ?_) (fun h_6 => ?_)
        · have hret : f = oErr T z := by
            rcases hh with ⟨q1, q2⟩ | ⟨_, q⟩
            · rw [← q2, oScan_end (by omega)]; exact q1
            · exact q
          refine lv_aload_n hx hb dX0_firstFault_41 rfl (lv_at hl 0 rfl) ?_
          refine gf_X0_fault hx hb hts hown hK hH (k := 57) (by omega) e57 dX0_firstFault_42 ?_
          exact m_iret hx hb hlk hrt hH (m_ni _) dX0_firstFault_45 ⟨p, ac, x1, x2, on, congrArg oI (hret), (by first | assumption | omega), (by rw [← hret]; exact e57), hf⟩
        · refine lv_aload_n hx hb dX0_firstFault_23 rfl (lv_at hl 0 rfl) ?_
          refine gf_X0_fault hx hb hts hown hK hH (k := 57) (by omega) e57 dX0_firstFault_24 ?_
          refine m_iconst (-1) hx hb dX0_firstFault_27 rfl ?_
          refine m_icmp_ne 41 hx hb dX0_firstFault_28 (by decide) (by omega) (by omega) (fun h_7 => ?_) (fun h_7 => ?_)
          · have hret : f = oErr T z := by
              rcases hh with q | q
              · exact absurd q.1 (by assumption)
              · exact q.2
            refine lv_aload_n hx hb dX0_firstFault_41 rfl (lv_at hl 0 rfl) ?_
            refine gf_X0_fault hx hb hts hown hK hH (k := 57) (by omega) e57 dX0_firstFault_42 ?_
            exact m_iret hx hb hlk hrt hH (m_ni _) dX0_firstFault_45 ⟨p, ac, x1, x2, on, congrArg oI (hret), (by first | assumption | omega), (by rw [← hret]; exact e57), hf⟩
          · refine lv_aload_n hx hb dX0_firstFault_31 rfl (lv_at hl 0 rfl) ?_
            refine m_callVv hx hb hml hown hts hK hH hl (rest := []) cw_X0_28 (c0_readCommand hA T z p ac x1 x2 f on (by first | assumption | omega) (by first | assumption | omega) (by first | assumption | omega) (by first | assumption | omega) (by first | assumption | omega) (by first | assumption | omega) (by first | assumption | omega) e57 e58) ⟨Nat.le_of_ble_eq_true rfl, Nat.le_of_ble_eq_true rfl⟩ ⟨Nat.le_of_ble_eq_true rfl, Nat.le_of_ble_eq_true rfl⟩ rfl (k := 57) (by omega) e57 rfl rfl (Nat.le_of_ble_eq_true rfl) dX0_firstFault_32 (fun σ_8 H locs hp_9 hH => ?_)
            obtain ⟨p3, a3, z1, z2, f3, o3, hRc, hf3, hp3, ho3, e57, hq_10⟩ := hp_9
            have e58 : σ_8 (58) = oAC cT 120 T := (hq_10 _ (by decide)).trans e58
            have hf : ∀ q : Nat, q ≠ 57 → σ_8 q = σ q := fun q n0 => (hq_10 q n0).trans (hf q n0)
            have hL6 : ∀ q : Nat, q ≠ 57 → σ_8 q = σ_1 q := fun q n0 => (hq_10 q n0).trans (hL6 q n0)
            have hst : (f3 = -1 ∧ oScan T z (120 - (i + 1)) p3 = oErr T z) ∨ (¬ f3 = -1 ∧ f3 = oErr T z) := by
              have h1 : oScan T z (120 - i) p = oErr T z := by
                rcases hh with q | q
                · exact q.2
                · exact absurd (by assumption) q.1
              rw [show 120 - i = (120 - (i + 1)) + 1 by omega] at h1
              by_cases e : f3 = -1
              · exact Or.inl ⟨e, (oScan_ok (by omega) hRc e).symm.trans h1⟩
              · exact Or.inr ⟨e, (oScan_no (by omega) hRc e).symm.trans h1⟩
            refine m_iinc (((i : Nat) : Int) + 1) [(1, .int (oI (((i : Nat) : Int) + 1))), (0, .ref (ad (57)))] hx hb dX0_firstFault_35 hl (j := 1) rfl (by omega) (by decide) rfl (fun ls hl => ?_)
            refine lv_goto (tgt := 6) hx hb dX0_firstFault_38 (by decide) ?_
            exact ih6 a3 f3 (i + 1) o3 p3 z1 z2 (by omega) (by first | assumption | omega) (by first | assumption | omega) (by first | assumption | omega) (hst) _ e57 (hL6) _ _ hH ls (lv_sub hl [1, 0] rfl)
  exact L6 _ ac fq 0 on 1 x1 x2 (Nat.lt_succ_self _) (by first | assumption | omega) (by first | assumption | omega) (by first | assumption | omega) ((hop.elim (fun e => Or.inl ⟨e.1, ((oErr_open hop).1 e.1).symm⟩) (fun e => Or.inr ⟨by omega, e.1.trans ((oErr_open hop).2 (by omega)).2.symm⟩))) _ e57 (fun q _ => rfl) _ _ hH ls (lv_sub hl [1, 0] rfl)
set_option maxHeartbeats 4000000 in
set_option maxRecDepth 100000 in
theorem c0_doCommands {l : Launch} {D : va_G} {cT : Nat → ClassId} {N b0 : Nat} {ad : Nat → Nat} (hA : oAd b0 N ad) {σ : Nat → va_E} (T : Nat → Int) (z p ac x1 x2 : Nat) (f on : Int) (n a g : Nat) (sz w : Nat → Nat) (hN : 76 ≤ N) (hT : ∀ i : Nat, i < z → 0 ≤ T i ∧ T i ≤ 255) (hz : z ≤ 120) (hp : p ≤ 150) (hf0 : -2147483648 ≤ f ∧ f < 2147483648) (hwf : oWf n sz w) (hag : oAg a g) (her : oErr T z = -1) (e57 : σ (57) = .inr (0, [.ref (ad (58)), .int (oI (((z : Nat) : Int))), .int (oI (((p : Nat) : Int))), .int (oI (f)), .int (oI (((ac : Nat) : Int))), .int (oI (((x1 : Nat) : Int))), .int (oI (((x2 : Nat) : Int))), .int (oI (on))])) (e58 : σ (58) = oAC cT 120 T) (e0 : σ (1) = .inr (4, [.ref (ad (2)), .ref (ad (3)), .int (oI (((n : Nat) : Int))), .int (oI (((a : Nat) : Int))), .int (oI (((g : Nat) : Int)))])) (e1 : σ (2) = oAN cT 4 sz) (e2 : σ (3) = oAJ cT 4 w) :
    oCi l D cT N ad b0 yX0_doCommands cX0_doCommands 4 (some .int) 5 116 [.ref (ad (57)), .ref (ad (1))] σ (fun rr uu => ∃ ou : Nat, ∃ n1 : Nat, ∃ a1 : Nat, ∃ g1 : Nat, ∃ sz1 : Nat → Nat, ∃ w1 : Nat → Nat, ∃ p2 : Nat, ∃ a2 : Nat, ∃ y1 : Nat, ∃ y2 : Nat, ∃ o2 : Int, rr = oI (((ou : Nat) : Int)) ∧ (oRunC T z 120 1 0 n a g sz w = (ou, n1, a1, g1, sz1, w1)) ∧ (oWf n1 sz1 w1) ∧ (oAg a1 g1) ∧ (p2 ≤ 150) ∧ (ou ≤ 120) ∧ uu (57) = .inr (0, [.ref (ad (58)), .int (oI (((z : Nat) : Int))), .int (oI (((p2 : Nat) : Int))), .int (oI ((-1))), .int (oI (((a2 : Nat) : Int))), .int (oI (((y1 : Nat) : Int))), .int (oI (((y2 : Nat) : Int))), .int (oI (o2))]) ∧ uu (1) = .inr (4, [.ref (ad (2)), .ref (ad (3)), .int (oI (((n1 : Nat) : Int))), .int (oI (((a1 : Nat) : Int))), .int (oI (((g1 : Nat) : Int)))]) ∧ uu (2) = oAN cT 4 sz1 ∧ uu (3) = oAJ cT 4 w1 ∧ (∀ q : Nat, q ≠ 57 → q ≠ 1 → q ≠ 2 → q ≠ 3 → uu q = σ q)) := by
  refine m_start (cc := cX0_doCommands) (by decide) (Nat.le_of_ble_eq_true rfl) rfl ?_
  intro Pp Ee Ss Mm Bb Me Cc Ar ls hx hb hml hown hlk hrt hts hK hH hl
  have hown : Ss.vm.findClass RX0 = some Mm.cls := hown
  have hl : lv_has ls 4 [(0, .ref (ad (57))), (1, .ref (ad (1)))] := hl
  have hf : ∀ q : Nat, q ≠ 57 → q ≠ 1 → q ≠ 2 → q ≠ 3 → σ q = σ q := fun q _ _ _ _ => rfl
  refine m_iconst 0 hx hb dX0_doCommands_0 rfl ?_
  refine lv_istore_n (lv' := [(2, .int (oI (0))), (0, .ref (ad (57))), (1, .ref (ad (1)))]) hx hb dX0_doCommands_1 rfl hl (by decide) rfl (fun ls hl => ?_)
  refine lv_aload_n hx hb dX0_doCommands_2 rfl (lv_at hl 1 rfl) ?_
  refine m_callVv hx hb hml hown hts hK hH hl (rest := []) cw_X0_19 (c0_open hA T z p ac x1 x2 f on (by first | assumption | omega) (by first | assumption | omega) (by first | assumption | omega) (by first | assumption | omega) (by first | assumption | omega) e57 e58) ⟨Nat.le_of_ble_eq_true rfl, Nat.le_of_ble_eq_true rfl⟩ ⟨Nat.le_of_ble_eq_true rfl, Nat.le_of_ble_eq_true rfl⟩ rfl (k := 57) (by omega) e57 rfl rfl (Nat.le_of_ble_eq_true rfl) dX0_doCommands_3 (fun σ_1 H locs hp_2 hH => ?_)
  obtain ⟨fq, hop, e57, hq_3⟩ := hp_2
  have e58 : σ_1 (58) = oAC cT 120 T := (hq_3 _ (by decide)).trans e58
  have e0 : σ_1 (1) = .inr (4, [.ref (ad (2)), .ref (ad (3)), .int (oI (((n : Nat) : Int))), .int (oI (((a : Nat) : Int))), .int (oI (((g : Nat) : Int)))]) := (hq_3 _ (by decide)).trans e0
  have e1 : σ_1 (2) = oAN cT 4 sz := (hq_3 _ (by decide)).trans e1
  have e2 : σ_1 (3) = oAJ cT 4 w := (hq_3 _ (by decide)).trans e2
  have hf : ∀ q : Nat, q ≠ 57 → q ≠ 1 → q ≠ 2 → q ≠ 3 → σ_1 q = σ q := fun q n0 n1 n2 n3 => (hq_3 q n0).trans (hf q n0 n1 n2 n3)
  have hfq : fq = -1 := Classical.byContradiction (fun e => by have := (oErr_open hop).2 e; omega)
  have hsc0 : oScan T z 120 1 = -1 := ((oErr_open hop).1 hfq).symm.trans her
  subst hfq
  refine m_iconst 0 hx hb dX0_doCommands_6 rfl ?_
  refine lv_istore_n (lv' := [(3, .int (oI (0))), (2, .int (oI (0))), (0, .ref (ad (57))), (1, .ref (ad (1)))]) hx hb dX0_doCommands_7 rfl hl (by decide) rfl (fun ls hl => ?_)
  have L8 : ∀ (fu : Nat) (ac : Nat) (i : Nat) (on : Int) (p : Nat) (x1 : Nat) (x2 : Nat) (ou : Nat) (n3 : Nat) (a3 : Nat) (g3 : Nat) (s3 : Nat → Nat) (w3 : Nat → Nat), (121 - i < fu) → (i ≤ 120) → (p ≤ 150) → (ou ≤ i) → (oScan T z (120 - i) p = -1) → (oRunC T z (120 - i) p ou n3 a3 g3 s3 w3 = oRunC T z 120 1 0 n a g sz w) → (oWf n3 s3 w3) → (oAg a3 g3) → ∀ σL8 : Nat → va_E, σL8 (57) = .inr (0, [.ref (ad (58)), .int (oI (((z : Nat) : Int))), .int (oI (((p : Nat) : Int))), .int (oI ((-1))), .int (oI (((ac : Nat) : Int))), .int (oI (((x1 : Nat) : Int))), .int (oI (((x2 : Nat) : Int))), .int (oI (on))]) → σL8 (1) = .inr (4, [.ref (ad (2)), .ref (ad (3)), .int (oI (((n3 : Nat) : Int))), .int (oI (((a3 : Nat) : Int))), .int (oI (((g3 : Nat) : Int)))]) → σL8 (2) = oAN cT 4 s3 → σL8 (3) = oAJ cT 4 w3 → (∀ q : Nat, q ≠ 57 → q ≠ 1 → q ≠ 2 → q ≠ 3 → σL8 q = σ_1 q) → ∀ (H : Heap) (locs : List Loc), oH b0 D N ad Ss.heap σL8 H locs → ∀ ls : Array Slot, lv_has ls 4 [(0, .ref (ad (57))), (1, .ref (ad (1))), (2, .int (oI (((ou : Nat) : Int)))), (3, .int (oI (((i : Nat) : Int))))] → W Pp l Ee { frames := 5, cells := 0, slots := 0, locals := 116 } Ss Mm Ar Bb Me Cc H locs 0 0 (MQ Bb (va_Qi (fun rr uu => ∃ ou : Nat, ∃ n1 : Nat, ∃ a1 : Nat, ∃ g1 : Nat, ∃ sz1 : Nat → Nat, ∃ w1 : Nat → Nat, ∃ p2 : Nat, ∃ a2 : Nat, ∃ y1 : Nat, ∃ y2 : Nat, ∃ o2 : Int, rr = oI (((ou : Nat) : Int)) ∧ (oRunC T z 120 1 0 n a g sz w = (ou, n1, a1, g1, sz1, w1)) ∧ (oWf n1 sz1 w1) ∧ (oAg a1 g1) ∧ (p2 ≤ 150) ∧ (ou ≤ 120) ∧ uu (57) = .inr (0, [.ref (ad (58)), .int (oI (((z : Nat) : Int))), .int (oI (((p2 : Nat) : Int))), .int (oI ((-1))), .int (oI (((a2 : Nat) : Int))), .int (oI (((y1 : Nat) : Int))), .int (oI (((y2 : Nat) : Int))), .int (oI (o2))]) ∧ uu (1) = .inr (4, [.ref (ad (2)), .ref (ad (3)), .int (oI (((n1 : Nat) : Int))), .int (oI (((a1 : Nat) : Int))), .int (oI (((g1 : Nat) : Int)))]) ∧ uu (2) = oAN cT 4 sz1 ∧ uu (3) = oAJ cT 4 w1 ∧ (∀ q : Nat, q ≠ 57 → q ≠ 1 → q ≠ 2 → q ≠ 3 → uu q = σ q)) (oV D N ad) (fun q => b0 ≤ q)) Ar Ss 0 0 (fun q => b0 ≤ q)) (F0 Mm 8 ls []) := by
    intro fu8
    induction fu8 with
    | zero =>
      intro ac i on p x1 x2 ou n3 a3 g3 s3 w3 hm8
      exact absurd hm8 (Nat.not_lt_zero _)
    | succ fu8 ih8 =>
      intro ac i on p x1 x2 ou n3 a3 g3 s3 w3 hm8 hi hp hou hsc hrun hwf3 hag3 σL8 e57 e0 e1 e2 hL8 H locs hH ls hl
      have e58 : σL8 (58) = oAC cT 120 T := (hL8 _ (by decide) (by decide) (by decide) (by decide)).trans e58
      have hf : ∀ q : Nat, q ≠ 57 → q ≠ 1 → q ≠ 2 → q ≠ 3 → σL8 q = σ q := fun q n0 n1 n2 n3 => (hL8 q n0 n1 n2 n3).trans (hf q n0 n1 n2 n3)
      refine lv_iload_n hx hb dX0_doCommands_8 rfl (lv_at hl 3 rfl) ?_
      refine m_bipush 120 hx hb dX0_doCommands_9 (by decide) ?_
      refine m_icmp_ge 69 hx hb dX0_doCommands_11 (by decide) (by omega) (by omega) (fun h_5 => ?_) (fun h_5 => ?_)
      · have hend : oRunC T z 120 1 0 n a g sz w = (ou, n3, a3, g3, s3, w3) := by
          rw [← hrun, show 120 - i = 0 by omega]; rfl
        refine lv_iload_n hx hb dX0_doCommands_69 rfl (lv_at hl 2 rfl) ?_
        exact m_iret hx hb hlk hrt hH (m_ni _) dX0_doCommands_70 ⟨ou, n3, a3, g3, s3, w3, p, ac, x1, x2, on, rfl, hend, hwf3, hag3, (by first | assumption | omega), (by first | assumption | omega), e57, e0, e1, e2, hf⟩
      · refine lv_aload_n hx hb dX0_doCommands_14 rfl (lv_at hl 0 rfl) ?_
        refine gf_X0_at hx hb hts hown hK hH (k := 57) (by omega) e57 dX0_doCommands_15 ?_
        refine lv_aload_n hx hb dX0_doCommands_18 rfl (lv_at hl 0 rfl) ?_
        refine gf_X0_size hx hb hts hown hK hH (k := 57) (by omega) e57 dX0_doCommands_19 ?_
        refine m_icmp_ge 69 hx hb dX0_doCommands_22 (by decide) (by omega) (by omega) (fun h_6 => ?_) (fun h_6 => ?_)
        · have hend : oRunC T z 120 1 0 n a g sz w = (ou, n3, a3, g3, s3, w3) := by
            rw [← hrun]; exact oRunC_end (by omega)
          refine lv_iload_n hx hb dX0_doCommands_69 rfl (lv_at hl 2 rfl) ?_
          exact m_iret hx hb hlk hrt hH (m_ni _) dX0_doCommands_70 ⟨ou, n3, a3, g3, s3, w3, p, ac, x1, x2, on, rfl, hend, hwf3, hag3, (by first | assumption | omega), (by first | assumption | omega), e57, e0, e1, e2, hf⟩
        · refine lv_aload_n hx hb dX0_doCommands_25 rfl (lv_at hl 0 rfl) ?_
          refine gf_X0_fault hx hb hts hown hK hH (k := 57) (by omega) e57 dX0_doCommands_26 ?_
          refine m_iconst (-1) hx hb dX0_doCommands_29 rfl ?_
          refine m_icmp_ne 69 hx hb dX0_doCommands_30 (by decide) (by omega) (by omega) (fun h_7 => absurd h_7 (by omega)) (fun h_7 => ?_)
          refine lv_aload_n hx hb dX0_doCommands_33 rfl (lv_at hl 0 rfl) ?_
          refine m_callVv hx hb hml hown hts hK hH hl (rest := []) cw_X0_28 (c0_readCommand hA T z p ac x1 x2 (-1) on (by first | assumption | omega) (by first | assumption | omega) (by first | assumption | omega) (by first | assumption | omega) (by first | assumption | omega) (by first | assumption | omega) (by first | assumption | omega) e57 e58) ⟨Nat.le_of_ble_eq_true rfl, Nat.le_of_ble_eq_true rfl⟩ ⟨Nat.le_of_ble_eq_true rfl, Nat.le_of_ble_eq_true rfl⟩ rfl (k := 57) (by omega) e57 rfl rfl (Nat.le_of_ble_eq_true rfl) dX0_doCommands_34 (fun σ_8 H locs hp_9 hH => ?_)
          obtain ⟨p3, a4, z1, z2, f3, o3, hRc, hf3, hp3, ho3, e57, hq_10⟩ := hp_9
          have e58 : σ_8 (58) = oAC cT 120 T := (hq_10 _ (by decide)).trans e58
          have e0 : σ_8 (1) = .inr (4, [.ref (ad (2)), .ref (ad (3)), .int (oI (((n3 : Nat) : Int))), .int (oI (((a3 : Nat) : Int))), .int (oI (((g3 : Nat) : Int)))]) := (hq_10 _ (by decide)).trans e0
          have e1 : σ_8 (2) = oAN cT 4 s3 := (hq_10 _ (by decide)).trans e1
          have e2 : σ_8 (3) = oAJ cT 4 w3 := (hq_10 _ (by decide)).trans e2
          have hf : ∀ q : Nat, q ≠ 57 → q ≠ 1 → q ≠ 2 → q ≠ 3 → σ_8 q = σ q := fun q n0 n1 n2 n3 => (hq_10 q n0).trans (hf q n0 n1 n2 n3)
          have hL8 : ∀ q : Nat, q ≠ 57 → q ≠ 1 → q ≠ 2 → q ≠ 3 → σ_8 q = σ_1 q := fun q n0 n1 n2 n3 => (hq_10 q n0).trans (hL8 q n0 n1 n2 n3)
          rw [show 120 - i = (120 - (i + 1)) + 1 by omega] at hsc hrun
          have hfm3 : f3 = -1 := Classical.byContradiction (fun e => e ((oScan_no (by omega) hRc e).symm.trans hsc))
          have hsc3 : oScan T z (120 - (i + 1)) p3 = -1 := (oScan_ok (by omega) hRc hfm3).symm.trans hsc
          have hgd := oRc_good hRc hfm3
          refine lv_aload_n hx hb dX0_doCommands_37 rfl (lv_at hl 1 rfl) ?_
          refine lv_aload_n hx hb dX0_doCommands_38 rfl (lv_at hl 0 rfl) ?_
          refine gf_X0_action hx hb hts hown hK hH (k := 57) (by omega) e57 dX0_doCommands_39 ?_
          refine lv_aload_n hx hb dX0_doCommands_42 rfl (lv_at hl 0 rfl) ?_
          refine gf_X0_first hx hb hts hown hK hH (k := 57) (by omega) e57 dX0_doCommands_43 ?_
          refine lv_aload_n hx hb dX0_doCommands_46 rfl (lv_at hl 0 rfl) ?_
          refine gf_X0_second hx hb hts hown hK hH (k := 57) (by omega) e57 dX0_doCommands_47 ?_
          refine lv_aload_n hx hb dX0_doCommands_50 rfl (lv_at hl 0 rfl) ?_
          refine gf_X0_on hx hb hts hown hK hH (k := 57) (by omega) e57 dX0_doCommands_51 ?_
          refine m_callVi hx hb hml hown hts hK hH hl (rest := []) cw_X0_44 (c4_attG hA 1 n3 a3 g3 s3 w3 ((a4 : Nat) : Int) ((z1 : Nat) : Int) ((z2 : Nat) : Int) o3 (by first | assumption | omega) (by first | assumption | omega) (by first | assumption | omega) (by first | assumption | omega) (by first | assumption | omega) (by first | assumption | omega) (by first | assumption | omega) e0 e1 e2) ⟨Nat.le_of_ble_eq_true rfl, Nat.le_of_ble_eq_true rfl⟩ ⟨Nat.le_of_ble_eq_true rfl, Nat.le_of_ble_eq_true rfl⟩ rfl (k := 1) (by omega) e0 rfl rfl (Nat.le_of_ble_eq_true rfl) dX0_doCommands_54 (fun r_15 σ_12 H locs hp_13 hH => ?_)
          obtain ⟨rt, n4, a5, g4, s4, w4, rfl, hat, hrt4, hwf4, hag4, e0, e1, e2, hq_14⟩ := hp_13
          have e57 : σ_12 (57) = .inr (0, [.ref (ad (58)), .int (oI (((z : Nat) : Int))), .int (oI (((p3 : Nat) : Int))), .int (oI (f3)), .int (oI (((a4 : Nat) : Int))), .int (oI (((z1 : Nat) : Int))), .int (oI (((z2 : Nat) : Int))), .int (oI (o3))]) := (hq_14 _ (by decide) (by decide) (by decide)).trans e57
          have e58 : σ_12 (58) = oAC cT 120 T := (hq_14 _ (by decide) (by decide) (by decide)).trans e58
          have hf : ∀ q : Nat, q ≠ 57 → q ≠ 1 → q ≠ 2 → q ≠ 3 → σ_12 q = σ q := fun q n0 n1 n2 n3 => (hq_14 q n1 n2 n3).trans (hf q n0 n1 n2 n3)
          have hL8 : ∀ q : Nat, q ≠ 57 → q ≠ 1 → q ≠ 2 → q ≠ 3 → σ_12 q = σ_1 q := fun q n0 n1 n2 n3 => (hq_14 q n1 n2 n3).trans (hL8 q n0 n1 n2 n3)
          have hR1 := oRunC_s (m := 120 - (i + 1)) (ou := ou) (by omega) hRc hfm3 ho3 hat
          refine m_if_ne 63 hx hb dX0_doCommands_57 (by decide) (by omega) (fun h_16 => ?_) (fun h_16 => ?_)
          · refine m_iinc (((i : Nat) : Int) + 1) [(3, .int (oI (((i : Nat) : Int) + 1))), (0, .ref (ad (57))), (1, .ref (ad (1))), (2, .int (oI (((ou : Nat) : Int))))] hx hb dX0_doCommands_63 hl (j := 3) rfl (by omega) (by decide) rfl (fun ls hl => ?_)
            refine lv_goto (tgt := 8) hx hb dX0_doCommands_66 (by decide) ?_
            exact ih8 a4 (i + 1) o3 p3 z1 z2 ou n4 a5 g4 s4 w4 (by omega) (by first | assumption | omega) (by first | assumption | omega) (by first | assumption | omega) (hsc3) ((by rw [if_neg (by assumption)] at hR1; exact hR1.symm.trans hrun)) (by first | assumption | omega) (by first | assumption | omega) _ (by rw [← hfm3]; exact e57) e0 e1 e2 (hL8) _ _ hH ls (lv_sub hl [1, 2, 3, 0] rfl)
          · refine m_iinc (((ou : Nat) : Int) + 1) [(2, .int (oI (((ou : Nat) : Int) + 1))), (0, .ref (ad (57))), (1, .ref (ad (1))), (3, .int (oI (((i : Nat) : Int))))] hx hb dX0_doCommands_60 hl (j := 2) rfl (by omega) (by decide) rfl (fun ls hl => ?_)
            refine m_iinc (((i : Nat) : Int) + 1) [(3, .int (oI (((i : Nat) : Int) + 1))), (2, .int (oI (((ou : Nat) : Int) + 1))), (0, .ref (ad (57))), (1, .ref (ad (1)))] hx hb dX0_doCommands_63 hl (j := 3) rfl (by omega) (by decide) rfl (fun ls hl => ?_)
            refine lv_goto (tgt := 8) hx hb dX0_doCommands_66 (by decide) ?_
            exact ih8 a4 (i + 1) o3 p3 z1 z2 (ou + 1) n4 a5 g4 s4 w4 (by omega) (by first | assumption | omega) (by first | assumption | omega) (by first | assumption | omega) (hsc3) ((by rw [if_pos (by omega)] at hR1; exact hR1.symm.trans hrun)) (by first | assumption | omega) (by first | assumption | omega) _ (by rw [← hfm3]; exact e57) e0 e1 e2 (hL8) _ _ hH ls (lv_sub hl [2, 3, 1, 0] rfl)
  exact L8 _ ac 0 on 1 x1 x2 0 n a g sz w (Nat.lt_succ_self _) (by first | assumption | omega) (by first | assumption | omega) (by first | assumption | omega) (hsc0) (rfl) (by first | assumption | omega) (by first | assumption | omega) _ e57 e0 e1 e2 (fun q _ _ _ _ => rfl) _ _ hH ls (lv_sub hl [2, 3, 1, 0] rfl)
