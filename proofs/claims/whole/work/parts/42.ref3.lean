theorem oMul_1 (m : Nat) : ((m : Nat) : Int) * (((m : Nat) : Int) - 1) = ((m * (m - 1) : Nat) : Int) := by
  cases m with
  | zero => rfl
  | succ k =>
    rw [show (((k + 1 : Nat)) : Int) - 1 = ((k : Nat) : Int) by omega]
    rfl
theorem oMk_sum {n : Nat} {w : Nat → Nat} {r : Nat} (h : r < n) : oAllM n w (r + 1) = oAllM n w r + pcnt (w r) := by
  show fb_sm _ (r + 1) = _
  rw [fb_sm_succ, oRow_in (by omega)]
  rfl
theorem oRS_clear {f : Nat → Int} (h : ∀ k : Nat, k < 171 → f k = 0) (sz w : Nat → Nat) : oRS (va_up (va_up f 1 2) 2 40) 0 2 40 sz w :=
  ⟨by rw [va_up_n _ _ (by omega), va_up_n _ _ (by omega)]; exact h 0 (by omega), by rw [va_up_n _ _ (by omega), va_up_s]; rfl, by rw [va_up_s]; rfl, fun r hr => absurd hr (Nat.not_lt_zero _)⟩
set_option maxHeartbeats 4000000 in
set_option maxRecDepth 100000 in
theorem c6_clear {l : Launch} {D : va_G} {cT : Nat → ClassId} {N b0 : Nat} {ad : Nat → Nat} (hA : oAd b0 N ad) {σ : Nat → va_E} (j : Nat) (f : Nat → Int) (hj : j < N) (ef : σ (j) = oAI cT 171 f) :
    oCv l D cT N ad b0 yX6_clear cX6_clear 2 none 0 0 [.ref (ad (j))] σ (fun uu => ∃ f2 : Nat → Int, (∀ sz w : Nat → Nat, oRS f2 0 2 40 sz w) ∧ uu (j) = oAI cT 171 f2 ∧ (∀ q : Nat, q ≠ j → uu q = σ q)) := by
  refine m_start (cc := cX6_clear) (by decide) (Nat.le_of_ble_eq_true rfl) rfl ?_
  intro Pp Ee Ss Mm Bb Me Cc Ar ls hx hb hml hown hlk hrt hts hK hH hl
  have hown : Ss.vm.findClass RX6 = some Mm.cls := hown
  have hl : lv_has ls 2 [(0, .ref (ad (j)))] := hl
  have hf : ∀ q : Nat, q ≠ j → σ q = σ q := fun q _ => rfl
  refine m_iconst 0 hx hb dX6_clear_0 rfl ?_
  refine lv_istore_n (lv' := [(1, .int (oI (0))), (0, .ref (ad (j)))]) hx hb dX6_clear_1 rfl hl (by decide) rfl (fun ls hl => ?_)
  have L2 : ∀ (fu : Nat) (i : Nat) (f1 : Nat → Int), (172 - i < fu) → (i ≤ 171) → (∀ k : Nat, k < i → f1 k = 0) → ∀ σL2 : Nat → va_E, σL2 (j) = oAI cT 171 f1 → (∀ q : Nat, q ≠ j → σL2 q = σ q) → ∀ (H : Heap) (locs : List Loc), oH b0 D N ad Ss.heap σL2 H locs → ∀ ls : Array Slot, lv_has ls 2 [(0, .ref (ad (j))), (1, .int (oI (((i : Nat) : Int))))] → W Pp l Ee { frames := 0, cells := 0, slots := 0, locals := 0 } Ss Mm Ar Bb Me Cc H locs 0 0 (MQ Bb (va_Qv (fun uu => ∃ f2 : Nat → Int, (∀ sz w : Nat → Nat, oRS f2 0 2 40 sz w) ∧ uu (j) = oAI cT 171 f2 ∧ (∀ q : Nat, q ≠ j → uu q = σ q)) (oV D N ad) (fun q => b0 ≤ q)) Ar Ss 0 0 (fun q => b0 ≤ q)) (F0 Mm 2 ls []) := by
    intro fu2
    induction fu2 with
    | zero =>
      intro i f1 hm2
      exact absurd hm2 (Nat.not_lt_zero _)
    | succ fu2 ih2 =>
      intro i f1 hm2 hi hz σL2 ef hL2 H locs hH ls hl
      have hf : ∀ q : Nat, q ≠ j → σL2 q = σ q := fun q n0 => (hL2 q n0).trans (hf q n0)
      refine lv_iload_n hx hb dX6_clear_2 rfl (lv_at hl 1 rfl) ?_
      refine m_sipush 171 hx hb dX6_clear_3 (by decide) ?_
      refine m_icmp_ge 19 hx hb dX6_clear_6 (by decide) (by omega) (by omega) (fun h_1 => ?_) (fun h_1 => ?_)
      · refine lv_aload_n hx hb dX6_clear_19 rfl (lv_at hl 0 rfl) ?_
        refine m_iconst 1 hx hb dX6_clear_20 rfl ?_
        refine m_iconst 2 hx hb dX6_clear_21 rfl ?_
        refine m_iast hx hb hK hH hA (k := j) (by omega) ef (1) (by omega) (by omega) (by decide) dX6_clear_22 (fun H locs σ_2 ef hq_3 hH => ?_)
        have hf : ∀ q : Nat, q ≠ j → σ_2 q = σ q := fun q n0 => (hq_3 q n0).trans (hf q n0)
        have hL2 : ∀ q : Nat, q ≠ j → σ_2 q = σ q := fun q n0 => (hq_3 q n0).trans (hL2 q n0)
        refine lv_aload_n hx hb dX6_clear_23 rfl (lv_at hl 0 rfl) ?_
        refine m_iconst 2 hx hb dX6_clear_24 rfl ?_
        refine m_bipush 40 hx hb dX6_clear_25 (by decide) ?_
        refine m_iast hx hb hK hH hA (k := j) (by omega) ef (2) (by omega) (by omega) (by decide) dX6_clear_27 (fun H locs σ_4 ef hq_5 hH => ?_)
        have hf : ∀ q : Nat, q ≠ j → σ_4 q = σ q := fun q n0 => (hq_5 q n0).trans (hf q n0)
        have hL2 : ∀ q : Nat, q ≠ j → σ_4 q = σ q := fun q n0 => (hq_5 q n0).trans (hL2 q n0)
        exact m_vret hx hb hlk hrt hH dX6_clear_28 ⟨(va_up (va_up f1 1 2) 2 40), (oRS_clear (fun k h => hz k (by omega))), ef, hf⟩
      · refine lv_aload_n hx hb dX6_clear_9 rfl (lv_at hl 0 rfl) ?_
        refine lv_iload_n hx hb dX6_clear_10 rfl (lv_at hl 1 rfl) ?_
        refine m_iconst 0 hx hb dX6_clear_11 rfl ?_
        refine m_iast hx hb hK hH hA (k := j) (by omega) ef (i) (by omega) (by omega) (by decide) dX6_clear_12 (fun H locs σ_6 ef hq_7 hH => ?_)
        have hf : ∀ q : Nat, q ≠ j → σ_6 q = σ q := fun q n0 => (hq_7 q n0).trans (hf q n0)
        have hL2 : ∀ q : Nat, q ≠ j → σ_6 q = σ q := fun q n0 => (hq_7 q n0).trans (hL2 q n0)
        refine m_iinc (((i : Nat) : Int) + 1) [(1, .int (oI (((i : Nat) : Int) + 1))), (0, .ref (ad (j)))] hx hb dX6_clear_13 hl (j := 1) rfl (by omega) (by decide) rfl (fun ls hl => ?_)
        refine lv_goto (tgt := 2) hx hb dX6_clear_16 (by decide) ?_
        exact ih2 (i + 1) (va_up f1 i 0) (by omega) (by first | assumption | omega) (fun k h => by
        by_cases e : k = i
        · rw [e, va_up_s]
        · rw [va_up_n _ _ e]; exact hz k (by omega)) _ ef (hL2) _ _ hH ls (lv_sub hl [1, 0] rfl)
  exact L2 _ 0 f (Nat.lt_succ_self _) (by first | assumption | omega) (fun k h => absurd h (Nat.not_lt_zero _)) _ ef (fun q _ => rfl) _ _ hH ls (lv_sub hl [1, 0] rfl)
set_option maxHeartbeats 4000000 in
set_option maxRecDepth 100000 in
theorem c6_allMarks {l : Launch} {D : va_G} {cT : Nat → ClassId} {N b0 : Nat} {ad : Nat → Nat} (hA : oAd b0 N ad) {σ : Nat → va_E} (j n a g : Nat) (f : Nat → Int) (sz w : Nat → Nat)  (hj : j < N) (hwf : oWf n sz w) (hp : oRS f n a g sz w) (ef : σ (j) = oAI cT 171 f) :
    oCi l D cT N ad b0 yX6_allMarks cX6_allMarks 3 (some .int) 2 44 [.ref (ad (j))] σ (fun rr uu => rr = oI (((oAllM n w n : Nat) : Int)) ∧ uu = σ) := by
  refine m_start (cc := cX6_allMarks) (by decide) (Nat.le_of_ble_eq_true rfl) rfl ?_
  intro Pp Ee Ss Mm Bb Me Cc Ar ls hx hb hml hown hlk hrt hts hK hH hl
  have hown : Ss.vm.findClass RX6 = some Mm.cls := hown
  have hn := hwf.1
  have hsz : ∀ r : Nat, r < n → 2 ≤ sz r ∧ sz r ≤ 40 := fun r h => ⟨(hwf.2 r h).1, (hwf.2 r h).2.1⟩
  have hl : lv_has ls 3 [(0, .ref (ad (j)))] := hl
  refine m_iconst 0 hx hb dX6_allMarks_0 rfl ?_
  refine lv_istore_n (lv' := [(1, .int (oI (0))), (0, .ref (ad (j)))]) hx hb dX6_allMarks_1 rfl hl (by decide) rfl (fun ls hl => ?_)
  refine m_iconst 0 hx hb dX6_allMarks_2 rfl ?_
  refine lv_istore_n (lv' := [(2, .int (oI (0))), (1, .int (oI (0))), (0, .ref (ad (j)))]) hx hb dX6_allMarks_3 rfl hl (by decide) rfl (fun ls hl => ?_)
  have L4 : ∀ (fu : Nat) (ac : Nat) (r : Nat), (5 - r < fu) → (r ≤ n) → (ac = oAllM n w r) → (ac ≤ 64 * r) → ∀ (H : Heap) (locs : List Loc), oH b0 D N ad Ss.heap σ H locs → ∀ ls : Array Slot, lv_has ls 3 [(0, .ref (ad (j))), (1, .int (oI (((ac : Nat) : Int)))), (2, .int (oI (((r : Nat) : Int))))] → W Pp l Ee { frames := 2, cells := 0, slots := 0, locals := 44 } Ss Mm Ar Bb Me Cc H locs 0 0 (MQ Bb (va_Qi (fun rr uu => rr = oI (((oAllM n w n : Nat) : Int)) ∧ uu = σ) (oV D N ad) (fun q => b0 ≤ q)) Ar Ss 0 0 (fun q => b0 ≤ q)) (F0 Mm 4 ls []) := by
    intro fu4
    induction fu4 with
    | zero =>
      intro ac r hm4
      exact absurd hm4 (Nat.not_lt_zero _)
    | succ fu4 ih4 =>
      intro ac r hm4 hr hc hab H locs hH ls hl
      have hpl := pcnt_le (w r)
      refine lv_iload_n hx hb dX6_allMarks_4 rfl (lv_at hl 2 rfl) ?_
      refine lv_aload_n hx hb dX6_allMarks_5 rfl (lv_at hl 0 rfl) ?_
      refine m_iconst 0 hx hb dX6_allMarks_6 rfl ?_
      refine m_iald hx hb hK hH (k := j) (by omega) ef (0) (by omega) (by omega) (by decide) dX6_allMarks_7 ?_
      refine m_topI (((n : Nat) : Int)) (hp.1) ?_
      refine m_icmp_ge 25 hx hb dX6_allMarks_8 (by decide) (by omega) (by omega) (fun h_1 => ?_) (fun h_1 => ?_)
      · refine lv_iload_n hx hb dX6_allMarks_25 rfl (lv_at hl 1 rfl) ?_
        exact m_iret hx hb hlk hrt hH (m_ni _) dX6_allMarks_26 ⟨congrArg oI (by rw [hc, show r = n by omega]), rfl⟩
      · refine lv_iload_n hx hb dX6_allMarks_11 rfl (lv_at hl 1 rfl) ?_
        refine lv_aload_n hx hb dX6_allMarks_12 rfl (lv_at hl 0 rfl) ?_
        refine lv_iload_n hx hb dX6_allMarks_13 rfl (lv_at hl 2 rfl) ?_
        refine m_pSi hx hb hml hown hts hK hH hl (rest := [.int (oI (((ac : Nat) : Int)))]) cw_X6_68 rfl (c6_marks hA j n a g f sz w r (by first | assumption | omega) (by first | assumption | omega) (by first | assumption | omega) (by first | assumption | omega) ef) ⟨Nat.le_of_ble_eq_true rfl, Nat.le_of_ble_eq_true rfl⟩ ⟨Nat.le_of_ble_eq_true rfl, Nat.le_of_ble_eq_true rfl⟩ rfl rfl (Nat.le_of_ble_eq_true rfl) dX6_allMarks_14 (fun H locs hH => ?_)
        refine m_topI (((pcnt (w r) : Nat) : Int)) (by rw [oPc_pcnt (hwf.2 r (by omega)).2.2.1 (by have := hsz r (by omega); omega)]) ?_
        refine m_iadd (((ac : Nat) : Int) + ((pcnt (w r) : Nat) : Int)) hx hb dX6_allMarks_17 (by omega) ?_
        refine lv_istore_n (lv' := [(1, .int (oI (((ac : Nat) : Int) + ((pcnt (w r) : Nat) : Int)))), (0, .ref (ad (j))), (2, .int (oI (((r : Nat) : Int))))]) hx hb dX6_allMarks_18 rfl hl (by decide) rfl (fun ls hl => ?_)
        refine m_iinc (((r : Nat) : Int) + 1) [(2, .int (oI (((r : Nat) : Int) + 1))), (1, .int (oI (((ac : Nat) : Int) + ((pcnt (w r) : Nat) : Int)))), (0, .ref (ad (j)))] hx hb dX6_allMarks_19 hl (j := 2) rfl (by omega) (by decide) rfl (fun ls hl => ?_)
        refine lv_goto (tgt := 4) hx hb dX6_allMarks_22 (by decide) ?_
        exact ih4 (ac + (pcnt (w r))) (r + 1) (by omega) (by first | assumption | omega) (by rw [oMk_sum (by omega), hc]) (by first | assumption | omega) _ _ hH ls (lv_sub hl [2, 1, 0] rfl)
  exact L4 _ 0 0 (Nat.lt_succ_self _) (by first | assumption | omega) (rfl) (by first | assumption | omega) _ _ hH ls (lv_sub hl [2, 1, 0] rfl)
set_option maxHeartbeats 4000000 in
set_option maxRecDepth 100000 in
theorem c6_spansOf {l : Launch} {D : va_G} {cT : Nat → ClassId} {N b0 : Nat} {ad : Nat → Nat} (hA : oAd b0 N ad) {σ : Nat → va_E} (j n a g : Nat) (f : Nat → Int) (sz w : Nat → Nat) (r : Nat) (hj : j < N) (hwf : oWf n sz w) (hp : oRS f n a g sz w) (hr : r < n) (ef : σ (j) = oAI cT 171 f) :
    oCi l D cT N ad b0 yX6_spansOf cX6_spansOf 3 (some .int) 2 44 [.ref (ad (j)), .int (oI (((r : Nat) : Int)))] σ (fun rr uu => rr = oI (((oSp (pcnt (w r)) : Nat) : Int)) ∧ uu = σ) := by
  refine m_start (cc := cX6_spansOf) (by decide) (Nat.le_of_ble_eq_true rfl) rfl ?_
  intro Pp Ee Ss Mm Bb Me Cc Ar ls hx hb hml hown hlk hrt hts hK hH hl
  have hown : Ss.vm.findClass RX6 = some Mm.cls := hown
  have hn := hwf.1
  have hsz : ∀ r : Nat, r < n → 2 ≤ sz r ∧ sz r ≤ 40 := fun r h => ⟨(hwf.2 r h).1, (hwf.2 r h).2.1⟩
  have hs9 := hsz r hr
  obtain ⟨m9, hm9⟩ : ∃ y : Nat, oEq (pcnt (w r)) y := ⟨pcnt (w r), Eq.refl (pcnt (w r))⟩
  have hm64 : m9 ≤ 64 := by rw [← (show pcnt (w r) = m9 from hm9)]; exact pcnt_le _
  have hmm : m9 * (m9 - 1) ≤ 64 * 63 := Nat.mul_le_mul hm64 (by omega)
  have hl : lv_has ls 3 [(0, .ref (ad (j))), (1, .int (oI (((r : Nat) : Int))))] := hl
  refine lv_aload_n hx hb dX6_spansOf_0 rfl (lv_at hl 0 rfl) ?_
  refine lv_iload_n hx hb dX6_spansOf_1 rfl (lv_at hl 1 rfl) ?_
  refine m_pSi hx hb hml hown hts hK hH hl (rest := []) cw_X6_68 rfl (c6_marks hA j n a g f sz w r (by first | assumption | omega) (by first | assumption | omega) (by first | assumption | omega) (by first | assumption | omega) ef) ⟨Nat.le_of_ble_eq_true rfl, Nat.le_of_ble_eq_true rfl⟩ ⟨Nat.le_of_ble_eq_true rfl, Nat.le_of_ble_eq_true rfl⟩ rfl rfl (Nat.le_of_ble_eq_true rfl) dX6_spansOf_2 (fun H locs hH => ?_)
  refine m_topI (((m9 : Nat) : Int)) (by rw [oPc_pcnt (hwf.2 r hr).2.2.1 (by omega), (show pcnt (w r) = m9 from hm9)]) ?_
  refine lv_istore_n (lv' := [(2, .int (oI (((m9 : Nat) : Int)))), (0, .ref (ad (j))), (1, .int (oI (((r : Nat) : Int))))]) hx hb dX6_spansOf_5 rfl hl (by decide) rfl (fun ls hl => ?_)
  refine lv_iload_n hx hb dX6_spansOf_6 rfl (lv_at hl 0 rfl) ?_
  refine lv_iload_n hx hb dX6_spansOf_7 rfl (lv_at hl 0 rfl) ?_
  refine m_iconst 1 hx hb dX6_spansOf_8 rfl ?_
  refine m_isub (((m9 : Nat) : Int) - 1) hx hb dX6_spansOf_9 (by omega) ?_
  refine m_imul (((m9 * (m9 - 1) : Nat) : Int)) hx hb dX6_spansOf_10 (oMul_1 m9) ?_
  refine m_iconst 2 hx hb dX6_spansOf_11 rfl ?_
  refine m_idiv ((((m9 * (m9 - 1)) / 2 : Nat) : Int)) hx hb dX6_spansOf_12 (by omega) (by omega) (by first | rfl | omega) ?_
  exact m_iret hx hb hlk hrt hH (m_ni _) dX6_spansOf_13 ⟨congrArg oI (by rw [(show pcnt (w r) = m9 from hm9)]; rfl), rfl⟩
set_option maxHeartbeats 4000000 in
set_option maxRecDepth 100000 in
theorem c6_copy11 {l : Launch} {D : va_G} {cT : Nat → ClassId} {N b0 : Nat} {ad : Nat → Nat} (hA : oAd b0 N ad) {σ : Nat → va_E} (jf jt fa ta : Nat) (f1 f2 : Nat → Int) (hjf : jf < N) (hjt : jt < N) (hne : jf ≠ jt) (hfa : fa + 171 ≤ 171) (hta : ta + 171 ≤ 171) (ea : σ (jf) = oAI cT 171 f1) (eb : σ (jt) = oAI cT 171 f2) :
    oCv l D cT N ad b0 yX6_copyState cX6_copyState 5 none 0 0 [.ref (ad (jf)), .int (oI (((fa : Nat) : Int))), .ref (ad (jt)), .int (oI (((ta : Nat) : Int)))] σ (fun uu => ∃ f3 : Nat → Int, (∀ k : Nat, k < 171 → f3 (k + ta) = f1 (k + fa)) ∧ (∀ k : Nat, k < ta ∨ ta + 171 ≤ k → f3 k = f2 k) ∧ uu (jt) = oAI cT 171 f3 ∧ (∀ q : Nat, q ≠ jt → uu q = σ q)) := by
  refine m_start (cc := cX6_copyState) (by decide) (Nat.le_of_ble_eq_true rfl) rfl ?_
  intro Pp Ee Ss Mm Bb Me Cc Ar ls hx hb hml hown hlk hrt hts hK hH hl
  have hown : Ss.vm.findClass RX6 = some Mm.cls := hown
  have hl : lv_has ls 5 [(0, .ref (ad (jf))), (1, .int (oI (((fa : Nat) : Int)))), (2, .ref (ad (jt))), (3, .int (oI (((ta : Nat) : Int))))] := hl
  have hf : ∀ q : Nat, q ≠ jt → σ q = σ q := fun q _ => rfl
  refine m_iconst 0 hx hb dX6_copyState_0 rfl ?_
  refine lv_istore (lv' := [(4, .int (oI (0))), (0, .ref (ad (jf))), (1, .int (oI (((fa : Nat) : Int)))), (2, .ref (ad (jt))), (3, .int (oI (((ta : Nat) : Int))))]) hx hb dX6_copyState_1 hl (by decide) rfl (fun ls hl => ?_)
  have L3 : ∀ (fu : Nat) (i : Nat) (f3 : Nat → Int), (172 - i < fu) → (i ≤ 171) → (∀ k : Nat, k < i → f3 (k + ta) = f1 (k + fa)) → (∀ k : Nat, k < ta ∨ ta + 171 ≤ k → f3 k = f2 k) → ∀ σL3 : Nat → va_E, σL3 (jt) = oAI cT 171 f3 → (∀ q : Nat, q ≠ jt → σL3 q = σ q) → ∀ (H : Heap) (locs : List Loc), oH b0 D N ad Ss.heap σL3 H locs → ∀ ls : Array Slot, lv_has ls 5 [(0, .ref (ad (jf))), (1, .int (oI (((fa : Nat) : Int)))), (2, .ref (ad (jt))), (3, .int (oI (((ta : Nat) : Int)))), (4, .int (oI (((i : Nat) : Int))))] → W Pp l Ee { frames := 0, cells := 0, slots := 0, locals := 0 } Ss Mm Ar Bb Me Cc H locs 0 0 (MQ Bb (va_Qv (fun uu => ∃ f3 : Nat → Int, (∀ k : Nat, k < 171 → f3 (k + ta) = f1 (k + fa)) ∧ (∀ k : Nat, k < ta ∨ ta + 171 ≤ k → f3 k = f2 k) ∧ uu (jt) = oAI cT 171 f3 ∧ (∀ q : Nat, q ≠ jt → uu q = σ q)) (oV D N ad) (fun q => b0 ≤ q)) Ar Ss 0 0 (fun q => b0 ≤ q)) (F0 Mm 3 ls []) := by
    intro fu3
    induction fu3 with
    | zero =>
      intro i f3 hm3
      exact absurd hm3 (Nat.not_lt_zero _)
    | succ fu3 ih3 =>
      intro i f3 hm3 hi hz hz2 σL3 eb hL3 H locs hH ls hl
      have ea : σL3 (jf) = oAI cT 171 f1 := (hL3 _ (by omega)).trans ea
      have hf : ∀ q : Nat, q ≠ jt → σL3 q = σ q := fun q n0 => (hL3 q n0).trans (hf q n0)
      refine lv_iload hx hb dX6_copyState_3 (lv_at hl 4 rfl) ?_
      refine m_sipush 171 hx hb dX6_copyState_5 (by decide) ?_
      refine m_icmp_ge 29 hx hb dX6_copyState_8 (by decide) (by omega) (by omega) (fun h_1 => ?_) (fun h_1 => ?_)
      · exact m_vret hx hb hlk hrt hH dX6_copyState_29 ⟨f3, (fun k h => hz k (by omega)), hz2, eb, hf⟩
      · refine lv_aload_n hx hb dX6_copyState_11 rfl (lv_at hl 2 rfl) ?_
        refine lv_iload_n hx hb dX6_copyState_12 rfl (lv_at hl 3 rfl) ?_
        refine lv_iload hx hb dX6_copyState_13 (lv_at hl 4 rfl) ?_
        refine m_iadd (((i : Nat) : Int) + ((ta : Nat) : Int)) hx hb dX6_copyState_15 (by omega) ?_
        refine lv_aload_n hx hb dX6_copyState_16 rfl (lv_at hl 0 rfl) ?_
        refine lv_iload_n hx hb dX6_copyState_17 rfl (lv_at hl 1 rfl) ?_
        refine lv_iload hx hb dX6_copyState_18 (lv_at hl 4 rfl) ?_
        refine m_iadd (((fa : Nat) : Int) + ((i : Nat) : Int)) hx hb dX6_copyState_20 (by omega) ?_
        refine m_iald hx hb hK hH (k := jf) (by omega) ea (i + fa) (by omega) (by omega) (by decide) dX6_copyState_21 ?_
        refine m_iast hx hb hK hH hA (k := jt) (by omega) eb (i + ta) (by omega) (by omega) (by decide) dX6_copyState_22 (fun H locs σ_2 eb hq_3 hH => ?_)
        have ea : σ_2 (jf) = oAI cT 171 f1 := (hq_3 _ (by omega)).trans ea
        have hf : ∀ q : Nat, q ≠ jt → σ_2 q = σ q := fun q n0 => (hq_3 q n0).trans (hf q n0)
        have hL3 : ∀ q : Nat, q ≠ jt → σ_2 q = σ q := fun q n0 => (hq_3 q n0).trans (hL3 q n0)
        refine m_iinc (((i : Nat) : Int) + 1) [(4, .int (oI (((i : Nat) : Int) + 1))), (0, .ref (ad (jf))), (1, .int (oI (((fa : Nat) : Int)))), (2, .ref (ad (jt))), (3, .int (oI (((ta : Nat) : Int))))] hx hb dX6_copyState_23 hl (j := 4) rfl (by omega) (by decide) rfl (fun ls hl => ?_)
        refine lv_goto (tgt := 3) hx hb dX6_copyState_26 (by decide) ?_
        exact ih3 (i + 1) (va_up f3 (i + ta) (f1 (i + fa))) (by omega) (by first | assumption | omega) (fun k h => by
        by_cases e : k = i
        · rw [e, va_up_s]
        · rw [va_up_n _ _ (by omega)]; exact hz k (by omega)) (fun k h => by rw [va_up_n _ _ (by omega)]; exact hz2 k h) _ eb (hL3) _ _ hH ls (lv_sub hl [1, 2, 3, 4, 0] rfl)
  exact L3 _ 0 f2 (Nat.lt_succ_self _) (by first | assumption | omega) (fun k h => absurd h (Nat.not_lt_zero _)) (fun _ _ => rfl) _ eb (fun q _ => rfl) _ _ hH ls (lv_sub hl [1, 2, 3, 4, 0] rfl)
set_option maxHeartbeats 4000000 in
set_option maxRecDepth 100000 in
theorem c6_copy1d {l : Launch} {D : va_G} {cT : Nat → ClassId} {N b0 : Nat} {ad : Nat → Nat} (hA : oAd b0 N ad) {σ : Nat → va_E} (jf jt fa ta : Nat) (f1 f2 : Nat → Int) (hjf : jf < N) (hjt : jt < N) (hne : jf ≠ jt) (hfa : fa + 171 ≤ 171) (hta : ta + 171 ≤ 2394) (ea : σ (jf) = oAI cT 171 f1) (eb : σ (jt) = oAI cT 2394 f2) :
    oCv l D cT N ad b0 yX6_copyState cX6_copyState 5 none 0 0 [.ref (ad (jf)), .int (oI (((fa : Nat) : Int))), .ref (ad (jt)), .int (oI (((ta : Nat) : Int)))] σ (fun uu => ∃ f3 : Nat → Int, (∀ k : Nat, k < 171 → f3 (k + ta) = f1 (k + fa)) ∧ (∀ k : Nat, k < ta ∨ ta + 171 ≤ k → f3 k = f2 k) ∧ uu (jt) = oAI cT 2394 f3 ∧ (∀ q : Nat, q ≠ jt → uu q = σ q)) := by
  refine m_start (cc := cX6_copyState) (by decide) (Nat.le_of_ble_eq_true rfl) rfl ?_
  intro Pp Ee Ss Mm Bb Me Cc Ar ls hx hb hml hown hlk hrt hts hK hH hl
  have hown : Ss.vm.findClass RX6 = some Mm.cls := hown
  have hl : lv_has ls 5 [(0, .ref (ad (jf))), (1, .int (oI (((fa : Nat) : Int)))), (2, .ref (ad (jt))), (3, .int (oI (((ta : Nat) : Int))))] := hl
  have hf : ∀ q : Nat, q ≠ jt → σ q = σ q := fun q _ => rfl
  refine m_iconst 0 hx hb dX6_copyState_0 rfl ?_
  refine lv_istore (lv' := [(4, .int (oI (0))), (0, .ref (ad (jf))), (1, .int (oI (((fa : Nat) : Int)))), (2, .ref (ad (jt))), (3, .int (oI (((ta : Nat) : Int))))]) hx hb dX6_copyState_1 hl (by decide) rfl (fun ls hl => ?_)
  have L3 : ∀ (fu : Nat) (i : Nat) (f3 : Nat → Int), (172 - i < fu) → (i ≤ 171) → (∀ k : Nat, k < i → f3 (k + ta) = f1 (k + fa)) → (∀ k : Nat, k < ta ∨ ta + 171 ≤ k → f3 k = f2 k) → ∀ σL3 : Nat → va_E, σL3 (jt) = oAI cT 2394 f3 → (∀ q : Nat, q ≠ jt → σL3 q = σ q) → ∀ (H : Heap) (locs : List Loc), oH b0 D N ad Ss.heap σL3 H locs → ∀ ls : Array Slot, lv_has ls 5 [(0, .ref (ad (jf))), (1, .int (oI (((fa : Nat) : Int)))), (2, .ref (ad (jt))), (3, .int (oI (((ta : Nat) : Int)))), (4, .int (oI (((i : Nat) : Int))))] → W Pp l Ee { frames := 0, cells := 0, slots := 0, locals := 0 } Ss Mm Ar Bb Me Cc H locs 0 0 (MQ Bb (va_Qv (fun uu => ∃ f3 : Nat → Int, (∀ k : Nat, k < 171 → f3 (k + ta) = f1 (k + fa)) ∧ (∀ k : Nat, k < ta ∨ ta + 171 ≤ k → f3 k = f2 k) ∧ uu (jt) = oAI cT 2394 f3 ∧ (∀ q : Nat, q ≠ jt → uu q = σ q)) (oV D N ad) (fun q => b0 ≤ q)) Ar Ss 0 0 (fun q => b0 ≤ q)) (F0 Mm 3 ls []) := by
    intro fu3
    induction fu3 with
    | zero =>
      intro i f3 hm3
      exact absurd hm3 (Nat.not_lt_zero _)
    | succ fu3 ih3 =>
      intro i f3 hm3 hi hz hz2 σL3 eb hL3 H locs hH ls hl
      have ea : σL3 (jf) = oAI cT 171 f1 := (hL3 _ (by omega)).trans ea
      have hf : ∀ q : Nat, q ≠ jt → σL3 q = σ q := fun q n0 => (hL3 q n0).trans (hf q n0)
      refine lv_iload hx hb dX6_copyState_3 (lv_at hl 4 rfl) ?_
      refine m_sipush 171 hx hb dX6_copyState_5 (by decide) ?_
      refine m_icmp_ge 29 hx hb dX6_copyState_8 (by decide) (by omega) (by omega) (fun h_1 => ?_) (fun h_1 => ?_)
      · exact m_vret hx hb hlk hrt hH dX6_copyState_29 ⟨f3, (fun k h => hz k (by omega)), hz2, eb, hf⟩
      · refine lv_aload_n hx hb dX6_copyState_11 rfl (lv_at hl 2 rfl) ?_
        refine lv_iload_n hx hb dX6_copyState_12 rfl (lv_at hl 3 rfl) ?_
        refine lv_iload hx hb dX6_copyState_13 (lv_at hl 4 rfl) ?_
        refine m_iadd (((i : Nat) : Int) + ((ta : Nat) : Int)) hx hb dX6_copyState_15 (by omega) ?_
        refine lv_aload_n hx hb dX6_copyState_16 rfl (lv_at hl 0 rfl) ?_
        refine lv_iload_n hx hb dX6_copyState_17 rfl (lv_at hl 1 rfl) ?_
        refine lv_iload hx hb dX6_copyState_18 (lv_at hl 4 rfl) ?_
        refine m_iadd (((fa : Nat) : Int) + ((i : Nat) : Int)) hx hb dX6_copyState_20 (by omega) ?_
        refine m_iald hx hb hK hH (k := jf) (by omega) ea (i + fa) (by omega) (by omega) (by decide) dX6_copyState_21 ?_
        refine m_iast hx hb hK hH hA (k := jt) (by omega) eb (i + ta) (by omega) (by omega) (by decide) dX6_copyState_22 (fun H locs σ_2 eb hq_3 hH => ?_)
        have ea : σ_2 (jf) = oAI cT 171 f1 := (hq_3 _ (by omega)).trans ea
        have hf : ∀ q : Nat, q ≠ jt → σ_2 q = σ q := fun q n0 => (hq_3 q n0).trans (hf q n0)
        have hL3 : ∀ q : Nat, q ≠ jt → σ_2 q = σ q := fun q n0 => (hq_3 q n0).trans (hL3 q n0)
        refine m_iinc (((i : Nat) : Int) + 1) [(4, .int (oI (((i : Nat) : Int) + 1))), (0, .ref (ad (jf))), (1, .int (oI (((fa : Nat) : Int)))), (2, .ref (ad (jt))), (3, .int (oI (((ta : Nat) : Int))))] hx hb dX6_copyState_23 hl (j := 4) rfl (by omega) (by decide) rfl (fun ls hl => ?_)
        refine lv_goto (tgt := 3) hx hb dX6_copyState_26 (by decide) ?_
        exact ih3 (i + 1) (va_up f3 (i + ta) (f1 (i + fa))) (by omega) (by first | assumption | omega) (fun k h => by
        by_cases e : k = i
        · rw [e, va_up_s]
        · rw [va_up_n _ _ (by omega)]; exact hz k (by omega)) (fun k h => by rw [va_up_n _ _ (by omega)]; exact hz2 k h) _ eb (hL3) _ _ hH ls (lv_sub hl [1, 2, 3, 4, 0] rfl)
  exact L3 _ 0 f2 (Nat.lt_succ_self _) (by first | assumption | omega) (fun k h => absurd h (Nat.not_lt_zero _)) (fun _ _ => rfl) _ eb (fun q _ => rfl) _ _ hH ls (lv_sub hl [1, 2, 3, 4, 0] rfl)
set_option maxHeartbeats 4000000 in
set_option maxRecDepth 100000 in
theorem c6_copyd1 {l : Launch} {D : va_G} {cT : Nat → ClassId} {N b0 : Nat} {ad : Nat → Nat} (hA : oAd b0 N ad) {σ : Nat → va_E} (jf jt fa ta : Nat) (f1 f2 : Nat → Int) (hjf : jf < N) (hjt : jt < N) (hne : jf ≠ jt) (hfa : fa + 171 ≤ 2394) (hta : ta + 171 ≤ 171) (ea : σ (jf) = oAI cT 2394 f1) (eb : σ (jt) = oAI cT 171 f2) :
    oCv l D cT N ad b0 yX6_copyState cX6_copyState 5 none 0 0 [.ref (ad (jf)), .int (oI (((fa : Nat) : Int))), .ref (ad (jt)), .int (oI (((ta : Nat) : Int)))] σ (fun uu => ∃ f3 : Nat → Int, (∀ k : Nat, k < 171 → f3 (k + ta) = f1 (k + fa)) ∧ (∀ k : Nat, k < ta ∨ ta + 171 ≤ k → f3 k = f2 k) ∧ uu (jt) = oAI cT 171 f3 ∧ (∀ q : Nat, q ≠ jt → uu q = σ q)) := by
  refine m_start (cc := cX6_copyState) (by decide) (Nat.le_of_ble_eq_true rfl) rfl ?_
  intro Pp Ee Ss Mm Bb Me Cc Ar ls hx hb hml hown hlk hrt hts hK hH hl
  have hown : Ss.vm.findClass RX6 = some Mm.cls := hown
  have hl : lv_has ls 5 [(0, .ref (ad (jf))), (1, .int (oI (((fa : Nat) : Int)))), (2, .ref (ad (jt))), (3, .int (oI (((ta : Nat) : Int))))] := hl
  have hf : ∀ q : Nat, q ≠ jt → σ q = σ q := fun q _ => rfl
  refine m_iconst 0 hx hb dX6_copyState_0 rfl ?_
  refine lv_istore (lv' := [(4, .int (oI (0))), (0, .ref (ad (jf))), (1, .int (oI (((fa : Nat) : Int)))), (2, .ref (ad (jt))), (3, .int (oI (((ta : Nat) : Int))))]) hx hb dX6_copyState_1 hl (by decide) rfl (fun ls hl => ?_)
  have L3 : ∀ (fu : Nat) (i : Nat) (f3 : Nat → Int), (172 - i < fu) → (i ≤ 171) → (∀ k : Nat, k < i → f3 (k + ta) = f1 (k + fa)) → (∀ k : Nat, k < ta ∨ ta + 171 ≤ k → f3 k = f2 k) → ∀ σL3 : Nat → va_E, σL3 (jt) = oAI cT 171 f3 → (∀ q : Nat, q ≠ jt → σL3 q = σ q) → ∀ (H : Heap) (locs : List Loc), oH b0 D N ad Ss.heap σL3 H locs → ∀ ls : Array Slot, lv_has ls 5 [(0, .ref (ad (jf))), (1, .int (oI (((fa : Nat) : Int)))), (2, .ref (ad (jt))), (3, .int (oI (((ta : Nat) : Int)))), (4, .int (oI (((i : Nat) : Int))))] → W Pp l Ee { frames := 0, cells := 0, slots := 0, locals := 0 } Ss Mm Ar Bb Me Cc H locs 0 0 (MQ Bb (va_Qv (fun uu => ∃ f3 : Nat → Int, (∀ k : Nat, k < 171 → f3 (k + ta) = f1 (k + fa)) ∧ (∀ k : Nat, k < ta ∨ ta + 171 ≤ k → f3 k = f2 k) ∧ uu (jt) = oAI cT 171 f3 ∧ (∀ q : Nat, q ≠ jt → uu q = σ q)) (oV D N ad) (fun q => b0 ≤ q)) Ar Ss 0 0 (fun q => b0 ≤ q)) (F0 Mm 3 ls []) := by
    intro fu3
    induction fu3 with
    | zero =>
      intro i f3 hm3
      exact absurd hm3 (Nat.not_lt_zero _)
    | succ fu3 ih3 =>
      intro i f3 hm3 hi hz hz2 σL3 eb hL3 H locs hH ls hl
      have ea : σL3 (jf) = oAI cT 2394 f1 := (hL3 _ (by omega)).trans ea
      have hf : ∀ q : Nat, q ≠ jt → σL3 q = σ q := fun q n0 => (hL3 q n0).trans (hf q n0)
      refine lv_iload hx hb dX6_copyState_3 (lv_at hl 4 rfl) ?_
      refine m_sipush 171 hx hb dX6_copyState_5 (by decide) ?_
      refine m_icmp_ge 29 hx hb dX6_copyState_8 (by decide) (by omega) (by omega) (fun h_1 => ?_) (fun h_1 => ?_)
      · exact m_vret hx hb hlk hrt hH dX6_copyState_29 ⟨f3, (fun k h => hz k (by omega)), hz2, eb, hf⟩
      · refine lv_aload_n hx hb dX6_copyState_11 rfl (lv_at hl 2 rfl) ?_
        refine lv_iload_n hx hb dX6_copyState_12 rfl (lv_at hl 3 rfl) ?_
        refine lv_iload hx hb dX6_copyState_13 (lv_at hl 4 rfl) ?_
        refine m_iadd (((i : Nat) : Int) + ((ta : Nat) : Int)) hx hb dX6_copyState_15 (by omega) ?_
        refine lv_aload_n hx hb dX6_copyState_16 rfl (lv_at hl 0 rfl) ?_
        refine lv_iload_n hx hb dX6_copyState_17 rfl (lv_at hl 1 rfl) ?_
        refine lv_iload hx hb dX6_copyState_18 (lv_at hl 4 rfl) ?_
        refine m_iadd (((fa : Nat) : Int) + ((i : Nat) : Int)) hx hb dX6_copyState_20 (by omega) ?_
        refine m_iald hx hb hK hH (k := jf) (by omega) ea (i + fa) (by omega) (by omega) (by decide) dX6_copyState_21 ?_
        refine m_iast hx hb hK hH hA (k := jt) (by omega) eb (i + ta) (by omega) (by omega) (by decide) dX6_copyState_22 (fun H locs σ_2 eb hq_3 hH => ?_)
        have ea : σ_2 (jf) = oAI cT 2394 f1 := (hq_3 _ (by omega)).trans ea
        have hf : ∀ q : Nat, q ≠ jt → σ_2 q = σ q := fun q n0 => (hq_3 q n0).trans (hf q n0)
        have hL3 : ∀ q : Nat, q ≠ jt → σ_2 q = σ q := fun q n0 => (hq_3 q n0).trans (hL3 q n0)
        refine m_iinc (((i : Nat) : Int) + 1) [(4, .int (oI (((i : Nat) : Int) + 1))), (0, .ref (ad (jf))), (1, .int (oI (((fa : Nat) : Int)))), (2, .ref (ad (jt))), (3, .int (oI (((ta : Nat) : Int))))] hx hb dX6_copyState_23 hl (j := 4) rfl (by omega) (by decide) rfl (fun ls hl => ?_)
        refine lv_goto (tgt := 3) hx hb dX6_copyState_26 (by decide) ?_
        exact ih3 (i + 1) (va_up f3 (i + ta) (f1 (i + fa))) (by omega) (by first | assumption | omega) (fun k h => by
        by_cases e : k = i
        · rw [e, va_up_s]
        · rw [va_up_n _ _ (by omega)]; exact hz k (by omega)) (fun k h => by rw [va_up_n _ _ (by omega)]; exact hz2 k h) _ eb (hL3) _ _ hH ls (lv_sub hl [1, 2, 3, 4, 0] rfl)
  exact L3 _ 0 f2 (Nat.lt_succ_self _) (by first | assumption | omega) (fun k h => absurd h (Nat.not_lt_zero _)) (fun _ _ => rfl) _ eb (fun q _ => rfl) _ _ hH ls (lv_sub hl [1, 2, 3, 4, 0] rfl)
set_option maxHeartbeats 4000000 in
set_option maxRecDepth 100000 in
theorem c6_copy1k {l : Launch} {D : va_G} {cT : Nat → ClassId} {N b0 : Nat} {ad : Nat → Nat} (hA : oAd b0 N ad) {σ : Nat → va_E} (jf jt fa ta : Nat) (f1 f2 : Nat → Int) (hjf : jf < N) (hjt : jt < N) (hne : jf ≠ jt) (hfa : fa + 171 ≤ 171) (hta : ta + 171 ≤ 342) (ea : σ (jf) = oAI cT 171 f1) (eb : σ (jt) = oAI cT 342 f2) :
    oCv l D cT N ad b0 yX6_copyState cX6_copyState 5 none 0 0 [.ref (ad (jf)), .int (oI (((fa : Nat) : Int))), .ref (ad (jt)), .int (oI (((ta : Nat) : Int)))] σ (fun uu => ∃ f3 : Nat → Int, (∀ k : Nat, k < 171 → f3 (k + ta) = f1 (k + fa)) ∧ (∀ k : Nat, k < ta ∨ ta + 171 ≤ k → f3 k = f2 k) ∧ uu (jt) = oAI cT 342 f3 ∧ (∀ q : Nat, q ≠ jt → uu q = σ q)) := by
  refine m_start (cc := cX6_copyState) (by decide) (Nat.le_of_ble_eq_true rfl) rfl ?_
  intro Pp Ee Ss Mm Bb Me Cc Ar ls hx hb hml hown hlk hrt hts hK hH hl
  have hown : Ss.vm.findClass RX6 = some Mm.cls := hown
  have hl : lv_has ls 5 [(0, .ref (ad (jf))), (1, .int (oI (((fa : Nat) : Int)))), (2, .ref (ad (jt))), (3, .int (oI (((ta : Nat) : Int))))] := hl
  have hf : ∀ q : Nat, q ≠ jt → σ q = σ q := fun q _ => rfl
  refine m_iconst 0 hx hb dX6_copyState_0 rfl ?_
  refine lv_istore (lv' := [(4, .int (oI (0))), (0, .ref (ad (jf))), (1, .int (oI (((fa : Nat) : Int)))), (2, .ref (ad (jt))), (3, .int (oI (((ta : Nat) : Int))))]) hx hb dX6_copyState_1 hl (by decide) rfl (fun ls hl => ?_)
  have L3 : ∀ (fu : Nat) (i : Nat) (f3 : Nat → Int), (172 - i < fu) → (i ≤ 171) → (∀ k : Nat, k < i → f3 (k + ta) = f1 (k + fa)) → (∀ k : Nat, k < ta ∨ ta + 171 ≤ k → f3 k = f2 k) → ∀ σL3 : Nat → va_E, σL3 (jt) = oAI cT 342 f3 → (∀ q : Nat, q ≠ jt → σL3 q = σ q) → ∀ (H : Heap) (locs : List Loc), oH b0 D N ad Ss.heap σL3 H locs → ∀ ls : Array Slot, lv_has ls 5 [(0, .ref (ad (jf))), (1, .int (oI (((fa : Nat) : Int)))), (2, .ref (ad (jt))), (3, .int (oI (((ta : Nat) : Int)))), (4, .int (oI (((i : Nat) : Int))))] → W Pp l Ee { frames := 0, cells := 0, slots := 0, locals := 0 } Ss Mm Ar Bb Me Cc H locs 0 0 (MQ Bb (va_Qv (fun uu => ∃ f3 : Nat → Int, (∀ k : Nat, k < 171 → f3 (k + ta) = f1 (k + fa)) ∧ (∀ k : Nat, k < ta ∨ ta + 171 ≤ k → f3 k = f2 k) ∧ uu (jt) = oAI cT 342 f3 ∧ (∀ q : Nat, q ≠ jt → uu q = σ q)) (oV D N ad) (fun q => b0 ≤ q)) Ar Ss 0 0 (fun q => b0 ≤ q)) (F0 Mm 3 ls []) := by
    intro fu3
    induction fu3 with
    | zero =>
      intro i f3 hm3
      exact absurd hm3 (Nat.not_lt_zero _)
    | succ fu3 ih3 =>
      intro i f3 hm3 hi hz hz2 σL3 eb hL3 H locs hH ls hl
      have ea : σL3 (jf) = oAI cT 171 f1 := (hL3 _ (by omega)).trans ea
      have hf : ∀ q : Nat, q ≠ jt → σL3 q = σ q := fun q n0 => (hL3 q n0).trans (hf q n0)
      refine lv_iload hx hb dX6_copyState_3 (lv_at hl 4 rfl) ?_
      refine m_sipush 171 hx hb dX6_copyState_5 (by decide) ?_
      refine m_icmp_ge 29 hx hb dX6_copyState_8 (by decide) (by omega) (by omega) (fun h_1 => ?_) (fun h_1 => ?_)
      · exact m_vret hx hb hlk hrt hH dX6_copyState_29 ⟨f3, (fun k h => hz k (by omega)), hz2, eb, hf⟩
      · refine lv_aload_n hx hb dX6_copyState_11 rfl (lv_at hl 2 rfl) ?_
        refine lv_iload_n hx hb dX6_copyState_12 rfl (lv_at hl 3 rfl) ?_
        refine lv_iload hx hb dX6_copyState_13 (lv_at hl 4 rfl) ?_
        refine m_iadd (((i : Nat) : Int) + ((ta : Nat) : Int)) hx hb dX6_copyState_15 (by omega) ?_
        refine lv_aload_n hx hb dX6_copyState_16 rfl (lv_at hl 0 rfl) ?_
        refine lv_iload_n hx hb dX6_copyState_17 rfl (lv_at hl 1 rfl) ?_
        refine lv_iload hx hb dX6_copyState_18 (lv_at hl 4 rfl) ?_
        refine m_iadd (((fa : Nat) : Int) + ((i : Nat) : Int)) hx hb dX6_copyState_20 (by omega) ?_
        refine m_iald hx hb hK hH (k := jf) (by omega) ea (i + fa) (by omega) (by omega) (by decide) dX6_copyState_21 ?_
        refine m_iast hx hb hK hH hA (k := jt) (by omega) eb (i + ta) (by omega) (by omega) (by decide) dX6_copyState_22 (fun H locs σ_2 eb hq_3 hH => ?_)
        have ea : σ_2 (jf) = oAI cT 171 f1 := (hq_3 _ (by omega)).trans ea
        have hf : ∀ q : Nat, q ≠ jt → σ_2 q = σ q := fun q n0 => (hq_3 q n0).trans (hf q n0)
        have hL3 : ∀ q : Nat, q ≠ jt → σ_2 q = σ q := fun q n0 => (hq_3 q n0).trans (hL3 q n0)
        refine m_iinc (((i : Nat) : Int) + 1) [(4, .int (oI (((i : Nat) : Int) + 1))), (0, .ref (ad (jf))), (1, .int (oI (((fa : Nat) : Int)))), (2, .ref (ad (jt))), (3, .int (oI (((ta : Nat) : Int))))] hx hb dX6_copyState_23 hl (j := 4) rfl (by omega) (by decide) rfl (fun ls hl => ?_)
        refine lv_goto (tgt := 3) hx hb dX6_copyState_26 (by decide) ?_
        exact ih3 (i + 1) (va_up f3 (i + ta) (f1 (i + fa))) (by omega) (by first | assumption | omega) (fun k h => by
        by_cases e : k = i
        · rw [e, va_up_s]
        · rw [va_up_n _ _ (by omega)]; exact hz k (by omega)) (fun k h => by rw [va_up_n _ _ (by omega)]; exact hz2 k h) _ eb (hL3) _ _ hH ls (lv_sub hl [1, 2, 3, 4, 0] rfl)
  exact L3 _ 0 f2 (Nat.lt_succ_self _) (by first | assumption | omega) (fun k h => absurd h (Nat.not_lt_zero _)) (fun _ _ => rfl) _ eb (fun q _ => rfl) _ _ hH ls (lv_sub hl [1, 2, 3, 4, 0] rfl)
set_option maxHeartbeats 4000000 in
set_option maxRecDepth 100000 in
theorem c6_copyk1 {l : Launch} {D : va_G} {cT : Nat → ClassId} {N b0 : Nat} {ad : Nat → Nat} (hA : oAd b0 N ad) {σ : Nat → va_E} (jf jt fa ta : Nat) (f1 f2 : Nat → Int) (hjf : jf < N) (hjt : jt < N) (hne : jf ≠ jt) (hfa : fa + 171 ≤ 342) (hta : ta + 171 ≤ 171) (ea : σ (jf) = oAI cT 342 f1) (eb : σ (jt) = oAI cT 171 f2) :
    oCv l D cT N ad b0 yX6_copyState cX6_copyState 5 none 0 0 [.ref (ad (jf)), .int (oI (((fa : Nat) : Int))), .ref (ad (jt)), .int (oI (((ta : Nat) : Int)))] σ (fun uu => ∃ f3 : Nat → Int, (∀ k : Nat, k < 171 → f3 (k + ta) = f1 (k + fa)) ∧ (∀ k : Nat, k < ta ∨ ta + 171 ≤ k → f3 k = f2 k) ∧ uu (jt) = oAI cT 171 f3 ∧ (∀ q : Nat, q ≠ jt → uu q = σ q)) := by
  refine m_start (cc := cX6_copyState) (by decide) (Nat.le_of_ble_eq_true rfl) rfl ?_
  intro Pp Ee Ss Mm Bb Me Cc Ar ls hx hb hml hown hlk hrt hts hK hH hl
  have hown : Ss.vm.findClass RX6 = some Mm.cls := hown
  have hl : lv_has ls 5 [(0, .ref (ad (jf))), (1, .int (oI (((fa : Nat) : Int)))), (2, .ref (ad (jt))), (3, .int (oI (((ta : Nat) : Int))))] := hl
  have hf : ∀ q : Nat, q ≠ jt → σ q = σ q := fun q _ => rfl
  refine m_iconst 0 hx hb dX6_copyState_0 rfl ?_
  refine lv_istore (lv' := [(4, .int (oI (0))), (0, .ref (ad (jf))), (1, .int (oI (((fa : Nat) : Int)))), (2, .ref (ad (jt))), (3, .int (oI (((ta : Nat) : Int))))]) hx hb dX6_copyState_1 hl (by decide) rfl (fun ls hl => ?_)
  have L3 : ∀ (fu : Nat) (i : Nat) (f3 : Nat → Int), (172 - i < fu) → (i ≤ 171) → (∀ k : Nat, k < i → f3 (k + ta) = f1 (k + fa)) → (∀ k : Nat, k < ta ∨ ta + 171 ≤ k → f3 k = f2 k) → ∀ σL3 : Nat → va_E, σL3 (jt) = oAI cT 171 f3 → (∀ q : Nat, q ≠ jt → σL3 q = σ q) → ∀ (H : Heap) (locs : List Loc), oH b0 D N ad Ss.heap σL3 H locs → ∀ ls : Array Slot, lv_has ls 5 [(0, .ref (ad (jf))), (1, .int (oI (((fa : Nat) : Int)))), (2, .ref (ad (jt))), (3, .int (oI (((ta : Nat) : Int)))), (4, .int (oI (((i : Nat) : Int))))] → W Pp l Ee { frames := 0, cells := 0, slots := 0, locals := 0 } Ss Mm Ar Bb Me Cc H locs 0 0 (MQ Bb (va_Qv (fun uu => ∃ f3 : Nat → Int, (∀ k : Nat, k < 171 → f3 (k + ta) = f1 (k + fa)) ∧ (∀ k : Nat, k < ta ∨ ta + 171 ≤ k → f3 k = f2 k) ∧ uu (jt) = oAI cT 171 f3 ∧ (∀ q : Nat, q ≠ jt → uu q = σ q)) (oV D N ad) (fun q => b0 ≤ q)) Ar Ss 0 0 (fun q => b0 ≤ q)) (F0 Mm 3 ls []) := by
    intro fu3
    induction fu3 with
    | zero =>
      intro i f3 hm3
      exact absurd hm3 (Nat.not_lt_zero _)
    | succ fu3 ih3 =>
      intro i f3 hm3 hi hz hz2 σL3 eb hL3 H locs hH ls hl
      have ea : σL3 (jf) = oAI cT 342 f1 := (hL3 _ (by omega)).trans ea
      have hf : ∀ q : Nat, q ≠ jt → σL3 q = σ q := fun q n0 => (hL3 q n0).trans (hf q n0)
      refine lv_iload hx hb dX6_copyState_3 (lv_at hl 4 rfl) ?_
      refine m_sipush 171 hx hb dX6_copyState_5 (by decide) ?_
      refine m_icmp_ge 29 hx hb dX6_copyState_8 (by decide) (by omega) (by omega) (fun h_1 => ?_) (fun h_1 => ?_)
      · exact m_vret hx hb hlk hrt hH dX6_copyState_29 ⟨f3, (fun k h => hz k (by omega)), hz2, eb, hf⟩
      · refine lv_aload_n hx hb dX6_copyState_11 rfl (lv_at hl 2 rfl) ?_
        refine lv_iload_n hx hb dX6_copyState_12 rfl (lv_at hl 3 rfl) ?_
        refine lv_iload hx hb dX6_copyState_13 (lv_at hl 4 rfl) ?_
        refine m_iadd (((i : Nat) : Int) + ((ta : Nat) : Int)) hx hb dX6_copyState_15 (by omega) ?_
        refine lv_aload_n hx hb dX6_copyState_16 rfl (lv_at hl 0 rfl) ?_
        refine lv_iload_n hx hb dX6_copyState_17 rfl (lv_at hl 1 rfl) ?_
        refine lv_iload hx hb dX6_copyState_18 (lv_at hl 4 rfl) ?_
        refine m_iadd (((fa : Nat) : Int) + ((i : Nat) : Int)) hx hb dX6_copyState_20 (by omega) ?_
        refine m_iald hx hb hK hH (k := jf) (by omega) ea (i + fa) (by omega) (by omega) (by decide) dX6_copyState_21 ?_
        refine m_iast hx hb hK hH hA (k := jt) (by omega) eb (i + ta) (by omega) (by omega) (by decide) dX6_copyState_22 (fun H locs σ_2 eb hq_3 hH => ?_)
        have ea : σ_2 (jf) = oAI cT 342 f1 := (hq_3 _ (by omega)).trans ea
        have hf : ∀ q : Nat, q ≠ jt → σ_2 q = σ q := fun q n0 => (hq_3 q n0).trans (hf q n0)
        have hL3 : ∀ q : Nat, q ≠ jt → σ_2 q = σ q := fun q n0 => (hq_3 q n0).trans (hL3 q n0)
        refine m_iinc (((i : Nat) : Int) + 1) [(4, .int (oI (((i : Nat) : Int) + 1))), (0, .ref (ad (jf))), (1, .int (oI (((fa : Nat) : Int)))), (2, .ref (ad (jt))), (3, .int (oI (((ta : Nat) : Int))))] hx hb dX6_copyState_23 hl (j := 4) rfl (by omega) (by decide) rfl (fun ls hl => ?_)
        refine lv_goto (tgt := 3) hx hb dX6_copyState_26 (by decide) ?_
        exact ih3 (i + 1) (va_up f3 (i + ta) (f1 (i + fa))) (by omega) (by first | assumption | omega) (fun k h => by
        by_cases e : k = i
        · rw [e, va_up_s]
        · rw [va_up_n _ _ (by omega)]; exact hz k (by omega)) (fun k h => by rw [va_up_n _ _ (by omega)]; exact hz2 k h) _ eb (hL3) _ _ hH ls (lv_sub hl [1, 2, 3, 4, 0] rfl)
  exact L3 _ 0 f2 (Nat.lt_succ_self _) (by first | assumption | omega) (fun k h => absurd h (Nat.not_lt_zero _)) (fun _ _ => rfl) _ eb (fun q _ => rfl) _ _ hH ls (lv_sub hl [1, 2, 3, 4, 0] rfl)
