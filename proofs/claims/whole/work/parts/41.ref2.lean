theorem oPc_ct (w : Nat) : ∀ k : Nat, oPc w k = fb_ct (fun p => w.testBit p) k
  | 0 => rfl
  | k + 1 => by
    show oPc w k + bz w k = _
    rw [oPc_ct w k, fb_ct_succ]
    unfold bz
    cases w.testBit k <;> rfl
theorem oPc_pcnt {w k : Nat} (h : w < 2 ^ k) (hk : k ≤ 64) : oPc w k = pcnt w := by
  rw [oPc_ct]
  have := fb_ct_past (f := fun p => w.testBit p) (a := k) (fun i hi => Nat.testBit_lt_two_pow (Nat.lt_of_lt_of_le h (Nat.pow_le_pow_right (by decide) hi))) (64 - k)
  rw [show k + (64 - k) = 64 by omega] at this
  exact this.symm
theorem oRS_put {f : Nat → Int} {n a g r p v : Nat} {sz w : Nat → Nat} {x : Int} (h : oRS f n a g sz w) (hp : p ≤ 40) (hx : x = (bz v p : Int)) (hv : ∀ q : Nat, q ≤ 40 → q ≠ p → bz v q = bz (w r) q) : oRS (va_up f (42 * r + 4 + p) x) n a g sz (va_up w r v) := by
  obtain ⟨h0, h1, h2, h3⟩ := h
  refine ⟨by rw [va_up_n _ _ (by omega)]; exact h0, by rw [va_up_n _ _ (by omega)]; exact h1, by rw [va_up_n _ _ (by omega)]; exact h2, fun r' hr' => ⟨by rw [va_up_n _ _ (by omega)]; exact (h3 r' hr').1, fun q hq => ?_⟩⟩
  by_cases e : r' = r
  · subst e
    rw [va_up_s]
    by_cases e2 : q = p
    · subst e2
      rw [va_up_s]; exact hx
    · rw [va_up_n _ _ (by omega), hv q hq e2]
      exact (h3 r' hr').2 q hq
  · rw [va_up_n _ _ (by omega), va_up_n _ _ e]
    exact (h3 r' hr').2 q hq
theorem bz_eq {v w q : Nat} (h : v.testBit q = w.testBit q) : bz v q = bz w q := by unfold bz; rw [h]
theorem oRS_0 {f : Nat → Int} {n a g r p : Nat} {sz w : Nat → Nat} (h : oRS f n a g sz w) (hp : p ≤ 40) (hw : w r < 2 ^ 64) : oRS (va_up f (42 * r + 4 + p) 0) n a g sz (va_up w r (oSet0 (w r) p)) :=
  oRS_put h hp (by rw [bz_0.mpr (by rw [oSet0_tb hw]; simp)]; rfl) (fun q _ hne => bz_eq (by rw [oSet0_tb hw, decide_eq_false (by omega)]; simp))
theorem oRS_1 {f : Nat → Int} {n a g r p : Nat} {sz w : Nat → Nat} (h : oRS f n a g sz w) (hp : p ≤ 40) : oRS (va_up f (42 * r + 4 + p) 1) n a g sz (va_up w r (oSet1 (w r) p)) :=
  oRS_put h hp (by rw [bz_1.mpr (by rw [oSet1_tb]; simp)]; rfl) (fun q _ hne => bz_eq (by rw [oSet1_tb, decide_eq_false (by omega)]; simp))
theorem oRS_a {f : Nat → Int} {n a g v : Nat} {sz w : Nat → Nat} (h : oRS f n a g sz w) : oRS (va_up f 1 ((v : Nat) : Int)) n v g sz w := by
  obtain ⟨h0, h1, h2, h3⟩ := h
  refine ⟨by rw [va_up_n _ _ (by omega)]; exact h0, va_up_s _ _ _, by rw [va_up_n _ _ (by omega)]; exact h2, fun r' hr' => ⟨by rw [va_up_n _ _ (by omega)]; exact (h3 r' hr').1, fun q hq => by rw [va_up_n _ _ (by omega)]; exact (h3 r' hr').2 q hq⟩⟩
theorem oRS_g {f : Nat → Int} {n a g v : Nat} {sz w : Nat → Nat} (h : oRS f n a g sz w) : oRS (va_up f 2 ((v : Nat) : Int)) n a v sz w := by
  obtain ⟨h0, h1, h2, h3⟩ := h
  refine ⟨by rw [va_up_n _ _ (by omega)]; exact h0, by rw [va_up_n _ _ (by omega)]; exact h1, va_up_s _ _ _, fun r' hr' => ⟨by rw [va_up_n _ _ (by omega)]; exact (h3 r' hr').1, fun q hq => by rw [va_up_n _ _ (by omega)]; exact (h3 r' hr').2 q hq⟩⟩
set_option maxHeartbeats 4000000 in
set_option maxRecDepth 100000 in
theorem c6_markOn {l : Launch} {D : va_G} {cT : Nat → ClassId} {N b0 : Nat} {ad : Nat → Nat} (hA : oAd b0 N ad) {σ : Nat → va_E} (j n a g : Nat) (f : Nat → Int) (sz w : Nat → Nat) (r p : Nat) (on : Int) (hj : j < N) (hwf : oWf n sz w) (hp : oRS f n a g sz w) (hr : r < n) (hps : p ≤ sz r) (hon : on = 0 ∨ on = 1) (hok : on = 1 ∨ (¬ p = 0 ∧ ¬ p = sz r)) (ef : σ (j) = oAI cT 171 f) :
    oCi l D cT N ad b0 yX6_markOn cX6_markOn 4 (some .int) 2 44 [.ref (ad (j)), .int (oI (((r : Nat) : Int))), .int (oI (((p : Nat) : Int))), .int (oI (on))] σ (fun rr uu => ∃ f2 : Nat → Int, rr = oI (((pcnt (oDoW (w r) ((p : Nat) : Int) on) : Nat) : Int)) ∧ (oRS f2 n a g sz (va_up w r (oDoW (w r) ((p : Nat) : Int) on))) ∧ (oWf n sz (va_up w r (oDoW (w r) ((p : Nat) : Int) on))) ∧ uu (j) = oAI cT 171 f2 ∧ (∀ q : Nat, q ≠ j → uu q = σ q)) := by
  refine m_start (cc := cX6_markOn) (by decide) (Nat.le_of_ble_eq_true rfl) rfl ?_
  intro Pp Ee Ss Mm Bb Me Cc Ar ls hx hb hml hown hlk hrt hts hK hH hl
  have hown : Ss.vm.findClass RX6 = some Mm.cls := hown
  have hn := hwf.1
  have hsz : ∀ r : Nat, r < n → 2 ≤ sz r ∧ sz r ≤ 40 := fun r h => ⟨(hwf.2 r h).1, (hwf.2 r h).2.1⟩
  have hs9 := hsz r hr
  have hw64 : w r < 2 ^ 64 := Nat.lt_of_lt_of_le (hwf.row hr) (by decide)
  have hpl := pcnt_le (oDoW (w r) ((p : Nat) : Int) on)
  have hl : lv_has ls 4 [(0, .ref (ad (j))), (1, .int (oI (((r : Nat) : Int)))), (2, .int (oI (((p : Nat) : Int)))), (3, .int (oI (on)))] := hl
  have hf : ∀ q : Nat, q ≠ j → σ q = σ q := fun q _ => rfl
  refine lv_aload_n hx hb dX6_markOn_0 rfl (lv_at hl 0 rfl) ?_
  refine lv_iload_n hx hb dX6_markOn_1 rfl (lv_at hl 1 rfl) ?_
  refine lv_iload_n hx hb dX6_markOn_2 rfl (lv_at hl 2 rfl) ?_
  refine m_pSi hx hb hml hown hts hK hH hl (rest := [.ref (ad (j))]) cw_X6_64 rfl (c6_at hA r p (by first | assumption | omega) (by first | assumption | omega) ) ⟨Nat.le_of_ble_eq_true rfl, Nat.le_of_ble_eq_true rfl⟩ ⟨Nat.le_of_ble_eq_true rfl, Nat.le_of_ble_eq_true rfl⟩ rfl rfl (Nat.le_of_ble_eq_true rfl) dX6_markOn_3 (fun H locs hH => ?_)
  refine lv_iload_n hx hb dX6_markOn_6 rfl (lv_at hl 3 rfl) ?_
  refine m_if_eq 14 hx hb dX6_markOn_7 (by decide) (by omega) (fun h_1 => ?_) (fun h_1 => ?_)
  · refine m_iconst 0 hx hb dX6_markOn_14 rfl ?_
    refine m_iast hx hb hK hH hA (k := j) (by omega) ef (42 * r + 4 + p) (by omega) (by omega) (by decide) dX6_markOn_15 (fun H locs σ_2 ef hq_3 hH => ?_)
    have hf : ∀ q : Nat, q ≠ j → σ_2 q = σ q := fun q n0 => (hq_3 q n0).trans (hf q n0)
    have e9 : (oDoW (w r) ((p : Nat) : Int) on) = oSet0 (w r) p := if_pos (by omega)
    have hp2 := oRS_0 (r := r) (p := p) hp (by omega) hw64
    have hwf2 := hwf.mark0 hr (by omega : p ≠ 0) (by omega)
    rw [← e9] at hp2 hwf2
    refine lv_aload_n hx hb dX6_markOn_16 rfl (lv_at hl 0 rfl) ?_
    refine lv_iload_n hx hb dX6_markOn_17 rfl (lv_at hl 1 rfl) ?_
    refine m_pSi hx hb hml hown hts hK hH hl (rest := []) cw_X6_68 rfl (c6_marks hA j n a g (va_up f (42 * r + 4 + p) 0) sz (va_up w r (oDoW (w r) ((p : Nat) : Int) on)) r (by first | assumption | omega) (by first | assumption | omega) (by first | assumption | omega) (by first | assumption | omega) ef) ⟨Nat.le_of_ble_eq_true rfl, Nat.le_of_ble_eq_true rfl⟩ ⟨Nat.le_of_ble_eq_true rfl, Nat.le_of_ble_eq_true rfl⟩ rfl rfl (Nat.le_of_ble_eq_true rfl) dX6_markOn_18 (fun H locs hH => ?_)
    refine m_topI (((pcnt (oDoW (w r) ((p : Nat) : Int) on) : Nat) : Int)) (by rw [oPc_pcnt (hwf2.2 r hr).2.2.1 (by omega), va_up_s]) ?_
    exact m_iret hx hb hlk hrt hH (m_ni _) dX6_markOn_21 ⟨(va_up f (42 * r + 4 + p) 0), rfl, hp2, hwf2, ef, hf⟩
  · refine m_iconst 1 hx hb dX6_markOn_10 rfl ?_
    refine lv_goto (tgt := 15) hx hb dX6_markOn_11 (by decide) ?_
    refine m_iast hx hb hK hH hA (k := j) (by omega) ef (42 * r + 4 + p) (by omega) (by omega) (by decide) dX6_markOn_15 (fun H locs σ_4 ef hq_5 hH => ?_)
    have hf : ∀ q : Nat, q ≠ j → σ_4 q = σ q := fun q n0 => (hq_5 q n0).trans (hf q n0)
    have e9 : (oDoW (w r) ((p : Nat) : Int) on) = oSet1 (w r) p := if_neg (by omega)
    have hp2 := oRS_1 (r := r) (p := p) hp (by omega)
    have hwf2 := hwf.mark1 hr hps
    rw [← e9] at hp2 hwf2
    refine lv_aload_n hx hb dX6_markOn_16 rfl (lv_at hl 0 rfl) ?_
    refine lv_iload_n hx hb dX6_markOn_17 rfl (lv_at hl 1 rfl) ?_
    refine m_pSi hx hb hml hown hts hK hH hl (rest := []) cw_X6_68 rfl (c6_marks hA j n a g (va_up f (42 * r + 4 + p) 1) sz (va_up w r (oDoW (w r) ((p : Nat) : Int) on)) r (by first | assumption | omega) (by first | assumption | omega) (by first | assumption | omega) (by first | assumption | omega) ef) ⟨Nat.le_of_ble_eq_true rfl, Nat.le_of_ble_eq_true rfl⟩ ⟨Nat.le_of_ble_eq_true rfl, Nat.le_of_ble_eq_true rfl⟩ rfl rfl (Nat.le_of_ble_eq_true rfl) dX6_markOn_18 (fun H locs hH => ?_)
    refine m_topI (((pcnt (oDoW (w r) ((p : Nat) : Int) on) : Nat) : Int)) (by rw [oPc_pcnt (hwf2.2 r hr).2.2.1 (by omega), va_up_s]) ?_
    exact m_iret hx hb hlk hrt hH (m_ni _) dX6_markOn_21 ⟨(va_up f (42 * r + 4 + p) 1), rfl, hp2, hwf2, ef, hf⟩
set_option maxHeartbeats 4000000 in
set_option maxRecDepth 100000 in
theorem c6_canMark {l : Launch} {D : va_G} {cT : Nat → ClassId} {N b0 : Nat} {ad : Nat → Nat} (hA : oAd b0 N ad) {σ : Nat → va_E} (j n a g : Nat) (f : Nat → Int) (sz w : Nat → Nat) (r p on : Int) (hj : j < N) (hwf : oWf n sz w) (hp : oRS f n a g sz w) (hbr : -2147483648 ≤ r ∧ r < 2147483648) (hbp : -2147483648 ≤ p ∧ p < 2147483648) (hon : on = 0 ∨ on = 1) (ef : σ (j) = oAI cT 171 f) :
    oCi l D cT N ad b0 yX6_canMark cX6_canMark 4 (some .boolean) 3 68 [.ref (ad (j)), .int (oI (r)), .int (oI (p)), .int (oI (on))] σ (fun rr uu => (rr = oI 1 ∧ (((0 ≤ r ∧ r < (n : Int)) ∧ 0 ≤ p ∧ p ≤ (oSize n sz r : Int)) ∧ (on = 1 ∨ ¬ (p = 0 ∨ p = (oSize n sz r : Int)))) ∨ rr = oI 0 ∧ ¬ (((0 ≤ r ∧ r < (n : Int)) ∧ 0 ≤ p ∧ p ≤ (oSize n sz r : Int)) ∧ (on = 1 ∨ ¬ (p = 0 ∨ p = (oSize n sz r : Int))))) ∧ uu = σ) := by
  refine m_start (cc := cX6_canMark) (by decide) (Nat.le_of_ble_eq_true rfl) rfl ?_
  intro Pp Ee Ss Mm Bb Me Cc Ar ls hx hb hml hown hlk hrt hts hK hH hl
  have hown : Ss.vm.findClass RX6 = some Mm.cls := hown
  have hn := hwf.1
  have hl : lv_has ls 4 [(0, .ref (ad (j))), (1, .int (oI (r))), (2, .int (oI (p))), (3, .int (oI (on)))] := hl
  refine lv_aload_n hx hb dX6_canMark_0 rfl (lv_at hl 0 rfl) ?_
  refine lv_iload_n hx hb dX6_canMark_1 rfl (lv_at hl 1 rfl) ?_
  refine lv_iload_n hx hb dX6_canMark_2 rfl (lv_at hl 2 rfl) ?_
  refine m_pSb hx hb hml hown hts hK hH hl (rest := []) cw_X6_99 rfl (c6_isPlace hA j n a g f sz w r p (by first | assumption | omega) (by first | assumption | omega) (by first | assumption | omega) (by first | assumption | omega) (by first | assumption | omega) ef) ⟨Nat.le_of_ble_eq_true rfl, Nat.le_of_ble_eq_true rfl⟩ ⟨Nat.le_of_ble_eq_true rfl, Nat.le_of_ble_eq_true rfl⟩ rfl rfl (Nat.le_of_ble_eq_true rfl) dX6_canMark_3 (fun hP H locs hH => ?_) (fun hP H locs hH => ?_)
  · refine m_if_eq 26 hx hb dX6_canMark_6 (by decide) (by omega) (fun h_1 => absurd h_1 (by omega)) (fun h_1 => ?_)
    refine lv_iload_n hx hb dX6_canMark_9 rfl (lv_at hl 3 rfl) ?_
    refine m_if_ne 22 hx hb dX6_canMark_10 (by decide) (by omega) (fun h_2 => ?_) (fun h_2 => ?_)
    · refine m_iconst 1 hx hb dX6_canMark_22 rfl ?_
      refine lv_goto (tgt := 27) hx hb dX6_canMark_23 (by decide) ?_
      exact m_iret hx hb hlk hrt hH m_z1 dX6_canMark_27 ⟨Or.inl ⟨rfl, by first | assumption | omega | simp_all⟩, rfl⟩
    · refine lv_aload_n hx hb dX6_canMark_13 rfl (lv_at hl 0 rfl) ?_
      have eS : oSize n sz r = sz r.toNat := oSize_in hP.1
      refine lv_iload_n hx hb dX6_canMark_14 rfl (lv_at hl 1 rfl) ?_
      refine m_topI (((r.toNat : Nat) : Int)) (by omega) ?_
      refine lv_iload_n hx hb dX6_canMark_15 rfl (lv_at hl 2 rfl) ?_
      refine m_pSb hx hb hml hown hts hK hH hl (rest := []) cw_X6_103 rfl (c6_isEnd hA j n a g f sz w r.toNat p (by first | assumption | omega) (by first | assumption | omega) (by first | assumption | omega) (by first | assumption | omega) (by first | assumption | omega) ef) ⟨Nat.le_of_ble_eq_true rfl, Nat.le_of_ble_eq_true rfl⟩ ⟨Nat.le_of_ble_eq_true rfl, Nat.le_of_ble_eq_true rfl⟩ rfl rfl (Nat.le_of_ble_eq_true rfl) dX6_canMark_16 (fun h_3 H locs hH => ?_) (fun h_3 H locs hH => ?_)
      · refine m_if_ne 26 hx hb dX6_canMark_19 (by decide) (by omega) (fun h_4 => ?_) (fun h_4 => absurd h_4 (by omega))
        refine m_iconst 0 hx hb dX6_canMark_26 rfl ?_
        exact m_iret hx hb hlk hrt hH m_z0 dX6_canMark_27 ⟨Or.inr ⟨rfl, by first | assumption | omega | simp_all⟩, rfl⟩
      · refine m_if_ne 26 hx hb dX6_canMark_19 (by decide) (by omega) (fun h_5 => absurd h_5 (by omega)) (fun h_5 => ?_)
        refine m_iconst 1 hx hb dX6_canMark_22 rfl ?_
        refine lv_goto (tgt := 27) hx hb dX6_canMark_23 (by decide) ?_
        exact m_iret hx hb hlk hrt hH m_z1 dX6_canMark_27 ⟨Or.inl ⟨rfl, by first | assumption | omega | simp_all⟩, rfl⟩
  · refine m_if_eq 26 hx hb dX6_canMark_6 (by decide) (by omega) (fun h_6 => ?_) (fun h_6 => absurd h_6 (by omega))
    refine m_iconst 0 hx hb dX6_canMark_26 rfl ?_
    exact m_iret hx hb hlk hrt hH m_z0 dX6_canMark_27 ⟨Or.inr ⟨rfl, by first | assumption | omega | simp_all⟩, rfl⟩
set_option maxHeartbeats 4000000 in
set_option maxRecDepth 100000 in
theorem c6_change0 {l : Launch} {D : va_G} {cT : Nat → ClassId} {N b0 : Nat} {ad : Nat → Nat} (hA : oAd b0 N ad) {σ : Nat → va_E} (j n a g : Nat) (f : Nat → Int) (sz w : Nat → Nat) (v : Nat) (hj : j < N) (hwf : oWf n sz w) (hp : oRS f n a g sz w) (hv : v ≤ 1000) (ef : σ (j) = oAI cT 171 f) :
    oCi l D cT N ad b0 yX6_change cX6_change 4 (some .int) 0 0 [.ref (ad (j)), .int (oI (0)), .int (oI (((v : Nat) : Int)))] σ (fun rr uu => ∃ f2 : Nat → Int, rr = oI (((a : Nat) : Int)) ∧ (oRS f2 n v g sz w) ∧ uu (j) = oAI cT 171 f2 ∧ (∀ q : Nat, q ≠ j → uu q = σ q)) := by
  refine m_start (cc := cX6_change) (by decide) (Nat.le_of_ble_eq_true rfl) rfl ?_
  intro Pp Ee Ss Mm Bb Me Cc Ar ls hx hb hml hown hlk hrt hts hK hH hl
  have hown : Ss.vm.findClass RX6 = some Mm.cls := hown
  have hn := hwf.1
  have hl : lv_has ls 4 [(0, .ref (ad (j))), (1, .int (oI (0))), (2, .int (oI (((v : Nat) : Int))))] := hl
  have hf : ∀ q : Nat, q ≠ j → σ q = σ q := fun q _ => rfl
  refine lv_aload_n hx hb dX6_change_0 rfl (lv_at hl 0 rfl) ?_
  refine m_iconst 1 hx hb dX6_change_1 rfl ?_
  refine lv_iload_n hx hb dX6_change_2 rfl (lv_at hl 1 rfl) ?_
  refine m_iadd (1) hx hb dX6_change_3 (by omega) ?_
  refine m_iald hx hb hK hH (k := j) (by omega) ef (1) (by omega) (by omega) (by decide) dX6_change_4 ?_
  refine m_topI (((a : Nat) : Int)) (hp.2.1) ?_
  refine lv_istore_n (lv' := [(3, .int (oI (((a : Nat) : Int)))), (0, .ref (ad (j))), (1, .int (oI (0))), (2, .int (oI (((v : Nat) : Int))))]) hx hb dX6_change_5 rfl hl (by decide) rfl (fun ls hl => ?_)
  refine lv_aload_n hx hb dX6_change_6 rfl (lv_at hl 1 rfl) ?_
  refine m_iconst 1 hx hb dX6_change_7 rfl ?_
  refine lv_iload_n hx hb dX6_change_8 rfl (lv_at hl 2 rfl) ?_
  refine m_iadd (1) hx hb dX6_change_9 (by omega) ?_
  refine lv_iload_n hx hb dX6_change_10 rfl (lv_at hl 3 rfl) ?_
  refine m_iast hx hb hK hH hA (k := j) (by omega) ef (1) (by omega) (by omega) (by decide) dX6_change_11 (fun H locs σ_1 ef hq_2 hH => ?_)
  have hf : ∀ q : Nat, q ≠ j → σ_1 q = σ q := fun q n0 => (hq_2 q n0).trans (hf q n0)
  refine lv_iload_n hx hb dX6_change_12 rfl (lv_at hl 0 rfl) ?_
  exact m_iret hx hb hlk hrt hH (m_ni _) dX6_change_13 ⟨(va_up f 1 ((v : Nat) : Int)), rfl, (oRS_a hp), ef, hf⟩
set_option maxHeartbeats 4000000 in
set_option maxRecDepth 100000 in
theorem c6_change1 {l : Launch} {D : va_G} {cT : Nat → ClassId} {N b0 : Nat} {ad : Nat → Nat} (hA : oAd b0 N ad) {σ : Nat → va_E} (j n a g : Nat) (f : Nat → Int) (sz w : Nat → Nat) (v : Nat) (hj : j < N) (hwf : oWf n sz w) (hp : oRS f n a g sz w) (hv : v ≤ 1000) (ef : σ (j) = oAI cT 171 f) :
    oCi l D cT N ad b0 yX6_change cX6_change 4 (some .int) 0 0 [.ref (ad (j)), .int (oI (1)), .int (oI (((v : Nat) : Int)))] σ (fun rr uu => ∃ f2 : Nat → Int, rr = oI (((g : Nat) : Int)) ∧ (oRS f2 n a v sz w) ∧ uu (j) = oAI cT 171 f2 ∧ (∀ q : Nat, q ≠ j → uu q = σ q)) := by
  refine m_start (cc := cX6_change) (by decide) (Nat.le_of_ble_eq_true rfl) rfl ?_
  intro Pp Ee Ss Mm Bb Me Cc Ar ls hx hb hml hown hlk hrt hts hK hH hl
  have hown : Ss.vm.findClass RX6 = some Mm.cls := hown
  have hn := hwf.1
  have hl : lv_has ls 4 [(0, .ref (ad (j))), (1, .int (oI (1))), (2, .int (oI (((v : Nat) : Int))))] := hl
  have hf : ∀ q : Nat, q ≠ j → σ q = σ q := fun q _ => rfl
  refine lv_aload_n hx hb dX6_change_0 rfl (lv_at hl 0 rfl) ?_
  refine m_iconst 1 hx hb dX6_change_1 rfl ?_
  refine lv_iload_n hx hb dX6_change_2 rfl (lv_at hl 1 rfl) ?_
  refine m_iadd (2) hx hb dX6_change_3 (by omega) ?_
  refine m_iald hx hb hK hH (k := j) (by omega) ef (2) (by omega) (by omega) (by decide) dX6_change_4 ?_
  refine m_topI (((g : Nat) : Int)) (hp.2.2.1) ?_
  refine lv_istore_n (lv' := [(3, .int (oI (((g : Nat) : Int)))), (0, .ref (ad (j))), (1, .int (oI (1))), (2, .int (oI (((v : Nat) : Int))))]) hx hb dX6_change_5 rfl hl (by decide) rfl (fun ls hl => ?_)
  refine lv_aload_n hx hb dX6_change_6 rfl (lv_at hl 1 rfl) ?_
  refine m_iconst 1 hx hb dX6_change_7 rfl ?_
  refine lv_iload_n hx hb dX6_change_8 rfl (lv_at hl 2 rfl) ?_
  refine m_iadd (2) hx hb dX6_change_9 (by omega) ?_
  refine lv_iload_n hx hb dX6_change_10 rfl (lv_at hl 3 rfl) ?_
  refine m_iast hx hb hK hH hA (k := j) (by omega) ef (2) (by omega) (by omega) (by decide) dX6_change_11 (fun H locs σ_1 ef hq_2 hH => ?_)
  have hf : ∀ q : Nat, q ≠ j → σ_1 q = σ q := fun q n0 => (hq_2 q n0).trans (hf q n0)
  refine lv_iload_n hx hb dX6_change_12 rfl (lv_at hl 0 rfl) ?_
  exact m_iret hx hb hlk hrt hH (m_ni _) dX6_change_13 ⟨(va_up f 2 ((v : Nat) : Int)), rfl, (oRS_g hp), ef, hf⟩
