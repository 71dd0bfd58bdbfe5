set_option maxHeartbeats 4000000 in
set_option maxRecDepth 100000 in
theorem c4_perf1 {l : Launch} {D : va_G} {cT : Nat → ClassId} {N b0 : Nat} {ad : Nat → Nat} (hA : oAd b0 N ad) {σ : Nat → va_E} (j n a g : Nat) (sz w : Nat → Nat) (x : Nat) (p on : Int) (hj : j + 2 < N) (hwf : oWf n sz w) (hn4 : n < 4) (hx2 : 2 ≤ x ∧ x ≤ 40) (hbp : -2147483648 ≤ p ∧ p < 2147483648) (hbon : -2147483648 ≤ on ∧ on < 2147483648) (e0 : σ (j) = .inr (4, [.ref (ad (j + 1)), .ref (ad (j + 2)), .int (oI (((n : Nat) : Int))), .int (oI (((a : Nat) : Int))), .int (oI (((g : Nat) : Int)))])) (e1 : σ (j + 1) = oAN cT 4 sz) (e2 : σ (j + 2) = oAJ cT 4 w) :
    oCi l D cT N ad b0 yX4_perform cX4_perform 5 (some .int) 3 68 [.ref (ad (j)), .int (oI (1)), .int (oI (((x : Nat) : Int))), .int (oI (p)), .int (oI (on))] σ (fun rr uu => rr = oI (((n : Nat) : Int)) ∧ uu (j) = .inr (4, [.ref (ad (j + 1)), .ref (ad (j + 2)), .int (oI (((n : Nat) : Int) + 1)), .int (oI (((a : Nat) : Int))), .int (oI (((g : Nat) : Int)))]) ∧ uu (j + 1) = oAN cT 4 (va_up sz n x) ∧ uu (j + 2) = oAJ cT 4 (va_up w n (1 ||| 2 ^ x)) ∧ (∀ q : Nat, q ≠ j → q ≠ (j + 1) → q ≠ (j + 2) → uu q = σ q)) := by
  refine m_start (cc := cX4_perform) (by decide) (Nat.le_of_ble_eq_true rfl) rfl ?_
  intro Pp Ee Ss Mm Bb Me Cc Ar ls hx hb hml hown hlk hrt hts hK hH hl
  have hown : Ss.vm.findClass RX4 = some Mm.cls := hown
  have hn := hwf.1
  have hsz := oSize_le hwf
  have hw64 := oRow_64 hwf
  have hw41 := oRow_lt hwf
  have hl : lv_has ls 5 [(0, .ref (ad (j))), (1, .int (oI (1))), (2, .int (oI (((x : Nat) : Int)))), (3, .int (oI (p))), (4, .int (oI (on)))] := hl
  have hf : ∀ q : Nat, q ≠ j → q ≠ (j + 1) → q ≠ (j + 2) → σ q = σ q := fun q _ _ _ => rfl
  refine lv_iload_n hx hb dX4_perform_0 rfl (lv_at hl 1 rfl) ?_
  refine m_tabIn 32 hx hb dX4_perform_1 (by omega) (by omega) (by first | rfl | (rw [show (1 : Int) = 1 by omega]; rfl)) (by decide) ?_
  refine lv_aload_n hx hb dX4_perform_32 rfl (lv_at hl 0 rfl) ?_
  refine lv_iload_n hx hb dX4_perform_33 rfl (lv_at hl 2 rfl) ?_
  refine m_callVi hx hb hml hown hts hK hH hl (rest := []) cw_X4_99 (c4_addRuler hA j n a g sz w x (by first | assumption | omega) (by first | assumption | omega) (by first | assumption | omega) (by first | assumption | omega) e0 e1 e2) ⟨Nat.le_of_ble_eq_true rfl, Nat.le_of_ble_eq_true rfl⟩ ⟨Nat.le_of_ble_eq_true rfl, Nat.le_of_ble_eq_true rfl⟩ rfl (k := j) (by omega) e0 rfl rfl (Nat.le_of_ble_eq_true rfl) dX4_perform_34 (fun r_5 σ_2 H locs hp_3 hH => ?_)
  obtain ⟨rfl, e0, e1, e2, hq_4⟩ := hp_3
  have hf : ∀ q : Nat, q ≠ j → q ≠ (j + 1) → q ≠ (j + 2) → σ_2 q = σ q := fun q n0 n1 n2 => (hq_4 q n0 n1 n2).trans (hf q n0 n1 n2)
  exact m_iret hx hb hlk hrt hH (m_ni _) dX4_perform_37 ⟨rfl, e0, e1, e2, hf⟩
set_option maxHeartbeats 4000000 in
set_option maxRecDepth 100000 in
theorem c4_att1 {l : Launch} {D : va_G} {cT : Nat → ClassId} {N b0 : Nat} {ad : Nat → Nat} (hA : oAd b0 N ad) {σ : Nat → va_E} (j n a g : Nat) (sz w : Nat → Nat) (x : Nat) (p on : Int) (hj : j + 2 < N) (hwf : oWf n sz w) (hn4 : n < 4) (hx2 : 2 ≤ x ∧ x ≤ 40) (hbp : -2147483648 ≤ p ∧ p < 2147483648) (hbon : -2147483648 ≤ on ∧ on < 2147483648) (e0 : σ (j) = .inr (4, [.ref (ad (j + 1)), .ref (ad (j + 2)), .int (oI (((n : Nat) : Int))), .int (oI (((a : Nat) : Int))), .int (oI (((g : Nat) : Int)))])) (e1 : σ (j + 1) = oAN cT 4 sz) (e2 : σ (j + 2) = oAJ cT 4 w) :
    oCi l D cT N ad b0 yX4_attempt cX4_attempt 5 (some .boolean) 4 92 [.ref (ad (j)), .int (oI (1)), .int (oI (((x : Nat) : Int))), .int (oI (p)), .int (oI (on))] σ (fun rr uu => rr = oI (1) ∧ uu (j) = .inr (4, [.ref (ad (j + 1)), .ref (ad (j + 2)), .int (oI (((n : Nat) : Int) + 1)), .int (oI (((a : Nat) : Int))), .int (oI (((g : Nat) : Int)))]) ∧ uu (j + 1) = oAN cT 4 (va_up sz n x) ∧ uu (j + 2) = oAJ cT 4 (va_up w n (1 ||| 2 ^ x)) ∧ (∀ q : Nat, q ≠ j → q ≠ (j + 1) → q ≠ (j + 2) → uu q = σ q)) := by
  refine m_start (cc := cX4_attempt) (by decide) (Nat.le_of_ble_eq_true rfl) rfl ?_
  intro Pp Ee Ss Mm Bb Me Cc Ar ls hx hb hml hown hlk hrt hts hK hH hl
  have hown : Ss.vm.findClass RX4 = some Mm.cls := hown
  have hn := hwf.1
  have hsz := oSize_le hwf
  have hw64 := oRow_64 hwf
  have hw41 := oRow_lt hwf
  have hok : oRef1 n ((x : Nat) : Int) = 0 := oRef1_0.mpr ⟨by omega, by omega, hn4⟩
  have hrb := oRef1_b n ((x : Nat) : Int)
  have hl : lv_has ls 5 [(0, .ref (ad (j))), (1, .int (oI (1))), (2, .int (oI (((x : Nat) : Int)))), (3, .int (oI (p))), (4, .int (oI (on)))] := hl
  have hf : ∀ q : Nat, q ≠ j → q ≠ (j + 1) → q ≠ (j + 2) → σ q = σ q := fun q _ _ _ => rfl
  refine lv_aload_n hx hb dX4_attempt_0 rfl (lv_at hl 0 rfl) ?_
  refine lv_iload_n hx hb dX4_attempt_1 rfl (lv_at hl 1 rfl) ?_
  refine lv_iload_n hx hb dX4_attempt_2 rfl (lv_at hl 2 rfl) ?_
  refine lv_iload_n hx hb dX4_attempt_3 rfl (lv_at hl 3 rfl) ?_
  refine lv_iload hx hb dX4_attempt_4 (lv_at hl 4 rfl) ?_
  refine m_pVi hx hb hml hown hts hK hH hl (rest := []) cw_X4_92 (c4_ref1 hA j n a g sz w ((x : Nat) : Int) p on (by first | assumption | omega) (by first | assumption | omega) (by first | assumption | omega) (by first | assumption | omega) (by first | assumption | omega) e0 e1 e2) ⟨Nat.le_of_ble_eq_true rfl, Nat.le_of_ble_eq_true rfl⟩ ⟨Nat.le_of_ble_eq_true rfl, Nat.le_of_ble_eq_true rfl⟩ rfl (k := j) (by omega) e0 rfl rfl (Nat.le_of_ble_eq_true rfl) dX4_attempt_6 (fun H locs hH => ?_)
  refine m_if_eq 14 hx hb dX4_attempt_9 (by decide) (by omega) (fun h_1 => ?_) (fun h_1 => absurd h_1 (fun z => z hok))
  refine lv_aload_n hx hb dX4_attempt_14 rfl (lv_at hl 0 rfl) ?_
  refine lv_iload_n hx hb dX4_attempt_15 rfl (lv_at hl 1 rfl) ?_
  refine lv_iload_n hx hb dX4_attempt_16 rfl (lv_at hl 2 rfl) ?_
  refine lv_iload_n hx hb dX4_attempt_17 rfl (lv_at hl 3 rfl) ?_
  refine lv_iload hx hb dX4_attempt_18 (lv_at hl 4 rfl) ?_
  refine m_callVi hx hb hml hown hts hK hH hl (rest := []) cw_X4_96 (c4_perf1 hA j n a g sz w x p on (by first | assumption | omega) (by first | assumption | omega) (by first | assumption | omega) (by first | assumption | omega) (by first | assumption | omega) (by first | assumption | omega) e0 e1 e2) ⟨Nat.le_of_ble_eq_true rfl, Nat.le_of_ble_eq_true rfl⟩ ⟨Nat.le_of_ble_eq_true rfl, Nat.le_of_ble_eq_true rfl⟩ rfl (k := j) (by omega) e0 rfl rfl (Nat.le_of_ble_eq_true rfl) dX4_attempt_20 (fun r_5 σ_2 H locs hp_3 hH => ?_)
  obtain ⟨rfl, e0, e1, e2, hq_4⟩ := hp_3
  have hf : ∀ q : Nat, q ≠ j → q ≠ (j + 1) → q ≠ (j + 2) → σ_2 q = σ q := fun q n0 n1 n2 => (hq_4 q n0 n1 n2).trans (hf q n0 n1 n2)
  refine lv_pop hx hb dX4_attempt_23 rfl ?_
  refine m_iconst 1 hx hb dX4_attempt_24 rfl ?_
  exact m_iret hx hb hlk hrt hH m_z1 dX4_attempt_25 ⟨rfl, e0, e1, e2, hf⟩
set_option maxHeartbeats 4000000 in
set_option maxRecDepth 100000 in
theorem c4_perf2a {l : Launch} {D : va_G} {cT : Nat → ClassId} {N b0 : Nat} {ad : Nat → Nat} (hA : oAd b0 N ad) {σ : Nat → va_E} (j n a g : Nat) (sz w : Nat → Nat) (r p : Nat) (hj : j + 2 < N) (hwf : oWf n sz w) (hr : r < n) (hp : p ≤ sz r) (e0 : σ (j) = .inr (4, [.ref (ad (j + 1)), .ref (ad (j + 2)), .int (oI (((n : Nat) : Int))), .int (oI (((a : Nat) : Int))), .int (oI (((g : Nat) : Int)))])) (e1 : σ (j + 1) = oAN cT 4 sz) (e2 : σ (j + 2) = oAJ cT 4 w) :
    oCi l D cT N ad b0 yX4_perform cX4_perform 5 (some .int) 3 68 [.ref (ad (j)), .int (oI (2)), .int (oI (((r : Nat) : Int))), .int (oI (((p : Nat) : Int))), .int (oI (1))] σ (fun rr uu => rr = oI (((pcnt (oSet1 (w r) p) : Nat) : Int)) ∧ uu (j + 1) = oAN cT 4 sz ∧ uu (j + 2) = oAJ cT 4 (va_up w r (oSet1 (w r) p)) ∧ (∀ q : Nat, q ≠ (j + 1) → q ≠ (j + 2) → uu q = σ q)) := by
  refine m_start (cc := cX4_perform) (by decide) (Nat.le_of_ble_eq_true rfl) rfl ?_
  intro Pp Ee Ss Mm Bb Me Cc Ar ls hx hb hml hown hlk hrt hts hK hH hl
  have hown : Ss.vm.findClass RX4 = some Mm.cls := hown
  have hn := hwf.1
  have hsz := oSize_le hwf
  have hw64 := oRow_64 hwf
  have hw41 := oRow_lt hwf
  have hs40 := (hwf.2 r hr).2.1
  have eS : oSize n sz ((r : Nat) : Int) = sz r := oSize_in ⟨by omega, by omega⟩
  have eR : oRow n w ((r : Nat) : Int) = w r := oRow_in ⟨by omega, by omega⟩
  have hl : lv_has ls 5 [(0, .ref (ad (j))), (1, .int (oI (2))), (2, .int (oI (((r : Nat) : Int)))), (3, .int (oI (((p : Nat) : Int)))), (4, .int (oI (1)))] := hl
  have hf : ∀ q : Nat, q ≠ (j + 1) → q ≠ (j + 2) → σ q = σ q := fun q _ _ => rfl
  refine lv_iload_n hx hb dX4_perform_0 rfl (lv_at hl 1 rfl) ?_
  refine m_tabIn 38 hx hb dX4_perform_1 (by omega) (by omega) (by first | rfl | (rw [show (2 : Int) = 2 by omega]; rfl)) (by decide) ?_
  refine lv_aload_n hx hb dX4_perform_38 rfl (lv_at hl 0 rfl) ?_
  refine lv_iload_n hx hb dX4_perform_39 rfl (lv_at hl 2 rfl) ?_
  refine lv_iload_n hx hb dX4_perform_40 rfl (lv_at hl 3 rfl) ?_
  refine lv_iload hx hb dX4_perform_41 (lv_at hl 4 rfl) ?_
  refine m_callVi hx hb hml hown hts hK hH hl (rest := []) cw_X4_102 (c4_putMark1 hA j n a g sz w r p (by first | assumption | omega) (by first | assumption | omega) (by first | assumption | omega) (by first | assumption | omega) e0 e1 e2) ⟨Nat.le_of_ble_eq_true rfl, Nat.le_of_ble_eq_true rfl⟩ ⟨Nat.le_of_ble_eq_true rfl, Nat.le_of_ble_eq_true rfl⟩ rfl (k := j) (by omega) e0 rfl rfl (Nat.le_of_ble_eq_true rfl) dX4_perform_43 (fun r_5 σ_2 H locs hp_3 hH => ?_)
  obtain ⟨rfl, e1, e2, hq_4⟩ := hp_3
  have e0 : σ_2 (j) = .inr (4, [.ref (ad (j + 1)), .ref (ad (j + 2)), .int (oI (((n : Nat) : Int))), .int (oI (((a : Nat) : Int))), .int (oI (((g : Nat) : Int)))]) := (hq_4 _ (by omega) (by omega)).trans e0
  have hf : ∀ q : Nat, q ≠ (j + 1) → q ≠ (j + 2) → σ_2 q = σ q := fun q n0 n1 => (hq_4 q n0 n1).trans (hf q n0 n1)
  exact m_iret hx hb hlk hrt hH (m_ni _) dX4_perform_46 ⟨rfl, e1, e2, hf⟩
set_option maxHeartbeats 4000000 in
set_option maxRecDepth 100000 in
theorem c4_att2a {l : Launch} {D : va_G} {cT : Nat → ClassId} {N b0 : Nat} {ad : Nat → Nat} (hA : oAd b0 N ad) {σ : Nat → va_E} (j n a g : Nat) (sz w : Nat → Nat) (r p : Nat) (hj : j + 2 < N) (hwf : oWf n sz w) (hr : r < n) (hp : p ≤ sz r) (e0 : σ (j) = .inr (4, [.ref (ad (j + 1)), .ref (ad (j + 2)), .int (oI (((n : Nat) : Int))), .int (oI (((a : Nat) : Int))), .int (oI (((g : Nat) : Int)))])) (e1 : σ (j + 1) = oAN cT 4 sz) (e2 : σ (j + 2) = oAJ cT 4 w) :
    oCi l D cT N ad b0 yX4_attempt cX4_attempt 5 (some .boolean) 4 92 [.ref (ad (j)), .int (oI (2)), .int (oI (((r : Nat) : Int))), .int (oI (((p : Nat) : Int))), .int (oI (1))] σ (fun rr uu => rr = oI (1) ∧ uu (j + 1) = oAN cT 4 sz ∧ uu (j + 2) = oAJ cT 4 (va_up w r (oSet1 (w r) p)) ∧ (∀ q : Nat, q ≠ (j + 1) → q ≠ (j + 2) → uu q = σ q)) := by
  refine m_start (cc := cX4_attempt) (by decide) (Nat.le_of_ble_eq_true rfl) rfl ?_
  intro Pp Ee Ss Mm Bb Me Cc Ar ls hx hb hml hown hlk hrt hts hK hH hl
  have hown : Ss.vm.findClass RX4 = some Mm.cls := hown
  have hn := hwf.1
  have hsz := oSize_le hwf
  have hw64 := oRow_64 hwf
  have hw41 := oRow_lt hwf
  have hs40 := (hwf.2 r hr).2.1
  have eS : oSize n sz ((r : Nat) : Int) = sz r := oSize_in ⟨by omega, by omega⟩
  have eR : oRow n w ((r : Nat) : Int) = w r := oRow_in ⟨by omega, by omega⟩
  have hok : oRef2 n sz ((r : Nat) : Int) ((p : Nat) : Int) 1 = 0 := oRef2_0.mpr ⟨⟨⟨by omega, by omega⟩, by omega, by rw [eS]; omega⟩, by omega⟩
  have hrb := oRef2_b n sz ((r : Nat) : Int) ((p : Nat) : Int) 1
  have hl : lv_has ls 5 [(0, .ref (ad (j))), (1, .int (oI (2))), (2, .int (oI (((r : Nat) : Int)))), (3, .int (oI (((p : Nat) : Int)))), (4, .int (oI (1)))] := hl
  have hf : ∀ q : Nat, q ≠ (j + 1) → q ≠ (j + 2) → σ q = σ q := fun q _ _ => rfl
  refine lv_aload_n hx hb dX4_attempt_0 rfl (lv_at hl 0 rfl) ?_
  refine lv_iload_n hx hb dX4_attempt_1 rfl (lv_at hl 1 rfl) ?_
  refine lv_iload_n hx hb dX4_attempt_2 rfl (lv_at hl 2 rfl) ?_
  refine lv_iload_n hx hb dX4_attempt_3 rfl (lv_at hl 3 rfl) ?_
  refine lv_iload hx hb dX4_attempt_4 (lv_at hl 4 rfl) ?_
  refine m_pVi hx hb hml hown hts hK hH hl (rest := []) cw_X4_92 (c4_ref2 hA j n a g sz w ((r : Nat) : Int) ((p : Nat) : Int) 1 (by first | assumption | omega) (by first | assumption | omega) (by first | assumption | omega) (by first | assumption | omega) (by first | assumption | omega) e0 e1 e2) ⟨Nat.le_of_ble_eq_true rfl, Nat.le_of_ble_eq_true rfl⟩ ⟨Nat.le_of_ble_eq_true rfl, Nat.le_of_ble_eq_true rfl⟩ rfl (k := j) (by omega) e0 rfl rfl (Nat.le_of_ble_eq_true rfl) dX4_attempt_6 (fun H locs hH => ?_)
  refine m_if_eq 14 hx hb dX4_attempt_9 (by decide) (by omega) (fun h_1 => ?_) (fun h_1 => absurd h_1 (fun z => z hok))
  refine lv_aload_n hx hb dX4_attempt_14 rfl (lv_at hl 0 rfl) ?_
  refine lv_iload_n hx hb dX4_attempt_15 rfl (lv_at hl 1 rfl) ?_
  refine lv_iload_n hx hb dX4_attempt_16 rfl (lv_at hl 2 rfl) ?_
  refine lv_iload_n hx hb dX4_attempt_17 rfl (lv_at hl 3 rfl) ?_
  refine lv_iload hx hb dX4_attempt_18 (lv_at hl 4 rfl) ?_
  refine m_callVi hx hb hml hown hts hK hH hl (rest := []) cw_X4_96 (c4_perf2a hA j n a g sz w r p (by first | assumption | omega) (by first | assumption | omega) (by first | assumption | omega) (by first | assumption | omega) e0 e1 e2) ⟨Nat.le_of_ble_eq_true rfl, Nat.le_of_ble_eq_true rfl⟩ ⟨Nat.le_of_ble_eq_true rfl, Nat.le_of_ble_eq_true rfl⟩ rfl (k := j) (by omega) e0 rfl rfl (Nat.le_of_ble_eq_true rfl) dX4_attempt_20 (fun r_5 σ_2 H locs hp_3 hH => ?_)
  obtain ⟨rfl, e1, e2, hq_4⟩ := hp_3
  have e0 : σ_2 (j) = .inr (4, [.ref (ad (j + 1)), .ref (ad (j + 2)), .int (oI (((n : Nat) : Int))), .int (oI (((a : Nat) : Int))), .int (oI (((g : Nat) : Int)))]) := (hq_4 _ (by omega) (by omega)).trans e0
  have hf : ∀ q : Nat, q ≠ (j + 1) → q ≠ (j + 2) → σ_2 q = σ q := fun q n0 n1 => (hq_4 q n0 n1).trans (hf q n0 n1)
  refine lv_pop hx hb dX4_attempt_23 rfl ?_
  refine m_iconst 1 hx hb dX4_attempt_24 rfl ?_
  exact m_iret hx hb hlk hrt hH m_z1 dX4_attempt_25 ⟨rfl, e1, e2, hf⟩
set_option maxHeartbeats 4000000 in
set_option maxRecDepth 100000 in
theorem c4_perf2b {l : Launch} {D : va_G} {cT : Nat → ClassId} {N b0 : Nat} {ad : Nat → Nat} (hA : oAd b0 N ad) {σ : Nat → va_E} (j n a g : Nat) (sz w : Nat → Nat) (r p : Nat) (hj : j + 2 < N) (hwf : oWf n sz w) (hr : r < n) (hp0 : p ≠ 0) (hp : p ≤ sz r) (hps : p ≠ sz r) (e0 : σ (j) = .inr (4, [.ref (ad (j + 1)), .ref (ad (j + 2)), .int (oI (((n : Nat) : Int))), .int (oI (((a : Nat) : Int))), .int (oI (((g : Nat) : Int)))])) (e1 : σ (j + 1) = oAN cT 4 sz) (e2 : σ (j + 2) = oAJ cT 4 w) :
    oCi l D cT N ad b0 yX4_perform cX4_perform 5 (some .int) 3 68 [.ref (ad (j)), .int (oI (2)), .int (oI (((r : Nat) : Int))), .int (oI (((p : Nat) : Int))), .int (oI (0))] σ (fun rr uu => rr = oI (((pcnt (oSet0 (w r) p) : Nat) : Int)) ∧ uu (j + 1) = oAN cT 4 sz ∧ uu (j + 2) = oAJ cT 4 (va_up w r (oSet0 (w r) p)) ∧ (∀ q : Nat, q ≠ (j + 1) → q ≠ (j + 2) → uu q = σ q)) := by
  refine m_start (cc := cX4_perform) (by decide) (Nat.le_of_ble_eq_true rfl) rfl ?_
  intro Pp Ee Ss Mm Bb Me Cc Ar ls hx hb hml hown hlk hrt hts hK hH hl
  have hown : Ss.vm.findClass RX4 = some Mm.cls := hown
  have hn := hwf.1
  have hsz := oSize_le hwf
  have hw64 := oRow_64 hwf
  have hw41 := oRow_lt hwf
  have hs40 := (hwf.2 r hr).2.1
  have eS : oSize n sz ((r : Nat) : Int) = sz r := oSize_in ⟨by omega, by omega⟩
  have eR : oRow n w ((r : Nat) : Int) = w r := oRow_in ⟨by omega, by omega⟩
  have hl : lv_has ls 5 [(0, .ref (ad (j))), (1, .int (oI (2))), (2, .int (oI (((r : Nat) : Int)))), (3, .int (oI (((p : Nat) : Int)))), (4, .int (oI (0)))] := hl
  have hf : ∀ q : Nat, q ≠ (j + 1) → q ≠ (j + 2) → σ q = σ q := fun q _ _ => rfl
  refine lv_iload_n hx hb dX4_perform_0 rfl (lv_at hl 1 rfl) ?_
  refine m_tabIn 38 hx hb dX4_perform_1 (by omega) (by omega) (by first | rfl | (rw [show (2 : Int) = 2 by omega]; rfl)) (by decide) ?_
  refine lv_aload_n hx hb dX4_perform_38 rfl (lv_at hl 0 rfl) ?_
  refine lv_iload_n hx hb dX4_perform_39 rfl (lv_at hl 2 rfl) ?_
  refine lv_iload_n hx hb dX4_perform_40 rfl (lv_at hl 3 rfl) ?_
  refine lv_iload hx hb dX4_perform_41 (lv_at hl 4 rfl) ?_
  refine m_callVi hx hb hml hown hts hK hH hl (rest := []) cw_X4_102 (c4_putMark0 hA j n a g sz w r p (by first | assumption | omega) (by first | assumption | omega) (by first | assumption | omega) (by first | assumption | omega) (by first | assumption | omega) (by first | assumption | omega) e0 e1 e2) ⟨Nat.le_of_ble_eq_true rfl, Nat.le_of_ble_eq_true rfl⟩ ⟨Nat.le_of_ble_eq_true rfl, Nat.le_of_ble_eq_true rfl⟩ rfl (k := j) (by omega) e0 rfl rfl (Nat.le_of_ble_eq_true rfl) dX4_perform_43 (fun r_5 σ_2 H locs hp_3 hH => ?_)
  obtain ⟨rfl, e1, e2, hq_4⟩ := hp_3
  have e0 : σ_2 (j) = .inr (4, [.ref (ad (j + 1)), .ref (ad (j + 2)), .int (oI (((n : Nat) : Int))), .int (oI (((a : Nat) : Int))), .int (oI (((g : Nat) : Int)))]) := (hq_4 _ (by omega) (by omega)).trans e0
  have hf : ∀ q : Nat, q ≠ (j + 1) → q ≠ (j + 2) → σ_2 q = σ q := fun q n0 n1 => (hq_4 q n0 n1).trans (hf q n0 n1)
  exact m_iret hx hb hlk hrt hH (m_ni _) dX4_perform_46 ⟨rfl, e1, e2, hf⟩
set_option maxHeartbeats 4000000 in
set_option maxRecDepth 100000 in
theorem c4_att2b {l : Launch} {D : va_G} {cT : Nat → ClassId} {N b0 : Nat} {ad : Nat → Nat} (hA : oAd b0 N ad) {σ : Nat → va_E} (j n a g : Nat) (sz w : Nat → Nat) (r p : Nat) (hj : j + 2 < N) (hwf : oWf n sz w) (hr : r < n) (hp0 : p ≠ 0) (hp : p ≤ sz r) (hps : p ≠ sz r) (e0 : σ (j) = .inr (4, [.ref (ad (j + 1)), .ref (ad (j + 2)), .int (oI (((n : Nat) : Int))), .int (oI (((a : Nat) : Int))), .int (oI (((g : Nat) : Int)))])) (e1 : σ (j + 1) = oAN cT 4 sz) (e2 : σ (j + 2) = oAJ cT 4 w) :
    oCi l D cT N ad b0 yX4_attempt cX4_attempt 5 (some .boolean) 4 92 [.ref (ad (j)), .int (oI (2)), .int (oI (((r : Nat) : Int))), .int (oI (((p : Nat) : Int))), .int (oI (0))] σ (fun rr uu => rr = oI (1) ∧ uu (j + 1) = oAN cT 4 sz ∧ uu (j + 2) = oAJ cT 4 (va_up w r (oSet0 (w r) p)) ∧ (∀ q : Nat, q ≠ (j + 1) → q ≠ (j + 2) → uu q = σ q)) := by
  refine m_start (cc := cX4_attempt) (by decide) (Nat.le_of_ble_eq_true rfl) rfl ?_
  intro Pp Ee Ss Mm Bb Me Cc Ar ls hx hb hml hown hlk hrt hts hK hH hl
  have hown : Ss.vm.findClass RX4 = some Mm.cls := hown
  have hn := hwf.1
  have hsz := oSize_le hwf
  have hw64 := oRow_64 hwf
  have hw41 := oRow_lt hwf
  have hs40 := (hwf.2 r hr).2.1
  have eS : oSize n sz ((r : Nat) : Int) = sz r := oSize_in ⟨by omega, by omega⟩
  have eR : oRow n w ((r : Nat) : Int) = w r := oRow_in ⟨by omega, by omega⟩
  have hok : oRef2 n sz ((r : Nat) : Int) ((p : Nat) : Int) 0 = 0 := oRef2_0.mpr ⟨⟨⟨by omega, by omega⟩, by omega, by rw [eS]; omega⟩, by rw [eS]; omega⟩
  have hrb := oRef2_b n sz ((r : Nat) : Int) ((p : Nat) : Int) 0
  have hl : lv_has ls 5 [(0, .ref (ad (j))), (1, .int (oI (2))), (2, .int (oI (((r : Nat) : Int)))), (3, .int (oI (((p : Nat) : Int)))), (4, .int (oI (0)))] := hl
  have hf : ∀ q : Nat, q ≠ (j + 1) → q ≠ (j + 2) → σ q = σ q := fun q _ _ => rfl
  refine lv_aload_n hx hb dX4_attempt_0 rfl (lv_at hl 0 rfl) ?_
  refine lv_iload_n hx hb dX4_attempt_1 rfl (lv_at hl 1 rfl) ?_
  refine lv_iload_n hx hb dX4_attempt_2 rfl (lv_at hl 2 rfl) ?_
  refine lv_iload_n hx hb dX4_attempt_3 rfl (lv_at hl 3 rfl) ?_
  refine lv_iload hx hb dX4_attempt_4 (lv_at hl 4 rfl) ?_
  refine m_pVi hx hb hml hown hts hK hH hl (rest := []) cw_X4_92 (c4_ref2 hA j n a g sz w ((r : Nat) : Int) ((p : Nat) : Int) 0 (by first | assumption | omega) (by first | assumption | omega) (by first | assumption | omega) (by first | assumption | omega) (by first | assumption | omega) e0 e1 e2) ⟨Nat.le_of_ble_eq_true rfl, Nat.le_of_ble_eq_true rfl⟩ ⟨Nat.le_of_ble_eq_true rfl, Nat.le_of_ble_eq_true rfl⟩ rfl (k := j) (by omega) e0 rfl rfl (Nat.le_of_ble_eq_true rfl) dX4_attempt_6 (fun H locs hH => ?_)
  refine m_if_eq 14 hx hb dX4_attempt_9 (by decide) (by omega) (fun h_1 => ?_) (fun h_1 => absurd h_1 (fun z => z hok))
  refine lv_aload_n hx hb dX4_attempt_14 rfl (lv_at hl 0 rfl) ?_
  refine lv_iload_n hx hb dX4_attempt_15 rfl (lv_at hl 1 rfl) ?_
  refine lv_iload_n hx hb dX4_attempt_16 rfl (lv_at hl 2 rfl) ?_
  refine lv_iload_n hx hb dX4_attempt_17 rfl (lv_at hl 3 rfl) ?_
  refine lv_iload hx hb dX4_attempt_18 (lv_at hl 4 rfl) ?_
  refine m_callVi hx hb hml hown hts hK hH hl (rest := []) cw_X4_96 (c4_perf2b hA j n a g sz w r p (by first | assumption | omega) (by first | assumption | omega) (by first | assumption | omega) (by first | assumption | omega) (by first | assumption | omega) (by first | assumption | omega) e0 e1 e2) ⟨Nat.le_of_ble_eq_true rfl, Nat.le_of_ble_eq_true rfl⟩ ⟨Nat.le_of_ble_eq_true rfl, Nat.le_of_ble_eq_true rfl⟩ rfl (k := j) (by omega) e0 rfl rfl (Nat.le_of_ble_eq_true rfl) dX4_attempt_20 (fun r_5 σ_2 H locs hp_3 hH => ?_)
  obtain ⟨rfl, e1, e2, hq_4⟩ := hp_3
  have e0 : σ_2 (j) = .inr (4, [.ref (ad (j + 1)), .ref (ad (j + 2)), .int (oI (((n : Nat) : Int))), .int (oI (((a : Nat) : Int))), .int (oI (((g : Nat) : Int)))]) := (hq_4 _ (by omega) (by omega)).trans e0
  have hf : ∀ q : Nat, q ≠ (j + 1) → q ≠ (j + 2) → σ_2 q = σ q := fun q n0 n1 => (hq_4 q n0 n1).trans (hf q n0 n1)
  refine lv_pop hx hb dX4_attempt_23 rfl ?_
  refine m_iconst 1 hx hb dX4_attempt_24 rfl ?_
  exact m_iret hx hb hlk hrt hH m_z1 dX4_attempt_25 ⟨rfl, e1, e2, hf⟩
set_option maxHeartbeats 4000000 in
set_option maxRecDepth 100000 in
theorem c4_perf3 {l : Launch} {D : va_G} {cT : Nat → ClassId} {N b0 : Nat} {ad : Nat → Nat} (hA : oAd b0 N ad) {σ : Nat → va_E} (j n a g : Nat) (sz w : Nat → Nat) (r x : Nat) (on : Int) (hj : j + 2 < N) (hwf : oWf n sz w) (hr : r < n) (hx2 : 2 ≤ x ∧ x ≤ sz r) (hbon : -2147483648 ≤ on ∧ on < 2147483648) (e0 : σ (j) = .inr (4, [.ref (ad (j + 1)), .ref (ad (j + 2)), .int (oI (((n : Nat) : Int))), .int (oI (((a : Nat) : Int))), .int (oI (((g : Nat) : Int)))])) (e1 : σ (j + 1) = oAN cT 4 sz) (e2 : σ (j + 2) = oAJ cT 4 w) :
    oCi l D cT N ad b0 yX4_perform cX4_perform 5 (some .int) 3 68 [.ref (ad (j)), .int (oI (3)), .int (oI (((r : Nat) : Int))), .int (oI (((x : Nat) : Int))), .int (oI (on))] σ (fun rr uu => rr = oI (((pcnt (oCutW (w r) x) : Nat) : Int)) ∧ uu (j + 1) = oAN cT 4 (va_up sz r x) ∧ uu (j + 2) = oAJ cT 4 (va_up w r (oCutW (w r) x)) ∧ (∀ q : Nat, q ≠ (j + 1) → q ≠ (j + 2) → uu q = σ q)) := by
  refine m_start (cc := cX4_perform) (by decide) (Nat.le_of_ble_eq_true rfl) rfl ?_
  intro Pp Ee Ss Mm Bb Me Cc Ar ls hx hb hml hown hlk hrt hts hK hH hl
  have hown : Ss.vm.findClass RX4 = some Mm.cls := hown
  have hn := hwf.1
  have hsz := oSize_le hwf
  have hw64 := oRow_64 hwf
  have hw41 := oRow_lt hwf
  have hs40 := (hwf.2 r hr).2.1
  have eS : oSize n sz ((r : Nat) : Int) = sz r := oSize_in ⟨by omega, by omega⟩
  have eR : oRow n w ((r : Nat) : Int) = w r := oRow_in ⟨by omega, by omega⟩
  have hl : lv_has ls 5 [(0, .ref (ad (j))), (1, .int (oI (3))), (2, .int (oI (((r : Nat) : Int)))), (3, .int (oI (((x : Nat) : Int)))), (4, .int (oI (on)))] := hl
  have hf : ∀ q : Nat, q ≠ (j + 1) → q ≠ (j + 2) → σ q = σ q := fun q _ _ => rfl
  refine lv_iload_n hx hb dX4_perform_0 rfl (lv_at hl 1 rfl) ?_
  refine m_tabIn 47 hx hb dX4_perform_1 (by omega) (by omega) (by first | rfl | (rw [show (3 : Int) = 3 by omega]; rfl)) (by decide) ?_
  refine lv_aload_n hx hb dX4_perform_47 rfl (lv_at hl 0 rfl) ?_
  refine lv_iload_n hx hb dX4_perform_48 rfl (lv_at hl 2 rfl) ?_
  refine lv_iload_n hx hb dX4_perform_49 rfl (lv_at hl 3 rfl) ?_
  refine m_callVi hx hb hml hown hts hK hH hl (rest := []) cw_X4_106 (c4_shorten hA j n a g sz w r x (by first | assumption | omega) (by first | assumption | omega) (by first | assumption | omega) (by first | assumption | omega) e0 e1 e2) ⟨Nat.le_of_ble_eq_true rfl, Nat.le_of_ble_eq_true rfl⟩ ⟨Nat.le_of_ble_eq_true rfl, Nat.le_of_ble_eq_true rfl⟩ rfl (k := j) (by omega) e0 rfl rfl (Nat.le_of_ble_eq_true rfl) dX4_perform_50 (fun r_5 σ_2 H locs hp_3 hH => ?_)
  obtain ⟨rfl, e1, e2, hq_4⟩ := hp_3
  have e0 : σ_2 (j) = .inr (4, [.ref (ad (j + 1)), .ref (ad (j + 2)), .int (oI (((n : Nat) : Int))), .int (oI (((a : Nat) : Int))), .int (oI (((g : Nat) : Int)))]) := (hq_4 _ (by omega) (by omega)).trans e0
  have hf : ∀ q : Nat, q ≠ (j + 1) → q ≠ (j + 2) → σ_2 q = σ q := fun q n0 n1 => (hq_4 q n0 n1).trans (hf q n0 n1)
  exact m_iret hx hb hlk hrt hH (m_ni _) dX4_perform_53 ⟨rfl, e1, e2, hf⟩
set_option maxHeartbeats 4000000 in
set_option maxRecDepth 100000 in
theorem c4_att3 {l : Launch} {D : va_G} {cT : Nat → ClassId} {N b0 : Nat} {ad : Nat → Nat} (hA : oAd b0 N ad) {σ : Nat → va_E} (j n a g : Nat) (sz w : Nat → Nat) (r x : Nat) (on : Int) (hj : j + 2 < N) (hwf : oWf n sz w) (hr : r < n) (hx2 : 2 ≤ x ∧ x ≤ sz r) (hbon : -2147483648 ≤ on ∧ on < 2147483648) (e0 : σ (j) = .inr (4, [.ref (ad (j + 1)), .ref (ad (j + 2)), .int (oI (((n : Nat) : Int))), .int (oI (((a : Nat) : Int))), .int (oI (((g : Nat) : Int)))])) (e1 : σ (j + 1) = oAN cT 4 sz) (e2 : σ (j + 2) = oAJ cT 4 w) :
    oCi l D cT N ad b0 yX4_attempt cX4_attempt 5 (some .boolean) 4 92 [.ref (ad (j)), .int (oI (3)), .int (oI (((r : Nat) : Int))), .int (oI (((x : Nat) : Int))), .int (oI (on))] σ (fun rr uu => rr = oI (1) ∧ uu (j + 1) = oAN cT 4 (va_up sz r x) ∧ uu (j + 2) = oAJ cT 4 (va_up w r (oCutW (w r) x)) ∧ (∀ q : Nat, q ≠ (j + 1) → q ≠ (j + 2) → uu q = σ q)) := by
  refine m_start (cc := cX4_attempt) (by decide) (Nat.le_of_ble_eq_true rfl) rfl ?_
  intro Pp Ee Ss Mm Bb Me Cc Ar ls hx hb hml hown hlk hrt hts hK hH hl
  have hown : Ss.vm.findClass RX4 = some Mm.cls := hown
  have hn := hwf.1
  have hsz := oSize_le hwf
  have hw64 := oRow_64 hwf
  have hw41 := oRow_lt hwf
  have hs40 := (hwf.2 r hr).2.1
  have eS : oSize n sz ((r : Nat) : Int) = sz r := oSize_in ⟨by omega, by omega⟩
  have eR : oRow n w ((r : Nat) : Int) = w r := oRow_in ⟨by omega, by omega⟩
  have hok : oRef3 n sz ((r : Nat) : Int) ((x : Nat) : Int) = 0 := oRef3_0.mpr ⟨⟨by omega, by omega⟩, by omega, by rw [eS]; omega⟩
  have hrb := oRef3_b n sz ((r : Nat) : Int) ((x : Nat) : Int)
  have hl : lv_has ls 5 [(0, .ref (ad (j))), (1, .int (oI (3))), (2, .int (oI (((r : Nat) : Int)))), (3, .int (oI (((x : Nat) : Int)))), (4, .int (oI (on)))] := hl
  have hf : ∀ q : Nat, q ≠ (j + 1) → q ≠ (j + 2) → σ q = σ q := fun q _ _ => rfl
  refine lv_aload_n hx hb dX4_attempt_0 rfl (lv_at hl 0 rfl) ?_
  refine lv_iload_n hx hb dX4_attempt_1 rfl (lv_at hl 1 rfl) ?_
  refine lv_iload_n hx hb dX4_attempt_2 rfl (lv_at hl 2 rfl) ?_
  refine lv_iload_n hx hb dX4_attempt_3 rfl (lv_at hl 3 rfl) ?_
  refine lv_iload hx hb dX4_attempt_4 (lv_at hl 4 rfl) ?_
  refine m_pVi hx hb hml hown hts hK hH hl (rest := []) cw_X4_92 (c4_ref3 hA j n a g sz w ((r : Nat) : Int) ((x : Nat) : Int) on (by first | assumption | omega) (by first | assumption | omega) (by first | assumption | omega) (by first | assumption | omega) (by first | assumption | omega) e0 e1 e2) ⟨Nat.le_of_ble_eq_true rfl, Nat.le_of_ble_eq_true rfl⟩ ⟨Nat.le_of_ble_eq_true rfl, Nat.le_of_ble_eq_true rfl⟩ rfl (k := j) (by omega) e0 rfl rfl (Nat.le_of_ble_eq_true rfl) dX4_attempt_6 (fun H locs hH => ?_)
  refine m_if_eq 14 hx hb dX4_attempt_9 (by decide) (by omega) (fun h_1 => ?_) (fun h_1 => absurd h_1 (fun z => z hok))
  refine lv_aload_n hx hb dX4_attempt_14 rfl (lv_at hl 0 rfl) ?_
  refine lv_iload_n hx hb dX4_attempt_15 rfl (lv_at hl 1 rfl) ?_
  refine lv_iload_n hx hb dX4_attempt_16 rfl (lv_at hl 2 rfl) ?_
  refine lv_iload_n hx hb dX4_attempt_17 rfl (lv_at hl 3 rfl) ?_
  refine lv_iload hx hb dX4_attempt_18 (lv_at hl 4 rfl) ?_
  refine m_callVi hx hb hml hown hts hK hH hl (rest := []) cw_X4_96 (c4_perf3 hA j n a g sz w r x on (by first | assumption | omega) (by first | assumption | omega) (by first | assumption | omega) (by first | assumption | omega) (by first | assumption | omega) e0 e1 e2) ⟨Nat.le_of_ble_eq_true rfl, Nat.le_of_ble_eq_true rfl⟩ ⟨Nat.le_of_ble_eq_true rfl, Nat.le_of_ble_eq_true rfl⟩ rfl (k := j) (by omega) e0 rfl rfl (Nat.le_of_ble_eq_true rfl) dX4_attempt_20 (fun r_5 σ_2 H locs hp_3 hH => ?_)
  obtain ⟨rfl, e1, e2, hq_4⟩ := hp_3
  have e0 : σ_2 (j) = .inr (4, [.ref (ad (j + 1)), .ref (ad (j + 2)), .int (oI (((n : Nat) : Int))), .int (oI (((a : Nat) : Int))), .int (oI (((g : Nat) : Int)))]) := (hq_4 _ (by omega) (by omega)).trans e0
  have hf : ∀ q : Nat, q ≠ (j + 1) → q ≠ (j + 2) → σ_2 q = σ q := fun q n0 n1 => (hq_4 q n0 n1).trans (hf q n0 n1)
  refine lv_pop hx hb dX4_attempt_23 rfl ?_
  refine m_iconst 1 hx hb dX4_attempt_24 rfl ?_
  exact m_iret hx hb hlk hrt hH m_z1 dX4_attempt_25 ⟨rfl, e1, e2, hf⟩
set_option maxHeartbeats 4000000 in
set_option maxRecDepth 100000 in
theorem c4_perf4 {l : Launch} {D : va_G} {cT : Nat → ClassId} {N b0 : Nat} {ad : Nat → Nat} (hA : oAd b0 N ad) {σ : Nat → va_E} (j n a g : Nat) (sz w : Nat → Nat) (r : Nat) (p on : Int) (hj : j + 2 < N) (hwf : oWf n sz w) (hr : r < n) (hbp : -2147483648 ≤ p ∧ p < 2147483648) (hbon : -2147483648 ≤ on ∧ on < 2147483648) (e0 : σ (j) = .inr (4, [.ref (ad (j + 1)), .ref (ad (j + 2)), .int (oI (((n : Nat) : Int))), .int (oI (((a : Nat) : Int))), .int (oI (((g : Nat) : Int)))])) (e1 : σ (j + 1) = oAN cT 4 sz) (e2 : σ (j + 2) = oAJ cT 4 w) :
    oCi l D cT N ad b0 yX4_perform cX4_perform 5 (some .int) 3 68 [.ref (ad (j)), .int (oI (4)), .int (oI (((r : Nat) : Int))), .int (oI (p)), .int (oI (on))] σ (fun rr uu => rr = oI ((oTurnR (oRev (w r) (sz r)) (sz r))) ∧ uu (j + 1) = oAN cT 4 sz ∧ uu (j + 2) = oAJ cT 4 (va_up w r (oRev (w r) (sz r))) ∧ (∀ q : Nat, q ≠ (j + 1) → q ≠ (j + 2) → uu q = σ q)) := by
  refine m_start (cc := cX4_perform) (by decide) (Nat.le_of_ble_eq_true rfl) rfl ?_
  intro Pp Ee Ss Mm Bb Me Cc Ar ls hx hb hml hown hlk hrt hts hK hH hl
  have hown : Ss.vm.findClass RX4 = some Mm.cls := hown
  have hn := hwf.1
  have hsz := oSize_le hwf
  have hw64 := oRow_64 hwf
  have hw41 := oRow_lt hwf
  have hs40 := (hwf.2 r hr).2.1
  have eS : oSize n sz ((r : Nat) : Int) = sz r := oSize_in ⟨by omega, by omega⟩
  have eR : oRow n w ((r : Nat) : Int) = w r := oRow_in ⟨by omega, by omega⟩
  have hl : lv_has ls 5 [(0, .ref (ad (j))), (1, .int (oI (4))), (2, .int (oI (((r : Nat) : Int)))), (3, .int (oI (p))), (4, .int (oI (on)))] := hl
  have hf : ∀ q : Nat, q ≠ (j + 1) → q ≠ (j + 2) → σ q = σ q := fun q _ _ => rfl
  refine lv_iload_n hx hb dX4_perform_0 rfl (lv_at hl 1 rfl) ?_
  refine m_tabIn 54 hx hb dX4_perform_1 (by omega) (by omega) (by first | rfl | (rw [show (4 : Int) = 4 by omega]; rfl)) (by decide) ?_
  refine lv_aload_n hx hb dX4_perform_54 rfl (lv_at hl 0 rfl) ?_
  refine lv_iload_n hx hb dX4_perform_55 rfl (lv_at hl 2 rfl) ?_
  refine m_callVi hx hb hml hown hts hK hH hl (rest := []) cw_X4_110 (c4_reverse hA j n a g sz w r (by first | assumption | omega) (by first | assumption | omega) (by first | assumption | omega) e0 e1 e2) ⟨Nat.le_of_ble_eq_true rfl, Nat.le_of_ble_eq_true rfl⟩ ⟨Nat.le_of_ble_eq_true rfl, Nat.le_of_ble_eq_true rfl⟩ rfl (k := j) (by omega) e0 rfl rfl (Nat.le_of_ble_eq_true rfl) dX4_perform_56 (fun r_5 σ_2 H locs hp_3 hH => ?_)
  obtain ⟨rfl, e1, e2, hq_4⟩ := hp_3
  have e0 : σ_2 (j) = .inr (4, [.ref (ad (j + 1)), .ref (ad (j + 2)), .int (oI (((n : Nat) : Int))), .int (oI (((a : Nat) : Int))), .int (oI (((g : Nat) : Int)))]) := (hq_4 _ (by omega) (by omega)).trans e0
  have hf : ∀ q : Nat, q ≠ (j + 1) → q ≠ (j + 2) → σ_2 q = σ q := fun q n0 n1 => (hq_4 q n0 n1).trans (hf q n0 n1)
  exact m_iret hx hb hlk hrt hH (m_ni _) dX4_perform_59 ⟨rfl, e1, e2, hf⟩
set_option maxHeartbeats 4000000 in
set_option maxRecDepth 100000 in
theorem c4_att4 {l : Launch} {D : va_G} {cT : Nat → ClassId} {N b0 : Nat} {ad : Nat → Nat} (hA : oAd b0 N ad) {σ : Nat → va_E} (j n a g : Nat) (sz w : Nat → Nat) (r : Nat) (p on : Int) (hj : j + 2 < N) (hwf : oWf n sz w) (hr : r < n) (hbp : -2147483648 ≤ p ∧ p < 2147483648) (hbon : -2147483648 ≤ on ∧ on < 2147483648) (e0 : σ (j) = .inr (4, [.ref (ad (j + 1)), .ref (ad (j + 2)), .int (oI (((n : Nat) : Int))), .int (oI (((a : Nat) : Int))), .int (oI (((g : Nat) : Int)))])) (e1 : σ (j + 1) = oAN cT 4 sz) (e2 : σ (j + 2) = oAJ cT 4 w) :
    oCi l D cT N ad b0 yX4_attempt cX4_attempt 5 (some .boolean) 4 92 [.ref (ad (j)), .int (oI (4)), .int (oI (((r : Nat) : Int))), .int (oI (p)), .int (oI (on))] σ (fun rr uu => rr = oI (1) ∧ uu (j + 1) = oAN cT 4 sz ∧ uu (j + 2) = oAJ cT 4 (va_up w r (oRev (w r) (sz r))) ∧ (∀ q : Nat, q ≠ (j + 1) → q ≠ (j + 2) → uu q = σ q)) := by
  refine m_start (cc := cX4_attempt) (by decide) (Nat.le_of_ble_eq_true rfl) rfl ?_
  intro Pp Ee Ss Mm Bb Me Cc Ar ls hx hb hml hown hlk hrt hts hK hH hl
  have hown : Ss.vm.findClass RX4 = some Mm.cls := hown
  have hn := hwf.1
  have hsz := oSize_le hwf
  have hw64 := oRow_64 hwf
  have hw41 := oRow_lt hwf
  have hs40 := (hwf.2 r hr).2.1
  have eS : oSize n sz ((r : Nat) : Int) = sz r := oSize_in ⟨by omega, by omega⟩
  have eR : oRow n w ((r : Nat) : Int) = w r := oRow_in ⟨by omega, by omega⟩
  have hok : oRef4 n ((r : Nat) : Int) = 0 := oRef4_0.mpr ⟨by omega, by omega⟩
  have hrb := oRef4_b n ((r : Nat) : Int)
  have hl : lv_has ls 5 [(0, .ref (ad (j))), (1, .int (oI (4))), (2, .int (oI (((r : Nat) : Int)))), (3, .int (oI (p))), (4, .int (oI (on)))] := hl
  have hf : ∀ q : Nat, q ≠ (j + 1) → q ≠ (j + 2) → σ q = σ q := fun q _ _ => rfl
  refine lv_aload_n hx hb dX4_attempt_0 rfl (lv_at hl 0 rfl) ?_
  refine lv_iload_n hx hb dX4_attempt_1 rfl (lv_at hl 1 rfl) ?_
  refine lv_iload_n hx hb dX4_attempt_2 rfl (lv_at hl 2 rfl) ?_
  refine lv_iload_n hx hb dX4_attempt_3 rfl (lv_at hl 3 rfl) ?_
  refine lv_iload hx hb dX4_attempt_4 (lv_at hl 4 rfl) ?_
  refine m_pVi hx hb hml hown hts hK hH hl (rest := []) cw_X4_92 (c4_ref4 hA j n a g sz w ((r : Nat) : Int) p on (by first | assumption | omega) (by first | assumption | omega) (by first | assumption | omega) (by first | assumption | omega) (by first | assumption | omega) e0 e1 e2) ⟨Nat.le_of_ble_eq_true rfl, Nat.le_of_ble_eq_true rfl⟩ ⟨Nat.le_of_ble_eq_true rfl, Nat.le_of_ble_eq_true rfl⟩ rfl (k := j) (by omega) e0 rfl rfl (Nat.le_of_ble_eq_true rfl) dX4_attempt_6 (fun H locs hH => ?_)
  refine m_if_eq 14 hx hb dX4_attempt_9 (by decide) (by omega) (fun h_1 => ?_) (fun h_1 => absurd h_1 (fun z => z hok))
  refine lv_aload_n hx hb dX4_attempt_14 rfl (lv_at hl 0 rfl) ?_
  refine lv_iload_n hx hb dX4_attempt_15 rfl (lv_at hl 1 rfl) ?_
  refine lv_iload_n hx hb dX4_attempt_16 rfl (lv_at hl 2 rfl) ?_
  refine lv_iload_n hx hb dX4_attempt_17 rfl (lv_at hl 3 rfl) ?_
  refine lv_iload hx hb dX4_attempt_18 (lv_at hl 4 rfl) ?_
  refine m_callVi hx hb hml hown hts hK hH hl (rest := []) cw_X4_96 (c4_perf4 hA j n a g sz w r p on (by first | assumption | omega) (by first | assumption | omega) (by first | assumption | omega) (by first | assumption | omega) (by first | assumption | omega) e0 e1 e2) ⟨Nat.le_of_ble_eq_true rfl, Nat.le_of_ble_eq_true rfl⟩ ⟨Nat.le_of_ble_eq_true rfl, Nat.le_of_ble_eq_true rfl⟩ rfl (k := j) (by omega) e0 rfl rfl (Nat.le_of_ble_eq_true rfl) dX4_attempt_20 (fun r_5 σ_2 H locs hp_3 hH => ?_)
  obtain ⟨rfl, e1, e2, hq_4⟩ := hp_3
  have e0 : σ_2 (j) = .inr (4, [.ref (ad (j + 1)), .ref (ad (j + 2)), .int (oI (((n : Nat) : Int))), .int (oI (((a : Nat) : Int))), .int (oI (((g : Nat) : Int)))]) := (hq_4 _ (by omega) (by omega)).trans e0
  have hf : ∀ q : Nat, q ≠ (j + 1) → q ≠ (j + 2) → σ_2 q = σ q := fun q n0 n1 => (hq_4 q n0 n1).trans (hf q n0 n1)
  refine lv_pop hx hb dX4_attempt_23 rfl ?_
  refine m_iconst 1 hx hb dX4_attempt_24 rfl ?_
  exact m_iret hx hb hlk hrt hH m_z1 dX4_attempt_25 ⟨rfl, e1, e2, hf⟩
set_option maxHeartbeats 4000000 in
set_option maxRecDepth 100000 in
theorem c4_perf5a {l : Launch} {D : va_G} {cT : Nat → ClassId} {N b0 : Nat} {ad : Nat → Nat} (hA : oAd b0 N ad) {σ : Nat → va_E} (j n a g : Nat) (sz w : Nat → Nat) (v : Nat) (on : Int) (hj : j + 2 < N) (hwf : oWf n sz w) (hv : 1 ≤ v ∧ v ≤ 6) (hbon : -2147483648 ≤ on ∧ on < 2147483648) (e0 : σ (j) = .inr (4, [.ref (ad (j + 1)), .ref (ad (j + 2)), .int (oI (((n : Nat) : Int))), .int (oI (((a : Nat) : Int))), .int (oI (((g : Nat) : Int)))])) (e1 : σ (j + 1) = oAN cT 4 sz) (e2 : σ (j + 2) = oAJ cT 4 w) :
    oCi l D cT N ad b0 yX4_perform cX4_perform 5 (some .int) 3 68 [.ref (ad (j)), .int (oI (5)), .int (oI (0)), .int (oI (((v : Nat) : Int))), .int (oI (on))] σ (fun rr uu => rr = oI (((a : Nat) : Int)) ∧ uu (j) = .inr (4, [.ref (ad (j + 1)), .ref (ad (j + 2)), .int (oI (((n : Nat) : Int))), .int (oI (((v : Nat) : Int))), .int (oI (((g : Nat) : Int)))]) ∧ (∀ q : Nat, q ≠ j → uu q = σ q)) := by
  refine m_start (cc := cX4_perform) (by decide) (Nat.le_of_ble_eq_true rfl) rfl ?_
  intro Pp Ee Ss Mm Bb Me Cc Ar ls hx hb hml hown hlk hrt hts hK hH hl
  have hown : Ss.vm.findClass RX4 = some Mm.cls := hown
  have hn := hwf.1
  have hsz := oSize_le hwf
  have hw64 := oRow_64 hwf
  have hw41 := oRow_lt hwf
  have hl : lv_has ls 5 [(0, .ref (ad (j))), (1, .int (oI (5))), (2, .int (oI (0))), (3, .int (oI (((v : Nat) : Int)))), (4, .int (oI (on)))] := hl
  have hf : ∀ q : Nat, q ≠ j → σ q = σ q := fun q _ => rfl
  refine lv_iload_n hx hb dX4_perform_0 rfl (lv_at hl 1 rfl) ?_
  refine m_tabOut 60 hx hb dX4_perform_1 (by omega) (by omega) (by decide) ?_
  refine lv_aload_n hx hb dX4_perform_60 rfl (lv_at hl 0 rfl) ?_
  refine lv_iload_n hx hb dX4_perform_61 rfl (lv_at hl 2 rfl) ?_
  refine lv_iload_n hx hb dX4_perform_62 rfl (lv_at hl 3 rfl) ?_
  refine m_callVi hx hb hml hown hts hK hH hl (rest := []) cw_X4_113 (c4_adjust0 hA j n a g sz w v (by first | assumption | omega) (by first | assumption | omega) (by first | assumption | omega) e0 e1 e2) ⟨Nat.le_of_ble_eq_true rfl, Nat.le_of_ble_eq_true rfl⟩ ⟨Nat.le_of_ble_eq_true rfl, Nat.le_of_ble_eq_true rfl⟩ rfl (k := j) (by omega) e0 rfl rfl (Nat.le_of_ble_eq_true rfl) dX4_perform_63 (fun r_5 σ_2 H locs hp_3 hH => ?_)
  obtain ⟨rfl, e0, hq_4⟩ := hp_3
  have e1 : σ_2 (j + 1) = oAN cT 4 sz := (hq_4 _ (by omega)).trans e1
  have e2 : σ_2 (j + 2) = oAJ cT 4 w := (hq_4 _ (by omega)).trans e2
  have hf : ∀ q : Nat, q ≠ j → σ_2 q = σ q := fun q n0 => (hq_4 q n0).trans (hf q n0)
  exact m_iret hx hb hlk hrt hH (m_ni _) dX4_perform_66 ⟨rfl, e0, hf⟩
set_option maxHeartbeats 4000000 in
set_option maxRecDepth 100000 in
theorem c4_att5a {l : Launch} {D : va_G} {cT : Nat → ClassId} {N b0 : Nat} {ad : Nat → Nat} (hA : oAd b0 N ad) {σ : Nat → va_E} (j n a g : Nat) (sz w : Nat → Nat) (v : Nat) (on : Int) (hj : j + 2 < N) (hwf : oWf n sz w) (hv : 1 ≤ v ∧ v ≤ 6) (hbon : -2147483648 ≤ on ∧ on < 2147483648) (e0 : σ (j) = .inr (4, [.ref (ad (j + 1)), .ref (ad (j + 2)), .int (oI (((n : Nat) : Int))), .int (oI (((a : Nat) : Int))), .int (oI (((g : Nat) : Int)))])) (e1 : σ (j + 1) = oAN cT 4 sz) (e2 : σ (j + 2) = oAJ cT 4 w) :
    oCi l D cT N ad b0 yX4_attempt cX4_attempt 5 (some .boolean) 4 92 [.ref (ad (j)), .int (oI (5)), .int (oI (0)), .int (oI (((v : Nat) : Int))), .int (oI (on))] σ (fun rr uu => rr = oI (1) ∧ uu (j) = .inr (4, [.ref (ad (j + 1)), .ref (ad (j + 2)), .int (oI (((n : Nat) : Int))), .int (oI (((v : Nat) : Int))), .int (oI (((g : Nat) : Int)))]) ∧ (∀ q : Nat, q ≠ j → uu q = σ q)) := by
  refine m_start (cc := cX4_attempt) (by decide) (Nat.le_of_ble_eq_true rfl) rfl ?_
  intro Pp Ee Ss Mm Bb Me Cc Ar ls hx hb hml hown hlk hrt hts hK hH hl
  have hown : Ss.vm.findClass RX4 = some Mm.cls := hown
  have hn := hwf.1
  have hsz := oSize_le hwf
  have hw64 := oRow_64 hwf
  have hw41 := oRow_lt hwf
  have hok : oRef5 0 ((v : Nat) : Int) = 0 := oRef5_0.mpr (by omega)
  have hrb := oRef5_b 0 ((v : Nat) : Int)
  have hl : lv_has ls 5 [(0, .ref (ad (j))), (1, .int (oI (5))), (2, .int (oI (0))), (3, .int (oI (((v : Nat) : Int)))), (4, .int (oI (on)))] := hl
  have hf : ∀ q : Nat, q ≠ j → σ q = σ q := fun q _ => rfl
  refine lv_aload_n hx hb dX4_attempt_0 rfl (lv_at hl 0 rfl) ?_
  refine lv_iload_n hx hb dX4_attempt_1 rfl (lv_at hl 1 rfl) ?_
  refine lv_iload_n hx hb dX4_attempt_2 rfl (lv_at hl 2 rfl) ?_
  refine lv_iload_n hx hb dX4_attempt_3 rfl (lv_at hl 3 rfl) ?_
  refine lv_iload hx hb dX4_attempt_4 (lv_at hl 4 rfl) ?_
  refine m_pVi hx hb hml hown hts hK hH hl (rest := []) cw_X4_92 (c4_ref5 hA j n a g sz w 0 ((v : Nat) : Int) on (by first | assumption | omega) (by first | assumption | omega) (by first | assumption | omega) (by first | assumption | omega) (by first | assumption | omega) e0 e1 e2) ⟨Nat.le_of_ble_eq_true rfl, Nat.le_of_ble_eq_true rfl⟩ ⟨Nat.le_of_ble_eq_true rfl, Nat.le_of_ble_eq_true rfl⟩ rfl (k := j) (by omega) e0 rfl rfl (Nat.le_of_ble_eq_true rfl) dX4_attempt_6 (fun H locs hH => ?_)
  refine m_if_eq 14 hx hb dX4_attempt_9 (by decide) (by omega) (fun h_1 => ?_) (fun h_1 => absurd h_1 (fun z => z hok))
  refine lv_aload_n hx hb dX4_attempt_14 rfl (lv_at hl 0 rfl) ?_
  refine lv_iload_n hx hb dX4_attempt_15 rfl (lv_at hl 1 rfl) ?_
  refine lv_iload_n hx hb dX4_attempt_16 rfl (lv_at hl 2 rfl) ?_
  refine lv_iload_n hx hb dX4_attempt_17 rfl (lv_at hl 3 rfl) ?_
  refine lv_iload hx hb dX4_attempt_18 (lv_at hl 4 rfl) ?_
  refine m_callVi hx hb hml hown hts hK hH hl (rest := []) cw_X4_96 (c4_perf5a hA j n a g sz w v on (by first | assumption | omega) (by first | assumption | omega) (by first | assumption | omega) (by first | assumption | omega) e0 e1 e2) ⟨Nat.le_of_ble_eq_true rfl, Nat.le_of_ble_eq_true rfl⟩ ⟨Nat.le_of_ble_eq_true rfl, Nat.le_of_ble_eq_true rfl⟩ rfl (k := j) (by omega) e0 rfl rfl (Nat.le_of_ble_eq_true rfl) dX4_attempt_20 (fun r_5 σ_2 H locs hp_3 hH => ?_)
  obtain ⟨rfl, e0, hq_4⟩ := hp_3
  have e1 : σ_2 (j + 1) = oAN cT 4 sz := (hq_4 _ (by omega)).trans e1
  have e2 : σ_2 (j + 2) = oAJ cT 4 w := (hq_4 _ (by omega)).trans e2
  have hf : ∀ q : Nat, q ≠ j → σ_2 q = σ q := fun q n0 => (hq_4 q n0).trans (hf q n0)
  refine lv_pop hx hb dX4_attempt_23 rfl ?_
  refine m_iconst 1 hx hb dX4_attempt_24 rfl ?_
  exact m_iret hx hb hlk hrt hH m_z1 dX4_attempt_25 ⟨rfl, e0, hf⟩
set_option maxHeartbeats 4000000 in
set_option maxRecDepth 100000 in
theorem c4_perf5b {l : Launch} {D : va_G} {cT : Nat → ClassId} {N b0 : Nat} {ad : Nat → Nat} (hA : oAd b0 N ad) {σ : Nat → va_E} (j n a g : Nat) (sz w : Nat → Nat) (v : Nat) (on : Int) (hj : j + 2 < N) (hwf : oWf n sz w) (hv : 10 ≤ v ∧ v ≤ 150) (hbon : -2147483648 ≤ on ∧ on < 2147483648) (e0 : σ (j) = .inr (4, [.ref (ad (j + 1)), .ref (ad (j + 2)), .int (oI (((n : Nat) : Int))), .int (oI (((a : Nat) : Int))), .int (oI (((g : Nat) : Int)))])) (e1 : σ (j + 1) = oAN cT 4 sz) (e2 : σ (j + 2) = oAJ cT 4 w) :
    oCi l D cT N ad b0 yX4_perform cX4_perform 5 (some .int) 3 68 [.ref (ad (j)), .int (oI (5)), .int (oI (1)), .int (oI (((v : Nat) : Int))), .int (oI (on))] σ (fun rr uu => rr = oI (((g : Nat) : Int)) ∧ uu (j) = .inr (4, [.ref (ad (j + 1)), .ref (ad (j + 2)), .int (oI (((n : Nat) : Int))), .int (oI (((a : Nat) : Int))), .int (oI (((v : Nat) : Int)))]) ∧ (∀ q : Nat, q ≠ j → uu q = σ q)) := by
  refine m_start (cc := cX4_perform) (by decide) (Nat.le_of_ble_eq_true rfl) rfl ?_
  intro Pp Ee Ss Mm Bb Me Cc Ar ls hx hb hml hown hlk hrt hts hK hH hl
  have hown : Ss.vm.findClass RX4 = some Mm.cls := hown
  have hn := hwf.1
  have hsz := oSize_le hwf
  have hw64 := oRow_64 hwf
  have hw41 := oRow_lt hwf
  have hl : lv_has ls 5 [(0, .ref (ad (j))), (1, .int (oI (5))), (2, .int (oI (1))), (3, .int (oI (((v : Nat) : Int)))), (4, .int (oI (on)))] := hl
  have hf : ∀ q : Nat, q ≠ j → σ q = σ q := fun q _ => rfl
  refine lv_iload_n hx hb dX4_perform_0 rfl (lv_at hl 1 rfl) ?_
  refine m_tabOut 60 hx hb dX4_perform_1 (by omega) (by omega) (by decide) ?_
  refine lv_aload_n hx hb dX4_perform_60 rfl (lv_at hl 0 rfl) ?_
  refine lv_iload_n hx hb dX4_perform_61 rfl (lv_at hl 2 rfl) ?_
  refine lv_iload_n hx hb dX4_perform_62 rfl (lv_at hl 3 rfl) ?_
  refine m_callVi hx hb hml hown hts hK hH hl (rest := []) cw_X4_113 (c4_adjust1 hA j n a g sz w v (by first | assumption | omega) (by first | assumption | omega) (by first | assumption | omega) e0 e1 e2) ⟨Nat.le_of_ble_eq_true rfl, Nat.le_of_ble_eq_true rfl⟩ ⟨Nat.le_of_ble_eq_true rfl, Nat.le_of_ble_eq_true rfl⟩ rfl (k := j) (by omega) e0 rfl rfl (Nat.le_of_ble_eq_true rfl) dX4_perform_63 (fun r_5 σ_2 H locs hp_3 hH => ?_)
  obtain ⟨rfl, e0, hq_4⟩ := hp_3
  have e1 : σ_2 (j + 1) = oAN cT 4 sz := (hq_4 _ (by omega)).trans e1
  have e2 : σ_2 (j + 2) = oAJ cT 4 w := (hq_4 _ (by omega)).trans e2
  have hf : ∀ q : Nat, q ≠ j → σ_2 q = σ q := fun q n0 => (hq_4 q n0).trans (hf q n0)
  exact m_iret hx hb hlk hrt hH (m_ni _) dX4_perform_66 ⟨rfl, e0, hf⟩
set_option maxHeartbeats 4000000 in
set_option maxRecDepth 100000 in
theorem c4_att5b {l : Launch} {D : va_G} {cT : Nat → ClassId} {N b0 : Nat} {ad : Nat → Nat} (hA : oAd b0 N ad) {σ : Nat → va_E} (j n a g : Nat) (sz w : Nat → Nat) (v : Nat) (on : Int) (hj : j + 2 < N) (hwf : oWf n sz w) (hv : 10 ≤ v ∧ v ≤ 150) (hbon : -2147483648 ≤ on ∧ on < 2147483648) (e0 : σ (j) = .inr (4, [.ref (ad (j + 1)), .ref (ad (j + 2)), .int (oI (((n : Nat) : Int))), .int (oI (((a : Nat) : Int))), .int (oI (((g : Nat) : Int)))])) (e1 : σ (j + 1) = oAN cT 4 sz) (e2 : σ (j + 2) = oAJ cT 4 w) :
    oCi l D cT N ad b0 yX4_attempt cX4_attempt 5 (some .boolean) 4 92 [.ref (ad (j)), .int (oI (5)), .int (oI (1)), .int (oI (((v : Nat) : Int))), .int (oI (on))] σ (fun rr uu => rr = oI (1) ∧ uu (j) = .inr (4, [.ref (ad (j + 1)), .ref (ad (j + 2)), .int (oI (((n : Nat) : Int))), .int (oI (((a : Nat) : Int))), .int (oI (((v : Nat) : Int)))]) ∧ (∀ q : Nat, q ≠ j → uu q = σ q)) := by
  refine m_start (cc := cX4_attempt) (by decide) (Nat.le_of_ble_eq_true rfl) rfl ?_
  intro Pp Ee Ss Mm Bb Me Cc Ar ls hx hb hml hown hlk hrt hts hK hH hl
  have hown : Ss.vm.findClass RX4 = some Mm.cls := hown
  have hn := hwf.1
  have hsz := oSize_le hwf
  have hw64 := oRow_64 hwf
  have hw41 := oRow_lt hwf
  have hok : oRef5 1 ((v : Nat) : Int) = 0 := oRef5_0.mpr (by omega)
  have hrb := oRef5_b 1 ((v : Nat) : Int)
  have hl : lv_has ls 5 [(0, .ref (ad (j))), (1, .int (oI (5))), (2, .int (oI (1))), (3, .int (oI (((v : Nat) : Int)))), (4, .int (oI (on)))] := hl
  have hf : ∀ q : Nat, q ≠ j → σ q = σ q := fun q _ => rfl
  refine lv_aload_n hx hb dX4_attempt_0 rfl (lv_at hl 0 rfl) ?_
  refine lv_iload_n hx hb dX4_attempt_1 rfl (lv_at hl 1 rfl) ?_
  refine lv_iload_n hx hb dX4_attempt_2 rfl (lv_at hl 2 rfl) ?_
  refine lv_iload_n hx hb dX4_attempt_3 rfl (lv_at hl 3 rfl) ?_
  refine lv_iload hx hb dX4_attempt_4 (lv_at hl 4 rfl) ?_
  refine m_pVi hx hb hml hown hts hK hH hl (rest := []) cw_X4_92 (c4_ref5 hA j n a g sz w 1 ((v : Nat) : Int) on (by first | assumption | omega) (by first | assumption | omega) (by first | assumption | omega) (by first | assumption | omega) (by first | assumption | omega) e0 e1 e2) ⟨Nat.le_of_ble_eq_true rfl, Nat.le_of_ble_eq_true rfl⟩ ⟨Nat.le_of_ble_eq_true rfl, Nat.le_of_ble_eq_true rfl⟩ rfl (k := j) (by omega) e0 rfl rfl (Nat.le_of_ble_eq_true rfl) dX4_attempt_6 (fun H locs hH => ?_)
  refine m_if_eq 14 hx hb dX4_attempt_9 (by decide) (by omega) (fun h_1 => ?_) (fun h_1 => absurd h_1 (fun z => z hok))
  refine lv_aload_n hx hb dX4_attempt_14 rfl (lv_at hl 0 rfl) ?_
  refine lv_iload_n hx hb dX4_attempt_15 rfl (lv_at hl 1 rfl) ?_
  refine lv_iload_n hx hb dX4_attempt_16 rfl (lv_at hl 2 rfl) ?_
  refine lv_iload_n hx hb dX4_attempt_17 rfl (lv_at hl 3 rfl) ?_
  refine lv_iload hx hb dX4_attempt_18 (lv_at hl 4 rfl) ?_
  refine m_callVi hx hb hml hown hts hK hH hl (rest := []) cw_X4_96 (c4_perf5b hA j n a g sz w v on (by first | assumption | omega) (by first | assumption | omega) (by first | assumption | omega) (by first | assumption | omega) e0 e1 e2) ⟨Nat.le_of_ble_eq_true rfl, Nat.le_of_ble_eq_true rfl⟩ ⟨Nat.le_of_ble_eq_true rfl, Nat.le_of_ble_eq_true rfl⟩ rfl (k := j) (by omega) e0 rfl rfl (Nat.le_of_ble_eq_true rfl) dX4_attempt_20 (fun r_5 σ_2 H locs hp_3 hH => ?_)
  obtain ⟨rfl, e0, hq_4⟩ := hp_3
  have e1 : σ_2 (j + 1) = oAN cT 4 sz := (hq_4 _ (by omega)).trans e1
  have e2 : σ_2 (j + 2) = oAJ cT 4 w := (hq_4 _ (by omega)).trans e2
  have hf : ∀ q : Nat, q ≠ j → σ_2 q = σ q := fun q n0 => (hq_4 q n0).trans (hf q n0)
  refine lv_pop hx hb dX4_attempt_23 rfl ?_
  refine m_iconst 1 hx hb dX4_attempt_24 rfl ?_
  exact m_iret hx hb hlk hrt hH m_z1 dX4_attempt_25 ⟨rfl, e0, hf⟩
set_option maxHeartbeats 4000000 in
set_option maxRecDepth 100000 in
theorem c4_att1n {l : Launch} {D : va_G} {cT : Nat → ClassId} {N b0 : Nat} {ad : Nat → Nat} (hA : oAd b0 N ad) {σ : Nat → va_E} (j n a g : Nat) (sz w : Nat → Nat) (r p on : Int) (hj : j + 2 < N) (hwf : oWf n sz w) (hbr : -2147483648 ≤ r ∧ r < 2147483648) (hbp : -2147483648 ≤ p ∧ p < 2147483648) (hbon : -2147483648 ≤ on ∧ on < 2147483648) (hbad : ¬ oRef1 n r = 0) (e0 : σ (j) = .inr (4, [.ref (ad (j + 1)), .ref (ad (j + 2)), .int (oI (((n : Nat) : Int))), .int (oI (((a : Nat) : Int))), .int (oI (((g : Nat) : Int)))])) (e1 : σ (j + 1) = oAN cT 4 sz) (e2 : σ (j + 2) = oAJ cT 4 w) :
    oCi l D cT N ad b0 yX4_attempt cX4_attempt 5 (some .boolean) 4 92 [.ref (ad (j)), .int (oI (1)), .int (oI (r)), .int (oI (p)), .int (oI (on))] σ (fun rr uu => rr = oI (0) ∧ uu = σ) := by
  refine m_start (cc := cX4_attempt) (by decide) (Nat.le_of_ble_eq_true rfl) rfl ?_
  intro Pp Ee Ss Mm Bb Me Cc Ar ls hx hb hml hown hlk hrt hts hK hH hl
  have hown : Ss.vm.findClass RX4 = some Mm.cls := hown
  have hn := hwf.1
  have hsz := oSize_le hwf
  have hw64 := oRow_64 hwf
  have hw41 := oRow_lt hwf
  have hrb := oRef1_b n r
  have hl : lv_has ls 5 [(0, .ref (ad (j))), (1, .int (oI (1))), (2, .int (oI (r))), (3, .int (oI (p))), (4, .int (oI (on)))] := hl
  refine lv_aload_n hx hb dX4_attempt_0 rfl (lv_at hl 0 rfl) ?_
  refine lv_iload_n hx hb dX4_attempt_1 rfl (lv_at hl 1 rfl) ?_
  refine lv_iload_n hx hb dX4_attempt_2 rfl (lv_at hl 2 rfl) ?_
  refine lv_iload_n hx hb dX4_attempt_3 rfl (lv_at hl 3 rfl) ?_
  refine lv_iload hx hb dX4_attempt_4 (lv_at hl 4 rfl) ?_
  refine m_pVi hx hb hml hown hts hK hH hl (rest := []) cw_X4_92 (c4_ref1 hA j n a g sz w r p on (by first | assumption | omega) (by first | assumption | omega) (by first | assumption | omega) (by first | assumption | omega) (by first | assumption | omega) e0 e1 e2) ⟨Nat.le_of_ble_eq_true rfl, Nat.le_of_ble_eq_true rfl⟩ ⟨Nat.le_of_ble_eq_true rfl, Nat.le_of_ble_eq_true rfl⟩ rfl (k := j) (by omega) e0 rfl rfl (Nat.le_of_ble_eq_true rfl) dX4_attempt_6 (fun H locs hH => ?_)
  refine m_if_eq 14 hx hb dX4_attempt_9 (by decide) (by omega) (fun h_1 => absurd h_1 (hbad)) (fun h_1 => ?_)
  refine m_iconst 0 hx hb dX4_attempt_12 rfl ?_
  exact m_iret hx hb hlk hrt hH m_z0 dX4_attempt_13 ⟨rfl, rfl⟩
set_option maxHeartbeats 4000000 in
set_option maxRecDepth 100000 in
theorem c4_att2n {l : Launch} {D : va_G} {cT : Nat → ClassId} {N b0 : Nat} {ad : Nat → Nat} (hA : oAd b0 N ad) {σ : Nat → va_E} (j n a g : Nat) (sz w : Nat → Nat) (r p on : Int) (hj : j + 2 < N) (hwf : oWf n sz w) (hbr : -2147483648 ≤ r ∧ r < 2147483648) (hbp : -2147483648 ≤ p ∧ p < 2147483648) (hbon : -2147483648 ≤ on ∧ on < 2147483648) (hbad : ¬ oRef2 n sz r p on = 0) (e0 : σ (j) = .inr (4, [.ref (ad (j + 1)), .ref (ad (j + 2)), .int (oI (((n : Nat) : Int))), .int (oI (((a : Nat) : Int))), .int (oI (((g : Nat) : Int)))])) (e1 : σ (j + 1) = oAN cT 4 sz) (e2 : σ (j + 2) = oAJ cT 4 w) :
    oCi l D cT N ad b0 yX4_attempt cX4_attempt 5 (some .boolean) 4 92 [.ref (ad (j)), .int (oI (2)), .int (oI (r)), .int (oI (p)), .int (oI (on))] σ (fun rr uu => rr = oI (0) ∧ uu = σ) := by
  refine m_start (cc := cX4_attempt) (by decide) (Nat.le_of_ble_eq_true rfl) rfl ?_
  intro Pp Ee Ss Mm Bb Me Cc Ar ls hx hb hml hown hlk hrt hts hK hH hl
  have hown : Ss.vm.findClass RX4 = some Mm.cls := hown
  have hn := hwf.1
  have hsz := oSize_le hwf
  have hw64 := oRow_64 hwf
  have hw41 := oRow_lt hwf
  have hrb := oRef2_b n sz r p on
  have hl : lv_has ls 5 [(0, .ref (ad (j))), (1, .int (oI (2))), (2, .int (oI (r))), (3, .int (oI (p))), (4, .int (oI (on)))] := hl
  refine lv_aload_n hx hb dX4_attempt_0 rfl (lv_at hl 0 rfl) ?_
  refine lv_iload_n hx hb dX4_attempt_1 rfl (lv_at hl 1 rfl) ?_
  refine lv_iload_n hx hb dX4_attempt_2 rfl (lv_at hl 2 rfl) ?_
  refine lv_iload_n hx hb dX4_attempt_3 rfl (lv_at hl 3 rfl) ?_
  refine lv_iload hx hb dX4_attempt_4 (lv_at hl 4 rfl) ?_
  refine m_pVi hx hb hml hown hts hK hH hl (rest := []) cw_X4_92 (c4_ref2 hA j n a g sz w r p on (by first | assumption | omega) (by first | assumption | omega) (by first | assumption | omega) (by first | assumption | omega) (by first | assumption | omega) e0 e1 e2) ⟨Nat.le_of_ble_eq_true rfl, Nat.le_of_ble_eq_true rfl⟩ ⟨Nat.le_of_ble_eq_true rfl, Nat.le_of_ble_eq_true rfl⟩ rfl (k := j) (by omega) e0 rfl rfl (Nat.le_of_ble_eq_true rfl) dX4_attempt_6 (fun H locs hH => ?_)
  refine m_if_eq 14 hx hb dX4_attempt_9 (by decide) (by omega) (fun h_1 => absurd h_1 (hbad)) (fun h_1 => ?_)
  refine m_iconst 0 hx hb dX4_attempt_12 rfl ?_
  exact m_iret hx hb hlk hrt hH m_z0 dX4_attempt_13 ⟨rfl, rfl⟩
set_option maxHeartbeats 4000000 in
set_option maxRecDepth 100000 in
theorem c4_att3n {l : Launch} {D : va_G} {cT : Nat → ClassId} {N b0 : Nat} {ad : Nat → Nat} (hA : oAd b0 N ad) {σ : Nat → va_E} (j n a g : Nat) (sz w : Nat → Nat) (r p on : Int) (hj : j + 2 < N) (hwf : oWf n sz w) (hbr : -2147483648 ≤ r ∧ r < 2147483648) (hbp : -2147483648 ≤ p ∧ p < 2147483648) (hbon : -2147483648 ≤ on ∧ on < 2147483648) (hbad : ¬ oRef3 n sz r p = 0) (e0 : σ (j) = .inr (4, [.ref (ad (j + 1)), .ref (ad (j + 2)), .int (oI (((n : Nat) : Int))), .int (oI (((a : Nat) : Int))), .int (oI (((g : Nat) : Int)))])) (e1 : σ (j + 1) = oAN cT 4 sz) (e2 : σ (j + 2) = oAJ cT 4 w) :
    oCi l D cT N ad b0 yX4_attempt cX4_attempt 5 (some .boolean) 4 92 [.ref (ad (j)), .int (oI (3)), .int (oI (r)), .int (oI (p)), .int (oI (on))] σ (fun rr uu => rr = oI (0) ∧ uu = σ) := by
  refine m_start (cc := cX4_attempt) (by decide) (Nat.le_of_ble_eq_true rfl) rfl ?_
  intro Pp Ee Ss Mm Bb Me Cc Ar ls hx hb hml hown hlk hrt hts hK hH hl
  have hown : Ss.vm.findClass RX4 = some Mm.cls := hown
  have hn := hwf.1
  have hsz := oSize_le hwf
  have hw64 := oRow_64 hwf
  have hw41 := oRow_lt hwf
  have hrb := oRef3_b n sz r p
  have hl : lv_has ls 5 [(0, .ref (ad (j))), (1, .int (oI (3))), (2, .int (oI (r))), (3, .int (oI (p))), (4, .int (oI (on)))] := hl
  refine lv_aload_n hx hb dX4_attempt_0 rfl (lv_at hl 0 rfl) ?_
  refine lv_iload_n hx hb dX4_attempt_1 rfl (lv_at hl 1 rfl) ?_
  refine lv_iload_n hx hb dX4_attempt_2 rfl (lv_at hl 2 rfl) ?_
  refine lv_iload_n hx hb dX4_attempt_3 rfl (lv_at hl 3 rfl) ?_
  refine lv_iload hx hb dX4_attempt_4 (lv_at hl 4 rfl) ?_
  refine m_pVi hx hb hml hown hts hK hH hl (rest := []) cw_X4_92 (c4_ref3 hA j n a g sz w r p on (by first | assumption | omega) (by first | assumption | omega) (by first | assumption | omega) (by first | assumption | omega) (by first | assumption | omega) e0 e1 e2) ⟨Nat.le_of_ble_eq_true rfl, Nat.le_of_ble_eq_true rfl⟩ ⟨Nat.le_of_ble_eq_true rfl, Nat.le_of_ble_eq_true rfl⟩ rfl (k := j) (by omega) e0 rfl rfl (Nat.le_of_ble_eq_true rfl) dX4_attempt_6 (fun H locs hH => ?_)
  refine m_if_eq 14 hx hb dX4_attempt_9 (by decide) (by omega) (fun h_1 => absurd h_1 (hbad)) (fun h_1 => ?_)
  refine m_iconst 0 hx hb dX4_attempt_12 rfl ?_
  exact m_iret hx hb hlk hrt hH m_z0 dX4_attempt_13 ⟨rfl, rfl⟩
set_option maxHeartbeats 4000000 in
set_option maxRecDepth 100000 in
theorem c4_att4n {l : Launch} {D : va_G} {cT : Nat → ClassId} {N b0 : Nat} {ad : Nat → Nat} (hA : oAd b0 N ad) {σ : Nat → va_E} (j n a g : Nat) (sz w : Nat → Nat) (r p on : Int) (hj : j + 2 < N) (hwf : oWf n sz w) (hbr : -2147483648 ≤ r ∧ r < 2147483648) (hbp : -2147483648 ≤ p ∧ p < 2147483648) (hbon : -2147483648 ≤ on ∧ on < 2147483648) (hbad : ¬ oRef4 n r = 0) (e0 : σ (j) = .inr (4, [.ref (ad (j + 1)), .ref (ad (j + 2)), .int (oI (((n : Nat) : Int))), .int (oI (((a : Nat) : Int))), .int (oI (((g : Nat) : Int)))])) (e1 : σ (j + 1) = oAN cT 4 sz) (e2 : σ (j + 2) = oAJ cT 4 w) :
    oCi l D cT N ad b0 yX4_attempt cX4_attempt 5 (some .boolean) 4 92 [.ref (ad (j)), .int (oI (4)), .int (oI (r)), .int (oI (p)), .int (oI (on))] σ (fun rr uu => rr = oI (0) ∧ uu = σ) := by
  refine m_start (cc := cX4_attempt) (by decide) (Nat.le_of_ble_eq_true rfl) rfl ?_
  intro Pp Ee Ss Mm Bb Me Cc Ar ls hx hb hml hown hlk hrt hts hK hH hl
  have hown : Ss.vm.findClass RX4 = some Mm.cls := hown
  have hn := hwf.1
  have hsz := oSize_le hwf
  have hw64 := oRow_64 hwf
  have hw41 := oRow_lt hwf
  have hrb := oRef4_b n r
  have hl : lv_has ls 5 [(0, .ref (ad (j))), (1, .int (oI (4))), (2, .int (oI (r))), (3, .int (oI (p))), (4, .int (oI (on)))] := hl
  refine lv_aload_n hx hb dX4_attempt_0 rfl (lv_at hl 0 rfl) ?_
  refine lv_iload_n hx hb dX4_attempt_1 rfl (lv_at hl 1 rfl) ?_
  refine lv_iload_n hx hb dX4_attempt_2 rfl (lv_at hl 2 rfl) ?_
  refine lv_iload_n hx hb dX4_attempt_3 rfl (lv_at hl 3 rfl) ?_
  refine lv_iload hx hb dX4_attempt_4 (lv_at hl 4 rfl) ?_
  refine m_pVi hx hb hml hown hts hK hH hl (rest := []) cw_X4_92 (c4_ref4 hA j n a g sz w r p on (by first | assumption | omega) (by first | assumption | omega) (by first | assumption | omega) (by first | assumption | omega) (by first | assumption | omega) e0 e1 e2) ⟨Nat.le_of_ble_eq_true rfl, Nat.le_of_ble_eq_true rfl⟩ ⟨Nat.le_of_ble_eq_true rfl, Nat.le_of_ble_eq_true rfl⟩ rfl (k := j) (by omega) e0 rfl rfl (Nat.le_of_ble_eq_true rfl) dX4_attempt_6 (fun H locs hH => ?_)
  refine m_if_eq 14 hx hb dX4_attempt_9 (by decide) (by omega) (fun h_1 => absurd h_1 (hbad)) (fun h_1 => ?_)
  refine m_iconst 0 hx hb dX4_attempt_12 rfl ?_
  exact m_iret hx hb hlk hrt hH m_z0 dX4_attempt_13 ⟨rfl, rfl⟩
set_option maxHeartbeats 4000000 in
set_option maxRecDepth 100000 in
theorem c4_att5n {l : Launch} {D : va_G} {cT : Nat → ClassId} {N b0 : Nat} {ad : Nat → Nat} (hA : oAd b0 N ad) {σ : Nat → va_E} (j n a g : Nat) (sz w : Nat → Nat) (r p on : Int) (hj : j + 2 < N) (hwf : oWf n sz w) (hbr : -2147483648 ≤ r ∧ r < 2147483648) (hbp : -2147483648 ≤ p ∧ p < 2147483648) (hbon : -2147483648 ≤ on ∧ on < 2147483648) (hbad : ¬ oRef5 r p = 0) (e0 : σ (j) = .inr (4, [.ref (ad (j + 1)), .ref (ad (j + 2)), .int (oI (((n : Nat) : Int))), .int (oI (((a : Nat) : Int))), .int (oI (((g : Nat) : Int)))])) (e1 : σ (j + 1) = oAN cT 4 sz) (e2 : σ (j + 2) = oAJ cT 4 w) :
    oCi l D cT N ad b0 yX4_attempt cX4_attempt 5 (some .boolean) 4 92 [.ref (ad (j)), .int (oI (5)), .int (oI (r)), .int (oI (p)), .int (oI (on))] σ (fun rr uu => rr = oI (0) ∧ uu = σ) := by
  refine m_start (cc := cX4_attempt) (by decide) (Nat.le_of_ble_eq_true rfl) rfl ?_
  intro Pp Ee Ss Mm Bb Me Cc Ar ls hx hb hml hown hlk hrt hts hK hH hl
  have hown : Ss.vm.findClass RX4 = some Mm.cls := hown
  have hn := hwf.1
  have hsz := oSize_le hwf
  have hw64 := oRow_64 hwf
  have hw41 := oRow_lt hwf
  have hrb := oRef5_b r p
  have hl : lv_has ls 5 [(0, .ref (ad (j))), (1, .int (oI (5))), (2, .int (oI (r))), (3, .int (oI (p))), (4, .int (oI (on)))] := hl
  refine lv_aload_n hx hb dX4_attempt_0 rfl (lv_at hl 0 rfl) ?_
  refine lv_iload_n hx hb dX4_attempt_1 rfl (lv_at hl 1 rfl) ?_
  refine lv_iload_n hx hb dX4_attempt_2 rfl (lv_at hl 2 rfl) ?_
  refine lv_iload_n hx hb dX4_attempt_3 rfl (lv_at hl 3 rfl) ?_
  refine lv_iload hx hb dX4_attempt_4 (lv_at hl 4 rfl) ?_
  refine m_pVi hx hb hml hown hts hK hH hl (rest := []) cw_X4_92 (c4_ref5 hA j n a g sz w r p on (by first | assumption | omega) (by first | assumption | omega) (by first | assumption | omega) (by first | assumption | omega) (by first | assumption | omega) e0 e1 e2) ⟨Nat.le_of_ble_eq_true rfl, Nat.le_of_ble_eq_true rfl⟩ ⟨Nat.le_of_ble_eq_true rfl, Nat.le_of_ble_eq_true rfl⟩ rfl (k := j) (by omega) e0 rfl rfl (Nat.le_of_ble_eq_true rfl) dX4_attempt_6 (fun H locs hH => ?_)
  refine m_if_eq 14 hx hb dX4_attempt_9 (by decide) (by omega) (fun h_1 => absurd h_1 (hbad)) (fun h_1 => ?_)
  refine m_iconst 0 hx hb dX4_attempt_12 rfl ?_
  exact m_iret hx hb hlk hrt hH m_z0 dX4_attempt_13 ⟨rfl, rfl⟩
set_option maxHeartbeats 4000000 in
set_option maxRecDepth 100000 in
theorem c2_keep {l : Launch} {D : va_G} {cT : Nat → ClassId} {N b0 : Nat} {ad : Nat → Nat} (hA : oAd b0 N ad) {σ : Nat → va_E} (n a g : Nat) (sz w : Nat → Nat) (nx ms : Nat) (mn ma mg : Nat → Nat) (msz mw : Nat → Nat → Nat) (hN : 76 ≤ N) (hwf : oWf n sz w) (hnx : nx < 14) (hms : ms ≤ 14) (hm : ∀ i : Nat, i < 14 → σ (3 * i + 15) = .inr (4, [.ref (ad (3 * i + 16)), .ref (ad (3 * i + 17)), .int (oI ((mn i : Nat) : Int)), .int (oI ((ma i : Nat) : Int)), .int (oI ((mg i : Nat) : Int))]) ∧ σ (3 * i + 16) = oAN cT 4 (msz i) ∧ σ (3 * i + 17) = oAJ cT 4 (mw i)) (eM : σ (13) = .inr (2, [.ref (ad (14)), .int (oI (((nx : Nat) : Int))), .int (oI (((ms : Nat) : Int)))])) (eA : σ (14) = oAO cT 14 (oMem ad)) (e0 : σ (1) = .inr (4, [.ref (ad (2)), .ref (ad (3)), .int (oI (((n : Nat) : Int))), .int (oI (((a : Nat) : Int))), .int (oI (((g : Nat) : Int)))])) (e1 : σ (2) = oAN cT 4 sz) (e2 : σ (3) = oAJ cT 4 w) :
    oCv l D cT N ad b0 yX2_keep cX2_keep 2 none 2 46 [.ref (ad (13)), .ref (ad (1))] σ (fun uu => ∃ sz1 : Nat → Nat, ∃ w1 : Nat → Nat, (∀ r : Nat, r < n → sz1 r = sz r ∧ w1 r = w r) ∧ uu (13) = .inr (2, [.ref (ad (14)), .int (oI (((if nx + 1 < 14 then nx + 1 else 0 : Nat) : Int))), .int (oI (((min (ms + 1) 14 : Nat) : Int)))]) ∧ uu (3 * nx + 15) = .inr (4, [.ref (ad (3 * nx + 16)), .ref (ad (3 * nx + 17)), .int (oI (((n : Nat) : Int))), .int (oI (((a : Nat) : Int))), .int (oI (((g : Nat) : Int)))]) ∧ uu (3 * nx + 16) = oAN cT 4 sz1 ∧ uu (3 * nx + 17) = oAJ cT 4 w1 ∧ (∀ q : Nat, q ≠ 13 → q ≠ (3 * nx + 15) → q ≠ (3 * nx + 16) → q ≠ (3 * nx + 17) → uu q = σ q)) := by
  refine m_start (cc := cX2_keep) (by decide) (Nat.le_of_ble_eq_true rfl) rfl ?_
  intro Pp Ee Ss Mm Bb Me Cc Ar ls hx hb hml hown hlk hrt hts hK hH hl
  have hown : Ss.vm.findClass RX2 = some Mm.cls := hown
  obtain ⟨em0, em1, em2⟩ := hm nx hnx
  have hl : lv_has ls 2 [(0, .ref (ad (13))), (1, .ref (ad (1)))] := hl
  have hf : ∀ q : Nat, q ≠ 13 → q ≠ (3 * nx + 15) → q ≠ (3 * nx + 16) → q ≠ (3 * nx + 17) → σ q = σ q := fun q _ _ _ _ => rfl
  refine lv_aload_n hx hb dX2_keep_0 rfl (lv_at hl 0 rfl) ?_
  refine gf_X2_next hx hb hts hown hK hH (k := 13) (by omega) eM dX2_keep_1 ?_
  refine m_if_lt 44 hx hb dX2_keep_4 (by decide) (by omega) (fun h_1 => absurd h_1 (by omega)) (fun h_1 => ?_)
  refine lv_aload_n hx hb dX2_keep_7 rfl (lv_at hl 0 rfl) ?_
  refine gf_X2_next hx hb hts hown hK hH (k := 13) (by omega) eM dX2_keep_8 ?_
  refine lv_aload_n hx hb dX2_keep_11 rfl (lv_at hl 0 rfl) ?_
  refine gf_X2_states hx hb hts hown hK hH (k := 13) (by omega) eM dX2_keep_12 ?_
  refine m_alen hx hb hK hH (k := 14) (by omega) eA 4 rfl 14 rfl dX2_keep_15 ?_
  refine m_icmp_ge 44 hx hb dX2_keep_16 (by decide) (by omega) (by omega) (fun h_2 => absurd h_2 (by omega)) (fun h_2 => ?_)
  refine lv_aload_n hx hb dX2_keep_19 rfl (lv_at hl 0 rfl) ?_
  refine gf_X2_states hx hb hts hown hK hH (k := 13) (by omega) eM dX2_keep_20 ?_
  refine lv_aload_n hx hb dX2_keep_23 rfl (lv_at hl 0 rfl) ?_
  refine gf_X2_next hx hb hts hown hK hH (k := 13) (by omega) eM dX2_keep_24 ?_
  refine m_aald hx hb hK hH (k := 14) (by omega) eA (nx) (by omega) (by omega) (by decide) dX2_keep_27 ?_
  rw [show (oMem ad) nx = some (ad (3 * nx + 15)) from oMem_in (by omega)]
  show W Pp l Ee _ Ss Mm Ar Bb Me Cc _ _ _ _ _ (F0 Mm 28 ls (.ref (ad (3 * nx + 15)) :: []))
  refine lv_ifnull hx hb dX2_keep_28 ?_
  refine lv_aload_n hx hb dX2_keep_31 rfl (lv_at hl 0 rfl) ?_
  refine gf_X2_states hx hb hts hown hK hH (k := 13) (by omega) eM dX2_keep_32 ?_
  refine lv_aload_n hx hb dX2_keep_35 rfl (lv_at hl 0 rfl) ?_
  refine gf_X2_next hx hb hts hown hK hH (k := 13) (by omega) eM dX2_keep_36 ?_
  refine m_aald hx hb hK hH (k := 14) (by omega) eA (nx) (by omega) (by omega) (by decide) dX2_keep_39 ?_
  rw [show (oMem ad) nx = some (ad (3 * nx + 15)) from oMem_in (by omega)]
  show W Pp l Ee _ Ss Mm Ar Bb Me Cc _ _ _ _ _ (F0 Mm 40 ls (.ref (ad (3 * nx + 15)) :: []))
  refine lv_aload_n hx hb dX2_keep_40 rfl (lv_at hl 1 rfl) ?_
  refine m_callVv hx hb hml hown hts hK hH hl (rest := []) cw_X2_22 (c4_become hA (3 * nx + 15) (mn nx) (ma nx) (mg nx) 1 n a g (msz nx) (mw nx) sz w (by first | assumption | omega) (by first | assumption | omega) (by first | assumption | omega) (hwf.1) em0 em1 em2 e0 e1 e2) ⟨Nat.le_of_ble_eq_true rfl, Nat.le_of_ble_eq_true rfl⟩ ⟨Nat.le_of_ble_eq_true rfl, Nat.le_of_ble_eq_true rfl⟩ rfl (k := 3 * nx + 15) (by omega) em0 rfl rfl (Nat.le_of_ble_eq_true rfl) dX2_keep_41 (fun σ_3 H locs hp_4 hH => ?_)
  obtain ⟨sz1, w1, hsw, em0, em1, em2, hq_5⟩ := hp_4
  have eM : σ_3 (13) = .inr (2, [.ref (ad (14)), .int (oI (((nx : Nat) : Int))), .int (oI (((ms : Nat) : Int)))]) := (hq_5 _ (by omega) (by omega) (by omega)).trans eM
  have eA : σ_3 (14) = oAO cT 14 (oMem ad) := (hq_5 _ (by omega) (by omega) (by omega)).trans eA
  have e0 : σ_3 (1) = .inr (4, [.ref (ad (2)), .ref (ad (3)), .int (oI (((n : Nat) : Int))), .int (oI (((a : Nat) : Int))), .int (oI (((g : Nat) : Int)))]) := (hq_5 _ (by omega) (by omega) (by omega)).trans e0
  have e1 : σ_3 (2) = oAN cT 4 sz := (hq_5 _ (by omega) (by omega) (by omega)).trans e1
  have e2 : σ_3 (3) = oAJ cT 4 w := (hq_5 _ (by omega) (by omega) (by omega)).trans e2
  have hf : ∀ q : Nat, q ≠ 13 → q ≠ (3 * nx + 15) → q ≠ (3 * nx + 16) → q ≠ (3 * nx + 17) → σ_3 q = σ q := fun q n0 n1 n2 n3 => (hq_5 q n1 n2 n3).trans (hf q n0 n1 n2 n3)
  refine lv_aload_n hx hb dX2_keep_44 rfl (lv_at hl 0 rfl) ?_
  refine lv_aload_n hx hb dX2_keep_45 rfl (lv_at hl 0 rfl) ?_
  refine gf_X2_next hx hb hts hown hK hH (k := 13) (by omega) eM dX2_keep_46 ?_
  refine m_iconst 1 hx hb dX2_keep_49 rfl ?_
  refine m_iadd (((nx : Nat) : Int) + 1) hx hb dX2_keep_50 (by omega) ?_
  refine m_bipush 14 hx hb dX2_keep_51 (by decide) ?_
  refine m_icmp_ge 65 hx hb dX2_keep_53 (by decide) (by omega) (by omega) (fun hwr => ?_) (fun hwr => ?_)
  · refine m_iconst 0 hx hb dX2_keep_65 rfl ?_
    refine pf_X2_next hx hb hts hown hK hH hA (k := 13) (by omega) eM dX2_keep_66 (fun H locs σ_8 eM hq_9 hH => ?_)
    have eA : σ_8 (14) = oAO cT 14 (oMem ad) := (hq_9 _ (by decide)).trans eA
    have e0 : σ_8 (1) = .inr (4, [.ref (ad (2)), .ref (ad (3)), .int (oI (((n : Nat) : Int))), .int (oI (((a : Nat) : Int))), .int (oI (((g : Nat) : Int)))]) := (hq_9 _ (by decide)).trans e0
    have e1 : σ_8 (2) = oAN cT 4 sz := (hq_9 _ (by decide)).trans e1
    have e2 : σ_8 (3) = oAJ cT 4 w := (hq_9 _ (by decide)).trans e2
    have em0 : σ_8 (3 * nx + 15) = .inr (4, [.ref (ad (3 * nx + 16)), .ref (ad (3 * nx + 17)), .int (oI (((n : Nat) : Int))), .int (oI (((a : Nat) : Int))), .int (oI (((g : Nat) : Int)))]) := (hq_9 _ (by omega)).trans em0
    have em1 : σ_8 (3 * nx + 16) = oAN cT 4 sz1 := (hq_9 _ (by omega)).trans em1
    have em2 : σ_8 (3 * nx + 17) = oAJ cT 4 w1 := (hq_9 _ (by omega)).trans em2
    have hf : ∀ q : Nat, q ≠ 13 → q ≠ (3 * nx + 15) → q ≠ (3 * nx + 16) → q ≠ (3 * nx + 17) → σ_8 q = σ q := fun q n0 n1 n2 n3 => (hq_9 q n0).trans (hf q n0 n1 n2 n3)
    refine lv_aload_n hx hb dX2_keep_69 rfl (lv_at hl 0 rfl) ?_
    refine lv_aload_n hx hb dX2_keep_70 rfl (lv_at hl 0 rfl) ?_
    refine gf_X2_size hx hb hts hown hK hH (k := 13) (by omega) eM dX2_keep_71 ?_
    refine m_iconst 1 hx hb dX2_keep_74 rfl ?_
    refine m_iadd (((ms : Nat) : Int) + 1) hx hb dX2_keep_75 (by omega) ?_
    refine m_bipush 14 hx hb dX2_keep_76 (by decide) ?_
    refine m_mmin (((min (ms + 1) 14 : Nat) : Int)) hx hb hml hl hown hts (index := 29) (hts _ (o_in0 (List.mem_of_getElem? (i := 633) (by decide +kernel)))) (Nat.le_of_ble_eq_true rfl) (Nat.le_of_ble_eq_true rfl) ⟨Nat.le_of_ble_eq_true rfl, Nat.le_of_ble_eq_true rfl⟩ (by omega) (by omega) (by rw [Nat.min_def]; split <;> split <;> omega) dX2_keep_78 ?_
    refine pf_X2_size hx hb hts hown hK hH hA (k := 13) (by omega) eM dX2_keep_81 (fun H locs σ_10 eM hq_11 hH => ?_)
    have eA : σ_10 (14) = oAO cT 14 (oMem ad) := (hq_11 _ (by decide)).trans eA
    have e0 : σ_10 (1) = .inr (4, [.ref (ad (2)), .ref (ad (3)), .int (oI (((n : Nat) : Int))), .int (oI (((a : Nat) : Int))), .int (oI (((g : Nat) : Int)))]) := (hq_11 _ (by decide)).trans e0
    have e1 : σ_10 (2) = oAN cT 4 sz := (hq_11 _ (by decide)).trans e1
    have e2 : σ_10 (3) = oAJ cT 4 w := (hq_11 _ (by decide)).trans e2
    have em0 : σ_10 (3 * nx + 15) = .inr (4, [.ref (ad (3 * nx + 16)), .ref (ad (3 * nx + 17)), .int (oI (((n : Nat) : Int))), .int (oI (((a : Nat) : Int))), .int (oI (((g : Nat) : Int)))]) := (hq_11 _ (by omega)).trans em0
    have em1 : σ_10 (3 * nx + 16) = oAN cT 4 sz1 := (hq_11 _ (by omega)).trans em1
    have em2 : σ_10 (3 * nx + 17) = oAJ cT 4 w1 := (hq_11 _ (by omega)).trans em2
    have hf : ∀ q : Nat, q ≠ 13 → q ≠ (3 * nx + 15) → q ≠ (3 * nx + 16) → q ≠ (3 * nx + 17) → σ_10 q = σ q := fun q n0 n1 n2 n3 => (hq_11 q n0).trans (hf q n0 n1 n2 n3)
    exact m_vret hx hb hlk hrt hH dX2_keep_84 ⟨sz1, w1, hsw, by rw [eM, if_neg (by omega)]; rfl, em0, em1, em2, hf⟩
  · refine lv_aload_n hx hb dX2_keep_56 rfl (lv_at hl 0 rfl) ?_
    refine gf_X2_next hx hb hts hown hK hH (k := 13) (by omega) eM dX2_keep_57 ?_
    refine m_iconst 1 hx hb dX2_keep_60 rfl ?_
    refine m_iadd (((nx : Nat) : Int) + 1) hx hb dX2_keep_61 (by omega) ?_
    refine lv_goto (tgt := 66) hx hb dX2_keep_62 (by decide) ?_
    refine pf_X2_next hx hb hts hown hK hH hA (k := 13) (by omega) eM dX2_keep_66 (fun H locs σ_12 eM hq_13 hH => ?_)
    have eA : σ_12 (14) = oAO cT 14 (oMem ad) := (hq_13 _ (by decide)).trans eA
    have e0 : σ_12 (1) = .inr (4, [.ref (ad (2)), .ref (ad (3)), .int (oI (((n : Nat) : Int))), .int (oI (((a : Nat) : Int))), .int (oI (((g : Nat) : Int)))]) := (hq_13 _ (by decide)).trans e0
    have e1 : σ_12 (2) = oAN cT 4 sz := (hq_13 _ (by decide)).trans e1
    have e2 : σ_12 (3) = oAJ cT 4 w := (hq_13 _ (by decide)).trans e2
    have em0 : σ_12 (3 * nx + 15) = .inr (4, [.ref (ad (3 * nx + 16)), .ref (ad (3 * nx + 17)), .int (oI (((n : Nat) : Int))), .int (oI (((a : Nat) : Int))), .int (oI (((g : Nat) : Int)))]) := (hq_13 _ (by omega)).trans em0
    have em1 : σ_12 (3 * nx + 16) = oAN cT 4 sz1 := (hq_13 _ (by omega)).trans em1
    have em2 : σ_12 (3 * nx + 17) = oAJ cT 4 w1 := (hq_13 _ (by omega)).trans em2
    have hf : ∀ q : Nat, q ≠ 13 → q ≠ (3 * nx + 15) → q ≠ (3 * nx + 16) → q ≠ (3 * nx + 17) → σ_12 q = σ q := fun q n0 n1 n2 n3 => (hq_13 q n0).trans (hf q n0 n1 n2 n3)
    refine lv_aload_n hx hb dX2_keep_69 rfl (lv_at hl 0 rfl) ?_
    refine lv_aload_n hx hb dX2_keep_70 rfl (lv_at hl 0 rfl) ?_
    refine gf_X2_size hx hb hts hown hK hH (k := 13) (by omega) eM dX2_keep_71 ?_
    refine m_iconst 1 hx hb dX2_keep_74 rfl ?_
    refine m_iadd (((ms : Nat) : Int) + 1) hx hb dX2_keep_75 (by omega) ?_
    refine m_bipush 14 hx hb dX2_keep_76 (by decide) ?_
    refine m_mmin (((min (ms + 1) 14 : Nat) : Int)) hx hb hml hl hown hts (index := 29) (hts _ (o_in0 (List.mem_of_getElem? (i := 633) (by decide +kernel)))) (Nat.le_of_ble_eq_true rfl) (Nat.le_of_ble_eq_true rfl) ⟨Nat.le_of_ble_eq_true rfl, Nat.le_of_ble_eq_true rfl⟩ (by omega) (by omega) (by rw [Nat.min_def]; split <;> split <;> omega) dX2_keep_78 ?_
    refine pf_X2_size hx hb hts hown hK hH hA (k := 13) (by omega) eM dX2_keep_81 (fun H locs σ_14 eM hq_15 hH => ?_)
    have eA : σ_14 (14) = oAO cT 14 (oMem ad) := (hq_15 _ (by decide)).trans eA
    have e0 : σ_14 (1) = .inr (4, [.ref (ad (2)), .ref (ad (3)), .int (oI (((n : Nat) : Int))), .int (oI (((a : Nat) : Int))), .int (oI (((g : Nat) : Int)))]) := (hq_15 _ (by decide)).trans e0
    have e1 : σ_14 (2) = oAN cT 4 sz := (hq_15 _ (by decide)).trans e1
    have e2 : σ_14 (3) = oAJ cT 4 w := (hq_15 _ (by decide)).trans e2
    have em0 : σ_14 (3 * nx + 15) = .inr (4, [.ref (ad (3 * nx + 16)), .ref (ad (3 * nx + 17)), .int (oI (((n : Nat) : Int))), .int (oI (((a : Nat) : Int))), .int (oI (((g : Nat) : Int)))]) := (hq_15 _ (by omega)).trans em0
    have em1 : σ_14 (3 * nx + 16) = oAN cT 4 sz1 := (hq_15 _ (by omega)).trans em1
    have em2 : σ_14 (3 * nx + 17) = oAJ cT 4 w1 := (hq_15 _ (by omega)).trans em2
    have hf : ∀ q : Nat, q ≠ 13 → q ≠ (3 * nx + 15) → q ≠ (3 * nx + 16) → q ≠ (3 * nx + 17) → σ_14 q = σ q := fun q n0 n1 n2 n3 => (hq_15 q n0).trans (hf q n0 n1 n2 n3)
    exact m_vret hx hb hlk hrt hH dX2_keep_84 ⟨sz1, w1, hsw, by rw [eM, if_pos (by omega)]; rfl, em0, em1, em2, hf⟩
set_option maxHeartbeats 4000000 in
set_option maxRecDepth 100000 in
theorem c2_forget {l : Launch} {D : va_G} {cT : Nat → ClassId} {N b0 : Nat} {ad : Nat → Nat} (hA : oAd b0 N ad) {σ : Nat → va_E} (nx ms : Nat) (hN : 76 ≤ N) (eM : σ (13) = .inr (2, [.ref (ad (14)), .int (oI (((nx : Nat) : Int))), .int (oI (((ms : Nat) : Int)))])) :
    oCv l D cT N ad b0 yX2_forget cX2_forget 1 none 0 0 [.ref (ad (13))] σ (fun uu => uu (13) = .inr (2, [.ref (ad (14)), .int (oI (((nx : Nat) : Int))), .int (oI (0))]) ∧ (∀ q : Nat, q ≠ 13 → uu q = σ q)) := by
  refine m_start (cc := cX2_forget) (by decide) (Nat.le_of_ble_eq_true rfl) rfl ?_
  intro Pp Ee Ss Mm Bb Me Cc Ar ls hx hb hml hown hlk hrt hts hK hH hl
  have hown : Ss.vm.findClass RX2 = some Mm.cls := hown
  have hl : lv_has ls 1 [(0, .ref (ad (13)))] := hl
  have hf : ∀ q : Nat, q ≠ 13 → σ q = σ q := fun q _ => rfl
  refine lv_aload_n hx hb dX2_forget_0 rfl (lv_at hl 0 rfl) ?_
  refine m_iconst 0 hx hb dX2_forget_1 rfl ?_
  refine pf_X2_size hx hb hts hown hK hH hA (k := 13) (by omega) eM dX2_forget_2 (fun H locs σ_1 eM hq_2 hH => ?_)
  have hf : ∀ q : Nat, q ≠ 13 → σ_1 q = σ q := fun q n0 => (hq_2 q n0).trans (hf q n0)
  exact m_vret hx hb hlk hrt hH dX2_forget_5 ⟨eM, hf⟩
set_option maxHeartbeats 4000000 in
set_option maxRecDepth 100000 in
theorem c2_size {l : Launch} {D : va_G} {cT : Nat → ClassId} {N b0 : Nat} {ad : Nat → Nat} (hA : oAd b0 N ad) {σ : Nat → va_E} (nx ms : Nat) (hN : 76 ≤ N) (eM : σ (13) = .inr (2, [.ref (ad (14)), .int (oI (((nx : Nat) : Int))), .int (oI (((ms : Nat) : Int)))])) :
    oCi l D cT N ad b0 yX2_size cX2_size 1 (some .int) 0 0 [.ref (ad (13))] σ (fun rr uu => rr = oI (((ms : Nat) : Int)) ∧ uu = σ) := by
  refine m_start (cc := cX2_size) (by decide) (Nat.le_of_ble_eq_true rfl) rfl ?_
  intro Pp Ee Ss Mm Bb Me Cc Ar ls hx hb hml hown hlk hrt hts hK hH hl
  have hown : Ss.vm.findClass RX2 = some Mm.cls := hown
  have hl : lv_has ls 1 [(0, .ref (ad (13)))] := hl
  refine lv_aload_n hx hb dX2_size_0 rfl (lv_at hl 0 rfl) ?_
  refine gf_X2_size hx hb hts hown hK hH (k := 13) (by omega) eM dX2_size_1 ?_
  exact m_iret hx hb hlk hrt hH (m_ni _) dX2_size_4 ⟨rfl, rfl⟩
