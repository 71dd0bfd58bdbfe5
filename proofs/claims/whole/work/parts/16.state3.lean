set_option maxHeartbeats 4000000 in
set_option maxRecDepth 100000 in
theorem c4_begin {l : Launch} {D : va_G} {cT : Nat → ClassId} {N b0 : Nat} {ad : Nat → Nat} (hA : oAd b0 N ad) {σ : Nat → va_E} (j n a g : Nat) (sz w : Nat → Nat) (hj : j + 2 < N) (e0 : σ (j) = .inr (4, [.ref (ad (j + 1)), .ref (ad (j + 2)), .int (oI (((n : Nat) : Int))), .int (oI (((a : Nat) : Int))), .int (oI (((g : Nat) : Int)))])) :
    oCv l D cT N ad b0 yX4_begin cX4_begin 1 none 0 0 [.ref (ad (j))] σ (fun uu => uu (j) = .inr (4, [.ref (ad (j + 1)), .ref (ad (j + 2)), .int (oI (0)), .int (oI (2)), .int (oI (40))]) ∧ (∀ q : Nat, q ≠ j → uu q = σ q)) := by
  refine m_start (cc := cX4_begin) (by decide) (Nat.le_of_ble_eq_true rfl) rfl ?_
  intro Pp Ee Ss Mm Bb Me Cc Ar ls hx hb hml hown hlk hrt hts hK hH hl
  have hown : Ss.vm.findClass RX4 = some Mm.cls := hown
  have hl : lv_has ls 1 [(0, .ref (ad (j)))] := hl
  have hf : ∀ q : Nat, q ≠ j → σ q = σ q := fun q _ => rfl
  refine lv_aload_n hx hb dX4_begin_0 rfl (lv_at hl 0 rfl) ?_
  refine m_iconst 0 hx hb dX4_begin_1 rfl ?_
  refine pf_X4_rulers hx hb hts hown hK hH hA (k := j) (by omega) e0 dX4_begin_2 (fun H locs σ_1 e0 hq_2 hH => ?_)
  have hf : ∀ q : Nat, q ≠ j → σ_1 q = σ q := fun q n0 => (hq_2 q n0).trans (hf q n0)
  refine lv_aload_n hx hb dX4_begin_5 rfl (lv_at hl 0 rfl) ?_
  refine m_iconst 2 hx hb dX4_begin_6 rfl ?_
  refine pf_X4_allowed hx hb hts hown hK hH hA (k := j) (by omega) e0 dX4_begin_7 (fun H locs σ_3 e0 hq_4 hH => ?_)
  have hf : ∀ q : Nat, q ≠ j → σ_3 q = σ q := fun q n0 => (hq_4 q n0).trans (hf q n0)
  refine lv_aload_n hx hb dX4_begin_10 rfl (lv_at hl 0 rfl) ?_
  refine m_bipush 40 hx hb dX4_begin_11 (by decide) ?_
  refine pf_X4_range hx hb hts hown hK hH hA (k := j) (by omega) e0 dX4_begin_13 (fun H locs σ_5 e0 hq_6 hH => ?_)
  have hf : ∀ q : Nat, q ≠ j → σ_5 q = σ q := fun q n0 => (hq_6 q n0).trans (hf q n0)
  exact m_vret hx hb hlk hrt hH dX4_begin_16 ⟨e0, hf⟩
set_option maxHeartbeats 4000000 in
set_option maxRecDepth 100000 in
theorem c4_put {l : Launch} {D : va_G} {cT : Nat → ClassId} {N b0 : Nat} {ad : Nat → Nat} (hA : oAd b0 N ad) {σ : Nat → va_E} (j n a g r x v : Nat) (sz w : Nat → Nat) (hj : j + 2 < N) (hr : r < 4) (e0 : σ (j) = .inr (4, [.ref (ad (j + 1)), .ref (ad (j + 2)), .int (oI (((n : Nat) : Int))), .int (oI (((a : Nat) : Int))), .int (oI (((g : Nat) : Int)))])) (e1 : σ (j + 1) = oAN cT 4 sz) (e2 : σ (j + 2) = oAJ cT 4 w) :
    oCv l D cT N ad b0 yX4_put cX4_put 5 none 0 0 [.ref (ad (j)), .int (oI (((r : Nat) : Int))), .int (oI (((x : Nat) : Int))), .long (lN (v))] σ (fun uu => uu (j + 1) = oAN cT 4 (va_up sz r x) ∧ uu (j + 2) = oAJ cT 4 (va_up w r v) ∧ (∀ q : Nat, q ≠ (j + 1) → q ≠ (j + 2) → uu q = σ q)) := by
  refine m_start (cc := cX4_put) (by decide) (Nat.le_of_ble_eq_true rfl) rfl ?_
  intro Pp Ee Ss Mm Bb Me Cc Ar ls hx hb hml hown hlk hrt hts hK hH hl
  have hown : Ss.vm.findClass RX4 = some Mm.cls := hown
  have hl : lv_has ls 5 [(0, .ref (ad (j))), (1, .int (oI (((r : Nat) : Int)))), (2, .int (oI (((x : Nat) : Int)))), (3, .long (lN (v)))] := hl
  have hf : ∀ q : Nat, q ≠ (j + 1) → q ≠ (j + 2) → σ q = σ q := fun q _ _ => rfl
  refine lv_iload_n hx hb dX4_put_0 rfl (lv_at hl 1 rfl) ?_
  refine m_if_lt 36 hx hb dX4_put_1 (by decide) (by omega) (fun h_1 => absurd h_1 (by omega)) (fun h_1 => ?_)
  refine lv_iload_n hx hb dX4_put_4 rfl (lv_at hl 1 rfl) ?_
  refine lv_aload_n hx hb dX4_put_5 rfl (lv_at hl 0 rfl) ?_
  refine gf_X4_sizes hx hb hts hown hK hH (k := j) (by omega) e0 dX4_put_6 ?_
  refine m_alen hx hb hK hH (k := j + 1) (by omega) e1 0 rfl 4 rfl dX4_put_9 ?_
  refine m_icmp_ge 36 hx hb dX4_put_10 (by decide) (by omega) (by omega) (fun h_2 => absurd h_2 (by omega)) (fun h_2 => ?_)
  refine lv_iload_n hx hb dX4_put_13 rfl (lv_at hl 1 rfl) ?_
  refine lv_aload_n hx hb dX4_put_14 rfl (lv_at hl 0 rfl) ?_
  refine gf_X4_rows hx hb hts hown hK hH (k := j) (by omega) e0 dX4_put_15 ?_
  refine m_alen hx hb hK hH (k := j + 2) (by omega) e2 1 rfl 4 rfl dX4_put_18 ?_
  refine m_icmp_ge 36 hx hb dX4_put_19 (by decide) (by omega) (by omega) (fun h_3 => absurd h_3 (by omega)) (fun h_3 => ?_)
  refine lv_aload_n hx hb dX4_put_22 rfl (lv_at hl 0 rfl) ?_
  refine gf_X4_sizes hx hb hts hown hK hH (k := j) (by omega) e0 dX4_put_23 ?_
  refine lv_iload_n hx hb dX4_put_26 rfl (lv_at hl 1 rfl) ?_
  refine lv_iload_n hx hb dX4_put_27 rfl (lv_at hl 2 rfl) ?_
  refine m_iast hx hb hK hH hA (k := j + 1) (by omega) e1 (r) (by omega) (by omega) (by decide) dX4_put_28 (fun H locs σ_4 e1 hq_5 hH => ?_)
  have e1 : σ_4 (j + 1) = oAN cT 4 (va_up sz r x) := e1.trans (oAN_up _ _ _ _ _)
  have e0 : σ_4 (j) = .inr (4, [.ref (ad (j + 1)), .ref (ad (j + 2)), .int (oI (((n : Nat) : Int))), .int (oI (((a : Nat) : Int))), .int (oI (((g : Nat) : Int)))]) := (hq_5 _ (by omega)).trans e0
  have e2 : σ_4 (j + 2) = oAJ cT 4 w := (hq_5 _ (by omega)).trans e2
  have hf : ∀ q : Nat, q ≠ (j + 1) → q ≠ (j + 2) → σ_4 q = σ q := fun q n0 n1 => (hq_5 q n0).trans (hf q n0 n1)
  refine lv_aload_n hx hb dX4_put_29 rfl (lv_at hl 0 rfl) ?_
  refine gf_X4_rows hx hb hts hown hK hH (k := j) (by omega) e0 dX4_put_30 ?_
  refine lv_iload_n hx hb dX4_put_33 rfl (lv_at hl 1 rfl) ?_
  refine lv_lload_n hx hb dX4_put_34 rfl (lv_at hl 3 rfl) ?_
  refine m_last hx hb hK hH hA (k := j + 2) (by omega) e2 (r) (by omega) (by omega) (by decide) dX4_put_35 (fun H locs σ_6 e2 hq_7 hH => ?_)
  have e2 : σ_6 (j + 2) = oAJ cT 4 (va_up w r v) := e2.trans (oAJ_up _ _ _ _ _)
  have e0 : σ_6 (j) = .inr (4, [.ref (ad (j + 1)), .ref (ad (j + 2)), .int (oI (((n : Nat) : Int))), .int (oI (((a : Nat) : Int))), .int (oI (((g : Nat) : Int)))]) := (hq_7 _ (by omega)).trans e0
  have e1 : σ_6 (j + 1) = oAN cT 4 (va_up sz r x) := (hq_7 _ (by omega)).trans e1
  have hf : ∀ q : Nat, q ≠ (j + 1) → q ≠ (j + 2) → σ_6 q = σ q := fun q n0 n1 => (hq_7 q n1).trans (hf q n0 n1)
  exact m_vret hx hb hlk hrt hH dX4_put_36 ⟨e1, e2, hf⟩
set_option maxHeartbeats 4000000 in
set_option maxRecDepth 100000 in
theorem c4_become {l : Launch} {D : va_G} {cT : Nat → ClassId} {N b0 : Nat} {ad : Nat → Nat} (hA : oAd b0 N ad) {σ : Nat → va_E} (j n a g j2 n2 a2 g2 : Nat) (sz w sz2 w2 : Nat → Nat) (hj : j + 2 < N) (hj2 : j2 + 2 < N) (hdis : j + 2 < j2 ∨ j2 + 2 < j) (hn2 : n2 ≤ 4) (e0 : σ (j) = .inr (4, [.ref (ad (j + 1)), .ref (ad (j + 2)), .int (oI (((n : Nat) : Int))), .int (oI (((a : Nat) : Int))), .int (oI (((g : Nat) : Int)))])) (e1 : σ (j + 1) = oAN cT 4 sz) (e2 : σ (j + 2) = oAJ cT 4 w) (e3 : σ (j2) = .inr (4, [.ref (ad (j2 + 1)), .ref (ad (j2 + 2)), .int (oI (((n2 : Nat) : Int))), .int (oI (((a2 : Nat) : Int))), .int (oI (((g2 : Nat) : Int)))])) (e4 : σ (j2 + 1) = oAN cT 4 sz2) (e5 : σ (j2 + 2) = oAJ cT 4 w2) :
    oCv l D cT N ad b0 yX4_become cX4_become 3 none 1 24 [.ref (ad (j)), .ref (ad (j2))] σ (fun uu => ∃ sz1 : Nat → Nat, ∃ w1 : Nat → Nat, (∀ r : Nat, r < n2 → sz1 r = sz2 r ∧ w1 r = w2 r) ∧ uu (j) = .inr (4, [.ref (ad (j + 1)), .ref (ad (j + 2)), .int (oI (((n2 : Nat) : Int))), .int (oI (((a2 : Nat) : Int))), .int (oI (((g2 : Nat) : Int)))]) ∧ uu (j + 1) = oAN cT 4 sz1 ∧ uu (j + 2) = oAJ cT 4 w1 ∧ (∀ q : Nat, q ≠ j → q ≠ (j + 1) → q ≠ (j + 2) → uu q = σ q)) := by
  refine m_start (cc := cX4_become) (by decide) (Nat.le_of_ble_eq_true rfl) rfl ?_
  intro Pp Ee Ss Mm Bb Me Cc Ar ls hx hb hml hown hlk hrt hts hK hH hl
  have hown : Ss.vm.findClass RX4 = some Mm.cls := hown
  have hl : lv_has ls 3 [(0, .ref (ad (j))), (1, .ref (ad (j2)))] := hl
  have hf : ∀ q : Nat, q ≠ j → q ≠ (j + 1) → q ≠ (j + 2) → σ q = σ q := fun q _ _ _ => rfl
  refine lv_aload_n hx hb dX4_become_0 rfl (lv_at hl 1 rfl) ?_
  refine lv_ifnonnull (tgt := 5) hx hb dX4_become_1 (by decide) ?_
  refine m_iconst 0 hx hb dX4_become_5 rfl ?_
  refine lv_istore_n (lv' := [(2, .int (oI (0))), (0, .ref (ad (j))), (1, .ref (ad (j2)))]) hx hb dX4_become_6 rfl hl (by decide) rfl (fun ls hl => ?_)
  have L7 : ∀ (fu : Nat) (i : Nat) (szi : Nat → Nat) (wi : Nat → Nat), (4 - i < fu) → (i ≤ 4) → (∀ r : Nat, r < i → szi r = oSize n2 sz2 ((r : Nat) : Int) ∧ wi r = oRow n2 w2 ((r : Nat) : Int)) → ∀ σL7 : Nat → va_E, σL7 (j + 1) = oAN cT 4 szi → σL7 (j + 2) = oAJ cT 4 wi → (∀ q : Nat, q ≠ (j + 1) → q ≠ (j + 2) → σL7 q = σ q) → ∀ (H : Heap) (locs : List Loc), oH b0 D N ad Ss.heap σL7 H locs → ∀ ls : Array Slot, lv_has ls 3 [(0, .ref (ad (j))), (1, .ref (ad (j2))), (2, .int (oI (((i : Nat) : Int))))] → W Pp l Ee { frames := 1, cells := 0, slots := 0, locals := 24 } Ss Mm Ar Bb Me Cc H locs 0 0 (MQ Bb (va_Qv (fun uu => ∃ sz1 : Nat → Nat, ∃ w1 : Nat → Nat, (∀ r : Nat, r < n2 → sz1 r = sz2 r ∧ w1 r = w2 r) ∧ uu (j) = .inr (4, [.ref (ad (j + 1)), .ref (ad (j + 2)), .int (oI (((n2 : Nat) : Int))), .int (oI (((a2 : Nat) : Int))), .int (oI (((g2 : Nat) : Int)))]) ∧ uu (j + 1) = oAN cT 4 sz1 ∧ uu (j + 2) = oAJ cT 4 w1 ∧ (∀ q : Nat, q ≠ j → q ≠ (j + 1) → q ≠ (j + 2) → uu q = σ q)) (oV D N ad) (fun q => b0 ≤ q)) Ar Ss 0 0 (fun q => b0 ≤ q)) (F0 Mm 7 ls []) := by
    intro fu7
    induction fu7 with
    | zero =>
      intro i szi wi hm7
      exact absurd hm7 (Nat.not_lt_zero _)
    | succ fu7 ih7 =>
      intro i szi wi hm7 hi hc σL7 e1 e2 hL7 H locs hH ls hl
      have e0 : σL7 (j) = .inr (4, [.ref (ad (j + 1)), .ref (ad (j + 2)), .int (oI (((n : Nat) : Int))), .int (oI (((a : Nat) : Int))), .int (oI (((g : Nat) : Int)))]) := (hL7 _ (by omega) (by omega)).trans e0
      have e3 : σL7 (j2) = .inr (4, [.ref (ad (j2 + 1)), .ref (ad (j2 + 2)), .int (oI (((n2 : Nat) : Int))), .int (oI (((a2 : Nat) : Int))), .int (oI (((g2 : Nat) : Int)))]) := (hL7 _ (by omega) (by omega)).trans e3
      have e4 : σL7 (j2 + 1) = oAN cT 4 sz2 := (hL7 _ (by omega) (by omega)).trans e4
      have e5 : σL7 (j2 + 2) = oAJ cT 4 w2 := (hL7 _ (by omega) (by omega)).trans e5
      have hf : ∀ q : Nat, q ≠ j → q ≠ (j + 1) → q ≠ (j + 2) → σL7 q = σ q := fun q n0 n1 n2 => (hL7 q n1 n2).trans (hf q n0 n1 n2)
      refine lv_iload_n hx hb dX4_become_7 rfl (lv_at hl 2 rfl) ?_
      refine m_iconst 4 hx hb dX4_become_8 rfl ?_
      refine m_icmp_ge 33 hx hb dX4_become_9 (by decide) (by omega) (by omega) (fun h_1 => ?_) (fun h_1 => ?_)
      · refine lv_aload_n hx hb dX4_become_33 rfl (lv_at hl 0 rfl) ?_
        refine lv_aload_n hx hb dX4_become_34 rfl (lv_at hl 1 rfl) ?_
        refine gf_X4_rulers hx hb hts hown hK hH (k := j2) (by omega) e3 dX4_become_35 ?_
        refine pf_X4_rulers hx hb hts hown hK hH hA (k := j) (by omega) e0 dX4_become_38 (fun H locs σ_2 e0 hq_3 hH => ?_)
        have e1 : σ_2 (j + 1) = oAN cT 4 szi := (hq_3 _ (by omega)).trans e1
        have e2 : σ_2 (j + 2) = oAJ cT 4 wi := (hq_3 _ (by omega)).trans e2
        have e3 : σ_2 (j2) = .inr (4, [.ref (ad (j2 + 1)), .ref (ad (j2 + 2)), .int (oI (((n2 : Nat) : Int))), .int (oI (((a2 : Nat) : Int))), .int (oI (((g2 : Nat) : Int)))]) := (hq_3 _ (by omega)).trans e3
        have e4 : σ_2 (j2 + 1) = oAN cT 4 sz2 := (hq_3 _ (by omega)).trans e4
        have e5 : σ_2 (j2 + 2) = oAJ cT 4 w2 := (hq_3 _ (by omega)).trans e5
        have hf : ∀ q : Nat, q ≠ j → q ≠ (j + 1) → q ≠ (j + 2) → σ_2 q = σ q := fun q n0 n1 n2 => (hq_3 q n0).trans (hf q n0 n1 n2)
        refine lv_aload_n hx hb dX4_become_41 rfl (lv_at hl 0 rfl) ?_
        refine lv_aload_n hx hb dX4_become_42 rfl (lv_at hl 1 rfl) ?_
        refine gf_X4_allowed hx hb hts hown hK hH (k := j2) (by omega) e3 dX4_become_43 ?_
        refine pf_X4_allowed hx hb hts hown hK hH hA (k := j) (by omega) e0 dX4_become_46 (fun H locs σ_4 e0 hq_5 hH => ?_)
        have e1 : σ_4 (j + 1) = oAN cT 4 szi := (hq_5 _ (by omega)).trans e1
        have e2 : σ_4 (j + 2) = oAJ cT 4 wi := (hq_5 _ (by omega)).trans e2
        have e3 : σ_4 (j2) = .inr (4, [.ref (ad (j2 + 1)), .ref (ad (j2 + 2)), .int (oI (((n2 : Nat) : Int))), .int (oI (((a2 : Nat) : Int))), .int (oI (((g2 : Nat) : Int)))]) := (hq_5 _ (by omega)).trans e3
        have e4 : σ_4 (j2 + 1) = oAN cT 4 sz2 := (hq_5 _ (by omega)).trans e4
        have e5 : σ_4 (j2 + 2) = oAJ cT 4 w2 := (hq_5 _ (by omega)).trans e5
        have hf : ∀ q : Nat, q ≠ j → q ≠ (j + 1) → q ≠ (j + 2) → σ_4 q = σ q := fun q n0 n1 n2 => (hq_5 q n0).trans (hf q n0 n1 n2)
        refine lv_aload_n hx hb dX4_become_49 rfl (lv_at hl 0 rfl) ?_
        refine lv_aload_n hx hb dX4_become_50 rfl (lv_at hl 1 rfl) ?_
        refine gf_X4_range hx hb hts hown hK hH (k := j2) (by omega) e3 dX4_become_51 ?_
        refine pf_X4_range hx hb hts hown hK hH hA (k := j) (by omega) e0 dX4_become_54 (fun H locs σ_6 e0 hq_7 hH => ?_)
        have e1 : σ_6 (j + 1) = oAN cT 4 szi := (hq_7 _ (by omega)).trans e1
        have e2 : σ_6 (j + 2) = oAJ cT 4 wi := (hq_7 _ (by omega)).trans e2
        have e3 : σ_6 (j2) = .inr (4, [.ref (ad (j2 + 1)), .ref (ad (j2 + 2)), .int (oI (((n2 : Nat) : Int))), .int (oI (((a2 : Nat) : Int))), .int (oI (((g2 : Nat) : Int)))]) := (hq_7 _ (by omega)).trans e3
        have e4 : σ_6 (j2 + 1) = oAN cT 4 sz2 := (hq_7 _ (by omega)).trans e4
        have e5 : σ_6 (j2 + 2) = oAJ cT 4 w2 := (hq_7 _ (by omega)).trans e5
        have hf : ∀ q : Nat, q ≠ j → q ≠ (j + 1) → q ≠ (j + 2) → σ_6 q = σ q := fun q n0 n1 n2 => (hq_7 q n0).trans (hf q n0 n1 n2)
        exact m_vret hx hb hlk hrt hH dX4_become_57 ⟨szi, wi, (fun r hr => by have q := hc r (by omega); rw [oSize_in (by omega), oRow_in (by omega)] at q; exact q), e0, e1, e2, hf⟩
      · refine lv_aload_n hx hb dX4_become_12 rfl (lv_at hl 0 rfl) ?_
        refine lv_iload_n hx hb dX4_become_13 rfl (lv_at hl 2 rfl) ?_
        refine lv_aload_n hx hb dX4_become_14 rfl (lv_at hl 1 rfl) ?_
        refine lv_iload_n hx hb dX4_become_15 rfl (lv_at hl 2 rfl) ?_
        refine m_pVi hx hb hml hown hts hK hH hl (rest := [.int (oI (((i : Nat) : Int))), .ref (ad (j))]) cw_X4_32 (c4_size hA j2 n2 a2 g2 sz2 w2 ((i : Nat) : Int) (by first | assumption | omega) (by first | assumption | omega) (by first | assumption | omega) e3 e4 e5) ⟨Nat.le_of_ble_eq_true rfl, Nat.le_of_ble_eq_true rfl⟩ ⟨Nat.le_of_ble_eq_true rfl, Nat.le_of_ble_eq_true rfl⟩ rfl (k := j2) (by omega) e3 rfl rfl (Nat.le_of_ble_eq_true rfl) dX4_become_16 (fun H locs hH => ?_)
        refine lv_aload_n hx hb dX4_become_19 rfl (lv_at hl 1 rfl) ?_
        refine lv_iload_n hx hb dX4_become_20 rfl (lv_at hl 2 rfl) ?_
        refine m_pVn hx hb hml hown hts hK hH hl (rest := [.int (oI (((oSize n2 sz2 ((i : Nat) : Int) : Nat) : Int))), .int (oI (((i : Nat) : Int))), .ref (ad (j))]) cw_X4_36 (c4_row hA j2 n2 a2 g2 sz2 w2 ((i : Nat) : Int) (by first | assumption | omega) (by first | assumption | omega) (by first | assumption | omega) e3 e4 e5) ⟨Nat.le_of_ble_eq_true rfl, Nat.le_of_ble_eq_true rfl⟩ ⟨Nat.le_of_ble_eq_true rfl, Nat.le_of_ble_eq_true rfl⟩ rfl (k := j2) (by omega) e3 rfl rfl (Nat.le_of_ble_eq_true rfl) dX4_become_21 (fun H locs hH => ?_)
        refine m_callVv hx hb hml hown hts hK hH hl (rest := []) cw_X4_40 (c4_put hA j n a g i (oSize n2 sz2 ((i : Nat) : Int)) (oRow n2 w2 ((i : Nat) : Int)) szi wi (by first | assumption | omega) (by first | assumption | omega) e0 e1 e2) ⟨Nat.le_of_ble_eq_true rfl, Nat.le_of_ble_eq_true rfl⟩ ⟨Nat.le_of_ble_eq_true rfl, Nat.le_of_ble_eq_true rfl⟩ rfl (k := j) (by omega) e0 rfl rfl (Nat.le_of_ble_eq_true rfl) dX4_become_24 (fun σ_8 H locs hp_9 hH => ?_)
        obtain ⟨e1, e2, hq_10⟩ := hp_9
        have e0 : σ_8 (j) = .inr (4, [.ref (ad (j + 1)), .ref (ad (j + 2)), .int (oI (((n : Nat) : Int))), .int (oI (((a : Nat) : Int))), .int (oI (((g : Nat) : Int)))]) := (hq_10 _ (by omega) (by omega)).trans e0
        have e3 : σ_8 (j2) = .inr (4, [.ref (ad (j2 + 1)), .ref (ad (j2 + 2)), .int (oI (((n2 : Nat) : Int))), .int (oI (((a2 : Nat) : Int))), .int (oI (((g2 : Nat) : Int)))]) := (hq_10 _ (by omega) (by omega)).trans e3
        have e4 : σ_8 (j2 + 1) = oAN cT 4 sz2 := (hq_10 _ (by omega) (by omega)).trans e4
        have e5 : σ_8 (j2 + 2) = oAJ cT 4 w2 := (hq_10 _ (by omega) (by omega)).trans e5
        have hf : ∀ q : Nat, q ≠ j → q ≠ (j + 1) → q ≠ (j + 2) → σ_8 q = σ q := fun q n0 n1 n2 => (hq_10 q n1 n2).trans (hf q n0 n1 n2)
        have hL7 : ∀ q : Nat, q ≠ (j + 1) → q ≠ (j + 2) → σ_8 q = σ q := fun q n0 n1 => (hq_10 q n0 n1).trans (hL7 q n0 n1)
        refine m_iinc (((i : Nat) : Int) + 1) [(2, .int (oI (((i : Nat) : Int) + 1))), (0, .ref (ad (j))), (1, .ref (ad (j2)))] hx hb dX4_become_27 hl (j := 2) rfl (by omega) (by decide) rfl (fun ls hl => ?_)
        refine lv_goto (tgt := 7) hx hb dX4_become_30 (by decide) ?_
        exact ih7 (i + 1) (va_up szi i (oSize n2 sz2 ((i : Nat) : Int))) (va_up wi i (oRow n2 w2 ((i : Nat) : Int))) (by omega) (by first | assumption | omega) (fun r h => by
         by_cases e : r = i
         · rw [e, va_up_s, va_up_s]; exact ⟨rfl, rfl⟩
         · rw [va_up_n _ _ e, va_up_n _ _ e]; exact hc r (by omega)) _ e1 e2 (hL7) _ _ hH ls (lv_sub hl [1, 2, 0] rfl)
  exact L7 _ 0 sz w (Nat.lt_succ_self _) (by first | assumption | omega) (fun r h => absurd h (Nat.not_lt_zero _)) _ e1 e2 (fun q _ _ => rfl) _ _ hH ls (lv_sub hl [1, 2, 0] rfl)
set_option maxHeartbeats 4000000 in
set_option maxRecDepth 100000 in
theorem c4_addRuler {l : Launch} {D : va_G} {cT : Nat → ClassId} {N b0 : Nat} {ad : Nat → Nat} (hA : oAd b0 N ad) {σ : Nat → va_E} (j n a g : Nat) (sz w : Nat → Nat) (x : Nat) (hj : j + 2 < N) (hwf : oWf n sz w) (hn4 : n < 4) (hx2 : 2 ≤ x ∧ x ≤ 40) (e0 : σ (j) = .inr (4, [.ref (ad (j + 1)), .ref (ad (j + 2)), .int (oI (((n : Nat) : Int))), .int (oI (((a : Nat) : Int))), .int (oI (((g : Nat) : Int)))])) (e1 : σ (j + 1) = oAN cT 4 sz) (e2 : σ (j + 2) = oAJ cT 4 w) :
    oCi l D cT N ad b0 yX4_addRuler cX4_addRuler 2 (some .int) 1 24 [.ref (ad (j)), .int (oI (((x : Nat) : Int)))] σ (fun rr uu => rr = oI (((n : Nat) : Int)) ∧ uu (j) = .inr (4, [.ref (ad (j + 1)), .ref (ad (j + 2)), .int (oI (((n : Nat) : Int) + 1)), .int (oI (((a : Nat) : Int))), .int (oI (((g : Nat) : Int)))]) ∧ uu (j + 1) = oAN cT 4 (va_up sz n x) ∧ uu (j + 2) = oAJ cT 4 (va_up w n (1 ||| 2 ^ x)) ∧ (∀ q : Nat, q ≠ j → q ≠ (j + 1) → q ≠ (j + 2) → uu q = σ q)) := by
  refine m_start (cc := cX4_addRuler) (by decide) (Nat.le_of_ble_eq_true rfl) rfl ?_
  intro Pp Ee Ss Mm Bb Me Cc Ar ls hx hb hml hown hlk hrt hts hK hH hl
  have hown : Ss.vm.findClass RX4 = some Mm.cls := hown
  have hn := hwf.1
  have hsz := oSize_le hwf
  have hw64 := oRow_64 hwf
  have hw41 := oRow_lt hwf
  have hl : lv_has ls 2 [(0, .ref (ad (j))), (1, .int (oI (((x : Nat) : Int))))] := hl
  have hf : ∀ q : Nat, q ≠ j → q ≠ (j + 1) → q ≠ (j + 2) → σ q = σ q := fun q _ _ _ => rfl
  refine lv_aload_n hx hb dX4_addRuler_0 rfl (lv_at hl 0 rfl) ?_
  refine lv_aload_n hx hb dX4_addRuler_1 rfl (lv_at hl 0 rfl) ?_
  refine gf_X4_rulers hx hb hts hown hK hH (k := j) (by omega) e0 dX4_addRuler_2 ?_
  refine lv_iload_n hx hb dX4_addRuler_5 rfl (lv_at hl 1 rfl) ?_
  refine m_lconstN 1 hx hb dX4_addRuler_6 rfl ?_
  refine m_lconstN 1 hx hb dX4_addRuler_7 rfl ?_
  refine lv_iload_n hx hb dX4_addRuler_8 rfl (lv_at hl 1 rfl) ?_
  refine m_lshl (2 ^ x) hx hb dX4_addRuler_9 (by omega) (Nat.one_mul _) ?_
  refine m_lor (1 ||| (2 ^ x)) hx hb dX4_addRuler_10 (rfl) ?_
  refine m_callVv hx hb hml hown hts hK hH hl (rest := []) cw_X4_40 (c4_put hA j n a g n x (1 ||| (2 ^ x)) sz w (by first | assumption | omega) (by first | assumption | omega) e0 e1 e2) ⟨Nat.le_of_ble_eq_true rfl, Nat.le_of_ble_eq_true rfl⟩ ⟨Nat.le_of_ble_eq_true rfl, Nat.le_of_ble_eq_true rfl⟩ rfl (k := j) (by omega) e0 rfl rfl (Nat.le_of_ble_eq_true rfl) dX4_addRuler_11 (fun σ_1 H locs hp_2 hH => ?_)
  obtain ⟨e1, e2, hq_3⟩ := hp_2
  have e0 : σ_1 (j) = .inr (4, [.ref (ad (j + 1)), .ref (ad (j + 2)), .int (oI (((n : Nat) : Int))), .int (oI (((a : Nat) : Int))), .int (oI (((g : Nat) : Int)))]) := (hq_3 _ (by omega) (by omega)).trans e0
  have hf : ∀ q : Nat, q ≠ j → q ≠ (j + 1) → q ≠ (j + 2) → σ_1 q = σ q := fun q n0 n1 n2 => (hq_3 q n1 n2).trans (hf q n0 n1 n2)
  refine lv_aload_n hx hb dX4_addRuler_14 rfl (lv_at hl 0 rfl) ?_
  refine lv_dup hx hb dX4_addRuler_15 rfl ?_
  refine gf_X4_rulers hx hb hts hown hK hH (k := j) (by omega) e0 dX4_addRuler_16 ?_
  refine m_iconst 1 hx hb dX4_addRuler_19 rfl ?_
  refine m_iadd (((n : Nat) : Int) + 1) hx hb dX4_addRuler_20 (by omega) ?_
  refine pf_X4_rulers hx hb hts hown hK hH hA (k := j) (by omega) e0 dX4_addRuler_21 (fun H locs σ_5 e0 hq_6 hH => ?_)
  have e1 : σ_5 (j + 1) = oAN cT 4 (va_up sz n x) := (hq_6 _ (by omega)).trans e1
  have e2 : σ_5 (j + 2) = oAJ cT 4 (va_up w n (1 ||| (2 ^ x))) := (hq_6 _ (by omega)).trans e2
  have hf : ∀ q : Nat, q ≠ j → q ≠ (j + 1) → q ≠ (j + 2) → σ_5 q = σ q := fun q n0 n1 n2 => (hq_6 q n0).trans (hf q n0 n1 n2)
  refine lv_aload_n hx hb dX4_addRuler_24 rfl (lv_at hl 0 rfl) ?_
  refine gf_X4_rulers hx hb hts hown hK hH (k := j) (by omega) e0 dX4_addRuler_25 ?_
  refine m_iconst 1 hx hb dX4_addRuler_28 rfl ?_
  refine m_isub (((n : Nat) : Int)) hx hb dX4_addRuler_29 (by omega) ?_
  exact m_iret hx hb hlk hrt hH (m_ni _) dX4_addRuler_30 ⟨rfl, e0, e1, e2, hf⟩
set_option maxHeartbeats 4000000 in
set_option maxRecDepth 100000 in
theorem c4_putMark1 {l : Launch} {D : va_G} {cT : Nat → ClassId} {N b0 : Nat} {ad : Nat → Nat} (hA : oAd b0 N ad) {σ : Nat → va_E} (j n a g : Nat) (sz w : Nat → Nat) (r p : Nat) (hj : j + 2 < N) (hwf : oWf n sz w) (hr : r < n) (hp : p ≤ sz r) (e0 : σ (j) = .inr (4, [.ref (ad (j + 1)), .ref (ad (j + 2)), .int (oI (((n : Nat) : Int))), .int (oI (((a : Nat) : Int))), .int (oI (((g : Nat) : Int)))])) (e1 : σ (j + 1) = oAN cT 4 sz) (e2 : σ (j + 2) = oAJ cT 4 w) :
    oCi l D cT N ad b0 yX4_putMark cX4_putMark 6 (some .int) 2 42 [.ref (ad (j)), .int (oI (((r : Nat) : Int))), .int (oI (((p : Nat) : Int))), .int (oI (1))] σ (fun rr uu => rr = oI (((pcnt (oSet1 (w r) p) : Nat) : Int)) ∧ uu (j + 1) = oAN cT 4 sz ∧ uu (j + 2) = oAJ cT 4 (va_up w r (oSet1 (w r) p)) ∧ (∀ q : Nat, q ≠ (j + 1) → q ≠ (j + 2) → uu q = σ q)) := by
  refine m_start (cc := cX4_putMark) (by decide) (Nat.le_of_ble_eq_true rfl) rfl ?_
  intro Pp Ee Ss Mm Bb Me Cc Ar ls hx hb hml hown hlk hrt hts hK hH hl
  have hown : Ss.vm.findClass RX4 = some Mm.cls := hown
  have hn := hwf.1
  have hsz := oSize_le hwf
  have hw64 := oRow_64 hwf
  have hw41 := oRow_lt hwf
  have hs40 := (hwf.2 r hr).2.1
  have hl : lv_has ls 6 [(0, .ref (ad (j))), (1, .int (oI (((r : Nat) : Int)))), (2, .int (oI (((p : Nat) : Int)))), (3, .int (oI (1)))] := hl
  have hf : ∀ q : Nat, q ≠ (j + 1) → q ≠ (j + 2) → σ q = σ q := fun q _ _ => rfl
  refine m_lconstN 1 hx hb dX4_putMark_0 rfl ?_
  refine lv_iload_n hx hb dX4_putMark_1 rfl (lv_at hl 2 rfl) ?_
  refine m_lshl (2 ^ p) hx hb dX4_putMark_2 (by omega) (Nat.one_mul _) ?_
  refine lv_lstore (lv' := [(4, .long (lN (2 ^ p))), (0, .ref (ad (j))), (1, .int (oI (((r : Nat) : Int)))), (2, .int (oI (((p : Nat) : Int)))), (3, .int (oI (1)))]) hx hb dX4_putMark_3 hl (by decide) rfl (fun ls hl => ?_)
  refine lv_aload_n hx hb dX4_putMark_5 rfl (lv_at hl 1 rfl) ?_
  refine lv_iload_n hx hb dX4_putMark_6 rfl (lv_at hl 2 rfl) ?_
  refine lv_aload_n hx hb dX4_putMark_7 rfl (lv_at hl 1 rfl) ?_
  refine lv_iload_n hx hb dX4_putMark_8 rfl (lv_at hl 2 rfl) ?_
  refine m_pVi hx hb hml hown hts hK hH hl (rest := [.int (oI (((r : Nat) : Int))), .ref (ad (j))]) cw_X4_32 (c4_size hA j n a g sz w ((r : Nat) : Int) (by first | assumption | omega) (by first | assumption | omega) (by first | assumption | omega) e0 e1 e2) ⟨Nat.le_of_ble_eq_true rfl, Nat.le_of_ble_eq_true rfl⟩ ⟨Nat.le_of_ble_eq_true rfl, Nat.le_of_ble_eq_true rfl⟩ rfl (k := j) (by omega) e0 rfl rfl (Nat.le_of_ble_eq_true rfl) dX4_putMark_9 (fun H locs hH => ?_)
  refine lv_iload_n hx hb dX4_putMark_12 rfl (lv_at hl 4 rfl) ?_
  refine m_if_eq 27 hx hb dX4_putMark_13 (by decide) (by omega) (fun h_1 => absurd h_1 (by omega)) (fun h_1 => ?_)
  refine lv_aload_n hx hb dX4_putMark_16 rfl (lv_at hl 1 rfl) ?_
  refine lv_iload_n hx hb dX4_putMark_17 rfl (lv_at hl 2 rfl) ?_
  refine m_pVn hx hb hml hown hts hK hH hl (rest := [.int (oI (((oSize n sz ((r : Nat) : Int) : Nat) : Int))), .int (oI (((r : Nat) : Int))), .ref (ad (j))]) cw_X4_36 (c4_row hA j n a g sz w ((r : Nat) : Int) (by first | assumption | omega) (by first | assumption | omega) (by first | assumption | omega) e0 e1 e2) ⟨Nat.le_of_ble_eq_true rfl, Nat.le_of_ble_eq_true rfl⟩ ⟨Nat.le_of_ble_eq_true rfl, Nat.le_of_ble_eq_true rfl⟩ rfl (k := j) (by omega) e0 rfl rfl (Nat.le_of_ble_eq_true rfl) dX4_putMark_18 (fun H locs hH => ?_)
  refine lv_lload hx hb dX4_putMark_21 (lv_at hl 0 rfl) ?_
  refine m_lor ((oRow n w ((r : Nat) : Int)) ||| (2 ^ p)) hx hb dX4_putMark_23 (rfl) ?_
  refine lv_goto (tgt := 39) hx hb dX4_putMark_24 (by decide) ?_
  refine m_callVv hx hb hml hown hts hK hH hl (rest := []) cw_X4_40 (c4_put hA j n a g r (oSize n sz ((r : Nat) : Int)) ((oRow n w ((r : Nat) : Int)) ||| (2 ^ p)) sz w (by first | assumption | omega) (by first | assumption | omega) e0 e1 e2) ⟨Nat.le_of_ble_eq_true rfl, Nat.le_of_ble_eq_true rfl⟩ ⟨Nat.le_of_ble_eq_true rfl, Nat.le_of_ble_eq_true rfl⟩ rfl (k := j) (by omega) e0 rfl rfl (Nat.le_of_ble_eq_true rfl) dX4_putMark_39 (fun σ_2 H locs hp_3 hH => ?_)
  obtain ⟨e1, e2, hq_4⟩ := hp_3
  have e0 : σ_2 (j) = .inr (4, [.ref (ad (j + 1)), .ref (ad (j + 2)), .int (oI (((n : Nat) : Int))), .int (oI (((a : Nat) : Int))), .int (oI (((g : Nat) : Int)))]) := (hq_4 _ (by omega) (by omega)).trans e0
  have hf : ∀ q : Nat, q ≠ (j + 1) → q ≠ (j + 2) → σ_2 q = σ q := fun q n0 n1 => (hq_4 q n0 n1).trans (hf q n0 n1)
  have e1 : σ_2 (j + 1) = oAN cT 4 sz := e1.trans (congrArg (fun z => oAN cT 4 z) (o_up_self _ (oSize_in ⟨by omega, by omega⟩)))
  have e2 : σ_2 (j + 2) = oAJ cT 4 (va_up w r (oSet1 (w r) p)) := e2.trans (congrArg (fun z => oAJ cT 4 z) (by rw [oRow_in ⟨by omega, by omega⟩]; rfl))
  refine lv_aload_n hx hb dX4_putMark_42 rfl (lv_at hl 1 rfl) ?_
  refine lv_iload_n hx hb dX4_putMark_43 rfl (lv_at hl 2 rfl) ?_
  refine m_pVi hx hb hml hown hts hK hH hl (rest := []) cw_X4_62 (c4_marksOf hA j n a g sz (va_up w r (oSet1 (w r) p)) ((r : Nat) : Int) (by first | assumption | omega) (hwf.mark1 hr hp) (by first | assumption | omega) e0 e1 e2) ⟨Nat.le_of_ble_eq_true rfl, Nat.le_of_ble_eq_true rfl⟩ ⟨Nat.le_of_ble_eq_true rfl, Nat.le_of_ble_eq_true rfl⟩ rfl (k := j) (by omega) e0 rfl rfl (Nat.le_of_ble_eq_true rfl) dX4_putMark_44 (fun H locs hH => ?_)
  exact m_iret hx hb hlk hrt hH (m_ni _) dX4_putMark_47 ⟨congrArg oI (by rw [oRow_in ⟨by omega, by omega⟩, show (((r : Nat) : Int).toNat) = r from rfl, va_up_s]), e1, e2, hf⟩
set_option maxHeartbeats 4000000 in
set_option maxRecDepth 100000 in
theorem c4_putMark0 {l : Launch} {D : va_G} {cT : Nat → ClassId} {N b0 : Nat} {ad : Nat → Nat} (hA : oAd b0 N ad) {σ : Nat → va_E} (j n a g : Nat) (sz w : Nat → Nat) (r p : Nat) (hj : j + 2 < N) (hwf : oWf n sz w) (hr : r < n) (hp0 : p ≠ 0) (hp : p ≤ sz r) (hps : p ≠ sz r) (e0 : σ (j) = .inr (4, [.ref (ad (j + 1)), .ref (ad (j + 2)), .int (oI (((n : Nat) : Int))), .int (oI (((a : Nat) : Int))), .int (oI (((g : Nat) : Int)))])) (e1 : σ (j + 1) = oAN cT 4 sz) (e2 : σ (j + 2) = oAJ cT 4 w) :
    oCi l D cT N ad b0 yX4_putMark cX4_putMark 6 (some .int) 2 42 [.ref (ad (j)), .int (oI (((r : Nat) : Int))), .int (oI (((p : Nat) : Int))), .int (oI (0))] σ (fun rr uu => rr = oI (((pcnt (oSet0 (w r) p) : Nat) : Int)) ∧ uu (j + 1) = oAN cT 4 sz ∧ uu (j + 2) = oAJ cT 4 (va_up w r (oSet0 (w r) p)) ∧ (∀ q : Nat, q ≠ (j + 1) → q ≠ (j + 2) → uu q = σ q)) := by
  refine m_start (cc := cX4_putMark) (by decide) (Nat.le_of_ble_eq_true rfl) rfl ?_
  intro Pp Ee Ss Mm Bb Me Cc Ar ls hx hb hml hown hlk hrt hts hK hH hl
  have hown : Ss.vm.findClass RX4 = some Mm.cls := hown
  have hn := hwf.1
  have hsz := oSize_le hwf
  have hw64 := oRow_64 hwf
  have hw41 := oRow_lt hwf
  have hs40 := (hwf.2 r hr).2.1
  have hl : lv_has ls 6 [(0, .ref (ad (j))), (1, .int (oI (((r : Nat) : Int)))), (2, .int (oI (((p : Nat) : Int)))), (3, .int (oI (0)))] := hl
  have hf : ∀ q : Nat, q ≠ (j + 1) → q ≠ (j + 2) → σ q = σ q := fun q _ _ => rfl
  refine m_lconstN 1 hx hb dX4_putMark_0 rfl ?_
  refine lv_iload_n hx hb dX4_putMark_1 rfl (lv_at hl 2 rfl) ?_
  refine m_lshl (2 ^ p) hx hb dX4_putMark_2 (by omega) (Nat.one_mul _) ?_
  refine lv_lstore (lv' := [(4, .long (lN (2 ^ p))), (0, .ref (ad (j))), (1, .int (oI (((r : Nat) : Int)))), (2, .int (oI (((p : Nat) : Int)))), (3, .int (oI (0)))]) hx hb dX4_putMark_3 hl (by decide) rfl (fun ls hl => ?_)
  refine lv_aload_n hx hb dX4_putMark_5 rfl (lv_at hl 1 rfl) ?_
  refine lv_iload_n hx hb dX4_putMark_6 rfl (lv_at hl 2 rfl) ?_
  refine lv_aload_n hx hb dX4_putMark_7 rfl (lv_at hl 1 rfl) ?_
  refine lv_iload_n hx hb dX4_putMark_8 rfl (lv_at hl 2 rfl) ?_
  refine m_pVi hx hb hml hown hts hK hH hl (rest := [.int (oI (((r : Nat) : Int))), .ref (ad (j))]) cw_X4_32 (c4_size hA j n a g sz w ((r : Nat) : Int) (by first | assumption | omega) (by first | assumption | omega) (by first | assumption | omega) e0 e1 e2) ⟨Nat.le_of_ble_eq_true rfl, Nat.le_of_ble_eq_true rfl⟩ ⟨Nat.le_of_ble_eq_true rfl, Nat.le_of_ble_eq_true rfl⟩ rfl (k := j) (by omega) e0 rfl rfl (Nat.le_of_ble_eq_true rfl) dX4_putMark_9 (fun H locs hH => ?_)
  refine lv_iload_n hx hb dX4_putMark_12 rfl (lv_at hl 4 rfl) ?_
  refine m_if_eq 27 hx hb dX4_putMark_13 (by decide) (by omega) (fun h_1 => ?_) (fun h_1 => absurd h_1 (by omega))
  refine lv_aload_n hx hb dX4_putMark_27 rfl (lv_at hl 1 rfl) ?_
  refine lv_iload_n hx hb dX4_putMark_28 rfl (lv_at hl 2 rfl) ?_
  refine m_pVn hx hb hml hown hts hK hH hl (rest := [.int (oI (((oSize n sz ((r : Nat) : Int) : Nat) : Int))), .int (oI (((r : Nat) : Int))), .ref (ad (j))]) cw_X4_36 (c4_row hA j n a g sz w ((r : Nat) : Int) (by first | assumption | omega) (by first | assumption | omega) (by first | assumption | omega) e0 e1 e2) ⟨Nat.le_of_ble_eq_true rfl, Nat.le_of_ble_eq_true rfl⟩ ⟨Nat.le_of_ble_eq_true rfl, Nat.le_of_ble_eq_true rfl⟩ rfl (k := j) (by omega) e0 rfl rfl (Nat.le_of_ble_eq_true rfl) dX4_putMark_29 (fun H locs hH => ?_)
  refine lv_lload hx hb dX4_putMark_32 (lv_at hl 0 rfl) ?_
  refine lv_ldc2 (v := (-1)) hx hb hown (hts _ kl_X4_60) dX4_putMark_34 ?_
  refine m_J2N 18446744073709551615 (by decide +kernel) ?_
  refine m_lxor ((2 ^ p) ^^^ 18446744073709551615) hx hb dX4_putMark_37 (rfl) ?_
  refine m_land ((oRow n w ((r : Nat) : Int)) &&& ((2 ^ p) ^^^ 18446744073709551615)) hx hb dX4_putMark_38 (rfl) ?_
  refine m_callVv hx hb hml hown hts hK hH hl (rest := []) cw_X4_40 (c4_put hA j n a g r (oSize n sz ((r : Nat) : Int)) ((oRow n w ((r : Nat) : Int)) &&& ((2 ^ p) ^^^ 18446744073709551615)) sz w (by first | assumption | omega) (by first | assumption | omega) e0 e1 e2) ⟨Nat.le_of_ble_eq_true rfl, Nat.le_of_ble_eq_true rfl⟩ ⟨Nat.le_of_ble_eq_true rfl, Nat.le_of_ble_eq_true rfl⟩ rfl (k := j) (by omega) e0 rfl rfl (Nat.le_of_ble_eq_true rfl) dX4_putMark_39 (fun σ_2 H locs hp_3 hH => ?_)
  obtain ⟨e1, e2, hq_4⟩ := hp_3
  have e0 : σ_2 (j) = .inr (4, [.ref (ad (j + 1)), .ref (ad (j + 2)), .int (oI (((n : Nat) : Int))), .int (oI (((a : Nat) : Int))), .int (oI (((g : Nat) : Int)))]) := (hq_4 _ (by omega) (by omega)).trans e0
  have hf : ∀ q : Nat, q ≠ (j + 1) → q ≠ (j + 2) → σ_2 q = σ q := fun q n0 n1 => (hq_4 q n0 n1).trans (hf q n0 n1)
  have e1 : σ_2 (j + 1) = oAN cT 4 sz := e1.trans (congrArg (fun z => oAN cT 4 z) (o_up_self _ (oSize_in ⟨by omega, by omega⟩)))
  have e2 : σ_2 (j + 2) = oAJ cT 4 (va_up w r (oSet0 (w r) p)) := e2.trans (congrArg (fun z => oAJ cT 4 z) (by rw [oRow_in ⟨by omega, by omega⟩]; rfl))
  refine lv_aload_n hx hb dX4_putMark_42 rfl (lv_at hl 1 rfl) ?_
  refine lv_iload_n hx hb dX4_putMark_43 rfl (lv_at hl 2 rfl) ?_
  refine m_pVi hx hb hml hown hts hK hH hl (rest := []) cw_X4_62 (c4_marksOf hA j n a g sz (va_up w r (oSet0 (w r) p)) ((r : Nat) : Int) (by first | assumption | omega) (hwf.mark0 hr hp0 hps) (by first | assumption | omega) e0 e1 e2) ⟨Nat.le_of_ble_eq_true rfl, Nat.le_of_ble_eq_true rfl⟩ ⟨Nat.le_of_ble_eq_true rfl, Nat.le_of_ble_eq_true rfl⟩ rfl (k := j) (by omega) e0 rfl rfl (Nat.le_of_ble_eq_true rfl) dX4_putMark_44 (fun H locs hH => ?_)
  exact m_iret hx hb hlk hrt hH (m_ni _) dX4_putMark_47 ⟨congrArg oI (by rw [oRow_in ⟨by omega, by omega⟩, show (((r : Nat) : Int).toNat) = r from rfl, va_up_s]), e1, e2, hf⟩
set_option maxHeartbeats 4000000 in
set_option maxRecDepth 100000 in
theorem c4_shorten {l : Launch} {D : va_G} {cT : Nat → ClassId} {N b0 : Nat} {ad : Nat → Nat} (hA : oAd b0 N ad) {σ : Nat → va_E} (j n a g : Nat) (sz w : Nat → Nat) (r x : Nat) (hj : j + 2 < N) (hwf : oWf n sz w) (hr : r < n) (hx2 : 2 ≤ x ∧ x ≤ sz r) (e0 : σ (j) = .inr (4, [.ref (ad (j + 1)), .ref (ad (j + 2)), .int (oI (((n : Nat) : Int))), .int (oI (((a : Nat) : Int))), .int (oI (((g : Nat) : Int)))])) (e1 : σ (j + 1) = oAN cT 4 sz) (e2 : σ (j + 2) = oAJ cT 4 w) :
    oCi l D cT N ad b0 yX4_shorten cX4_shorten 5 (some .int) 2 42 [.ref (ad (j)), .int (oI (((r : Nat) : Int))), .int (oI (((x : Nat) : Int)))] σ (fun rr uu => rr = oI (((pcnt (oCutW (w r) x) : Nat) : Int)) ∧ uu (j + 1) = oAN cT 4 (va_up sz r x) ∧ uu (j + 2) = oAJ cT 4 (va_up w r (oCutW (w r) x)) ∧ (∀ q : Nat, q ≠ (j + 1) → q ≠ (j + 2) → uu q = σ q)) := by
  refine m_start (cc := cX4_shorten) (by decide) (Nat.le_of_ble_eq_true rfl) rfl ?_
  intro Pp Ee Ss Mm Bb Me Cc Ar ls hx hb hml hown hlk hrt hts hK hH hl
  have hown : Ss.vm.findClass RX4 = some Mm.cls := hown
  have hn := hwf.1
  have hsz := oSize_le hwf
  have hw64 := oRow_64 hwf
  have hw41 := oRow_lt hwf
  have hs40 := (hwf.2 r hr).2.1
  have hl : lv_has ls 5 [(0, .ref (ad (j))), (1, .int (oI (((r : Nat) : Int)))), (2, .int (oI (((x : Nat) : Int))))] := hl
  have hf : ∀ q : Nat, q ≠ (j + 1) → q ≠ (j + 2) → σ q = σ q := fun q _ _ => rfl
  refine m_lconstN 1 hx hb dX4_shorten_0 rfl ?_
  refine lv_iload_n hx hb dX4_shorten_1 rfl (lv_at hl 2 rfl) ?_
  refine m_lshl (2 ^ x) hx hb dX4_shorten_2 (by omega) (Nat.one_mul _) ?_
  refine lv_lstore_n (lv' := [(3, .long (lN (2 ^ x))), (0, .ref (ad (j))), (1, .int (oI (((r : Nat) : Int)))), (2, .int (oI (((x : Nat) : Int))))]) hx hb dX4_shorten_3 rfl hl (by decide) rfl (fun ls hl => ?_)
  refine lv_aload_n hx hb dX4_shorten_4 rfl (lv_at hl 1 rfl) ?_
  refine lv_iload_n hx hb dX4_shorten_5 rfl (lv_at hl 2 rfl) ?_
  refine lv_iload_n hx hb dX4_shorten_6 rfl (lv_at hl 3 rfl) ?_
  refine lv_aload_n hx hb dX4_shorten_7 rfl (lv_at hl 1 rfl) ?_
  refine lv_iload_n hx hb dX4_shorten_8 rfl (lv_at hl 2 rfl) ?_
  refine m_pVn hx hb hml hown hts hK hH hl (rest := [.int (oI (((x : Nat) : Int))), .int (oI (((r : Nat) : Int))), .ref (ad (j))]) cw_X4_36 (c4_row hA j n a g sz w ((r : Nat) : Int) (by first | assumption | omega) (by first | assumption | omega) (by first | assumption | omega) e0 e1 e2) ⟨Nat.le_of_ble_eq_true rfl, Nat.le_of_ble_eq_true rfl⟩ ⟨Nat.le_of_ble_eq_true rfl, Nat.le_of_ble_eq_true rfl⟩ rfl (k := j) (by omega) e0 rfl rfl (Nat.le_of_ble_eq_true rfl) dX4_shorten_9 (fun H locs hH => ?_)
  refine lv_lload_n hx hb dX4_shorten_12 rfl (lv_at hl 0 rfl) ?_
  refine m_lconstN 1 hx hb dX4_shorten_13 rfl ?_
  refine m_lsubN ((2 ^ x) - 1) hx hb dX4_shorten_14 (Nat.pow_pos (by decide)) (rfl) ?_
  refine m_land ((oRow n w ((r : Nat) : Int)) &&& ((2 ^ x) - 1)) hx hb dX4_shorten_15 (rfl) ?_
  refine lv_lload_n hx hb dX4_shorten_16 rfl (lv_at hl 0 rfl) ?_
  refine m_lor (((oRow n w ((r : Nat) : Int)) &&& ((2 ^ x) - 1)) ||| (2 ^ x)) hx hb dX4_shorten_17 (rfl) ?_
  refine m_callVv hx hb hml hown hts hK hH hl (rest := []) cw_X4_40 (c4_put hA j n a g r x (((oRow n w ((r : Nat) : Int)) &&& ((2 ^ x) - 1)) ||| (2 ^ x)) sz w (by first | assumption | omega) (by first | assumption | omega) e0 e1 e2) ⟨Nat.le_of_ble_eq_true rfl, Nat.le_of_ble_eq_true rfl⟩ ⟨Nat.le_of_ble_eq_true rfl, Nat.le_of_ble_eq_true rfl⟩ rfl (k := j) (by omega) e0 rfl rfl (Nat.le_of_ble_eq_true rfl) dX4_shorten_18 (fun σ_1 H locs hp_2 hH => ?_)
  obtain ⟨e1, e2, hq_3⟩ := hp_2
  have e0 : σ_1 (j) = .inr (4, [.ref (ad (j + 1)), .ref (ad (j + 2)), .int (oI (((n : Nat) : Int))), .int (oI (((a : Nat) : Int))), .int (oI (((g : Nat) : Int)))]) := (hq_3 _ (by omega) (by omega)).trans e0
  have hf : ∀ q : Nat, q ≠ (j + 1) → q ≠ (j + 2) → σ_1 q = σ q := fun q n0 n1 => (hq_3 q n0 n1).trans (hf q n0 n1)
  have e2 : σ_1 (j + 2) = oAJ cT 4 (va_up w r (oCutW (w r) x)) := e2.trans (congrArg (fun z => oAJ cT 4 z) (by rw [oRow_in ⟨by omega, by omega⟩]; rfl))
  refine lv_aload_n hx hb dX4_shorten_21 rfl (lv_at hl 1 rfl) ?_
  refine lv_iload_n hx hb dX4_shorten_22 rfl (lv_at hl 2 rfl) ?_
  refine m_pVi hx hb hml hown hts hK hH hl (rest := []) cw_X4_62 (c4_marksOf hA j n a g (va_up sz r x) (va_up w r (oCutW (w r) x)) ((r : Nat) : Int) (by first | assumption | omega) (hwf.cut hr hx2.1 hx2.2) (by first | assumption | omega) e0 e1 e2) ⟨Nat.le_of_ble_eq_true rfl, Nat.le_of_ble_eq_true rfl⟩ ⟨Nat.le_of_ble_eq_true rfl, Nat.le_of_ble_eq_true rfl⟩ rfl (k := j) (by omega) e0 rfl rfl (Nat.le_of_ble_eq_true rfl) dX4_shorten_23 (fun H locs hH => ?_)
  exact m_iret hx hb hlk hrt hH (m_ni _) dX4_shorten_26 ⟨congrArg oI (by rw [oRow_in ⟨by omega, by omega⟩, show (((r : Nat) : Int).toNat) = r from rfl, va_up_s]), e1, e2, hf⟩
set_option maxHeartbeats 4000000 in
set_option maxRecDepth 100000 in
theorem c4_reverse {l : Launch} {D : va_G} {cT : Nat → ClassId} {N b0 : Nat} {ad : Nat → Nat} (hA : oAd b0 N ad) {σ : Nat → va_E} (j n a g : Nat) (sz w : Nat → Nat) (r : Nat) (hj : j + 2 < N) (hwf : oWf n sz w) (hr : r < n) (e0 : σ (j) = .inr (4, [.ref (ad (j + 1)), .ref (ad (j + 2)), .int (oI (((n : Nat) : Int))), .int (oI (((a : Nat) : Int))), .int (oI (((g : Nat) : Int)))])) (e1 : σ (j + 1) = oAN cT 4 sz) (e2 : σ (j + 2) = oAJ cT 4 w) :
    oCi l D cT N ad b0 yX4_reverse cX4_reverse 2 (some .int) 2 47 [.ref (ad (j)), .int (oI (((r : Nat) : Int)))] σ (fun rr uu => rr = oI ((oTurnR (oRev (w r) (sz r)) (sz r))) ∧ uu (j + 1) = oAN cT 4 sz ∧ uu (j + 2) = oAJ cT 4 (va_up w r (oRev (w r) (sz r))) ∧ (∀ q : Nat, q ≠ (j + 1) → q ≠ (j + 2) → uu q = σ q)) := by
  refine m_start (cc := cX4_reverse) (by decide) (Nat.le_of_ble_eq_true rfl) rfl ?_
  intro Pp Ee Ss Mm Bb Me Cc Ar ls hx hb hml hown hlk hrt hts hK hH hl
  have hown : Ss.vm.findClass RX4 = some Mm.cls := hown
  have hn := hwf.1
  have hsz := oSize_le hwf
  have hw64 := oRow_64 hwf
  have hw41 := oRow_lt hwf
  have hs40 := (hwf.2 r hr).2.1
  have hwt := hwf.turn hr
  have eS : oSize n sz ((r : Nat) : Int) = sz r := oSize_in ⟨by omega, by omega⟩
  have eR : oRow n w ((r : Nat) : Int) = w r := oRow_in ⟨by omega, by omega⟩
  have eR2 : oRow n (va_up w r (oRev (w r) (sz r))) ((r : Nat) : Int) = oRev (w r) (sz r) := (oRow_in ⟨by omega, by omega⟩).trans (va_up_s _ _ _)
  have hl : lv_has ls 2 [(0, .ref (ad (j))), (1, .int (oI (((r : Nat) : Int))))] := hl
  have hf : ∀ q : Nat, q ≠ (j + 1) → q ≠ (j + 2) → σ q = σ q := fun q _ _ => rfl
  refine lv_aload_n hx hb dX4_reverse_0 rfl (lv_at hl 0 rfl) ?_
  refine lv_iload_n hx hb dX4_reverse_1 rfl (lv_at hl 1 rfl) ?_
  refine lv_aload_n hx hb dX4_reverse_2 rfl (lv_at hl 0 rfl) ?_
  refine lv_iload_n hx hb dX4_reverse_3 rfl (lv_at hl 1 rfl) ?_
  refine m_pVi hx hb hml hown hts hK hH hl (rest := [.int (oI (((r : Nat) : Int))), .ref (ad (j))]) cw_X4_32 (c4_size hA j n a g sz w ((r : Nat) : Int) (by first | assumption | omega) (by first | assumption | omega) (by first | assumption | omega) e0 e1 e2) ⟨Nat.le_of_ble_eq_true rfl, Nat.le_of_ble_eq_true rfl⟩ ⟨Nat.le_of_ble_eq_true rfl, Nat.le_of_ble_eq_true rfl⟩ rfl (k := j) (by omega) e0 rfl rfl (Nat.le_of_ble_eq_true rfl) dX4_reverse_4 (fun H locs hH => ?_)
  refine lv_aload_n hx hb dX4_reverse_7 rfl (lv_at hl 0 rfl) ?_
  refine lv_iload_n hx hb dX4_reverse_8 rfl (lv_at hl 1 rfl) ?_
  refine m_pVn hx hb hml hown hts hK hH hl (rest := [.int (oI (((oSize n sz ((r : Nat) : Int) : Nat) : Int))), .int (oI (((r : Nat) : Int))), .ref (ad (j))]) cw_X4_36 (c4_row hA j n a g sz w ((r : Nat) : Int) (by first | assumption | omega) (by first | assumption | omega) (by first | assumption | omega) e0 e1 e2) ⟨Nat.le_of_ble_eq_true rfl, Nat.le_of_ble_eq_true rfl⟩ ⟨Nat.le_of_ble_eq_true rfl, Nat.le_of_ble_eq_true rfl⟩ rfl (k := j) (by omega) e0 rfl rfl (Nat.le_of_ble_eq_true rfl) dX4_reverse_9 (fun H locs hH => ?_)
  refine lv_aload_n hx hb dX4_reverse_12 rfl (lv_at hl 0 rfl) ?_
  refine lv_iload_n hx hb dX4_reverse_13 rfl (lv_at hl 1 rfl) ?_
  refine m_pVi hx hb hml hown hts hK hH hl (rest := [.long (lN (oRow n w ((r : Nat) : Int))), .int (oI (((oSize n sz ((r : Nat) : Int) : Nat) : Int))), .int (oI (((r : Nat) : Int))), .ref (ad (j))]) cw_X4_32 (c4_size hA j n a g sz w ((r : Nat) : Int) (by first | assumption | omega) (by first | assumption | omega) (by first | assumption | omega) e0 e1 e2) ⟨Nat.le_of_ble_eq_true rfl, Nat.le_of_ble_eq_true rfl⟩ ⟨Nat.le_of_ble_eq_true rfl, Nat.le_of_ble_eq_true rfl⟩ rfl (k := j) (by omega) e0 rfl rfl (Nat.le_of_ble_eq_true rfl) dX4_reverse_14 (fun H locs hH => ?_)
  refine m_pNn hx hb hml hown hts hK hH hl (rest := [.int (oI (((oSize n sz ((r : Nat) : Int) : Nat) : Int))), .int (oI (((r : Nat) : Int))), .ref (ad (j))]) cn_X5_reversed hK.2.1.2.2.2.2.1 (c5_reversed hA (oRow n w ((r : Nat) : Int)) (oSize n sz ((r : Nat) : Int)) (hw64 _) (hsz _) ) ⟨Nat.le_of_ble_eq_true rfl, Nat.le_of_ble_eq_true rfl⟩ ⟨Nat.le_of_ble_eq_true rfl, Nat.le_of_ble_eq_true rfl⟩ rfl rfl (Nat.le_of_ble_eq_true rfl) dX4_reverse_17 (fun H locs hH => ?_)
  refine m_callVv hx hb hml hown hts hK hH hl (rest := []) cw_X4_40 (c4_put hA j n a g r (oSize n sz ((r : Nat) : Int)) (oRev (oRow n w ((r : Nat) : Int)) (oSize n sz ((r : Nat) : Int))) sz w (by first | assumption | omega) (by first | assumption | omega) e0 e1 e2) ⟨Nat.le_of_ble_eq_true rfl, Nat.le_of_ble_eq_true rfl⟩ ⟨Nat.le_of_ble_eq_true rfl, Nat.le_of_ble_eq_true rfl⟩ rfl (k := j) (by omega) e0 rfl rfl (Nat.le_of_ble_eq_true rfl) dX4_reverse_20 (fun σ_1 H locs hp_2 hH => ?_)
  obtain ⟨e1, e2, hq_3⟩ := hp_2
  have e0 : σ_1 (j) = .inr (4, [.ref (ad (j + 1)), .ref (ad (j + 2)), .int (oI (((n : Nat) : Int))), .int (oI (((a : Nat) : Int))), .int (oI (((g : Nat) : Int)))]) := (hq_3 _ (by omega) (by omega)).trans e0
  have hf : ∀ q : Nat, q ≠ (j + 1) → q ≠ (j + 2) → σ_1 q = σ q := fun q n0 n1 => (hq_3 q n0 n1).trans (hf q n0 n1)
  have e1 : σ_1 (j + 1) = oAN cT 4 sz := e1.trans (congrArg (fun z => oAN cT 4 z) (o_up_self _ eS))
  have e2 : σ_1 (j + 2) = oAJ cT 4 (va_up w r (oRev (w r) (sz r))) := e2.trans (congrArg (fun z => oAJ cT 4 z) (by rw [eS, eR]))
  refine lv_aload_n hx hb dX4_reverse_23 rfl (lv_at hl 0 rfl) ?_
  refine lv_iload_n hx hb dX4_reverse_24 rfl (lv_at hl 1 rfl) ?_
  refine m_pVn hx hb hml hown hts hK hH hl (rest := []) cw_X4_120 (c4_innerMarks hA j n a g sz (va_up w r (oRev (w r) (sz r))) ((r : Nat) : Int) (by first | assumption | omega) (hwt) (by first | assumption | omega) e0 e1 e2) ⟨Nat.le_of_ble_eq_true rfl, Nat.le_of_ble_eq_true rfl⟩ ⟨Nat.le_of_ble_eq_true rfl, Nat.le_of_ble_eq_true rfl⟩ rfl (k := j) (by omega) e0 rfl rfl (Nat.le_of_ble_eq_true rfl) dX4_reverse_25 (fun H locs hH => ?_)
  refine m_topN (oInner (oRev (w r) (sz r)) (sz r)) (by rw [eR2, eS]) ?_
  refine m_lconstN 0 hx hb dX4_reverse_28 rfl ?_
  refine m_lcmpN_ne 41 hx hb dX4_reverse_29 dX4_reverse_30 (by decide) (o_inner_64 _ _) (by decide) (fun hz => ?_) (fun hz => ?_)
  · refine lv_aload_n hx hb dX4_reverse_41 rfl (lv_at hl 0 rfl) ?_
    refine lv_iload_n hx hb dX4_reverse_42 rfl (lv_at hl 1 rfl) ?_
    refine m_pVn hx hb hml hown hts hK hH hl (rest := []) cw_X4_120 (c4_innerMarks hA j n a g sz (va_up w r (oRev (w r) (sz r))) ((r : Nat) : Int) (by first | assumption | omega) (hwt) (by first | assumption | omega) e0 e1 e2) ⟨Nat.le_of_ble_eq_true rfl, Nat.le_of_ble_eq_true rfl⟩ ⟨Nat.le_of_ble_eq_true rfl, Nat.le_of_ble_eq_true rfl⟩ rfl (k := j) (by omega) e0 rfl rfl (Nat.le_of_ble_eq_true rfl) dX4_reverse_43 (fun H locs hH => ?_)
    refine m_topN (oInner (oRev (w r) (sz r)) (sz r)) (by rw [eR2, eS]) ?_
    refine m_pNi hx hb hml hown hts hK hH hl (rest := []) cn_X5_lowest hK.2.1.2.2.2.2.2.1 (c5_lowest hA (oInner (oRev (w r) (sz r)) (sz r)) (o_inner_64 _ _) ) ⟨Nat.le_of_ble_eq_true rfl, Nat.le_of_ble_eq_true rfl⟩ ⟨Nat.le_of_ble_eq_true rfl, Nat.le_of_ble_eq_true rfl⟩ rfl rfl (Nat.le_of_ble_eq_true rfl) dX4_reverse_46 (fun H locs hH => ?_)
    exact m_iret hx hb hlk hrt hH (m_ni _) dX4_reverse_49 ⟨congrArg oI (by unfold oTurnR; rw [if_neg hz]), e1, e2, hf⟩
  · refine lv_aload_n hx hb dX4_reverse_33 rfl (lv_at hl 0 rfl) ?_
    refine lv_iload_n hx hb dX4_reverse_34 rfl (lv_at hl 1 rfl) ?_
    refine m_pVi hx hb hml hown hts hK hH hl (rest := []) cw_X4_32 (c4_size hA j n a g sz (va_up w r (oRev (w r) (sz r))) ((r : Nat) : Int) (by first | assumption | omega) (hn) (by first | assumption | omega) e0 e1 e2) ⟨Nat.le_of_ble_eq_true rfl, Nat.le_of_ble_eq_true rfl⟩ ⟨Nat.le_of_ble_eq_true rfl, Nat.le_of_ble_eq_true rfl⟩ rfl (k := j) (by omega) e0 rfl rfl (Nat.le_of_ble_eq_true rfl) dX4_reverse_35 (fun H locs hH => ?_)
    refine m_topI (((sz r : Nat) : Int)) (by rw [eS]) ?_
    refine lv_goto (tgt := 49) hx hb dX4_reverse_38 (by decide) ?_
    exact m_iret hx hb hlk hrt hH (m_ni _) dX4_reverse_49 ⟨congrArg oI (by unfold oTurnR; rw [if_pos hz]), e1, e2, hf⟩
set_option maxHeartbeats 4000000 in
set_option maxRecDepth 100000 in
theorem c4_adjust0 {l : Launch} {D : va_G} {cT : Nat → ClassId} {N b0 : Nat} {ad : Nat → Nat} (hA : oAd b0 N ad) {σ : Nat → va_E} (j n a g : Nat) (sz w : Nat → Nat) (v : Nat) (hj : j + 2 < N) (hwf : oWf n sz w) (hv : v ≤ 6) (e0 : σ (j) = .inr (4, [.ref (ad (j + 1)), .ref (ad (j + 2)), .int (oI (((n : Nat) : Int))), .int (oI (((a : Nat) : Int))), .int (oI (((g : Nat) : Int)))])) (e1 : σ (j + 1) = oAN cT 4 sz) (e2 : σ (j + 2) = oAJ cT 4 w) :
    oCi l D cT N ad b0 yX4_adjust cX4_adjust 4 (some .int) 0 0 [.ref (ad (j)), .int (oI (0)), .int (oI (((v : Nat) : Int)))] σ (fun rr uu => rr = oI (((a : Nat) : Int)) ∧ uu (j) = .inr (4, [.ref (ad (j + 1)), .ref (ad (j + 2)), .int (oI (((n : Nat) : Int))), .int (oI (((v : Nat) : Int))), .int (oI (((g : Nat) : Int)))]) ∧ (∀ q : Nat, q ≠ j → uu q = σ q)) := by
  refine m_start (cc := cX4_adjust) (by decide) (Nat.le_of_ble_eq_true rfl) rfl ?_
  intro Pp Ee Ss Mm Bb Me Cc Ar ls hx hb hml hown hlk hrt hts hK hH hl
  have hown : Ss.vm.findClass RX4 = some Mm.cls := hown
  have hn := hwf.1
  have hsz := oSize_le hwf
  have hw64 := oRow_64 hwf
  have hw41 := oRow_lt hwf
  have hl : lv_has ls 4 [(0, .ref (ad (j))), (1, .int (oI (0))), (2, .int (oI (((v : Nat) : Int))))] := hl
  have hf : ∀ q : Nat, q ≠ j → σ q = σ q := fun q _ => rfl
  refine lv_iload_n hx hb dX4_adjust_0 rfl (lv_at hl 1 rfl) ?_
  refine m_if_ne 11 hx hb dX4_adjust_1 (by decide) (by omega) (fun h_1 => absurd h_1 (by omega)) (fun h_1 => ?_)
  refine lv_aload_n hx hb dX4_adjust_4 rfl (lv_at hl 0 rfl) ?_
  refine gf_X4_allowed hx hb hts hown hK hH (k := j) (by omega) e0 dX4_adjust_5 ?_
  refine lv_goto (tgt := 15) hx hb dX4_adjust_8 (by decide) ?_
  refine lv_istore_n (lv' := [(3, .int (oI (((a : Nat) : Int)))), (0, .ref (ad (j))), (1, .int (oI (0))), (2, .int (oI (((v : Nat) : Int))))]) hx hb dX4_adjust_15 rfl hl (by decide) rfl (fun ls hl => ?_)
  refine lv_iload_n hx hb dX4_adjust_16 rfl (lv_at hl 2 rfl) ?_
  refine m_if_ne 28 hx hb dX4_adjust_17 (by decide) (by omega) (fun h_2 => absurd h_2 (by omega)) (fun h_2 => ?_)
  refine lv_aload_n hx hb dX4_adjust_20 rfl (lv_at hl 1 rfl) ?_
  refine lv_iload_n hx hb dX4_adjust_21 rfl (lv_at hl 3 rfl) ?_
  refine pf_X4_allowed hx hb hts hown hK hH hA (k := j) (by omega) e0 dX4_adjust_22 (fun H locs σ_3 e0 hq_4 hH => ?_)
  have e1 : σ_3 (j + 1) = oAN cT 4 sz := (hq_4 _ (by omega)).trans e1
  have e2 : σ_3 (j + 2) = oAJ cT 4 w := (hq_4 _ (by omega)).trans e2
  have hf : ∀ q : Nat, q ≠ j → σ_3 q = σ q := fun q n0 => (hq_4 q n0).trans (hf q n0)
  refine lv_goto (tgt := 33) hx hb dX4_adjust_25 (by decide) ?_
  refine lv_iload_n hx hb dX4_adjust_33 rfl (lv_at hl 0 rfl) ?_
  exact m_iret hx hb hlk hrt hH (m_ni _) dX4_adjust_34 ⟨rfl, e0, hf⟩
set_option maxHeartbeats 4000000 in
set_option maxRecDepth 100000 in
theorem c4_adjust1 {l : Launch} {D : va_G} {cT : Nat → ClassId} {N b0 : Nat} {ad : Nat → Nat} (hA : oAd b0 N ad) {σ : Nat → va_E} (j n a g : Nat) (sz w : Nat → Nat) (v : Nat) (hj : j + 2 < N) (hwf : oWf n sz w) (hv : v ≤ 150) (e0 : σ (j) = .inr (4, [.ref (ad (j + 1)), .ref (ad (j + 2)), .int (oI (((n : Nat) : Int))), .int (oI (((a : Nat) : Int))), .int (oI (((g : Nat) : Int)))])) (e1 : σ (j + 1) = oAN cT 4 sz) (e2 : σ (j + 2) = oAJ cT 4 w) :
    oCi l D cT N ad b0 yX4_adjust cX4_adjust 4 (some .int) 0 0 [.ref (ad (j)), .int (oI (1)), .int (oI (((v : Nat) : Int)))] σ (fun rr uu => rr = oI (((g : Nat) : Int)) ∧ uu (j) = .inr (4, [.ref (ad (j + 1)), .ref (ad (j + 2)), .int (oI (((n : Nat) : Int))), .int (oI (((a : Nat) : Int))), .int (oI (((v : Nat) : Int)))]) ∧ (∀ q : Nat, q ≠ j → uu q = σ q)) := by
  refine m_start (cc := cX4_adjust) (by decide) (Nat.le_of_ble_eq_true rfl) rfl ?_
  intro Pp Ee Ss Mm Bb Me Cc Ar ls hx hb hml hown hlk hrt hts hK hH hl
  have hown : Ss.vm.findClass RX4 = some Mm.cls := hown
  have hn := hwf.1
  have hsz := oSize_le hwf
  have hw64 := oRow_64 hwf
  have hw41 := oRow_lt hwf
  have hl : lv_has ls 4 [(0, .ref (ad (j))), (1, .int (oI (1))), (2, .int (oI (((v : Nat) : Int))))] := hl
  have hf : ∀ q : Nat, q ≠ j → σ q = σ q := fun q _ => rfl
  refine lv_iload_n hx hb dX4_adjust_0 rfl (lv_at hl 1 rfl) ?_
  refine m_if_ne 11 hx hb dX4_adjust_1 (by decide) (by omega) (fun h_1 => ?_) (fun h_1 => absurd h_1 (by omega))
  refine lv_aload_n hx hb dX4_adjust_11 rfl (lv_at hl 0 rfl) ?_
  refine gf_X4_range hx hb hts hown hK hH (k := j) (by omega) e0 dX4_adjust_12 ?_
  refine lv_istore_n (lv' := [(3, .int (oI (((g : Nat) : Int)))), (0, .ref (ad (j))), (1, .int (oI (1))), (2, .int (oI (((v : Nat) : Int))))]) hx hb dX4_adjust_15 rfl hl (by decide) rfl (fun ls hl => ?_)
  refine lv_iload_n hx hb dX4_adjust_16 rfl (lv_at hl 2 rfl) ?_
  refine m_if_ne 28 hx hb dX4_adjust_17 (by decide) (by omega) (fun h_2 => ?_) (fun h_2 => absurd h_2 (by omega))
  refine lv_aload_n hx hb dX4_adjust_28 rfl (lv_at hl 1 rfl) ?_
  refine lv_iload_n hx hb dX4_adjust_29 rfl (lv_at hl 3 rfl) ?_
  refine pf_X4_range hx hb hts hown hK hH hA (k := j) (by omega) e0 dX4_adjust_30 (fun H locs σ_3 e0 hq_4 hH => ?_)
  have e1 : σ_3 (j + 1) = oAN cT 4 sz := (hq_4 _ (by omega)).trans e1
  have e2 : σ_3 (j + 2) = oAJ cT 4 w := (hq_4 _ (by omega)).trans e2
  have hf : ∀ q : Nat, q ≠ j → σ_3 q = σ q := fun q n0 => (hq_4 q n0).trans (hf q n0)
  refine lv_iload_n hx hb dX4_adjust_33 rfl (lv_at hl 0 rfl) ?_
  exact m_iret hx hb hlk hrt hH (m_ni _) dX4_adjust_34 ⟨rfl, e0, hf⟩
set_option maxHeartbeats 4000000 in
set_option maxRecDepth 100000 in
theorem c4_isSetting {l : Launch} {D : va_G} {cT : Nat → ClassId} {N b0 : Nat} {ad : Nat → Nat} (hA : oAd b0 N ad) {σ : Nat → va_E} (r v : Int) (hbr : -2147483648 ≤ r ∧ r < 2147483648) (hbv : -2147483648 ≤ v ∧ v < 2147483648) :
    oCi l D cT N ad b0 yX4_isSetting cX4_isSetting 2 (some .boolean) 0 0 [.int (oI (r)), .int (oI (v))] σ (fun rr uu => (rr = oI 1 ∧ ((r = 0 ∧ 1 ≤ v ∧ v ≤ 6) ∨ (r = 1 ∧ 10 ≤ v ∧ v ≤ 150)) ∨ rr = oI 0 ∧ ¬ ((r = 0 ∧ 1 ≤ v ∧ v ≤ 6) ∨ (r = 1 ∧ 10 ≤ v ∧ v ≤ 150))) ∧ uu = σ) := by
  refine m_start (cc := cX4_isSetting) (by decide) (Nat.le_of_ble_eq_true rfl) rfl ?_
  intro Pp Ee Ss Mm Bb Me Cc Ar ls hx hb hml hown hlk hrt hts hK hH hl
  have hown : Ss.vm.findClass RX4 = some Mm.cls := hown
  have hl : lv_has ls 2 [(0, .int (oI (r))), (1, .int (oI (v)))] := hl
  refine lv_iload_n hx hb dX4_isSetting_0 rfl (lv_at hl 0 rfl) ?_
  refine m_if_ne 21 hx hb dX4_isSetting_1 (by decide) (by omega) (fun h_1 => ?_) (fun h_1 => ?_)
  · refine lv_iload_n hx hb dX4_isSetting_21 rfl (lv_at hl 0 rfl) ?_
    refine m_iconst 1 hx hb dX4_isSetting_22 rfl ?_
    refine m_icmp_ne 43 hx hb dX4_isSetting_23 (by decide) (by omega) (by omega) (fun h_2 => ?_) (fun h_2 => ?_)
    · refine m_iconst 0 hx hb dX4_isSetting_43 rfl ?_
      exact m_iret hx hb hlk hrt hH m_z0 dX4_isSetting_44 ⟨Or.inr ⟨rfl, by first | assumption | omega | simp_all⟩, rfl⟩
    · refine lv_iload_n hx hb dX4_isSetting_26 rfl (lv_at hl 1 rfl) ?_
      refine m_bipush 10 hx hb dX4_isSetting_27 (by decide) ?_
      refine m_icmp_lt 43 hx hb dX4_isSetting_29 (by decide) (by omega) (by omega) (fun h_3 => ?_) (fun h_3 => ?_)
      · refine m_iconst 0 hx hb dX4_isSetting_43 rfl ?_
        exact m_iret hx hb hlk hrt hH m_z0 dX4_isSetting_44 ⟨Or.inr ⟨rfl, by first | assumption | omega | simp_all⟩, rfl⟩
      · refine lv_iload_n hx hb dX4_isSetting_32 rfl (lv_at hl 1 rfl) ?_
        refine m_sipush 150 hx hb dX4_isSetting_33 (by decide) ?_
        refine m_icmp_gt 43 hx hb dX4_isSetting_36 (by decide) (by omega) (by omega) (fun h_4 => ?_) (fun h_4 => ?_)
        · refine m_iconst 0 hx hb dX4_isSetting_43 rfl ?_
          exact m_iret hx hb hlk hrt hH m_z0 dX4_isSetting_44 ⟨Or.inr ⟨rfl, by first | assumption | omega | simp_all⟩, rfl⟩
        · refine m_iconst 1 hx hb dX4_isSetting_39 rfl ?_
          refine lv_goto (tgt := 44) hx hb dX4_isSetting_40 (by decide) ?_
          exact m_iret hx hb hlk hrt hH m_z1 dX4_isSetting_44 ⟨Or.inl ⟨rfl, by first | assumption | omega | simp_all⟩, rfl⟩
  · refine lv_iload_n hx hb dX4_isSetting_4 rfl (lv_at hl 1 rfl) ?_
    refine m_iconst 1 hx hb dX4_isSetting_5 rfl ?_
    refine m_icmp_lt 19 hx hb dX4_isSetting_6 (by decide) (by omega) (by omega) (fun h_5 => ?_) (fun h_5 => ?_)
    · refine m_iconst 0 hx hb dX4_isSetting_19 rfl ?_
      exact m_iret hx hb hlk hrt hH m_z0 dX4_isSetting_20 ⟨Or.inr ⟨rfl, by first | assumption | omega | simp_all⟩, rfl⟩
    · refine lv_iload_n hx hb dX4_isSetting_9 rfl (lv_at hl 1 rfl) ?_
      refine m_bipush 6 hx hb dX4_isSetting_10 (by decide) ?_
      refine m_icmp_gt 19 hx hb dX4_isSetting_12 (by decide) (by omega) (by omega) (fun h_6 => ?_) (fun h_6 => ?_)
      · refine m_iconst 0 hx hb dX4_isSetting_19 rfl ?_
        exact m_iret hx hb hlk hrt hH m_z0 dX4_isSetting_20 ⟨Or.inr ⟨rfl, by first | assumption | omega | simp_all⟩, rfl⟩
      · refine m_iconst 1 hx hb dX4_isSetting_15 rfl ?_
        refine lv_goto (tgt := 20) hx hb dX4_isSetting_16 (by decide) ?_
        exact m_iret hx hb hlk hrt hH m_z1 dX4_isSetting_20 ⟨Or.inl ⟨rfl, by first | assumption | omega | simp_all⟩, rfl⟩
set_option maxHeartbeats 4000000 in
set_option maxRecDepth 100000 in
theorem c4_ref1 {l : Launch} {D : va_G} {cT : Nat → ClassId} {N b0 : Nat} {ad : Nat → Nat} (hA : oAd b0 N ad) {σ : Nat → va_E} (j n a g : Nat) (sz w : Nat → Nat) (r p on : Int) (hj : j + 2 < N) (hwf : oWf n sz w) (hbr : -2147483648 ≤ r ∧ r < 2147483648) (hbp : -2147483648 ≤ p ∧ p < 2147483648) (hbon : -2147483648 ≤ on ∧ on < 2147483648) (e0 : σ (j) = .inr (4, [.ref (ad (j + 1)), .ref (ad (j + 2)), .int (oI (((n : Nat) : Int))), .int (oI (((a : Nat) : Int))), .int (oI (((g : Nat) : Int)))])) (e1 : σ (j + 1) = oAN cT 4 sz) (e2 : σ (j + 2) = oAJ cT 4 w) :
    oCi l D cT N ad b0 yX4_refusal cX4_refusal 5 (some .int) 2 43 [.ref (ad (j)), .int (oI (1)), .int (oI (r)), .int (oI (p)), .int (oI (on))] σ (fun rr uu => rr = oI ((oRef1 n r)) ∧ uu = σ) := by
  refine m_start (cc := cX4_refusal) (by decide) (Nat.le_of_ble_eq_true rfl) rfl ?_
  intro Pp Ee Ss Mm Bb Me Cc Ar ls hx hb hml hown hlk hrt hts hK hH hl
  have hown : Ss.vm.findClass RX4 = some Mm.cls := hown
  have hn := hwf.1
  have hsz := oSize_le hwf
  have hw64 := oRow_64 hwf
  have hw41 := oRow_lt hwf
  have hsr := hsz r
  have hl : lv_has ls 5 [(0, .ref (ad (j))), (1, .int (oI (1))), (2, .int (oI (r))), (3, .int (oI (p))), (4, .int (oI (on)))] := hl
  refine lv_iload_n hx hb dX4_refusal_0 rfl (lv_at hl 1 rfl) ?_
  refine m_tabIn 32 hx hb dX4_refusal_1 (by omega) (by omega) (by first | rfl | (rw [show (1 : Int) = 1 by omega]; rfl)) (by decide) ?_
  refine lv_iload_n hx hb dX4_refusal_32 rfl (lv_at hl 2 rfl) ?_
  refine m_iconst 2 hx hb dX4_refusal_33 rfl ?_
  refine m_icmp_lt 43 hx hb dX4_refusal_34 (by decide) (by omega) (by omega) (fun h_2 => ?_) (fun h_2 => ?_)
  · refine m_iconst 2 hx hb dX4_refusal_43 rfl ?_
    exact m_iret hx hb hlk hrt hH (m_ni _) dX4_refusal_44 ⟨congrArg oI (by unfold oRef1; split <;> (try split) <;> omega), rfl⟩
  · refine lv_iload_n hx hb dX4_refusal_37 rfl (lv_at hl 2 rfl) ?_
    refine m_bipush 40 hx hb dX4_refusal_38 (by decide) ?_
    refine m_icmp_le 45 hx hb dX4_refusal_40 (by decide) (by omega) (by omega) (fun h_3 => ?_) (fun h_3 => ?_)
    · refine lv_aload_n hx hb dX4_refusal_45 rfl (lv_at hl 0 rfl) ?_
      refine gf_X4_rulers hx hb hts hown hK hH (k := j) (by omega) e0 dX4_refusal_46 ?_
      refine m_iconst 4 hx hb dX4_refusal_49 rfl ?_
      refine m_icmp_lt 57 hx hb dX4_refusal_50 (by decide) (by omega) (by omega) (fun h_4 => ?_) (fun h_4 => ?_)
      · refine m_iconst 0 hx hb dX4_refusal_57 rfl ?_
        exact m_iret hx hb hlk hrt hH (m_ni _) dX4_refusal_58 ⟨congrArg oI (by unfold oRef1; split <;> (try split) <;> omega), rfl⟩
      · refine m_iconst 3 hx hb dX4_refusal_53 rfl ?_
        refine lv_goto (tgt := 58) hx hb dX4_refusal_54 (by decide) ?_
        exact m_iret hx hb hlk hrt hH (m_ni _) dX4_refusal_58 ⟨congrArg oI (by unfold oRef1; split <;> (try split) <;> omega), rfl⟩
    · refine m_iconst 2 hx hb dX4_refusal_43 rfl ?_
      exact m_iret hx hb hlk hrt hH (m_ni _) dX4_refusal_44 ⟨congrArg oI (by unfold oRef1; split <;> (try split) <;> omega), rfl⟩
set_option maxHeartbeats 4000000 in
set_option maxRecDepth 100000 in
theorem c4_ref2 {l : Launch} {D : va_G} {cT : Nat → ClassId} {N b0 : Nat} {ad : Nat → Nat} (hA : oAd b0 N ad) {σ : Nat → va_E} (j n a g : Nat) (sz w : Nat → Nat) (r p on : Int) (hj : j + 2 < N) (hwf : oWf n sz w) (hbr : -2147483648 ≤ r ∧ r < 2147483648) (hbp : -2147483648 ≤ p ∧ p < 2147483648) (hbon : -2147483648 ≤ on ∧ on < 2147483648) (e0 : σ (j) = .inr (4, [.ref (ad (j + 1)), .ref (ad (j + 2)), .int (oI (((n : Nat) : Int))), .int (oI (((a : Nat) : Int))), .int (oI (((g : Nat) : Int)))])) (e1 : σ (j + 1) = oAN cT 4 sz) (e2 : σ (j + 2) = oAJ cT 4 w) :
    oCi l D cT N ad b0 yX4_refusal cX4_refusal 5 (some .int) 2 43 [.ref (ad (j)), .int (oI (2)), .int (oI (r)), .int (oI (p)), .int (oI (on))] σ (fun rr uu => rr = oI ((oRef2 n sz r p on)) ∧ uu = σ) := by
  refine m_start (cc := cX4_refusal) (by decide) (Nat.le_of_ble_eq_true rfl) rfl ?_
  intro Pp Ee Ss Mm Bb Me Cc Ar ls hx hb hml hown hlk hrt hts hK hH hl
  have hown : Ss.vm.findClass RX4 = some Mm.cls := hown
  have hn := hwf.1
  have hsz := oSize_le hwf
  have hw64 := oRow_64 hwf
  have hw41 := oRow_lt hwf
  have hsr := hsz r
  have hl : lv_has ls 5 [(0, .ref (ad (j))), (1, .int (oI (2))), (2, .int (oI (r))), (3, .int (oI (p))), (4, .int (oI (on)))] := hl
  refine lv_iload_n hx hb dX4_refusal_0 rfl (lv_at hl 1 rfl) ?_
  refine m_tabIn 59 hx hb dX4_refusal_1 (by omega) (by omega) (by first | rfl | (rw [show (2 : Int) = 2 by omega]; rfl)) (by decide) ?_
  refine lv_aload_n hx hb dX4_refusal_59 rfl (lv_at hl 0 rfl) ?_
  refine lv_iload_n hx hb dX4_refusal_60 rfl (lv_at hl 2 rfl) ?_
  refine lv_iload_n hx hb dX4_refusal_61 rfl (lv_at hl 3 rfl) ?_
  refine m_pVb hx hb hml hown hts hK hH hl (rest := []) cw_X4_83 (c4_hasPlace hA j n a g sz w r p (by first | assumption | omega) (by first | assumption | omega) (by first | assumption | omega) (by first | assumption | omega) (by first | assumption | omega) e0 e1 e2) ⟨Nat.le_of_ble_eq_true rfl, Nat.le_of_ble_eq_true rfl⟩ ⟨Nat.le_of_ble_eq_true rfl, Nat.le_of_ble_eq_true rfl⟩ rfl (k := j) (by omega) e0 rfl rfl (Nat.le_of_ble_eq_true rfl) dX4_refusal_62 (fun h_2 H locs hH => ?_) (fun h_2 H locs hH => ?_)
  · refine m_if_ne 70 hx hb dX4_refusal_65 (by decide) (by omega) (fun h_3 => ?_) (fun h_3 => absurd h_3 (by omega))
    refine lv_iload hx hb dX4_refusal_70 (lv_at hl 4 rfl) ?_
    refine m_if_ne 88 hx hb dX4_refusal_72 (by decide) (by omega) (fun h_4 => ?_) (fun h_4 => ?_)
    · refine m_iconst 0 hx hb dX4_refusal_88 rfl ?_
      exact m_iret hx hb hlk hrt hH (m_ni _) dX4_refusal_89 ⟨congrArg oI (by unfold oRef2; split <;> (try split) <;> omega), rfl⟩
    · refine lv_aload_n hx hb dX4_refusal_75 rfl (lv_at hl 0 rfl) ?_
      refine lv_iload_n hx hb dX4_refusal_76 rfl (lv_at hl 2 rfl) ?_
      refine lv_iload_n hx hb dX4_refusal_77 rfl (lv_at hl 3 rfl) ?_
      refine m_pVb hx hb hml hown hts hK hH hl (rest := []) cw_X4_86 (c4_isEnd hA j n a g sz w r p (by first | assumption | omega) (by first | assumption | omega) (by first | assumption | omega) (by first | assumption | omega) (by first | assumption | omega) e0 e1 e2) ⟨Nat.le_of_ble_eq_true rfl, Nat.le_of_ble_eq_true rfl⟩ ⟨Nat.le_of_ble_eq_true rfl, Nat.le_of_ble_eq_true rfl⟩ rfl (k := j) (by omega) e0 rfl rfl (Nat.le_of_ble_eq_true rfl) dX4_refusal_78 (fun h_5 H locs hH => ?_) (fun h_5 H locs hH => ?_)
      · refine m_if_eq 88 hx hb dX4_refusal_81 (by decide) (by omega) (fun h_6 => absurd h_6 (by omega)) (fun h_6 => ?_)
        refine m_iconst 3 hx hb dX4_refusal_84 rfl ?_
        refine lv_goto (tgt := 89) hx hb dX4_refusal_85 (by decide) ?_
        exact m_iret hx hb hlk hrt hH (m_ni _) dX4_refusal_89 ⟨congrArg oI (by unfold oRef2; split <;> (try split) <;> omega), rfl⟩
      · refine m_if_eq 88 hx hb dX4_refusal_81 (by decide) (by omega) (fun h_7 => ?_) (fun h_7 => absurd h_7 (by omega))
        refine m_iconst 0 hx hb dX4_refusal_88 rfl ?_
        exact m_iret hx hb hlk hrt hH (m_ni _) dX4_refusal_89 ⟨congrArg oI (by unfold oRef2; split <;> (try split) <;> omega), rfl⟩
  · refine m_if_ne 70 hx hb dX4_refusal_65 (by decide) (by omega) (fun h_8 => absurd h_8 (by omega)) (fun h_8 => ?_)
    refine m_iconst 1 hx hb dX4_refusal_68 rfl ?_
    exact m_iret hx hb hlk hrt hH (m_ni _) dX4_refusal_69 ⟨congrArg oI (by unfold oRef2; split <;> (try split) <;> omega), rfl⟩
set_option maxHeartbeats 4000000 in
set_option maxRecDepth 100000 in
theorem c4_ref3 {l : Launch} {D : va_G} {cT : Nat → ClassId} {N b0 : Nat} {ad : Nat → Nat} (hA : oAd b0 N ad) {σ : Nat → va_E} (j n a g : Nat) (sz w : Nat → Nat) (r p on : Int) (hj : j + 2 < N) (hwf : oWf n sz w) (hbr : -2147483648 ≤ r ∧ r < 2147483648) (hbp : -2147483648 ≤ p ∧ p < 2147483648) (hbon : -2147483648 ≤ on ∧ on < 2147483648) (e0 : σ (j) = .inr (4, [.ref (ad (j + 1)), .ref (ad (j + 2)), .int (oI (((n : Nat) : Int))), .int (oI (((a : Nat) : Int))), .int (oI (((g : Nat) : Int)))])) (e1 : σ (j + 1) = oAN cT 4 sz) (e2 : σ (j + 2) = oAJ cT 4 w) :
    oCi l D cT N ad b0 yX4_refusal cX4_refusal 5 (some .int) 2 43 [.ref (ad (j)), .int (oI (3)), .int (oI (r)), .int (oI (p)), .int (oI (on))] σ (fun rr uu => rr = oI ((oRef3 n sz r p)) ∧ uu = σ) := by
  refine m_start (cc := cX4_refusal) (by decide) (Nat.le_of_ble_eq_true rfl) rfl ?_
  intro Pp Ee Ss Mm Bb Me Cc Ar ls hx hb hml hown hlk hrt hts hK hH hl
  have hown : Ss.vm.findClass RX4 = some Mm.cls := hown
  have hn := hwf.1
  have hsz := oSize_le hwf
  have hw64 := oRow_64 hwf
  have hw41 := oRow_lt hwf
  have hsr := hsz r
  have hl : lv_has ls 5 [(0, .ref (ad (j))), (1, .int (oI (3))), (2, .int (oI (r))), (3, .int (oI (p))), (4, .int (oI (on)))] := hl
  refine lv_iload_n hx hb dX4_refusal_0 rfl (lv_at hl 1 rfl) ?_
  refine m_tabIn 90 hx hb dX4_refusal_1 (by omega) (by omega) (by first | rfl | (rw [show (3 : Int) = 3 by omega]; rfl)) (by decide) ?_
  refine lv_aload_n hx hb dX4_refusal_90 rfl (lv_at hl 0 rfl) ?_
  refine lv_iload_n hx hb dX4_refusal_91 rfl (lv_at hl 2 rfl) ?_
  refine m_pVb hx hb hml hown hts hK hH hl (rest := []) cw_X4_44 (c4_hasRuler hA j n a g sz w r (by first | assumption | omega) (by first | assumption | omega) (by first | assumption | omega) e0 e1 e2) ⟨Nat.le_of_ble_eq_true rfl, Nat.le_of_ble_eq_true rfl⟩ ⟨Nat.le_of_ble_eq_true rfl, Nat.le_of_ble_eq_true rfl⟩ rfl (k := j) (by omega) e0 rfl rfl (Nat.le_of_ble_eq_true rfl) dX4_refusal_92 (fun h_2 H locs hH => ?_) (fun h_2 H locs hH => ?_)
  · refine m_if_ne 100 hx hb dX4_refusal_95 (by decide) (by omega) (fun h_3 => ?_) (fun h_3 => absurd h_3 (by omega))
    refine lv_iload_n hx hb dX4_refusal_100 rfl (lv_at hl 3 rfl) ?_
    refine m_iconst 2 hx hb dX4_refusal_101 rfl ?_
    refine m_icmp_lt 114 hx hb dX4_refusal_102 (by decide) (by omega) (by omega) (fun h_4 => ?_) (fun h_4 => ?_)
    · refine m_iconst 2 hx hb dX4_refusal_114 rfl ?_
      refine lv_goto (tgt := 119) hx hb dX4_refusal_115 (by decide) ?_
      exact m_iret hx hb hlk hrt hH (m_ni _) dX4_refusal_119 ⟨congrArg oI (by unfold oRef3; split <;> (try split) <;> omega), rfl⟩
    · refine lv_iload_n hx hb dX4_refusal_105 rfl (lv_at hl 3 rfl) ?_
      refine lv_aload_n hx hb dX4_refusal_106 rfl (lv_at hl 0 rfl) ?_
      refine lv_iload_n hx hb dX4_refusal_107 rfl (lv_at hl 2 rfl) ?_
      refine m_pVi hx hb hml hown hts hK hH hl (rest := [.int (oI (p))]) cw_X4_32 (c4_size hA j n a g sz w r (by first | assumption | omega) (by first | assumption | omega) (by first | assumption | omega) e0 e1 e2) ⟨Nat.le_of_ble_eq_true rfl, Nat.le_of_ble_eq_true rfl⟩ ⟨Nat.le_of_ble_eq_true rfl, Nat.le_of_ble_eq_true rfl⟩ rfl (k := j) (by omega) e0 rfl rfl (Nat.le_of_ble_eq_true rfl) dX4_refusal_108 (fun H locs hH => ?_)
      refine m_icmp_le 118 hx hb dX4_refusal_111 (by decide) (by omega) (by omega) (fun h_5 => ?_) (fun h_5 => ?_)
      · refine m_iconst 0 hx hb dX4_refusal_118 rfl ?_
        exact m_iret hx hb hlk hrt hH (m_ni _) dX4_refusal_119 ⟨congrArg oI (by unfold oRef3; split <;> (try split) <;> omega), rfl⟩
      · refine m_iconst 2 hx hb dX4_refusal_114 rfl ?_
        refine lv_goto (tgt := 119) hx hb dX4_refusal_115 (by decide) ?_
        exact m_iret hx hb hlk hrt hH (m_ni _) dX4_refusal_119 ⟨congrArg oI (by unfold oRef3; split <;> (try split) <;> omega), rfl⟩
  · refine m_if_ne 100 hx hb dX4_refusal_95 (by decide) (by omega) (fun h_6 => absurd h_6 (by omega)) (fun h_6 => ?_)
    refine m_iconst 1 hx hb dX4_refusal_98 rfl ?_
    exact m_iret hx hb hlk hrt hH (m_ni _) dX4_refusal_99 ⟨congrArg oI (by unfold oRef3; split <;> (try split) <;> omega), rfl⟩
set_option maxHeartbeats 4000000 in
set_option maxRecDepth 100000 in
theorem c4_ref4 {l : Launch} {D : va_G} {cT : Nat → ClassId} {N b0 : Nat} {ad : Nat → Nat} (hA : oAd b0 N ad) {σ : Nat → va_E} (j n a g : Nat) (sz w : Nat → Nat) (r p on : Int) (hj : j + 2 < N) (hwf : oWf n sz w) (hbr : -2147483648 ≤ r ∧ r < 2147483648) (hbp : -2147483648 ≤ p ∧ p < 2147483648) (hbon : -2147483648 ≤ on ∧ on < 2147483648) (e0 : σ (j) = .inr (4, [.ref (ad (j + 1)), .ref (ad (j + 2)), .int (oI (((n : Nat) : Int))), .int (oI (((a : Nat) : Int))), .int (oI (((g : Nat) : Int)))])) (e1 : σ (j + 1) = oAN cT 4 sz) (e2 : σ (j + 2) = oAJ cT 4 w) :
    oCi l D cT N ad b0 yX4_refusal cX4_refusal 5 (some .int) 2 43 [.ref (ad (j)), .int (oI (4)), .int (oI (r)), .int (oI (p)), .int (oI (on))] σ (fun rr uu => rr = oI ((oRef4 n r)) ∧ uu = σ) := by
  refine m_start (cc := cX4_refusal) (by decide) (Nat.le_of_ble_eq_true rfl) rfl ?_
  intro Pp Ee Ss Mm Bb Me Cc Ar ls hx hb hml hown hlk hrt hts hK hH hl
  have hown : Ss.vm.findClass RX4 = some Mm.cls := hown
  have hn := hwf.1
  have hsz := oSize_le hwf
  have hw64 := oRow_64 hwf
  have hw41 := oRow_lt hwf
  have hsr := hsz r
  have hl : lv_has ls 5 [(0, .ref (ad (j))), (1, .int (oI (4))), (2, .int (oI (r))), (3, .int (oI (p))), (4, .int (oI (on)))] := hl
  refine lv_iload_n hx hb dX4_refusal_0 rfl (lv_at hl 1 rfl) ?_
  refine m_tabIn 120 hx hb dX4_refusal_1 (by omega) (by omega) (by first | rfl | (rw [show (4 : Int) = 4 by omega]; rfl)) (by decide) ?_
  refine lv_aload_n hx hb dX4_refusal_120 rfl (lv_at hl 0 rfl) ?_
  refine lv_iload_n hx hb dX4_refusal_121 rfl (lv_at hl 2 rfl) ?_
  refine m_pVb hx hb hml hown hts hK hH hl (rest := []) cw_X4_44 (c4_hasRuler hA j n a g sz w r (by first | assumption | omega) (by first | assumption | omega) (by first | assumption | omega) e0 e1 e2) ⟨Nat.le_of_ble_eq_true rfl, Nat.le_of_ble_eq_true rfl⟩ ⟨Nat.le_of_ble_eq_true rfl, Nat.le_of_ble_eq_true rfl⟩ rfl (k := j) (by omega) e0 rfl rfl (Nat.le_of_ble_eq_true rfl) dX4_refusal_122 (fun h_2 H locs hH => ?_) (fun h_2 H locs hH => ?_)
  · refine m_if_eq 132 hx hb dX4_refusal_125 (by decide) (by omega) (fun h_3 => absurd h_3 (by omega)) (fun h_3 => ?_)
    refine m_iconst 0 hx hb dX4_refusal_128 rfl ?_
    refine lv_goto (tgt := 133) hx hb dX4_refusal_129 (by decide) ?_
    exact m_iret hx hb hlk hrt hH (m_ni _) dX4_refusal_133 ⟨congrArg oI (by unfold oRef4; split <;> (try split) <;> omega), rfl⟩
  · refine m_if_eq 132 hx hb dX4_refusal_125 (by decide) (by omega) (fun h_4 => ?_) (fun h_4 => absurd h_4 (by omega))
    refine m_iconst 1 hx hb dX4_refusal_132 rfl ?_
    exact m_iret hx hb hlk hrt hH (m_ni _) dX4_refusal_133 ⟨congrArg oI (by unfold oRef4; split <;> (try split) <;> omega), rfl⟩
set_option maxHeartbeats 4000000 in
set_option maxRecDepth 100000 in
theorem c4_ref5 {l : Launch} {D : va_G} {cT : Nat → ClassId} {N b0 : Nat} {ad : Nat → Nat} (hA : oAd b0 N ad) {σ : Nat → va_E} (j n a g : Nat) (sz w : Nat → Nat) (r p on : Int) (hj : j + 2 < N) (hwf : oWf n sz w) (hbr : -2147483648 ≤ r ∧ r < 2147483648) (hbp : -2147483648 ≤ p ∧ p < 2147483648) (hbon : -2147483648 ≤ on ∧ on < 2147483648) (e0 : σ (j) = .inr (4, [.ref (ad (j + 1)), .ref (ad (j + 2)), .int (oI (((n : Nat) : Int))), .int (oI (((a : Nat) : Int))), .int (oI (((g : Nat) : Int)))])) (e1 : σ (j + 1) = oAN cT 4 sz) (e2 : σ (j + 2) = oAJ cT 4 w) :
    oCi l D cT N ad b0 yX4_refusal cX4_refusal 5 (some .int) 2 43 [.ref (ad (j)), .int (oI (5)), .int (oI (r)), .int (oI (p)), .int (oI (on))] σ (fun rr uu => rr = oI ((oRef5 r p)) ∧ uu = σ) := by
  refine m_start (cc := cX4_refusal) (by decide) (Nat.le_of_ble_eq_true rfl) rfl ?_
  intro Pp Ee Ss Mm Bb Me Cc Ar ls hx hb hml hown hlk hrt hts hK hH hl
  have hown : Ss.vm.findClass RX4 = some Mm.cls := hown
  have hn := hwf.1
  have hsz := oSize_le hwf
  have hw64 := oRow_64 hwf
  have hw41 := oRow_lt hwf
  have hsr := hsz r
  have hl : lv_has ls 5 [(0, .ref (ad (j))), (1, .int (oI (5))), (2, .int (oI (r))), (3, .int (oI (p))), (4, .int (oI (on)))] := hl
  refine lv_iload_n hx hb dX4_refusal_0 rfl (lv_at hl 1 rfl) ?_
  refine m_tabOut 134 hx hb dX4_refusal_1 (by omega) (by omega) (by decide) ?_
  refine lv_iload_n hx hb dX4_refusal_134 rfl (lv_at hl 2 rfl) ?_
  refine lv_iload_n hx hb dX4_refusal_135 rfl (lv_at hl 3 rfl) ?_
  refine m_pSb hx hb hml hown hts hK hH hl (rest := []) cw_X4_89 rfl (c4_isSetting hA r p (by first | assumption | omega) (by first | assumption | omega) ) ⟨Nat.le_of_ble_eq_true rfl, Nat.le_of_ble_eq_true rfl⟩ ⟨Nat.le_of_ble_eq_true rfl, Nat.le_of_ble_eq_true rfl⟩ rfl rfl (Nat.le_of_ble_eq_true rfl) dX4_refusal_136 (fun h_2 H locs hH => ?_) (fun h_2 H locs hH => ?_)
  · refine m_if_eq 146 hx hb dX4_refusal_139 (by decide) (by omega) (fun h_3 => absurd h_3 (by omega)) (fun h_3 => ?_)
    refine m_iconst 0 hx hb dX4_refusal_142 rfl ?_
    refine lv_goto (tgt := 147) hx hb dX4_refusal_143 (by decide) ?_
    exact m_iret hx hb hlk hrt hH (m_ni _) dX4_refusal_147 ⟨congrArg oI (by unfold oRef5; split <;> (try split) <;> omega), rfl⟩
  · refine m_if_eq 146 hx hb dX4_refusal_139 (by decide) (by omega) (fun h_4 => ?_) (fun h_4 => absurd h_4 (by omega))
    refine m_iconst 2 hx hb dX4_refusal_146 rfl ?_
    exact m_iret hx hb hlk hrt hH (m_ni _) dX4_refusal_147 ⟨congrArg oI (by unfold oRef5; split <;> (try split) <;> omega), rfl⟩
