theorem oBz_add (x p : Nat) : bz (1 ||| 2 ^ x) p = if p = 0 ∨ p = x then 1 else 0 := by
  by_cases h : p = 0 ∨ p = x
  · rw [if_pos h]
    refine bz_1.mpr ?_
    rw [Nat.testBit_or, Nat.testBit_two_pow, show (1 : Nat) = 2 ^ 0 from rfl, Nat.testBit_two_pow]
    rcases h with rfl | rfl <;> simp
  · rw [if_neg h]
    refine bz_0.mpr ?_
    rw [Nat.testBit_or, Nat.testBit_two_pow, show (1 : Nat) = 2 ^ 0 from rfl, Nat.testBit_two_pow, decide_eq_false (by omega), decide_eq_false (by omega)]
    rfl
theorem oRS_add {f f3 : Nat → Int} {n a g x : Nat} {sz w : Nat → Nat} (h : oRS f n a g sz w) (hA : ∀ q : Nat, q < 41 → f3 (42 * n + 4 + q) = (bz (1 ||| 2 ^ x) q : Int)) (hB : ∀ k : Nat, k < 42 * n + 4 → f3 k = va_up f (42 * n + 3) ((x : Nat) : Int) k) : oRS (va_up f3 0 (((n : Nat) : Int) + 1)) (n + 1) a g (va_up sz n x) (va_up w n (1 ||| 2 ^ x)) := by
  obtain ⟨h0, h1, h2, h3⟩ := h
  refine ⟨by rw [va_up_s]; rfl, by rw [va_up_n _ _ (by omega), hB 1 (by omega), va_up_n _ _ (by omega)]; exact h1, by rw [va_up_n _ _ (by omega), hB 2 (by omega), va_up_n _ _ (by omega)]; exact h2, fun r hr => ?_⟩
  by_cases e : r = n
  · subst e
    refine ⟨by rw [va_up_n _ _ (by omega), hB _ (by omega), va_up_s, va_up_s], fun p hp => by rw [va_up_n _ _ (by omega), hA p (by omega), va_up_s]⟩
  · refine ⟨by rw [va_up_n _ _ (by omega), hB _ (by omega), va_up_n _ _ (by omega), va_up_n _ _ e]; exact (h3 r (by omega)).1, fun p hp => by rw [va_up_n _ _ (by omega), hB _ (by omega), va_up_n _ _ (by omega), va_up_n _ _ e]; exact (h3 r (by omega)).2 p hp⟩
theorem oRS_cut {f f3 : Nat → Int} {n a g r x : Nat} {sz w : Nat → Nat} (h : oRS f n a g sz w) (hx : x ≤ 40) (hA : ∀ q : Nat, x < q → q < 41 → f3 (42 * r + 4 + q) = 0) (hB : ∀ k : Nat, (k ≤ 42 * r + 4 + x ∨ 42 * r + 4 + 41 ≤ k) → f3 k = va_up (va_up f (42 * r + 3) ((x : Nat) : Int)) (42 * r + 4 + x) 1 k) : oRS f3 n a g (va_up sz r x) (va_up w r (oCutW (w r) x)) := by
  obtain ⟨h0, h1, h2, h3⟩ := h
  refine ⟨by rw [hB 0 (by omega), va_up_n _ _ (by omega), va_up_n _ _ (by omega)]; exact h0, by rw [hB 1 (by omega), va_up_n _ _ (by omega), va_up_n _ _ (by omega)]; exact h1, by rw [hB 2 (by omega), va_up_n _ _ (by omega), va_up_n _ _ (by omega)]; exact h2, fun q hq => ?_⟩
  by_cases e : q = r
  · subst e
    refine ⟨by rw [hB _ (by omega), va_up_n _ _ (by omega), va_up_s, va_up_s], fun p hp => ?_⟩
    rw [va_up_s]
    by_cases hpx : p ≤ x
    · rw [hB _ (by omega)]
      by_cases e2 : p = x
      · subst e2
        rw [va_up_s, bz_1.mpr (by rw [oCutW_tb]; simp)]
        rfl
      · rw [va_up_n _ _ (by omega), va_up_n _ _ (by omega), (h3 q hq).2 p hp, bz_eq (v := oCutW (w q) x) (w := w q) (by rw [oCutW_tb, decide_eq_true (by omega : p < x), decide_eq_false (by omega : ¬ x = p)]; simp)]
    · rw [hA p (by omega) (by omega), bz_0.mpr (by rw [oCutW_tb, decide_eq_false (by omega : ¬ p < x), decide_eq_false (by omega : ¬ x = p)]; simp)]
      rfl
  · refine ⟨by rw [hB _ (by omega), va_up_n _ _ (by omega), va_up_n _ _ (by omega), va_up_n _ _ e]; exact (h3 q hq).1, fun p hp => by rw [hB _ (by omega), va_up_n _ _ (by omega), va_up_n _ _ (by omega), va_up_n _ _ e]; exact (h3 q hq).2 p hp⟩
set_option maxHeartbeats 4000000 in
set_option maxRecDepth 100000 in
theorem c6_rulerOn {l : Launch} {D : va_G} {cT : Nat → ClassId} {N b0 : Nat} {ad : Nat → Nat} (hA : oAd b0 N ad) {σ : Nat → va_E} (j n a g : Nat) (f : Nat → Int) (sz w : Nat → Nat) (x : Nat) (hj : j < N) (hwf : oWf n sz w) (hp : oRS f n a g sz w) (hn4 : n < 4) (hx2 : 2 ≤ x ∧ x ≤ 40) (ef : σ (j) = oAI cT 171 f) :
    oCi l D cT N ad b0 yX6_rulerOn cX6_rulerOn 4 (some .int) 1 21 [.ref (ad (j)), .int (oI (((x : Nat) : Int)))] σ (fun rr uu => ∃ f2 : Nat → Int, rr = oI (((n : Nat) : Int)) ∧ (oRS f2 (n + 1) a g (va_up sz n x) (va_up w n (1 ||| 2 ^ x))) ∧ uu (j) = oAI cT 171 f2 ∧ (∀ q : Nat, q ≠ j → uu q = σ q)) := by
  refine m_start (cc := cX6_rulerOn) (by decide) (Nat.le_of_ble_eq_true rfl) rfl ?_
  intro Pp Ee Ss Mm Bb Me Cc Ar ls hx hb hml hown hlk hrt hts hK hH hl
  have hown : Ss.vm.findClass RX6 = some Mm.cls := hown
  have hn := hwf.1
  have hl : lv_has ls 4 [(0, .ref (ad (j))), (1, .int (oI (((x : Nat) : Int))))] := hl
  have hf : ∀ q : Nat, q ≠ j → σ q = σ q := fun q _ => rfl
  refine lv_aload_n hx hb dX6_rulerOn_0 rfl (lv_at hl 0 rfl) ?_
  refine m_iconst 0 hx hb dX6_rulerOn_1 rfl ?_
  refine m_iald hx hb hK hH (k := j) (by omega) ef (0) (by omega) (by omega) (by decide) dX6_rulerOn_2 ?_
  refine m_topI (((n : Nat) : Int)) (hp.1) ?_
  refine lv_istore_n (lv' := [(2, .int (oI (((n : Nat) : Int)))), (0, .ref (ad (j))), (1, .int (oI (((x : Nat) : Int))))]) hx hb dX6_rulerOn_3 rfl hl (by decide) rfl (fun ls hl => ?_)
  refine lv_aload_n hx hb dX6_rulerOn_4 rfl (lv_at hl 1 rfl) ?_
  refine m_iconst 3 hx hb dX6_rulerOn_5 rfl ?_
  refine m_bipush 42 hx hb dX6_rulerOn_6 (by decide) ?_
  refine lv_iload_n hx hb dX6_rulerOn_8 rfl (lv_at hl 0 rfl) ?_
  refine m_imul (42 * ((n : Nat) : Int)) hx hb dX6_rulerOn_9 (by omega) ?_
  refine m_iadd (42 * ((n : Nat) : Int) + 3) hx hb dX6_rulerOn_10 (by omega) ?_
  refine lv_iload_n hx hb dX6_rulerOn_11 rfl (lv_at hl 2 rfl) ?_
  refine m_iast hx hb hK hH hA (k := j) (by omega) ef (42 * n + 3) (by omega) (by omega) (by decide) dX6_rulerOn_12 (fun H locs σ_1 ef hq_2 hH => ?_)
  have hf : ∀ q : Nat, q ≠ j → σ_1 q = σ q := fun q n0 => (hq_2 q n0).trans (hf q n0)
  refine m_iconst 0 hx hb dX6_rulerOn_13 rfl ?_
  refine lv_istore_n (lv' := [(3, .int (oI (0))), (2, .int (oI (((n : Nat) : Int)))), (0, .ref (ad (j))), (1, .int (oI (((x : Nat) : Int))))]) hx hb dX6_rulerOn_14 rfl hl (by decide) rfl (fun ls hl => ?_)
  have L15 : ∀ (fu : Nat) (p : Nat) (f3 : Nat → Int), (42 - p < fu) → (p ≤ 41) → (∀ q : Nat, q < p → f3 (42 * n + 4 + q) = (bz (1 ||| 2 ^ x) q : Int)) → (∀ k : Nat, k < 42 * n + 4 → f3 k = va_up f (42 * n + 3) ((x : Nat) : Int) k) → ∀ σL15 : Nat → va_E, σL15 (j) = oAI cT 171 f3 → (∀ q : Nat, q ≠ j → σL15 q = σ_1 q) → ∀ (H : Heap) (locs : List Loc), oH b0 D N ad Ss.heap σL15 H locs → ∀ ls : Array Slot, lv_has ls 4 [(0, .ref (ad (j))), (1, .int (oI (((x : Nat) : Int)))), (2, .int (oI (((n : Nat) : Int)))), (3, .int (oI (((p : Nat) : Int))))] → W Pp l Ee { frames := 1, cells := 0, slots := 0, locals := 21 } Ss Mm Ar Bb Me Cc H locs 0 0 (MQ Bb (va_Qi (fun rr uu => ∃ f2 : Nat → Int, rr = oI (((n : Nat) : Int)) ∧ (oRS f2 (n + 1) a g (va_up sz n x) (va_up w n (1 ||| 2 ^ x))) ∧ uu (j) = oAI cT 171 f2 ∧ (∀ q : Nat, q ≠ j → uu q = σ q)) (oV D N ad) (fun q => b0 ≤ q)) Ar Ss 0 0 (fun q => b0 ≤ q)) (F0 Mm 15 ls []) := by
    intro fu15
    induction fu15 with
    | zero =>
      intro p f3 hm15
      exact absurd hm15 (Nat.not_lt_zero _)
    | succ fu15 ih15 =>
      intro p f3 hm15 hp41 hAA hB σL15 ef hL15 H locs hH ls hl
      have hf : ∀ q : Nat, q ≠ j → σL15 q = σ q := fun q n0 => (hL15 q n0).trans (hf q n0)
      refine lv_iload_n hx hb dX6_rulerOn_15 rfl (lv_at hl 3 rfl) ?_
      refine m_bipush 40 hx hb dX6_rulerOn_16 (by decide) ?_
      refine m_icmp_gt 48 hx hb dX6_rulerOn_18 (by decide) (by omega) (by omega) (fun h_3 => ?_) (fun h_3 => ?_)
      · refine lv_aload_n hx hb dX6_rulerOn_48 rfl (lv_at hl 0 rfl) ?_
        refine m_iconst 0 hx hb dX6_rulerOn_49 rfl ?_
        refine lv_dup2_11 hx hb dX6_rulerOn_50 rfl rfl ?_
        refine m_iald hx hb hK hH (k := j) (by omega) ef (0) (by omega) (by omega) (by decide) dX6_rulerOn_51 ?_
        refine m_topI (((n : Nat) : Int)) (by rw [hB 0 (by omega), va_up_n _ _ (by omega)]; exact hp.1) ?_
        refine m_iconst 1 hx hb dX6_rulerOn_52 rfl ?_
        refine m_iadd (((n : Nat) : Int) + 1) hx hb dX6_rulerOn_53 (by omega) ?_
        refine m_iast hx hb hK hH hA (k := j) (by omega) ef (0) (by omega) (by omega) (by decide) dX6_rulerOn_54 (fun H locs σ_4 ef hq_5 hH => ?_)
        have hf : ∀ q : Nat, q ≠ j → σ_4 q = σ q := fun q n0 => (hq_5 q n0).trans (hf q n0)
        have hL15 : ∀ q : Nat, q ≠ j → σ_4 q = σ_1 q := fun q n0 => (hq_5 q n0).trans (hL15 q n0)
        refine lv_iload_n hx hb dX6_rulerOn_55 rfl (lv_at hl 2 rfl) ?_
        exact m_iret hx hb hlk hrt hH (m_ni _) dX6_rulerOn_56 ⟨(va_up f3 0 (((n : Nat) : Int) + 1)), rfl, (oRS_add hp (fun q h => hAA q (by omega)) hB), ef, hf⟩
      · refine lv_aload_n hx hb dX6_rulerOn_21 rfl (lv_at hl 0 rfl) ?_
        refine lv_iload_n hx hb dX6_rulerOn_22 rfl (lv_at hl 2 rfl) ?_
        refine lv_iload_n hx hb dX6_rulerOn_23 rfl (lv_at hl 3 rfl) ?_
        refine m_pSi hx hb hml hown hts hK hH hl (rest := [.ref (ad (j))]) cw_X6_64 rfl (c6_at hA n p (by first | assumption | omega) (by first | assumption | omega) ) ⟨Nat.le_of_ble_eq_true rfl, Nat.le_of_ble_eq_true rfl⟩ ⟨Nat.le_of_ble_eq_true rfl, Nat.le_of_ble_eq_true rfl⟩ rfl rfl (Nat.le_of_ble_eq_true rfl) dX6_rulerOn_24 (fun H locs hH => ?_)
        refine lv_iload_n hx hb dX6_rulerOn_27 rfl (lv_at hl 3 rfl) ?_
        refine m_if_eq 36 hx hb dX6_rulerOn_28 (by decide) (by omega) (fun h_6 => ?_) (fun h_6 => ?_)
        · refine m_iconst 1 hx hb dX6_rulerOn_36 rfl ?_
          refine lv_goto (tgt := 41) hx hb dX6_rulerOn_37 (by decide) ?_
          refine m_iast hx hb hK hH hA (k := j) (by omega) ef (42 * n + 4 + p) (by omega) (by omega) (by decide) dX6_rulerOn_41 (fun H locs σ_7 ef hq_8 hH => ?_)
          have hf : ∀ q : Nat, q ≠ j → σ_7 q = σ q := fun q n0 => (hq_8 q n0).trans (hf q n0)
          have hL15 : ∀ q : Nat, q ≠ j → σ_7 q = σ_1 q := fun q n0 => (hq_8 q n0).trans (hL15 q n0)
          refine m_iinc (((p : Nat) : Int) + 1) [(3, .int (oI (((p : Nat) : Int) + 1))), (0, .ref (ad (j))), (1, .int (oI (((x : Nat) : Int)))), (2, .int (oI (((n : Nat) : Int))))] hx hb dX6_rulerOn_42 hl (j := 3) rfl (by omega) (by decide) rfl (fun ls hl => ?_)
          refine lv_goto (tgt := 15) hx hb dX6_rulerOn_45 (by decide) ?_
          exact ih15 (p + 1) (va_up f3 (42 * n + 4 + p) 1) (by omega) (by first | assumption | omega) (fun q h => by
        by_cases e : q = p
        · rw [e, va_up_s, oBz_add, if_pos (by omega)]; rfl
        · rw [va_up_n _ _ (by omega)]; exact hAA q (by omega)) (fun k h => by rw [va_up_n _ _ (by omega)]; exact hB k h) _ ef (hL15) _ _ hH ls (lv_sub hl [1, 2, 3, 0] rfl)
        · refine lv_iload_n hx hb dX6_rulerOn_31 rfl (lv_at hl 3 rfl) ?_
          refine lv_iload_n hx hb dX6_rulerOn_32 rfl (lv_at hl 1 rfl) ?_
          refine m_icmp_ne 40 hx hb dX6_rulerOn_33 (by decide) (by omega) (by omega) (fun h_9 => ?_) (fun h_9 => ?_)
          · refine m_iconst 0 hx hb dX6_rulerOn_40 rfl ?_
            refine m_iast hx hb hK hH hA (k := j) (by omega) ef (42 * n + 4 + p) (by omega) (by omega) (by decide) dX6_rulerOn_41 (fun H locs σ_10 ef hq_11 hH => ?_)
            have hf : ∀ q : Nat, q ≠ j → σ_10 q = σ q := fun q n0 => (hq_11 q n0).trans (hf q n0)
            have hL15 : ∀ q : Nat, q ≠ j → σ_10 q = σ_1 q := fun q n0 => (hq_11 q n0).trans (hL15 q n0)
            refine m_iinc (((p : Nat) : Int) + 1) [(3, .int (oI (((p : Nat) : Int) + 1))), (0, .ref (ad (j))), (1, .int (oI (((x : Nat) : Int)))), (2, .int (oI (((n : Nat) : Int))))] hx hb dX6_rulerOn_42 hl (j := 3) rfl (by omega) (by decide) rfl (fun ls hl => ?_)
            refine lv_goto (tgt := 15) hx hb dX6_rulerOn_45 (by decide) ?_
            exact ih15 (p + 1) (va_up f3 (42 * n + 4 + p) 0) (by omega) (by first | assumption | omega) (fun q h => by
        by_cases e : q = p
        · rw [e, va_up_s, oBz_add, if_neg (by omega)]; rfl
        · rw [va_up_n _ _ (by omega)]; exact hAA q (by omega)) (fun k h => by rw [va_up_n _ _ (by omega)]; exact hB k h) _ ef (hL15) _ _ hH ls (lv_sub hl [1, 2, 3, 0] rfl)
          · refine m_iconst 1 hx hb dX6_rulerOn_36 rfl ?_
            refine lv_goto (tgt := 41) hx hb dX6_rulerOn_37 (by decide) ?_
            refine m_iast hx hb hK hH hA (k := j) (by omega) ef (42 * n + 4 + p) (by omega) (by omega) (by decide) dX6_rulerOn_41 (fun H locs σ_12 ef hq_13 hH => ?_)
            have hf : ∀ q : Nat, q ≠ j → σ_12 q = σ q := fun q n0 => (hq_13 q n0).trans (hf q n0)
            have hL15 : ∀ q : Nat, q ≠ j → σ_12 q = σ_1 q := fun q n0 => (hq_13 q n0).trans (hL15 q n0)
            refine m_iinc (((p : Nat) : Int) + 1) [(3, .int (oI (((p : Nat) : Int) + 1))), (0, .ref (ad (j))), (1, .int (oI (((x : Nat) : Int)))), (2, .int (oI (((n : Nat) : Int))))] hx hb dX6_rulerOn_42 hl (j := 3) rfl (by omega) (by decide) rfl (fun ls hl => ?_)
            refine lv_goto (tgt := 15) hx hb dX6_rulerOn_45 (by decide) ?_
            exact ih15 (p + 1) (va_up f3 (42 * n + 4 + p) 1) (by omega) (by first | assumption | omega) (fun q h => by
        by_cases e : q = p
        · rw [e, va_up_s, oBz_add, if_pos (by omega)]; rfl
        · rw [va_up_n _ _ (by omega)]; exact hAA q (by omega)) (fun k h => by rw [va_up_n _ _ (by omega)]; exact hB k h) _ ef (hL15) _ _ hH ls (lv_sub hl [1, 2, 3, 0] rfl)
  exact L15 _ 0 (va_up f (42 * n + 3) ((x : Nat) : Int)) (Nat.lt_succ_self _) (by first | assumption | omega) (fun q h => absurd h (Nat.not_lt_zero _)) (fun _ _ => rfl) _ ef (fun q _ => rfl) _ _ hH ls (lv_sub hl [2, 3, 1, 0] rfl)
set_option maxHeartbeats 4000000 in
set_option maxRecDepth 100000 in
theorem c6_cutOn {l : Launch} {D : va_G} {cT : Nat → ClassId} {N b0 : Nat} {ad : Nat → Nat} (hA : oAd b0 N ad) {σ : Nat → va_E} (j n a g : Nat) (f : Nat → Int) (sz w : Nat → Nat) (r x : Nat) (hj : j < N) (hwf : oWf n sz w) (hp : oRS f n a g sz w) (hr : r < n) (hx2 : 2 ≤ x ∧ x ≤ sz r) (ef : σ (j) = oAI cT 171 f) :
    oCi l D cT N ad b0 yX6_cutOn cX6_cutOn 4 (some .int) 2 44 [.ref (ad (j)), .int (oI (((r : Nat) : Int))), .int (oI (((x : Nat) : Int)))] σ (fun rr uu => ∃ f2 : Nat → Int, rr = oI (((pcnt (oCutW (w r) x) : Nat) : Int)) ∧ (oRS f2 n a g (va_up sz r x) (va_up w r (oCutW (w r) x))) ∧ uu (j) = oAI cT 171 f2 ∧ (∀ q : Nat, q ≠ j → uu q = σ q)) := by
  refine m_start (cc := cX6_cutOn) (by decide) (Nat.le_of_ble_eq_true rfl) rfl ?_
  intro Pp Ee Ss Mm Bb Me Cc Ar ls hx hb hml hown hlk hrt hts hK hH hl
  have hown : Ss.vm.findClass RX6 = some Mm.cls := hown
  have hn := hwf.1
  have hsz : ∀ r : Nat, r < n → 2 ≤ sz r ∧ sz r ≤ 40 := fun r h => ⟨(hwf.2 r h).1, (hwf.2 r h).2.1⟩
  have hs9 := hsz r hr
  have hl : lv_has ls 4 [(0, .ref (ad (j))), (1, .int (oI (((r : Nat) : Int)))), (2, .int (oI (((x : Nat) : Int))))] := hl
  have hf : ∀ q : Nat, q ≠ j → σ q = σ q := fun q _ => rfl
  refine lv_aload_n hx hb dX6_cutOn_0 rfl (lv_at hl 0 rfl) ?_
  refine m_iconst 3 hx hb dX6_cutOn_1 rfl ?_
  refine m_bipush 42 hx hb dX6_cutOn_2 (by decide) ?_
  refine lv_iload_n hx hb dX6_cutOn_4 rfl (lv_at hl 1 rfl) ?_
  refine m_imul (42 * ((r : Nat) : Int)) hx hb dX6_cutOn_5 (by omega) ?_
  refine m_iadd (42 * ((r : Nat) : Int) + 3) hx hb dX6_cutOn_6 (by omega) ?_
  refine lv_iload_n hx hb dX6_cutOn_7 rfl (lv_at hl 2 rfl) ?_
  refine m_iast hx hb hK hH hA (k := j) (by omega) ef (42 * r + 3) (by omega) (by omega) (by decide) dX6_cutOn_8 (fun H locs σ_1 ef hq_2 hH => ?_)
  have hf : ∀ q : Nat, q ≠ j → σ_1 q = σ q := fun q n0 => (hq_2 q n0).trans (hf q n0)
  refine lv_aload_n hx hb dX6_cutOn_9 rfl (lv_at hl 0 rfl) ?_
  refine lv_iload_n hx hb dX6_cutOn_10 rfl (lv_at hl 1 rfl) ?_
  refine lv_iload_n hx hb dX6_cutOn_11 rfl (lv_at hl 2 rfl) ?_
  refine m_pSi hx hb hml hown hts hK hH hl (rest := [.ref (ad (j))]) cw_X6_64 rfl (c6_at hA r x (by first | assumption | omega) (by first | assumption | omega) ) ⟨Nat.le_of_ble_eq_true rfl, Nat.le_of_ble_eq_true rfl⟩ ⟨Nat.le_of_ble_eq_true rfl, Nat.le_of_ble_eq_true rfl⟩ rfl rfl (Nat.le_of_ble_eq_true rfl) dX6_cutOn_12 (fun H locs hH => ?_)
  refine m_iconst 1 hx hb dX6_cutOn_15 rfl ?_
  refine m_iast hx hb hK hH hA (k := j) (by omega) ef (42 * r + 4 + x) (by omega) (by omega) (by decide) dX6_cutOn_16 (fun H locs σ_3 ef hq_4 hH => ?_)
  have hf : ∀ q : Nat, q ≠ j → σ_3 q = σ q := fun q n0 => (hq_4 q n0).trans (hf q n0)
  refine lv_iload_n hx hb dX6_cutOn_17 rfl (lv_at hl 2 rfl) ?_
  refine m_iconst 1 hx hb dX6_cutOn_18 rfl ?_
  refine m_iadd (((x : Nat) : Int) + 1) hx hb dX6_cutOn_19 (by omega) ?_
  refine lv_istore_n (lv' := [(3, .int (oI (((x : Nat) : Int) + 1))), (0, .ref (ad (j))), (1, .int (oI (((r : Nat) : Int)))), (2, .int (oI (((x : Nat) : Int))))]) hx hb dX6_cutOn_20 rfl hl (by decide) rfl (fun ls hl => ?_)
  have L21 : ∀ (fu : Nat) (p : Nat) (f3 : Nat → Int), (42 - p < fu) → (x < p ∧ p ≤ 41) → (∀ q : Nat, x < q → q < p → f3 (42 * r + 4 + q) = 0) → (∀ k : Nat, (k ≤ 42 * r + 4 + x ∨ 42 * r + 4 + 41 ≤ k) → f3 k = va_up (va_up f (42 * r + 3) ((x : Nat) : Int)) (42 * r + 4 + x) 1 k) → ∀ σL21 : Nat → va_E, σL21 (j) = oAI cT 171 f3 → (∀ q : Nat, q ≠ j → σL21 q = σ_3 q) → ∀ (H : Heap) (locs : List Loc), oH b0 D N ad Ss.heap σL21 H locs → ∀ ls : Array Slot, lv_has ls 4 [(0, .ref (ad (j))), (1, .int (oI (((r : Nat) : Int)))), (2, .int (oI (((x : Nat) : Int)))), (3, .int (oI (((p : Nat) : Int))))] → W Pp l Ee { frames := 2, cells := 0, slots := 0, locals := 44 } Ss Mm Ar Bb Me Cc H locs 0 0 (MQ Bb (va_Qi (fun rr uu => ∃ f2 : Nat → Int, rr = oI (((pcnt (oCutW (w r) x) : Nat) : Int)) ∧ (oRS f2 n a g (va_up sz r x) (va_up w r (oCutW (w r) x))) ∧ uu (j) = oAI cT 171 f2 ∧ (∀ q : Nat, q ≠ j → uu q = σ q)) (oV D N ad) (fun q => b0 ≤ q)) Ar Ss 0 0 (fun q => b0 ≤ q)) (F0 Mm 21 ls []) := by
    intro fu21
    induction fu21 with
    | zero =>
      intro p f3 hm21
      exact absurd hm21 (Nat.not_lt_zero _)
    | succ fu21 ih21 =>
      intro p f3 hm21 hp41 hAA hB σL21 ef hL21 H locs hH ls hl
      have hf : ∀ q : Nat, q ≠ j → σL21 q = σ q := fun q n0 => (hL21 q n0).trans (hf q n0)
      refine lv_iload_n hx hb dX6_cutOn_21 rfl (lv_at hl 3 rfl) ?_
      refine m_bipush 40 hx hb dX6_cutOn_22 (by decide) ?_
      refine m_icmp_gt 41 hx hb dX6_cutOn_24 (by decide) (by omega) (by omega) (fun h_5 => ?_) (fun h_5 => ?_)
      · refine lv_aload_n hx hb dX6_cutOn_41 rfl (lv_at hl 0 rfl) ?_
        refine lv_iload_n hx hb dX6_cutOn_42 rfl (lv_at hl 1 rfl) ?_
        have hp2 : oRS f3 n a g (va_up sz r x) (va_up w r (oCutW (w r) x)) := oRS_cut hp (by omega) (fun q h h2 => hAA q h (by omega)) hB
        have hwf2 := hwf.cut hr hx2.1 hx2.2
        have hpl := pcnt_le (oCutW (w r) x)
        refine m_pSi hx hb hml hown hts hK hH hl (rest := []) cw_X6_68 rfl (c6_marks hA j n a g f3 (va_up sz r x) (va_up w r (oCutW (w r) x)) r (by first | assumption | omega) (by first | assumption | omega) (by first | assumption | omega) (by first | assumption | omega) ef) ⟨Nat.le_of_ble_eq_true rfl, Nat.le_of_ble_eq_true rfl⟩ ⟨Nat.le_of_ble_eq_true rfl, Nat.le_of_ble_eq_true rfl⟩ rfl rfl (Nat.le_of_ble_eq_true rfl) dX6_cutOn_43 (fun H locs hH => ?_)
        refine m_topI (((pcnt (oCutW (w r) x) : Nat) : Int)) (by rw [oPc_pcnt (hwf2.2 r hr).2.2.1 (by rw [va_up_s]; omega), va_up_s]) ?_
        exact m_iret hx hb hlk hrt hH (m_ni _) dX6_cutOn_46 ⟨f3, rfl, hp2, ef, hf⟩
      · refine lv_aload_n hx hb dX6_cutOn_27 rfl (lv_at hl 0 rfl) ?_
        refine lv_iload_n hx hb dX6_cutOn_28 rfl (lv_at hl 1 rfl) ?_
        refine lv_iload_n hx hb dX6_cutOn_29 rfl (lv_at hl 3 rfl) ?_
        refine m_pSi hx hb hml hown hts hK hH hl (rest := [.ref (ad (j))]) cw_X6_64 rfl (c6_at hA r p (by first | assumption | omega) (by first | assumption | omega) ) ⟨Nat.le_of_ble_eq_true rfl, Nat.le_of_ble_eq_true rfl⟩ ⟨Nat.le_of_ble_eq_true rfl, Nat.le_of_ble_eq_true rfl⟩ rfl rfl (Nat.le_of_ble_eq_true rfl) dX6_cutOn_30 (fun H locs hH => ?_)
        refine m_iconst 0 hx hb dX6_cutOn_33 rfl ?_
        refine m_iast hx hb hK hH hA (k := j) (by omega) ef (42 * r + 4 + p) (by omega) (by omega) (by decide) dX6_cutOn_34 (fun H locs σ_6 ef hq_7 hH => ?_)
        have hf : ∀ q : Nat, q ≠ j → σ_6 q = σ q := fun q n0 => (hq_7 q n0).trans (hf q n0)
        have hL21 : ∀ q : Nat, q ≠ j → σ_6 q = σ_3 q := fun q n0 => (hq_7 q n0).trans (hL21 q n0)
        refine m_iinc (((p : Nat) : Int) + 1) [(3, .int (oI (((p : Nat) : Int) + 1))), (0, .ref (ad (j))), (1, .int (oI (((r : Nat) : Int)))), (2, .int (oI (((x : Nat) : Int))))] hx hb dX6_cutOn_35 hl (j := 3) rfl (by omega) (by decide) rfl (fun ls hl => ?_)
        refine lv_goto (tgt := 21) hx hb dX6_cutOn_38 (by decide) ?_
        exact ih21 (p + 1) (va_up f3 (42 * r + 4 + p) 0) (by omega) (by first | assumption | omega) (fun q h h2 => by
        by_cases e : q = p
        · rw [e, va_up_s]
        · rw [va_up_n _ _ (by omega)]; exact hAA q h (by omega)) (fun k h => by rw [va_up_n _ _ (by omega)]; exact hB k h) _ ef (hL21) _ _ hH ls (lv_sub hl [1, 2, 3, 0] rfl)
  exact L21 _ (x + 1) (va_up (va_up f (42 * r + 3) ((x : Nat) : Int)) (42 * r + 4 + x) 1) (Nat.lt_succ_self _) (by first | assumption | omega) (fun q h h2 => by omega) (fun _ _ => rfl) _ ef (fun q _ => rfl) _ _ hH ls (lv_sub hl [1, 2, 3, 0] rfl)
