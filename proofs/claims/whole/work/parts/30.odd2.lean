abbrev oIA : String := "java/lang/IllegalArgumentException"
abbrev oIS : String := "java/lang/IllegalStateException"
abbrev oIO : String := "java/lang/IndexOutOfBoundsException"
theorem oSp_s (m : Nat) : oSp (m + 1) = oSp m + m := by
  unfold oSp
  have h : (m + 1) * (m + 1 - 1) = m * (m - 1) + 2 * m := by
    cases m with
    | zero => rfl
    | succ k =>
      simp only [Nat.add_sub_cancel]
      rw [Nat.mul_comm (k + 1) k, ← Nat.add_mul, Nat.mul_comm (k + 2)]
  rw [h, Nat.add_mul_div_left _ _ (by decide : 0 < 2)]
theorem oRk_sum {w : Nat} : ∀ p : Nat, p ≤ 64 → oRk w p + oSp (oUe w p) = oSp (pcnt w)
  | 0, _ => by rw [oUe_0]; show 0 + _ = _; omega
  | p + 1, h => by
    have ih := oRk_sum (w := w) p (by omega)
    by_cases b : w.testBit p = true
    · rw [oUe_at (by omega) b, oSp_s] at ih
      rw [oUe_s, oRk_y b]
      omega
    · rw [oUe_not b] at ih
      rw [oUe_s, oRk_n b]
      exact ih
theorem oRk_41 {w : Nat} (h : w < 2 ^ 41) : oRk w 41 = oSp (pcnt w) := by
  have h1 := oRk_sum (w := w) 41 (by omega)
  have h2 : oUe w 41 = 0 := by
    unfold oUe
    refine fb_ct_zero.mpr (fun k _ => ?_)
    by_cases hk : 41 ≤ k
    · rw [Nat.testBit_lt_two_pow (Nat.lt_of_lt_of_le h (Nat.pow_le_pow_right (by decide) hk))]
      exact Bool.and_false _
    · rw [decide_eq_false hk]; rfl
  rw [h2] at h1
  exact h1
def oRul (x : Int) (w s : Nat) : Nat := if x = 0 then s else if x = 1 then pcnt w else if x = 2 then oSp (pcnt w) else if x = 3 then pcnt (oSpr w 41) else if x = 4 then (oCom w 40).1 else oMiss (oSpr w 41)
noncomputable def oAbo (x : Int) (n a g : Nat) (w : Nat → Nat) : Nat := if x = 0 then n else if x = 1 then oAllM n w 4 else if x = 2 then oAllS n w 4 else if x = 3 then pcnt (oOrW n w (-1) 4) else if x = 4 then oGc (oOrW n w (-1) 4) 40 else if x = 5 then oCnt (oOrW n w (-1) 4) a g else if x = 6 then oGaps (oOrW n w (-1) 4) a g else if x = 7 then a else g
theorem oSpr_0 (w : Nat) : ∀ k : Nat, (oSpr w k).testBit 0 = false
  | 0 => Nat.zero_testBit 0
  | k + 1 => by
    by_cases h : k = 0 ∨ w &&& w / 2 ^ k = 0
    · have e : oSpr w (k + 1) = oSpr w k := if_pos h
      rw [e]; exact oSpr_0 w k
    · have e : oSpr w (k + 1) = oSpr w k ||| 2 ^ k := if_neg h
      rw [e, Nat.testBit_or, oSpr_0 w k, Nat.testBit_two_pow_of_ne (by omega)]; rfl
theorem oOrW_bits {n : Nat} {w : Nat → Nat} {left : Int} {r : Nat} : ∀ k : Nat, (oOrW n w left r).testBit k = true → 1 ≤ k ∧ k ≤ 40 := by
  intro k hk
  refine ⟨?_, ?_⟩
  · rcases Nat.eq_zero_or_pos k with rfl | h
    · exfalso
      have : ∀ r : Nat, (oOrW n w left r).testBit 0 = false := by
        intro r
        induction r with
        | zero => exact Nat.zero_testBit 0
        | succ r ih =>
          by_cases e : ((r : Nat) : Int) = left
          · rw [oOrW_n e]; exact ih
          · rw [oOrW_y e, Nat.testBit_or, ih, oSpr_0]; rfl
      rw [this r] at hk
      cases hk
    · exact h
  · refine Nat.lt_succ_iff.mp (Classical.byContradiction (fun h => ?_))
    rw [Nat.testBit_lt_two_pow (Nat.lt_of_lt_of_le (oOrW_lt n w left r) (Nat.pow_le_pow_right (by decide) (by omega)))] at hk
    cases hk
theorem oT_up {T : Nat → Int} {z : Nat} {x : Int} (h : ∀ i : Nat, i < z → 0 ≤ T i ∧ T i ≤ 255) (hx : 0 ≤ x ∧ x ≤ 255) : ∀ i : Nat, i < z + 1 → 0 ≤ va_up T z x i ∧ va_up T z x i ≤ 255 := by
  intro i hi
  by_cases e : i = z
  · rw [e, va_up_s]; exact hx
  · rw [va_up_n _ _ e]; exact h i (by omega)
set_option maxHeartbeats 4000000 in
set_option maxRecDepth 100000 in
theorem c5_checkRuler {l : Launch} {D : va_G} {cT : Nat → ClassId} {N b0 : Nat} {ad : Nat → Nat} (hA : oAd b0 N ad) {σ : Nat → va_E} (r : Int) (n a g : Nat) (sz w : Nat → Nat) (ff sf : Int) (hl0 : l.stackTraces = false) (hN : 76 ≤ N) (hwf : oWf n sz w) (hr : -2147483648 ≤ r ∧ r < 2147483648) (eO : σ (0) = .inr (5, [.ref (ad (1)), .ref (ad (4)), .ref (ad (7)), .ref (ad (10)), .int (oI (ff)), .int (oI (sf)), .ref (ad (13)), .ref (ad (57)), .ref (ad (59)), .ref (ad (64))])) (e0 : σ (1) = .inr (4, [.ref (ad (2)), .ref (ad (3)), .int (oI (((n : Nat) : Int))), .int (oI (((a : Nat) : Int))), .int (oI (((g : Nat) : Int)))])) (e1 : σ (2) = oAN cT 4 sz) (e2 : σ (3) = oAJ cT 4 w) :
    oXv l D cT N ad b0 yX5_checkRuler cX5_checkRuler 2 none 6 90 1 [.ref (ad (0)), .int (oI (r))] σ (fun uu => ((0 ≤ r ∧ r < (n : Int))) ∧ uu = σ) (fun E uu => E = oIO ∧ ¬ (0 ≤ r ∧ r < (n : Int)) ∧ uu = σ) := by
  refine m_startX (cc := cX5_checkRuler) (by decide) (Nat.le_of_ble_eq_true rfl) rfl ?_
  intro Pp Ee Ss Mm Bb Me Cc Ar ls hx hb hml hown hlk hrt hts hK hH hl hXT hnt
  have hown : Ss.vm.findClass RX5 = some Mm.cls := hown
  have hn := hwf.1
  have hsz := oSize_le hwf
  have hw64 := oRow_64 hwf
  have hw41 := oRow_lt hwf
  have hl : lv_has ls 2 [(0, .ref (ad (0))), (1, .int (oI (r)))] := hl
  refine lv_aload_n hx hb dX5_checkRuler_0 rfl (lv_at hl 0 rfl) ?_
  refine gf_X5_present hx hb hts hown hK hH (k := 0) (by omega) eO dX5_checkRuler_1 ?_
  refine lv_iload_n hx hb dX5_checkRuler_4 rfl (lv_at hl 1 rfl) ?_
  refine m_pVb hx hb hml hown hts hK hH hl (rest := []) cw_X5_173 (c4_hasRuler hA 1 n a g sz w r (by first | assumption | omega) (by first | assumption | omega) (by first | assumption | omega) e0 e1 e2) ⟨Nat.le_of_ble_eq_true rfl, Nat.le_of_ble_eq_true rfl⟩ ⟨Nat.le_of_ble_eq_true rfl, Nat.le_of_ble_eq_true rfl⟩ rfl (k := 1) (by omega) e0 rfl rfl (Nat.le_of_ble_eq_true rfl) dX5_checkRuler_5 (fun hP H locs hH => ?_) (fun hP H locs hH => ?_)
  · refine m_if_ne 21 hx hb dX5_checkRuler_8 (by decide) (by omega) (fun h_1 => ?_) (fun h_1 => absurd h_1 (by omega))
    exact m_vretX hx hb hlk hrt hH ⟨Nat.le_of_ble_eq_true rfl, Nat.le_of_ble_eq_true rfl⟩ dX5_checkRuler_21 ⟨(by first | assumption | omega), rfl⟩
  · refine m_if_ne 21 hx hb dX5_checkRuler_8 (by decide) (by omega) (fun h_2 => absurd h_2 (by omega)) (fun h_2 => ?_)
    exact m_throw (text := "no such ruler") hx hb hl0 hml hown hts hK hXT hH hl hlk hnt oth_2 (by decide) dX5_checkRuler_11 dX5_checkRuler_14 dX5_checkRuler_15 dX5_checkRuler_17 dX5_checkRuler_20 ⟨Nat.le_of_ble_eq_true rfl, Nat.le_of_ble_eq_true rfl⟩ (Nat.le_of_ble_eq_true rfl) ⟨Nat.le_of_ble_eq_true rfl, Nat.le_of_ble_eq_true rfl⟩ ⟨Nat.le_of_ble_eq_true rfl, Nat.le_of_ble_eq_true rfl⟩ (⟨rfl, hP, rfl⟩)
set_option maxHeartbeats 4000000 in
set_option maxRecDepth 100000 in
theorem c5_checkLength {l : Launch} {D : va_G} {cT : Nat → ClassId} {N b0 : Nat} {ad : Nat → Nat} (hA : oAd b0 N ad) {σ : Nat → va_E} (t : Int) (hl0 : l.stackTraces = false) (hbt : -2147483648 ≤ t ∧ t < 2147483648) :
    oXv l D cT N ad b0 yX5_checkLength cX5_checkLength 1 none 6 90 1 [.int (oI (t))] σ (fun uu => (0 ≤ t ∧ t ≤ 200) ∧ uu = σ) (fun E uu => E = oIA ∧ ¬ (0 ≤ t ∧ t ≤ 200) ∧ uu = σ) := by
  refine m_startX (cc := cX5_checkLength) (by decide) (Nat.le_of_ble_eq_true rfl) rfl ?_
  intro Pp Ee Ss Mm Bb Me Cc Ar ls hx hb hml hown hlk hrt hts hK hH hl hXT hnt
  have hown : Ss.vm.findClass RX5 = some Mm.cls := hown
  have hl : lv_has ls 1 [(0, .int (oI (t)))] := hl
  refine lv_iload_n hx hb dX5_checkLength_0 rfl (lv_at hl 0 rfl) ?_
  refine m_if_lt 11 hx hb dX5_checkLength_1 (by decide) (by omega) (fun h_1 => ?_) (fun h_1 => ?_)
  · exact m_throwW (text := "no such length") hx hb hl0 hml hown hts hK hXT hH hl hlk hnt oth_0 (by decide) dX5_checkLength_11 dX5_checkLength_14 dX5_checkLength_15 dX5_checkLength_18 dX5_checkLength_21 ⟨Nat.le_of_ble_eq_true rfl, Nat.le_of_ble_eq_true rfl⟩ (Nat.le_of_ble_eq_true rfl) ⟨Nat.le_of_ble_eq_true rfl, Nat.le_of_ble_eq_true rfl⟩ ⟨Nat.le_of_ble_eq_true rfl, Nat.le_of_ble_eq_true rfl⟩ (⟨rfl, by omega, rfl⟩)
  · refine lv_iload_n hx hb dX5_checkLength_4 rfl (lv_at hl 0 rfl) ?_
    refine m_sipush 200 hx hb dX5_checkLength_5 (by decide) ?_
    refine m_icmp_le 22 hx hb dX5_checkLength_8 (by decide) (by omega) (by omega) (fun h_2 => ?_) (fun h_2 => ?_)
    · exact m_vretX hx hb hlk hrt hH ⟨Nat.le_of_ble_eq_true rfl, Nat.le_of_ble_eq_true rfl⟩ dX5_checkLength_22 ⟨(by first | assumption | omega), rfl⟩
    · exact m_throwW (text := "no such length") hx hb hl0 hml hown hts hK hXT hH hl hlk hnt oth_0 (by decide) dX5_checkLength_11 dX5_checkLength_14 dX5_checkLength_15 dX5_checkLength_18 dX5_checkLength_21 ⟨Nat.le_of_ble_eq_true rfl, Nat.le_of_ble_eq_true rfl⟩ (Nat.le_of_ble_eq_true rfl) ⟨Nat.le_of_ble_eq_true rfl, Nat.le_of_ble_eq_true rfl⟩ ⟨Nat.le_of_ble_eq_true rfl, Nat.le_of_ble_eq_true rfl⟩ (⟨rfl, by omega, rfl⟩)
set_option maxHeartbeats 4000000 in
set_option maxRecDepth 100000 in
theorem c5_checkSlot {l : Launch} {D : va_G} {cT : Nat → ClassId} {N b0 : Nat} {ad : Nat → Nat} (hA : oAd b0 N ad) {σ : Nat → va_E} (t : Int) (hl0 : l.stackTraces = false) (hbt : -2147483648 ≤ t ∧ t < 2147483648) :
    oXv l D cT N ad b0 yX5_checkSlot cX5_checkSlot 1 none 6 90 1 [.int (oI (t))] σ (fun uu => (t = 0 ∨ t = 1) ∧ uu = σ) (fun E uu => E = oIO ∧ ¬ (t = 0 ∨ t = 1) ∧ uu = σ) := by
  refine m_startX (cc := cX5_checkSlot) (by decide) (Nat.le_of_ble_eq_true rfl) rfl ?_
  intro Pp Ee Ss Mm Bb Me Cc Ar ls hx hb hml hown hlk hrt hts hK hH hl hXT hnt
  have hown : Ss.vm.findClass RX5 = some Mm.cls := hown
  have hl : lv_has ls 1 [(0, .int (oI (t)))] := hl
  refine lv_iload_n hx hb dX5_checkSlot_0 rfl (lv_at hl 0 rfl) ?_
  refine m_if_eq 20 hx hb dX5_checkSlot_1 (by decide) (by omega) (fun h_1 => ?_) (fun h_1 => ?_)
  · exact m_vretX hx hb hlk hrt hH ⟨Nat.le_of_ble_eq_true rfl, Nat.le_of_ble_eq_true rfl⟩ dX5_checkSlot_20 ⟨(by first | assumption | omega), rfl⟩
  · refine lv_iload_n hx hb dX5_checkSlot_4 rfl (lv_at hl 0 rfl) ?_
    refine m_iconst 1 hx hb dX5_checkSlot_5 rfl ?_
    refine m_icmp_eq 20 hx hb dX5_checkSlot_6 (by decide) (by omega) (by omega) (fun h_2 => ?_) (fun h_2 => ?_)
    · exact m_vretX hx hb hlk hrt hH ⟨Nat.le_of_ble_eq_true rfl, Nat.le_of_ble_eq_true rfl⟩ dX5_checkSlot_20 ⟨(by first | assumption | omega), rfl⟩
    · exact m_throwW (text := "no such save slot") hx hb hl0 hml hown hts hK hXT hH hl hlk hnt oth_2 (by decide) dX5_checkSlot_9 dX5_checkSlot_12 dX5_checkSlot_13 dX5_checkSlot_16 dX5_checkSlot_19 ⟨Nat.le_of_ble_eq_true rfl, Nat.le_of_ble_eq_true rfl⟩ (Nat.le_of_ble_eq_true rfl) ⟨Nat.le_of_ble_eq_true rfl, Nat.le_of_ble_eq_true rfl⟩ ⟨Nat.le_of_ble_eq_true rfl, Nat.le_of_ble_eq_true rfl⟩ (⟨rfl, by omega, rfl⟩)
set_option maxHeartbeats 4000000 in
set_option maxRecDepth 100000 in
theorem c5_refuse {l : Launch} {D : va_G} {cT : Nat → ClassId} {N b0 : Nat} {ad : Nat → Nat} (hA : oAd b0 N ad) {σ : Nat → va_E} (x : Int) (hl0 : l.stackTraces = false) (hx3 : 0 ≤ x ∧ x ≤ 3) :
    oXv l D cT N ad b0 yX5_refuse cX5_refuse 1 none 6 90 1 [.int (oI (x))] σ (fun uu => (x = 0) ∧ uu = σ) (fun E uu => ((E = oIO ∧ x = 1) ∨ (E = oIA ∧ x = 2) ∨ (E = oIS ∧ x = 3)) ∧ uu = σ) := by
  refine m_startX (cc := cX5_refuse) (by decide) (Nat.le_of_ble_eq_true rfl) rfl ?_
  intro Pp Ee Ss Mm Bb Me Cc Ar ls hx hb hml hown hlk hrt hts hK hH hl hXT hnt
  have hown : Ss.vm.findClass RX5 = some Mm.cls := hown
  have hl : lv_has ls 1 [(0, .int (oI (x)))] := hl
  refine lv_iload_n hx hb dX5_refuse_0 rfl (lv_at hl 0 rfl) ?_
  refine m_iconst 1 hx hb dX5_refuse_1 rfl ?_
  refine m_icmp_ne 15 hx hb dX5_refuse_2 (by decide) (by omega) (by omega) (fun h_1 => ?_) (fun h_1 => ?_)
  · refine lv_iload_n hx hb dX5_refuse_15 rfl (lv_at hl 0 rfl) ?_
    refine m_iconst 2 hx hb dX5_refuse_16 rfl ?_
    refine m_icmp_ne 30 hx hb dX5_refuse_17 (by decide) (by omega) (by omega) (fun h_2 => ?_) (fun h_2 => ?_)
    · refine lv_iload_n hx hb dX5_refuse_30 rfl (lv_at hl 0 rfl) ?_
      refine m_iconst 3 hx hb dX5_refuse_31 rfl ?_
      refine m_icmp_ne 45 hx hb dX5_refuse_32 (by decide) (by omega) (by omega) (fun h_3 => ?_) (fun h_3 => ?_)
      · exact m_vretX hx hb hlk hrt hH ⟨Nat.le_of_ble_eq_true rfl, Nat.le_of_ble_eq_true rfl⟩ dX5_refuse_45 ⟨(by first | assumption | omega), rfl⟩
      · exact m_throw (text := "not in this state") hx hb hl0 hml hown hts hK hXT hH hl hlk hnt oth_1 (by decide) dX5_refuse_35 dX5_refuse_38 dX5_refuse_39 dX5_refuse_41 dX5_refuse_44 ⟨Nat.le_of_ble_eq_true rfl, Nat.le_of_ble_eq_true rfl⟩ (Nat.le_of_ble_eq_true rfl) ⟨Nat.le_of_ble_eq_true rfl, Nat.le_of_ble_eq_true rfl⟩ ⟨Nat.le_of_ble_eq_true rfl, Nat.le_of_ble_eq_true rfl⟩ (⟨Or.inr (Or.inr ⟨rfl, by omega⟩), rfl⟩)
    · exact m_throw (text := "out of range") hx hb hl0 hml hown hts hK hXT hH hl hlk hnt oth_0 (by decide) dX5_refuse_20 dX5_refuse_23 dX5_refuse_24 dX5_refuse_26 dX5_refuse_29 ⟨Nat.le_of_ble_eq_true rfl, Nat.le_of_ble_eq_true rfl⟩ (Nat.le_of_ble_eq_true rfl) ⟨Nat.le_of_ble_eq_true rfl, Nat.le_of_ble_eq_true rfl⟩ ⟨Nat.le_of_ble_eq_true rfl, Nat.le_of_ble_eq_true rfl⟩ (⟨Or.inr (Or.inl ⟨rfl, by omega⟩), rfl⟩)
  · exact m_throw (text := "no such ruler or place") hx hb hl0 hml hown hts hK hXT hH hl hlk hnt oth_2 (by decide) dX5_refuse_5 dX5_refuse_8 dX5_refuse_9 dX5_refuse_11 dX5_refuse_14 ⟨Nat.le_of_ble_eq_true rfl, Nat.le_of_ble_eq_true rfl⟩ (Nat.le_of_ble_eq_true rfl) ⟨Nat.le_of_ble_eq_true rfl, Nat.le_of_ble_eq_true rfl⟩ ⟨Nat.le_of_ble_eq_true rfl, Nat.le_of_ble_eq_true rfl⟩ (⟨Or.inl ⟨rfl, by omega⟩, rfl⟩)
set_option maxHeartbeats 4000000 in
set_option maxRecDepth 100000 in
theorem c5_append {l : Launch} {D : va_G} {cT : Nat → ClassId} {N b0 : Nat} {ad : Nat → Nat} (hA : oAd b0 N ad) {σ : Nat → va_E} (c : Int) (T : Nat → Int) (z p ac x1 x2 : Nat) (f on : Int) (ff sf : Int) (hl0 : l.stackTraces = false) (hN : 76 ≤ N) (hT : ∀ i : Nat, i < z → 0 ≤ T i ∧ T i ≤ 255) (hz : z ≤ 120) (hp : p ≤ 150) (hf0 : -2147483648 ≤ f ∧ f < 2147483648) (hbc : -2147483648 ≤ c ∧ c < 2147483648) (eO : σ (0) = .inr (5, [.ref (ad (1)), .ref (ad (4)), .ref (ad (7)), .ref (ad (10)), .int (oI (ff)), .int (oI (sf)), .ref (ad (13)), .ref (ad (57)), .ref (ad (59)), .ref (ad (64))])) (e57 : σ (57) = .inr (0, [.ref (ad (58)), .int (oI (((z : Nat) : Int))), .int (oI (((p : Nat) : Int))), .int (oI (f)), .int (oI (((ac : Nat) : Int))), .int (oI (((x1 : Nat) : Int))), .int (oI (((x2 : Nat) : Int))), .int (oI (on))])) (e58 : σ (58) = oAC cT 120 T) :
    oXi l D cT N ad b0 yX5_append cX5_append 2 (some .int) 6 90 1 [.ref (ad (0)), .int (oI (c))] σ (fun rr uu => rr = oI (((z : Nat) : Int) + 1) ∧ (0 ≤ c ∧ c ≤ 255) ∧ (z < 120) ∧ uu (57) = .inr (0, [.ref (ad (58)), .int (oI (((z : Nat) : Int) + 1)), .int (oI (((p : Nat) : Int))), .int (oI (f)), .int (oI (((ac : Nat) : Int))), .int (oI (((x1 : Nat) : Int))), .int (oI (((x2 : Nat) : Int))), .int (oI (on))]) ∧ uu (58) = oAC cT 120 (va_up T z ((c.toNat : Nat) : Int)) ∧ (∀ q : Nat, q ≠ 57 → q ≠ 58 → uu q = σ q)) (fun E uu => ((E = oIA ∧ ¬ (0 ≤ c ∧ c ≤ 255)) ∨ (E = oIS ∧ (0 ≤ c ∧ c ≤ 255) ∧ z = 120)) ∧ uu = σ) := by
  refine m_startX (cc := cX5_append) (by decide) (Nat.le_of_ble_eq_true rfl) rfl ?_
  intro Pp Ee Ss Mm Bb Me Cc Ar ls hx hb hml hown hlk hrt hts hK hH hl hXT hnt
  have hown : Ss.vm.findClass RX5 = some Mm.cls := hown
  have hl : lv_has ls 2 [(0, .ref (ad (0))), (1, .int (oI (c)))] := hl
  have hf : ∀ q : Nat, q ≠ 57 → q ≠ 58 → σ q = σ q := fun q _ _ => rfl
  refine lv_iload_n hx hb dX5_append_0 rfl (lv_at hl 1 rfl) ?_
  refine m_if_lt 11 hx hb dX5_append_1 (by decide) (by omega) (fun h_1 => ?_) (fun h_1 => ?_)
  · exact m_throw (text := "no such character") hx hb hl0 hml hown hts hK hXT hH hl hlk hnt oth_0 (by decide) dX5_append_11 dX5_append_14 dX5_append_15 dX5_append_17 dX5_append_20 ⟨Nat.le_of_ble_eq_true rfl, Nat.le_of_ble_eq_true rfl⟩ (Nat.le_of_ble_eq_true rfl) ⟨Nat.le_of_ble_eq_true rfl, Nat.le_of_ble_eq_true rfl⟩ ⟨Nat.le_of_ble_eq_true rfl, Nat.le_of_ble_eq_true rfl⟩ (⟨Or.inl ⟨rfl, by omega⟩, rfl⟩)
  · refine lv_iload_n hx hb dX5_append_4 rfl (lv_at hl 1 rfl) ?_
    refine m_sipush 255 hx hb dX5_append_5 (by decide) ?_
    refine m_icmp_le 21 hx hb dX5_append_8 (by decide) (by omega) (by omega) (fun h_2 => ?_) (fun h_2 => ?_)
    · refine lv_aload_n hx hb dX5_append_21 rfl (lv_at hl 0 rfl) ?_
      refine gf_X5_text hx hb hts hown hK hH (k := 0) (by omega) eO dX5_append_22 ?_
      refine lv_iload_n hx hb dX5_append_25 rfl (lv_at hl 1 rfl) ?_
      refine m_i2c hx hb dX5_append_26 (by omega) ?_
      refine m_topI (((c.toNat : Nat) : Int)) (by omega) ?_
      by_cases hz9 : z < 120
      · refine m_callVi hx hb hml hown hts hK hH hl (rest := []) cw_X5_60 (c0_add1 hA c.toNat T z p ac x1 x2 f on (by first | assumption | omega) (hT) (by first | assumption | omega) (by first | assumption | omega) (by first | assumption | omega) (by first | assumption | omega) (by first | assumption | omega) e57 e58) ⟨Nat.le_of_ble_eq_true rfl, Nat.le_of_ble_eq_true rfl⟩ ⟨Nat.le_of_ble_eq_true rfl, Nat.le_of_ble_eq_true rfl⟩ rfl (k := 57) (by omega) e57 rfl rfl (Nat.le_of_ble_eq_true rfl) dX5_append_27 (fun r_6 σ_3 H locs hp_4 hH => ?_)
        obtain ⟨rfl, e57, e58, hq_5⟩ := hp_4
        have eO : σ_3 (0) = .inr (5, [.ref (ad (1)), .ref (ad (4)), .ref (ad (7)), .ref (ad (10)), .int (oI (ff)), .int (oI (sf)), .ref (ad (13)), .ref (ad (57)), .ref (ad (59)), .ref (ad (64))]) := (hq_5 _ (by decide) (by decide)).trans eO
        have hf : ∀ q : Nat, q ≠ 57 → q ≠ 58 → σ_3 q = σ q := fun q n0 n1 => (hq_5 q n0 n1).trans (hf q n0 n1)
        refine m_if_ne 43 hx hb dX5_append_30 (by decide) (by omega) (fun h_7 => ?_) (fun h_7 => absurd h_7 (by omega))
        refine lv_aload_n hx hb dX5_append_43 rfl (lv_at hl 0 rfl) ?_
        refine gf_X5_text hx hb hts hown hK hH (k := 0) (by omega) eO dX5_append_44 ?_
        refine m_pVi hx hb hml hown hts hK hH hl (rest := []) cw_X5_69 (c0_size hA (va_up T z ((c.toNat : Nat) : Int)) (z + 1) p ac x1 x2 f on (by first | assumption | omega) (oT_up hT (by omega)) (by first | assumption | omega) (by first | assumption | omega) (by first | assumption | omega) e57 e58) ⟨Nat.le_of_ble_eq_true rfl, Nat.le_of_ble_eq_true rfl⟩ ⟨Nat.le_of_ble_eq_true rfl, Nat.le_of_ble_eq_true rfl⟩ rfl (k := 57) (by omega) e57 rfl rfl (Nat.le_of_ble_eq_true rfl) dX5_append_47 (fun H locs hH => ?_)
        exact m_iretX hx hb hlk hrt hH ⟨Nat.le_of_ble_eq_true rfl, Nat.le_of_ble_eq_true rfl⟩ (m_ni _) dX5_append_50 ⟨rfl, (by first | assumption | omega), (by first | assumption | omega), e57, e58, hf⟩
      · refine m_pVi hx hb hml hown hts hK hH hl (rest := []) cw_X5_60 (c0_add0 hA c.toNat T z p ac x1 x2 f on (by first | assumption | omega) (hT) (by first | assumption | omega) (by first | assumption | omega) (by first | assumption | omega) (by first | assumption | omega) e57 e58) ⟨Nat.le_of_ble_eq_true rfl, Nat.le_of_ble_eq_true rfl⟩ ⟨Nat.le_of_ble_eq_true rfl, Nat.le_of_ble_eq_true rfl⟩ rfl (k := 57) (by omega) e57 rfl rfl (Nat.le_of_ble_eq_true rfl) dX5_append_27 (fun H locs hH => ?_)
        refine m_if_ne 43 hx hb dX5_append_30 (by decide) (by omega) (fun h_8 => absurd h_8 (by omega)) (fun h_8 => ?_)
        exact m_throw (text := "the text is full") hx hb hl0 hml hown hts hK hXT hH hl hlk hnt oth_1 (by decide) dX5_append_33 dX5_append_36 dX5_append_37 dX5_append_39 dX5_append_42 ⟨Nat.le_of_ble_eq_true rfl, Nat.le_of_ble_eq_true rfl⟩ (Nat.le_of_ble_eq_true rfl) ⟨Nat.le_of_ble_eq_true rfl, Nat.le_of_ble_eq_true rfl⟩ ⟨Nat.le_of_ble_eq_true rfl, Nat.le_of_ble_eq_true rfl⟩ (⟨Or.inr ⟨rfl, by omega, by omega⟩, rfl⟩)
    · exact m_throw (text := "no such character") hx hb hl0 hml hown hts hK hXT hH hl hlk hnt oth_0 (by decide) dX5_append_11 dX5_append_14 dX5_append_15 dX5_append_17 dX5_append_20 ⟨Nat.le_of_ble_eq_true rfl, Nat.le_of_ble_eq_true rfl⟩ (Nat.le_of_ble_eq_true rfl) ⟨Nat.le_of_ble_eq_true rfl, Nat.le_of_ble_eq_true rfl⟩ ⟨Nat.le_of_ble_eq_true rfl, Nat.le_of_ble_eq_true rfl⟩ (⟨Or.inl ⟨rfl, by omega⟩, rfl⟩)
set_option maxHeartbeats 4000000 in
set_option maxRecDepth 100000 in
theorem c5_clearText {l : Launch} {D : va_G} {cT : Nat → ClassId} {N b0 : Nat} {ad : Nat → Nat} (hA : oAd b0 N ad) {σ : Nat → va_E} (T : Nat → Int) (z p ac x1 x2 : Nat) (f on : Int) (ff sf : Int) (hN : 76 ≤ N) (hT : ∀ i : Nat, i < z → 0 ≤ T i ∧ T i ≤ 255) (hz : z ≤ 120) (hp : p ≤ 150) (hf0 : -2147483648 ≤ f ∧ f < 2147483648) (eO : σ (0) = .inr (5, [.ref (ad (1)), .ref (ad (4)), .ref (ad (7)), .ref (ad (10)), .int (oI (ff)), .int (oI (sf)), .ref (ad (13)), .ref (ad (57)), .ref (ad (59)), .ref (ad (64))])) (e57 : σ (57) = .inr (0, [.ref (ad (58)), .int (oI (((z : Nat) : Int))), .int (oI (((p : Nat) : Int))), .int (oI (f)), .int (oI (((ac : Nat) : Int))), .int (oI (((x1 : Nat) : Int))), .int (oI (((x2 : Nat) : Int))), .int (oI (on))])) (e58 : σ (58) = oAC cT 120 T) :
    oCi l D cT N ad b0 yX5_clearText cX5_clearText 1 (some .int) 1 21 [.ref (ad (0))] σ (fun rr uu => rr = oI (((z : Nat) : Int)) ∧ uu (57) = .inr (0, [.ref (ad (58)), .int (oI (0)), .int (oI (((p : Nat) : Int))), .int (oI (f)), .int (oI (((ac : Nat) : Int))), .int (oI (((x1 : Nat) : Int))), .int (oI (((x2 : Nat) : Int))), .int (oI (on))]) ∧ (∀ q : Nat, q ≠ 57 → uu q = σ q)) := by
  refine m_start (cc := cX5_clearText) (by decide) (Nat.le_of_ble_eq_true rfl) rfl ?_
  intro Pp Ee Ss Mm Bb Me Cc Ar ls hx hb hml hown hlk hrt hts hK hH hl
  have hown : Ss.vm.findClass RX5 = some Mm.cls := hown
  have hl : lv_has ls 1 [(0, .ref (ad (0)))] := hl
  have hf : ∀ q : Nat, q ≠ 57 → σ q = σ q := fun q _ => rfl
  refine lv_aload_n hx hb dX5_clearText_0 rfl (lv_at hl 0 rfl) ?_
  refine gf_X5_text hx hb hts hown hK hH (k := 0) (by omega) eO dX5_clearText_1 ?_
  refine m_callVi hx hb hml hown hts hK hH hl (rest := []) cw_X5_73 (c0_empty hA T z p ac x1 x2 f on (by first | assumption | omega) (by first | assumption | omega) (by first | assumption | omega) (by first | assumption | omega) (by first | assumption | omega) e57 e58) ⟨Nat.le_of_ble_eq_true rfl, Nat.le_of_ble_eq_true rfl⟩ ⟨Nat.le_of_ble_eq_true rfl, Nat.le_of_ble_eq_true rfl⟩ rfl (k := 57) (by omega) e57 rfl rfl (Nat.le_of_ble_eq_true rfl) dX5_clearText_4 (fun r_4 σ_1 H locs hp_2 hH => ?_)
  obtain ⟨rfl, e57, hq_3⟩ := hp_2
  have eO : σ_1 (0) = .inr (5, [.ref (ad (1)), .ref (ad (4)), .ref (ad (7)), .ref (ad (10)), .int (oI (ff)), .int (oI (sf)), .ref (ad (13)), .ref (ad (57)), .ref (ad (59)), .ref (ad (64))]) := (hq_3 _ (by decide)).trans eO
  have e58 : σ_1 (58) = oAC cT 120 T := (hq_3 _ (by decide)).trans e58
  have hf : ∀ q : Nat, q ≠ 57 → σ_1 q = σ q := fun q n0 => (hq_3 q n0).trans (hf q n0)
  exact m_iret hx hb hlk hrt hH (m_ni _) dX5_clearText_7 ⟨rfl, e57, hf⟩
set_option maxHeartbeats 4000000 in
set_option maxRecDepth 100000 in
theorem c5_errorPosition {l : Launch} {D : va_G} {cT : Nat → ClassId} {N b0 : Nat} {ad : Nat → Nat} (hA : oAd b0 N ad) {σ : Nat → va_E} (T : Nat → Int) (z p ac x1 x2 : Nat) (f on : Int) (ff sf : Int) (hN : 76 ≤ N) (hT : ∀ i : Nat, i < z → 0 ≤ T i ∧ T i ≤ 255) (hz : z ≤ 120) (hp : p ≤ 150) (hf0 : -2147483648 ≤ f ∧ f < 2147483648) (eO : σ (0) = .inr (5, [.ref (ad (1)), .ref (ad (4)), .ref (ad (7)), .ref (ad (10)), .int (oI (ff)), .int (oI (sf)), .ref (ad (13)), .ref (ad (57)), .ref (ad (59)), .ref (ad (64))])) (e57 : σ (57) = .inr (0, [.ref (ad (58)), .int (oI (((z : Nat) : Int))), .int (oI (((p : Nat) : Int))), .int (oI (f)), .int (oI (((ac : Nat) : Int))), .int (oI (((x1 : Nat) : Int))), .int (oI (((x2 : Nat) : Int))), .int (oI (on))])) (e58 : σ (58) = oAC cT 120 T) :
    oCi l D cT N ad b0 yX5_errorPosition cX5_errorPosition 1 (some .int) 5 111 [.ref (ad (0))] σ (fun rr uu => ∃ p2 : Nat, ∃ a2 : Nat, ∃ y1 : Nat, ∃ y2 : Nat, ∃ o2 : Int, rr = oI ((oErr T z)) ∧ (p2 ≤ 150) ∧ uu (57) = .inr (0, [.ref (ad (58)), .int (oI (((z : Nat) : Int))), .int (oI (((p2 : Nat) : Int))), .int (oI ((oErr T z))), .int (oI (((a2 : Nat) : Int))), .int (oI (((y1 : Nat) : Int))), .int (oI (((y2 : Nat) : Int))), .int (oI (o2))]) ∧ (∀ q : Nat, q ≠ 57 → uu q = σ q)) := by
  refine m_start (cc := cX5_errorPosition) (by decide) (Nat.le_of_ble_eq_true rfl) rfl ?_
  intro Pp Ee Ss Mm Bb Me Cc Ar ls hx hb hml hown hlk hrt hts hK hH hl
  have hown : Ss.vm.findClass RX5 = some Mm.cls := hown
  have hl : lv_has ls 1 [(0, .ref (ad (0)))] := hl
  have hf : ∀ q : Nat, q ≠ 57 → σ q = σ q := fun q _ => rfl
  refine lv_aload_n hx hb dX5_errorPosition_0 rfl (lv_at hl 0 rfl) ?_
  refine gf_X5_text hx hb hts hown hK hH (k := 0) (by omega) eO dX5_errorPosition_1 ?_
  refine m_callVi hx hb hml hown hts hK hH hl (rest := []) cw_X5_76 (c0_firstFault hA T z p ac x1 x2 f on (by first | assumption | omega) (by first | assumption | omega) (by first | assumption | omega) (by first | assumption | omega) (by first | assumption | omega) e57 e58) ⟨Nat.le_of_ble_eq_true rfl, Nat.le_of_ble_eq_true rfl⟩ ⟨Nat.le_of_ble_eq_true rfl, Nat.le_of_ble_eq_true rfl⟩ rfl (k := 57) (by omega) e57 rfl rfl (Nat.le_of_ble_eq_true rfl) dX5_errorPosition_4 (fun r_4 σ_1 H locs hp_2 hH => ?_)
  obtain ⟨p2, a2, y1, y2, o2, rfl, f_5, e57, hq_3⟩ := hp_2
  have eO : σ_1 (0) = .inr (5, [.ref (ad (1)), .ref (ad (4)), .ref (ad (7)), .ref (ad (10)), .int (oI (ff)), .int (oI (sf)), .ref (ad (13)), .ref (ad (57)), .ref (ad (59)), .ref (ad (64))]) := (hq_3 _ (by decide)).trans eO
  have e58 : σ_1 (58) = oAC cT 120 T := (hq_3 _ (by decide)).trans e58
  have hf : ∀ q : Nat, q ≠ 57 → σ_1 q = σ q := fun q n0 => (hq_3 q n0).trans (hf q n0)
  exact m_iret hx hb hlk hrt hH (m_ni _) dX5_errorPosition_7 ⟨p2, a2, y1, y2, o2, rfl, (by first | assumption | omega), e57, hf⟩
set_option maxHeartbeats 4000000 in
set_option maxRecDepth 100000 in
theorem c5_isMarked {l : Launch} {D : va_G} {cT : Nat → ClassId} {N b0 : Nat} {ad : Nat → Nat} (hA : oAd b0 N ad) {σ : Nat → va_E} (r p : Int) (n a g : Nat) (sz w : Nat → Nat) (ff sf : Int) (hl0 : l.stackTraces = false) (hN : 76 ≤ N) (hwf : oWf n sz w) (hbr : -2147483648 ≤ r ∧ r < 2147483648) (hbp : -2147483648 ≤ p ∧ p < 2147483648) (eO : σ (0) = .inr (5, [.ref (ad (1)), .ref (ad (4)), .ref (ad (7)), .ref (ad (10)), .int (oI (ff)), .int (oI (sf)), .ref (ad (13)), .ref (ad (57)), .ref (ad (59)), .ref (ad (64))])) (e0 : σ (1) = .inr (4, [.ref (ad (2)), .ref (ad (3)), .int (oI (((n : Nat) : Int))), .int (oI (((a : Nat) : Int))), .int (oI (((g : Nat) : Int)))])) (e1 : σ (2) = oAN cT 4 sz) (e2 : σ (3) = oAJ cT 4 w) :
    oXi l D cT N ad b0 yX5_isMarked cX5_isMarked 3 (some .int) 6 90 1 [.ref (ad (0)), .int (oI (r)), .int (oI (p))] σ (fun rr uu => rr = oI (((bz (oRow n w r) p.toNat : Nat) : Int)) ∧ (((0 ≤ r ∧ r < (n : Int)) ∧ 0 ≤ p ∧ p ≤ (oSize n sz r : Int))) ∧ uu = σ) (fun E uu => E = oIO ∧ ¬ ((0 ≤ r ∧ r < (n : Int)) ∧ 0 ≤ p ∧ p ≤ (oSize n sz r : Int)) ∧ uu = σ) := by
  refine m_startX (cc := cX5_isMarked) (by decide) (Nat.le_of_ble_eq_true rfl) rfl ?_
  intro Pp Ee Ss Mm Bb Me Cc Ar ls hx hb hml hown hlk hrt hts hK hH hl hXT hnt
  have hown : Ss.vm.findClass RX5 = some Mm.cls := hown
  have hn := hwf.1
  have hsz := oSize_le hwf
  have hw64 := oRow_64 hwf
  have hw41 := oRow_lt hwf
  have hsr := hsz r
  have hl : lv_has ls 3 [(0, .ref (ad (0))), (1, .int (oI (r))), (2, .int (oI (p)))] := hl
  refine lv_aload_n hx hb dX5_isMarked_0 rfl (lv_at hl 0 rfl) ?_
  refine gf_X5_present hx hb hts hown hK hH (k := 0) (by omega) eO dX5_isMarked_1 ?_
  refine lv_iload_n hx hb dX5_isMarked_4 rfl (lv_at hl 1 rfl) ?_
  refine lv_iload_n hx hb dX5_isMarked_5 rfl (lv_at hl 2 rfl) ?_
  refine m_pVb hx hb hml hown hts hK hH hl (rest := []) cw_X5_161 (c4_hasPlace hA 1 n a g sz w r p (by first | assumption | omega) (by first | assumption | omega) (by first | assumption | omega) (by first | assumption | omega) (by first | assumption | omega) e0 e1 e2) ⟨Nat.le_of_ble_eq_true rfl, Nat.le_of_ble_eq_true rfl⟩ ⟨Nat.le_of_ble_eq_true rfl, Nat.le_of_ble_eq_true rfl⟩ rfl (k := 1) (by omega) e0 rfl rfl (Nat.le_of_ble_eq_true rfl) dX5_isMarked_6 (fun hP H locs hH => ?_) (fun hP H locs hH => ?_)
  · refine m_if_ne 22 hx hb dX5_isMarked_9 (by decide) (by omega) (fun h_1 => ?_) (fun h_1 => absurd h_1 (by omega))
    refine lv_aload_n hx hb dX5_isMarked_22 rfl (lv_at hl 0 rfl) ?_
    refine gf_X5_present hx hb hts hown hK hH (k := 0) (by omega) eO dX5_isMarked_23 ?_
    refine lv_iload_n hx hb dX5_isMarked_26 rfl (lv_at hl 1 rfl) ?_
    refine lv_iload_n hx hb dX5_isMarked_27 rfl (lv_at hl 2 rfl) ?_
    refine m_pVb hx hb hml hown hts hK hH hl (rest := []) cw_X5_170 (c4_hasMark hA 1 n a g sz w r p (by first | assumption | omega) (by first | assumption | omega) (by first | assumption | omega) (by first | assumption | omega) (by first | assumption | omega) e0 e1 e2) ⟨Nat.le_of_ble_eq_true rfl, Nat.le_of_ble_eq_true rfl⟩ ⟨Nat.le_of_ble_eq_true rfl, Nat.le_of_ble_eq_true rfl⟩ rfl (k := 1) (by omega) e0 rfl rfl (Nat.le_of_ble_eq_true rfl) dX5_isMarked_28 (fun hQ H locs hH => ?_) (fun hQ H locs hH => ?_)
    · refine m_if_eq 38 hx hb dX5_isMarked_31 (by decide) (by omega) (fun h_2 => absurd h_2 (by omega)) (fun h_2 => ?_)
      refine m_iconst 1 hx hb dX5_isMarked_34 rfl ?_
      refine lv_goto (tgt := 39) hx hb dX5_isMarked_35 (by decide) ?_
      exact m_iretX hx hb hlk hrt hH ⟨Nat.le_of_ble_eq_true rfl, Nat.le_of_ble_eq_true rfl⟩ (m_ni _) dX5_isMarked_39 ⟨congrArg oI (by rw [bz_1.mpr hQ.2.2]; rfl), (by first | assumption | omega), rfl⟩
    · refine m_if_eq 38 hx hb dX5_isMarked_31 (by decide) (by omega) (fun h_3 => ?_) (fun h_3 => absurd h_3 (by omega))
      refine m_iconst 0 hx hb dX5_isMarked_38 rfl ?_
      exact m_iretX hx hb hlk hrt hH ⟨Nat.le_of_ble_eq_true rfl, Nat.le_of_ble_eq_true rfl⟩ (m_ni _) dX5_isMarked_39 ⟨congrArg oI (by rw [bz_0.mpr (Bool.eq_false_iff.mpr (fun q => hQ ⟨by omega, by omega, q⟩))]; rfl), (by first | assumption | omega), rfl⟩
  · refine m_if_ne 22 hx hb dX5_isMarked_9 (by decide) (by omega) (fun h_4 => absurd h_4 (by omega)) (fun h_4 => ?_)
    exact m_throw (text := "no such place") hx hb hl0 hml hown hts hK hXT hH hl hlk hnt oth_2 (by decide) dX5_isMarked_12 dX5_isMarked_15 dX5_isMarked_16 dX5_isMarked_18 dX5_isMarked_21 ⟨Nat.le_of_ble_eq_true rfl, Nat.le_of_ble_eq_true rfl⟩ (Nat.le_of_ble_eq_true rfl) ⟨Nat.le_of_ble_eq_true rfl, Nat.le_of_ble_eq_true rfl⟩ ⟨Nat.le_of_ble_eq_true rfl, Nat.le_of_ble_eq_true rfl⟩ (⟨rfl, hP, rfl⟩)
set_option maxHeartbeats 4000000 in
set_option maxRecDepth 100000 in
theorem c5_about {l : Launch} {D : va_G} {cT : Nat → ClassId} {N b0 : Nat} {ad : Nat → Nat} (hA : oAd b0 N ad) {σ : Nat → va_E} (x : Int) (n a g : Nat) (sz w : Nat → Nat) (ld : Nat) (wr gr : Nat → Nat) (ff sf : Int) (hl0 : l.stackTraces = false) (hN : 76 ≤ N) (hwf : oWf n sz w) (hag : oAg a g) (hbx : -2147483648 ≤ x ∧ x < 2147483648) (eO : σ (0) = .inr (5, [.ref (ad (1)), .ref (ad (4)), .ref (ad (7)), .ref (ad (10)), .int (oI (ff)), .int (oI (sf)), .ref (ad (13)), .ref (ad (57)), .ref (ad (59)), .ref (ad (64))])) (e0 : σ (1) = .inr (4, [.ref (ad (2)), .ref (ad (3)), .int (oI (((n : Nat) : Int))), .int (oI (((a : Nat) : Int))), .int (oI (((g : Nat) : Int)))])) (e1 : σ (2) = oAN cT 4 sz) (e2 : σ (3) = oAJ cT 4 w) (e59 : σ (59) = .inr (3, [.ref (ad (60)), .ref (ad (61)), .int (oI (((ld : Nat) : Int))), .ref (ad (62)), .ref (ad (63))])) (e62 : σ (62) = oAJ cT 4 wr) (e63 : σ (63) = oAJ cT 4 gr) :
    oXi l D cT N ad b0 yX5_about cX5_about 2 (some .int) 6 115 1 [.ref (ad (0)), .int (oI (x))] σ (fun rr uu => ∃ w2 : Nat → Nat, ∃ gr2 : Nat → Nat, rr = oI (((oAbo x n a g w : Nat) : Int)) ∧ (0 ≤ x ∧ x ≤ 8) ∧ uu (62) = oAJ cT 4 w2 ∧ uu (63) = oAJ cT 4 gr2 ∧ (∀ q : Nat, q ≠ 62 → q ≠ 63 → uu q = σ q)) (fun E uu => E = oIA ∧ ¬ (0 ≤ x ∧ x ≤ 8) ∧ uu = σ) := by
  refine m_startX (cc := cX5_about) (by decide) (Nat.le_of_ble_eq_true rfl) rfl ?_
  intro Pp Ee Ss Mm Bb Me Cc Ar ls hx hb hml hown hlk hrt hts hK hH hl hXT hnt
  have hown : Ss.vm.findClass RX5 = some Mm.cls := hown
  have hn := hwf.1
  have hsz := oSize_le hwf
  have hw64 := oRow_64 hwf
  have hw41 := oRow_lt hwf
  have hs64 := oOrW_64 n w (-1) 4
  have ha6 := hag.1
  have hg150 := hag.2
  have hl : lv_has ls 2 [(0, .ref (ad (0))), (1, .int (oI (x)))] := hl
  have hf : ∀ q : Nat, q ≠ 62 → q ≠ 63 → σ q = σ q := fun q _ _ => rfl
  refine lv_iload_n hx hb dX5_about_0 rfl (lv_at hl 1 rfl) ?_
  rcases (show (x : Int) = 0 ∨ (x : Int) = 1 ∨ (x : Int) = 2 ∨ (x : Int) = 3 ∨ (x : Int) = 4 ∨ (x : Int) = 5 ∨ (x : Int) = 6 ∨ (x : Int) = 7 ∨ (x : Int) = 8 ∨ ((x : Int) < 0 ∨ 8 < (x : Int)) by omega) with hxx | hxx | hxx | hxx | hxx | hxx | hxx | hxx | hxx | hxx
  · refine m_tabIn 52 hx hb dX5_about_1 (by omega) (by omega) (by rw [hxx]; rfl) (by decide) ?_
    refine lv_aload_n hx hb dX5_about_52 rfl (lv_at hl 0 rfl) ?_
    refine gf_X5_present hx hb hts hown hK hH (k := 0) (by omega) eO dX5_about_53 ?_
    refine m_pVi hx hb hml hown hts hK hH hl (rest := []) cw_X5_98 (c4_rulers hA 1 n a g sz w (by first | assumption | omega) e0 e1 e2) ⟨Nat.le_of_ble_eq_true rfl, Nat.le_of_ble_eq_true rfl⟩ ⟨Nat.le_of_ble_eq_true rfl, Nat.le_of_ble_eq_true rfl⟩ rfl (k := 1) (by omega) e0 rfl rfl (Nat.le_of_ble_eq_true rfl) dX5_about_56 (fun H locs hH => ?_)
    exact m_iretX hx hb hlk hrt hH ⟨Nat.le_of_ble_eq_true rfl, Nat.le_of_ble_eq_true rfl⟩ (m_ni _) dX5_about_59 ⟨wr, gr, congrArg oI (by unfold oAbo; rw [if_pos (by omega)]), (by first | assumption | omega), e62, e63, hf⟩
  · refine m_tabIn 60 hx hb dX5_about_1 (by omega) (by omega) (by rw [hxx]; rfl) (by decide) ?_
    refine lv_aload_n hx hb dX5_about_60 rfl (lv_at hl 0 rfl) ?_
    refine gf_X5_present hx hb hts hown hK hH (k := 0) (by omega) eO dX5_about_61 ?_
    refine m_pVi hx hb hml hown hts hK hH hl (rest := []) cw_X5_101 (c4_allMarks hA 1 n a g sz w (by first | assumption | omega) (by first | assumption | omega) e0 e1 e2) ⟨Nat.le_of_ble_eq_true rfl, Nat.le_of_ble_eq_true rfl⟩ ⟨Nat.le_of_ble_eq_true rfl, Nat.le_of_ble_eq_true rfl⟩ rfl (k := 1) (by omega) e0 rfl rfl (Nat.le_of_ble_eq_true rfl) dX5_about_64 (fun H locs hH => ?_)
    exact m_iretX hx hb hlk hrt hH ⟨Nat.le_of_ble_eq_true rfl, Nat.le_of_ble_eq_true rfl⟩ (m_ni _) dX5_about_67 ⟨wr, gr, congrArg oI (by unfold oAbo; rw [if_neg (by omega), if_pos (by omega)]), (by first | assumption | omega), e62, e63, hf⟩
  · refine m_tabIn 68 hx hb dX5_about_1 (by omega) (by omega) (by rw [hxx]; rfl) (by decide) ?_
    refine lv_aload_n hx hb dX5_about_68 rfl (lv_at hl 0 rfl) ?_
    refine gf_X5_present hx hb hts hown hK hH (k := 0) (by omega) eO dX5_about_69 ?_
    refine m_pVi hx hb hml hown hts hK hH hl (rest := []) cw_X5_104 (c4_allSpans hA 1 n a g sz w (by first | assumption | omega) (by first | assumption | omega) e0 e1 e2) ⟨Nat.le_of_ble_eq_true rfl, Nat.le_of_ble_eq_true rfl⟩ ⟨Nat.le_of_ble_eq_true rfl, Nat.le_of_ble_eq_true rfl⟩ rfl (k := 1) (by omega) e0 rfl rfl (Nat.le_of_ble_eq_true rfl) dX5_about_72 (fun H locs hH => ?_)
    exact m_iretX hx hb hlk hrt hH ⟨Nat.le_of_ble_eq_true rfl, Nat.le_of_ble_eq_true rfl⟩ (m_ni _) dX5_about_75 ⟨wr, gr, congrArg oI (by unfold oAbo; rw [if_neg (by omega), if_neg (by omega), if_pos (by omega)]), (by first | assumption | omega), e62, e63, hf⟩
  · refine m_tabIn 76 hx hb dX5_about_1 (by omega) (by omega) (by rw [hxx]; rfl) (by decide) ?_
    refine lv_aload_n hx hb dX5_about_76 rfl (lv_at hl 0 rfl) ?_
    refine gf_X5_present hx hb hts hown hK hH (k := 0) (by omega) eO dX5_about_77 ?_
    refine m_pVn hx hb hml hown hts hK hH hl (rest := []) cw_X5_107 (c4_spread hA 1 n a g sz w (by first | assumption | omega) (by first | assumption | omega) e0 e1 e2) ⟨Nat.le_of_ble_eq_true rfl, Nat.le_of_ble_eq_true rfl⟩ ⟨Nat.le_of_ble_eq_true rfl, Nat.le_of_ble_eq_true rfl⟩ rfl (k := 1) (by omega) e0 rfl rfl (Nat.le_of_ble_eq_true rfl) dX5_about_80 (fun H locs hH => ?_)
    refine m_pFi hx hb hml hown hts hK hH hl (rest := []) cw_X5_111 (cJ_bitCount hA (oOrW n w (-1) 4) (hs64) ) ⟨Nat.le_of_ble_eq_true rfl, Nat.le_of_ble_eq_true rfl⟩ ⟨Nat.le_of_ble_eq_true rfl, Nat.le_of_ble_eq_true rfl⟩ rfl rfl (Nat.le_of_ble_eq_true rfl) dX5_about_83 (fun H locs hH => ?_)
    exact m_iretX hx hb hlk hrt hH ⟨Nat.le_of_ble_eq_true rfl, Nat.le_of_ble_eq_true rfl⟩ (m_ni _) dX5_about_86 ⟨wr, gr, congrArg oI (by unfold oAbo; rw [if_neg (by omega), if_neg (by omega), if_neg (by omega), if_pos (by omega)]), (by first | assumption | omega), e62, e63, hf⟩
  · refine m_tabIn 87 hx hb dX5_about_1 (by omega) (by omega) (by rw [hxx]; rfl) (by decide) ?_
    refine lv_aload_n hx hb dX5_about_87 rfl (lv_at hl 0 rfl) ?_
    refine gf_X5_present hx hb hts hown hK hH (k := 0) (by omega) eO dX5_about_88 ?_
    refine m_pVn hx hb hml hown hts hK hH hl (rest := []) cw_X5_107 (c4_spread hA 1 n a g sz w (by first | assumption | omega) (by first | assumption | omega) e0 e1 e2) ⟨Nat.le_of_ble_eq_true rfl, Nat.le_of_ble_eq_true rfl⟩ ⟨Nat.le_of_ble_eq_true rfl, Nat.le_of_ble_eq_true rfl⟩ rfl (k := 1) (by omega) e0 rfl rfl (Nat.le_of_ble_eq_true rfl) dX5_about_91 (fun H locs hH => ?_)
    refine m_pSi hx hb hml hown hts hK hH hl (rest := []) cw_X5_117 rfl (c5_commonDivisor hA (oOrW n w (-1) 4) (hs64) (oOrW_bits) ) ⟨Nat.le_of_ble_eq_true rfl, Nat.le_of_ble_eq_true rfl⟩ ⟨Nat.le_of_ble_eq_true rfl, Nat.le_of_ble_eq_true rfl⟩ rfl rfl (Nat.le_of_ble_eq_true rfl) dX5_about_94 (fun H locs hH => ?_)
    exact m_iretX hx hb hlk hrt hH ⟨Nat.le_of_ble_eq_true rfl, Nat.le_of_ble_eq_true rfl⟩ (m_ni _) dX5_about_97 ⟨wr, gr, congrArg oI (by unfold oAbo; rw [if_neg (by omega), if_neg (by omega), if_neg (by omega), if_neg (by omega), if_pos (by omega)]), (by first | assumption | omega), e62, e63, hf⟩
  · refine m_tabIn 98 hx hb dX5_about_1 (by omega) (by omega) (by rw [hxx]; rfl) (by decide) ?_
    refine lv_aload_n hx hb dX5_about_98 rfl (lv_at hl 0 rfl) ?_
    refine lv_aload_n hx hb dX5_about_99 rfl (lv_at hl 0 rfl) ?_
    refine gf_X5_present hx hb hts hown hK hH (k := 0) (by omega) eO dX5_about_100 ?_
    refine m_callVi hx hb hml hown hts hK hH hl (rest := []) cw_X5_120 (c5_laidLengths hA 1 n a g sz w ld wr gr ff sf (by first | assumption | omega) (by first | assumption | omega) (by first | assumption | omega) (by first | assumption | omega) eO e0 e1 e2 e59 e62 e63) ⟨Nat.le_of_ble_eq_true rfl, Nat.le_of_ble_eq_true rfl⟩ ⟨Nat.le_of_ble_eq_true rfl, Nat.le_of_ble_eq_true rfl⟩ rfl (k := 0) (by omega) eO rfl rfl (Nat.le_of_ble_eq_true rfl) dX5_about_103 (fun r_4 σ_1 H locs hp_2 hH => ?_)
    obtain ⟨w3, gr3, rfl, f_5, e62, e63, hq_3⟩ := hp_2
    have eO : σ_1 (0) = .inr (5, [.ref (ad (1)), .ref (ad (4)), .ref (ad (7)), .ref (ad (10)), .int (oI (ff)), .int (oI (sf)), .ref (ad (13)), .ref (ad (57)), .ref (ad (59)), .ref (ad (64))]) := (hq_3 _ (by decide) (by decide)).trans eO
    have e0 : σ_1 (1) = .inr (4, [.ref (ad (2)), .ref (ad (3)), .int (oI (((n : Nat) : Int))), .int (oI (((a : Nat) : Int))), .int (oI (((g : Nat) : Int)))]) := (hq_3 _ (by decide) (by decide)).trans e0
    have e1 : σ_1 (2) = oAN cT 4 sz := (hq_3 _ (by decide) (by decide)).trans e1
    have e2 : σ_1 (3) = oAJ cT 4 w := (hq_3 _ (by decide) (by decide)).trans e2
    have e59 : σ_1 (59) = .inr (3, [.ref (ad (60)), .ref (ad (61)), .int (oI (((ld : Nat) : Int))), .ref (ad (62)), .ref (ad (63))]) := (hq_3 _ (by decide) (by decide)).trans e59
    have hf : ∀ q : Nat, q ≠ 62 → q ≠ 63 → σ_1 q = σ q := fun q n0 n1 => (hq_3 q n0 n1).trans (hf q n0 n1)
    exact m_iretX hx hb hlk hrt hH ⟨Nat.le_of_ble_eq_true rfl, Nat.le_of_ble_eq_true rfl⟩ (m_ni _) dX5_about_106 ⟨w3, gr3, congrArg oI (by unfold oAbo; rw [if_neg (by omega), if_neg (by omega), if_neg (by omega), if_neg (by omega), if_neg (by omega), if_pos (by omega)]), (by first | assumption | omega), e62, e63, hf⟩
  · refine m_tabIn 107 hx hb dX5_about_1 (by omega) (by omega) (by rw [hxx]; rfl) (by decide) ?_
    refine lv_aload_n hx hb dX5_about_107 rfl (lv_at hl 0 rfl) ?_
    refine lv_aload_n hx hb dX5_about_108 rfl (lv_at hl 0 rfl) ?_
    refine gf_X5_present hx hb hts hown hK hH (k := 0) (by omega) eO dX5_about_109 ?_
    refine m_callVi hx hb hml hown hts hK hH hl (rest := []) cw_X5_123 (c5_gaps hA 1 n a g sz w ld wr gr ff sf (by first | assumption | omega) (by first | assumption | omega) (by first | assumption | omega) (by first | assumption | omega) eO e0 e1 e2 e59 e62 e63) ⟨Nat.le_of_ble_eq_true rfl, Nat.le_of_ble_eq_true rfl⟩ ⟨Nat.le_of_ble_eq_true rfl, Nat.le_of_ble_eq_true rfl⟩ rfl (k := 0) (by omega) eO rfl rfl (Nat.le_of_ble_eq_true rfl) dX5_about_112 (fun r_9 σ_6 H locs hp_7 hH => ?_)
    obtain ⟨w3, gr3, rfl, f_10, e62, e63, hq_8⟩ := hp_7
    have eO : σ_6 (0) = .inr (5, [.ref (ad (1)), .ref (ad (4)), .ref (ad (7)), .ref (ad (10)), .int (oI (ff)), .int (oI (sf)), .ref (ad (13)), .ref (ad (57)), .ref (ad (59)), .ref (ad (64))]) := (hq_8 _ (by decide) (by decide)).trans eO
    have e0 : σ_6 (1) = .inr (4, [.ref (ad (2)), .ref (ad (3)), .int (oI (((n : Nat) : Int))), .int (oI (((a : Nat) : Int))), .int (oI (((g : Nat) : Int)))]) := (hq_8 _ (by decide) (by decide)).trans e0
    have e1 : σ_6 (2) = oAN cT 4 sz := (hq_8 _ (by decide) (by decide)).trans e1
    have e2 : σ_6 (3) = oAJ cT 4 w := (hq_8 _ (by decide) (by decide)).trans e2
    have e59 : σ_6 (59) = .inr (3, [.ref (ad (60)), .ref (ad (61)), .int (oI (((ld : Nat) : Int))), .ref (ad (62)), .ref (ad (63))]) := (hq_8 _ (by decide) (by decide)).trans e59
    have hf : ∀ q : Nat, q ≠ 62 → q ≠ 63 → σ_6 q = σ q := fun q n0 n1 => (hq_8 q n0 n1).trans (hf q n0 n1)
    exact m_iretX hx hb hlk hrt hH ⟨Nat.le_of_ble_eq_true rfl, Nat.le_of_ble_eq_true rfl⟩ (m_ni _) dX5_about_115 ⟨w3, gr3, congrArg oI (by unfold oAbo; rw [if_neg (by omega), if_neg (by omega), if_neg (by omega), if_neg (by omega), if_neg (by omega), if_neg (by omega), if_pos (by omega)]), (by first | assumption | omega), e62, e63, hf⟩
  · refine m_tabIn 116 hx hb dX5_about_1 (by omega) (by omega) (by rw [hxx]; rfl) (by decide) ?_
    refine lv_aload_n hx hb dX5_about_116 rfl (lv_at hl 0 rfl) ?_
    refine gf_X5_present hx hb hts hown hK hH (k := 0) (by omega) eO dX5_about_117 ?_
    refine m_pVi hx hb hml hown hts hK hH hl (rest := []) cw_X5_126 (c4_allowed hA 1 n a g sz w (by first | assumption | omega) e0 e1 e2) ⟨Nat.le_of_ble_eq_true rfl, Nat.le_of_ble_eq_true rfl⟩ ⟨Nat.le_of_ble_eq_true rfl, Nat.le_of_ble_eq_true rfl⟩ rfl (k := 1) (by omega) e0 rfl rfl (Nat.le_of_ble_eq_true rfl) dX5_about_120 (fun H locs hH => ?_)
    exact m_iretX hx hb hlk hrt hH ⟨Nat.le_of_ble_eq_true rfl, Nat.le_of_ble_eq_true rfl⟩ (m_ni _) dX5_about_123 ⟨wr, gr, congrArg oI (by unfold oAbo; rw [if_neg (by omega), if_neg (by omega), if_neg (by omega), if_neg (by omega), if_neg (by omega), if_neg (by omega), if_neg (by omega), if_pos (by omega)]), (by first | assumption | omega), e62, e63, hf⟩
  · refine m_tabIn 124 hx hb dX5_about_1 (by omega) (by omega) (by rw [hxx]; rfl) (by decide) ?_
    refine lv_aload_n hx hb dX5_about_124 rfl (lv_at hl 0 rfl) ?_
    refine gf_X5_present hx hb hts hown hK hH (k := 0) (by omega) eO dX5_about_125 ?_
    refine m_pVi hx hb hml hown hts hK hH hl (rest := []) cw_X5_129 (c4_range hA 1 n a g sz w (by first | assumption | omega) e0 e1 e2) ⟨Nat.le_of_ble_eq_true rfl, Nat.le_of_ble_eq_true rfl⟩ ⟨Nat.le_of_ble_eq_true rfl, Nat.le_of_ble_eq_true rfl⟩ rfl (k := 1) (by omega) e0 rfl rfl (Nat.le_of_ble_eq_true rfl) dX5_about_128 (fun H locs hH => ?_)
    exact m_iretX hx hb hlk hrt hH ⟨Nat.le_of_ble_eq_true rfl, Nat.le_of_ble_eq_true rfl⟩ (m_ni _) dX5_about_131 ⟨wr, gr, congrArg oI (by unfold oAbo; rw [if_neg (by omega), if_neg (by omega), if_neg (by omega), if_neg (by omega), if_neg (by omega), if_neg (by omega), if_neg (by omega), if_neg (by omega)]), (by first | assumption | omega), e62, e63, hf⟩
  · refine m_tabOut 132 hx hb dX5_about_1 (by omega) hxx (by decide) ?_
    exact m_throw (text := "no such number") hx hb hl0 hml hown hts hK hXT hH hl hlk hnt oth_0 (by decide) dX5_about_132 dX5_about_135 dX5_about_136 dX5_about_138 dX5_about_141 ⟨Nat.le_of_ble_eq_true rfl, Nat.le_of_ble_eq_true rfl⟩ (Nat.le_of_ble_eq_true rfl) ⟨Nat.le_of_ble_eq_true rfl, Nat.le_of_ble_eq_true rfl⟩ ⟨Nat.le_of_ble_eq_true rfl, Nat.le_of_ble_eq_true rfl⟩ (⟨rfl, by omega, rfl⟩)
set_option maxHeartbeats 4000000 in
set_option maxRecDepth 100000 in
theorem c5_rulerOf {l : Launch} {D : va_G} {cT : Nat → ClassId} {N b0 : Nat} {ad : Nat → Nat} (hA : oAd b0 N ad) {σ : Nat → va_E} (r x : Int) (n a g : Nat) (sz w : Nat → Nat) (ff sf : Int) (hl0 : l.stackTraces = false) (hN : 76 ≤ N) (hwf : oWf n sz w) (hbr : -2147483648 ≤ r ∧ r < 2147483648) (hbx : -2147483648 ≤ x ∧ x < 2147483648) (eO : σ (0) = .inr (5, [.ref (ad (1)), .ref (ad (4)), .ref (ad (7)), .ref (ad (10)), .int (oI (ff)), .int (oI (sf)), .ref (ad (13)), .ref (ad (57)), .ref (ad (59)), .ref (ad (64))])) (e0 : σ (1) = .inr (4, [.ref (ad (2)), .ref (ad (3)), .int (oI (((n : Nat) : Int))), .int (oI (((a : Nat) : Int))), .int (oI (((g : Nat) : Int)))])) (e1 : σ (2) = oAN cT 4 sz) (e2 : σ (3) = oAJ cT 4 w) :
    oXi l D cT N ad b0 yX5_rulerOf cX5_rulerOf 3 (some .int) 7 111 2 [.ref (ad (0)), .int (oI (r)), .int (oI (x))] σ (fun rr uu => rr = oI (((oRul x (oRow n w r) (oSize n sz r) : Nat) : Int)) ∧ ((0 ≤ r ∧ r < (n : Int))) ∧ (0 ≤ x ∧ x ≤ 5) ∧ uu = σ) (fun E uu => ((E = oIO ∧ ¬ (0 ≤ r ∧ r < (n : Int))) ∨ (E = oIA ∧ (0 ≤ r ∧ r < (n : Int)) ∧ ¬ (0 ≤ x ∧ x ≤ 5))) ∧ uu = σ) := by
  refine m_startX (cc := cX5_rulerOf) (by decide) (Nat.le_of_ble_eq_true rfl) rfl ?_
  intro Pp Ee Ss Mm Bb Me Cc Ar ls hx hb hml hown hlk hrt hts hK hH hl hXT hnt
  have hown : Ss.vm.findClass RX5 = some Mm.cls := hown
  have hn := hwf.1
  have hsz := oSize_le hwf
  have hw64 := oRow_64 hwf
  have hw41 := oRow_lt hwf
  have hl : lv_has ls 3 [(0, .ref (ad (0))), (1, .int (oI (r))), (2, .int (oI (x)))] := hl
  refine lv_aload_n hx hb dX5_rulerOf_0 rfl (lv_at hl 0 rfl) ?_
  refine lv_iload_n hx hb dX5_rulerOf_1 rfl (lv_at hl 1 rfl) ?_
  refine m_xVv hx hb hml hown hts hK hXT hH hl hlk hnt (rest := []) cw_X5_134 (c5_checkRuler hA r n a g sz w ff sf (by first | assumption | omega) (by first | assumption | omega) (by first | assumption | omega) (by first | assumption | omega) eO e0 e1 e2) ⟨Nat.le_of_ble_eq_true rfl, Nat.le_of_ble_eq_true rfl⟩ ⟨Nat.le_of_ble_eq_true rfl, Nat.le_of_ble_eq_true rfl⟩ ⟨Nat.le_of_ble_eq_true rfl, Nat.le_of_ble_eq_true rfl⟩ rfl (k := 0) (by omega) eO rfl rfl (Nat.le_of_ble_eq_true rfl) dX5_rulerOf_2 (fun E u h => ⟨Or.inl ⟨h.1, h.2.1⟩, h.2.2⟩) (fun σ_1 H locs hp_2 hH => ?_)
  obtain ⟨hP, hu⟩ := hp_2
  have hu := hu.symm
  subst hu
  refine lv_iload_n hx hb dX5_rulerOf_5 rfl (lv_at hl 2 rfl) ?_
  rcases (show (x : Int) = 0 ∨ (x : Int) = 1 ∨ (x : Int) = 2 ∨ (x : Int) = 3 ∨ (x : Int) = 4 ∨ (x : Int) = 5 ∨ ((x : Int) < 0 ∨ 5 < (x : Int)) by omega) with hxx | hxx | hxx | hxx | hxx | hxx | hxx
  · refine m_tabIn 44 hx hb dX5_rulerOf_6 (by omega) (by omega) (by rw [hxx]; rfl) (by decide) ?_
    refine lv_aload_n hx hb dX5_rulerOf_44 rfl (lv_at hl 0 rfl) ?_
    refine gf_X5_present hx hb hts hown hK hH (k := 0) (by omega) eO dX5_rulerOf_45 ?_
    refine lv_iload_n hx hb dX5_rulerOf_48 rfl (lv_at hl 1 rfl) ?_
    refine m_pVi hx hb hml hown hts hK hH hl (rest := []) cw_X5_138 (c4_size hA 1 n a g sz w r (by first | assumption | omega) (by first | assumption | omega) (by first | assumption | omega) e0 e1 e2) ⟨Nat.le_of_ble_eq_true rfl, Nat.le_of_ble_eq_true rfl⟩ ⟨Nat.le_of_ble_eq_true rfl, Nat.le_of_ble_eq_true rfl⟩ rfl (k := 1) (by omega) e0 rfl rfl (Nat.le_of_ble_eq_true rfl) dX5_rulerOf_49 (fun H locs hH => ?_)
    exact m_iretX hx hb hlk hrt hH ⟨Nat.le_of_ble_eq_true rfl, Nat.le_of_ble_eq_true rfl⟩ (m_ni _) dX5_rulerOf_52 ⟨congrArg oI (by unfold oRul; rw [if_pos (by omega)]), (by first | assumption | omega), (by first | assumption | omega), rfl⟩
  · refine m_tabIn 53 hx hb dX5_rulerOf_6 (by omega) (by omega) (by rw [hxx]; rfl) (by decide) ?_
    refine lv_aload_n hx hb dX5_rulerOf_53 rfl (lv_at hl 0 rfl) ?_
    refine gf_X5_present hx hb hts hown hK hH (k := 0) (by omega) eO dX5_rulerOf_54 ?_
    refine lv_iload_n hx hb dX5_rulerOf_57 rfl (lv_at hl 1 rfl) ?_
    refine m_pVi hx hb hml hown hts hK hH hl (rest := []) cw_X5_141 (c4_marksOf hA 1 n a g sz w r (by first | assumption | omega) (by first | assumption | omega) (by first | assumption | omega) e0 e1 e2) ⟨Nat.le_of_ble_eq_true rfl, Nat.le_of_ble_eq_true rfl⟩ ⟨Nat.le_of_ble_eq_true rfl, Nat.le_of_ble_eq_true rfl⟩ rfl (k := 1) (by omega) e0 rfl rfl (Nat.le_of_ble_eq_true rfl) dX5_rulerOf_58 (fun H locs hH => ?_)
    exact m_iretX hx hb hlk hrt hH ⟨Nat.le_of_ble_eq_true rfl, Nat.le_of_ble_eq_true rfl⟩ (m_ni _) dX5_rulerOf_61 ⟨congrArg oI (by unfold oRul; rw [if_neg (by omega), if_pos (by omega)]), (by first | assumption | omega), (by first | assumption | omega), rfl⟩
  · refine m_tabIn 62 hx hb dX5_rulerOf_6 (by omega) (by omega) (by rw [hxx]; rfl) (by decide) ?_
    refine lv_aload_n hx hb dX5_rulerOf_62 rfl (lv_at hl 0 rfl) ?_
    refine gf_X5_present hx hb hts hown hK hH (k := 0) (by omega) eO dX5_rulerOf_63 ?_
    refine lv_iload_n hx hb dX5_rulerOf_66 rfl (lv_at hl 1 rfl) ?_
    refine m_pVi hx hb hml hown hts hK hH hl (rest := []) cw_X5_144 (c4_spansOf hA 1 n a g sz w r (by first | assumption | omega) (by first | assumption | omega) (by first | assumption | omega) e0 e1 e2) ⟨Nat.le_of_ble_eq_true rfl, Nat.le_of_ble_eq_true rfl⟩ ⟨Nat.le_of_ble_eq_true rfl, Nat.le_of_ble_eq_true rfl⟩ rfl (k := 1) (by omega) e0 rfl rfl (Nat.le_of_ble_eq_true rfl) dX5_rulerOf_67 (fun H locs hH => ?_)
    exact m_iretX hx hb hlk hrt hH ⟨Nat.le_of_ble_eq_true rfl, Nat.le_of_ble_eq_true rfl⟩ (m_ni _) dX5_rulerOf_70 ⟨congrArg oI (by unfold oRul; rw [if_neg (by omega), if_neg (by omega), if_pos (by omega)]), (by first | assumption | omega), (by first | assumption | omega), rfl⟩
  · refine m_tabIn 71 hx hb dX5_rulerOf_6 (by omega) (by omega) (by rw [hxx]; rfl) (by decide) ?_
    refine lv_aload_n hx hb dX5_rulerOf_71 rfl (lv_at hl 0 rfl) ?_
    refine gf_X5_present hx hb hts hown hK hH (k := 0) (by omega) eO dX5_rulerOf_72 ?_
    refine lv_iload_n hx hb dX5_rulerOf_75 rfl (lv_at hl 1 rfl) ?_
    refine m_pVn hx hb hml hown hts hK hH hl (rest := []) cw_X5_147 (c4_row hA 1 n a g sz w r (by first | assumption | omega) (by first | assumption | omega) (by first | assumption | omega) e0 e1 e2) ⟨Nat.le_of_ble_eq_true rfl, Nat.le_of_ble_eq_true rfl⟩ ⟨Nat.le_of_ble_eq_true rfl, Nat.le_of_ble_eq_true rfl⟩ rfl (k := 1) (by omega) e0 rfl rfl (Nat.le_of_ble_eq_true rfl) dX5_rulerOf_76 (fun H locs hH => ?_)
    refine m_pSn hx hb hml hown hts hK hH hl (rest := []) cw_X5_151 rfl (c5_spreadOf hA (oRow n w r) (hw64 r) ) ⟨Nat.le_of_ble_eq_true rfl, Nat.le_of_ble_eq_true rfl⟩ ⟨Nat.le_of_ble_eq_true rfl, Nat.le_of_ble_eq_true rfl⟩ rfl rfl (Nat.le_of_ble_eq_true rfl) dX5_rulerOf_79 (fun H locs hH => ?_)
    refine m_pFi hx hb hml hown hts hK hH hl (rest := []) cw_X5_111 (cJ_bitCount hA (oSpr (oRow n w r) 41) (oSpr_41 _) ) ⟨Nat.le_of_ble_eq_true rfl, Nat.le_of_ble_eq_true rfl⟩ ⟨Nat.le_of_ble_eq_true rfl, Nat.le_of_ble_eq_true rfl⟩ rfl rfl (Nat.le_of_ble_eq_true rfl) dX5_rulerOf_82 (fun H locs hH => ?_)
    exact m_iretX hx hb hlk hrt hH ⟨Nat.le_of_ble_eq_true rfl, Nat.le_of_ble_eq_true rfl⟩ (m_ni _) dX5_rulerOf_85 ⟨congrArg oI (by unfold oRul; rw [if_neg (by omega), if_neg (by omega), if_neg (by omega), if_pos (by omega)]), (by first | assumption | omega), (by first | assumption | omega), rfl⟩
  · refine m_tabIn 86 hx hb dX5_rulerOf_6 (by omega) (by omega) (by rw [hxx]; rfl) (by decide) ?_
    refine lv_aload_n hx hb dX5_rulerOf_86 rfl (lv_at hl 0 rfl) ?_
    refine gf_X5_present hx hb hts hown hK hH (k := 0) (by omega) eO dX5_rulerOf_87 ?_
    refine lv_iload_n hx hb dX5_rulerOf_90 rfl (lv_at hl 1 rfl) ?_
    refine m_pVn hx hb hml hown hts hK hH hl (rest := []) cw_X5_147 (c4_row hA 1 n a g sz w r (by first | assumption | omega) (by first | assumption | omega) (by first | assumption | omega) e0 e1 e2) ⟨Nat.le_of_ble_eq_true rfl, Nat.le_of_ble_eq_true rfl⟩ ⟨Nat.le_of_ble_eq_true rfl, Nat.le_of_ble_eq_true rfl⟩ rfl (k := 1) (by omega) e0 rfl rfl (Nat.le_of_ble_eq_true rfl) dX5_rulerOf_91 (fun H locs hH => ?_)
    refine m_pSi hx hb hml hown hts hK hH hl (rest := []) cw_X5_155 rfl (c5_commonest hA (oRow n w r) (hw64 r) ) ⟨Nat.le_of_ble_eq_true rfl, Nat.le_of_ble_eq_true rfl⟩ ⟨Nat.le_of_ble_eq_true rfl, Nat.le_of_ble_eq_true rfl⟩ rfl rfl (Nat.le_of_ble_eq_true rfl) dX5_rulerOf_94 (fun H locs hH => ?_)
    exact m_iretX hx hb hlk hrt hH ⟨Nat.le_of_ble_eq_true rfl, Nat.le_of_ble_eq_true rfl⟩ (m_ni _) dX5_rulerOf_97 ⟨congrArg oI (by unfold oRul; rw [if_neg (by omega), if_neg (by omega), if_neg (by omega), if_neg (by omega), if_pos (by omega)]), (by first | assumption | omega), (by first | assumption | omega), rfl⟩
  · refine m_tabIn 98 hx hb dX5_rulerOf_6 (by omega) (by omega) (by rw [hxx]; rfl) (by decide) ?_
    refine lv_aload_n hx hb dX5_rulerOf_98 rfl (lv_at hl 0 rfl) ?_
    refine gf_X5_present hx hb hts hown hK hH (k := 0) (by omega) eO dX5_rulerOf_99 ?_
    refine lv_iload_n hx hb dX5_rulerOf_102 rfl (lv_at hl 1 rfl) ?_
    refine m_pVn hx hb hml hown hts hK hH hl (rest := []) cw_X5_147 (c4_row hA 1 n a g sz w r (by first | assumption | omega) (by first | assumption | omega) (by first | assumption | omega) e0 e1 e2) ⟨Nat.le_of_ble_eq_true rfl, Nat.le_of_ble_eq_true rfl⟩ ⟨Nat.le_of_ble_eq_true rfl, Nat.le_of_ble_eq_true rfl⟩ rfl (k := 1) (by omega) e0 rfl rfl (Nat.le_of_ble_eq_true rfl) dX5_rulerOf_103 (fun H locs hH => ?_)
    refine m_pSn hx hb hml hown hts hK hH hl (rest := []) cw_X5_151 rfl (c5_spreadOf hA (oRow n w r) (hw64 r) ) ⟨Nat.le_of_ble_eq_true rfl, Nat.le_of_ble_eq_true rfl⟩ ⟨Nat.le_of_ble_eq_true rfl, Nat.le_of_ble_eq_true rfl⟩ rfl rfl (Nat.le_of_ble_eq_true rfl) dX5_rulerOf_106 (fun H locs hH => ?_)
    refine m_pSi hx hb hml hown hts hK hH hl (rest := []) cw_X5_158 rfl (c5_leastMissing hA (oSpr (oRow n w r) 41) (oSpr_41 _) ) ⟨Nat.le_of_ble_eq_true rfl, Nat.le_of_ble_eq_true rfl⟩ ⟨Nat.le_of_ble_eq_true rfl, Nat.le_of_ble_eq_true rfl⟩ rfl rfl (Nat.le_of_ble_eq_true rfl) dX5_rulerOf_109 (fun H locs hH => ?_)
    exact m_iretX hx hb hlk hrt hH ⟨Nat.le_of_ble_eq_true rfl, Nat.le_of_ble_eq_true rfl⟩ (m_ni _) dX5_rulerOf_112 ⟨congrArg oI (by unfold oRul; rw [if_neg (by omega), if_neg (by omega), if_neg (by omega), if_neg (by omega), if_neg (by omega)]), (by first | assumption | omega), (by first | assumption | omega), rfl⟩
  · refine m_tabOut 113 hx hb dX5_rulerOf_6 (by omega) hxx (by decide) ?_
    exact m_throw (text := "no such number") hx hb hl0 hml hown hts hK hXT hH hl hlk hnt oth_0 (by decide) dX5_rulerOf_113 dX5_rulerOf_116 dX5_rulerOf_117 dX5_rulerOf_119 dX5_rulerOf_122 ⟨Nat.le_of_ble_eq_true rfl, Nat.le_of_ble_eq_true rfl⟩ (Nat.le_of_ble_eq_true rfl) ⟨Nat.le_of_ble_eq_true rfl, Nat.le_of_ble_eq_true rfl⟩ ⟨Nat.le_of_ble_eq_true rfl, Nat.le_of_ble_eq_true rfl⟩ (⟨Or.inr ⟨rfl, hP, by omega⟩, rfl⟩)
