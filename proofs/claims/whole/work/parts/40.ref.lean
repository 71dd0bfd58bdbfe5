/-! ===== the reference: a state in a row of 171 ints ===== -/
def oRS (f : Nat → Int) (n a g : Nat) (sz w : Nat → Nat) : Prop := f 0 = (n : Int) ∧ f 1 = (a : Int) ∧ f 2 = (g : Int) ∧ ∀ r : Nat, r < n → f (42 * r + 3) = (sz r : Int) ∧ ∀ p : Nat, p ≤ 40 → f (42 * r + 4 + p) = (bz (w r) p : Int)
def oPc (w : Nat) (k : Nat) : Nat := fb_sm (fun p => bz w p) k
set_option maxHeartbeats 4000000 in
set_option maxRecDepth 100000 in
theorem c6_in {l : Launch} {D : va_G} {cT : Nat → ClassId} {N b0 : Nat} {ad : Nat → Nat} (hA : oAd b0 N ad) {σ : Nat → va_E} (x lo hi : Int) (hbx : -9223372036854775808 ≤ x ∧ x < 9223372036854775808) (hbl : -9223372036854775808 ≤ lo ∧ lo < 9223372036854775808) (hbh : -9223372036854775808 ≤ hi ∧ hi < 9223372036854775808) :
    oCi l D cT N ad b0 yX6_in cX6_in 6 (some .boolean) 0 0 [.long (oL (x)), .long (oL (lo)), .long (oL (hi))] σ (fun rr uu => (rr = oI 1 ∧ (lo ≤ x ∧ x ≤ hi) ∨ rr = oI 0 ∧ ¬ (lo ≤ x ∧ x ≤ hi)) ∧ uu = σ) := by
  refine m_start (cc := cX6_in) (by decide) (Nat.le_of_ble_eq_true rfl) rfl ?_
  intro Pp Ee Ss Mm Bb Me Cc Ar ls hx hb hml hown hlk hrt hts hK hH hl
  have hown : Ss.vm.findClass RX6 = some Mm.cls := hown
  have hl : lv_has ls 6 [(0, .long (oL (x))), (2, .long (oL (lo))), (4, .long (oL (hi)))] := hl
  refine lv_lload_n hx hb dX6_in_0 rfl (lv_at hl 0 rfl) ?_
  refine lv_lload_n hx hb dX6_in_1 rfl (lv_at hl 1 rfl) ?_
  refine m_lcmp_lt 17 hx hb dX6_in_2 dX6_in_3 (by decide) (by omega) (by omega) (fun h_1 => ?_) (fun h_1 => ?_)
  · refine m_iconst 0 hx hb dX6_in_17 rfl ?_
    exact m_iret hx hb hlk hrt hH m_z0 dX6_in_18 ⟨Or.inr ⟨rfl, by first | assumption | omega | simp_all⟩, rfl⟩
  · refine lv_lload_n hx hb dX6_in_6 rfl (lv_at hl 0 rfl) ?_
    refine lv_lload hx hb dX6_in_7 (lv_at hl 2 rfl) ?_
    refine m_lcmp_gt 17 hx hb dX6_in_9 dX6_in_10 (by decide) (by omega) (by omega) (fun h_2 => ?_) (fun h_2 => ?_)
    · refine m_iconst 0 hx hb dX6_in_17 rfl ?_
      exact m_iret hx hb hlk hrt hH m_z0 dX6_in_18 ⟨Or.inr ⟨rfl, by first | assumption | omega | simp_all⟩, rfl⟩
    · refine m_iconst 1 hx hb dX6_in_13 rfl ?_
      refine lv_goto (tgt := 18) hx hb dX6_in_14 (by decide) ?_
      exact m_iret hx hb hlk hrt hH m_z1 dX6_in_18 ⟨Or.inl ⟨rfl, by first | assumption | omega | simp_all⟩, rfl⟩
set_option maxHeartbeats 4000000 in
set_option maxRecDepth 100000 in
theorem c6_at {l : Launch} {D : va_G} {cT : Nat → ClassId} {N b0 : Nat} {ad : Nat → Nat} (hA : oAd b0 N ad) {σ : Nat → va_E} (r p : Nat) (hr4 : r ≤ 4) (hp : p ≤ 1000) :
    oCi l D cT N ad b0 yX6_at cX6_at 2 (some .int) 0 0 [.int (oI (((r : Nat) : Int))), .int (oI (((p : Nat) : Int)))] σ (fun rr uu => rr = oI (((p : Nat) : Int) + 42 * ((r : Nat) : Int) + 4) ∧ uu = σ) := by
  refine m_start (cc := cX6_at) (by decide) (Nat.le_of_ble_eq_true rfl) rfl ?_
  intro Pp Ee Ss Mm Bb Me Cc Ar ls hx hb hml hown hlk hrt hts hK hH hl
  have hown : Ss.vm.findClass RX6 = some Mm.cls := hown
  have hl : lv_has ls 2 [(0, .int (oI (((r : Nat) : Int)))), (1, .int (oI (((p : Nat) : Int))))] := hl
  refine m_iconst 3 hx hb dX6_at_0 rfl ?_
  refine m_bipush 42 hx hb dX6_at_1 (by decide) ?_
  refine lv_iload_n hx hb dX6_at_3 rfl (lv_at hl 0 rfl) ?_
  refine m_imul (42 * ((r : Nat) : Int)) hx hb dX6_at_4 (by omega) ?_
  refine m_iadd (42 * ((r : Nat) : Int) + 3) hx hb dX6_at_5 (by omega) ?_
  refine m_iconst 1 hx hb dX6_at_6 rfl ?_
  refine m_iadd (42 * ((r : Nat) : Int) + 4) hx hb dX6_at_7 (by omega) ?_
  refine lv_iload_n hx hb dX6_at_8 rfl (lv_at hl 1 rfl) ?_
  refine m_iadd (((p : Nat) : Int) + 42 * ((r : Nat) : Int) + 4) hx hb dX6_at_9 (by omega) ?_
  exact m_iret hx hb hlk hrt hH (m_ni _) dX6_at_10 ⟨rfl, rfl⟩
set_option maxHeartbeats 4000000 in
set_option maxRecDepth 100000 in
theorem c6_length {l : Launch} {D : va_G} {cT : Nat → ClassId} {N b0 : Nat} {ad : Nat → Nat} (hA : oAd b0 N ad) {σ : Nat → va_E} (j n a g : Nat) (f : Nat → Int) (sz w : Nat → Nat) (r : Nat) (hj : j < N) (hwf : oWf n sz w) (hp : oRS f n a g sz w) (hr : r < n) (ef : σ (j) = oAI cT 171 f) :
    oCi l D cT N ad b0 yX6_length cX6_length 2 (some .int) 0 0 [.ref (ad (j)), .int (oI (((r : Nat) : Int)))] σ (fun rr uu => rr = oI (((sz r : Nat) : Int)) ∧ uu = σ) := by
  refine m_start (cc := cX6_length) (by decide) (Nat.le_of_ble_eq_true rfl) rfl ?_
  intro Pp Ee Ss Mm Bb Me Cc Ar ls hx hb hml hown hlk hrt hts hK hH hl
  have hown : Ss.vm.findClass RX6 = some Mm.cls := hown
  have hn := hwf.1
  have hl : lv_has ls 2 [(0, .ref (ad (j))), (1, .int (oI (((r : Nat) : Int))))] := hl
  refine lv_aload_n hx hb dX6_length_0 rfl (lv_at hl 0 rfl) ?_
  refine m_iconst 3 hx hb dX6_length_1 rfl ?_
  refine m_bipush 42 hx hb dX6_length_2 (by decide) ?_
  refine lv_iload_n hx hb dX6_length_4 rfl (lv_at hl 1 rfl) ?_
  refine m_imul (42 * ((r : Nat) : Int)) hx hb dX6_length_5 (by omega) ?_
  refine m_iadd (42 * ((r : Nat) : Int) + 3) hx hb dX6_length_6 (by omega) ?_
  refine m_iald hx hb hK hH (k := j) (by omega) ef (42 * r + 3) (by omega) (by omega) (by decide) dX6_length_7 ?_
  refine m_topI (((sz r : Nat) : Int)) ((hp.2.2.2 r hr).1) ?_
  exact m_iret hx hb hlk hrt hH (m_ni _) dX6_length_8 ⟨rfl, rfl⟩
set_option maxHeartbeats 4000000 in
set_option maxRecDepth 100000 in
theorem c6_isRuler {l : Launch} {D : va_G} {cT : Nat → ClassId} {N b0 : Nat} {ad : Nat → Nat} (hA : oAd b0 N ad) {σ : Nat → va_E} (j n a g : Nat) (f : Nat → Int) (sz w : Nat → Nat) (r : Int) (hj : j < N) (hwf : oWf n sz w) (hp : oRS f n a g sz w) (hr : -2147483648 ≤ r ∧ r < 2147483648) (ef : σ (j) = oAI cT 171 f) :
    oCi l D cT N ad b0 yX6_isRuler cX6_isRuler 2 (some .boolean) 1 25 [.ref (ad (j)), .int (oI (r))] σ (fun rr uu => (rr = oI 1 ∧ (0 ≤ r ∧ r < (n : Int)) ∨ rr = oI 0 ∧ ¬ (0 ≤ r ∧ r < (n : Int))) ∧ uu = σ) := by
  refine m_start (cc := cX6_isRuler) (by decide) (Nat.le_of_ble_eq_true rfl) rfl ?_
  intro Pp Ee Ss Mm Bb Me Cc Ar ls hx hb hml hown hlk hrt hts hK hH hl
  have hown : Ss.vm.findClass RX6 = some Mm.cls := hown
  have hn := hwf.1
  have hl : lv_has ls 2 [(0, .ref (ad (j))), (1, .int (oI (r)))] := hl
  refine lv_iload_n hx hb dX6_isRuler_0 rfl (lv_at hl 1 rfl) ?_
  refine m_i2l hx hb dX6_isRuler_1 (by omega) ?_
  refine m_lconst 0 hx hb dX6_isRuler_2 rfl ?_
  refine lv_aload_n hx hb dX6_isRuler_3 rfl (lv_at hl 0 rfl) ?_
  refine m_iconst 0 hx hb dX6_isRuler_4 rfl ?_
  refine m_iald hx hb hK hH (k := j) (by omega) ef (0) (by omega) (by omega) (by decide) dX6_isRuler_5 ?_
  refine m_topI (((n : Nat) : Int)) (hp.1) ?_
  refine m_iconst 1 hx hb dX6_isRuler_6 rfl ?_
  refine m_isub (((n : Nat) : Int) - 1) hx hb dX6_isRuler_7 (by omega) ?_
  refine m_i2l hx hb dX6_isRuler_8 (by omega) ?_
  refine m_pSb hx hb hml hown hts hK hH hl (rest := []) cw_X6_46 rfl (c6_in hA r 0 (((n : Nat) : Int) - 1) (by first | assumption | omega) (by first | assumption | omega) (by first | assumption | omega) ) ⟨Nat.le_of_ble_eq_true rfl, Nat.le_of_ble_eq_true rfl⟩ ⟨Nat.le_of_ble_eq_true rfl, Nat.le_of_ble_eq_true rfl⟩ rfl rfl (Nat.le_of_ble_eq_true rfl) dX6_isRuler_9 (fun h_1 H locs hH => ?_) (fun h_1 H locs hH => ?_)
  · exact m_iret hx hb hlk hrt hH m_z1 dX6_isRuler_12 ⟨Or.inl ⟨rfl, by first | assumption | omega | simp_all⟩, rfl⟩
  · exact m_iret hx hb hlk hrt hH m_z0 dX6_isRuler_12 ⟨Or.inr ⟨rfl, by first | assumption | omega | simp_all⟩, rfl⟩
set_option maxHeartbeats 4000000 in
set_option maxRecDepth 100000 in
theorem c6_isPlace {l : Launch} {D : va_G} {cT : Nat → ClassId} {N b0 : Nat} {ad : Nat → Nat} (hA : oAd b0 N ad) {σ : Nat → va_E} (j n a g : Nat) (f : Nat → Int) (sz w : Nat → Nat) (r p : Int) (hj : j < N) (hwf : oWf n sz w) (hp : oRS f n a g sz w) (hbr : -2147483648 ≤ r ∧ r < 2147483648) (hbp : -2147483648 ≤ p ∧ p < 2147483648) (ef : σ (j) = oAI cT 171 f) :
    oCi l D cT N ad b0 yX6_isPlace cX6_isPlace 3 (some .boolean) 2 46 [.ref (ad (j)), .int (oI (r)), .int (oI (p))] σ (fun rr uu => (rr = oI 1 ∧ ((0 ≤ r ∧ r < (n : Int)) ∧ 0 ≤ p ∧ p ≤ (oSize n sz r : Int)) ∨ rr = oI 0 ∧ ¬ ((0 ≤ r ∧ r < (n : Int)) ∧ 0 ≤ p ∧ p ≤ (oSize n sz r : Int))) ∧ uu = σ) := by
  refine m_start (cc := cX6_isPlace) (by decide) (Nat.le_of_ble_eq_true rfl) rfl ?_
  intro Pp Ee Ss Mm Bb Me Cc Ar ls hx hb hml hown hlk hrt hts hK hH hl
  have hown : Ss.vm.findClass RX6 = some Mm.cls := hown
  have hn := hwf.1
  have hsz : ∀ r : Nat, r < n → 2 ≤ sz r ∧ sz r ≤ 40 := fun r h => ⟨(hwf.2 r h).1, (hwf.2 r h).2.1⟩
  have hl : lv_has ls 3 [(0, .ref (ad (j))), (1, .int (oI (r))), (2, .int (oI (p)))] := hl
  refine lv_aload_n hx hb dX6_isPlace_0 rfl (lv_at hl 0 rfl) ?_
  refine lv_iload_n hx hb dX6_isPlace_1 rfl (lv_at hl 1 rfl) ?_
  refine m_pSb hx hb hml hown hts hK hH hl (rest := []) cw_X6_50 rfl (c6_isRuler hA j n a g f sz w r (by first | assumption | omega) (by first | assumption | omega) (by first | assumption | omega) (by first | assumption | omega) ef) ⟨Nat.le_of_ble_eq_true rfl, Nat.le_of_ble_eq_true rfl⟩ ⟨Nat.le_of_ble_eq_true rfl, Nat.le_of_ble_eq_true rfl⟩ rfl rfl (Nat.le_of_ble_eq_true rfl) dX6_isPlace_2 (fun hR H locs hH => ?_) (fun hR H locs hH => ?_)
  · refine m_if_eq 27 hx hb dX6_isPlace_5 (by decide) (by omega) (fun h_1 => absurd h_1 (by omega)) (fun h_1 => ?_)
    refine lv_iload_n hx hb dX6_isPlace_8 rfl (lv_at hl 2 rfl) ?_
    refine m_i2l hx hb dX6_isPlace_9 (by omega) ?_
    refine m_lconst 0 hx hb dX6_isPlace_10 rfl ?_
    refine lv_aload_n hx hb dX6_isPlace_11 rfl (lv_at hl 0 rfl) ?_
    have hs9 := hsz r.toNat (by omega)
    have eS : oSize n sz r = sz r.toNat := oSize_in hR
    refine lv_iload_n hx hb dX6_isPlace_12 rfl (lv_at hl 1 rfl) ?_
    refine m_topI (((r.toNat : Nat) : Int)) (by omega) ?_
    refine m_pSi hx hb hml hown hts hK hH hl (rest := [.long (oL (0)), .long (oL (p))]) cw_X6_54 rfl (c6_length hA j n a g f sz w r.toNat (by first | assumption | omega) (by first | assumption | omega) (by first | assumption | omega) (by first | assumption | omega) ef) ⟨Nat.le_of_ble_eq_true rfl, Nat.le_of_ble_eq_true rfl⟩ ⟨Nat.le_of_ble_eq_true rfl, Nat.le_of_ble_eq_true rfl⟩ rfl rfl (Nat.le_of_ble_eq_true rfl) dX6_isPlace_13 (fun H locs hH => ?_)
    refine m_i2l hx hb dX6_isPlace_16 (by omega) ?_
    refine m_pSb hx hb hml hown hts hK hH hl (rest := []) cw_X6_46 rfl (c6_in hA p 0 ((sz r.toNat : Nat) : Int) (by first | assumption | omega) (by first | assumption | omega) (by first | assumption | omega) ) ⟨Nat.le_of_ble_eq_true rfl, Nat.le_of_ble_eq_true rfl⟩ ⟨Nat.le_of_ble_eq_true rfl, Nat.le_of_ble_eq_true rfl⟩ rfl rfl (Nat.le_of_ble_eq_true rfl) dX6_isPlace_17 (fun h_2 H locs hH => ?_) (fun h_2 H locs hH => ?_)
    · refine m_if_eq 27 hx hb dX6_isPlace_20 (by decide) (by omega) (fun h_3 => absurd h_3 (by omega)) (fun h_3 => ?_)
      refine m_iconst 1 hx hb dX6_isPlace_23 rfl ?_
      refine lv_goto (tgt := 28) hx hb dX6_isPlace_24 (by decide) ?_
      exact m_iret hx hb hlk hrt hH m_z1 dX6_isPlace_28 ⟨Or.inl ⟨rfl, by first | assumption | omega | simp_all⟩, rfl⟩
    · refine m_if_eq 27 hx hb dX6_isPlace_20 (by decide) (by omega) (fun h_4 => ?_) (fun h_4 => absurd h_4 (by omega))
      refine m_iconst 0 hx hb dX6_isPlace_27 rfl ?_
      exact m_iret hx hb hlk hrt hH m_z0 dX6_isPlace_28 ⟨Or.inr ⟨rfl, by first | assumption | omega | simp_all⟩, rfl⟩
  · refine m_if_eq 27 hx hb dX6_isPlace_5 (by decide) (by omega) (fun h_5 => ?_) (fun h_5 => absurd h_5 (by omega))
    refine m_iconst 0 hx hb dX6_isPlace_27 rfl ?_
    exact m_iret hx hb hlk hrt hH m_z0 dX6_isPlace_28 ⟨Or.inr ⟨rfl, by first | assumption | omega | simp_all⟩, rfl⟩
set_option maxHeartbeats 4000000 in
set_option maxRecDepth 100000 in
theorem c6_isEnd {l : Launch} {D : va_G} {cT : Nat → ClassId} {N b0 : Nat} {ad : Nat → Nat} (hA : oAd b0 N ad) {σ : Nat → va_E} (j n a g : Nat) (f : Nat → Int) (sz w : Nat → Nat) (r : Nat) (p : Int) (hj : j < N) (hwf : oWf n sz w) (hp : oRS f n a g sz w) (hr : r < n) (hbp : -2147483648 ≤ p ∧ p < 2147483648) (ef : σ (j) = oAI cT 171 f) :
    oCi l D cT N ad b0 yX6_isEnd cX6_isEnd 3 (some .boolean) 1 21 [.ref (ad (j)), .int (oI (((r : Nat) : Int))), .int (oI (p))] σ (fun rr uu => (rr = oI 1 ∧ (p = 0 ∨ p = (sz r : Int)) ∨ rr = oI 0 ∧ ¬ (p = 0 ∨ p = (sz r : Int))) ∧ uu = σ) := by
  refine m_start (cc := cX6_isEnd) (by decide) (Nat.le_of_ble_eq_true rfl) rfl ?_
  intro Pp Ee Ss Mm Bb Me Cc Ar ls hx hb hml hown hlk hrt hts hK hH hl
  have hown : Ss.vm.findClass RX6 = some Mm.cls := hown
  have hn := hwf.1
  have hsz : ∀ r : Nat, r < n → 2 ≤ sz r ∧ sz r ≤ 40 := fun r h => ⟨(hwf.2 r h).1, (hwf.2 r h).2.1⟩
  have hs9 := hsz r hr
  have hl : lv_has ls 3 [(0, .ref (ad (j))), (1, .int (oI (((r : Nat) : Int)))), (2, .int (oI (p)))] := hl
  refine lv_iload_n hx hb dX6_isEnd_0 rfl (lv_at hl 2 rfl) ?_
  refine m_if_eq 13 hx hb dX6_isEnd_1 (by decide) (by omega) (fun h_1 => ?_) (fun h_1 => ?_)
  · refine m_iconst 1 hx hb dX6_isEnd_13 rfl ?_
    refine lv_goto (tgt := 18) hx hb dX6_isEnd_14 (by decide) ?_
    exact m_iret hx hb hlk hrt hH m_z1 dX6_isEnd_18 ⟨Or.inl ⟨rfl, by first | assumption | omega | simp_all⟩, rfl⟩
  · refine lv_iload_n hx hb dX6_isEnd_4 rfl (lv_at hl 2 rfl) ?_
    refine lv_aload_n hx hb dX6_isEnd_5 rfl (lv_at hl 0 rfl) ?_
    refine lv_iload_n hx hb dX6_isEnd_6 rfl (lv_at hl 1 rfl) ?_
    refine m_pSi hx hb hml hown hts hK hH hl (rest := [.int (oI (p))]) cw_X6_54 rfl (c6_length hA j n a g f sz w r (by first | assumption | omega) (by first | assumption | omega) (by first | assumption | omega) (by first | assumption | omega) ef) ⟨Nat.le_of_ble_eq_true rfl, Nat.le_of_ble_eq_true rfl⟩ ⟨Nat.le_of_ble_eq_true rfl, Nat.le_of_ble_eq_true rfl⟩ rfl rfl (Nat.le_of_ble_eq_true rfl) dX6_isEnd_7 (fun H locs hH => ?_)
    refine m_icmp_ne 17 hx hb dX6_isEnd_10 (by decide) (by omega) (by omega) (fun h_2 => ?_) (fun h_2 => ?_)
    · refine m_iconst 0 hx hb dX6_isEnd_17 rfl ?_
      exact m_iret hx hb hlk hrt hH m_z0 dX6_isEnd_18 ⟨Or.inr ⟨rfl, by first | assumption | omega | simp_all⟩, rfl⟩
    · refine m_iconst 1 hx hb dX6_isEnd_13 rfl ?_
      refine lv_goto (tgt := 18) hx hb dX6_isEnd_14 (by decide) ?_
      exact m_iret hx hb hlk hrt hH m_z1 dX6_isEnd_18 ⟨Or.inl ⟨rfl, by first | assumption | omega | simp_all⟩, rfl⟩
set_option maxHeartbeats 4000000 in
set_option maxRecDepth 100000 in
theorem c6_isSetting {l : Launch} {D : va_G} {cT : Nat → ClassId} {N b0 : Nat} {ad : Nat → Nat} (hA : oAd b0 N ad) {σ : Nat → va_E} (r v : Int) (hbr : -2147483648 ≤ r ∧ r < 2147483648) (hbv : -2147483648 ≤ v ∧ v < 2147483648) :
    oCi l D cT N ad b0 yX6_isSetting cX6_isSetting 2 (some .boolean) 1 25 [.int (oI (r)), .int (oI (v))] σ (fun rr uu => (rr = oI 1 ∧ ((r = 0 ∧ 1 ≤ v ∧ v ≤ 6) ∨ (r = 1 ∧ 10 ≤ v ∧ v ≤ 150)) ∨ rr = oI 0 ∧ ¬ ((r = 0 ∧ 1 ≤ v ∧ v ≤ 6) ∨ (r = 1 ∧ 10 ≤ v ∧ v ≤ 150))) ∧ uu = σ) := by
  refine m_start (cc := cX6_isSetting) (by decide) (Nat.le_of_ble_eq_true rfl) rfl ?_
  intro Pp Ee Ss Mm Bb Me Cc Ar ls hx hb hml hown hlk hrt hts hK hH hl
  have hown : Ss.vm.findClass RX6 = some Mm.cls := hown
  have hl : lv_has ls 2 [(0, .int (oI (r))), (1, .int (oI (v)))] := hl
  refine lv_iload_n hx hb dX6_isSetting_0 rfl (lv_at hl 0 rfl) ?_
  refine m_if_ne 16 hx hb dX6_isSetting_1 (by decide) (by omega) (fun h_1 => ?_) (fun h_1 => ?_)
  · refine lv_iload_n hx hb dX6_isSetting_16 rfl (lv_at hl 0 rfl) ?_
    refine m_iconst 1 hx hb dX6_isSetting_17 rfl ?_
    refine m_icmp_ne 39 hx hb dX6_isSetting_18 (by decide) (by omega) (by omega) (fun h_2 => ?_) (fun h_2 => ?_)
    · refine m_iconst 0 hx hb dX6_isSetting_39 rfl ?_
      exact m_iret hx hb hlk hrt hH m_z0 dX6_isSetting_40 ⟨Or.inr ⟨rfl, by first | assumption | omega | simp_all⟩, rfl⟩
    · refine lv_iload_n hx hb dX6_isSetting_21 rfl (lv_at hl 1 rfl) ?_
      refine m_i2l hx hb dX6_isSetting_22 (by omega) ?_
      refine lv_ldc2 (v := 10) hx hb hown (hts _ kl_X6_60) dX6_isSetting_23 ?_
      refine m_J2L 10 (by decide +kernel) ?_
      refine lv_ldc2 (v := 150) hx hb hown (hts _ kl_X6_62) dX6_isSetting_26 ?_
      refine m_J2L 150 (by decide +kernel) ?_
      refine m_pSb hx hb hml hown hts hK hH hl (rest := []) cw_X6_46 rfl (c6_in hA v 10 150 (by first | assumption | omega) (by first | assumption | omega) (by first | assumption | omega) ) ⟨Nat.le_of_ble_eq_true rfl, Nat.le_of_ble_eq_true rfl⟩ ⟨Nat.le_of_ble_eq_true rfl, Nat.le_of_ble_eq_true rfl⟩ rfl rfl (Nat.le_of_ble_eq_true rfl) dX6_isSetting_29 (fun h_3 H locs hH => ?_) (fun h_3 H locs hH => ?_)
      · refine m_if_eq 39 hx hb dX6_isSetting_32 (by decide) (by omega) (fun h_4 => absurd h_4 (by omega)) (fun h_4 => ?_)
        refine m_iconst 1 hx hb dX6_isSetting_35 rfl ?_
        refine lv_goto (tgt := 40) hx hb dX6_isSetting_36 (by decide) ?_
        exact m_iret hx hb hlk hrt hH m_z1 dX6_isSetting_40 ⟨Or.inl ⟨rfl, by first | assumption | omega | simp_all⟩, rfl⟩
      · refine m_if_eq 39 hx hb dX6_isSetting_32 (by decide) (by omega) (fun h_5 => ?_) (fun h_5 => absurd h_5 (by omega))
        refine m_iconst 0 hx hb dX6_isSetting_39 rfl ?_
        exact m_iret hx hb hlk hrt hH m_z0 dX6_isSetting_40 ⟨Or.inr ⟨rfl, by first | assumption | omega | simp_all⟩, rfl⟩
  · refine lv_iload_n hx hb dX6_isSetting_4 rfl (lv_at hl 1 rfl) ?_
    refine m_i2l hx hb dX6_isSetting_5 (by omega) ?_
    refine m_lconst 1 hx hb dX6_isSetting_6 rfl ?_
    refine lv_ldc2 (v := 6) hx hb hown (hts _ kl_X6_58) dX6_isSetting_7 ?_
    refine m_J2L 6 (by decide +kernel) ?_
    refine m_pSb hx hb hml hown hts hK hH hl (rest := []) cw_X6_46 rfl (c6_in hA v 1 6 (by first | assumption | omega) (by first | assumption | omega) (by first | assumption | omega) ) ⟨Nat.le_of_ble_eq_true rfl, Nat.le_of_ble_eq_true rfl⟩ ⟨Nat.le_of_ble_eq_true rfl, Nat.le_of_ble_eq_true rfl⟩ rfl rfl (Nat.le_of_ble_eq_true rfl) dX6_isSetting_10 (fun h_6 H locs hH => ?_) (fun h_6 H locs hH => ?_)
    · refine m_if_ne 35 hx hb dX6_isSetting_13 (by decide) (by omega) (fun h_7 => ?_) (fun h_7 => absurd h_7 (by omega))
      refine m_iconst 1 hx hb dX6_isSetting_35 rfl ?_
      refine lv_goto (tgt := 40) hx hb dX6_isSetting_36 (by decide) ?_
      exact m_iret hx hb hlk hrt hH m_z1 dX6_isSetting_40 ⟨Or.inl ⟨rfl, by first | assumption | omega | simp_all⟩, rfl⟩
    · refine m_if_ne 35 hx hb dX6_isSetting_13 (by decide) (by omega) (fun h_8 => absurd h_8 (by omega)) (fun h_8 => ?_)
      refine lv_iload_n hx hb dX6_isSetting_16 rfl (lv_at hl 0 rfl) ?_
      refine m_iconst 1 hx hb dX6_isSetting_17 rfl ?_
      refine m_icmp_ne 39 hx hb dX6_isSetting_18 (by decide) (by omega) (by omega) (fun h_9 => ?_) (fun h_9 => ?_)
      · refine m_iconst 0 hx hb dX6_isSetting_39 rfl ?_
        exact m_iret hx hb hlk hrt hH m_z0 dX6_isSetting_40 ⟨Or.inr ⟨rfl, by first | assumption | omega | simp_all⟩, rfl⟩
      · refine lv_iload_n hx hb dX6_isSetting_21 rfl (lv_at hl 1 rfl) ?_
        refine m_i2l hx hb dX6_isSetting_22 (by omega) ?_
        refine lv_ldc2 (v := 10) hx hb hown (hts _ kl_X6_60) dX6_isSetting_23 ?_
        refine m_J2L 10 (by decide +kernel) ?_
        refine lv_ldc2 (v := 150) hx hb hown (hts _ kl_X6_62) dX6_isSetting_26 ?_
        refine m_J2L 150 (by decide +kernel) ?_
        refine m_pSb hx hb hml hown hts hK hH hl (rest := []) cw_X6_46 rfl (c6_in hA v 10 150 (by first | assumption | omega) (by first | assumption | omega) (by first | assumption | omega) ) ⟨Nat.le_of_ble_eq_true rfl, Nat.le_of_ble_eq_true rfl⟩ ⟨Nat.le_of_ble_eq_true rfl, Nat.le_of_ble_eq_true rfl⟩ rfl rfl (Nat.le_of_ble_eq_true rfl) dX6_isSetting_29 (fun h_10 H locs hH => ?_) (fun h_10 H locs hH => ?_)
        · refine m_if_eq 39 hx hb dX6_isSetting_32 (by decide) (by omega) (fun h_11 => absurd h_11 (by omega)) (fun h_11 => ?_)
          refine m_iconst 1 hx hb dX6_isSetting_35 rfl ?_
          refine lv_goto (tgt := 40) hx hb dX6_isSetting_36 (by decide) ?_
          exact m_iret hx hb hlk hrt hH m_z1 dX6_isSetting_40 ⟨Or.inl ⟨rfl, by first | assumption | omega | simp_all⟩, rfl⟩
        · refine m_if_eq 39 hx hb dX6_isSetting_32 (by decide) (by omega) (fun h_12 => ?_) (fun h_12 => absurd h_12 (by omega))
          refine m_iconst 0 hx hb dX6_isSetting_39 rfl ?_
          exact m_iret hx hb hlk hrt hH m_z0 dX6_isSetting_40 ⟨Or.inr ⟨rfl, by first | assumption | omega | simp_all⟩, rfl⟩
set_option maxHeartbeats 4000000 in
set_option maxRecDepth 100000 in
theorem c6_marks {l : Launch} {D : va_G} {cT : Nat → ClassId} {N b0 : Nat} {ad : Nat → Nat} (hA : oAd b0 N ad) {σ : Nat → va_E} (j n a g : Nat) (f : Nat → Int) (sz w : Nat → Nat) (r : Nat) (hj : j < N) (hwf : oWf n sz w) (hp : oRS f n a g sz w) (hr : r < n) (ef : σ (j) = oAI cT 171 f) :
    oCi l D cT N ad b0 yX6_marks cX6_marks 4 (some .int) 1 21 [.ref (ad (j)), .int (oI (((r : Nat) : Int)))] σ (fun rr uu => rr = oI (((oPc (w r) (sz r + 1) : Nat) : Int)) ∧ uu = σ) := by
  refine m_start (cc := cX6_marks) (by decide) (Nat.le_of_ble_eq_true rfl) rfl ?_
  intro Pp Ee Ss Mm Bb Me Cc Ar ls hx hb hml hown hlk hrt hts hK hH hl
  have hown : Ss.vm.findClass RX6 = some Mm.cls := hown
  have hn := hwf.1
  have hsz : ∀ r : Nat, r < n → 2 ≤ sz r ∧ sz r ≤ 40 := fun r h => ⟨(hwf.2 r h).1, (hwf.2 r h).2.1⟩
  have hs9 := hsz r hr
  have hl : lv_has ls 4 [(0, .ref (ad (j))), (1, .int (oI (((r : Nat) : Int))))] := hl
  refine m_iconst 0 hx hb dX6_marks_0 rfl ?_
  refine lv_istore_n (lv' := [(2, .int (oI (0))), (0, .ref (ad (j))), (1, .int (oI (((r : Nat) : Int))))]) hx hb dX6_marks_1 rfl hl (by decide) rfl (fun ls hl => ?_)
  refine m_iconst 0 hx hb dX6_marks_2 rfl ?_
  refine lv_istore_n (lv' := [(3, .int (oI (0))), (2, .int (oI (0))), (0, .ref (ad (j))), (1, .int (oI (((r : Nat) : Int))))]) hx hb dX6_marks_3 rfl hl (by decide) rfl (fun ls hl => ?_)
  have L4 : ∀ (fu : Nat) (ac : Nat) (p : Nat), (42 - p < fu) → (p ≤ sz r + 1) → (ac = oPc (w r) p) → (ac ≤ p) → ∀ (H : Heap) (locs : List Loc), oH b0 D N ad Ss.heap σ H locs → ∀ ls : Array Slot, lv_has ls 4 [(0, .ref (ad (j))), (1, .int (oI (((r : Nat) : Int)))), (2, .int (oI (((ac : Nat) : Int)))), (3, .int (oI (((p : Nat) : Int))))] → W Pp l Ee { frames := 1, cells := 0, slots := 0, locals := 21 } Ss Mm Ar Bb Me Cc H locs 0 0 (MQ Bb (va_Qi (fun rr uu => rr = oI (((oPc (w r) (sz r + 1) : Nat) : Int)) ∧ uu = σ) (oV D N ad) (fun q => b0 ≤ q)) Ar Ss 0 0 (fun q => b0 ≤ q)) (F0 Mm 4 ls []) := by
    intro fu4
    induction fu4 with
    | zero =>
      intro ac p hm4
      exact absurd hm4 (Nat.not_lt_zero _)
    | succ fu4 ih4 =>
      intro ac p hm4 hpp hc hab H locs hH ls hl
      have hb1 := bz_le (w r) p
      refine lv_iload_n hx hb dX6_marks_4 rfl (lv_at hl 3 rfl) ?_
      refine lv_aload_n hx hb dX6_marks_5 rfl (lv_at hl 0 rfl) ?_
      refine lv_iload_n hx hb dX6_marks_6 rfl (lv_at hl 1 rfl) ?_
      refine m_pSi hx hb hml hown hts hK hH hl (rest := [.int (oI (((p : Nat) : Int)))]) cw_X6_54 rfl (c6_length hA j n a g f sz w r (by first | assumption | omega) (by first | assumption | omega) (by first | assumption | omega) (by first | assumption | omega) ef) ⟨Nat.le_of_ble_eq_true rfl, Nat.le_of_ble_eq_true rfl⟩ ⟨Nat.le_of_ble_eq_true rfl, Nat.le_of_ble_eq_true rfl⟩ rfl rfl (Nat.le_of_ble_eq_true rfl) dX6_marks_7 (fun H locs hH => ?_)
      refine m_icmp_gt 29 hx hb dX6_marks_10 (by decide) (by omega) (by omega) (fun h_1 => ?_) (fun h_1 => ?_)
      · refine lv_iload_n hx hb dX6_marks_29 rfl (lv_at hl 2 rfl) ?_
        exact m_iret hx hb hlk hrt hH (m_ni _) dX6_marks_30 ⟨congrArg oI (by rw [hc, show p = sz r + 1 by omega]), rfl⟩
      · refine lv_iload_n hx hb dX6_marks_13 rfl (lv_at hl 2 rfl) ?_
        refine lv_aload_n hx hb dX6_marks_14 rfl (lv_at hl 0 rfl) ?_
        refine lv_iload_n hx hb dX6_marks_15 rfl (lv_at hl 1 rfl) ?_
        refine lv_iload_n hx hb dX6_marks_16 rfl (lv_at hl 3 rfl) ?_
        refine m_pSi hx hb hml hown hts hK hH hl (rest := [.ref (ad (j)), .int (oI (((ac : Nat) : Int)))]) cw_X6_64 rfl (c6_at hA r p (by first | assumption | omega) (by first | assumption | omega) ) ⟨Nat.le_of_ble_eq_true rfl, Nat.le_of_ble_eq_true rfl⟩ ⟨Nat.le_of_ble_eq_true rfl, Nat.le_of_ble_eq_true rfl⟩ rfl rfl (Nat.le_of_ble_eq_true rfl) dX6_marks_17 (fun H locs hH => ?_)
        refine m_iald hx hb hK hH (k := j) (by omega) ef (42 * r + 4 + p) (by omega) (by omega) (by decide) dX6_marks_20 ?_
        refine m_topI (((bz (w r) p : Nat) : Int)) ((hp.2.2.2 r hr).2 p (by omega)) ?_
        refine m_iadd (((ac : Nat) : Int) + ((bz (w r) p : Nat) : Int)) hx hb dX6_marks_21 (by omega) ?_
        refine lv_istore_n (lv' := [(2, .int (oI (((ac : Nat) : Int) + ((bz (w r) p : Nat) : Int)))), (0, .ref (ad (j))), (1, .int (oI (((r : Nat) : Int)))), (3, .int (oI (((p : Nat) : Int))))]) hx hb dX6_marks_22 rfl hl (by decide) rfl (fun ls hl => ?_)
        refine m_iinc (((p : Nat) : Int) + 1) [(3, .int (oI (((p : Nat) : Int) + 1))), (2, .int (oI (((ac : Nat) : Int) + ((bz (w r) p : Nat) : Int)))), (0, .ref (ad (j))), (1, .int (oI (((r : Nat) : Int))))] hx hb dX6_marks_23 hl (j := 3) rfl (by omega) (by decide) rfl (fun ls hl => ?_)
        refine lv_goto (tgt := 4) hx hb dX6_marks_26 (by decide) ?_
        exact ih4 (ac + (bz (w r) p)) (p + 1) (by omega) (by first | assumption | omega) (by rw [hc]; rfl) (by first | assumption | omega) _ _ hH ls (lv_sub hl [2, 3, 1, 0] rfl)
  exact L4 _ 0 0 (Nat.lt_succ_self _) (by first | assumption | omega) (rfl) (by first | assumption | omega) _ _ hH ls (lv_sub hl [2, 3, 1, 0] rfl)
