set_option maxHeartbeats 4000000 in
set_option maxRecDepth 100000 in
theorem c6_isLaid {l : Launch} {D : va_G} {cT : Nat → ClassId} {N b0 : Nat} {ad : Nat → Nat} (hA : oAd b0 N ad) {σ : Nat → va_E} (x m9 : Int) (hbx : -2147483648 ≤ x ∧ x < 2147483648) (hbm9 : -2147483648 ≤ m9 ∧ m9 < 2147483648) :
    oCi l D cT N ad b0 yX6_isLaid cX6_isLaid 2 (some .boolean) 1 25 [.int (oI (x)), .int (oI (m9))] σ (fun rr uu => (rr = oI 1 ∧ (0 ≤ x ∧ x ≤ m9) ∨ rr = oI 0 ∧ ¬ (0 ≤ x ∧ x ≤ m9)) ∧ uu = σ) := by
  refine m_start (cc := cX6_isLaid) (by decide) (Nat.le_of_ble_eq_true rfl) rfl ?_
  intro Pp Ee Ss Mm Bb Me Cc Ar ls hx hb hml hown hlk hrt hts hK hH hl
  have hown : Ss.vm.findClass RX6 = some Mm.cls := hown
  have hl : lv_has ls 2 [(0, .int (oI (x))), (1, .int (oI (m9)))] := hl
  refine lv_iload_n hx hb dX6_isLaid_0 rfl (lv_at hl 0 rfl) ?_
  refine m_i2l hx hb dX6_isLaid_1 (by omega) ?_
  refine m_lconst 0 hx hb dX6_isLaid_2 rfl ?_
  refine lv_iload_n hx hb dX6_isLaid_3 rfl (lv_at hl 1 rfl) ?_
  refine m_i2l hx hb dX6_isLaid_4 (by omega) ?_
  refine m_pSb hx hb hml hown hts hK hH hl (rest := []) cw_X6_46 rfl (c6_in hA x 0 m9 (by first | assumption | omega) (by first | assumption | omega) (by first | assumption | omega) ) ⟨Nat.le_of_ble_eq_true rfl, Nat.le_of_ble_eq_true rfl⟩ ⟨Nat.le_of_ble_eq_true rfl, Nat.le_of_ble_eq_true rfl⟩ rfl rfl (Nat.le_of_ble_eq_true rfl) dX6_isLaid_5 (fun h_1 H locs hH => ?_) (fun h_1 H locs hH => ?_)
  · exact m_iret hx hb hlk hrt hH m_z1 dX6_isLaid_8 ⟨Or.inl ⟨rfl, by first | assumption | omega | simp_all⟩, rfl⟩
  · exact m_iret hx hb hlk hrt hH m_z0 dX6_isLaid_8 ⟨Or.inr ⟨rfl, by first | assumption | omega | simp_all⟩, rfl⟩
set_option maxHeartbeats 4000000 in
set_option maxRecDepth 100000 in
theorem c6_thrown {l : Launch} {D : va_G} {cT : Nat → ClassId} {N b0 : Nat} {ad : Nat → Nat} (hA : oAd b0 N ad) {σ : Nat → va_E} (si ac6 spo ou6 : Nat) (rf : Int) (hN : 76 ≤ N) (hrf : -2147483648 ≤ rf ∧ rf < 2147483648) (eM6 : σ (65) = .inr (6, [.int (oI (rf)), .ref (ad (66)), .int (oI (((si : Nat) : Int))), .ref (ad (67)), .ref (ad (68)), .ref (ad (69)), .int (oI (((ac6 : Nat) : Int))), .ref (ad (70)), .ref (ad (71)), .ref (ad (72)), .ref (ad (73)), .ref (ad (74)), .int (oI (((spo : Nat) : Int))), .int (oI (((ou6 : Nat) : Int)))])) :
    oCi l D cT N ad b0 yX6_thrown cX6_thrown 1 (some .int) 0 0 [.ref (ad (65))] σ (fun rr uu => rr = oI (rf) ∧ uu = σ) := by
  refine m_start (cc := cX6_thrown) (by decide) (Nat.le_of_ble_eq_true rfl) rfl ?_
  intro Pp Ee Ss Mm Bb Me Cc Ar ls hx hb hml hown hlk hrt hts hK hH hl
  have hown : Ss.vm.findClass RX6 = some Mm.cls := hown
  have hl : lv_has ls 1 [(0, .ref (ad (65)))] := hl
  refine lv_aload_n hx hb dX6_thrown_0 rfl (lv_at hl 0 rfl) ?_
  refine gf_X6_refusal hx hb hts hown hK hH (k := 65) (by omega) eM6 dX6_thrown_1 ?_
  exact m_iret hx hb hlk hrt hH (m_ni _) dX6_thrown_4 ⟨rfl, rfl⟩
set_option maxHeartbeats 4000000 in
set_option maxRecDepth 100000 in
theorem c6_refused {l : Launch} {D : va_G} {cT : Nat → ClassId} {N b0 : Nat} {ad : Nat → Nat} (hA : oAd b0 N ad) {σ : Nat → va_E} (x : Int) (si ac6 spo ou6 : Nat) (rf : Int) (hN : 76 ≤ N) (hbx : -2147483648 ≤ x ∧ x < 2147483648) (eM6 : σ (65) = .inr (6, [.int (oI (rf)), .ref (ad (66)), .int (oI (((si : Nat) : Int))), .ref (ad (67)), .ref (ad (68)), .ref (ad (69)), .int (oI (((ac6 : Nat) : Int))), .ref (ad (70)), .ref (ad (71)), .ref (ad (72)), .ref (ad (73)), .ref (ad (74)), .int (oI (((spo : Nat) : Int))), .int (oI (((ou6 : Nat) : Int)))])) :
    oCi l D cT N ad b0 yX6_refused cX6_refused 2 (some .boolean) 0 0 [.ref (ad (65)), .int (oI (x))] σ (fun rr uu => rr = oI ((if 0 < x then 1 else 0)) ∧ uu (65) = .inr (6, [.int (oI (x)), .ref (ad (66)), .int (oI (((si : Nat) : Int))), .ref (ad (67)), .ref (ad (68)), .ref (ad (69)), .int (oI (((ac6 : Nat) : Int))), .ref (ad (70)), .ref (ad (71)), .ref (ad (72)), .ref (ad (73)), .ref (ad (74)), .int (oI (((spo : Nat) : Int))), .int (oI (((ou6 : Nat) : Int)))]) ∧ (∀ q : Nat, q ≠ 65 → uu q = σ q)) := by
  refine m_start (cc := cX6_refused) (by decide) (Nat.le_of_ble_eq_true rfl) rfl ?_
  intro Pp Ee Ss Mm Bb Me Cc Ar ls hx hb hml hown hlk hrt hts hK hH hl
  have hown : Ss.vm.findClass RX6 = some Mm.cls := hown
  have hl : lv_has ls 2 [(0, .ref (ad (65))), (1, .int (oI (x)))] := hl
  have hf : ∀ q : Nat, q ≠ 65 → σ q = σ q := fun q _ => rfl
  refine lv_aload_n hx hb dX6_refused_0 rfl (lv_at hl 0 rfl) ?_
  refine lv_iload_n hx hb dX6_refused_1 rfl (lv_at hl 1 rfl) ?_
  refine pf_X6_refusal hx hb hts hown hK hH hA (k := 65) (by omega) eM6 dX6_refused_2 (fun H locs σ_1 eM6 hq_2 hH => ?_)
  have hf : ∀ q : Nat, q ≠ 65 → σ_1 q = σ q := fun q n0 => (hq_2 q n0).trans (hf q n0)
  refine lv_iload_n hx hb dX6_refused_5 rfl (lv_at hl 1 rfl) ?_
  refine m_if_le 13 hx hb dX6_refused_6 (by decide) (by omega) (fun h_3 => ?_) (fun h_3 => ?_)
  · refine m_iconst 0 hx hb dX6_refused_13 rfl ?_
    exact m_iret hx hb hlk hrt hH m_z0 dX6_refused_14 ⟨congrArg oI (by rw [if_neg (by omega)]), eM6, hf⟩
  · refine m_iconst 1 hx hb dX6_refused_9 rfl ?_
    refine lv_goto (tgt := 14) hx hb dX6_refused_10 (by decide) ?_
    exact m_iret hx hb hlk hrt hH m_z1 dX6_refused_14 ⟨congrArg oI (by rw [if_pos (by omega)]), eM6, hf⟩
set_option maxHeartbeats 4000000 in
set_option maxRecDepth 100000 in
theorem c6_clearText {l : Launch} {D : va_G} {cT : Nat → ClassId} {N b0 : Nat} {ad : Nat → Nat} (hA : oAd b0 N ad) {σ : Nat → va_E} (si ac6 spo ou6 : Nat) (rf : Int) (hN : 76 ≤ N) (hsi : si ≤ 120) (eM6 : σ (65) = .inr (6, [.int (oI (rf)), .ref (ad (66)), .int (oI (((si : Nat) : Int))), .ref (ad (67)), .ref (ad (68)), .ref (ad (69)), .int (oI (((ac6 : Nat) : Int))), .ref (ad (70)), .ref (ad (71)), .ref (ad (72)), .ref (ad (73)), .ref (ad (74)), .int (oI (((spo : Nat) : Int))), .int (oI (((ou6 : Nat) : Int)))])) :
    oCi l D cT N ad b0 yX6_clearText cX6_clearText 2 (some .int) 0 0 [.ref (ad (65))] σ (fun rr uu => rr = oI (((si : Nat) : Int)) ∧ uu (65) = .inr (6, [.int (oI (0)), .ref (ad (66)), .int (oI (0)), .ref (ad (67)), .ref (ad (68)), .ref (ad (69)), .int (oI (((ac6 : Nat) : Int))), .ref (ad (70)), .ref (ad (71)), .ref (ad (72)), .ref (ad (73)), .ref (ad (74)), .int (oI (((spo : Nat) : Int))), .int (oI (((ou6 : Nat) : Int)))]) ∧ (∀ q : Nat, q ≠ 65 → uu q = σ q)) := by
  refine m_start (cc := cX6_clearText) (by decide) (Nat.le_of_ble_eq_true rfl) rfl ?_
  intro Pp Ee Ss Mm Bb Me Cc Ar ls hx hb hml hown hlk hrt hts hK hH hl
  have hown : Ss.vm.findClass RX6 = some Mm.cls := hown
  have hl : lv_has ls 2 [(0, .ref (ad (65)))] := hl
  have hf : ∀ q : Nat, q ≠ 65 → σ q = σ q := fun q _ => rfl
  refine lv_aload_n hx hb dX6_clearText_0 rfl (lv_at hl 0 rfl) ?_
  refine m_iconst 0 hx hb dX6_clearText_1 rfl ?_
  refine pf_X6_refusal hx hb hts hown hK hH hA (k := 65) (by omega) eM6 dX6_clearText_2 (fun H locs σ_1 eM6 hq_2 hH => ?_)
  have hf : ∀ q : Nat, q ≠ 65 → σ_1 q = σ q := fun q n0 => (hq_2 q n0).trans (hf q n0)
  refine lv_aload_n hx hb dX6_clearText_5 rfl (lv_at hl 0 rfl) ?_
  refine gf_X6_size hx hb hts hown hK hH (k := 65) (by omega) eM6 dX6_clearText_6 ?_
  refine lv_istore_n (lv' := [(1, .int (oI (((si : Nat) : Int)))), (0, .ref (ad (65)))]) hx hb dX6_clearText_9 rfl hl (by decide) rfl (fun ls hl => ?_)
  refine lv_aload_n hx hb dX6_clearText_10 rfl (lv_at hl 1 rfl) ?_
  refine m_iconst 0 hx hb dX6_clearText_11 rfl ?_
  refine pf_X6_size hx hb hts hown hK hH hA (k := 65) (by omega) eM6 dX6_clearText_12 (fun H locs σ_3 eM6 hq_4 hH => ?_)
  have hf : ∀ q : Nat, q ≠ 65 → σ_3 q = σ q := fun q n0 => (hq_4 q n0).trans (hf q n0)
  refine lv_iload_n hx hb dX6_clearText_15 rfl (lv_at hl 0 rfl) ?_
  exact m_iret hx hb hlk hrt hH (m_ni _) dX6_clearText_16 ⟨rfl, eM6, hf⟩
set_option maxHeartbeats 4000000 in
set_option maxRecDepth 100000 in
theorem c6_done {l : Launch} {D : va_G} {cT : Nat → ClassId} {N b0 : Nat} {ad : Nat → Nat} (hA : oAd b0 N ad) {σ : Nat → va_E} (on : Int) (si ac6 spo ou6 : Nat) (rf : Int) (hN : 76 ≤ N) (hou : ou6 ≤ 1000) (hon : on = 0 ∨ on = 1) (eM6 : σ (65) = .inr (6, [.int (oI (rf)), .ref (ad (66)), .int (oI (((si : Nat) : Int))), .ref (ad (67)), .ref (ad (68)), .ref (ad (69)), .int (oI (((ac6 : Nat) : Int))), .ref (ad (70)), .ref (ad (71)), .ref (ad (72)), .ref (ad (73)), .ref (ad (74)), .int (oI (((spo : Nat) : Int))), .int (oI (((ou6 : Nat) : Int)))])) :
    oCi l D cT N ad b0 yX6_done cX6_done 2 (some .boolean) 0 0 [.ref (ad (65)), .int (oI (on))] σ (fun rr uu => ∃ o9 : Nat, rr = oI (1) ∧ (o9 = if on = 0 then ou6 + 1 else ou6) ∧ uu (65) = .inr (6, [.int (oI (rf)), .ref (ad (66)), .int (oI (((si : Nat) : Int))), .ref (ad (67)), .ref (ad (68)), .ref (ad (69)), .int (oI (((ac6 : Nat) : Int))), .ref (ad (70)), .ref (ad (71)), .ref (ad (72)), .ref (ad (73)), .ref (ad (74)), .int (oI (((spo : Nat) : Int))), .int (oI (((o9 : Nat) : Int)))]) ∧ (∀ q : Nat, q ≠ 65 → uu q = σ q)) := by
  refine m_start (cc := cX6_done) (by decide) (Nat.le_of_ble_eq_true rfl) rfl ?_
  intro Pp Ee Ss Mm Bb Me Cc Ar ls hx hb hml hown hlk hrt hts hK hH hl
  have hown : Ss.vm.findClass RX6 = some Mm.cls := hown
  have hl : lv_has ls 2 [(0, .ref (ad (65))), (1, .int (oI (on)))] := hl
  have hf : ∀ q : Nat, q ≠ 65 → σ q = σ q := fun q _ => rfl
  refine lv_aload_n hx hb dX6_done_0 rfl (lv_at hl 0 rfl) ?_
  refine lv_dup hx hb dX6_done_1 rfl ?_
  refine gf_X6_out hx hb hts hown hK hH (k := 65) (by omega) eM6 dX6_done_2 ?_
  refine lv_iload_n hx hb dX6_done_5 rfl (lv_at hl 1 rfl) ?_
  refine m_if_eq 13 hx hb dX6_done_6 (by decide) (by omega) (fun h_1 => ?_) (fun h_1 => ?_)
  · refine m_iconst 1 hx hb dX6_done_13 rfl ?_
    refine m_iadd (((ou6 : Nat) : Int) + 1) hx hb dX6_done_14 (by omega) ?_
    refine pf_X6_out hx hb hts hown hK hH hA (k := 65) (by omega) eM6 dX6_done_15 (fun H locs σ_2 eM6 hq_3 hH => ?_)
    have hf : ∀ q : Nat, q ≠ 65 → σ_2 q = σ q := fun q n0 => (hq_3 q n0).trans (hf q n0)
    refine m_iconst 1 hx hb dX6_done_18 rfl ?_
    exact m_iret hx hb hlk hrt hH m_z1 dX6_done_19 ⟨(ou6 + 1), rfl, (by rw [if_pos (by omega)]), eM6, hf⟩
  · refine m_iconst 0 hx hb dX6_done_9 rfl ?_
    refine lv_goto (tgt := 14) hx hb dX6_done_10 (by decide) ?_
    refine m_iadd (((ou6 : Nat) : Int)) hx hb dX6_done_14 (by omega) ?_
    refine pf_X6_out hx hb hts hown hK hH hA (k := 65) (by omega) eM6 dX6_done_15 (fun H locs σ_4 eM6 hq_5 hH => ?_)
    have hf : ∀ q : Nat, q ≠ 65 → σ_4 q = σ q := fun q n0 => (hq_5 q n0).trans (hf q n0)
    refine m_iconst 1 hx hb dX6_done_18 rfl ?_
    exact m_iret hx hb hlk hrt hH m_z1 dX6_done_19 ⟨ou6, rfl, (by rw [if_neg (by omega)]), eM6, hf⟩
