set_option maxHeartbeats 4000000 in
set_option maxRecDepth 100000 in
theorem c0_add1 {l : Launch} {D : va_G} {cT : Nat → ClassId} {N b0 : Nat} {ad : Nat → Nat} (hA : oAd b0 N ad) {σ : Nat → va_E} (c : Nat) (T : Nat → Int) (z p ac x1 x2 : Nat) (f on : Int) (hN : 76 ≤ N) (hT : ∀ i : Nat, i < z → 0 ≤ T i ∧ T i ≤ 255) (hz : z ≤ 120) (hp : p ≤ 150) (hf0 : -2147483648 ≤ f ∧ f < 2147483648) (hz2 : z < 120) (hc : c ≤ 255) (e57 : σ (57) = .inr (0, [.ref (ad (58)), .int (oI (((z : Nat) : Int))), .int (oI (((p : Nat) : Int))), .int (oI (f)), .int (oI (((ac : Nat) : Int))), .int (oI (((x1 : Nat) : Int))), .int (oI (((x2 : Nat) : Int))), .int (oI (on))])) (e58 : σ (58) = oAC cT 120 T) :
    oCi l D cT N ad b0 yX0_add cX0_add 2 (some .boolean) 0 0 [.ref (ad (57)), .int (oI (((c : Nat) : Int)))] σ (fun rr uu => rr = oI (1) ∧ uu (57) = .inr (0, [.ref (ad (58)), .int (oI (((z : Nat) : Int) + 1)), .int (oI (((p : Nat) : Int))), .int (oI (f)), .int (oI (((ac : Nat) : Int))), .int (oI (((x1 : Nat) : Int))), .int (oI (((x2 : Nat) : Int))), .int (oI (on))]) ∧ uu (58) = oAC cT 120 (va_up T z ((c : Nat) : Int)) ∧ (∀ q : Nat, q ≠ 57 → q ≠ 58 → uu q = σ q)) := by
  refine m_start (cc := cX0_add) (by decide) (Nat.le_of_ble_eq_true rfl) rfl ?_
  intro Pp Ee Ss Mm Bb Me Cc Ar ls hx hb hml hown hlk hrt hts hK hH hl
  have hown : Ss.vm.findClass RX0 = some Mm.cls := hown
  have hl : lv_has ls 2 [(0, .ref (ad (57))), (1, .int (oI (((c : Nat) : Int))))] := hl
  have hf : ∀ q : Nat, q ≠ 57 → q ≠ 58 → σ q = σ q := fun q _ _ => rfl
  refine lv_aload_n hx hb dX0_add_0 rfl (lv_at hl 0 rfl) ?_
  refine gf_X0_size hx hb hts hown hK hH (k := 57) (by omega) e57 dX0_add_1 ?_
  refine m_if_lt 19 hx hb dX0_add_4 (by decide) (by omega) (fun h_1 => absurd h_1 (by omega)) (fun h_1 => ?_)
  refine lv_aload_n hx hb dX0_add_7 rfl (lv_at hl 0 rfl) ?_
  refine gf_X0_size hx hb hts hown hK hH (k := 57) (by omega) e57 dX0_add_8 ?_
  refine lv_aload_n hx hb dX0_add_11 rfl (lv_at hl 0 rfl) ?_
  refine gf_X0_signs hx hb hts hown hK hH (k := 57) (by omega) e57 dX0_add_12 ?_
  refine m_alen hx hb hK hH (k := 58) (by omega) e58 2 rfl 120 rfl dX0_add_15 ?_
  refine m_icmp_lt 21 hx hb dX0_add_16 (by decide) (by omega) (by omega) (fun h_2 => ?_) (fun h_2 => absurd h_2 ((by omega)))
  refine lv_aload_n hx hb dX0_add_21 rfl (lv_at hl 0 rfl) ?_
  refine gf_X0_signs hx hb hts hown hK hH (k := 57) (by omega) e57 dX0_add_22 ?_
  refine lv_aload_n hx hb dX0_add_25 rfl (lv_at hl 0 rfl) ?_
  refine gf_X0_size hx hb hts hown hK hH (k := 57) (by omega) e57 dX0_add_26 ?_
  refine lv_iload_n hx hb dX0_add_29 rfl (lv_at hl 1 rfl) ?_
  refine m_cast hx hb hK hH hA (k := 58) (by omega) e58 (z) (by omega) (by omega) (by decide) (m_nc (by omega)) dX0_add_30 (fun H locs σ_3 e58 hq_4 hH => ?_)
  have e57 : σ_3 (57) = .inr (0, [.ref (ad (58)), .int (oI (((z : Nat) : Int))), .int (oI (((p : Nat) : Int))), .int (oI (f)), .int (oI (((ac : Nat) : Int))), .int (oI (((x1 : Nat) : Int))), .int (oI (((x2 : Nat) : Int))), .int (oI (on))]) := (hq_4 _ (by decide)).trans e57
  have hf : ∀ q : Nat, q ≠ 57 → q ≠ 58 → σ_3 q = σ q := fun q n0 n1 => (hq_4 q n1).trans (hf q n0 n1)
  refine lv_aload_n hx hb dX0_add_31 rfl (lv_at hl 0 rfl) ?_
  refine lv_dup hx hb dX0_add_32 rfl ?_
  refine gf_X0_size hx hb hts hown hK hH (k := 57) (by omega) e57 dX0_add_33 ?_
  refine m_iconst 1 hx hb dX0_add_36 rfl ?_
  refine m_iadd (((z : Nat) : Int) + 1) hx hb dX0_add_37 (by omega) ?_
  refine pf_X0_size hx hb hts hown hK hH hA (k := 57) (by omega) e57 dX0_add_38 (fun H locs σ_5 e57 hq_6 hH => ?_)
  have e58 : σ_5 (58) = oAC cT 120 (va_up T z ((c : Nat) : Int)) := (hq_6 _ (by decide)).trans e58
  have hf : ∀ q : Nat, q ≠ 57 → q ≠ 58 → σ_5 q = σ q := fun q n0 n1 => (hq_6 q n0).trans (hf q n0 n1)
  refine m_iconst 1 hx hb dX0_add_41 rfl ?_
  exact m_iret hx hb hlk hrt hH m_z1 dX0_add_42 ⟨rfl, e57, e58, hf⟩
set_option maxHeartbeats 4000000 in
set_option maxRecDepth 100000 in
theorem c0_add0 {l : Launch} {D : va_G} {cT : Nat → ClassId} {N b0 : Nat} {ad : Nat → Nat} (hA : oAd b0 N ad) {σ : Nat → va_E} (c : Nat) (T : Nat → Int) (z p ac x1 x2 : Nat) (f on : Int) (hN : 76 ≤ N) (hT : ∀ i : Nat, i < z → 0 ≤ T i ∧ T i ≤ 255) (hz : z ≤ 120) (hp : p ≤ 150) (hf0 : -2147483648 ≤ f ∧ f < 2147483648) (hz2 : z = 120) (e57 : σ (57) = .inr (0, [.ref (ad (58)), .int (oI (((z : Nat) : Int))), .int (oI (((p : Nat) : Int))), .int (oI (f)), .int (oI (((ac : Nat) : Int))), .int (oI (((x1 : Nat) : Int))), .int (oI (((x2 : Nat) : Int))), .int (oI (on))])) (e58 : σ (58) = oAC cT 120 T) :
    oCi l D cT N ad b0 yX0_add cX0_add 2 (some .boolean) 0 0 [.ref (ad (57)), .int (oI (((c : Nat) : Int)))] σ (fun rr uu => rr = oI (0) ∧ uu = σ) := by
  refine m_start (cc := cX0_add) (by decide) (Nat.le_of_ble_eq_true rfl) rfl ?_
  intro Pp Ee Ss Mm Bb Me Cc Ar ls hx hb hml hown hlk hrt hts hK hH hl
  have hown : Ss.vm.findClass RX0 = some Mm.cls := hown
  have hl : lv_has ls 2 [(0, .ref (ad (57))), (1, .int (oI (((c : Nat) : Int))))] := hl
  refine lv_aload_n hx hb dX0_add_0 rfl (lv_at hl 0 rfl) ?_
  refine gf_X0_size hx hb hts hown hK hH (k := 57) (by omega) e57 dX0_add_1 ?_
  refine m_if_lt 19 hx hb dX0_add_4 (by decide) (by omega) (fun h_1 => absurd h_1 (by omega)) (fun h_1 => ?_)
  refine lv_aload_n hx hb dX0_add_7 rfl (lv_at hl 0 rfl) ?_
  refine gf_X0_size hx hb hts hown hK hH (k := 57) (by omega) e57 dX0_add_8 ?_
  refine lv_aload_n hx hb dX0_add_11 rfl (lv_at hl 0 rfl) ?_
  refine gf_X0_signs hx hb hts hown hK hH (k := 57) (by omega) e57 dX0_add_12 ?_
  refine m_alen hx hb hK hH (k := 58) (by omega) e58 2 rfl 120 rfl dX0_add_15 ?_
  refine m_icmp_lt 21 hx hb dX0_add_16 (by decide) (by omega) (by omega) (fun h_2 => absurd h_2 (by omega)) (fun h_2 => ?_)
  refine m_iconst 0 hx hb dX0_add_19 rfl ?_
  exact m_iret hx hb hlk hrt hH m_z0 dX0_add_20 ⟨rfl, rfl⟩
set_option maxHeartbeats 4000000 in
set_option maxRecDepth 100000 in
theorem c0_size {l : Launch} {D : va_G} {cT : Nat → ClassId} {N b0 : Nat} {ad : Nat → Nat} (hA : oAd b0 N ad) {σ : Nat → va_E} (T : Nat → Int) (z p ac x1 x2 : Nat) (f on : Int) (hN : 76 ≤ N) (hT : ∀ i : Nat, i < z → 0 ≤ T i ∧ T i ≤ 255) (hz : z ≤ 120) (hp : p ≤ 150) (hf0 : -2147483648 ≤ f ∧ f < 2147483648) (e57 : σ (57) = .inr (0, [.ref (ad (58)), .int (oI (((z : Nat) : Int))), .int (oI (((p : Nat) : Int))), .int (oI (f)), .int (oI (((ac : Nat) : Int))), .int (oI (((x1 : Nat) : Int))), .int (oI (((x2 : Nat) : Int))), .int (oI (on))])) (e58 : σ (58) = oAC cT 120 T) :
    oCi l D cT N ad b0 yX0_size cX0_size 1 (some .int) 0 0 [.ref (ad (57))] σ (fun rr uu => rr = oI (((z : Nat) : Int)) ∧ uu = σ) := by
  refine m_start (cc := cX0_size) (by decide) (Nat.le_of_ble_eq_true rfl) rfl ?_
  intro Pp Ee Ss Mm Bb Me Cc Ar ls hx hb hml hown hlk hrt hts hK hH hl
  have hown : Ss.vm.findClass RX0 = some Mm.cls := hown
  have hl : lv_has ls 1 [(0, .ref (ad (57)))] := hl
  refine lv_aload_n hx hb dX0_size_0 rfl (lv_at hl 0 rfl) ?_
  refine gf_X0_size hx hb hts hown hK hH (k := 57) (by omega) e57 dX0_size_1 ?_
  exact m_iret hx hb hlk hrt hH (m_ni _) dX0_size_4 ⟨rfl, rfl⟩
set_option maxHeartbeats 4000000 in
set_option maxRecDepth 100000 in
theorem c0_empty {l : Launch} {D : va_G} {cT : Nat → ClassId} {N b0 : Nat} {ad : Nat → Nat} (hA : oAd b0 N ad) {σ : Nat → va_E} (T : Nat → Int) (z p ac x1 x2 : Nat) (f on : Int) (hN : 76 ≤ N) (hT : ∀ i : Nat, i < z → 0 ≤ T i ∧ T i ≤ 255) (hz : z ≤ 120) (hp : p ≤ 150) (hf0 : -2147483648 ≤ f ∧ f < 2147483648) (e57 : σ (57) = .inr (0, [.ref (ad (58)), .int (oI (((z : Nat) : Int))), .int (oI (((p : Nat) : Int))), .int (oI (f)), .int (oI (((ac : Nat) : Int))), .int (oI (((x1 : Nat) : Int))), .int (oI (((x2 : Nat) : Int))), .int (oI (on))])) (e58 : σ (58) = oAC cT 120 T) :
    oCi l D cT N ad b0 yX0_empty cX0_empty 2 (some .int) 0 0 [.ref (ad (57))] σ (fun rr uu => rr = oI (((z : Nat) : Int)) ∧ uu (57) = .inr (0, [.ref (ad (58)), .int (oI (0)), .int (oI (((p : Nat) : Int))), .int (oI (f)), .int (oI (((ac : Nat) : Int))), .int (oI (((x1 : Nat) : Int))), .int (oI (((x2 : Nat) : Int))), .int (oI (on))]) ∧ (∀ q : Nat, q ≠ 57 → uu q = σ q)) := by
  refine m_start (cc := cX0_empty) (by decide) (Nat.le_of_ble_eq_true rfl) rfl ?_
  intro Pp Ee Ss Mm Bb Me Cc Ar ls hx hb hml hown hlk hrt hts hK hH hl
  have hown : Ss.vm.findClass RX0 = some Mm.cls := hown
  have hl : lv_has ls 2 [(0, .ref (ad (57)))] := hl
  have hf : ∀ q : Nat, q ≠ 57 → σ q = σ q := fun q _ => rfl
  refine lv_aload_n hx hb dX0_empty_0 rfl (lv_at hl 0 rfl) ?_
  refine gf_X0_size hx hb hts hown hK hH (k := 57) (by omega) e57 dX0_empty_1 ?_
  refine lv_istore_n (lv' := [(1, .int (oI (((z : Nat) : Int)))), (0, .ref (ad (57)))]) hx hb dX0_empty_4 rfl hl (by decide) rfl (fun ls hl => ?_)
  refine lv_aload_n hx hb dX0_empty_5 rfl (lv_at hl 1 rfl) ?_
  refine m_iconst 0 hx hb dX0_empty_6 rfl ?_
  refine pf_X0_size hx hb hts hown hK hH hA (k := 57) (by omega) e57 dX0_empty_7 (fun H locs σ_1 e57 hq_2 hH => ?_)
  have e58 : σ_1 (58) = oAC cT 120 T := (hq_2 _ (by decide)).trans e58
  have hf : ∀ q : Nat, q ≠ 57 → σ_1 q = σ q := fun q n0 => (hq_2 q n0).trans (hf q n0)
  refine lv_iload_n hx hb dX0_empty_10 rfl (lv_at hl 0 rfl) ?_
  exact m_iret hx hb hlk hrt hH (m_ni _) dX0_empty_11 ⟨rfl, e57, hf⟩
set_option maxHeartbeats 4000000 in
set_option maxRecDepth 100000 in
theorem c0_sign {l : Launch} {D : va_G} {cT : Nat → ClassId} {N b0 : Nat} {ad : Nat → Nat} (hA : oAd b0 N ad) {σ : Nat → va_E} (x : Int) (T : Nat → Int) (z p ac x1 x2 : Nat) (f on : Int) (hN : 76 ≤ N) (hT : ∀ i : Nat, i < z → 0 ≤ T i ∧ T i ≤ 255) (hz : z ≤ 120) (hp : p ≤ 1000) (hf0 : -2147483648 ≤ f ∧ f < 2147483648) (hbx : -2147483648 ≤ x ∧ x < 2147483648) (e57 : σ (57) = .inr (0, [.ref (ad (58)), .int (oI (((z : Nat) : Int))), .int (oI (((p : Nat) : Int))), .int (oI (f)), .int (oI (((ac : Nat) : Int))), .int (oI (((x1 : Nat) : Int))), .int (oI (((x2 : Nat) : Int))), .int (oI (on))])) (e58 : σ (58) = oAC cT 120 T) :
    oCi l D cT N ad b0 yX0_sign cX0_sign 2 (some .char) 0 0 [.ref (ad (57)), .int (oI (x))] σ (fun rr uu => rr = oI ((oSg T z x)) ∧ uu = σ) := by
  refine m_start (cc := cX0_sign) (by decide) (Nat.le_of_ble_eq_true rfl) rfl ?_
  intro Pp Ee Ss Mm Bb Me Cc Ar ls hx hb hml hown hlk hrt hts hK hH hl
  have hown : Ss.vm.findClass RX0 = some Mm.cls := hown
  have hl : lv_has ls 2 [(0, .ref (ad (57))), (1, .int (oI (x)))] := hl
  refine lv_iload_n hx hb dX0_sign_0 rfl (lv_at hl 1 rfl) ?_
  refine m_if_lt 30 hx hb dX0_sign_1 (by decide) (by omega) (fun h_1 => ?_) (fun h_1 => ?_)
  · refine m_iconst 0 hx hb dX0_sign_30 rfl ?_
    exact m_iret hx hb hlk hrt hH (m_nch (by omega)) dX0_sign_31 ⟨congrArg oI (by rw [oSg_out (by omega)]), rfl⟩
  · refine lv_iload_n hx hb dX0_sign_4 rfl (lv_at hl 1 rfl) ?_
    refine lv_aload_n hx hb dX0_sign_5 rfl (lv_at hl 0 rfl) ?_
    refine gf_X0_size hx hb hts hown hK hH (k := 57) (by omega) e57 dX0_sign_6 ?_
    refine m_icmp_ge 30 hx hb dX0_sign_9 (by decide) (by omega) (by omega) (fun h_2 => ?_) (fun h_2 => ?_)
    · refine m_iconst 0 hx hb dX0_sign_30 rfl ?_
      exact m_iret hx hb hlk hrt hH (m_nch (by omega)) dX0_sign_31 ⟨congrArg oI (by rw [oSg_out (by omega)]), rfl⟩
    · refine lv_iload_n hx hb dX0_sign_12 rfl (lv_at hl 1 rfl) ?_
      refine lv_aload_n hx hb dX0_sign_13 rfl (lv_at hl 0 rfl) ?_
      refine gf_X0_signs hx hb hts hown hK hH (k := 57) (by omega) e57 dX0_sign_14 ?_
      refine m_alen hx hb hK hH (k := 58) (by omega) e58 2 rfl 120 rfl dX0_sign_17 ?_
      refine m_icmp_ge 30 hx hb dX0_sign_18 (by decide) (by omega) (by omega) (fun h_3 => absurd h_3 (by omega)) (fun h_3 => ?_)
      refine lv_aload_n hx hb dX0_sign_21 rfl (lv_at hl 0 rfl) ?_
      refine gf_X0_signs hx hb hts hown hK hH (k := 57) (by omega) e57 dX0_sign_22 ?_
      refine lv_iload_n hx hb dX0_sign_25 rfl (lv_at hl 1 rfl) ?_
      refine m_cald hx hb hK hH (k := 58) (by omega) e58 ((x).toNat) (by omega) (by omega) (by decide) dX0_sign_26 ?_
      refine lv_goto (tgt := 31) hx hb dX0_sign_27 (by decide) ?_
      exact m_iret hx hb hlk hrt hH (m_nch (by have := hT x.toNat (by omega); omega)) dX0_sign_31 ⟨congrArg oI (by rw [oSg_in (by omega)]), rfl⟩
set_option maxHeartbeats 4000000 in
set_option maxRecDepth 100000 in
theorem c0_open {l : Launch} {D : va_G} {cT : Nat → ClassId} {N b0 : Nat} {ad : Nat → Nat} (hA : oAd b0 N ad) {σ : Nat → va_E} (T : Nat → Int) (z p ac x1 x2 : Nat) (f on : Int) (hN : 76 ≤ N) (hT : ∀ i : Nat, i < z → 0 ≤ T i ∧ T i ≤ 255) (hz : z ≤ 120) (hp : p ≤ 150) (hf0 : -2147483648 ≤ f ∧ f < 2147483648) (e57 : σ (57) = .inr (0, [.ref (ad (58)), .int (oI (((z : Nat) : Int))), .int (oI (((p : Nat) : Int))), .int (oI (f)), .int (oI (((ac : Nat) : Int))), .int (oI (((x1 : Nat) : Int))), .int (oI (((x2 : Nat) : Int))), .int (oI (on))])) (e58 : σ (58) = oAC cT 120 T) :
    oCv l D cT N ad b0 yX0_open cX0_open 1 none 1 21 [.ref (ad (57))] σ (fun uu => ∃ f0 : Int, ((f0 = -1 ∧ oSg T z 0 = 75) ∨ (f0 = 0 ∧ oSg T z 0 ≠ 75)) ∧ uu (57) = .inr (0, [.ref (ad (58)), .int (oI (((z : Nat) : Int))), .int (oI (1)), .int (oI (f0)), .int (oI (((ac : Nat) : Int))), .int (oI (((x1 : Nat) : Int))), .int (oI (((x2 : Nat) : Int))), .int (oI (on))]) ∧ (∀ q : Nat, q ≠ 57 → uu q = σ q)) := by
  refine m_start (cc := cX0_open) (by decide) (Nat.le_of_ble_eq_true rfl) rfl ?_
  intro Pp Ee Ss Mm Bb Me Cc Ar ls hx hb hml hown hlk hrt hts hK hH hl
  have hown : Ss.vm.findClass RX0 = some Mm.cls := hown
  have hsb := oSg_b hT 0
  have hl : lv_has ls 1 [(0, .ref (ad (57)))] := hl
  have hf : ∀ q : Nat, q ≠ 57 → σ q = σ q := fun q _ => rfl
  refine lv_aload_n hx hb dX0_open_0 rfl (lv_at hl 0 rfl) ?_
  refine m_iconst 1 hx hb dX0_open_1 rfl ?_
  refine pf_X0_at hx hb hts hown hK hH hA (k := 57) (by omega) e57 dX0_open_2 (fun H locs σ_1 e57 hq_2 hH => ?_)
  have e58 : σ_1 (58) = oAC cT 120 T := (hq_2 _ (by decide)).trans e58
  have hf : ∀ q : Nat, q ≠ 57 → σ_1 q = σ q := fun q n0 => (hq_2 q n0).trans (hf q n0)
  refine lv_aload_n hx hb dX0_open_5 rfl (lv_at hl 0 rfl) ?_
  refine lv_aload_n hx hb dX0_open_6 rfl (lv_at hl 0 rfl) ?_
  refine m_iconst 0 hx hb dX0_open_7 rfl ?_
  refine m_pVi hx hb hml hown hts hK hH hl (rest := [.ref (ad (57))]) cw_X0_50 (c0_sign hA 0 T z 1 ac x1 x2 f on (by first | assumption | omega) (by first | assumption | omega) (by first | assumption | omega) (by first | assumption | omega) (by first | assumption | omega) (by first | assumption | omega) e57 e58) ⟨Nat.le_of_ble_eq_true rfl, Nat.le_of_ble_eq_true rfl⟩ ⟨Nat.le_of_ble_eq_true rfl, Nat.le_of_ble_eq_true rfl⟩ rfl (k := 57) (by omega) e57 rfl rfl (Nat.le_of_ble_eq_true rfl) dX0_open_8 (fun H locs hH => ?_)
  refine m_bipush 75 hx hb dX0_open_11 (by decide) ?_
  refine m_icmp_ne 20 hx hb dX0_open_13 (by decide) (by omega) (by omega) (fun hk => ?_) (fun hk => ?_)
  · refine m_iconst 0 hx hb dX0_open_20 rfl ?_
    refine pf_X0_fault hx hb hts hown hK hH hA (k := 57) (by omega) e57 dX0_open_21 (fun H locs σ_4 e57 hq_5 hH => ?_)
    have e58 : σ_4 (58) = oAC cT 120 T := (hq_5 _ (by decide)).trans e58
    have hf : ∀ q : Nat, q ≠ 57 → σ_4 q = σ q := fun q n0 => (hq_5 q n0).trans (hf q n0)
    exact m_vret hx hb hlk hrt hH dX0_open_24 ⟨0, (Or.inr ⟨rfl, hk⟩), e57, hf⟩
  · refine m_iconst (-1) hx hb dX0_open_16 rfl ?_
    refine lv_goto (tgt := 21) hx hb dX0_open_17 (by decide) ?_
    refine pf_X0_fault hx hb hts hown hK hH hA (k := 57) (by omega) e57 dX0_open_21 (fun H locs σ_6 e57 hq_7 hH => ?_)
    have e58 : σ_6 (58) = oAC cT 120 T := (hq_7 _ (by decide)).trans e58
    have hf : ∀ q : Nat, q ≠ 57 → σ_6 q = σ q := fun q n0 => (hq_7 q n0).trans (hf q n0)
    exact m_vret hx hb hlk hrt hH dX0_open_24 ⟨-1, (Or.inl ⟨rfl, hk⟩), e57, hf⟩
set_option maxHeartbeats 4000000 in
set_option maxRecDepth 100000 in
theorem c0_hold {l : Launch} {D : va_G} {cT : Nat → ClassId} {N b0 : Nat} {ad : Nat → Nat} (hA : oAd b0 N ad) {σ : Nat → va_E} (b1 b2 b3 : Nat) (T : Nat → Int) (z p ac x1 x2 : Nat) (f on : Int) (hN : 76 ≤ N) (hT : ∀ i : Nat, i < z → 0 ≤ T i ∧ T i ≤ 255) (hz : z ≤ 120) (hp : p ≤ 150) (hf0 : -2147483648 ≤ f ∧ f < 2147483648) (e57 : σ (57) = .inr (0, [.ref (ad (58)), .int (oI (((z : Nat) : Int))), .int (oI (((p : Nat) : Int))), .int (oI (f)), .int (oI (((ac : Nat) : Int))), .int (oI (((x1 : Nat) : Int))), .int (oI (((x2 : Nat) : Int))), .int (oI (on))])) (e58 : σ (58) = oAC cT 120 T) :
    oCv l D cT N ad b0 yX0_hold cX0_hold 4 none 0 0 [.ref (ad (57)), .int (oI (((b1 : Nat) : Int))), .int (oI (((b2 : Nat) : Int))), .int (oI (((b3 : Nat) : Int)))] σ (fun uu => uu (57) = .inr (0, [.ref (ad (58)), .int (oI (((z : Nat) : Int))), .int (oI (((p : Nat) : Int))), .int (oI (f)), .int (oI (((b1 : Nat) : Int))), .int (oI (((b2 : Nat) : Int))), .int (oI (((b3 : Nat) : Int))), .int (oI (on))]) ∧ (∀ q : Nat, q ≠ 57 → uu q = σ q)) := by
  refine m_start (cc := cX0_hold) (by decide) (Nat.le_of_ble_eq_true rfl) rfl ?_
  intro Pp Ee Ss Mm Bb Me Cc Ar ls hx hb hml hown hlk hrt hts hK hH hl
  have hown : Ss.vm.findClass RX0 = some Mm.cls := hown
  have hl : lv_has ls 4 [(0, .ref (ad (57))), (1, .int (oI (((b1 : Nat) : Int)))), (2, .int (oI (((b2 : Nat) : Int)))), (3, .int (oI (((b3 : Nat) : Int))))] := hl
  have hf : ∀ q : Nat, q ≠ 57 → σ q = σ q := fun q _ => rfl
  refine lv_aload_n hx hb dX0_hold_0 rfl (lv_at hl 0 rfl) ?_
  refine lv_iload_n hx hb dX0_hold_1 rfl (lv_at hl 1 rfl) ?_
  refine pf_X0_action hx hb hts hown hK hH hA (k := 57) (by omega) e57 dX0_hold_2 (fun H locs σ_1 e57 hq_2 hH => ?_)
  have e58 : σ_1 (58) = oAC cT 120 T := (hq_2 _ (by decide)).trans e58
  have hf : ∀ q : Nat, q ≠ 57 → σ_1 q = σ q := fun q n0 => (hq_2 q n0).trans (hf q n0)
  refine lv_aload_n hx hb dX0_hold_5 rfl (lv_at hl 0 rfl) ?_
  refine lv_iload_n hx hb dX0_hold_6 rfl (lv_at hl 2 rfl) ?_
  refine pf_X0_first hx hb hts hown hK hH hA (k := 57) (by omega) e57 dX0_hold_7 (fun H locs σ_3 e57 hq_4 hH => ?_)
  have e58 : σ_3 (58) = oAC cT 120 T := (hq_4 _ (by decide)).trans e58
  have hf : ∀ q : Nat, q ≠ 57 → σ_3 q = σ q := fun q n0 => (hq_4 q n0).trans (hf q n0)
  refine lv_aload_n hx hb dX0_hold_10 rfl (lv_at hl 0 rfl) ?_
  refine lv_iload_n hx hb dX0_hold_11 rfl (lv_at hl 3 rfl) ?_
  refine pf_X0_second hx hb hts hown hK hH hA (k := 57) (by omega) e57 dX0_hold_12 (fun H locs σ_5 e57 hq_6 hH => ?_)
  have e58 : σ_5 (58) = oAC cT 120 T := (hq_6 _ (by decide)).trans e58
  have hf : ∀ q : Nat, q ≠ 57 → σ_5 q = σ q := fun q n0 => (hq_6 q n0).trans (hf q n0)
  exact m_vret hx hb hlk hrt hH dX0_hold_15 ⟨e57, hf⟩
set_option maxHeartbeats 4000000 in
set_option maxRecDepth 100000 in
theorem c0_num1 {l : Launch} {D : va_G} {cT : Nat → ClassId} {N b0 : Nat} {ad : Nat → Nat} (hA : oAd b0 N ad) {σ : Nat → va_E} (lo hi : Nat) (T : Nat → Int) (z p ac x1 x2 : Nat) (on : Int) (hN : 76 ≤ N) (hT : ∀ i : Nat, i < z → 0 ≤ T i ∧ T i ≤ 255) (hz : z ≤ 120) (hp : p ≤ 150) (hhi : hi ≤ 150) (hlo : lo ≤ 150) (e57 : σ (57) = .inr (0, [.ref (ad (58)), .int (oI (((z : Nat) : Int))), .int (oI (((p : Nat) : Int))), .int (oI ((-1))), .int (oI (((ac : Nat) : Int))), .int (oI (((x1 : Nat) : Int))), .int (oI (((x2 : Nat) : Int))), .int (oI (on))])) (e58 : σ (58) = oAC cT 120 T) :
    oCi l D cT N ad b0 yX0_number cX0_number 9 (some .int) 1 21 [.ref (ad (57)), .int (oI (1)), .int (oI (((lo : Nat) : Int))), .int (oI (((hi : Nat) : Int)))] σ (fun rr uu => ∃ v2 : Nat, ∃ p2 : Nat, ∃ fo : Int, rr = oI (((v2 : Nat) : Int)) ∧ (oNm T z lo hi 1 p 0 = (fo, p2, v2)) ∧ (p2 ≤ p + 3) ∧ (-1 ≤ fo ∧ fo ≤ 200) ∧ (v2 ≤ hi) ∧ uu (57) = .inr (0, [.ref (ad (58)), .int (oI (((z : Nat) : Int))), .int (oI (((p2 : Nat) : Int))), .int (oI (fo)), .int (oI (((ac : Nat) : Int))), .int (oI (((x1 : Nat) : Int))), .int (oI (((x2 : Nat) : Int))), .int (oI (on))]) ∧ (∀ q : Nat, q ≠ 57 → uu q = σ q)) := by
  refine m_start (cc := cX0_number) (by decide) (Nat.le_of_ble_eq_true rfl) rfl ?_
  intro Pp Ee Ss Mm Bb Me Cc Ar ls hx hb hml hown hlk hrt hts hK hH hl
  have hown : Ss.vm.findClass RX0 = some Mm.cls := hown
  have hl : lv_has ls 9 [(0, .ref (ad (57))), (1, .int (oI (1))), (2, .int (oI (((lo : Nat) : Int)))), (3, .int (oI (((hi : Nat) : Int))))] := hl
  have hf : ∀ q : Nat, q ≠ 57 → σ q = σ q := fun q _ => rfl
  refine m_iconst 0 hx hb dX0_number_0 rfl ?_
  refine lv_istore (lv' := [(4, .int (oI (0))), (0, .ref (ad (57))), (1, .int (oI (1))), (2, .int (oI (((lo : Nat) : Int)))), (3, .int (oI (((hi : Nat) : Int))))]) hx hb dX0_number_1 hl (by decide) rfl (fun ls hl => ?_)
  refine lv_iload_n hx hb dX0_number_3 rfl (lv_at hl 2 rfl) ?_
  refine m_iconst 3 hx hb dX0_number_4 rfl ?_
  refine m_icmp_ne 13 hx hb dX0_number_5 (by decide) (by omega) (by omega) (fun h_1 => ?_) (fun h_1 => absurd h_1 (by omega))
  refine lv_iload_n hx hb dX0_number_13 rfl (lv_at hl 2 rfl) ?_
  refine m_iconst 2 hx hb dX0_number_14 rfl ?_
  refine m_icmp_ne 23 hx hb dX0_number_15 (by decide) (by omega) (by omega) (fun h_2 => ?_) (fun h_2 => absurd h_2 (by omega))
  refine m_iconst 1 hx hb dX0_number_23 rfl ?_
  refine lv_istore (lv' := [(5, .int (oI (1))), (4, .int (oI (0))), (0, .ref (ad (57))), (1, .int (oI (1))), (2, .int (oI (((lo : Nat) : Int)))), (3, .int (oI (((hi : Nat) : Int))))]) hx hb dX0_number_24 hl (by decide) rfl (fun ls hl => ?_)
  refine m_iconst 0 hx hb dX0_number_26 rfl ?_
  refine lv_istore (lv' := [(6, .int (oI (0))), (5, .int (oI (1))), (4, .int (oI (0))), (0, .ref (ad (57))), (1, .int (oI (1))), (2, .int (oI (((lo : Nat) : Int)))), (3, .int (oI (((hi : Nat) : Int))))]) hx hb dX0_number_27 hl (by decide) rfl (fun ls hl => ?_)
  have L29 : ∀ (fu : Nat) (i : Nat) (v : Nat) (u : Nat) (q : Nat) (fq : Int), (2 - i < fu) → (i ≤ 1) → ((i = 0 ∧ u = 1) ∨ (i = 1 ∧ u = 0)) → (v ≤ hi) → (q ≤ p + i) → ((fq = -1 ∧ oNm T z lo hi (1 - i) q v = oNm T z lo hi 1 p 0) ∨ (fq = ((q : Nat) : Int) ∧ oNm T z lo hi 1 p 0 = (fq, q, v))) → ∀ σL29 : Nat → va_E, σL29 (57) = .inr (0, [.ref (ad (58)), .int (oI (((z : Nat) : Int))), .int (oI (((q : Nat) : Int))), .int (oI (fq)), .int (oI (((ac : Nat) : Int))), .int (oI (((x1 : Nat) : Int))), .int (oI (((x2 : Nat) : Int))), .int (oI (on))]) → (∀ q : Nat, q ≠ 57 → σL29 q = σ q) → ∀ (H : Heap) (locs : List Loc), oH b0 D N ad Ss.heap σL29 H locs → ∀ ls : Array Slot, lv_has ls 9 [(0, .ref (ad (57))), (1, .int (oI (1))), (2, .int (oI (((lo : Nat) : Int)))), (3, .int (oI (((hi : Nat) : Int)))), (4, .int (oI (((v : Nat) : Int)))), (5, .int (oI (((u : Nat) : Int)))), (6, .int (oI (((i : Nat) : Int))))] → W Pp l Ee { frames := 1, cells := 0, slots := 0, locals := 21 } Ss Mm Ar Bb Me Cc H locs 0 0 (MQ Bb (va_Qi (fun rr uu => ∃ v2 : Nat, ∃ p2 : Nat, ∃ fo : Int, rr = oI (((v2 : Nat) : Int)) ∧ (oNm T z lo hi 1 p 0 = (fo, p2, v2)) ∧ (p2 ≤ p + 3) ∧ (-1 ≤ fo ∧ fo ≤ 200) ∧ (v2 ≤ hi) ∧ uu (57) = .inr (0, [.ref (ad (58)), .int (oI (((z : Nat) : Int))), .int (oI (((p2 : Nat) : Int))), .int (oI (fo)), .int (oI (((ac : Nat) : Int))), .int (oI (((x1 : Nat) : Int))), .int (oI (((x2 : Nat) : Int))), .int (oI (on))]) ∧ (∀ q : Nat, q ≠ 57 → uu q = σ q)) (oV D N ad) (fun q => b0 ≤ q)) Ar Ss 0 0 (fun q => b0 ≤ q)) (F0 Mm 29 ls []) := by
    intro fu29
    induction fu29 with
    | zero =>
      intro i v u q fq hm29
      exact absurd hm29 (Nat.not_lt_zero _)
    | succ fu29 ih29 =>
      intro i v u q fq hm29 hi4 hu hv hq hres σL29 e57 hL29 H locs hH ls hl
      have e58 : σL29 (58) = oAC cT 120 T := (hL29 _ (by decide)).trans e58
      have hf : ∀ q : Nat, q ≠ 57 → σL29 q = σ q := fun q n0 => (hL29 q n0).trans (hf q n0)
      refine lv_iload hx hb dX0_number_29 (lv_at hl 6 rfl) ?_
      refine lv_iload_n hx hb dX0_number_31 rfl (lv_at hl 1 rfl) ?_
      refine m_icmp_ge 139 hx hb dX0_number_32 (by decide) (by omega) (by omega) (fun h_3 => ?_) (fun h_3 => ?_)
      · refine lv_iload hx hb dX0_number_139 (lv_at hl 4 rfl) ?_
        exact m_iret hx hb hlk hrt hH (m_ni _) dX0_number_141 ⟨v, q, fq, rfl, (by rcases hres with ⟨e1, e⟩ | ⟨_, e⟩; rw [← e, show 1 - i = 0 by omega, e1]; rfl; exact e), (by omega), (by rcases hres with ⟨e1, e⟩ | ⟨e1, e⟩ <;> omega), hv, e57, hf⟩
      · refine lv_iload hx hb dX0_number_35 (lv_at hl 6 rfl) ?_
        refine m_iconst 3 hx hb dX0_number_37 rfl ?_
        refine m_icmp_ge 139 hx hb dX0_number_38 (by decide) (by omega) (by omega) (fun h_4 => absurd h_4 (by omega)) (fun h_4 => ?_)
        refine lv_aload_n hx hb dX0_number_41 rfl (lv_at hl 0 rfl) ?_
        refine gf_X0_fault hx hb hts hown hK hH (k := 57) (by omega) e57 dX0_number_42 ?_
        refine m_iconst (-1) hx hb dX0_number_45 rfl ?_
        refine m_icmp_ne 139 hx hb dX0_number_46 (by decide) (by omega) (by omega) (fun hfq => ?_) (fun hfq => ?_)
        · refine lv_iload hx hb dX0_number_139 (lv_at hl 4 rfl) ?_
          exact m_iret hx hb hlk hrt hH (m_ni _) dX0_number_141 ⟨v, q, fq, rfl, (by rcases hres with ⟨e1, e⟩ | ⟨_, e⟩; exact absurd e1 hfq; exact e), (by omega), (by rcases hres with ⟨e1, e⟩ | ⟨e1, e⟩ <;> omega), hv, e57, hf⟩
        · have hres : oNm T z lo hi (1 - i) q v = oNm T z lo hi 1 p 0 := by
              rcases hres with ⟨-, e⟩ | ⟨e, -⟩
              · exact e
              · omega
          refine lv_aload_n hx hb dX0_number_49 rfl (lv_at hl 0 rfl) ?_
          refine lv_aload_n hx hb dX0_number_50 rfl (lv_at hl 0 rfl) ?_
          refine gf_X0_at hx hb hts hown hK hH (k := 57) (by omega) e57 dX0_number_51 ?_
          refine m_pVi hx hb hml hown hts hK hH hl (rest := []) cw_X0_50 (c0_sign hA ((q : Nat) : Int) T z q ac x1 x2 fq on (by first | assumption | omega) (by first | assumption | omega) (by first | assumption | omega) (by first | assumption | omega) (by first | assumption | omega) (by first | assumption | omega) e57 e58) ⟨Nat.le_of_ble_eq_true rfl, Nat.le_of_ble_eq_true rfl⟩ ⟨Nat.le_of_ble_eq_true rfl, Nat.le_of_ble_eq_true rfl⟩ rfl (k := 57) (by omega) e57 rfl rfl (Nat.le_of_ble_eq_true rfl) dX0_number_54 (fun H locs hH => ?_)
          refine m_bipush 48 hx hb dX0_number_57 (by decide) ?_
          have hsb := oSg_b hT ((q : Nat) : Int)
          obtain ⟨d, hd⟩ : ∃ y : Int, oSg T z ((q : Nat) : Int) - 48 = y := ⟨_, rfl⟩
          refine m_isub ((oSg T z ((q : Nat) : Int)) - 48) hx hb dX0_number_59 (by omega) ?_
          refine m_topI (d) (by rw [← hd]) ?_
          refine lv_istore (lv' := [(7, .int (oI (d))), (0, .ref (ad (57))), (1, .int (oI (1))), (2, .int (oI (((lo : Nat) : Int)))), (3, .int (oI (((hi : Nat) : Int)))), (4, .int (oI (((v : Nat) : Int)))), (5, .int (oI (((u : Nat) : Int)))), (6, .int (oI (((i : Nat) : Int))))]) hx hb dX0_number_60 hl (by decide) rfl (fun ls hl => ?_)
          refine lv_iload hx hb dX0_number_62 (lv_at hl 5 rfl) ?_
          refine lv_iload hx hb dX0_number_64 (lv_at hl 0 rfl) ?_
          refine lv_iload hx hb dX0_number_66 (lv_at hl 6 rfl) ?_
          refine m_imul ((d * ((u : Nat) : Int))) hx hb dX0_number_68 (rfl) ?_
          obtain ⟨nx, hnx⟩ : ∃ y : Int, ((v : Nat) : Int) + d * ((u : Nat) : Int) = y := ⟨_, rfl⟩
          have hnb : -10000 ≤ nx ∧ nx ≤ 30000 := by rcases hu with ⟨rfl, rfl⟩ | ⟨rfl, rfl⟩ <;> omega
          refine m_iadd ((d * ((u : Nat) : Int)) + ((v : Nat) : Int)) hx hb dX0_number_69 (by omega) ?_
          refine m_topI (nx) (by rw [← hnx]; omega) ?_
          refine lv_istore (lv' := [(8, .int (oI (nx))), (7, .int (oI (d))), (0, .ref (ad (57))), (1, .int (oI (1))), (2, .int (oI (((lo : Nat) : Int)))), (3, .int (oI (((hi : Nat) : Int)))), (4, .int (oI (((v : Nat) : Int)))), (5, .int (oI (((u : Nat) : Int)))), (6, .int (oI (((i : Nat) : Int))))]) hx hb dX0_number_70 hl (by decide) rfl (fun ls hl => ?_)
          refine lv_iload hx hb dX0_number_72 (lv_at hl 1 rfl) ?_
          refine m_if_lt 101 hx hb dX0_number_74 (by decide) (by omega) (fun h_6 => ?_) (fun h_6 => ?_)
          · refine lv_aload_n hx hb dX0_number_101 rfl (lv_at hl 2 rfl) ?_
            refine lv_aload_n hx hb dX0_number_102 rfl (lv_at hl 2 rfl) ?_
            refine gf_X0_at hx hb hts hown hK hH (k := 57) (by omega) e57 dX0_number_103 ?_
            refine pf_X0_fault hx hb hts hown hK hH hA (k := 57) (by omega) e57 dX0_number_106 (fun H locs σ_7 e57 hq_8 hH => ?_)
            have e58 : σ_7 (58) = oAC cT 120 T := (hq_8 _ (by decide)).trans e58
            have hf : ∀ q : Nat, q ≠ 57 → σ_7 q = σ q := fun q n0 => (hq_8 q n0).trans (hf q n0)
            have hL29 : ∀ q : Nat, q ≠ 57 → σ_7 q = σ q := fun q n0 => (hq_8 q n0).trans (hL29 q n0)
            refine lv_goto (tgt := 126) hx hb dX0_number_109 (by decide) ?_
            refine lv_iload hx hb dX0_number_126 (lv_at hl 7 rfl) ?_
            refine m_bipush 10 hx hb dX0_number_128 (by decide) ?_
            refine m_idiv (((u / 10 : Nat) : Int)) hx hb dX0_number_130 (by omega) (by omega) (by first | rfl | omega) ?_
            refine lv_istore (lv' := [(5, .int (oI (((u / 10 : Nat) : Int)))), (8, .int (oI (nx))), (7, .int (oI (d))), (0, .ref (ad (57))), (1, .int (oI (1))), (2, .int (oI (((lo : Nat) : Int)))), (3, .int (oI (((hi : Nat) : Int)))), (4, .int (oI (((v : Nat) : Int)))), (6, .int (oI (((i : Nat) : Int))))]) hx hb dX0_number_131 hl (by decide) rfl (fun ls hl => ?_)
            refine m_iinc (((i : Nat) : Int) + 1) [(6, .int (oI (((i : Nat) : Int) + 1))), (5, .int (oI (((u / 10 : Nat) : Int)))), (8, .int (oI (nx))), (7, .int (oI (d))), (0, .ref (ad (57))), (1, .int (oI (1))), (2, .int (oI (((lo : Nat) : Int)))), (3, .int (oI (((hi : Nat) : Int)))), (4, .int (oI (((v : Nat) : Int))))] hx hb dX0_number_133 hl (j := 8) rfl (by omega) (by decide) rfl (fun ls hl => ?_)
            refine lv_goto (tgt := 29) hx hb dX0_number_136 (by decide) ?_
            exact ih29 (i + 1) v (u / 10) q ((q : Nat) : Int) (by omega) (by first | assumption | omega) (by first | assumption | omega) (by first | assumption | omega) (by first | assumption | omega) (Or.inr ⟨rfl, by rw [← hres, oNm_b (i := i) (by omega) (by rcases hu with ⟨rfl, rfl⟩ | ⟨rfl, rfl⟩ <;> first | rfl | omega) hd hnx (by omega)]⟩) _ e57 (hL29) _ _ hH ls (lv_sub hl [4, 5, 6, 7, 8, 1, 0] rfl)
          · refine lv_iload hx hb dX0_number_77 (lv_at hl 1 rfl) ?_
            refine m_bipush 9 hx hb dX0_number_79 (by decide) ?_
            refine m_icmp_gt 101 hx hb dX0_number_81 (by decide) (by omega) (by omega) (fun h_9 => ?_) (fun h_9 => ?_)
            · refine lv_aload_n hx hb dX0_number_101 rfl (lv_at hl 2 rfl) ?_
              refine lv_aload_n hx hb dX0_number_102 rfl (lv_at hl 2 rfl) ?_
              refine gf_X0_at hx hb hts hown hK hH (k := 57) (by omega) e57 dX0_number_103 ?_
              refine pf_X0_fault hx hb hts hown hK hH hA (k := 57) (by omega) e57 dX0_number_106 (fun H locs σ_10 e57 hq_11 hH => ?_)
              have e58 : σ_10 (58) = oAC cT 120 T := (hq_11 _ (by decide)).trans e58
              have hf : ∀ q : Nat, q ≠ 57 → σ_10 q = σ q := fun q n0 => (hq_11 q n0).trans (hf q n0)
              have hL29 : ∀ q : Nat, q ≠ 57 → σ_10 q = σ q := fun q n0 => (hq_11 q n0).trans (hL29 q n0)
              refine lv_goto (tgt := 126) hx hb dX0_number_109 (by decide) ?_
              refine lv_iload hx hb dX0_number_126 (lv_at hl 7 rfl) ?_
              refine m_bipush 10 hx hb dX0_number_128 (by decide) ?_
              refine m_idiv (((u / 10 : Nat) : Int)) hx hb dX0_number_130 (by omega) (by omega) (by first | rfl | omega) ?_
              refine lv_istore (lv' := [(5, .int (oI (((u / 10 : Nat) : Int)))), (8, .int (oI (nx))), (7, .int (oI (d))), (0, .ref (ad (57))), (1, .int (oI (1))), (2, .int (oI (((lo : Nat) : Int)))), (3, .int (oI (((hi : Nat) : Int)))), (4, .int (oI (((v : Nat) : Int)))), (6, .int (oI (((i : Nat) : Int))))]) hx hb dX0_number_131 hl (by decide) rfl (fun ls hl => ?_)
              refine m_iinc (((i : Nat) : Int) + 1) [(6, .int (oI (((i : Nat) : Int) + 1))), (5, .int (oI (((u / 10 : Nat) : Int)))), (8, .int (oI (nx))), (7, .int (oI (d))), (0, .ref (ad (57))), (1, .int (oI (1))), (2, .int (oI (((lo : Nat) : Int)))), (3, .int (oI (((hi : Nat) : Int)))), (4, .int (oI (((v : Nat) : Int))))] hx hb dX0_number_133 hl (j := 8) rfl (by omega) (by decide) rfl (fun ls hl => ?_)
              refine lv_goto (tgt := 29) hx hb dX0_number_136 (by decide) ?_
              exact ih29 (i + 1) v (u / 10) q ((q : Nat) : Int) (by omega) (by first | assumption | omega) (by first | assumption | omega) (by first | assumption | omega) (by first | assumption | omega) (Or.inr ⟨rfl, by rw [← hres, oNm_b (i := i) (by omega) (by rcases hu with ⟨rfl, rfl⟩ | ⟨rfl, rfl⟩ <;> first | rfl | omega) hd hnx (by omega)]⟩) _ e57 (hL29) _ _ hH ls (lv_sub hl [4, 5, 6, 7, 8, 1, 0] rfl)
            · refine lv_iload hx hb dX0_number_84 (lv_at hl 0 rfl) ?_
              refine lv_iload_n hx hb dX0_number_86 rfl (lv_at hl 5 rfl) ?_
              refine m_icmp_gt 101 hx hb dX0_number_87 (by decide) (by omega) (by omega) (fun h_12 => ?_) (fun h_12 => ?_)
              · refine lv_aload_n hx hb dX0_number_101 rfl (lv_at hl 2 rfl) ?_
                refine lv_aload_n hx hb dX0_number_102 rfl (lv_at hl 2 rfl) ?_
                refine gf_X0_at hx hb hts hown hK hH (k := 57) (by omega) e57 dX0_number_103 ?_
                refine pf_X0_fault hx hb hts hown hK hH hA (k := 57) (by omega) e57 dX0_number_106 (fun H locs σ_13 e57 hq_14 hH => ?_)
                have e58 : σ_13 (58) = oAC cT 120 T := (hq_14 _ (by decide)).trans e58
                have hf : ∀ q : Nat, q ≠ 57 → σ_13 q = σ q := fun q n0 => (hq_14 q n0).trans (hf q n0)
                have hL29 : ∀ q : Nat, q ≠ 57 → σ_13 q = σ q := fun q n0 => (hq_14 q n0).trans (hL29 q n0)
                refine lv_goto (tgt := 126) hx hb dX0_number_109 (by decide) ?_
                refine lv_iload hx hb dX0_number_126 (lv_at hl 7 rfl) ?_
                refine m_bipush 10 hx hb dX0_number_128 (by decide) ?_
                refine m_idiv (((u / 10 : Nat) : Int)) hx hb dX0_number_130 (by omega) (by omega) (by first | rfl | omega) ?_
                refine lv_istore (lv' := [(5, .int (oI (((u / 10 : Nat) : Int)))), (8, .int (oI (nx))), (7, .int (oI (d))), (0, .ref (ad (57))), (1, .int (oI (1))), (2, .int (oI (((lo : Nat) : Int)))), (3, .int (oI (((hi : Nat) : Int)))), (4, .int (oI (((v : Nat) : Int)))), (6, .int (oI (((i : Nat) : Int))))]) hx hb dX0_number_131 hl (by decide) rfl (fun ls hl => ?_)
                refine m_iinc (((i : Nat) : Int) + 1) [(6, .int (oI (((i : Nat) : Int) + 1))), (5, .int (oI (((u / 10 : Nat) : Int)))), (8, .int (oI (nx))), (7, .int (oI (d))), (0, .ref (ad (57))), (1, .int (oI (1))), (2, .int (oI (((lo : Nat) : Int)))), (3, .int (oI (((hi : Nat) : Int)))), (4, .int (oI (((v : Nat) : Int))))] hx hb dX0_number_133 hl (j := 8) rfl (by omega) (by decide) rfl (fun ls hl => ?_)
                refine lv_goto (tgt := 29) hx hb dX0_number_136 (by decide) ?_
                exact ih29 (i + 1) v (u / 10) q ((q : Nat) : Int) (by omega) (by first | assumption | omega) (by first | assumption | omega) (by first | assumption | omega) (by first | assumption | omega) (Or.inr ⟨rfl, by rw [← hres, oNm_b (i := i) (by omega) (by rcases hu with ⟨rfl, rfl⟩ | ⟨rfl, rfl⟩ <;> first | rfl | omega) hd hnx (by omega)]⟩) _ e57 (hL29) _ _ hH ls (lv_sub hl [4, 5, 6, 7, 8, 1, 0] rfl)
              · refine lv_iload hx hb dX0_number_90 (lv_at hl 0 rfl) ?_
                refine lv_iload hx hb dX0_number_92 (lv_at hl 7 rfl) ?_
                refine m_iadd (nx + ((u : Nat) : Int)) hx hb dX0_number_94 (by omega) ?_
                refine m_iconst 1 hx hb dX0_number_95 rfl ?_
                refine m_isub (nx + ((u : Nat) : Int) - 1) hx hb dX0_number_96 (by omega) ?_
                refine lv_iload_n hx hb dX0_number_97 rfl (lv_at hl 4 rfl) ?_
                refine m_icmp_ge 112 hx hb dX0_number_98 (by decide) (by omega) (by omega) (fun h_15 => ?_) (fun h_15 => ?_)
                · have hnn : 0 ≤ nx := by rcases hu with ⟨rfl, rfl⟩ | ⟨rfl, rfl⟩ <;> omega
                  refine lv_iload hx hb dX0_number_112 (lv_at hl 0 rfl) ?_
                  refine m_topI (((nx.toNat : Nat) : Int)) ((Int.toNat_of_nonneg (by omega)).symm) ?_
                  refine lv_istore (lv' := [(4, .int (oI (((nx.toNat : Nat) : Int)))), (8, .int (oI (nx))), (7, .int (oI (d))), (0, .ref (ad (57))), (1, .int (oI (1))), (2, .int (oI (((lo : Nat) : Int)))), (3, .int (oI (((hi : Nat) : Int)))), (5, .int (oI (((u : Nat) : Int)))), (6, .int (oI (((i : Nat) : Int))))]) hx hb dX0_number_114 hl (by decide) rfl (fun ls hl => ?_)
                  refine lv_aload_n hx hb dX0_number_116 rfl (lv_at hl 3 rfl) ?_
                  refine lv_dup hx hb dX0_number_117 rfl ?_
                  refine gf_X0_at hx hb hts hown hK hH (k := 57) (by omega) e57 dX0_number_118 ?_
                  refine m_iconst 1 hx hb dX0_number_121 rfl ?_
                  refine m_iadd (((q : Nat) : Int) + 1) hx hb dX0_number_122 (by omega) ?_
                  refine pf_X0_at hx hb hts hown hK hH hA (k := 57) (by omega) e57 dX0_number_123 (fun H locs σ_16 e57 hq_17 hH => ?_)
                  have e58 : σ_16 (58) = oAC cT 120 T := (hq_17 _ (by decide)).trans e58
                  have hf : ∀ q : Nat, q ≠ 57 → σ_16 q = σ q := fun q n0 => (hq_17 q n0).trans (hf q n0)
                  have hL29 : ∀ q : Nat, q ≠ 57 → σ_16 q = σ q := fun q n0 => (hq_17 q n0).trans (hL29 q n0)
                  refine lv_iload hx hb dX0_number_126 (lv_at hl 7 rfl) ?_
                  refine m_bipush 10 hx hb dX0_number_128 (by decide) ?_
                  refine m_idiv (((u / 10 : Nat) : Int)) hx hb dX0_number_130 (by omega) (by omega) (by first | rfl | omega) ?_
                  refine lv_istore (lv' := [(5, .int (oI (((u / 10 : Nat) : Int)))), (4, .int (oI (((nx.toNat : Nat) : Int)))), (8, .int (oI (nx))), (7, .int (oI (d))), (0, .ref (ad (57))), (1, .int (oI (1))), (2, .int (oI (((lo : Nat) : Int)))), (3, .int (oI (((hi : Nat) : Int)))), (6, .int (oI (((i : Nat) : Int))))]) hx hb dX0_number_131 hl (by decide) rfl (fun ls hl => ?_)
                  refine m_iinc (((i : Nat) : Int) + 1) [(6, .int (oI (((i : Nat) : Int) + 1))), (5, .int (oI (((u / 10 : Nat) : Int)))), (4, .int (oI (((nx.toNat : Nat) : Int)))), (8, .int (oI (nx))), (7, .int (oI (d))), (0, .ref (ad (57))), (1, .int (oI (1))), (2, .int (oI (((lo : Nat) : Int)))), (3, .int (oI (((hi : Nat) : Int))))] hx hb dX0_number_133 hl (j := 8) rfl (by omega) (by decide) rfl (fun ls hl => ?_)
                  refine lv_goto (tgt := 29) hx hb dX0_number_136 (by decide) ?_
                  exact ih29 (i + 1) nx.toNat (u / 10) (q + 1) fq (by omega) (by first | assumption | omega) (by first | assumption | omega) (by first | assumption | omega) (by first | assumption | omega) (Or.inl ⟨hfq, by rw [← hres, oNm_g (i := i) (by omega) (by rcases hu with ⟨rfl, rfl⟩ | ⟨rfl, rfl⟩ <;> first | rfl | omega) hd hnx (by omega) (by omega) (by omega) (by omega)]⟩) _ e57 (hL29) _ _ hH ls (lv_sub hl [5, 6, 7, 8, 2, 1, 0] rfl)
                · refine lv_aload_n hx hb dX0_number_101 rfl (lv_at hl 2 rfl) ?_
                  refine lv_aload_n hx hb dX0_number_102 rfl (lv_at hl 2 rfl) ?_
                  refine gf_X0_at hx hb hts hown hK hH (k := 57) (by omega) e57 dX0_number_103 ?_
                  refine pf_X0_fault hx hb hts hown hK hH hA (k := 57) (by omega) e57 dX0_number_106 (fun H locs σ_18 e57 hq_19 hH => ?_)
                  have e58 : σ_18 (58) = oAC cT 120 T := (hq_19 _ (by decide)).trans e58
                  have hf : ∀ q : Nat, q ≠ 57 → σ_18 q = σ q := fun q n0 => (hq_19 q n0).trans (hf q n0)
                  have hL29 : ∀ q : Nat, q ≠ 57 → σ_18 q = σ q := fun q n0 => (hq_19 q n0).trans (hL29 q n0)
                  refine lv_goto (tgt := 126) hx hb dX0_number_109 (by decide) ?_
                  refine lv_iload hx hb dX0_number_126 (lv_at hl 7 rfl) ?_
                  refine m_bipush 10 hx hb dX0_number_128 (by decide) ?_
                  refine m_idiv (((u / 10 : Nat) : Int)) hx hb dX0_number_130 (by omega) (by omega) (by first | rfl | omega) ?_
                  refine lv_istore (lv' := [(5, .int (oI (((u / 10 : Nat) : Int)))), (8, .int (oI (nx))), (7, .int (oI (d))), (0, .ref (ad (57))), (1, .int (oI (1))), (2, .int (oI (((lo : Nat) : Int)))), (3, .int (oI (((hi : Nat) : Int)))), (4, .int (oI (((v : Nat) : Int)))), (6, .int (oI (((i : Nat) : Int))))]) hx hb dX0_number_131 hl (by decide) rfl (fun ls hl => ?_)
                  refine m_iinc (((i : Nat) : Int) + 1) [(6, .int (oI (((i : Nat) : Int) + 1))), (5, .int (oI (((u / 10 : Nat) : Int)))), (8, .int (oI (nx))), (7, .int (oI (d))), (0, .ref (ad (57))), (1, .int (oI (1))), (2, .int (oI (((lo : Nat) : Int)))), (3, .int (oI (((hi : Nat) : Int)))), (4, .int (oI (((v : Nat) : Int))))] hx hb dX0_number_133 hl (j := 8) rfl (by omega) (by decide) rfl (fun ls hl => ?_)
                  refine lv_goto (tgt := 29) hx hb dX0_number_136 (by decide) ?_
                  exact ih29 (i + 1) v (u / 10) q ((q : Nat) : Int) (by omega) (by first | assumption | omega) (by first | assumption | omega) (by first | assumption | omega) (by first | assumption | omega) (Or.inr ⟨rfl, by rw [← hres, oNm_b (i := i) (by omega) (by rcases hu with ⟨rfl, rfl⟩ | ⟨rfl, rfl⟩ <;> first | rfl | omega) hd hnx (by omega)]⟩) _ e57 (hL29) _ _ hH ls (lv_sub hl [4, 5, 6, 7, 8, 1, 0] rfl)
  exact L29 _ 0 0 1 p (-1) (Nat.lt_succ_self _) (by first | assumption | omega) (by first | assumption | omega) (by first | assumption | omega) (by first | assumption | omega) (Or.inl ⟨rfl, rfl⟩) _ e57 (fun q _ => rfl) _ _ hH ls (lv_sub hl [3, 4, 5, 6, 2, 1, 0] rfl)
set_option maxHeartbeats 4000000 in
set_option maxRecDepth 100000 in
theorem c0_num2 {l : Launch} {D : va_G} {cT : Nat → ClassId} {N b0 : Nat} {ad : Nat → Nat} (hA : oAd b0 N ad) {σ : Nat → va_E} (lo hi : Nat) (T : Nat → Int) (z p ac x1 x2 : Nat) (on : Int) (hN : 76 ≤ N) (hT : ∀ i : Nat, i < z → 0 ≤ T i ∧ T i ≤ 255) (hz : z ≤ 120) (hp : p ≤ 150) (hhi : hi ≤ 150) (hlo : lo ≤ 150) (e57 : σ (57) = .inr (0, [.ref (ad (58)), .int (oI (((z : Nat) : Int))), .int (oI (((p : Nat) : Int))), .int (oI ((-1))), .int (oI (((ac : Nat) : Int))), .int (oI (((x1 : Nat) : Int))), .int (oI (((x2 : Nat) : Int))), .int (oI (on))])) (e58 : σ (58) = oAC cT 120 T) :
    oCi l D cT N ad b0 yX0_number cX0_number 9 (some .int) 1 21 [.ref (ad (57)), .int (oI (2)), .int (oI (((lo : Nat) : Int))), .int (oI (((hi : Nat) : Int)))] σ (fun rr uu => ∃ v2 : Nat, ∃ p2 : Nat, ∃ fo : Int, rr = oI (((v2 : Nat) : Int)) ∧ (oNm T z lo hi 2 p 0 = (fo, p2, v2)) ∧ (p2 ≤ p + 3) ∧ (-1 ≤ fo ∧ fo ≤ 200) ∧ (v2 ≤ hi) ∧ uu (57) = .inr (0, [.ref (ad (58)), .int (oI (((z : Nat) : Int))), .int (oI (((p2 : Nat) : Int))), .int (oI (fo)), .int (oI (((ac : Nat) : Int))), .int (oI (((x1 : Nat) : Int))), .int (oI (((x2 : Nat) : Int))), .int (oI (on))]) ∧ (∀ q : Nat, q ≠ 57 → uu q = σ q)) := by
  refine m_start (cc := cX0_number) (by decide) (Nat.le_of_ble_eq_true rfl) rfl ?_
  intro Pp Ee Ss Mm Bb Me Cc Ar ls hx hb hml hown hlk hrt hts hK hH hl
  have hown : Ss.vm.findClass RX0 = some Mm.cls := hown
  have hl : lv_has ls 9 [(0, .ref (ad (57))), (1, .int (oI (2))), (2, .int (oI (((lo : Nat) : Int)))), (3, .int (oI (((hi : Nat) : Int))))] := hl
  have hf : ∀ q : Nat, q ≠ 57 → σ q = σ q := fun q _ => rfl
  refine m_iconst 0 hx hb dX0_number_0 rfl ?_
  refine lv_istore (lv' := [(4, .int (oI (0))), (0, .ref (ad (57))), (1, .int (oI (2))), (2, .int (oI (((lo : Nat) : Int)))), (3, .int (oI (((hi : Nat) : Int))))]) hx hb dX0_number_1 hl (by decide) rfl (fun ls hl => ?_)
  refine lv_iload_n hx hb dX0_number_3 rfl (lv_at hl 2 rfl) ?_
  refine m_iconst 3 hx hb dX0_number_4 rfl ?_
  refine m_icmp_ne 13 hx hb dX0_number_5 (by decide) (by omega) (by omega) (fun h_1 => ?_) (fun h_1 => absurd h_1 (by omega))
  refine lv_iload_n hx hb dX0_number_13 rfl (lv_at hl 2 rfl) ?_
  refine m_iconst 2 hx hb dX0_number_14 rfl ?_
  refine m_icmp_ne 23 hx hb dX0_number_15 (by decide) (by omega) (by omega) (fun h_2 => absurd h_2 (by omega)) (fun h_2 => ?_)
  refine m_bipush 10 hx hb dX0_number_18 (by decide) ?_
  refine lv_goto (tgt := 24) hx hb dX0_number_20 (by decide) ?_
  refine lv_istore (lv' := [(5, .int (oI (10))), (4, .int (oI (0))), (0, .ref (ad (57))), (1, .int (oI (2))), (2, .int (oI (((lo : Nat) : Int)))), (3, .int (oI (((hi : Nat) : Int))))]) hx hb dX0_number_24 hl (by decide) rfl (fun ls hl => ?_)
  refine m_iconst 0 hx hb dX0_number_26 rfl ?_
  refine lv_istore (lv' := [(6, .int (oI (0))), (5, .int (oI (10))), (4, .int (oI (0))), (0, .ref (ad (57))), (1, .int (oI (2))), (2, .int (oI (((lo : Nat) : Int)))), (3, .int (oI (((hi : Nat) : Int))))]) hx hb dX0_number_27 hl (by decide) rfl (fun ls hl => ?_)
  have L29 : ∀ (fu : Nat) (i : Nat) (v : Nat) (u : Nat) (q : Nat) (fq : Int), (3 - i < fu) → (i ≤ 2) → ((i = 0 ∧ u = 10) ∨ (i = 1 ∧ u = 1) ∨ (i = 2 ∧ u = 0)) → (v ≤ hi) → (q ≤ p + i) → ((fq = -1 ∧ oNm T z lo hi (2 - i) q v = oNm T z lo hi 2 p 0) ∨ (fq = ((q : Nat) : Int) ∧ oNm T z lo hi 2 p 0 = (fq, q, v))) → ∀ σL29 : Nat → va_E, σL29 (57) = .inr (0, [.ref (ad (58)), .int (oI (((z : Nat) : Int))), .int (oI (((q : Nat) : Int))), .int (oI (fq)), .int (oI (((ac : Nat) : Int))), .int (oI (((x1 : Nat) : Int))), .int (oI (((x2 : Nat) : Int))), .int (oI (on))]) → (∀ q : Nat, q ≠ 57 → σL29 q = σ q) → ∀ (H : Heap) (locs : List Loc), oH b0 D N ad Ss.heap σL29 H locs → ∀ ls : Array Slot, lv_has ls 9 [(0, .ref (ad (57))), (1, .int (oI (2))), (2, .int (oI (((lo : Nat) : Int)))), (3, .int (oI (((hi : Nat) : Int)))), (4, .int (oI (((v : Nat) : Int)))), (5, .int (oI (((u : Nat) : Int)))), (6, .int (oI (((i : Nat) : Int))))] → W Pp l Ee { frames := 1, cells := 0, slots := 0, locals := 21 } Ss Mm Ar Bb Me Cc H locs 0 0 (MQ Bb (va_Qi (fun rr uu => ∃ v2 : Nat, ∃ p2 : Nat, ∃ fo : Int, rr = oI (((v2 : Nat) : Int)) ∧ (oNm T z lo hi 2 p 0 = (fo, p2, v2)) ∧ (p2 ≤ p + 3) ∧ (-1 ≤ fo ∧ fo ≤ 200) ∧ (v2 ≤ hi) ∧ uu (57) = .inr (0, [.ref (ad (58)), .int (oI (((z : Nat) : Int))), .int (oI (((p2 : Nat) : Int))), .int (oI (fo)), .int (oI (((ac : Nat) : Int))), .int (oI (((x1 : Nat) : Int))), .int (oI (((x2 : Nat) : Int))), .int (oI (on))]) ∧ (∀ q : Nat, q ≠ 57 → uu q = σ q)) (oV D N ad) (fun q => b0 ≤ q)) Ar Ss 0 0 (fun q => b0 ≤ q)) (F0 Mm 29 ls []) := by
    intro fu29
    induction fu29 with
    | zero =>
      intro i v u q fq hm29
      exact absurd hm29 (Nat.not_lt_zero _)
    | succ fu29 ih29 =>
      intro i v u q fq hm29 hi4 hu hv hq hres σL29 e57 hL29 H locs hH ls hl
      have e58 : σL29 (58) = oAC cT 120 T := (hL29 _ (by decide)).trans e58
      have hf : ∀ q : Nat, q ≠ 57 → σL29 q = σ q := fun q n0 => (hL29 q n0).trans (hf q n0)
      refine lv_iload hx hb dX0_number_29 (lv_at hl 6 rfl) ?_
      refine lv_iload_n hx hb dX0_number_31 rfl (lv_at hl 1 rfl) ?_
      refine m_icmp_ge 139 hx hb dX0_number_32 (by decide) (by omega) (by omega) (fun h_3 => ?_) (fun h_3 => ?_)
      · refine lv_iload hx hb dX0_number_139 (lv_at hl 4 rfl) ?_
        exact m_iret hx hb hlk hrt hH (m_ni _) dX0_number_141 ⟨v, q, fq, rfl, (by rcases hres with ⟨e1, e⟩ | ⟨_, e⟩; rw [← e, show 2 - i = 0 by omega, e1]; rfl; exact e), (by omega), (by rcases hres with ⟨e1, e⟩ | ⟨e1, e⟩ <;> omega), hv, e57, hf⟩
      · refine lv_iload hx hb dX0_number_35 (lv_at hl 6 rfl) ?_
        refine m_iconst 3 hx hb dX0_number_37 rfl ?_
        refine m_icmp_ge 139 hx hb dX0_number_38 (by decide) (by omega) (by omega) (fun h_4 => absurd h_4 (by omega)) (fun h_4 => ?_)
        refine lv_aload_n hx hb dX0_number_41 rfl (lv_at hl 0 rfl) ?_
        refine gf_X0_fault hx hb hts hown hK hH (k := 57) (by omega) e57 dX0_number_42 ?_
        refine m_iconst (-1) hx hb dX0_number_45 rfl ?_
        refine m_icmp_ne 139 hx hb dX0_number_46 (by decide) (by omega) (by omega) (fun hfq => ?_) (fun hfq => ?_)
        · refine lv_iload hx hb dX0_number_139 (lv_at hl 4 rfl) ?_
          exact m_iret hx hb hlk hrt hH (m_ni _) dX0_number_141 ⟨v, q, fq, rfl, (by rcases hres with ⟨e1, e⟩ | ⟨_, e⟩; exact absurd e1 hfq; exact e), (by omega), (by rcases hres with ⟨e1, e⟩ | ⟨e1, e⟩ <;> omega), hv, e57, hf⟩
        · have hres : oNm T z lo hi (2 - i) q v = oNm T z lo hi 2 p 0 := by
              rcases hres with ⟨-, e⟩ | ⟨e, -⟩
              · exact e
              · omega
          refine lv_aload_n hx hb dX0_number_49 rfl (lv_at hl 0 rfl) ?_
          refine lv_aload_n hx hb dX0_number_50 rfl (lv_at hl 0 rfl) ?_
          refine gf_X0_at hx hb hts hown hK hH (k := 57) (by omega) e57 dX0_number_51 ?_
          refine m_pVi hx hb hml hown hts hK hH hl (rest := []) cw_X0_50 (c0_sign hA ((q : Nat) : Int) T z q ac x1 x2 fq on (by first | assumption | omega) (by first | assumption | omega) (by first | assumption | omega) (by first | assumption | omega) (by first | assumption | omega) (by first | assumption | omega) e57 e58) ⟨Nat.le_of_ble_eq_true rfl, Nat.le_of_ble_eq_true rfl⟩ ⟨Nat.le_of_ble_eq_true rfl, Nat.le_of_ble_eq_true rfl⟩ rfl (k := 57) (by omega) e57 rfl rfl (Nat.le_of_ble_eq_true rfl) dX0_number_54 (fun H locs hH => ?_)
          refine m_bipush 48 hx hb dX0_number_57 (by decide) ?_
          have hsb := oSg_b hT ((q : Nat) : Int)
          obtain ⟨d, hd⟩ : ∃ y : Int, oSg T z ((q : Nat) : Int) - 48 = y := ⟨_, rfl⟩
          refine m_isub ((oSg T z ((q : Nat) : Int)) - 48) hx hb dX0_number_59 (by omega) ?_
          refine m_topI (d) (by rw [← hd]) ?_
          refine lv_istore (lv' := [(7, .int (oI (d))), (0, .ref (ad (57))), (1, .int (oI (2))), (2, .int (oI (((lo : Nat) : Int)))), (3, .int (oI (((hi : Nat) : Int)))), (4, .int (oI (((v : Nat) : Int)))), (5, .int (oI (((u : Nat) : Int)))), (6, .int (oI (((i : Nat) : Int))))]) hx hb dX0_number_60 hl (by decide) rfl (fun ls hl => ?_)
          refine lv_iload hx hb dX0_number_62 (lv_at hl 5 rfl) ?_
          refine lv_iload hx hb dX0_number_64 (lv_at hl 0 rfl) ?_
          refine lv_iload hx hb dX0_number_66 (lv_at hl 6 rfl) ?_
          refine m_imul ((d * ((u : Nat) : Int))) hx hb dX0_number_68 (rfl) ?_
          obtain ⟨nx, hnx⟩ : ∃ y : Int, ((v : Nat) : Int) + d * ((u : Nat) : Int) = y := ⟨_, rfl⟩
          have hnb : -10000 ≤ nx ∧ nx ≤ 30000 := by rcases hu with ⟨rfl, rfl⟩ | ⟨rfl, rfl⟩ | ⟨rfl, rfl⟩ <;> omega
          refine m_iadd ((d * ((u : Nat) : Int)) + ((v : Nat) : Int)) hx hb dX0_number_69 (by omega) ?_
          refine m_topI (nx) (by rw [← hnx]; omega) ?_
          refine lv_istore (lv' := [(8, .int (oI (nx))), (7, .int (oI (d))), (0, .ref (ad (57))), (1, .int (oI (2))), (2, .int (oI (((lo : Nat) : Int)))), (3, .int (oI (((hi : Nat) : Int)))), (4, .int (oI (((v : Nat) : Int)))), (5, .int (oI (((u : Nat) : Int)))), (6, .int (oI (((i : Nat) : Int))))]) hx hb dX0_number_70 hl (by decide) rfl (fun ls hl => ?_)
          refine lv_iload hx hb dX0_number_72 (lv_at hl 1 rfl) ?_
          refine m_if_lt 101 hx hb dX0_number_74 (by decide) (by omega) (fun h_6 => ?_) (fun h_6 => ?_)
          · refine lv_aload_n hx hb dX0_number_101 rfl (lv_at hl 2 rfl) ?_
            refine lv_aload_n hx hb dX0_number_102 rfl (lv_at hl 2 rfl) ?_
            refine gf_X0_at hx hb hts hown hK hH (k := 57) (by omega) e57 dX0_number_103 ?_
            refine pf_X0_fault hx hb hts hown hK hH hA (k := 57) (by omega) e57 dX0_number_106 (fun H locs σ_7 e57 hq_8 hH => ?_)
            have e58 : σ_7 (58) = oAC cT 120 T := (hq_8 _ (by decide)).trans e58
            have hf : ∀ q : Nat, q ≠ 57 → σ_7 q = σ q := fun q n0 => (hq_8 q n0).trans (hf q n0)
            have hL29 : ∀ q : Nat, q ≠ 57 → σ_7 q = σ q := fun q n0 => (hq_8 q n0).trans (hL29 q n0)
            refine lv_goto (tgt := 126) hx hb dX0_number_109 (by decide) ?_
            refine lv_iload hx hb dX0_number_126 (lv_at hl 7 rfl) ?_
            refine m_bipush 10 hx hb dX0_number_128 (by decide) ?_
            refine m_idiv (((u / 10 : Nat) : Int)) hx hb dX0_number_130 (by omega) (by omega) (by first | rfl | omega) ?_
            refine lv_istore (lv' := [(5, .int (oI (((u / 10 : Nat) : Int)))), (8, .int (oI (nx))), (7, .int (oI (d))), (0, .ref (ad (57))), (1, .int (oI (2))), (2, .int (oI (((lo : Nat) : Int)))), (3, .int (oI (((hi : Nat) : Int)))), (4, .int (oI (((v : Nat) : Int)))), (6, .int (oI (((i : Nat) : Int))))]) hx hb dX0_number_131 hl (by decide) rfl (fun ls hl => ?_)
            refine m_iinc (((i : Nat) : Int) + 1) [(6, .int (oI (((i : Nat) : Int) + 1))), (5, .int (oI (((u / 10 : Nat) : Int)))), (8, .int (oI (nx))), (7, .int (oI (d))), (0, .ref (ad (57))), (1, .int (oI (2))), (2, .int (oI (((lo : Nat) : Int)))), (3, .int (oI (((hi : Nat) : Int)))), (4, .int (oI (((v : Nat) : Int))))] hx hb dX0_number_133 hl (j := 8) rfl (by omega) (by decide) rfl (fun ls hl => ?_)
            refine lv_goto (tgt := 29) hx hb dX0_number_136 (by decide) ?_
            exact ih29 (i + 1) v (u / 10) q ((q : Nat) : Int) (by omega) (by first | assumption | omega) (by first | assumption | omega) (by first | assumption | omega) (by first | assumption | omega) (Or.inr ⟨rfl, by rw [← hres, oNm_b (i := i) (by omega) (by rcases hu with ⟨rfl, rfl⟩ | ⟨rfl, rfl⟩ | ⟨rfl, rfl⟩ <;> first | rfl | omega) hd hnx (by omega)]⟩) _ e57 (hL29) _ _ hH ls (lv_sub hl [4, 5, 6, 7, 8, 1, 0] rfl)
          · refine lv_iload hx hb dX0_number_77 (lv_at hl 1 rfl) ?_
            refine m_bipush 9 hx hb dX0_number_79 (by decide) ?_
            refine m_icmp_gt 101 hx hb dX0_number_81 (by decide) (by omega) (by omega) (fun h_9 => ?_) (fun h_9 => ?_)
            · refine lv_aload_n hx hb dX0_number_101 rfl (lv_at hl 2 rfl) ?_
              refine lv_aload_n hx hb dX0_number_102 rfl (lv_at hl 2 rfl) ?_
              refine gf_X0_at hx hb hts hown hK hH (k := 57) (by omega) e57 dX0_number_103 ?_
              refine pf_X0_fault hx hb hts hown hK hH hA (k := 57) (by omega) e57 dX0_number_106 (fun H locs σ_10 e57 hq_11 hH => ?_)
              have e58 : σ_10 (58) = oAC cT 120 T := (hq_11 _ (by decide)).trans e58
              have hf : ∀ q : Nat, q ≠ 57 → σ_10 q = σ q := fun q n0 => (hq_11 q n0).trans (hf q n0)
              have hL29 : ∀ q : Nat, q ≠ 57 → σ_10 q = σ q := fun q n0 => (hq_11 q n0).trans (hL29 q n0)
              refine lv_goto (tgt := 126) hx hb dX0_number_109 (by decide) ?_
              refine lv_iload hx hb dX0_number_126 (lv_at hl 7 rfl) ?_
              refine m_bipush 10 hx hb dX0_number_128 (by decide) ?_
              refine m_idiv (((u / 10 : Nat) : Int)) hx hb dX0_number_130 (by omega) (by omega) (by first | rfl | omega) ?_
              refine lv_istore (lv' := [(5, .int (oI (((u / 10 : Nat) : Int)))), (8, .int (oI (nx))), (7, .int (oI (d))), (0, .ref (ad (57))), (1, .int (oI (2))), (2, .int (oI (((lo : Nat) : Int)))), (3, .int (oI (((hi : Nat) : Int)))), (4, .int (oI (((v : Nat) : Int)))), (6, .int (oI (((i : Nat) : Int))))]) hx hb dX0_number_131 hl (by decide) rfl (fun ls hl => ?_)
              refine m_iinc (((i : Nat) : Int) + 1) [(6, .int (oI (((i : Nat) : Int) + 1))), (5, .int (oI (((u / 10 : Nat) : Int)))), (8, .int (oI (nx))), (7, .int (oI (d))), (0, .ref (ad (57))), (1, .int (oI (2))), (2, .int (oI (((lo : Nat) : Int)))), (3, .int (oI (((hi : Nat) : Int)))), (4, .int (oI (((v : Nat) : Int))))] hx hb dX0_number_133 hl (j := 8) rfl (by omega) (by decide) rfl (fun ls hl => ?_)
              refine lv_goto (tgt := 29) hx hb dX0_number_136 (by decide) ?_
              exact ih29 (i + 1) v (u / 10) q ((q : Nat) : Int) (by omega) (by first | assumption | omega) (by first | assumption | omega) (by first | assumption | omega) (by first | assumption | omega) (Or.inr ⟨rfl, by rw [← hres, oNm_b (i := i) (by omega) (by rcases hu with ⟨rfl, rfl⟩ | ⟨rfl, rfl⟩ | ⟨rfl, rfl⟩ <;> first | rfl | omega) hd hnx (by omega)]⟩) _ e57 (hL29) _ _ hH ls (lv_sub hl [4, 5, 6, 7, 8, 1, 0] rfl)
            · refine lv_iload hx hb dX0_number_84 (lv_at hl 0 rfl) ?_
              refine lv_iload_n hx hb dX0_number_86 rfl (lv_at hl 5 rfl) ?_
              refine m_icmp_gt 101 hx hb dX0_number_87 (by decide) (by omega) (by omega) (fun h_12 => ?_) (fun h_12 => ?_)
              · refine lv_aload_n hx hb dX0_number_101 rfl (lv_at hl 2 rfl) ?_
                refine lv_aload_n hx hb dX0_number_102 rfl (lv_at hl 2 rfl) ?_
                refine gf_X0_at hx hb hts hown hK hH (k := 57) (by omega) e57 dX0_number_103 ?_
                refine pf_X0_fault hx hb hts hown hK hH hA (k := 57) (by omega) e57 dX0_number_106 (fun H locs σ_13 e57 hq_14 hH => ?_)
                have e58 : σ_13 (58) = oAC cT 120 T := (hq_14 _ (by decide)).trans e58
                have hf : ∀ q : Nat, q ≠ 57 → σ_13 q = σ q := fun q n0 => (hq_14 q n0).trans (hf q n0)
                have hL29 : ∀ q : Nat, q ≠ 57 → σ_13 q = σ q := fun q n0 => (hq_14 q n0).trans (hL29 q n0)
                refine lv_goto (tgt := 126) hx hb dX0_number_109 (by decide) ?_
                refine lv_iload hx hb dX0_number_126 (lv_at hl 7 rfl) ?_
                refine m_bipush 10 hx hb dX0_number_128 (by decide) ?_
                refine m_idiv (((u / 10 : Nat) : Int)) hx hb dX0_number_130 (by omega) (by omega) (by first | rfl | omega) ?_
                refine lv_istore (lv' := [(5, .int (oI (((u / 10 : Nat) : Int)))), (8, .int (oI (nx))), (7, .int (oI (d))), (0, .ref (ad (57))), (1, .int (oI (2))), (2, .int (oI (((lo : Nat) : Int)))), (3, .int (oI (((hi : Nat) : Int)))), (4, .int (oI (((v : Nat) : Int)))), (6, .int (oI (((i : Nat) : Int))))]) hx hb dX0_number_131 hl (by decide) rfl (fun ls hl => ?_)
                refine m_iinc (((i : Nat) : Int) + 1) [(6, .int (oI (((i : Nat) : Int) + 1))), (5, .int (oI (((u / 10 : Nat) : Int)))), (8, .int (oI (nx))), (7, .int (oI (d))), (0, .ref (ad (57))), (1, .int (oI (2))), (2, .int (oI (((lo : Nat) : Int)))), (3, .int (oI (((hi : Nat) : Int)))), (4, .int (oI (((v : Nat) : Int))))] hx hb dX0_number_133 hl (j := 8) rfl (by omega) (by decide) rfl (fun ls hl => ?_)
                refine lv_goto (tgt := 29) hx hb dX0_number_136 (by decide) ?_
                exact ih29 (i + 1) v (u / 10) q ((q : Nat) : Int) (by omega) (by first | assumption | omega) (by first | assumption | omega) (by first | assumption | omega) (by first | assumption | omega) (Or.inr ⟨rfl, by rw [← hres, oNm_b (i := i) (by omega) (by rcases hu with ⟨rfl, rfl⟩ | ⟨rfl, rfl⟩ | ⟨rfl, rfl⟩ <;> first | rfl | omega) hd hnx (by omega)]⟩) _ e57 (hL29) _ _ hH ls (lv_sub hl [4, 5, 6, 7, 8, 1, 0] rfl)
              · refine lv_iload hx hb dX0_number_90 (lv_at hl 0 rfl) ?_
                refine lv_iload hx hb dX0_number_92 (lv_at hl 7 rfl) ?_
                refine m_iadd (nx + ((u : Nat) : Int)) hx hb dX0_number_94 (by omega) ?_
                refine m_iconst 1 hx hb dX0_number_95 rfl ?_
                refine m_isub (nx + ((u : Nat) : Int) - 1) hx hb dX0_number_96 (by omega) ?_
                refine lv_iload_n hx hb dX0_number_97 rfl (lv_at hl 4 rfl) ?_
                refine m_icmp_ge 112 hx hb dX0_number_98 (by decide) (by omega) (by omega) (fun h_15 => ?_) (fun h_15 => ?_)
                · have hnn : 0 ≤ nx := by rcases hu with ⟨rfl, rfl⟩ | ⟨rfl, rfl⟩ | ⟨rfl, rfl⟩ <;> omega
                  refine lv_iload hx hb dX0_number_112 (lv_at hl 0 rfl) ?_
                  refine m_topI (((nx.toNat : Nat) : Int)) ((Int.toNat_of_nonneg (by omega)).symm) ?_
                  refine lv_istore (lv' := [(4, .int (oI (((nx.toNat : Nat) : Int)))), (8, .int (oI (nx))), (7, .int (oI (d))), (0, .ref (ad (57))), (1, .int (oI (2))), (2, .int (oI (((lo : Nat) : Int)))), (3, .int (oI (((hi : Nat) : Int)))), (5, .int (oI (((u : Nat) : Int)))), (6, .int (oI (((i : Nat) : Int))))]) hx hb dX0_number_114 hl (by decide) rfl (fun ls hl => ?_)
                  refine lv_aload_n hx hb dX0_number_116 rfl (lv_at hl 3 rfl) ?_
                  refine lv_dup hx hb dX0_number_117 rfl ?_
                  refine gf_X0_at hx hb hts hown hK hH (k := 57) (by omega) e57 dX0_number_118 ?_
                  refine m_iconst 1 hx hb dX0_number_121 rfl ?_
                  refine m_iadd (((q : Nat) : Int) + 1) hx hb dX0_number_122 (by omega) ?_
                  refine pf_X0_at hx hb hts hown hK hH hA (k := 57) (by omega) e57 dX0_number_123 (fun H locs σ_16 e57 hq_17 hH => ?_)
                  have e58 : σ_16 (58) = oAC cT 120 T := (hq_17 _ (by decide)).trans e58
                  have hf : ∀ q : Nat, q ≠ 57 → σ_16 q = σ q := fun q n0 => (hq_17 q n0).trans (hf q n0)
                  have hL29 : ∀ q : Nat, q ≠ 57 → σ_16 q = σ q := fun q n0 => (hq_17 q n0).trans (hL29 q n0)
                  refine lv_iload hx hb dX0_number_126 (lv_at hl 7 rfl) ?_
                  refine m_bipush 10 hx hb dX0_number_128 (by decide) ?_
                  refine m_idiv (((u / 10 : Nat) : Int)) hx hb dX0_number_130 (by omega) (by omega) (by first | rfl | omega) ?_
                  refine lv_istore (lv' := [(5, .int (oI (((u / 10 : Nat) : Int)))), (4, .int (oI (((nx.toNat : Nat) : Int)))), (8, .int (oI (nx))), (7, .int (oI (d))), (0, .ref (ad (57))), (1, .int (oI (2))), (2, .int (oI (((lo : Nat) : Int)))), (3, .int (oI (((hi : Nat) : Int)))), (6, .int (oI (((i : Nat) : Int))))]) hx hb dX0_number_131 hl (by decide) rfl (fun ls hl => ?_)
                  refine m_iinc (((i : Nat) : Int) + 1) [(6, .int (oI (((i : Nat) : Int) + 1))), (5, .int (oI (((u / 10 : Nat) : Int)))), (4, .int (oI (((nx.toNat : Nat) : Int)))), (8, .int (oI (nx))), (7, .int (oI (d))), (0, .ref (ad (57))), (1, .int (oI (2))), (2, .int (oI (((lo : Nat) : Int)))), (3, .int (oI (((hi : Nat) : Int))))] hx hb dX0_number_133 hl (j := 8) rfl (by omega) (by decide) rfl (fun ls hl => ?_)
                  refine lv_goto (tgt := 29) hx hb dX0_number_136 (by decide) ?_
                  exact ih29 (i + 1) nx.toNat (u / 10) (q + 1) fq (by omega) (by first | assumption | omega) (by first | assumption | omega) (by first | assumption | omega) (by first | assumption | omega) (Or.inl ⟨hfq, by rw [← hres, oNm_g (i := i) (by omega) (by rcases hu with ⟨rfl, rfl⟩ | ⟨rfl, rfl⟩ | ⟨rfl, rfl⟩ <;> first | rfl | omega) hd hnx (by omega) (by omega) (by omega) (by omega)]⟩) _ e57 (hL29) _ _ hH ls (lv_sub hl [5, 6, 7, 8, 2, 1, 0] rfl)
                · refine lv_aload_n hx hb dX0_number_101 rfl (lv_at hl 2 rfl) ?_
                  refine lv_aload_n hx hb dX0_number_102 rfl (lv_at hl 2 rfl) ?_
                  refine gf_X0_at hx hb hts hown hK hH (k := 57) (by omega) e57 dX0_number_103 ?_
                  refine pf_X0_fault hx hb hts hown hK hH hA (k := 57) (by omega) e57 dX0_number_106 (fun H locs σ_18 e57 hq_19 hH => ?_)
                  have e58 : σ_18 (58) = oAC cT 120 T := (hq_19 _ (by decide)).trans e58
                  have hf : ∀ q : Nat, q ≠ 57 → σ_18 q = σ q := fun q n0 => (hq_19 q n0).trans (hf q n0)
                  have hL29 : ∀ q : Nat, q ≠ 57 → σ_18 q = σ q := fun q n0 => (hq_19 q n0).trans (hL29 q n0)
                  refine lv_goto (tgt := 126) hx hb dX0_number_109 (by decide) ?_
                  refine lv_iload hx hb dX0_number_126 (lv_at hl 7 rfl) ?_
                  refine m_bipush 10 hx hb dX0_number_128 (by decide) ?_
                  refine m_idiv (((u / 10 : Nat) : Int)) hx hb dX0_number_130 (by omega) (by omega) (by first | rfl | omega) ?_
                  refine lv_istore (lv' := [(5, .int (oI (((u / 10 : Nat) : Int)))), (8, .int (oI (nx))), (7, .int (oI (d))), (0, .ref (ad (57))), (1, .int (oI (2))), (2, .int (oI (((lo : Nat) : Int)))), (3, .int (oI (((hi : Nat) : Int)))), (4, .int (oI (((v : Nat) : Int)))), (6, .int (oI (((i : Nat) : Int))))]) hx hb dX0_number_131 hl (by decide) rfl (fun ls hl => ?_)
                  refine m_iinc (((i : Nat) : Int) + 1) [(6, .int (oI (((i : Nat) : Int) + 1))), (5, .int (oI (((u / 10 : Nat) : Int)))), (8, .int (oI (nx))), (7, .int (oI (d))), (0, .ref (ad (57))), (1, .int (oI (2))), (2, .int (oI (((lo : Nat) : Int)))), (3, .int (oI (((hi : Nat) : Int)))), (4, .int (oI (((v : Nat) : Int))))] hx hb dX0_number_133 hl (j := 8) rfl (by omega) (by decide) rfl (fun ls hl => ?_)
                  refine lv_goto (tgt := 29) hx hb dX0_number_136 (by decide) ?_
                  exact ih29 (i + 1) v (u / 10) q ((q : Nat) : Int) (by omega) (by first | assumption | omega) (by first | assumption | omega) (by first | assumption | omega) (by first | assumption | omega) (Or.inr ⟨rfl, by rw [← hres, oNm_b (i := i) (by omega) (by rcases hu with ⟨rfl, rfl⟩ | ⟨rfl, rfl⟩ | ⟨rfl, rfl⟩ <;> first | rfl | omega) hd hnx (by omega)]⟩) _ e57 (hL29) _ _ hH ls (lv_sub hl [4, 5, 6, 7, 8, 1, 0] rfl)
  exact L29 _ 0 0 10 p (-1) (Nat.lt_succ_self _) (by first | assumption | omega) (by first | assumption | omega) (by first | assumption | omega) (by first | assumption | omega) (Or.inl ⟨rfl, rfl⟩) _ e57 (fun q _ => rfl) _ _ hH ls (lv_sub hl [3, 4, 5, 6, 2, 1, 0] rfl)
set_option maxHeartbeats 4000000 in
set_option maxRecDepth 100000 in
theorem c0_num3 {l : Launch} {D : va_G} {cT : Nat → ClassId} {N b0 : Nat} {ad : Nat → Nat} (hA : oAd b0 N ad) {σ : Nat → va_E} (lo hi : Nat) (T : Nat → Int) (z p ac x1 x2 : Nat) (on : Int) (hN : 76 ≤ N) (hT : ∀ i : Nat, i < z → 0 ≤ T i ∧ T i ≤ 255) (hz : z ≤ 120) (hp : p ≤ 150) (hhi : hi ≤ 150) (hlo : lo ≤ 150) (e57 : σ (57) = .inr (0, [.ref (ad (58)), .int (oI (((z : Nat) : Int))), .int (oI (((p : Nat) : Int))), .int (oI ((-1))), .int (oI (((ac : Nat) : Int))), .int (oI (((x1 : Nat) : Int))), .int (oI (((x2 : Nat) : Int))), .int (oI (on))])) (e58 : σ (58) = oAC cT 120 T) :
    oCi l D cT N ad b0 yX0_number cX0_number 9 (some .int) 1 21 [.ref (ad (57)), .int (oI (3)), .int (oI (((lo : Nat) : Int))), .int (oI (((hi : Nat) : Int)))] σ (fun rr uu => ∃ v2 : Nat, ∃ p2 : Nat, ∃ fo : Int, rr = oI (((v2 : Nat) : Int)) ∧ (oNm T z lo hi 3 p 0 = (fo, p2, v2)) ∧ (p2 ≤ p + 3) ∧ (-1 ≤ fo ∧ fo ≤ 200) ∧ (v2 ≤ hi) ∧ uu (57) = .inr (0, [.ref (ad (58)), .int (oI (((z : Nat) : Int))), .int (oI (((p2 : Nat) : Int))), .int (oI (fo)), .int (oI (((ac : Nat) : Int))), .int (oI (((x1 : Nat) : Int))), .int (oI (((x2 : Nat) : Int))), .int (oI (on))]) ∧ (∀ q : Nat, q ≠ 57 → uu q = σ q)) := by
  refine m_start (cc := cX0_number) (by decide) (Nat.le_of_ble_eq_true rfl) rfl ?_
  intro Pp Ee Ss Mm Bb Me Cc Ar ls hx hb hml hown hlk hrt hts hK hH hl
  have hown : Ss.vm.findClass RX0 = some Mm.cls := hown
  have hl : lv_has ls 9 [(0, .ref (ad (57))), (1, .int (oI (3))), (2, .int (oI (((lo : Nat) : Int)))), (3, .int (oI (((hi : Nat) : Int))))] := hl
  have hf : ∀ q : Nat, q ≠ 57 → σ q = σ q := fun q _ => rfl
  refine m_iconst 0 hx hb dX0_number_0 rfl ?_
  refine lv_istore (lv' := [(4, .int (oI (0))), (0, .ref (ad (57))), (1, .int (oI (3))), (2, .int (oI (((lo : Nat) : Int)))), (3, .int (oI (((hi : Nat) : Int))))]) hx hb dX0_number_1 hl (by decide) rfl (fun ls hl => ?_)
  refine lv_iload_n hx hb dX0_number_3 rfl (lv_at hl 2 rfl) ?_
  refine m_iconst 3 hx hb dX0_number_4 rfl ?_
  refine m_icmp_ne 13 hx hb dX0_number_5 (by decide) (by omega) (by omega) (fun h_1 => absurd h_1 (by omega)) (fun h_1 => ?_)
  refine m_bipush 100 hx hb dX0_number_8 (by decide) ?_
  refine lv_goto (tgt := 24) hx hb dX0_number_10 (by decide) ?_
  refine lv_istore (lv' := [(5, .int (oI (100))), (4, .int (oI (0))), (0, .ref (ad (57))), (1, .int (oI (3))), (2, .int (oI (((lo : Nat) : Int)))), (3, .int (oI (((hi : Nat) : Int))))]) hx hb dX0_number_24 hl (by decide) rfl (fun ls hl => ?_)
  refine m_iconst 0 hx hb dX0_number_26 rfl ?_
  refine lv_istore (lv' := [(6, .int (oI (0))), (5, .int (oI (100))), (4, .int (oI (0))), (0, .ref (ad (57))), (1, .int (oI (3))), (2, .int (oI (((lo : Nat) : Int)))), (3, .int (oI (((hi : Nat) : Int))))]) hx hb dX0_number_27 hl (by decide) rfl (fun ls hl => ?_)
  have L29 : ∀ (fu : Nat) (i : Nat) (v : Nat) (u : Nat) (q : Nat) (fq : Int), (4 - i < fu) → (i ≤ 3) → ((i = 0 ∧ u = 100) ∨ (i = 1 ∧ u = 10) ∨ (i = 2 ∧ u = 1) ∨ (i = 3 ∧ u = 0)) → (v ≤ hi) → (q ≤ p + i) → ((fq = -1 ∧ oNm T z lo hi (3 - i) q v = oNm T z lo hi 3 p 0) ∨ (fq = ((q : Nat) : Int) ∧ oNm T z lo hi 3 p 0 = (fq, q, v))) → ∀ σL29 : Nat → va_E, σL29 (57) = .inr (0, [.ref (ad (58)), .int (oI (((z : Nat) : Int))), .int (oI (((q : Nat) : Int))), .int (oI (fq)), .int (oI (((ac : Nat) : Int))), .int (oI (((x1 : Nat) : Int))), .int (oI (((x2 : Nat) : Int))), .int (oI (on))]) → (∀ q : Nat, q ≠ 57 → σL29 q = σ q) → ∀ (H : Heap) (locs : List Loc), oH b0 D N ad Ss.heap σL29 H locs → ∀ ls : Array Slot, lv_has ls 9 [(0, .ref (ad (57))), (1, .int (oI (3))), (2, .int (oI (((lo : Nat) : Int)))), (3, .int (oI (((hi : Nat) : Int)))), (4, .int (oI (((v : Nat) : Int)))), (5, .int (oI (((u : Nat) : Int)))), (6, .int (oI (((i : Nat) : Int))))] → W Pp l Ee { frames := 1, cells := 0, slots := 0, locals := 21 } Ss Mm Ar Bb Me Cc H locs 0 0 (MQ Bb (va_Qi (fun rr uu => ∃ v2 : Nat, ∃ p2 : Nat, ∃ fo : Int, rr = oI (((v2 : Nat) : Int)) ∧ (oNm T z lo hi 3 p 0 = (fo, p2, v2)) ∧ (p2 ≤ p + 3) ∧ (-1 ≤ fo ∧ fo ≤ 200) ∧ (v2 ≤ hi) ∧ uu (57) = .inr (0, [.ref (ad (58)), .int (oI (((z : Nat) : Int))), .int (oI (((p2 : Nat) : Int))), .int (oI (fo)), .int (oI (((ac : Nat) : Int))), .int (oI (((x1 : Nat) : Int))), .int (oI (((x2 : Nat) : Int))), .int (oI (on))]) ∧ (∀ q : Nat, q ≠ 57 → uu q = σ q)) (oV D N ad) (fun q => b0 ≤ q)) Ar Ss 0 0 (fun q => b0 ≤ q)) (F0 Mm 29 ls []) := by
    intro fu29
    induction fu29 with
    | zero =>
      intro i v u q fq hm29
      exact absurd hm29 (Nat.not_lt_zero _)
    | succ fu29 ih29 =>
      intro i v u q fq hm29 hi4 hu hv hq hres σL29 e57 hL29 H locs hH ls hl
      have e58 : σL29 (58) = oAC cT 120 T := (hL29 _ (by decide)).trans e58
      have hf : ∀ q : Nat, q ≠ 57 → σL29 q = σ q := fun q n0 => (hL29 q n0).trans (hf q n0)
      refine lv_iload hx hb dX0_number_29 (lv_at hl 6 rfl) ?_
      refine lv_iload_n hx hb dX0_number_31 rfl (lv_at hl 1 rfl) ?_
      refine m_icmp_ge 139 hx hb dX0_number_32 (by decide) (by omega) (by omega) (fun h_2 => ?_) (fun h_2 => ?_)
      · refine lv_iload hx hb dX0_number_139 (lv_at hl 4 rfl) ?_
        exact m_iret hx hb hlk hrt hH (m_ni _) dX0_number_141 ⟨v, q, fq, rfl, (by rcases hres with ⟨e1, e⟩ | ⟨_, e⟩; rw [← e, show 3 - i = 0 by omega, e1]; rfl; exact e), (by omega), (by rcases hres with ⟨e1, e⟩ | ⟨e1, e⟩ <;> omega), hv, e57, hf⟩
      · refine lv_iload hx hb dX0_number_35 (lv_at hl 6 rfl) ?_
        refine m_iconst 3 hx hb dX0_number_37 rfl ?_
        refine m_icmp_ge 139 hx hb dX0_number_38 (by decide) (by omega) (by omega) (fun h_3 => absurd h_3 (by omega)) (fun h_3 => ?_)
        refine lv_aload_n hx hb dX0_number_41 rfl (lv_at hl 0 rfl) ?_
        refine gf_X0_fault hx hb hts hown hK hH (k := 57) (by omega) e57 dX0_number_42 ?_
        refine m_iconst (-1) hx hb dX0_number_45 rfl ?_
        refine m_icmp_ne 139 hx hb dX0_number_46 (by decide) (by omega) (by omega) (fun hfq => ?_) (fun hfq => ?_)
        · refine lv_iload hx hb dX0_number_139 (lv_at hl 4 rfl) ?_
          exact m_iret hx hb hlk hrt hH (m_ni _) dX0_number_141 ⟨v, q, fq, rfl, (by rcases hres with ⟨e1, e⟩ | ⟨_, e⟩; exact absurd e1 hfq; exact e), (by omega), (by rcases hres with ⟨e1, e⟩ | ⟨e1, e⟩ <;> omega), hv, e57, hf⟩
        · have hres : oNm T z lo hi (3 - i) q v = oNm T z lo hi 3 p 0 := by
              rcases hres with ⟨-, e⟩ | ⟨e, -⟩
              · exact e
              · omega
          refine lv_aload_n hx hb dX0_number_49 rfl (lv_at hl 0 rfl) ?_
          refine lv_aload_n hx hb dX0_number_50 rfl (lv_at hl 0 rfl) ?_
          refine gf_X0_at hx hb hts hown hK hH (k := 57) (by omega) e57 dX0_number_51 ?_
          refine m_pVi hx hb hml hown hts hK hH hl (rest := []) cw_X0_50 (c0_sign hA ((q : Nat) : Int) T z q ac x1 x2 fq on (by first | assumption | omega) (by first | assumption | omega) (by first | assumption | omega) (by first | assumption | omega) (by first | assumption | omega) (by first | assumption | omega) e57 e58) ⟨Nat.le_of_ble_eq_true rfl, Nat.le_of_ble_eq_true rfl⟩ ⟨Nat.le_of_ble_eq_true rfl, Nat.le_of_ble_eq_true rfl⟩ rfl (k := 57) (by omega) e57 rfl rfl (Nat.le_of_ble_eq_true rfl) dX0_number_54 (fun H locs hH => ?_)
          refine m_bipush 48 hx hb dX0_number_57 (by decide) ?_
          have hsb := oSg_b hT ((q : Nat) : Int)
          obtain ⟨d, hd⟩ : ∃ y : Int, oSg T z ((q : Nat) : Int) - 48 = y := ⟨_, rfl⟩
          refine m_isub ((oSg T z ((q : Nat) : Int)) - 48) hx hb dX0_number_59 (by omega) ?_
          refine m_topI (d) (by rw [← hd]) ?_
          refine lv_istore (lv' := [(7, .int (oI (d))), (0, .ref (ad (57))), (1, .int (oI (3))), (2, .int (oI (((lo : Nat) : Int)))), (3, .int (oI (((hi : Nat) : Int)))), (4, .int (oI (((v : Nat) : Int)))), (5, .int (oI (((u : Nat) : Int)))), (6, .int (oI (((i : Nat) : Int))))]) hx hb dX0_number_60 hl (by decide) rfl (fun ls hl => ?_)
          refine lv_iload hx hb dX0_number_62 (lv_at hl 5 rfl) ?_
          refine lv_iload hx hb dX0_number_64 (lv_at hl 0 rfl) ?_
          refine lv_iload hx hb dX0_number_66 (lv_at hl 6 rfl) ?_
          refine m_imul ((d * ((u : Nat) : Int))) hx hb dX0_number_68 (rfl) ?_
          obtain ⟨nx, hnx⟩ : ∃ y : Int, ((v : Nat) : Int) + d * ((u : Nat) : Int) = y := ⟨_, rfl⟩
          have hnb : -10000 ≤ nx ∧ nx ≤ 30000 := by rcases hu with ⟨rfl, rfl⟩ | ⟨rfl, rfl⟩ | ⟨rfl, rfl⟩ | ⟨rfl, rfl⟩ <;> omega
          refine m_iadd ((d * ((u : Nat) : Int)) + ((v : Nat) : Int)) hx hb dX0_number_69 (by omega) ?_
          refine m_topI (nx) (by rw [← hnx]; omega) ?_
          refine lv_istore (lv' := [(8, .int (oI (nx))), (7, .int (oI (d))), (0, .ref (ad (57))), (1, .int (oI (3))), (2, .int (oI (((lo : Nat) : Int)))), (3, .int (oI (((hi : Nat) : Int)))), (4, .int (oI (((v : Nat) : Int)))), (5, .int (oI (((u : Nat) : Int)))), (6, .int (oI (((i : Nat) : Int))))]) hx hb dX0_number_70 hl (by decide) rfl (fun ls hl => ?_)
          refine lv_iload hx hb dX0_number_72 (lv_at hl 1 rfl) ?_
          refine m_if_lt 101 hx hb dX0_number_74 (by decide) (by omega) (fun h_5 => ?_) (fun h_5 => ?_)
          · refine lv_aload_n hx hb dX0_number_101 rfl (lv_at hl 2 rfl) ?_
            refine lv_aload_n hx hb dX0_number_102 rfl (lv_at hl 2 rfl) ?_
            refine gf_X0_at hx hb hts hown hK hH (k := 57) (by omega) e57 dX0_number_103 ?_
            refine pf_X0_fault hx hb hts hown hK hH hA (k := 57) (by omega) e57 dX0_number_106 (fun H locs σ_6 e57 hq_7 hH => ?_)
            have e58 : σ_6 (58) = oAC cT 120 T := (hq_7 _ (by decide)).trans e58
            have hf : ∀ q : Nat, q ≠ 57 → σ_6 q = σ q := fun q n0 => (hq_7 q n0).trans (hf q n0)
            have hL29 : ∀ q : Nat, q ≠ 57 → σ_6 q = σ q := fun q n0 => (hq_7 q n0).trans (hL29 q n0)
            refine lv_goto (tgt := 126) hx hb dX0_number_109 (by decide) ?_
            refine lv_iload hx hb dX0_number_126 (lv_at hl 7 rfl) ?_
            refine m_bipush 10 hx hb dX0_number_128 (by decide) ?_
            refine m_idiv (((u / 10 : Nat) : Int)) hx hb dX0_number_130 (by omega) (by omega) (by first | rfl | omega) ?_
            refine lv_istore (lv' := [(5, .int (oI (((u / 10 : Nat) : Int)))), (8, .int (oI (nx))), (7, .int (oI (d))), (0, .ref (ad (57))), (1, .int (oI (3))), (2, .int (oI (((lo : Nat) : Int)))), (3, .int (oI (((hi : Nat) : Int)))), (4, .int (oI (((v : Nat) : Int)))), (6, .int (oI (((i : Nat) : Int))))]) hx hb dX0_number_131 hl (by decide) rfl (fun ls hl => ?_)
            refine m_iinc (((i : Nat) : Int) + 1) [(6, .int (oI (((i : Nat) : Int) + 1))), (5, .int (oI (((u / 10 : Nat) : Int)))), (8, .int (oI (nx))), (7, .int (oI (d))), (0, .ref (ad (57))), (1, .int (oI (3))), (2, .int (oI (((lo : Nat) : Int)))), (3, .int (oI (((hi : Nat) : Int)))), (4, .int (oI (((v : Nat) : Int))))] hx hb dX0_number_133 hl (j := 8) rfl (by omega) (by decide) rfl (fun ls hl => ?_)
            refine lv_goto (tgt := 29) hx hb dX0_number_136 (by decide) ?_
            exact ih29 (i + 1) v (u / 10) q ((q : Nat) : Int) (by omega) (by first | assumption | omega) (by first | assumption | omega) (by first | assumption | omega) (by first | assumption | omega) (Or.inr ⟨rfl, by rw [← hres, oNm_b (i := i) (by omega) (by rcases hu with ⟨rfl, rfl⟩ | ⟨rfl, rfl⟩ | ⟨rfl, rfl⟩ | ⟨rfl, rfl⟩ <;> first | rfl | omega) hd hnx (by omega)]⟩) _ e57 (hL29) _ _ hH ls (lv_sub hl [4, 5, 6, 7, 8, 1, 0] rfl)
          · refine lv_iload hx hb dX0_number_77 (lv_at hl 1 rfl) ?_
            refine m_bipush 9 hx hb dX0_number_79 (by decide) ?_
            refine m_icmp_gt 101 hx hb dX0_number_81 (by decide) (by omega) (by omega) (fun h_8 => ?_) (fun h_8 => ?_)
            · refine lv_aload_n hx hb dX0_number_101 rfl (lv_at hl 2 rfl) ?_
              refine lv_aload_n hx hb dX0_number_102 rfl (lv_at hl 2 rfl) ?_
              refine gf_X0_at hx hb hts hown hK hH (k := 57) (by omega) e57 dX0_number_103 ?_
              refine pf_X0_fault hx hb hts hown hK hH hA (k := 57) (by omega) e57 dX0_number_106 (fun H locs σ_9 e57 hq_10 hH => ?_)
              have e58 : σ_9 (58) = oAC cT 120 T := (hq_10 _ (by decide)).trans e58
              have hf : ∀ q : Nat, q ≠ 57 → σ_9 q = σ q := fun q n0 => (hq_10 q n0).trans (hf q n0)
              have hL29 : ∀ q : Nat, q ≠ 57 → σ_9 q = σ q := fun q n0 => (hq_10 q n0).trans (hL29 q n0)
              refine lv_goto (tgt := 126) hx hb dX0_number_109 (by decide) ?_
              refine lv_iload hx hb dX0_number_126 (lv_at hl 7 rfl) ?_
              refine m_bipush 10 hx hb dX0_number_128 (by decide) ?_
              refine m_idiv (((u / 10 : Nat) : Int)) hx hb dX0_number_130 (by omega) (by omega) (by first | rfl | omega) ?_
              refine lv_istore (lv' := [(5, .int (oI (((u / 10 : Nat) : Int)))), (8, .int (oI (nx))), (7, .int (oI (d))), (0, .ref (ad (57))), (1, .int (oI (3))), (2, .int (oI (((lo : Nat) : Int)))), (3, .int (oI (((hi : Nat) : Int)))), (4, .int (oI (((v : Nat) : Int)))), (6, .int (oI (((i : Nat) : Int))))]) hx hb dX0_number_131 hl (by decide) rfl (fun ls hl => ?_)
              refine m_iinc (((i : Nat) : Int) + 1) [(6, .int (oI (((i : Nat) : Int) + 1))), (5, .int (oI (((u / 10 : Nat) : Int)))), (8, .int (oI (nx))), (7, .int (oI (d))), (0, .ref (ad (57))), (1, .int (oI (3))), (2, .int (oI (((lo : Nat) : Int)))), (3, .int (oI (((hi : Nat) : Int)))), (4, .int (oI (((v : Nat) : Int))))] hx hb dX0_number_133 hl (j := 8) rfl (by omega) (by decide) rfl (fun ls hl => ?_)
              refine lv_goto (tgt := 29) hx hb dX0_number_136 (by decide) ?_
              exact ih29 (i + 1) v (u / 10) q ((q : Nat) : Int) (by omega) (by first | assumption | omega) (by first | assumption | omega) (by first | assumption | omega) (by first | assumption | omega) (Or.inr ⟨rfl, by rw [← hres, oNm_b (i := i) (by omega) (by rcases hu with ⟨rfl, rfl⟩ | ⟨rfl, rfl⟩ | ⟨rfl, rfl⟩ | ⟨rfl, rfl⟩ <;> first | rfl | omega) hd hnx (by omega)]⟩) _ e57 (hL29) _ _ hH ls (lv_sub hl [4, 5, 6, 7, 8, 1, 0] rfl)
            · refine lv_iload hx hb dX0_number_84 (lv_at hl 0 rfl) ?_
              refine lv_iload_n hx hb dX0_number_86 rfl (lv_at hl 5 rfl) ?_
              refine m_icmp_gt 101 hx hb dX0_number_87 (by decide) (by omega) (by omega) (fun h_11 => ?_) (fun h_11 => ?_)
              · refine lv_aload_n hx hb dX0_number_101 rfl (lv_at hl 2 rfl) ?_
                refine lv_aload_n hx hb dX0_number_102 rfl (lv_at hl 2 rfl) ?_
                refine gf_X0_at hx hb hts hown hK hH (k := 57) (by omega) e57 dX0_number_103 ?_
                refine pf_X0_fault hx hb hts hown hK hH hA (k := 57) (by omega) e57 dX0_number_106 (fun H locs σ_12 e57 hq_13 hH => ?_)
                have e58 : σ_12 (58) = oAC cT 120 T := (hq_13 _ (by decide)).trans e58
                have hf : ∀ q : Nat, q ≠ 57 → σ_12 q = σ q := fun q n0 => (hq_13 q n0).trans (hf q n0)
                have hL29 : ∀ q : Nat, q ≠ 57 → σ_12 q = σ q := fun q n0 => (hq_13 q n0).trans (hL29 q n0)
                refine lv_goto (tgt := 126) hx hb dX0_number_109 (by decide) ?_
                refine lv_iload hx hb dX0_number_126 (lv_at hl 7 rfl) ?_
                refine m_bipush 10 hx hb dX0_number_128 (by decide) ?_
                refine m_idiv (((u / 10 : Nat) : Int)) hx hb dX0_number_130 (by omega) (by omega) (by first | rfl | omega) ?_
                refine lv_istore (lv' := [(5, .int (oI (((u / 10 : Nat) : Int)))), (8, .int (oI (nx))), (7, .int (oI (d))), (0, .ref (ad (57))), (1, .int (oI (3))), (2, .int (oI (((lo : Nat) : Int)))), (3, .int (oI (((hi : Nat) : Int)))), (4, .int (oI (((v : Nat) : Int)))), (6, .int (oI (((i : Nat) : Int))))]) hx hb dX0_number_131 hl (by decide) rfl (fun ls hl => ?_)
                refine m_iinc (((i : Nat) : Int) + 1) [(6, .int (oI (((i : Nat) : Int) + 1))), (5, .int (oI (((u / 10 : Nat) : Int)))), (8, .int (oI (nx))), (7, .int (oI (d))), (0, .ref (ad (57))), (1, .int (oI (3))), (2, .int (oI (((lo : Nat) : Int)))), (3, .int (oI (((hi : Nat) : Int)))), (4, .int (oI (((v : Nat) : Int))))] hx hb dX0_number_133 hl (j := 8) rfl (by omega) (by decide) rfl (fun ls hl => ?_)
                refine lv_goto (tgt := 29) hx hb dX0_number_136 (by decide) ?_
                exact ih29 (i + 1) v (u / 10) q ((q : Nat) : Int) (by omega) (by first | assumption | omega) (by first | assumption | omega) (by first | assumption | omega) (by first | assumption | omega) (Or.inr ⟨rfl, by rw [← hres, oNm_b (i := i) (by omega) (by rcases hu with ⟨rfl, rfl⟩ | ⟨rfl, rfl⟩ | ⟨rfl, rfl⟩ | ⟨rfl, rfl⟩ <;> first | rfl | omega) hd hnx (by omega)]⟩) _ e57 (hL29) _ _ hH ls (lv_sub hl [4, 5, 6, 7, 8, 1, 0] rfl)
              · refine lv_iload hx hb dX0_number_90 (lv_at hl 0 rfl) ?_
                refine lv_iload hx hb dX0_number_92 (lv_at hl 7 rfl) ?_
                refine m_iadd (nx + ((u : Nat) : Int)) hx hb dX0_number_94 (by omega) ?_
                refine m_iconst 1 hx hb dX0_number_95 rfl ?_
                refine m_isub (nx + ((u : Nat) : Int) - 1) hx hb dX0_number_96 (by omega) ?_
                refine lv_iload_n hx hb dX0_number_97 rfl (lv_at hl 4 rfl) ?_
                refine m_icmp_ge 112 hx hb dX0_number_98 (by decide) (by omega) (by omega) (fun h_14 => ?_) (fun h_14 => ?_)
                · have hnn : 0 ≤ nx := by rcases hu with ⟨rfl, rfl⟩ | ⟨rfl, rfl⟩ | ⟨rfl, rfl⟩ | ⟨rfl, rfl⟩ <;> omega
                  refine lv_iload hx hb dX0_number_112 (lv_at hl 0 rfl) ?_
                  refine m_topI (((nx.toNat : Nat) : Int)) ((Int.toNat_of_nonneg (by omega)).symm) ?_
                  refine lv_istore (lv' := [(4, .int (oI (((nx.toNat : Nat) : Int)))), (8, .int (oI (nx))), (7, .int (oI (d))), (0, .ref (ad (57))), (1, .int (oI (3))), (2, .int (oI (((lo : Nat) : Int)))), (3, .int (oI (((hi : Nat) : Int)))), (5, .int (oI (((u : Nat) : Int)))), (6, .int (oI (((i : Nat) : Int))))]) hx hb dX0_number_114 hl (by decide) rfl (fun ls hl => ?_)
                  refine lv_aload_n hx hb dX0_number_116 rfl (lv_at hl 3 rfl) ?_
                  refine lv_dup hx hb dX0_number_117 rfl ?_
                  refine gf_X0_at hx hb hts hown hK hH (k := 57) (by omega) e57 dX0_number_118 ?_
                  refine m_iconst 1 hx hb dX0_number_121 rfl ?_
                  refine m_iadd (((q : Nat) : Int) + 1) hx hb dX0_number_122 (by omega) ?_
                  refine pf_X0_at hx hb hts hown hK hH hA (k := 57) (by omega) e57 dX0_number_123 (fun H locs σ_15 e57 hq_16 hH => ?_)
                  have e58 : σ_15 (58) = oAC cT 120 T := (hq_16 _ (by decide)).trans e58
                  have hf : ∀ q : Nat, q ≠ 57 → σ_15 q = σ q := fun q n0 => (hq_16 q n0).trans (hf q n0)
                  have hL29 : ∀ q : Nat, q ≠ 57 → σ_15 q = σ q := fun q n0 => (hq_16 q n0).trans (hL29 q n0)
                  refine lv_iload hx hb dX0_number_126 (lv_at hl 7 rfl) ?_
                  refine m_bipush 10 hx hb dX0_number_128 (by decide) ?_
                  refine m_idiv (((u / 10 : Nat) : Int)) hx hb dX0_number_130 (by omega) (by omega) (by first | rfl | omega) ?_
                  refine lv_istore (lv' := [(5, .int (oI (((u / 10 : Nat) : Int)))), (4, .int (oI (((nx.toNat : Nat) : Int)))), (8, .int (oI (nx))), (7, .int (oI (d))), (0, .ref (ad (57))), (1, .int (oI (3))), (2, .int (oI (((lo : Nat) : Int)))), (3, .int (oI (((hi : Nat) : Int)))), (6, .int (oI (((i : Nat) : Int))))]) hx hb dX0_number_131 hl (by decide) rfl (fun ls hl => ?_)
                  refine m_iinc (((i : Nat) : Int) + 1) [(6, .int (oI (((i : Nat) : Int) + 1))), (5, .int (oI (((u / 10 : Nat) : Int)))), (4, .int (oI (((nx.toNat : Nat) : Int)))), (8, .int (oI (nx))), (7, .int (oI (d))), (0, .ref (ad (57))), (1, .int (oI (3))), (2, .int (oI (((lo : Nat) : Int)))), (3, .int (oI (((hi : Nat) : Int))))] hx hb dX0_number_133 hl (j := 8) rfl (by omega) (by decide) rfl (fun ls hl => ?_)
                  refine lv_goto (tgt := 29) hx hb dX0_number_136 (by decide) ?_
                  exact ih29 (i + 1) nx.toNat (u / 10) (q + 1) fq (by omega) (by first | assumption | omega) (by first | assumption | omega) (by first | assumption | omega) (by first | assumption | omega) (Or.inl ⟨hfq, by rw [← hres, oNm_g (i := i) (by omega) (by rcases hu with ⟨rfl, rfl⟩ | ⟨rfl, rfl⟩ | ⟨rfl, rfl⟩ | ⟨rfl, rfl⟩ <;> first | rfl | omega) hd hnx (by omega) (by omega) (by omega) (by omega)]⟩) _ e57 (hL29) _ _ hH ls (lv_sub hl [5, 6, 7, 8, 2, 1, 0] rfl)
                · refine lv_aload_n hx hb dX0_number_101 rfl (lv_at hl 2 rfl) ?_
                  refine lv_aload_n hx hb dX0_number_102 rfl (lv_at hl 2 rfl) ?_
                  refine gf_X0_at hx hb hts hown hK hH (k := 57) (by omega) e57 dX0_number_103 ?_
                  refine pf_X0_fault hx hb hts hown hK hH hA (k := 57) (by omega) e57 dX0_number_106 (fun H locs σ_17 e57 hq_18 hH => ?_)
                  have e58 : σ_17 (58) = oAC cT 120 T := (hq_18 _ (by decide)).trans e58
                  have hf : ∀ q : Nat, q ≠ 57 → σ_17 q = σ q := fun q n0 => (hq_18 q n0).trans (hf q n0)
                  have hL29 : ∀ q : Nat, q ≠ 57 → σ_17 q = σ q := fun q n0 => (hq_18 q n0).trans (hL29 q n0)
                  refine lv_goto (tgt := 126) hx hb dX0_number_109 (by decide) ?_
                  refine lv_iload hx hb dX0_number_126 (lv_at hl 7 rfl) ?_
                  refine m_bipush 10 hx hb dX0_number_128 (by decide) ?_
                  refine m_idiv (((u / 10 : Nat) : Int)) hx hb dX0_number_130 (by omega) (by omega) (by first | rfl | omega) ?_
                  refine lv_istore (lv' := [(5, .int (oI (((u / 10 : Nat) : Int)))), (8, .int (oI (nx))), (7, .int (oI (d))), (0, .ref (ad (57))), (1, .int (oI (3))), (2, .int (oI (((lo : Nat) : Int)))), (3, .int (oI (((hi : Nat) : Int)))), (4, .int (oI (((v : Nat) : Int)))), (6, .int (oI (((i : Nat) : Int))))]) hx hb dX0_number_131 hl (by decide) rfl (fun ls hl => ?_)
                  refine m_iinc (((i : Nat) : Int) + 1) [(6, .int (oI (((i : Nat) : Int) + 1))), (5, .int (oI (((u / 10 : Nat) : Int)))), (8, .int (oI (nx))), (7, .int (oI (d))), (0, .ref (ad (57))), (1, .int (oI (3))), (2, .int (oI (((lo : Nat) : Int)))), (3, .int (oI (((hi : Nat) : Int)))), (4, .int (oI (((v : Nat) : Int))))] hx hb dX0_number_133 hl (j := 8) rfl (by omega) (by decide) rfl (fun ls hl => ?_)
                  refine lv_goto (tgt := 29) hx hb dX0_number_136 (by decide) ?_
                  exact ih29 (i + 1) v (u / 10) q ((q : Nat) : Int) (by omega) (by first | assumption | omega) (by first | assumption | omega) (by first | assumption | omega) (by first | assumption | omega) (Or.inr ⟨rfl, by rw [← hres, oNm_b (i := i) (by omega) (by rcases hu with ⟨rfl, rfl⟩ | ⟨rfl, rfl⟩ | ⟨rfl, rfl⟩ | ⟨rfl, rfl⟩ <;> first | rfl | omega) hd hnx (by omega)]⟩) _ e57 (hL29) _ _ hH ls (lv_sub hl [4, 5, 6, 7, 8, 1, 0] rfl)
  exact L29 _ 0 0 100 p (-1) (Nat.lt_succ_self _) (by first | assumption | omega) (by first | assumption | omega) (by first | assumption | omega) (by first | assumption | omega) (Or.inl ⟨rfl, rfl⟩) _ e57 (fun q _ => rfl) _ _ hH ls (lv_sub hl [3, 4, 5, 6, 2, 1, 0] rfl)
set_option maxHeartbeats 4000000 in
set_option maxRecDepth 100000 in
theorem c0_numf {l : Launch} {D : va_G} {cT : Nat → ClassId} {N b0 : Nat} {ad : Nat → Nat} (hA : oAd b0 N ad) {σ : Nat → va_E} (lo hi : Nat) (T : Nat → Int) (z p ac x1 x2 : Nat) (f on : Int) (hN : 76 ≤ N) (hT : ∀ i : Nat, i < z → 0 ≤ T i ∧ T i ≤ 255) (hz : z ≤ 120) (hp : p ≤ 150) (hf0 : -2147483648 ≤ f ∧ f < 2147483648) (hne : ¬ f = -1) (e57 : σ (57) = .inr (0, [.ref (ad (58)), .int (oI (((z : Nat) : Int))), .int (oI (((p : Nat) : Int))), .int (oI (f)), .int (oI (((ac : Nat) : Int))), .int (oI (((x1 : Nat) : Int))), .int (oI (((x2 : Nat) : Int))), .int (oI (on))])) (e58 : σ (58) = oAC cT 120 T) :
    oCi l D cT N ad b0 yX0_number cX0_number 9 (some .int) 1 21 [.ref (ad (57)), .int (oI (2)), .int (oI (((lo : Nat) : Int))), .int (oI (((hi : Nat) : Int)))] σ (fun rr uu => rr = oI (0) ∧ uu = σ) := by
  refine m_start (cc := cX0_number) (by decide) (Nat.le_of_ble_eq_true rfl) rfl ?_
  intro Pp Ee Ss Mm Bb Me Cc Ar ls hx hb hml hown hlk hrt hts hK hH hl
  have hown : Ss.vm.findClass RX0 = some Mm.cls := hown
  have hl : lv_has ls 9 [(0, .ref (ad (57))), (1, .int (oI (2))), (2, .int (oI (((lo : Nat) : Int)))), (3, .int (oI (((hi : Nat) : Int))))] := hl
  refine m_iconst 0 hx hb dX0_number_0 rfl ?_
  refine lv_istore (lv' := [(4, .int (oI (0))), (0, .ref (ad (57))), (1, .int (oI (2))), (2, .int (oI (((lo : Nat) : Int)))), (3, .int (oI (((hi : Nat) : Int))))]) hx hb dX0_number_1 hl (by decide) rfl (fun ls hl => ?_)
  refine lv_iload_n hx hb dX0_number_3 rfl (lv_at hl 2 rfl) ?_
  refine m_iconst 3 hx hb dX0_number_4 rfl ?_
  refine m_icmp_ne 13 hx hb dX0_number_5 (by decide) (by omega) (by omega) (fun h_1 => ?_) (fun h_1 => absurd h_1 (by omega))
  refine lv_iload_n hx hb dX0_number_13 rfl (lv_at hl 2 rfl) ?_
  refine m_iconst 2 hx hb dX0_number_14 rfl ?_
  refine m_icmp_ne 23 hx hb dX0_number_15 (by decide) (by omega) (by omega) (fun h_2 => absurd h_2 (by omega)) (fun h_2 => ?_)
  refine m_bipush 10 hx hb dX0_number_18 (by decide) ?_
  refine lv_goto (tgt := 24) hx hb dX0_number_20 (by decide) ?_
  refine lv_istore (lv' := [(5, .int (oI (10))), (4, .int (oI (0))), (0, .ref (ad (57))), (1, .int (oI (2))), (2, .int (oI (((lo : Nat) : Int)))), (3, .int (oI (((hi : Nat) : Int))))]) hx hb dX0_number_24 hl (by decide) rfl (fun ls hl => ?_)
  refine m_iconst 0 hx hb dX0_number_26 rfl ?_
  refine lv_istore (lv' := [(6, .int (oI (0))), (5, .int (oI (10))), (4, .int (oI (0))), (0, .ref (ad (57))), (1, .int (oI (2))), (2, .int (oI (((lo : Nat) : Int)))), (3, .int (oI (((hi : Nat) : Int))))]) hx hb dX0_number_27 hl (by decide) rfl (fun ls hl => ?_)
  refine lv_iload hx hb dX0_number_29 (lv_at hl 0 rfl) ?_
  refine lv_iload_n hx hb dX0_number_31 rfl (lv_at hl 4 rfl) ?_
  refine m_icmp_ge 139 hx hb dX0_number_32 (by decide) (by omega) (by omega) (fun h_3 => absurd h_3 (by omega)) (fun h_3 => ?_)
  refine lv_iload hx hb dX0_number_35 (lv_at hl 0 rfl) ?_
  refine m_iconst 3 hx hb dX0_number_37 rfl ?_
  refine m_icmp_ge 139 hx hb dX0_number_38 (by decide) (by omega) (by omega) (fun h_4 => absurd h_4 (by omega)) (fun h_4 => ?_)
  refine lv_aload_n hx hb dX0_number_41 rfl (lv_at hl 3 rfl) ?_
  refine gf_X0_fault hx hb hts hown hK hH (k := 57) (by omega) e57 dX0_number_42 ?_
  refine m_iconst (-1) hx hb dX0_number_45 rfl ?_
  refine m_icmp_ne 139 hx hb dX0_number_46 (by decide) (by omega) (by omega) (fun h_5 => ?_) (fun h_5 => absurd h_5 (hne))
  refine lv_iload hx hb dX0_number_139 (lv_at hl 2 rfl) ?_
  exact m_iret hx hb hlk hrt hH (m_ni _) dX0_number_141 ⟨rfl, rfl⟩
set_option maxHeartbeats 4000000 in
set_option maxRecDepth 100000 in
theorem c0_rulerNumber {l : Launch} {D : va_G} {cT : Nat → ClassId} {N b0 : Nat} {ad : Nat → Nat} (hA : oAd b0 N ad) {σ : Nat → va_E} (T : Nat → Int) (z p ac x1 x2 : Nat) (on : Int) (hN : 76 ≤ N) (hT : ∀ i : Nat, i < z → 0 ≤ T i ∧ T i ≤ 255) (hz : z ≤ 120) (hp : p ≤ 150) (e57 : σ (57) = .inr (0, [.ref (ad (58)), .int (oI (((z : Nat) : Int))), .int (oI (((p : Nat) : Int))), .int (oI ((-1))), .int (oI (((ac : Nat) : Int))), .int (oI (((x1 : Nat) : Int))), .int (oI (((x2 : Nat) : Int))), .int (oI (on))])) (e58 : σ (58) = oAC cT 120 T) :
    oCi l D cT N ad b0 yX0_rulerNumber cX0_rulerNumber 1 (some .int) 2 49 [.ref (ad (57))] σ (fun rr uu => ∃ v2 : Nat, ∃ p2 : Nat, ∃ fo : Int, rr = oI (((v2 : Nat) : Int)) ∧ (oNm T z 0 3 1 p 0 = (fo, p2, v2)) ∧ (p2 ≤ p + 3) ∧ (-1 ≤ fo ∧ fo ≤ 200) ∧ (v2 ≤ 3) ∧ uu (57) = .inr (0, [.ref (ad (58)), .int (oI (((z : Nat) : Int))), .int (oI (((p2 : Nat) : Int))), .int (oI (fo)), .int (oI (((ac : Nat) : Int))), .int (oI (((x1 : Nat) : Int))), .int (oI (((x2 : Nat) : Int))), .int (oI (on))]) ∧ (∀ q : Nat, q ≠ 57 → uu q = σ q)) := by
  refine m_start (cc := cX0_rulerNumber) (by decide) (Nat.le_of_ble_eq_true rfl) rfl ?_
  intro Pp Ee Ss Mm Bb Me Cc Ar ls hx hb hml hown hlk hrt hts hK hH hl
  have hown : Ss.vm.findClass RX0 = some Mm.cls := hown
  have hl : lv_has ls 1 [(0, .ref (ad (57)))] := hl
  have hf : ∀ q : Nat, q ≠ 57 → σ q = σ q := fun q _ => rfl
  refine lv_aload_n hx hb dX0_rulerNumber_0 rfl (lv_at hl 0 rfl) ?_
  refine m_iconst 1 hx hb dX0_rulerNumber_1 rfl ?_
  refine m_iconst 0 hx hb dX0_rulerNumber_2 rfl ?_
  refine m_iconst 3 hx hb dX0_rulerNumber_3 rfl ?_
  refine m_callVi hx hb hml hown hts hK hH hl (rest := []) cw_X0_54 (c0_num1 hA 0 3 T z p ac x1 x2 on (by first | assumption | omega) (by first | assumption | omega) (by first | assumption | omega) (by first | assumption | omega) (by first | assumption | omega) (by first | assumption | omega) e57 e58) ⟨Nat.le_of_ble_eq_true rfl, Nat.le_of_ble_eq_true rfl⟩ ⟨Nat.le_of_ble_eq_true rfl, Nat.le_of_ble_eq_true rfl⟩ rfl (k := 57) (by omega) e57 rfl rfl (Nat.le_of_ble_eq_true rfl) dX0_rulerNumber_4 (fun r_4 σ_1 H locs hp_2 hH => ?_)
  obtain ⟨v2, p2, fo, rfl, hR, hp2, hfo, hv2, e57, hq_3⟩ := hp_2
  have e58 : σ_1 (58) = oAC cT 120 T := (hq_3 _ (by decide)).trans e58
  have hf : ∀ q : Nat, q ≠ 57 → σ_1 q = σ q := fun q n0 => (hq_3 q n0).trans (hf q n0)
  exact m_iret hx hb hlk hrt hH (m_ni _) dX0_rulerNumber_7 ⟨v2, p2, fo, rfl, (by first | assumption | omega), (by first | assumption | omega), (by first | assumption | omega), (by first | assumption | omega), e57, hf⟩
