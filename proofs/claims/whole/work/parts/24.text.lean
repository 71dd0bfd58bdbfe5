set_option maxHeartbeats 4000000 in
set_option maxRecDepth 100000 in
theorem c0_add1 {l : Launch} {D : va_G} {cT : Nat → ClassId} {N b0 : Nat} {ad : Nat → Nat} (hA : oAd b0 N ad) {σ : Nat → va_E} (c : Nat) (T : Nat → Int) (z p ac x1 x2 : Nat) (f on : Int) (hN : 76 ≤ N) (hT : ∀ i : Nat, i < z → 0 ≤ T i ∧ T i ≤ 255) (hz : z ≤ 120) (hp : p ≤ 150) (hf0 : -2147483648 ≤ f ∧ f < 2147483648) (hz2 : z < 120) (hc : c ≤ 255) (e57 : σ (57) = .inr (0, [.ref (ad (58)), .int (oI (((z : Nat) : Int))), .int (oI (((p : Nat) : Int))), .int (oI (f)), .int (oI (((ac : Nat) : Int))), .int (oI (((x1 : Nat) : Int))), .int (oI (((x2 : Nat) : Int))), .int (oI (on))])) (e58 : σ (58) = oAC cT 120 T) :
    oCi l D cT N ad b0 yX0_add cX0_add 2 (some .boolean) 0 0 [.ref (ad (57)), .int (oI (((c : Nat) : Int)))] σ (fun rr uu => rr = oI (1) ∧ uu (57) = .inr (0, [.ref (ad (58)), .int (oI (((z : Nat) : Int) + 1)), .int (oI (((p : Nat) : Int))), .int (oI (f)), .int (oI (((ac : Nat) : Int))), .int (oI (((x1 : Nat) : Int))), .int (oI (((x2 : Nat) : Int))), .int (oI (on))]) ∧ uu (58) = oAC cT 120 (va_up T z ((c : Nat) : Int)) ∧ (∀ q : Nat, q ≠ 57 → q ≠ 58 → uu q = σ q)) := by
  refine m_start (cc := cX0_add) (by decide) (Nat.le_of_ble_eq_true rfl) rfl ?_
  intro Pp Ee Ss Mm Bb Me Cc Ar ls hx hb hml hown hlk hrt hts hK hH hl
  have hown : Ss.vm.findClass RX0 = some Mm.cls := hown
  have hl : lv_has ls 2 [(0, .ref (ad (57))), (1, .int (oI (((c : Nat) : Int))))] := hl
  have hf : ∀ q : Nat, q ≠ 57 → q ≠ 58 → σ q = σ q := fun q _ _ => rfl
  refine lv_aload_n hx hb dX0_add_0 rfl (lv_at hl 0 rfl) ?_
  refine gf_X0_size hx hb hts hown hK hH (k := 57) (by omega) e57 dX0_add_1 ?_
  refine m_if_lt 19 hx hb dX0_add_4 (by decide) (by omega) (fun h_1 => absurd h_1 (by omega)) (fun h_1 => ?_)
  refine lv_aload_n hx hb dX0_add_7 rfl (lv_at hl 0 rfl) ?_
  refine gf_X0_size hx hb hts hown hK hH (k := 57) (by omega) e57 dX0_add_8 ?_
  refine lv_aload_n hx hb dX0_add_11 rfl (lv_at hl 0 rfl) ?_
  refine gf_X0_signs hx hb hts hown hK hH (k := 57) (by omega) e57 dX0_add_12 ?_
  refine m_alen hx hb hK hH (k := 58) (by omega) e58 2 rfl 120 rfl dX0_add_15 ?_
  refine m_icmp_lt 21 hx hb dX0_add_16 (by decide) (by omega) (by omega) (fun h_2 => ?_) (fun h_2 => absurd h_2 ((by omega)))
  refine lv_aload_n hx hb dX0_add_21 rfl (lv_at hl 0 rfl) ?_
  refine gf_X0_signs hx hb hts hown hK hH (k := 57) (by omega) e57 dX0_add_22 ?_
  refine lv_aload_n hx hb dX0_add_25 rfl (lv_at hl 0 rfl) ?_
  refine gf_X0_size hx hb hts hown hK hH (k := 57) (by omega) e57 dX0_add_26 ?_
  refine lv_iload_n hx hb dX0_add_29 rfl (lv_at hl 1 rfl) ?_
  refine m_cast hx hb hK hH hA (k := 58) (by omega) e58 (z) (by omega) (by omega) (by decide) (m_nc (by omega)) dX0_add_30 (fun H locs σ_3 e58 hq_4 hH => ?_)
  have e57 : σ_3 (57) = .inr (0, [.ref (ad (58)), .int (oI (((z : Nat) : Int))), .int (oI (((p : Nat) : Int))), .int (oI (f)), .int (oI (((ac : Nat) : Int))), .int (oI (((x1 : Nat) : Int))), .int (oI (((x2 : Nat) : Int))), .int (oI (on))]) := (hq_4 _ (by decide)).trans e57
  have hf : ∀ q : Nat, q ≠ 57 → q ≠ 58 → σ_3 q = σ q := fun q n0 n1 => (hq_4 q n1).trans (hf q n0 n1)
  refine lv_aload_n hx hb dX0_add_31 rfl (lv_at hl 0 rfl) ?_
  refine lv_dup hx hb dX0_add_32 rfl ?_
  refine gf_X0_size hx hb hts hown hK hH (k := 57) (by omega) e57 dX0_add_33 ?_
  refine m_iconst 1 hx hb dX0_add_36 rfl ?_
  refine m_iadd (((z : Nat) : Int) + 1) hx hb dX0_add_37 (by omega) ?_
  refine pf_X0_size hx hb hts hown hK hH hA (k := 57) (by omega) e57 dX0_add_38 (fun H locs σ_5 e57 hq_6 hH => ?_)
  have e58 : σ_5 (58) = oAC cT 120 (va_up T z ((c : Nat) : Int)) := (hq_6 _ (by decide)).trans e58
  have hf : ∀ q : Nat, q ≠ 57 → q ≠ 58 → σ_5 q = σ q := fun q n0 n1 => (hq_6 q n0).trans (hf q n0 n1)
  refine m_iconst 1 hx hb dX0_add_41 rfl ?_
  exact m_iret hx hb hlk hrt hH m_z1 dX0_add_42 ⟨rfl, e57, e58, hf⟩
set_option maxHeartbeats 4000000 in
set_option maxRecDepth 100000 in
theorem c0_add0 {l : Launch} {D : va_G} {cT : Nat → ClassId} {N b0 : Nat} {ad : Nat → Nat} (hA : oAd b0 N ad) {σ : Nat → va_E} (c : Nat) (T : Nat → Int) (z p ac x1 x2 : Nat) (f on : Int) (hN : 76 ≤ N) (hT : ∀ i : Nat, i < z → 0 ≤ T i ∧ T i ≤ 255) (hz : z ≤ 120) (hp : p ≤ 150) (hf0 : -2147483648 ≤ f ∧ f < 2147483648) (hz2 : z = 120) (e57 : σ (57) = .inr (0, [.ref (ad (58)), .int (oI (((z : Nat) : Int))), .int (oI (((p : Nat) : Int))), .int (oI (f)), .int (oI (((ac : Nat) : Int))), .int (oI (((x1 : Nat) : Int))), .int (oI (((x2 : Nat) : Int))), .int (oI (on))])) (e58 : σ (58) = oAC cT 120 T) :
    oCi l D cT N ad b0 yX0_add cX0_add 2 (some .boolean) 0 0 [.ref (ad (57)), .int (oI (((c : Nat) : Int)))] σ (fun rr uu => rr = oI (0) ∧ uu = σ) := by
  refine m_start (cc := cX0_add) (by decide) (Nat.le_of_ble_eq_true rfl) rfl ?_
  intro Pp Ee Ss Mm Bb Me Cc Ar ls hx hb hml hown hlk hrt hts hK hH hl
  have hown : Ss.vm.findClass RX0 = some Mm.cls := hown
  have hl : lv_has ls 2 [(0, .ref (ad (57))), (1, .int (oI (((c : Nat) : Int))))] := hl
  refine lv_aload_n hx hb dX0_add_0 rfl (lv_at hl 0 rfl) ?_
  refine gf_X0_size hx hb hts hown hK hH (k := 57) (by omega) e57 dX0_add_1 ?_
  refine m_if_lt 19 hx hb dX0_add_4 (by decide) (by omega) (fun h_1 => absurd h_1 (by omega)) (fun h_1 => ?_)
  refine lv_aload_n hx hb dX0_add_7 rfl (lv_at hl 0 rfl) ?_
  refine gf_X0_size hx hb hts hown hK hH (k := 57) (by omega) e57 dX0_add_8 ?_
  refine lv_aload_n hx hb dX0_add_11 rfl (lv_at hl 0 rfl) ?_
  refine gf_X0_signs hx hb hts hown hK hH (k := 57) (by omega) e57 dX0_add_12 ?_
  refine m_alen hx hb hK hH (k := 58) (by omega) e58 2 rfl 120 rfl dX0_add_15 ?_
  refine m_icmp_lt 21 hx hb dX0_add_16 (by decide) (by omega) (by omega) (fun h_2 => absurd h_2 (by omega)) (fun h_2 => ?_)
  refine m_iconst 0 hx hb dX0_add_19 rfl ?_
  exact m_iret hx hb hlk hrt hH m_z0 dX0_add_20 ⟨rfl, rfl⟩
set_option maxHeartbeats 4000000 in
set_option maxRecDepth 100000 in
theorem c0_size {l : Launch} {D : va_G} {cT : Nat → ClassId} {N b0 : Nat} {ad : Nat → Nat} (hA : oAd b0 N ad) {σ : Nat → va_E} (T : Nat → Int) (z p ac x1 x2 : Nat) (f on : Int) (hN : 76 ≤ N) (hT : ∀ i : Nat, i < z → 0 ≤ T i ∧ T i ≤ 255) (hz : z ≤ 120) (hp : p ≤ 150) (hf0 : -2147483648 ≤ f ∧ f < 2147483648) (e57 : σ (57) = .inr (0, [.ref (ad (58)), .int (oI (((z : Nat) : Int))), .int (oI (((p : Nat) : Int))), .int (oI (f)), .int (oI (((ac : Nat) : Int))), .int (oI (((x1 : Nat) : Int))), .int (oI (((x2 : Nat) : Int))), .int (oI (on))])) (e58 : σ (58) = oAC cT 120 T) :
    oCi l D cT N ad b0 yX0_size cX0_size 1 (some .int) 0 0 [.ref (ad (57))] σ (fun rr uu => rr = oI (((z : Nat) : Int)) ∧ uu = σ) := by
  refine m_start (cc := cX0_size) (by decide) (Nat.le_of_ble_eq_true rfl) rfl ?_
  intro Pp Ee Ss Mm Bb Me Cc Ar ls hx hb hml hown hlk hrt hts hK hH hl
  have hown : Ss.vm.findClass RX0 = some Mm.cls := hown
  have hl : lv_has ls 1 [(0, .ref (ad (57)))] := hl
  refine lv_aload_n hx hb dX0_size_0 rfl (lv_at hl 0 rfl) ?_
  refine gf_X0_size hx hb hts hown hK hH (k := 57) (by omega) e57 dX0_size_1 ?_
  exact m_iret hx hb hlk hrt hH (m_ni _) dX0_size_4 ⟨rfl, rfl⟩
set_option maxHeartbeats 4000000 in
set_option maxRecDepth 100000 in
theorem c0_empty {l : Launch} {D : va_G} {cT : Nat → ClassId} {N b0 : Nat} {ad : Nat → Nat} (hA : oAd b0 N ad) {σ : Nat → va_E} (T : Nat → Int) (z p ac x1 x2 : Nat) (f on : Int) (hN : 76 ≤ N) (hT : ∀ i : Nat, i < z → 0 ≤ T i ∧ T i ≤ 255) (hz : z ≤ 120) (hp : p ≤ 150) (hf0 : -2147483648 ≤ f ∧ f < 2147483648) (e57 : σ (57) = .inr (0, [.ref (ad (58)), .int (oI (((z : Nat) : Int))), .int (oI (((p : Nat) : Int))), .int (oI (f)), .int (oI (((ac : Nat) : Int))), .int (oI (((x1 : Nat) : Int))), .int (oI (((x2 : Nat) : Int))), .int (oI (on))])) (e58 : σ (58) = oAC cT 120 T) :
    oCi l D cT N ad b0 yX0_empty cX0_empty 2 (some .int) 0 0 [.ref (ad (57))] σ (fun rr uu => rr = oI (((z : Nat) : Int)) ∧ uu (57) = .inr (0, [.ref (ad (58)), .int (oI (0)), .int (oI (((p : Nat) : Int))), .int (oI (f)), .int (oI (((ac : Nat) : Int))), .int (oI (((x1 : Nat) : Int))), .int (oI (((x2 : Nat) : Int))), .int (oI (on))]) ∧ (∀ q : Nat, q ≠ 57 → uu q = σ q)) := by
  refine m_start (cc := cX0_empty) (by decide) (Nat.le_of_ble_eq_true rfl) rfl ?_
  intro Pp Ee Ss Mm Bb Me Cc Ar ls hx hb hml hown hlk hrt hts hK hH hl
  have hown : Ss.vm.findClass RX0 = some Mm.cls := hown
  have hl : lv_has ls 2 [(0, .ref (ad (57)))] := hl
  have hf : ∀ q : Nat, q ≠ 57 → σ q = σ q := fun q _ => rfl
  refine lv_aload_n hx hb dX0_empty_0 rfl (lv_at hl 0 rfl) ?_
  refine gf_X0_size hx hb hts hown hK hH (k := 57) (by omega) e57 dX0_empty_1 ?_
  refine lv_istore_n (lv' := [(1, .int (oI (((z : Nat) : Int)))), (0, .ref (ad (57)))]) hx hb dX0_empty_4 rfl hl (by decide) rfl (fun ls hl => ?_)
  refine lv_aload_n hx hb dX0_empty_5 rfl (lv_at hl 1 rfl) ?_
  refine m_iconst 0 hx hb dX0_empty_6 rfl ?_
  refine pf_X0_size hx hb hts hown hK hH hA (k := 57) (by omega) e57 dX0_empty_7 (fun H locs σ_1 e57 hq_2 hH => ?_)
  have e58 : σ_1 (58) = oAC cT 120 T := (hq_2 _ (by decide)).trans e58
  have hf : ∀ q : Nat, q ≠ 57 → σ_1 q = σ q := fun q n0 => (hq_2 q n0).trans (hf q n0)
  refine lv_iload_n hx hb dX0_empty_10 rfl (lv_at hl 0 rfl) ?_
  exact m_iret hx hb hlk hrt hH (m_ni _) dX0_empty_11 ⟨rfl, e57, hf⟩
set_option maxHeartbeats 4000000 in
set_option maxRecDepth 100000 in
theorem c0_sign {l : Launch} {D : va_G} {cT : Nat → ClassId} {N b0 : Nat} {ad : Nat → Nat} (hA : oAd b0 N ad) {σ : Nat → va_E} (x : Int) (T : Nat → Int) (z p ac x1 x2 : Nat) (f on : Int) (hN : 76 ≤ N) (hT : ∀ i : Nat, i < z → 0 ≤ T i ∧ T i ≤ 255) (hz : z ≤ 120) (hp : p ≤ 1000) (hf0 : -2147483648 ≤ f ∧ f < 2147483648) (hbx : -2147483648 ≤ x ∧ x < 2147483648) (e57 : σ (57) = .inr (0, [.ref (ad (58)), .int (oI (((z : Nat) : Int))), .int (oI (((p : Nat) : Int))), .int (oI (f)), .int (oI (((ac : Nat) : Int))), .int (oI (((x1 : Nat) : Int))), .int (oI (((x2 : Nat) : Int))), .int (oI (on))])) (e58 : σ (58) = oAC cT 120 T) :
    oCi l D cT N ad b0 yX0_sign cX0_sign 2 (some .char) 0 0 [.ref (ad (57)), .int (oI (x))] σ (fun rr uu => rr = oI ((oSg T z x)) ∧ uu = σ) := by
  refine m_start (cc := cX0_sign) (by decide) (Nat.le_of_ble_eq_true rfl) rfl ?_
  intro Pp Ee Ss Mm Bb Me Cc Ar ls hx hb hml hown hlk hrt hts hK hH hl
  have hown : Ss.vm.findClass RX0 = some Mm.cls := hown
  have hl : lv_has ls 2 [(0, .ref (ad (57))), (1, .int (oI (x)))] := hl
  refine lv_iload_n hx hb dX0_sign_0 rfl (lv_at hl 1 rfl) ?_
  refine m_if_lt 30 hx hb dX0_sign_1 (by decide) (by omega) (fun h_1 => ?_) (fun h_1 => ?_)
  · refine m_iconst 0 hx hb dX0_sign_30 rfl ?_
    exact m_iret hx hb hlk hrt hH (m_nch (by omega)) dX0_sign_31 ⟨congrArg oI (by rw [oSg_out (by omega)]), rfl⟩
  · refine lv_iload_n hx hb dX0_sign_4 rfl (lv_at hl 1 rfl) ?_
    refine lv_aload_n hx hb dX0_sign_5 rfl (lv_at hl 0 rfl) ?_
    refine gf_X0_size hx hb hts hown hK hH (k := 57) (by omega) e57 dX0_sign_6 ?_
    refine m_icmp_ge 30 hx hb dX0_sign_9 (by decide) (by omega) (by omega) (fun h_2 => ?_) (fun h_2 => ?_)
    · refine m_iconst 0 hx hb dX0_sign_30 rfl ?_
      exact m_iret hx hb hlk hrt hH (m_nch (by omega)) dX0_sign_31 ⟨congrArg oI (by rw [oSg_out (by omega)]), rfl⟩
    · refine lv_iload_n hx hb dX0_sign_12 rfl (lv_at hl 1 rfl) ?_
      refine lv_aload_n hx hb dX0_sign_13 rfl (lv_at hl 0 rfl) ?_
      refine gf_X0_signs hx hb hts hown hK hH (k := 57) (by omega) e57 dX0_sign_14 ?_
      refine m_alen hx hb hK hH (k := 58) (by omega) e58 2 rfl 120 rfl dX0_sign_17 ?_
      refine m_icmp_ge 30 hx hb dX0_sign_18 (by decide) (by omega) (by omega) (fun h_3 => absurd h_3 (by omega)) (fun h_3 => ?_)
      refine lv_aload_n hx hb dX0_sign_21 rfl (lv_at hl 0 rfl) ?_
      refine gf_X0_signs hx hb hts hown hK hH (k := 57) (by omega) e57 dX0_sign_22 ?_
      refine lv_iload_n hx hb dX0_sign_25 rfl (lv_at hl 1 rfl) ?_
      refine m_cald hx hb hK hH (k := 58) (by omega) e58 ((x).toNat) (by omega) (by omega) (by decide) dX0_sign_26 ?_
      refine lv_goto (tgt := 31) hx hb dX0_sign_27 (by decide) ?_
      exact m_iret hx hb hlk hrt hH (m_nch (by have := hT x.toNat (by omega); omega)) dX0_sign_31 ⟨congrArg oI (by rw [oSg_in (by omega)]), rfl⟩
set_option maxHeartbeats 4000000 in
set_option maxRecDepth 100000 in
theorem c0_open {l : Launch} {D : va_G} {cT : Nat → ClassId} {N b0 : Nat} {ad : Nat → Nat} (hA : oAd b0 N ad) {σ : Nat → va_E} (T : Nat → Int) (z p ac x1 x2 : Nat) (f on : Int) (hN : 76 ≤ N) (hT : ∀ i : Nat, i < z → 0 ≤ T i ∧ T i ≤ 255) (hz : z ≤ 120) (hp : p ≤ 150) (hf0 : -2147483648 ≤ f ∧ f < 2147483648) (e57 : σ (57) = .inr (0, [.ref (ad (58)), .int (oI (((z : Nat) : Int))), .int (oI (((p : Nat) : Int))), .int (oI (f)), .int (oI (((ac : Nat) : Int))), .int (oI (((x1 : Nat) : Int))), .int (oI (((x2 : Nat) : Int))), .int (oI (on))])) (e58 : σ (58) = oAC cT 120 T) :
    oCv l D cT N ad b0 yX0_open cX0_open 1 none 1 21 [.ref (ad (57))] σ (fun uu => ∃ fq : Int, ((fq = -1 ∧ oSg T z 0 = 75) ∨ (fq = 0 ∧ oSg T z 0 ≠ 75)) ∧ uu (57) = .inr (0, [.ref (ad (58)), .int (oI (((z : Nat) : Int))), .int (oI (1)), .int (oI (fq)), .int (oI (((ac : Nat) : Int))), .int (oI (((x1 : Nat) : Int))), .int (oI (((x2 : Nat) : Int))), .int (oI (on))]) ∧ (∀ q : Nat, q ≠ 57 → uu q = σ q)) := by
  refine m_start (cc := cX0_open) (by decide) (Nat.le_of_ble_eq_true rfl) rfl ?_
  intro Pp Ee Ss Mm Bb Me Cc Ar ls hx hb hml hown hlk hrt hts hK hH hl
  have hown : Ss.vm.findClass RX0 = some Mm.cls := hown
  have hsb := oSg_b hT 0
  have hl : lv_has ls 1 [(0, .ref (ad (57)))] := hl
  have hf : ∀ q : Nat, q ≠ 57 → σ q = σ q := fun q _ => rfl
  refine lv_aload_n hx hb dX0_open_0 rfl (lv_at hl 0 rfl) ?_
  refine m_iconst 1 hx hb dX0_open_1 rfl ?_
  refine pf_X0_at hx hb hts hown hK hH hA (k := 57) (by omega) e57 dX0_open_2 (fun H locs σ_1 e57 hq_2 hH => ?_)
  have e58 : σ_1 (58) = oAC cT 120 T := (hq_2 _ (by decide)).trans e58
  have hf : ∀ q : Nat, q ≠ 57 → σ_1 q = σ q := fun q n0 => (hq_2 q n0).trans (hf q n0)
  refine lv_aload_n hx hb dX0_open_5 rfl (lv_at hl 0 rfl) ?_
  refine lv_aload_n hx hb dX0_open_6 rfl (lv_at hl 0 rfl) ?_
  refine m_iconst 0 hx hb dX0_open_7 rfl ?_
  refine m_pVi hx hb hml hown hts hK hH hl (rest := [.ref (ad (57))]) cw_X0_50 (c0_sign hA 0 T z 1 ac x1 x2 f on (by first | assumption | omega) (by first | assumption | omega) (by first | assumption | omega) (by first | assumption | omega) (by first | assumption | omega) (by first | assumption | omega) e57 e58) ⟨Nat.le_of_ble_eq_true rfl, Nat.le_of_ble_eq_true rfl⟩ ⟨Nat.le_of_ble_eq_true rfl, Nat.le_of_ble_eq_true rfl⟩ rfl (k := 57) (by omega) e57 rfl rfl (Nat.le_of_ble_eq_true rfl) dX0_open_8 (fun H locs hH => ?_)
  refine m_bipush 75 hx hb dX0_open_11 (by decide) ?_
  refine m_icmp_ne 20 hx hb dX0_open_13 (by decide) (by omega) (by omega) (fun hk => ?_) (fun hk => ?_)
  · refine m_iconst 0 hx hb dX0_open_20 rfl ?_
    refine pf_X0_fault hx hb hts hown hK hH hA (k := 57) (by omega) e57 dX0_open_21 (fun H locs σ_4 e57 hq_5 hH => ?_)
    have e58 : σ_4 (58) = oAC cT 120 T := (hq_5 _ (by decide)).trans e58
    have hf : ∀ q : Nat, q ≠ 57 → σ_4 q = σ q := fun q n0 => (hq_5 q n0).trans (hf q n0)
    exact m_vret hx hb hlk hrt hH dX0_open_24 ⟨0, (Or.inr ⟨rfl, hk⟩), e57, hf⟩
  · refine m_iconst (-1) hx hb dX0_open_16 rfl ?_
    refine lv_goto (tgt := 21) hx hb dX0_open_17 (by decide) ?_
    refine pf_X0_fault hx hb hts hown hK hH hA (k := 57) (by omega) e57 dX0_open_21 (fun H locs σ_6 e57 hq_7 hH => ?_)
    have e58 : σ_6 (58) = oAC cT 120 T := (hq_7 _ (by decide)).trans e58
    have hf : ∀ q : Nat, q ≠ 57 → σ_6 q = σ q := fun q n0 => (hq_7 q n0).trans (hf q n0)
    exact m_vret hx hb hlk hrt hH dX0_open_24 ⟨-1, (Or.inl ⟨rfl, hk⟩), e57, hf⟩
set_option maxHeartbeats 4000000 in
set_option maxRecDepth 100000 in
theorem c0_hold {l : Launch} {D : va_G} {cT : Nat → ClassId} {N b0 : Nat} {ad : Nat → Nat} (hA : oAd b0 N ad) {σ : Nat → va_E} (b1 b2 b3 : Nat) (T : Nat → Int) (z p ac x1 x2 : Nat) (f on : Int) (hN : 76 ≤ N) (hT : ∀ i : Nat, i < z → 0 ≤ T i ∧ T i ≤ 255) (hz : z ≤ 120) (hp : p ≤ 150) (hf0 : -2147483648 ≤ f ∧ f < 2147483648) (e57 : σ (57) = .inr (0, [.ref (ad (58)), .int (oI (((z : Nat) : Int))), .int (oI (((p : Nat) : Int))), .int (oI (f)), .int (oI (((ac : Nat) : Int))), .int (oI (((x1 : Nat) : Int))), .int (oI (((x2 : Nat) : Int))), .int (oI (on))])) (e58 : σ (58) = oAC cT 120 T) :
    oCv l D cT N ad b0 yX0_hold cX0_hold 4 none 0 0 [.ref (ad (57)), .int (oI (((b1 : Nat) : Int))), .int (oI (((b2 : Nat) : Int))), .int (oI (((b3 : Nat) : Int)))] σ (fun uu => uu (57) = .inr (0, [.ref (ad (58)), .int (oI (((z : Nat) : Int))), .int (oI (((p : Nat) : Int))), .int (oI (f)), .int (oI (((b1 : Nat) : Int))), .int (oI (((b2 : Nat) : Int))), .int (oI (((b3 : Nat) : Int))), .int (oI (on))]) ∧ (∀ q : Nat, q ≠ 57 → uu q = σ q)) := by
  refine m_start (cc := cX0_hold) (by decide) (Nat.le_of_ble_eq_true rfl) rfl ?_
  intro Pp Ee Ss Mm Bb Me Cc Ar ls hx hb hml hown hlk hrt hts hK hH hl
  have hown : Ss.vm.findClass RX0 = some Mm.cls := hown
  have hl : lv_has ls 4 [(0, .ref (ad (57))), (1, .int (oI (((b1 : Nat) : Int)))), (2, .int (oI (((b2 : Nat) : Int)))), (3, .int (oI (((b3 : Nat) : Int))))] := hl
  have hf : ∀ q : Nat, q ≠ 57 → σ q = σ q := fun q _ => rfl
  refine lv_aload_n hx hb dX0_hold_0 rfl (lv_at hl 0 rfl) ?_
  refine lv_iload_n hx hb dX0_hold_1 rfl (lv_at hl 1 rfl) ?_
  refine pf_X0_action hx hb hts hown hK hH hA (k := 57) (by omega) e57 dX0_hold_2 (fun H locs σ_1 e57 hq_2 hH => ?_)
  have e58 : σ_1 (58) = oAC cT 120 T := (hq_2 _ (by decide)).trans e58
  have hf : ∀ q : Nat, q ≠ 57 → σ_1 q = σ q := fun q n0 => (hq_2 q n0).trans (hf q n0)
  refine lv_aload_n hx hb dX0_hold_5 rfl (lv_at hl 0 rfl) ?_
  refine lv_iload_n hx hb dX0_hold_6 rfl (lv_at hl 2 rfl) ?_
  refine pf_X0_first hx hb hts hown hK hH hA (k := 57) (by omega) e57 dX0_hold_7 (fun H locs σ_3 e57 hq_4 hH => ?_)
  have e58 : σ_3 (58) = oAC cT 120 T := (hq_4 _ (by decide)).trans e58
  have hf : ∀ q : Nat, q ≠ 57 → σ_3 q = σ q := fun q n0 => (hq_4 q n0).trans (hf q n0)
  refine lv_aload_n hx hb dX0_hold_10 rfl (lv_at hl 0 rfl) ?_
  refine lv_iload_n hx hb dX0_hold_11 rfl (lv_at hl 3 rfl) ?_
  refine pf_X0_second hx hb hts hown hK hH hA (k := 57) (by omega) e57 dX0_hold_12 (fun H locs σ_5 e57 hq_6 hH => ?_)
  have e58 : σ_5 (58) = oAC cT 120 T := (hq_6 _ (by decide)).trans e58
  have hf : ∀ q : Nat, q ≠ 57 → σ_5 q = σ q := fun q n0 => (hq_6 q n0).trans (hf q n0)
  exact m_vret hx hb hlk hrt hH dX0_hold_15 ⟨e57, hf⟩
set_option maxHeartbeats 4000000 in
set_option maxRecDepth 100000 in
theorem c0_num1 {l : Launch} {D : va_G} {cT : Nat → ClassId} {N b0 : Nat} {ad : Nat → Nat} (hA : oAd b0 N ad) {σ : Nat → va_E} (lo hi : Nat) (T : Nat → Int) (z p ac x1 x2 : Nat) (f on : Int) (hN : 76 ≤ N) (hT : ∀ i : Nat, i < z → 0 ≤ T i ∧ T i ≤ 255) (hz : z ≤ 120) (hp : p ≤ 150) (hf0 : -2147483648 ≤ f ∧ f < 2147483648) (hfm : f = -1) (hhi : hi ≤ 150) (hlo : lo ≤ 150) (e57 : σ (57) = .inr (0, [.ref (ad (58)), .int (oI (((z : Nat) : Int))), .int (oI (((p : Nat) : Int))), .int (oI (f)), .int (oI (((ac : Nat) : Int))), .int (oI (((x1 : Nat) : Int))), .int (oI (((x2 : Nat) : Int))), .int (oI (on))])) (e58 : σ (58) = oAC cT 120 T) :
    oCi l D cT N ad b0 yX0_number cX0_number 9 (some .int) 1 21 [.ref (ad (57)), .int (oI (1)), .int (oI (((lo : Nat) : Int))), .int (oI (((hi : Nat) : Int)))] σ (fun rr uu => ∃ v2 : Nat, ∃ p2 : Nat, ∃ fo : Int, rr = oI (((v2 : Nat) : Int)) ∧ (oNm T z lo hi 1 p 0 = (fo, p2, v2)) ∧ (p2 ≤ p + 3) ∧ (-1 ≤ fo ∧ fo ≤ 200) ∧ (v2 ≤ hi) ∧ uu (57) = .inr (0, [.ref (ad (58)), .int (oI (((z : Nat) : Int))), .int (oI (((p2 : Nat) : Int))), .int (oI (fo)), .int (oI (((ac : Nat) : Int))), .int (oI (((x1 : Nat) : Int))), .int (oI (((x2 : Nat) : Int))), .int (oI (on))]) ∧ (∀ q : Nat, q ≠ 57 → uu q = σ q)) := by
  refine m_start (cc := cX0_number) (by decide) (Nat.le_of_ble_eq_true rfl) rfl ?_
  intro Pp Ee Ss Mm Bb Me Cc Ar ls hx hb hml hown hlk hrt hts hK hH hl
  have hown : Ss.vm.findClass RX0 = some Mm.cls := hown
  have hl : lv_has ls 9 [(0, .ref (ad (57))), (1, .int (oI (1))), (2, .int (oI (((lo : Nat) : Int)))), (3, .int (oI (((hi : Nat) : Int))))] := hl
  have hf : ∀ q : Nat, q ≠ 57 → σ q = σ q := fun q _ => rfl
  refine m_iconst 0 hx hb dX0_number_0 rfl ?_
  refine lv_istore (lv' := [(4, .int (oI (0))), (0, .ref (ad (57))), (1, .int (oI (1))), (2, .int (oI (((lo : Nat) : Int)))), (3, .int (oI (((hi : Nat) : Int))))]) hx hb dX0_number_1 hl (by decide) rfl (fun ls hl => ?_)
  refine lv_iload_n hx hb dX0_number_3 rfl (lv_at hl 2 rfl) ?_
  refine m_iconst 3 hx hb dX0_number_4 rfl ?_
  refine m_icmp_ne 13 hx hb dX0_number_5 (by decide) (by omega) (by omega) (fun h_1 => ?_) (fun h_1 => absurd h_1 (by omega))
  refine lv_iload_n hx hb dX0_number_13 rfl (lv_at hl 2 rfl) ?_
  refine m_iconst 2 hx hb dX0_number_14 rfl ?_
  refine m_icmp_ne 23 hx hb dX0_number_15 (by decide) (by omega) (by omega) (fun h_2 => ?_) (fun h_2 => absurd h_2 (by omega))
  refine m_iconst 1 hx hb dX0_number_23 rfl ?_
  refine lv_istore (lv' := [(5, .int (oI (1))), (4, .int (oI (0))), (0, .ref (ad (57))), (1, .int (oI (1))), (2, .int (oI (((lo : Nat) : Int)))), (3, .int (oI (((hi : Nat) : Int))))]) hx hb dX0_number_24 hl (by decide) rfl (fun ls hl => ?_)
  refine m_iconst 0 hx hb dX0_number_26 rfl ?_
  refine lv_istore (lv' := [(6, .int (oI (0))), (5, .int (oI (1))), (4, .int (oI (0))), (0, .ref (ad (57))), (1, .int (oI (1))), (2, .int (oI (((lo : Nat) : Int)))), (3, .int (oI (((hi : Nat) : Int))))]) hx hb dX0_number_27 hl (by decide) rfl (fun ls hl => ?_)
  have L29 : ∀ (fu : Nat) (i : Nat) (v : Nat) (u : Nat) (q : Nat) (fq : Int), (2 - i < fu) → (i ≤ 1) → ((i = 0 ∧ u = 1) ∨ (i = 1 ∧ u = 0)) → (v ≤ hi) → (q ≤ p + i) → ((fq = -1 ∧ oNm T z lo hi (1 - i) q v = oNm T z lo hi 1 p 0) ∨ (fq = ((q : Nat) : Int) ∧ oNm T z lo hi 1 p 0 = (fq, q, v))) → ∀ σL29 : Nat → va_E, σL29 (57) = .inr (0, [.ref (ad (58)), .int (oI (((z : Nat) : Int))), .int (oI (((q : Nat) : Int))), .int (oI (fq)), .int (oI (((ac : Nat) : Int))), .int (oI (((x1 : Nat) : Int))), .int (oI (((x2 : Nat) : Int))), .int (oI (on))]) → (∀ q : Nat, q ≠ 57 → σL29 q = σ q) → ∀ (H : Heap) (locs : List Loc), oH b0 D N ad Ss.heap σL29 H locs → ∀ ls : Array Slot, lv_has ls 9 [(0, .ref (ad (57))), (1, .int (oI (1))), (2, .int (oI (((lo : Nat) : Int)))), (3, .int (oI (((hi : Nat) : Int)))), (4, .int (oI (((v : Nat) : Int)))), (5, .int (oI (((u : Nat) : Int)))), (6, .int (oI (((i : Nat) : Int))))] → W Pp l Ee { frames := 1, cells := 0, slots := 0, locals := 21 } Ss Mm Ar Bb Me Cc H locs 0 0 (MQ Bb (va_Qi (fun rr uu => ∃ v2 : Nat, ∃ p2 : Nat, ∃ fo : Int, rr = oI (((v2 : Nat) : Int)) ∧ (oNm T z lo hi 1 p 0 = (fo, p2, v2)) ∧ (p2 ≤ p + 3) ∧ (-1 ≤ fo ∧ fo ≤ 200) ∧ (v2 ≤ hi) ∧ uu (57) = .inr (0, [.ref (ad (58)), .int (oI (((z : Nat) : Int))), .int (oI (((p2 : Nat) : Int))), .int (oI (fo)), .int (oI (((ac : Nat) : Int))), .int (oI (((x1 : Nat) : Int))), .int (oI (((x2 : Nat) : Int))), .int (oI (on))]) ∧ (∀ q : Nat, q ≠ 57 → uu q = σ q)) (oV D N ad) (fun q => b0 ≤ q)) Ar Ss 0 0 (fun q => b0 ≤ q)) (F0 Mm 29 ls []) := by
    intro fu29
    induction fu29 with
    | zero =>
      intro i v u q fq hm29
      exact absurd hm29 (Nat.not_lt_zero _)
    | succ fu29 ih29 =>
      intro i v u q fq hm29 hi4 hu hv hq hres σL29 e57 hL29 H locs hH ls hl
      have e58 : σL29 (58) = oAC cT 120 T := (hL29 _ (by decide)).trans e58
      have hf : ∀ q : Nat, q ≠ 57 → σL29 q = σ q := fun q n0 => (hL29 q n0).trans (hf q n0)
      refine lv_iload hx hb dX0_number_29 (lv_at hl 6 rfl) ?_
      refine lv_iload_n hx hb dX0_number_31 rfl (lv_at hl 1 rfl) ?_
      refine m_icmp_ge 139 hx hb dX0_number_32 (by decide) (by omega) (by omega) (fun h_3 => ?_) (fun h_3 => ?_)
      · refine lv_iload hx hb dX0_number_139 (lv_at hl 4 rfl) ?_
        exact m_iret hx hb hlk hrt hH (m_ni _) dX0_number_141 ⟨v, q, fq, rfl, (by rcases hres with ⟨e1, e⟩ | ⟨_, e⟩; rw [← e, show 1 - i = 0 by omega, e1]; rfl; exact e), (by omega), (by rcases hres with ⟨e1, e⟩ | ⟨e1, e⟩ <;> omega), hv, e57, hf⟩
      · refine lv_iload hx hb dX0_number_35 (lv_at hl 6 rfl) ?_
        refine m_iconst 3 hx hb dX0_number_37 rfl ?_
        refine m_icmp_ge 139 hx hb dX0_number_38 (by decide) (by omega) (by omega) (fun h_4 => absurd h_4 (by omega)) (fun h_4 => ?_)
        refine lv_aload_n hx hb dX0_number_41 rfl (lv_at hl 0 rfl) ?_
        refine gf_X0_fault hx hb hts hown hK hH (k := 57) (by omega) e57 dX0_number_42 ?_
        refine m_iconst (-1) hx hb dX0_number_45 rfl ?_
        refine m_icmp_ne 139 hx hb dX0_number_46 (by decide) (by omega) (by omega) (fun hfq => ?_) (fun hfq => ?_)
        · refine lv_iload hx hb dX0_number_139 (lv_at hl 4 rfl) ?_
          exact m_iret hx hb hlk hrt hH (m_ni _) dX0_number_141 ⟨v, q, fq, rfl, (by rcases hres with ⟨e1, e⟩ | ⟨_, e⟩; exact absurd e1 hfq; exact e), (by omega), (by rcases hres with ⟨e1, e⟩ | ⟨e1, e⟩ <;> omega), hv, e57, hf⟩
        · have hres : oNm T z lo hi (1 - i) q v = oNm T z lo hi 1 p 0 := by
              rcases hres with ⟨-, e⟩ | ⟨e, -⟩
              · exact e
              · omega
          refine lv_aload_n hx hb dX0_number_49 rfl (lv_at hl 0 rfl) ?_
          refine lv_aload_n hx hb dX0_number_50 rfl (lv_at hl 0 rfl) ?_
          refine gf_X0_at hx hb hts hown hK hH (k := 57) (by omega) e57 dX0_number_51 ?_
          refine m_pVi hx hb hml hown hts hK hH hl (rest := []) cw_X0_50 (c0_sign hA ((q : Nat) : Int) T z q ac x1 x2 fq on (by first | assumption | omega) (by first | assumption | omega) (by first | assumption | omega) (by first | assumption | omega) (by first | assumption | omega) (by first | assumption | omega) e57 e58) ⟨Nat.le_of_ble_eq_true rfl, Nat.le_of_ble_eq_true rfl⟩ ⟨Nat.le_of_ble_eq_true rfl, Nat.le_of_ble_eq_true rfl⟩ rfl (k := 57) (by omega) e57 rfl rfl (Nat.le_of_ble_eq_true rfl) dX0_number_54 (fun H locs hH => ?_)
          refine m_bipush 48 hx hb dX0_number_57 (by decide) ?_
          have hsb := oSg_b hT ((q : Nat) : Int)
          obtain ⟨d, hd⟩ : ∃ y : Int, oSg T z ((q : Nat) : Int) - 48 = y := ⟨_, rfl⟩
          refine m_isub ((oSg T z ((q : Nat) : Int)) - 48) hx hb dX0_number_59 (by omega) ?_
          refine m_topI (d) (by rw [← hd]) ?_
          refine lv_istore (lv' := [(7, .int (oI (d))), (0, .ref (ad (57))), (1, .int (oI (1))), (2, .int (oI (((lo : Nat) : Int)))), (3, .int (oI (((hi : Nat) : Int)))), (4, .int (oI (((v : Nat) : Int)))), (5, .int (oI (((u : Nat) : Int)))), (6, .int (oI (((i : Nat) : Int))))]) hx hb dX0_number_60 hl (by decide) rfl (fun ls hl => ?_)
          refine lv_iload hx hb dX0_number_62 (lv_at hl 5 rfl) ?_
          refine lv_iload hx hb dX0_number_64 (lv_at hl 0 rfl) ?_
          refine lv_iload hx hb dX0_number_66 (lv_at hl 6 rfl) ?_
          refine m_imul ((d * ((u : Nat) : Int))) hx hb dX0_number_68 (rfl) ?_
          obtain ⟨nx, hnx⟩ : ∃ y : Int, ((v : Nat) : Int) + d * ((u : Nat) : Int) = y := ⟨_, rfl⟩
          have hnb : -10000 ≤ nx ∧ nx ≤ 30000 := by rcases hu with ⟨rfl, rfl⟩ | ⟨rfl, rfl⟩ <;> omega
          refine m_iadd ((d * ((u : Nat) : Int)) + ((v : Nat) : Int)) hx hb dX0_number_69 (by omega) ?_
          refine m_topI (nx) (by rw [← hnx]; omega) ?_
          refine lv_istore (lv' := [(8, .int (oI (nx))), (7, .int (oI (d))), (0, .ref (ad (57))), (1, .int (oI (1))), (2, .int (oI (((lo : Nat) : Int)))), (3, .int (oI (((hi : Nat) : Int)))), (4, .int (oI (((v : Nat) : Int)))), (5, .int (oI (((u : Nat) : Int)))), (6, .int (oI (((i : Nat) : Int))))]) hx hb dX0_number_70 hl (by decide) rfl (fun ls hl => ?_)
          refine lv_iload hx hb dX0_number_72 (lv_at hl 1 rfl) ?_
          refine m_if_lt 101 hx hb dX0_number_74 (by decide) (by omega) (fun h_6 => ?_) (fun h_6 => ?_)
          · refine lv_aload_n hx hb dX0_number_101 rfl (lv_at hl 2 rfl) ?_
            refine lv_aload_n hx hb dX0_number_102 rfl (lv_at hl 2 rfl) ?_
            refine gf_X0_at hx hb hts hown hK hH (k := 57) (by omega) e57 dX0_number_103 ?_
            refine pf_X0_fault hx hb hts hown hK hH hA (k := 57) (by omega) e57 dX0_number_106 (fun H locs σ_7 e57 hq_8 hH => ?_)
            have e58 : σ_7 (58) = oAC cT 120 T := (hq_8 _ (by decide)).trans e58
            have hf : ∀ q : Nat, q ≠ 57 → σ_7 q = σ q := fun q n0 => (hq_8 q n0).trans (hf q n0)
            have hL29 : ∀ q : Nat, q ≠ 57 → σ_7 q = σ q := fun q n0 => (hq_8 q n0).trans (hL29 q n0)
            refine lv_goto (tgt := 126) hx hb dX0_number_109 (by decide) ?_
            refine lv_iload hx hb dX0_number_126 (lv_at hl 7 rfl) ?_
            refine m_bipush 10 hx hb dX0_number_128 (by decide) ?_
            refine m_idiv (((u / 10 : Nat) : Int)) hx hb dX0_number_130 (by omega) (by omega) (by first | rfl | omega) ?_
            refine lv_istore (lv' := [(5, .int (oI (((u / 10 : Nat) : Int)))), (8, .int (oI (nx))), (7, .int (oI (d))), (0, .ref (ad (57))), (1, .int (oI (1))), (2, .int (oI (((lo : Nat) : Int)))), (3, .int (oI (((hi : Nat) : Int)))), (4, .int (oI (((v : Nat) : Int)))), (6, .int (oI (((i : Nat) : Int))))]) hx hb dX0_number_131 hl (by decide) rfl (fun ls hl => ?_)
            refine m_iinc (((i : Nat) : Int) + 1) [(6, .int (oI (((i : Nat) : Int) + 1))), (5, .int (oI (((u / 10 : Nat) : Int)))), (8, .int (oI (nx))), (7, .int (oI (d))), (0, .ref (ad (57))), (1, .int (oI (1))), (2, .int (oI (((lo : Nat) : Int)))), (3, .int (oI (((hi : Nat) : Int)))), (4, .int (oI (((v : Nat) : Int))))] hx hb dX0_number_133 hl (j := 8) rfl (by omega) (by decide) rfl (fun ls hl => ?_)
            refine lv_goto (tgt := 29) hx hb dX0_number_136 (by decide) ?_
            exact ih29 (i + 1) v (u / 10) q ((q : Nat) : Int) (by omega) (by first | assumption | omega) (by first | assumption | omega) (by first | assumption | omega) (by first | assumption | omega) (Or.inr ⟨rfl, by rw [← hres, oNm_b (i := i) (by omega) (by rcases hu with ⟨rfl, rfl⟩ | ⟨rfl, rfl⟩ <;> first | rfl | omega) hd hnx (by omega)]⟩) _ e57 (hL29) _ _ hH ls (lv_sub hl [4, 5, 6, 7, 8, 1, 0] rfl)
          · refine lv_iload hx hb dX0_number_77 (lv_at hl 1 rfl) ?_
            refine m_bipush 9 hx hb dX0_number_79 (by decide) ?_
            refine m_icmp_gt 101 hx hb dX0_number_81 (by decide) (by omega) (by omega) (fun h_9 => ?_) (fun h_9 => ?_)
            · refine lv_aload_n hx hb dX0_number_101 rfl (lv_at hl 2 rfl) ?_
              refine lv_aload_n hx hb dX0_number_102 rfl (lv_at hl 2 rfl) ?_
              refine gf_X0_at hx hb hts hown hK hH (k := 57) (by omega) e57 dX0_number_103 ?_
              refine pf_X0_fault hx hb hts hown hK hH hA (k := 57) (by omega) e57 dX0_number_106 (fun H locs σ_10 e57 hq_11 hH => ?_)
              have e58 : σ_10 (58) = oAC cT 120 T := (hq_11 _ (by decide)).trans e58
              have hf : ∀ q : Nat, q ≠ 57 → σ_10 q = σ q := fun q n0 => (hq_11 q n0).trans (hf q n0)
              have hL29 : ∀ q : Nat, q ≠ 57 → σ_10 q = σ q := fun q n0 => (hq_11 q n0).trans (hL29 q n0)
              refine lv_goto (tgt := 126) hx hb dX0_number_109 (by decide) ?_
              refine lv_iload hx hb dX0_number_126 (lv_at hl 7 rfl) ?_
              refine m_bipush 10 hx hb dX0_number_128 (by decide) ?_
              refine m_idiv (((u / 10 : Nat) : Int)) hx hb dX0_number_130 (by omega) (by omega) (by first | rfl | omega) ?_
              refine lv_istore (lv' := [(5, .int (oI (((u / 10 : Nat) : Int)))), (8, .int (oI (nx))), (7, .int (oI (d))), (0, .ref (ad (57))), (1, .int (oI (1))), (2, .int (oI (((lo : Nat) : Int)))), (3, .int (oI (((hi : Nat) : Int)))), (4, .int (oI (((v : Nat) : Int)))), (6, .int (oI (((i : Nat) : Int))))]) hx hb dX0_number_131 hl (by decide) rfl (fun ls hl => ?_)
              refine m_iinc (((i : Nat) : Int) + 1) [(6, .int (oI (((i : Nat) : Int) + 1))), (5, .int (oI (((u / 10 : Nat) : Int)))), (8, .int (oI (nx))), (7, .int (oI (d))), (0, .ref (ad (57))), (1, .int (oI (1))), (2, .int (oI (((lo : Nat) : Int)))), (3, .int (oI (((hi : Nat) : Int)))), (4, .int (oI (((v : Nat) : Int))))] hx hb dX0_number_133 hl (j := 8) rfl (by omega) (by decide) rfl (fun ls hl => ?_)
              refine lv_goto (tgt := 29) hx hb dX0_number_136 (by decide) ?_
              exact ih29 (i + 1) v (u / 10) q ((q : Nat) : Int) (by omega) (by first | assumption | omega) (by first | assumption | omega) (by first | assumption | omega) (by first | assumption | omega) (Or.inr ⟨rfl, by rw [← hres, oNm_b (i := i) (by omega) (by rcases hu with ⟨rfl, rfl⟩ | ⟨rfl, rfl⟩ <;> first | rfl | omega) hd hnx (by omega)]⟩) _ e57 (hL29) _ _ hH ls (lv_sub hl [4, 5, 6, 7, 8, 1, 0] rfl)
            · refine lv_iload hx hb dX0_number_84 (lv_at hl 0 rfl) ?_
              refine lv_iload_n hx hb dX0_number_86 rfl (lv_at hl 5 rfl) ?_
              refine m_icmp_gt 101 hx hb dX0_number_87 (by decide) (by omega) (by omega) (fun h_12 => ?_) (fun h_12 => ?_)
              · refine lv_aload_n hx hb dX0_number_101 rfl (lv_at hl 2 rfl) ?_
                refine lv_aload_n hx hb dX0_number_102 rfl (lv_at hl 2 rfl) ?_
                refine gf_X0_at hx hb hts hown hK hH (k := 57) (by omega) e57 dX0_number_103 ?_
                refine pf_X0_fault hx hb hts hown hK hH hA (k := 57) (by omega) e57 dX0_number_106 (fun H locs σ_13 e57 hq_14 hH => ?_)
                have e58 : σ_13 (58) = oAC cT 120 T := (hq_14 _ (by decide)).trans e58
                have hf : ∀ q : Nat, q ≠ 57 → σ_13 q = σ q := fun q n0 => (hq_14 q n0).trans (hf q n0)
                have hL29 : ∀ q : Nat, q ≠ 57 → σ_13 q = σ q := fun q n0 => (hq_14 q n0).trans (hL29 q n0)
                refine lv_goto (tgt := 126) hx hb dX0_number_109 (by decide) ?_
                refine lv_iload hx hb dX0_number_126 (lv_at hl 7 rfl) ?_
                refine m_bipush 10 hx hb dX0_number_128 (by decide) ?_
                refine m_idiv (((u / 10 : Nat) : Int)) hx hb dX0_number_130 (by omega) (by omega) (by first | rfl | omega) ?_
                refine lv_istore (lv' := [(5, .int (oI (((u / 10 : Nat) : Int)))), (8, .int (oI (nx))), (7, .int (oI (d))), (0, .ref (ad (57))), (1, .int (oI (1))), (2, .int (oI (((lo : Nat) : Int)))), (3, .int (oI (((hi : Nat) : Int)))), (4, .int (oI (((v : Nat) : Int)))), (6, .int (oI (((i : Nat) : Int))))]) hx hb dX0_number_131 hl (by decide) rfl (fun ls hl => ?_)
                refine m_iinc (((i : Nat) : Int) + 1) [(6, .int (oI (((i : Nat) : Int) + 1))), (5, .int (oI (((u / 10 : Nat) : Int)))), (8, .int (oI (nx))), (7, .int (oI (d))), (0, .ref (ad (57))), (1, .int (oI (1))), (2, .int (oI (((lo : Nat) : Int)))), (3, .int (oI (((hi : Nat) : Int)))), (4, .int (oI (((v : Nat) : Int))))] hx hb dX0_number_133 hl (j := 8) rfl (by omega) (by decide) rfl (fun ls hl => ?_)
                refine lv_goto (tgt := 29) hx hb dX0_number_136 (by decide) ?_
                exact ih29 (i + 1) v (u / 10) q ((q : Nat) : Int) (by omega) (by first | assumption | omega) (by first | assumption | omega) (by first | assumption | omega) (by first | assumption | omega) (Or.inr ⟨rfl, by rw [← hres, oNm_b (i := i) (by omega) (by rcases hu with ⟨rfl, rfl⟩ | ⟨rfl, rfl⟩ <;> first | rfl | omega) hd hnx (by omega)]⟩) _ e57 (hL29) _ _ hH ls (lv_sub hl [4, 5, 6, 7, 8, 1, 0] rfl)
              · refine lv_iload hx hb dX0_number_90 (lv_at hl 0 rfl) ?_
                refine lv_iload hx hb dX0_number_92 (lv_at hl 7 rfl) ?_
                refine m_iadd (nx + ((u : Nat) : Int)) hx hb dX0_number_94 (by omega) ?_
                refine m_iconst 1 hx hb dX0_number_95 rfl ?_
                refine m_isub (nx + ((u : Nat) : Int) - 1) hx hb dX0_number_96 (by omega) ?_
                refine lv_iload_n hx hb dX0_number_97 rfl (lv_at hl 4 rfl) ?_
                refine m_icmp_ge 112 hx hb dX0_number_98 (by decide) (by omega) (by omega) (fun h_15 => ?_) (fun h_15 => ?_)
                · have hnn : 0 ≤ nx := by rcases hu with ⟨rfl, rfl⟩ | ⟨rfl, rfl⟩ <;> omega
                  refine lv_iload hx hb dX0_number_112 (lv_at hl 0 rfl) ?_
                  refine m_topI (((nx.toNat : Nat) : Int)) ((Int.toNat_of_nonneg (by omega)).symm) ?_
                  refine lv_istore (lv' := [(4, .int (oI (((nx.toNat : Nat) : Int)))), (8, .int (oI (nx))), (7, .int (oI (d))), (0, .ref (ad (57))), (1, .int (oI (1))), (2, .int (oI (((lo : Nat) : Int)))), (3, .int (oI (((hi : Nat) : Int)))), (5, .int (oI (((u : Nat) : Int)))), (6, .int (oI (((i : Nat) : Int))))]) hx hb dX0_number_114 hl (by decide) rfl (fun ls hl => ?_)
                  refine lv_aload_n hx hb dX0_number_116 rfl (lv_at hl 3 rfl) ?_
                  refine lv_dup hx hb dX0_number_117 rfl ?_
                  refine gf_X0_at hx hb hts hown hK hH (k := 57) (by omega) e57 dX0_number_118 ?_
                  refine m_iconst 1 hx hb dX0_number_121 rfl ?_
                  refine m_iadd (((q : Nat) : Int) + 1) hx hb dX0_number_122 (by omega) ?_
                  refine pf_X0_at hx hb hts hown hK hH hA (k := 57) (by omega) e57 dX0_number_123 (fun H locs σ_16 e57 hq_17 hH => ?_)
                  have e58 : σ_16 (58) = oAC cT 120 T := (hq_17 _ (by decide)).trans e58
                  have hf : ∀ q : Nat, q ≠ 57 → σ_16 q = σ q := fun q n0 => (hq_17 q n0).trans (hf q n0)
                  have hL29 : ∀ q : Nat, q ≠ 57 → σ_16 q = σ q := fun q n0 => (hq_17 q n0).trans (hL29 q n0)
                  refine lv_iload hx hb dX0_number_126 (lv_at hl 7 rfl) ?_
                  refine m_bipush 10 hx hb dX0_number_128 (by decide) ?_
                  refine m_idiv (((u / 10 : Nat) : Int)) hx hb dX0_number_130 (by omega) (by omega) (by first | rfl | omega) ?_
                  refine lv_istore (lv' := [(5, .int (oI (((u / 10 : Nat) : Int)))), (4, .int (oI (((nx.toNat : Nat) : Int)))), (8, .int (oI (nx))), (7, .int (oI (d))), (0, .ref (ad (57))), (1, .int (oI (1))), (2, .int (oI (((lo : Nat) : Int)))), (3, .int (oI (((hi : Nat) : Int)))), (6, .int (oI (((i : Nat) : Int))))]) hx hb dX0_number_131 hl (by decide) rfl (fun ls hl => ?_)
                  refine m_iinc (((i : Nat) : Int) + 1) [(6, .int (oI (((i : Nat) : Int) + 1))), (5, .int (oI (((u / 10 : Nat) : Int)))), (4, .int (oI (((nx.toNat : Nat) : Int)))), (8, .int (oI (nx))), (7, .int (oI (d))), (0, .ref (ad (57))), (1, .int (oI (1))), (2, .int (oI (((lo : Nat) : Int)))), (3, .int (oI (((hi : Nat) : Int))))] hx hb dX0_number_133 hl (j := 8) rfl (by omega) (by decide) rfl (fun ls hl => ?_)
                  refine lv_goto (tgt := 29) hx hb dX0_number_136 (by decide) ?_
                  exact ih29 (i + 1) nx.toNat (u / 10) (q + 1) fq (by omega) (by first | assumption | omega) (by first | assumption | omega) (by first | assumption | omega) (by first | assumption | omega) (Or.inl ⟨hfq, by rw [← hres, oNm_g (i := i) (by omega) (by rcases hu with ⟨rfl, rfl⟩ | ⟨rfl, rfl⟩ <;> first | rfl | omega) hd hnx (by omega) (by omega) (by omega) (by omega)]⟩) _ e57 (hL29) _ _ hH ls (lv_sub hl [5, 6, 7, 8, 2, 1, 0] rfl)
                · refine lv_aload_n hx hb dX0_number_101 rfl (lv_at hl 2 rfl) ?_
                  refine lv_aload_n hx hb dX0_number_102 rfl (lv_at hl 2 rfl) ?_
                  refine gf_X0_at hx hb hts hown hK hH (k := 57) (by omega) e57 dX0_number_103 ?_
                  refine pf_X0_fault hx hb hts hown hK hH hA (k := 57) (by omega) e57 dX0_number_106 (fun H locs σ_18 e57 hq_19 hH => ?_)
                  have e58 : σ_18 (58) = oAC cT 120 T := (hq_19 _ (by decide)).trans e58
                  have hf : ∀ q : Nat, q ≠ 57 → σ_18 q = σ q := fun q n0 => (hq_19 q n0).trans (hf q n0)
                  have hL29 : ∀ q : Nat, q ≠ 57 → σ_18 q = σ q := fun q n0 => (hq_19 q n0).trans (hL29 q n0)
                  refine lv_goto (tgt := 126) hx hb dX0_number_109 (by decide) ?_
                  refine lv_iload hx hb dX0_number_126 (lv_at hl 7 rfl) ?_
                  refine m_bipush 10 hx hb dX0_number_128 (by decide) ?_
                  refine m_idiv (((u / 10 : Nat) : Int)) hx hb dX0_number_130 (by omega) (by omega) (by first | rfl | omega) ?_
                  refine lv_istore (lv' := [(5, .int (oI (((u / 10 : Nat) : Int)))), (8, .int (oI (nx))), (7, .int (oI (d))), (0, .ref (ad (57))), (1, .int (oI (1))), (2, .int (oI (((lo : Nat) : Int)))), (3, .int (oI (((hi : Nat) : Int)))), (4, .int (oI (((v : Nat) : Int)))), (6, .int (oI (((i : Nat) : Int))))]) hx hb dX0_number_131 hl (by decide) rfl (fun ls hl => ?_)
                  refine m_iinc (((i : Nat) : Int) + 1) [(6, .int (oI (((i : Nat) : Int) + 1))), (5, .int (oI (((u / 10 : Nat) : Int)))), (8, .int (oI (nx))), (7, .int (oI (d))), (0, .ref (ad (57))), (1, .int (oI (1))), (2, .int (oI (((lo : Nat) : Int)))), (3, .int (oI (((hi : Nat) : Int)))), (4, .int (oI (((v : Nat) : Int))))] hx hb dX0_number_133 hl (j := 8) rfl (by omega) (by decide) rfl (fun ls hl => ?_)
                  refine lv_goto (tgt := 29) hx hb dX0_number_136 (by decide) ?_
                  exact ih29 (i + 1) v (u / 10) q ((q : Nat) : Int) (by omega) (by first | assumption | omega) (by first | assumption | omega) (by first | assumption | omega) (by first | assumption | omega) (Or.inr ⟨rfl, by rw [← hres, oNm_b (i := i) (by omega) (by rcases hu with ⟨rfl, rfl⟩ | ⟨rfl, rfl⟩ <;> first | rfl | omega) hd hnx (by omega)]⟩) _ e57 (hL29) _ _ hH ls (lv_sub hl [4, 5, 6, 7, 8, 1, 0] rfl)
  exact L29 _ 0 0 1 p f (Nat.lt_succ_self _) (by first | assumption | omega) (by first | assumption | omega) (by first | assumption | omega) (by first | assumption | omega) (Or.inl ⟨hfm, rfl⟩) _ e57 (fun q _ => rfl) _ _ hH ls (lv_sub hl [3, 4, 5, 6, 2, 1, 0] rfl)
set_option maxHeartbeats 4000000 in
set_option maxRecDepth 100000 in
theorem c0_num2 {l : Launch} {D : va_G} {cT : Nat → ClassId} {N b0 : Nat} {ad : Nat → Nat} (hA : oAd b0 N ad) {σ : Nat → va_E} (lo hi : Nat) (T : Nat → Int) (z p ac x1 x2 : Nat) (f on : Int) (hN : 76 ≤ N) (hT : ∀ i : Nat, i < z → 0 ≤ T i ∧ T i ≤ 255) (hz : z ≤ 120) (hp : p ≤ 150) (hf0 : -2147483648 ≤ f ∧ f < 2147483648) (hfm : f = -1) (hhi : hi ≤ 150) (hlo : lo ≤ 150) (e57 : σ (57) = .inr (0, [.ref (ad (58)), .int (oI (((z : Nat) : Int))), .int (oI (((p : Nat) : Int))), .int (oI (f)), .int (oI (((ac : Nat) : Int))), .int (oI (((x1 : Nat) : Int))), .int (oI (((x2 : Nat) : Int))), .int (oI (on))])) (e58 : σ (58) = oAC cT 120 T) :
    oCi l D cT N ad b0 yX0_number cX0_number 9 (some .int) 1 21 [.ref (ad (57)), .int (oI (2)), .int (oI (((lo : Nat) : Int))), .int (oI (((hi : Nat) : Int)))] σ (fun rr uu => ∃ v2 : Nat, ∃ p2 : Nat, ∃ fo : Int, rr = oI (((v2 : Nat) : Int)) ∧ (oNm T z lo hi 2 p 0 = (fo, p2, v2)) ∧ (p2 ≤ p + 3) ∧ (-1 ≤ fo ∧ fo ≤ 200) ∧ (v2 ≤ hi) ∧ uu (57) = .inr (0, [.ref (ad (58)), .int (oI (((z : Nat) : Int))), .int (oI (((p2 : Nat) : Int))), .int (oI (fo)), .int (oI (((ac : Nat) : Int))), .int (oI (((x1 : Nat) : Int))), .int (oI (((x2 : Nat) : Int))), .int (oI (on))]) ∧ (∀ q : Nat, q ≠ 57 → uu q = σ q)) := by
  refine m_start (cc := cX0_number) (by decide) (Nat.le_of_ble_eq_true rfl) rfl ?_
  intro Pp Ee Ss Mm Bb Me Cc Ar ls hx hb hml hown hlk hrt hts hK hH hl
  have hown : Ss.vm.findClass RX0 = some Mm.cls := hown
  have hl : lv_has ls 9 [(0, .ref (ad (57))), (1, .int (oI (2))), (2, .int (oI (((lo : Nat) : Int)))), (3, .int (oI (((hi : Nat) : Int))))] := hl
  have hf : ∀ q : Nat, q ≠ 57 → σ q = σ q := fun q _ => rfl
  refine m_iconst 0 hx hb dX0_number_0 rfl ?_
  refine lv_istore (lv' := [(4, .int (oI (0))), (0, .ref (ad (57))), (1, .int (oI (2))), (2, .int (oI (((lo : Nat) : Int)))), (3, .int (oI (((hi : Nat) : Int))))]) hx hb dX0_number_1 hl (by decide) rfl (fun ls hl => ?_)
  refine lv_iload_n hx hb dX0_number_3 rfl (lv_at hl 2 rfl) ?_
  refine m_iconst 3 hx hb dX0_number_4 rfl ?_
  refine m_icmp_ne 13 hx hb dX0_number_5 (by decide) (by omega) (by omega) (fun h_1 => ?_) (fun h_1 => absurd h_1 (by omega))
  refine lv_iload_n hx hb dX0_number_13 rfl (lv_at hl 2 rfl) ?_
  refine m_iconst 2 hx hb dX0_number_14 rfl ?_
  refine m_icmp_ne 23 hx hb dX0_number_15 (by decide) (by omega) (by omega) (fun h_2 => absurd h_2 (by omega)) (fun h_2 => ?_)
  refine m_bipush 10 hx hb dX0_number_18 (by decide) ?_
  refine lv_goto (tgt := 24) hx hb dX0_number_20 (by decide) ?_
  refine lv_istore (lv' := [(5, .int (oI (10))), (4, .int (oI (0))), (0, .ref (ad (57))), (1, .int (oI (2))), (2, .int (oI (((lo : Nat) : Int)))), (3, .int (oI (((hi : Nat) : Int))))]) hx hb dX0_number_24 hl (by decide) rfl (fun ls hl => ?_)
  refine m_iconst 0 hx hb dX0_number_26 rfl ?_
  refine lv_istore (lv' := [(6, .int (oI (0))), (5, .int (oI (10))), (4, .int (oI (0))), (0, .ref (ad (57))), (1, .int (oI (2))), (2, .int (oI (((lo : Nat) : Int)))), (3, .int (oI (((hi : Nat) : Int))))]) hx hb dX0_number_27 hl (by decide) rfl (fun ls hl => ?_)
  have L29 : ∀ (fu : Nat) (i : Nat) (v : Nat) (u : Nat) (q : Nat) (fq : Int), (3 - i < fu) → (i ≤ 2) → ((i = 0 ∧ u = 10) ∨ (i = 1 ∧ u = 1) ∨ (i = 2 ∧ u = 0)) → (v ≤ hi) → (q ≤ p + i) → ((fq = -1 ∧ oNm T z lo hi (2 - i) q v = oNm T z lo hi 2 p 0) ∨ (fq = ((q : Nat) : Int) ∧ oNm T z lo hi 2 p 0 = (fq, q, v))) → ∀ σL29 : Nat → va_E, σL29 (57) = .inr (0, [.ref (ad (58)), .int (oI (((z : Nat) : Int))), .int (oI (((q : Nat) : Int))), .int (oI (fq)), .int (oI (((ac : Nat) : Int))), .int (oI (((x1 : Nat) : Int))), .int (oI (((x2 : Nat) : Int))), .int (oI (on))]) → (∀ q : Nat, q ≠ 57 → σL29 q = σ q) → ∀ (H : Heap) (locs : List Loc), oH b0 D N ad Ss.heap σL29 H locs → ∀ ls : Array Slot, lv_has ls 9 [(0, .ref (ad (57))), (1, .int (oI (2))), (2, .int (oI (((lo : Nat) : Int)))), (3, .int (oI (((hi : Nat) : Int)))), (4, .int (oI (((v : Nat) : Int)))), (5, .int (oI (((u : Nat) : Int)))), (6, .int (oI (((i : Nat) : Int))))] → W Pp l Ee { frames := 1, cells := 0, slots := 0, locals := 21 } Ss Mm Ar Bb Me Cc H locs 0 0 (MQ Bb (va_Qi (fun rr uu => ∃ v2 : Nat, ∃ p2 : Nat, ∃ fo : Int, rr = oI (((v2 : Nat) : Int)) ∧ (oNm T z lo hi 2 p 0 = (fo, p2, v2)) ∧ (p2 ≤ p + 3) ∧ (-1 ≤ fo ∧ fo ≤ 200) ∧ (v2 ≤ hi) ∧ uu (57) = .inr (0, [.ref (ad (58)), .int (oI (((z : Nat) : Int))), .int (oI (((p2 : Nat) : Int))), .int (oI (fo)), .int (oI (((ac : Nat) : Int))), .int (oI (((x1 : Nat) : Int))), .int (oI (((x2 : Nat) : Int))), .int (oI (on))]) ∧ (∀ q : Nat, q ≠ 57 → uu q = σ q)) (oV D N ad) (fun q => b0 ≤ q)) Ar Ss 0 0 (fun q => b0 ≤ q)) (F0 Mm 29 ls []) := by
    intro fu29
    induction fu29 with
    | zero =>
      intro i v u q fq hm29
      exact absurd hm29 (Nat.not_lt_zero _)
    | succ fu29 ih29 =>
      intro i v u q fq hm29 hi4 hu hv hq hres σL29 e57 hL29 H locs hH ls hl
      have e58 : σL29 (58) = oAC cT 120 T := (hL29 _ (by decide)).trans e58
      have hf : ∀ q : Nat, q ≠ 57 → σL29 q = σ q := fun q n0 => (hL29 q n0).trans (hf q n0)
      refine lv_iload hx hb dX0_number_29 (lv_at hl 6 rfl) ?_
      refine lv_iload_n hx hb dX0_number_31 rfl (lv_at hl 1 rfl) ?_
      refine m_icmp_ge 139 hx hb dX0_number_32 (by decide) (by omega) (by omega) (fun h_3 => ?_) (fun h_3 => ?_)
      · refine lv_iload hx hb dX0_number_139 (lv_at hl 4 rfl) ?_
        exact m_iret hx hb hlk hrt hH (m_ni _) dX0_number_141 ⟨v, q, fq, rfl, (by rcases hres with ⟨e1, e⟩ | ⟨_, e⟩; rw [← e, show 2 - i = 0 by omega, e1]; rfl; exact e), (by omega), (by rcases hres with ⟨e1, e⟩ | ⟨e1, e⟩ <;> omega), hv, e57, hf⟩
      · refine lv_iload hx hb dX0_number_35 (lv_at hl 6 rfl) ?_
        refine m_iconst 3 hx hb dX0_number_37 rfl ?_
        refine m_icmp_ge 139 hx hb dX0_number_38 (by decide) (by omega) (by omega) (fun h_4 => absurd h_4 (by omega)) (fun h_4 => ?_)
        refine lv_aload_n hx hb dX0_number_41 rfl (lv_at hl 0 rfl) ?_
        refine gf_X0_fault hx hb hts hown hK hH (k := 57) (by omega) e57 dX0_number_42 ?_
        refine m_iconst (-1) hx hb dX0_number_45 rfl ?_
        refine m_icmp_ne 139 hx hb dX0_number_46 (by decide) (by omega) (by omega) (fun hfq => ?_) (fun hfq => ?_)
        · refine lv_iload hx hb dX0_number_139 (lv_at hl 4 rfl) ?_
          exact m_iret hx hb hlk hrt hH (m_ni _) dX0_number_141 ⟨v, q, fq, rfl, (by rcases hres with ⟨e1, e⟩ | ⟨_, e⟩; exact absurd e1 hfq; exact e), (by omega), (by rcases hres with ⟨e1, e⟩ | ⟨e1, e⟩ <;> omega), hv, e57, hf⟩
        · have hres : oNm T z lo hi (2 - i) q v = oNm T z lo hi 2 p 0 := by
              rcases hres with ⟨-, e⟩ | ⟨e, -⟩
              · exact e
              · omega
          refine lv_aload_n hx hb dX0_number_49 rfl (lv_at hl 0 rfl) ?_
          refine lv_aload_n hx hb dX0_number_50 rfl (lv_at hl 0 rfl) ?_
          refine gf_X0_at hx hb hts hown hK hH (k := 57) (by omega) e57 dX0_number_51 ?_
          refine m_pVi hx hb hml hown hts hK hH hl (rest := []) cw_X0_50 (c0_sign hA ((q : Nat) : Int) T z q ac x1 x2 fq on (by first | assumption | omega) (by first | assumption | omega) (by first | assumption | omega) (by first | assumption | omega) (by first | assumption | omega) (by first | assumption | omega) e57 e58) ⟨Nat.le_of_ble_eq_true rfl, Nat.le_of_ble_eq_true rfl⟩ ⟨Nat.le_of_ble_eq_true rfl, Nat.le_of_ble_eq_true rfl⟩ rfl (k := 57) (by omega) e57 rfl rfl (Nat.le_of_ble_eq_true rfl) dX0_number_54 (fun H locs hH => ?_)
          refine m_bipush 48 hx hb dX0_number_57 (by decide) ?_
          have hsb := oSg_b hT ((q : Nat) : Int)
          obtain ⟨d, hd⟩ : ∃ y : Int, oSg T z ((q : Nat) : Int) - 48 = y := ⟨_, rfl⟩
          refine m_isub ((oSg T z ((q : Nat) : Int)) - 48) hx hb dX0_number_59 (by omega) ?_
          refine m_topI (d) (by rw [← hd]) ?_
          refine lv_istore (lv' := [(7, .int (oI (d))), (0, .ref (ad (57))), (1, .int (oI (2))), (2, .int (oI (((lo : Nat) : Int)))), (3, .int (oI (((hi : Nat) : Int)))), (4, .int (oI (((v : Nat) : Int)))), (5, .int (oI (((u : Nat) : Int)))), (6, .int (oI (((i : Nat) : Int))))]) hx hb dX0_number_60 hl (by decide) rfl (fun ls hl => ?_)
          refine lv_iload hx hb dX0_number_62 (lv_at hl 5 rfl) ?_
          refine lv_iload hx hb dX0_number_64 (lv_at hl 0 rfl) ?_
          refine lv_iload hx hb dX0_number_66 (lv_at hl 6 rfl) ?_
          refine m_imul ((d * ((u : Nat) : Int))) hx hb dX0_number_68 (rfl) ?_
          obtain ⟨nx, hnx⟩ : ∃ y : Int, ((v : Nat) : Int) + d * ((u : Nat) : Int) = y := ⟨_, rfl⟩
          have hnb : -10000 ≤ nx ∧ nx ≤ 30000 := by rcases hu with ⟨rfl, rfl⟩ | ⟨rfl, rfl⟩ | ⟨rfl, rfl⟩ <;> omega
          refine m_iadd ((d * ((u : Nat) : Int)) + ((v : Nat) : Int)) hx hb dX0_number_69 (by omega) ?_
          refine m_topI (nx) (by rw [← hnx]; omega) ?_
          refine lv_istore (lv' := [(8, .int (oI (nx))), (7, .int (oI (d))), (0, .ref (ad (57))), (1, .int (oI (2))), (2, .int (oI (((lo : Nat) : Int)))), (3, .int (oI (((hi : Nat) : Int)))), (4, .int (oI (((v : Nat) : Int)))), (5, .int (oI (((u : Nat) : Int)))), (6, .int (oI (((i : Nat) : Int))))]) hx hb dX0_number_70 hl (by decide) rfl (fun ls hl => ?_)
          refine lv_iload hx hb dX0_number_72 (lv_at hl 1 rfl) ?_
          refine m_if_lt 101 hx hb dX0_number_74 (by decide) (by omega) (fun h_6 => ?_) (fun h_6 => ?_)
          · refine lv_aload_n hx hb dX0_number_101 rfl (lv_at hl 2 rfl) ?_
            refine lv_aload_n hx hb dX0_number_102 rfl (lv_at hl 2 rfl) ?_
            refine gf_X0_at hx hb hts hown hK hH (k := 57) (by omega) e57 dX0_number_103 ?_
            refine pf_X0_fault hx hb hts hown hK hH hA (k := 57) (by omega) e57 dX0_number_106 (fun H locs σ_7 e57 hq_8 hH => ?_)
            have e58 : σ_7 (58) = oAC cT 120 T := (hq_8 _ (by decide)).trans e58
            have hf : ∀ q : Nat, q ≠ 57 → σ_7 q = σ q := fun q n0 => (hq_8 q n0).trans (hf q n0)
            have hL29 : ∀ q : Nat, q ≠ 57 → σ_7 q = σ q := fun q n0 => (hq_8 q n0).trans (hL29 q n0)
            refine lv_goto (tgt := 126) hx hb dX0_number_109 (by decide) ?_
            refine lv_iload hx hb dX0_number_126 (lv_at hl 7 rfl) ?_
            refine m_bipush 10 hx hb dX0_number_128 (by decide) ?_
            refine m_idiv (((u / 10 : Nat) : Int)) hx hb dX0_number_130 (by omega) (by omega) (by first | rfl | omega) ?_
            refine lv_istore (lv' := [(5, .int (oI (((u / 10 : Nat) : Int)))), (8, .int (oI (nx))), (7, .int (oI (d))), (0, .ref (ad (57))), (1, .int (oI (2))), (2, .int (oI (((lo : Nat) : Int)))), (3, .int (oI (((hi : Nat) : Int)))), (4, .int (oI (((v : Nat) : Int)))), (6, .int (oI (((i : Nat) : Int))))]) hx hb dX0_number_131 hl (by decide) rfl (fun ls hl => ?_)
            refine m_iinc (((i : Nat) : Int) + 1) [(6, .int (oI (((i : Nat) : Int) + 1))), (5, .int (oI (((u / 10 : Nat) : Int)))), (8, .int (oI (nx))), (7, .int (oI (d))), (0, .ref (ad (57))), (1, .int (oI (2))), (2, .int (oI (((lo : Nat) : Int)))), (3, .int (oI (((hi : Nat) : Int)))), (4, .int (oI (((v : Nat) : Int))))] hx hb dX0_number_133 hl (j := 8) rfl (by omega) (by decide) rfl (fun ls hl => ?_)
            refine lv_goto (tgt := 29) hx hb dX0_number_136 (by decide) ?_
            exact ih29 (i + 1) v (u / 10) q ((q : Nat) : Int) (by omega) (by first | assumption | omega) (by first | assumption | omega) (by first | assumption | omega) (by first | assumption | omega) (Or.inr ⟨rfl, by rw [← hres, oNm_b (i := i) (by omega) (by rcases hu with ⟨rfl, rfl⟩ | ⟨rfl, rfl⟩ | ⟨rfl, rfl⟩ <;> first | rfl | omega) hd hnx (by omega)]⟩) _ e57 (hL29) _ _ hH ls (lv_sub hl [4, 5, 6, 7, 8, 1, 0] rfl)
          · refine lv_iload hx hb dX0_number_77 (lv_at hl 1 rfl) ?_
            refine m_bipush 9 hx hb dX0_number_79 (by decide) ?_
            refine m_icmp_gt 101 hx hb dX0_number_81 (by decide) (by omega) (by omega) (fun h_9 => ?_) (fun h_9 => ?_)
            · refine lv_aload_n hx hb dX0_number_101 rfl (lv_at hl 2 rfl) ?_
              refine lv_aload_n hx hb dX0_number_102 rfl (lv_at hl 2 rfl) ?_
              refine gf_X0_at hx hb hts hown hK hH (k := 57) (by omega) e57 dX0_number_103 ?_
              refine pf_X0_fault hx hb hts hown hK hH hA (k := 57) (by omega) e57 dX0_number_106 (fun H locs σ_10 e57 hq_11 hH => ?_)
              have e58 : σ_10 (58) = oAC cT 120 T := (hq_11 _ (by decide)).trans e58
              have hf : ∀ q : Nat, q ≠ 57 → σ_10 q = σ q := fun q n0 => (hq_11 q n0).trans (hf q n0)
              have hL29 : ∀ q : Nat, q ≠ 57 → σ_10 q = σ q := fun q n0 => (hq_11 q n0).trans (hL29 q n0)
              refine lv_goto (tgt := 126) hx hb dX0_number_109 (by decide) ?_
              refine lv_iload hx hb dX0_number_126 (lv_at hl 7 rfl) ?_
              refine m_bipush 10 hx hb dX0_number_128 (by decide) ?_
              refine m_idiv (((u / 10 : Nat) : Int)) hx hb dX0_number_130 (by omega) (by omega) (by first | rfl | omega) ?_
              refine lv_istore (lv' := [(5, .int (oI (((u / 10 : Nat) : Int)))), (8, .int (oI (nx))), (7, .int (oI (d))), (0, .ref (ad (57))), (1, .int (oI (2))), (2, .int (oI (((lo : Nat) : Int)))), (3, .int (oI (((hi : Nat) : Int)))), (4, .int (oI (((v : Nat) : Int)))), (6, .int (oI (((i : Nat) : Int))))]) hx hb dX0_number_131 hl (by decide) rfl (fun ls hl => ?_)
              refine m_iinc (((i : Nat) : Int) + 1) [(6, .int (oI (((i : Nat) : Int) + 1))), (5, .int (oI (((u / 10 : Nat) : Int)))), (8, .int (oI (nx))), (7, .int (oI (d))), (0, .ref (ad (57))), (1, .int (oI (2))), (2, .int (oI (((lo : Nat) : Int)))), (3, .int (oI (((hi : Nat) : Int)))), (4, .int (oI (((v : Nat) : Int))))] hx hb dX0_number_133 hl (j := 8) rfl (by omega) (by decide) rfl (fun ls hl => ?_)
              refine lv_goto (tgt := 29) hx hb dX0_number_136 (by decide) ?_
              exact ih29 (i + 1) v (u / 10) q ((q : Nat) : Int) (by omega) (by first | assumption | omega) (by first | assumption | omega) (by first | assumption | omega) (by first | assumption | omega) (Or.inr ⟨rfl, by rw [← hres, oNm_b (i := i) (by omega) (by rcases hu with ⟨rfl, rfl⟩ | ⟨rfl, rfl⟩ | ⟨rfl, rfl⟩ <;> first | rfl | omega) hd hnx (by omega)]⟩) _ e57 (hL29) _ _ hH ls (lv_sub hl [4, 5, 6, 7, 8, 1, 0] rfl)
            · refine lv_iload hx hb dX0_number_84 (lv_at hl 0 rfl) ?_
              refine lv_iload_n hx hb dX0_number_86 rfl (lv_at hl 5 rfl) ?_
              refine m_icmp_gt 101 hx hb dX0_number_87 (by decide) (by omega) (by omega) (fun h_12 => ?_) (fun h_12 => ?_)
              · refine lv_aload_n hx hb dX0_number_101 rfl (lv_at hl 2 rfl) ?_
                refine lv_aload_n hx hb dX0_number_102 rfl (lv_at hl 2 rfl) ?_
                refine gf_X0_at hx hb hts hown hK hH (k := 57) (by omega) e57 dX0_number_103 ?_
                refine pf_X0_fault hx hb hts hown hK hH hA (k := 57) (by omega) e57 dX0_number_106 (fun H locs σ_13 e57 hq_14 hH => ?_)
                have e58 : σ_13 (58) = oAC cT 120 T := (hq_14 _ (by decide)).trans e58
                have hf : ∀ q : Nat, q ≠ 57 → σ_13 q = σ q := fun q n0 => (hq_14 q n0).trans (hf q n0)
                have hL29 : ∀ q : Nat, q ≠ 57 → σ_13 q = σ q := fun q n0 => (hq_14 q n0).trans (hL29 q n0)
                refine lv_goto (tgt := 126) hx hb dX0_number_109 (by decide) ?_
                refine lv_iload hx hb dX0_number_126 (lv_at hl 7 rfl) ?_
                refine m_bipush 10 hx hb dX0_number_128 (by decide) ?_
                refine m_idiv (((u / 10 : Nat) : Int)) hx hb dX0_number_130 (by omega) (by omega) (by first | rfl | omega) ?_
                refine lv_istore (lv' := [(5, .int (oI (((u / 10 : Nat) : Int)))), (8, .int (oI (nx))), (7, .int (oI (d))), (0, .ref (ad (57))), (1, .int (oI (2))), (2, .int (oI (((lo : Nat) : Int)))), (3, .int (oI (((hi : Nat) : Int)))), (4, .int (oI (((v : Nat) : Int)))), (6, .int (oI (((i : Nat) : Int))))]) hx hb dX0_number_131 hl (by decide) rfl (fun ls hl => ?_)
                refine m_iinc (((i : Nat) : Int) + 1) [(6, .int (oI (((i : Nat) : Int) + 1))), (5, .int (oI (((u / 10 : Nat) : Int)))), (8, .int (oI (nx))), (7, .int (oI (d))), (0, .ref (ad (57))), (1, .int (oI (2))), (2, .int (oI (((lo : Nat) : Int)))), (3, .int (oI (((hi : Nat) : Int)))), (4, .int (oI (((v : Nat) : Int))))] hx hb dX0_number_133 hl (j := 8) rfl (by omega) (by decide) rfl (fun ls hl => ?_)
                refine lv_goto (tgt := 29) hx hb dX0_number_136 (by decide) ?_
                exact ih29 (i + 1) v (u / 10) q ((q : Nat) : Int) (by omega) (by first | assumption | omega) (by first | assumption | omega) (by first | assumption | omega) (by first | assumption | omega) (Or.inr ⟨rfl, by rw [← hres, oNm_b (i := i) (by omega) (by rcases hu with ⟨rfl, rfl⟩ | ⟨rfl, rfl⟩ | ⟨rfl, rfl⟩ <;> first | rfl | omega) hd hnx (by omega)]⟩) _ e57 (hL29) _ _ hH ls (lv_sub hl [4, 5, 6, 7, 8, 1, 0] rfl)
              · refine lv_iload hx hb dX0_number_90 (lv_at hl 0 rfl) ?_
                refine lv_iload hx hb dX0_number_92 (lv_at hl 7 rfl) ?_
                refine m_iadd (nx + ((u : Nat) : Int)) hx hb dX0_number_94 (by omega) ?_
                refine m_iconst 1 hx hb dX0_number_95 rfl ?_
                refine m_isub (nx + ((u : Nat) : Int) - 1) hx hb dX0_number_96 (by omega) ?_
                refine lv_iload_n hx hb dX0_number_97 rfl (lv_at hl 4 rfl) ?_
                refine m_icmp_ge 112 hx hb dX0_number_98 (by decide) (by omega) (by omega) (fun h_15 => ?_) (fun h_15 => ?_)
                · have hnn : 0 ≤ nx := by rcases hu with ⟨rfl, rfl⟩ | ⟨rfl, rfl⟩ | ⟨rfl, rfl⟩ <;> omega
                  refine lv_iload hx hb dX0_number_112 (lv_at hl 0 rfl) ?_
                  refine m_topI (((nx.toNat : Nat) : Int)) ((Int.toNat_of_nonneg (by omega)).symm) ?_
                  refine lv_istore (lv' := [(4, .int (oI (((nx.toNat : Nat) : Int)))), (8, .int (oI (nx))), (7, .int (oI (d))), (0, .ref (ad (57))), (1, .int (oI (2))), (2, .int (oI (((lo : Nat) : Int)))), (3, .int (oI (((hi : Nat) : Int)))), (5, .int (oI (((u : Nat) : Int)))), (6, .int (oI (((i : Nat) : Int))))]) hx hb dX0_number_114 hl (by decide) rfl (fun ls hl => ?_)
                  refine lv_aload_n hx hb dX0_number_116 rfl (lv_at hl 3 rfl) ?_
                  refine lv_dup hx hb dX0_number_117 rfl ?_
                  refine gf_X0_at hx hb hts hown hK hH (k := 57) (by omega) e57 dX0_number_118 ?_
                  refine m_iconst 1 hx hb dX0_number_121 rfl ?_
                  refine m_iadd (((q : Nat) : Int) + 1) hx hb dX0_number_122 (by omega) ?_
                  refine pf_X0_at hx hb hts hown hK hH hA (k := 57) (by omega) e57 dX0_number_123 (fun H locs σ_16 e57 hq_17 hH => ?_)
                  have e58 : σ_16 (58) = oAC cT 120 T := (hq_17 _ (by decide)).trans e58
                  have hf : ∀ q : Nat, q ≠ 57 → σ_16 q = σ q := fun q n0 => (hq_17 q n0).trans (hf q n0)
                  have hL29 : ∀ q : Nat, q ≠ 57 → σ_16 q = σ q := fun q n0 => (hq_17 q n0).trans (hL29 q n0)
                  refine lv_iload hx hb dX0_number_126 (lv_at hl 7 rfl) ?_
                  refine m_bipush 10 hx hb dX0_number_128 (by decide) ?_
                  refine m_idiv (((u / 10 : Nat) : Int)) hx hb dX0_number_130 (by omega) (by omega) (by first | rfl | omega) ?_
                  refine lv_istore (lv' := [(5, .int (oI (((u / 10 : Nat) : Int)))), (4, .int (oI (((nx.toNat : Nat) : Int)))), (8, .int (oI (nx))), (7, .int (oI (d))), (0, .ref (ad (57))), (1, .int (oI (2))), (2, .int (oI (((lo : Nat) : Int)))), (3, .int (oI (((hi : Nat) : Int)))), (6, .int (oI (((i : Nat) : Int))))]) hx hb dX0_number_131 hl (by decide) rfl (fun ls hl => ?_)
                  refine m_iinc (((i : Nat) : Int) + 1) [(6, .int (oI (((i : Nat) : Int) + 1))), (5, .int (oI (((u / 10 : Nat) : Int)))), (4, .int (oI (((nx.toNat : Nat) : Int)))), (8, .int (oI (nx))), (7, .int (oI (d))), (0, .ref (ad (57))), (1, .int (oI (2))), (2, .int (oI (((lo : Nat) : Int)))), (3, .int (oI (((hi : Nat) : Int))))] hx hb dX0_number_133 hl (j := 8) rfl (by omega) (by decide) rfl (fun ls hl => ?_)
                  refine lv_goto (tgt := 29) hx hb dX0_number_136 (by decide) ?_
                  exact ih29 (i + 1) nx.toNat (u / 10) (q + 1) fq (by omega) (by first | assumption | omega) (by first | assumption | omega) (by first | assumption | omega) (by first | assumption | omega) (Or.inl ⟨hfq, by rw [← hres, oNm_g (i := i) (by omega) (by rcases hu with ⟨rfl, rfl⟩ | ⟨rfl, rfl⟩ | ⟨rfl, rfl⟩ <;> first | rfl | omega) hd hnx (by omega) (by omega) (by omega) (by omega)]⟩) _ e57 (hL29) _ _ hH ls (lv_sub hl [5, 6, 7, 8, 2, 1, 0] rfl)
                · refine lv_aload_n hx hb dX0_number_101 rfl (lv_at hl 2 rfl) ?_
                  refine lv_aload_n hx hb dX0_number_102 rfl (lv_at hl 2 rfl) ?_
                  refine gf_X0_at hx hb hts hown hK hH (k := 57) (by omega) e57 dX0_number_103 ?_
                  refine pf_X0_fault hx hb hts hown hK hH hA (k := 57) (by omega) e57 dX0_number_106 (fun H locs σ_18 e57 hq_19 hH => ?_)
                  have e58 : σ_18 (58) = oAC cT 120 T := (hq_19 _ (by decide)).trans e58
                  have hf : ∀ q : Nat, q ≠ 57 → σ_18 q = σ q := fun q n0 => (hq_19 q n0).trans (hf q n0)
                  have hL29 : ∀ q : Nat, q ≠ 57 → σ_18 q = σ q := fun q n0 => (hq_19 q n0).trans (hL29 q n0)
                  refine lv_goto (tgt := 126) hx hb dX0_number_109 (by decide) ?_
                  refine lv_iload hx hb dX0_number_126 (lv_at hl 7 rfl) ?_
                  refine m_bipush 10 hx hb dX0_number_128 (by decide) ?_
                  refine m_idiv (((u / 10 : Nat) : Int)) hx hb dX0_number_130 (by omega) (by omega) (by first | rfl | omega) ?_
                  refine lv_istore (lv' := [(5, .int (oI (((u / 10 : Nat) : Int)))), (8, .int (oI (nx))), (7, .int (oI (d))), (0, .ref (ad (57))), (1, .int (oI (2))), (2, .int (oI (((lo : Nat) : Int)))), (3, .int (oI (((hi : Nat) : Int)))), (4, .int (oI (((v : Nat) : Int)))), (6, .int (oI (((i : Nat) : Int))))]) hx hb dX0_number_131 hl (by decide) rfl (fun ls hl => ?_)
                  refine m_iinc (((i : Nat) : Int) + 1) [(6, .int (oI (((i : Nat) : Int) + 1))), (5, .int (oI (((u / 10 : Nat) : Int)))), (8, .int (oI (nx))), (7, .int (oI (d))), (0, .ref (ad (57))), (1, .int (oI (2))), (2, .int (oI (((lo : Nat) : Int)))), (3, .int (oI (((hi : Nat) : Int)))), (4, .int (oI (((v : Nat) : Int))))] hx hb dX0_number_133 hl (j := 8) rfl (by omega) (by decide) rfl (fun ls hl => ?_)
                  refine lv_goto (tgt := 29) hx hb dX0_number_136 (by decide) ?_
                  exact ih29 (i + 1) v (u / 10) q ((q : Nat) : Int) (by omega) (by first | assumption | omega) (by first | assumption | omega) (by first | assumption | omega) (by first | assumption | omega) (Or.inr ⟨rfl, by rw [← hres, oNm_b (i := i) (by omega) (by rcases hu with ⟨rfl, rfl⟩ | ⟨rfl, rfl⟩ | ⟨rfl, rfl⟩ <;> first | rfl | omega) hd hnx (by omega)]⟩) _ e57 (hL29) _ _ hH ls (lv_sub hl [4, 5, 6, 7, 8, 1, 0] rfl)
  exact L29 _ 0 0 10 p f (Nat.lt_succ_self _) (by first | assumption | omega) (by first | assumption | omega) (by first | assumption | omega) (by first | assumption | omega) (Or.inl ⟨hfm, rfl⟩) _ e57 (fun q _ => rfl) _ _ hH ls (lv_sub hl [3, 4, 5, 6, 2, 1, 0] rfl)
set_option maxHeartbeats 4000000 in
set_option maxRecDepth 100000 in
theorem c0_num3 {l : Launch} {D : va_G} {cT : Nat → ClassId} {N b0 : Nat} {ad : Nat → Nat} (hA : oAd b0 N ad) {σ : Nat → va_E} (lo hi : Nat) (T : Nat → Int) (z p ac x1 x2 : Nat) (f on : Int) (hN : 76 ≤ N) (hT : ∀ i : Nat, i < z → 0 ≤ T i ∧ T i ≤ 255) (hz : z ≤ 120) (hp : p ≤ 150) (hf0 : -2147483648 ≤ f ∧ f < 2147483648) (hfm : f = -1) (hhi : hi ≤ 150) (hlo : lo ≤ 150) (e57 : σ (57) = .inr (0, [.ref (ad (58)), .int (oI (((z : Nat) : Int))), .int (oI (((p : Nat) : Int))), .int (oI (f)), .int (oI (((ac : Nat) : Int))), .int (oI (((x1 : Nat) : Int))), .int (oI (((x2 : Nat) : Int))), .int (oI (on))])) (e58 : σ (58) = oAC cT 120 T) :
    oCi l D cT N ad b0 yX0_number cX0_number 9 (some .int) 1 21 [.ref (ad (57)), .int (oI (3)), .int (oI (((lo : Nat) : Int))), .int (oI (((hi : Nat) : Int)))] σ (fun rr uu => ∃ v2 : Nat, ∃ p2 : Nat, ∃ fo : Int, rr = oI (((v2 : Nat) : Int)) ∧ (oNm T z lo hi 3 p 0 = (fo, p2, v2)) ∧ (p2 ≤ p + 3) ∧ (-1 ≤ fo ∧ fo ≤ 200) ∧ (v2 ≤ hi) ∧ uu (57) = .inr (0, [.ref (ad (58)), .int (oI (((z : Nat) : Int))), .int (oI (((p2 : Nat) : Int))), .int (oI (fo)), .int (oI (((ac : Nat) : Int))), .int (oI (((x1 : Nat) : Int))), .int (oI (((x2 : Nat) : Int))), .int (oI (on))]) ∧ (∀ q : Nat, q ≠ 57 → uu q = σ q)) := by
  refine m_start (cc := cX0_number) (by decide) (Nat.le_of_ble_eq_true rfl) rfl ?_
  intro Pp Ee Ss Mm Bb Me Cc Ar ls hx hb hml hown hlk hrt hts hK hH hl
  have hown : Ss.vm.findClass RX0 = some Mm.cls := hown
  have hl : lv_has ls 9 [(0, .ref (ad (57))), (1, .int (oI (3))), (2, .int (oI (((lo : Nat) : Int)))), (3, .int (oI (((hi : Nat) : Int))))] := hl
  have hf : ∀ q : Nat, q ≠ 57 → σ q = σ q := fun q _ => rfl
  refine m_iconst 0 hx hb dX0_number_0 rfl ?_
  refine lv_istore (lv' := [(4, .int (oI (0))), (0, .ref (ad (57))), (1, .int (oI (3))), (2, .int (oI (((lo : Nat) : Int)))), (3, .int (oI (((hi : Nat) : Int))))]) hx hb dX0_number_1 hl (by decide) rfl (fun ls hl => ?_)
  refine lv_iload_n hx hb dX0_number_3 rfl (lv_at hl 2 rfl) ?_
  refine m_iconst 3 hx hb dX0_number_4 rfl ?_
  refine m_icmp_ne 13 hx hb dX0_number_5 (by decide) (by omega) (by omega) (fun h_1 => absurd h_1 (by omega)) (fun h_1 => ?_)
  refine m_bipush 100 hx hb dX0_number_8 (by decide) ?_
  refine lv_goto (tgt := 24) hx hb dX0_number_10 (by decide) ?_
  refine lv_istore (lv' := [(5, .int (oI (100))), (4, .int (oI (0))), (0, .ref (ad (57))), (1, .int (oI (3))), (2, .int (oI (((lo : Nat) : Int)))), (3, .int (oI (((hi : Nat) : Int))))]) hx hb dX0_number_24 hl (by decide) rfl (fun ls hl => ?_)
  refine m_iconst 0 hx hb dX0_number_26 rfl ?_
  refine lv_istore (lv' := [(6, .int (oI (0))), (5, .int (oI (100))), (4, .int (oI (0))), (0, .ref (ad (57))), (1, .int (oI (3))), (2, .int (oI (((lo : Nat) : Int)))), (3, .int (oI (((hi : Nat) : Int))))]) hx hb dX0_number_27 hl (by decide) rfl (fun ls hl => ?_)
  have L29 : ∀ (fu : Nat) (i : Nat) (v : Nat) (u : Nat) (q : Nat) (fq : Int), (4 - i < fu) → (i ≤ 3) → ((i = 0 ∧ u = 100) ∨ (i = 1 ∧ u = 10) ∨ (i = 2 ∧ u = 1) ∨ (i = 3 ∧ u = 0)) → (v ≤ hi) → (q ≤ p + i) → ((fq = -1 ∧ oNm T z lo hi (3 - i) q v = oNm T z lo hi 3 p 0) ∨ (fq = ((q : Nat) : Int) ∧ oNm T z lo hi 3 p 0 = (fq, q, v))) → ∀ σL29 : Nat → va_E, σL29 (57) = .inr (0, [.ref (ad (58)), .int (oI (((z : Nat) : Int))), .int (oI (((q : Nat) : Int))), .int (oI (fq)), .int (oI (((ac : Nat) : Int))), .int (oI (((x1 : Nat) : Int))), .int (oI (((x2 : Nat) : Int))), .int (oI (on))]) → (∀ q : Nat, q ≠ 57 → σL29 q = σ q) → ∀ (H : Heap) (locs : List Loc), oH b0 D N ad Ss.heap σL29 H locs → ∀ ls : Array Slot, lv_has ls 9 [(0, .ref (ad (57))), (1, .int (oI (3))), (2, .int (oI (((lo : Nat) : Int)))), (3, .int (oI (((hi : Nat) : Int)))), (4, .int (oI (((v : Nat) : Int)))), (5, .int (oI (((u : Nat) : Int)))), (6, .int (oI (((i : Nat) : Int))))] → W Pp l Ee { frames := 1, cells := 0, slots := 0, locals := 21 } Ss Mm Ar Bb Me Cc H locs 0 0 (MQ Bb (va_Qi (fun rr uu => ∃ v2 : Nat, ∃ p2 : Nat, ∃ fo : Int, rr = oI (((v2 : Nat) : Int)) ∧ (oNm T z lo hi 3 p 0 = (fo, p2, v2)) ∧ (p2 ≤ p + 3) ∧ (-1 ≤ fo ∧ fo ≤ 200) ∧ (v2 ≤ hi) ∧ uu (57) = .inr (0, [.ref (ad (58)), .int (oI (((z : Nat) : Int))), .int (oI (((p2 : Nat) : Int))), .int (oI (fo)), .int (oI (((ac : Nat) : Int))), .int (oI (((x1 : Nat) : Int))), .int (oI (((x2 : Nat) : Int))), .int (oI (on))]) ∧ (∀ q : Nat, q ≠ 57 → uu q = σ q)) (oV D N ad) (fun q => b0 ≤ q)) Ar Ss 0 0 (fun q => b0 ≤ q)) (F0 Mm 29 ls []) := by
    intro fu29
    induction fu29 with
    | zero =>
      intro i v u q fq hm29
      exact absurd hm29 (Nat.not_lt_zero _)
    | succ fu29 ih29 =>
      intro i v u q fq hm29 hi4 hu hv hq hres σL29 e57 hL29 H locs hH ls hl
      have e58 : σL29 (58) = oAC cT 120 T := (hL29 _ (by decide)).trans e58
      have hf : ∀ q : Nat, q ≠ 57 → σL29 q = σ q := fun q n0 => (hL29 q n0).trans (hf q n0)
      refine lv_iload hx hb dX0_number_29 (lv_at hl 6 rfl) ?_
      refine lv_iload_n hx hb dX0_number_31 rfl (lv_at hl 1 rfl) ?_
      refine m_icmp_ge 139 hx hb dX0_number_32 (by decide) (by omega) (by omega) (fun h_2 => ?_) (fun h_2 => ?_)
      · refine lv_iload hx hb dX0_number_139 (lv_at hl 4 rfl) ?_
        exact m_iret hx hb hlk hrt hH (m_ni _) dX0_number_141 ⟨v, q, fq, rfl, (by rcases hres with ⟨e1, e⟩ | ⟨_, e⟩; rw [← e, show 3 - i = 0 by omega, e1]; rfl; exact e), (by omega), (by rcases hres with ⟨e1, e⟩ | ⟨e1, e⟩ <;> omega), hv, e57, hf⟩
      · refine lv_iload hx hb dX0_number_35 (lv_at hl 6 rfl) ?_
        refine m_iconst 3 hx hb dX0_number_37 rfl ?_
        refine m_icmp_ge 139 hx hb dX0_number_38 (by decide) (by omega) (by omega) (fun h_3 => absurd h_3 (by omega)) (fun h_3 => ?_)
        refine lv_aload_n hx hb dX0_number_41 rfl (lv_at hl 0 rfl) ?_
        refine gf_X0_fault hx hb hts hown hK hH (k := 57) (by omega) e57 dX0_number_42 ?_
        refine m_iconst (-1) hx hb dX0_number_45 rfl ?_
        refine m_icmp_ne 139 hx hb dX0_number_46 (by decide) (by omega) (by omega) (fun hfq => ?_) (fun hfq => ?_)
        · refine lv_iload hx hb dX0_number_139 (lv_at hl 4 rfl) ?_
          exact m_iret hx hb hlk hrt hH (m_ni _) dX0_number_141 ⟨v, q, fq, rfl, (by rcases hres with ⟨e1, e⟩ | ⟨_, e⟩; exact absurd e1 hfq; exact e), (by omega), (by rcases hres with ⟨e1, e⟩ | ⟨e1, e⟩ <;> omega), hv, e57, hf⟩
        · have hres : oNm T z lo hi (3 - i) q v = oNm T z lo hi 3 p 0 := by
              rcases hres with ⟨-, e⟩ | ⟨e, -⟩
              · exact e
              · omega
          refine lv_aload_n hx hb dX0_number_49 rfl (lv_at hl 0 rfl) ?_
          refine lv_aload_n hx hb dX0_number_50 rfl (lv_at hl 0 rfl) ?_
          refine gf_X0_at hx hb hts hown hK hH (k := 57) (by omega) e57 dX0_number_51 ?_
          refine m_pVi hx hb hml hown hts hK hH hl (rest := []) cw_X0_50 (c0_sign hA ((q : Nat) : Int) T z q ac x1 x2 fq on (by first | assumption | omega) (by first | assumption | omega) (by first | assumption | omega) (by first | assumption | omega) (by first | assumption | omega) (by first | assumption | omega) e57 e58) ⟨Nat.le_of_ble_eq_true rfl, Nat.le_of_ble_eq_true rfl⟩ ⟨Nat.le_of_ble_eq_true rfl, Nat.le_of_ble_eq_true rfl⟩ rfl (k := 57) (by omega) e57 rfl rfl (Nat.le_of_ble_eq_true rfl) dX0_number_54 (fun H locs hH => ?_)
          refine m_bipush 48 hx hb dX0_number_57 (by decide) ?_
          have hsb := oSg_b hT ((q : Nat) : Int)
          obtain ⟨d, hd⟩ : ∃ y : Int, oSg T z ((q : Nat) : Int) - 48 = y := ⟨_, rfl⟩
          refine m_isub ((oSg T z ((q : Nat) : Int)) - 48) hx hb dX0_number_59 (by omega) ?_
          refine m_topI (d) (by rw [← hd]) ?_
          refine lv_istore (lv' := [(7, .int (oI (d))), (0, .ref (ad (57))), (1, .int (oI (3))), (2, .int (oI (((lo : Nat) : Int)))), (3, .int (oI (((hi : Nat) : Int)))), (4, .int (oI (((v : Nat) : Int)))), (5, .int (oI (((u : Nat) : Int)))), (6, .int (oI (((i : Nat) : Int))))]) hx hb dX0_number_60 hl (by decide) rfl (fun ls hl => ?_)
          refine lv_iload hx hb dX0_number_62 (lv_at hl 5 rfl) ?_
          refine lv_iload hx hb dX0_number_64 (lv_at hl 0 rfl) ?_
          refine lv_iload hx hb dX0_number_66 (lv_at hl 6 rfl) ?_
          refine m_imul ((d * ((u : Nat) : Int))) hx hb dX0_number_68 (rfl) ?_
          obtain ⟨nx, hnx⟩ : ∃ y : Int, ((v : Nat) : Int) + d * ((u : Nat) : Int) = y := ⟨_, rfl⟩
          have hnb : -10000 ≤ nx ∧ nx ≤ 30000 := by rcases hu with ⟨rfl, rfl⟩ | ⟨rfl, rfl⟩ | ⟨rfl, rfl⟩ | ⟨rfl, rfl⟩ <;> omega
          refine m_iadd ((d * ((u : Nat) : Int)) + ((v : Nat) : Int)) hx hb dX0_number_69 (by omega) ?_
          refine m_topI (nx) (by rw [← hnx]; omega) ?_
          refine lv_istore (lv' := [(8, .int (oI (nx))), (7, .int (oI (d))), (0, .ref (ad (57))), (1, .int (oI (3))), (2, .int (oI (((lo : Nat) : Int)))), (3, .int (oI (((hi : Nat) : Int)))), (4, .int (oI (((v : Nat) : Int)))), (5, .int (oI (((u : Nat) : Int)))), (6, .int (oI (((i : Nat) : Int))))]) hx hb dX0_number_70 hl (by decide) rfl (fun ls hl => ?_)
          refine lv_iload hx hb dX0_number_72 (lv_at hl 1 rfl) ?_
          refine m_if_lt 101 hx hb dX0_number_74 (by decide) (by omega) (fun h_5 => ?_) (fun h_5 => ?_)
          · refine lv_aload_n hx hb dX0_number_101 rfl (lv_at hl 2 rfl) ?_
            refine lv_aload_n hx hb dX0_number_102 rfl (lv_at hl 2 rfl) ?_
            refine gf_X0_at hx hb hts hown hK hH (k := 57) (by omega) e57 dX0_number_103 ?_
            refine pf_X0_fault hx hb hts hown hK hH hA (k := 57) (by omega) e57 dX0_number_106 (fun H locs σ_6 e57 hq_7 hH => ?_)
            have e58 : σ_6 (58) = oAC cT 120 T := (hq_7 _ (by decide)).trans e58
            have hf : ∀ q : Nat, q ≠ 57 → σ_6 q = σ q := fun q n0 => (hq_7 q n0).trans (hf q n0)
            have hL29 : ∀ q : Nat, q ≠ 57 → σ_6 q = σ q := fun q n0 => (hq_7 q n0).trans (hL29 q n0)
            refine lv_goto (tgt := 126) hx hb dX0_number_109 (by decide) ?_
            refine lv_iload hx hb dX0_number_126 (lv_at hl 7 rfl) ?_
            refine m_bipush 10 hx hb dX0_number_128 (by decide) ?_
            refine m_idiv (((u / 10 : Nat) : Int)) hx hb dX0_number_130 (by omega) (by omega) (by first | rfl | omega) ?_
            refine lv_istore (lv' := [(5, .int (oI (((u / 10 : Nat) : Int)))), (8, .int (oI (nx))), (7, .int (oI (d))), (0, .ref (ad (57))), (1, .int (oI (3))), (2, .int (oI (((lo : Nat) : Int)))), (3, .int (oI (((hi : Nat) : Int)))), (4, .int (oI (((v : Nat) : Int)))), (6, .int (oI (((i : Nat) : Int))))]) hx hb dX0_number_131 hl (by decide) rfl (fun ls hl => ?_)
            refine m_iinc (((i : Nat) : Int) + 1) [(6, .int (oI (((i : Nat) : Int) + 1))), (5, .int (oI (((u / 10 : Nat) : Int)))), (8, .int (oI (nx))), (7, .int (oI (d))), (0, .ref (ad (57))), (1, .int (oI (3))), (2, .int (oI (((lo : Nat) : Int)))), (3, .int (oI (((hi : Nat) : Int)))), (4, .int (oI (((v : Nat) : Int))))] hx hb dX0_number_133 hl (j := 8) rfl (by omega) (by decide) rfl (fun ls hl => ?_)
            refine lv_goto (tgt := 29) hx hb dX0_number_136 (by decide) ?_
            exact ih29 (i + 1) v (u / 10) q ((q : Nat) : Int) (by omega) (by first | assumption | omega) (by first | assumption | omega) (by first | assumption | omega) (by first | assumption | omega) (Or.inr ⟨rfl, by rw [← hres, oNm_b (i := i) (by omega) (by rcases hu with ⟨rfl, rfl⟩ | ⟨rfl, rfl⟩ | ⟨rfl, rfl⟩ | ⟨rfl, rfl⟩ <;> first | rfl | omega) hd hnx (by omega)]⟩) _ e57 (hL29) _ _ hH ls (lv_sub hl [4, 5, 6, 7, 8, 1, 0] rfl)
          · refine lv_iload hx hb dX0_number_77 (lv_at hl 1 rfl) ?_
            refine m_bipush 9 hx hb dX0_number_79 (by decide) ?_
            refine m_icmp_gt 101 hx hb dX0_number_81 (by decide) (by omega) (by omega) (fun h_8 => ?_) (fun h_8 => ?_)
            · refine lv_aload_n hx hb dX0_number_101 rfl (lv_at hl 2 rfl) ?_
              refine lv_aload_n hx hb dX0_number_102 rfl (lv_at hl 2 rfl) ?_
              refine gf_X0_at hx hb hts hown hK hH (k := 57) (by omega) e57 dX0_number_103 ?_
              refine pf_X0_fault hx hb hts hown hK hH hA (k := 57) (by omega) e57 dX0_number_106 (fun H locs σ_9 e57 hq_10 hH => ?_)
              have e58 : σ_9 (58) = oAC cT 120 T := (hq_10 _ (by decide)).trans e58
              have hf : ∀ q : Nat, q ≠ 57 → σ_9 q = σ q := fun q n0 => (hq_10 q n0).trans (hf q n0)
              have hL29 : ∀ q : Nat, q ≠ 57 → σ_9 q = σ q := fun q n0 => (hq_10 q n0).trans (hL29 q n0)
              refine lv_goto (tgt := 126) hx hb dX0_number_109 (by decide) ?_
              refine lv_iload hx hb dX0_number_126 (lv_at hl 7 rfl) ?_
              refine m_bipush 10 hx hb dX0_number_128 (by decide) ?_
              refine m_idiv (((u / 10 : Nat) : Int)) hx hb dX0_number_130 (by omega) (by omega) (by first | rfl | omega) ?_
              refine lv_istore (lv' := [(5, .int (oI (((u / 10 : Nat) : Int)))), (8, .int (oI (nx))), (7, .int (oI (d))), (0, .ref (ad (57))), (1, .int (oI (3))), (2, .int (oI (((lo : Nat) : Int)))), (3, .int (oI (((hi : Nat) : Int)))), (4, .int (oI (((v : Nat) : Int)))), (6, .int (oI (((i : Nat) : Int))))]) hx hb dX0_number_131 hl (by decide) rfl (fun ls hl => ?_)
              refine m_iinc (((i : Nat) : Int) + 1) [(6, .int (oI (((i : Nat) : Int) + 1))), (5, .int (oI (((u / 10 : Nat) : Int)))), (8, .int (oI (nx))), (7, .int (oI (d))), (0, .ref (ad (57))), (1, .int (oI (3))), (2, .int (oI (((lo : Nat) : Int)))), (3, .int (oI (((hi : Nat) : Int)))), (4, .int (oI (((v : Nat) : Int))))] hx hb dX0_number_133 hl (j := 8) rfl (by omega) (by decide) rfl (fun ls hl => ?_)
              refine lv_goto (tgt := 29) hx hb dX0_number_136 (by decide) ?_
              exact ih29 (i + 1) v (u / 10) q ((q : Nat) : Int) (by omega) (by first | assumption | omega) (by first | assumption | omega) (by first | assumption | omega) (by first | assumption | omega) (Or.inr ⟨rfl, by rw [← hres, oNm_b (i := i) (by omega) (by rcases hu with ⟨rfl, rfl⟩ | ⟨rfl, rfl⟩ | ⟨rfl, rfl⟩ | ⟨rfl, rfl⟩ <;> first | rfl | omega) hd hnx (by omega)]⟩) _ e57 (hL29) _ _ hH ls (lv_sub hl [4, 5, 6, 7, 8, 1, 0] rfl)
            · refine lv_iload hx hb dX0_number_84 (lv_at hl 0 rfl) ?_
              refine lv_iload_n hx hb dX0_number_86 rfl (lv_at hl 5 rfl) ?_
              refine m_icmp_gt 101 hx hb dX0_number_87 (by decide) (by omega) (by omega) (fun h_11 => ?_) (fun h_11 => ?_)
              · refine lv_aload_n hx hb dX0_number_101 rfl (lv_at hl 2 rfl) ?_
                refine lv_aload_n hx hb dX0_number_102 rfl (lv_at hl 2 rfl) ?_
                refine gf_X0_at hx hb hts hown hK hH (k := 57) (by omega) e57 dX0_number_103 ?_
                refine pf_X0_fault hx hb hts hown hK hH hA (k := 57) (by omega) e57 dX0_number_106 (fun H locs σ_12 e57 hq_13 hH => ?_)
                have e58 : σ_12 (58) = oAC cT 120 T := (hq_13 _ (by decide)).trans e58
                have hf : ∀ q : Nat, q ≠ 57 → σ_12 q = σ q := fun q n0 => (hq_13 q n0).trans (hf q n0)
                have hL29 : ∀ q : Nat, q ≠ 57 → σ_12 q = σ q := fun q n0 => (hq_13 q n0).trans (hL29 q n0)
                refine lv_goto (tgt := 126) hx hb dX0_number_109 (by decide) ?_
                refine lv_iload hx hb dX0_number_126 (lv_at hl 7 rfl) ?_
                refine m_bipush 10 hx hb dX0_number_128 (by decide) ?_
                refine m_idiv (((u / 10 : Nat) : Int)) hx hb dX0_number_130 (by omega) (by omega) (by first | rfl | omega) ?_
                refine lv_istore (lv' := [(5, .int (oI (((u / 10 : Nat) : Int)))), (8, .int (oI (nx))), (7, .int (oI (d))), (0, .ref (ad (57))), (1, .int (oI (3))), (2, .int (oI (((lo : Nat) : Int)))), (3, .int (oI (((hi : Nat) : Int)))), (4, .int (oI (((v : Nat) : Int)))), (6, .int (oI (((i : Nat) : Int))))]) hx hb dX0_number_131 hl (by decide) rfl (fun ls hl => ?_)
                refine m_iinc (((i : Nat) : Int) + 1) [(6, .int (oI (((i : Nat) : Int) + 1))), (5, .int (oI (((u / 10 : Nat) : Int)))), (8, .int (oI (nx))), (7, .int (oI (d))), (0, .ref (ad (57))), (1, .int (oI (3))), (2, .int (oI (((lo : Nat) : Int)))), (3, .int (oI (((hi : Nat) : Int)))), (4, .int (oI (((v : Nat) : Int))))] hx hb dX0_number_133 hl (j := 8) rfl (by omega) (by decide) rfl (fun ls hl => ?_)
                refine lv_goto (tgt := 29) hx hb dX0_number_136 (by decide) ?_
                exact ih29 (i + 1) v (u / 10) q ((q : Nat) : Int) (by omega) (by first | assumption | omega) (by first | assumption | omega) (by first | assumption | omega) (by first | assumption | omega) (Or.inr ⟨rfl, by rw [← hres, oNm_b (i := i) (by omega) (by rcases hu with ⟨rfl, rfl⟩ | ⟨rfl, rfl⟩ | ⟨rfl, rfl⟩ | ⟨rfl, rfl⟩ <;> first | rfl | omega) hd hnx (by omega)]⟩) _ e57 (hL29) _ _ hH ls (lv_sub hl [4, 5, 6, 7, 8, 1, 0] rfl)
              · refine lv_iload hx hb dX0_number_90 (lv_at hl 0 rfl) ?_
                refine lv_iload hx hb dX0_number_92 (lv_at hl 7 rfl) ?_
                refine m_iadd (nx + ((u : Nat) : Int)) hx hb dX0_number_94 (by omega) ?_
                refine m_iconst 1 hx hb dX0_number_95 rfl ?_
                refine m_isub (nx + ((u : Nat) : Int) - 1) hx hb dX0_number_96 (by omega) ?_
                refine lv_iload_n hx hb dX0_number_97 rfl (lv_at hl 4 rfl) ?_
                refine m_icmp_ge 112 hx hb dX0_number_98 (by decide) (by omega) (by omega) (fun h_14 => ?_) (fun h_14 => ?_)
                · have hnn : 0 ≤ nx := by rcases hu with ⟨rfl, rfl⟩ | ⟨rfl, rfl⟩ | ⟨rfl, rfl⟩ | ⟨rfl, rfl⟩ <;> omega
                  refine lv_iload hx hb dX0_number_112 (lv_at hl 0 rfl) ?_
                  refine m_topI (((nx.toNat : Nat) : Int)) ((Int.toNat_of_nonneg (by omega)).symm) ?_
                  refine lv_istore (lv' := [(4, .int (oI (((nx.toNat : Nat) : Int)))), (8, .int (oI (nx))), (7, .int (oI (d))), (0, .ref (ad (57))), (1, .int (oI (3))), (2, .int (oI (((lo : Nat) : Int)))), (3, .int (oI (((hi : Nat) : Int)))), (5, .int (oI (((u : Nat) : Int)))), (6, .int (oI (((i : Nat) : Int))))]) hx hb dX0_number_114 hl (by decide) rfl (fun ls hl => ?_)
                  refine lv_aload_n hx hb dX0_number_116 rfl (lv_at hl 3 rfl) ?_
                  refine lv_dup hx hb dX0_number_117 rfl ?_
                  refine gf_X0_at hx hb hts hown hK hH (k := 57) (by omega) e57 dX0_number_118 ?_
                  refine m_iconst 1 hx hb dX0_number_121 rfl ?_
                  refine m_iadd (((q : Nat) : Int) + 1) hx hb dX0_number_122 (by omega) ?_
                  refine pf_X0_at hx hb hts hown hK hH hA (k := 57) (by omega) e57 dX0_number_123 (fun H locs σ_15 e57 hq_16 hH => ?_)
                  have e58 : σ_15 (58) = oAC cT 120 T := (hq_16 _ (by decide)).trans e58
                  have hf : ∀ q : Nat, q ≠ 57 → σ_15 q = σ q := fun q n0 => (hq_16 q n0).trans (hf q n0)
                  have hL29 : ∀ q : Nat, q ≠ 57 → σ_15 q = σ q := fun q n0 => (hq_16 q n0).trans (hL29 q n0)
                  refine lv_iload hx hb dX0_number_126 (lv_at hl 7 rfl) ?_
                  refine m_bipush 10 hx hb dX0_number_128 (by decide) ?_
                  refine m_idiv (((u / 10 : Nat) : Int)) hx hb dX0_number_130 (by omega) (by omega) (by first | rfl | omega) ?_
                  refine lv_istore (lv' := [(5, .int (oI (((u / 10 : Nat) : Int)))), (4, .int (oI (((nx.toNat : Nat) : Int)))), (8, .int (oI (nx))), (7, .int (oI (d))), (0, .ref (ad (57))), (1, .int (oI (3))), (2, .int (oI (((lo : Nat) : Int)))), (3, .int (oI (((hi : Nat) : Int)))), (6, .int (oI (((i : Nat) : Int))))]) hx hb dX0_number_131 hl (by decide) rfl (fun ls hl => ?_)
                  refine m_iinc (((i : Nat) : Int) + 1) [(6, .int (oI (((i : Nat) : Int) + 1))), (5, .int (oI (((u / 10 : Nat) : Int)))), (4, .int (oI (((nx.toNat : Nat) : Int)))), (8, .int (oI (nx))), (7, .int (oI (d))), (0, .ref (ad (57))), (1, .int (oI (3))), (2, .int (oI (((lo : Nat) : Int)))), (3, .int (oI (((hi : Nat) : Int))))] hx hb dX0_number_133 hl (j := 8) rfl (by omega) (by decide) rfl (fun ls hl => ?_)
                  refine lv_goto (tgt := 29) hx hb dX0_number_136 (by decide) ?_
                  exact ih29 (i + 1) nx.toNat (u / 10) (q + 1) fq (by omega) (by first | assumption | omega) (by first | assumption | omega) (by first | assumption | omega) (by first | assumption | omega) (Or.inl ⟨hfq, by rw [← hres, oNm_g (i := i) (by omega) (by rcases hu with ⟨rfl, rfl⟩ | ⟨rfl, rfl⟩ | ⟨rfl, rfl⟩ | ⟨rfl, rfl⟩ <;> first | rfl | omega) hd hnx (by omega) (by omega) (by omega) (by omega)]⟩) _ e57 (hL29) _ _ hH ls (lv_sub hl [5, 6, 7, 8, 2, 1, 0] rfl)
                · refine lv_aload_n hx hb dX0_number_101 rfl (lv_at hl 2 rfl) ?_
                  refine lv_aload_n hx hb dX0_number_102 rfl (lv_at hl 2 rfl) ?_
                  refine gf_X0_at hx hb hts hown hK hH (k := 57) (by omega) e57 dX0_number_103 ?_
                  refine pf_X0_fault hx hb hts hown hK hH hA (k := 57) (by omega) e57 dX0_number_106 (fun H locs σ_17 e57 hq_18 hH => ?_)
                  have e58 : σ_17 (58) = oAC cT 120 T := (hq_18 _ (by decide)).trans e58
                  have hf : ∀ q : Nat, q ≠ 57 → σ_17 q = σ q := fun q n0 => (hq_18 q n0).trans (hf q n0)
                  have hL29 : ∀ q : Nat, q ≠ 57 → σ_17 q = σ q := fun q n0 => (hq_18 q n0).trans (hL29 q n0)
                  refine lv_goto (tgt := 126) hx hb dX0_number_109 (by decide) ?_
                  refine lv_iload hx hb dX0_number_126 (lv_at hl 7 rfl) ?_
                  refine m_bipush 10 hx hb dX0_number_128 (by decide) ?_
                  refine m_idiv (((u / 10 : Nat) : Int)) hx hb dX0_number_130 (by omega) (by omega) (by first | rfl | omega) ?_
                  refine lv_istore (lv' := [(5, .int (oI (((u / 10 : Nat) : Int)))), (8, .int (oI (nx))), (7, .int (oI (d))), (0, .ref (ad (57))), (1, .int (oI (3))), (2, .int (oI (((lo : Nat) : Int)))), (3, .int (oI (((hi : Nat) : Int)))), (4, .int (oI (((v : Nat) : Int)))), (6, .int (oI (((i : Nat) : Int))))]) hx hb dX0_number_131 hl (by decide) rfl (fun ls hl => ?_)
                  refine m_iinc (((i : Nat) : Int) + 1) [(6, .int (oI (((i : Nat) : Int) + 1))), (5, .int (oI (((u / 10 : Nat) : Int)))), (8, .int (oI (nx))), (7, .int (oI (d))), (0, .ref (ad (57))), (1, .int (oI (3))), (2, .int (oI (((lo : Nat) : Int)))), (3, .int (oI (((hi : Nat) : Int)))), (4, .int (oI (((v : Nat) : Int))))] hx hb dX0_number_133 hl (j := 8) rfl (by omega) (by decide) rfl (fun ls hl => ?_)
                  refine lv_goto (tgt := 29) hx hb dX0_number_136 (by decide) ?_
                  exact ih29 (i + 1) v (u / 10) q ((q : Nat) : Int) (by omega) (by first | assumption | omega) (by first | assumption | omega) (by first | assumption | omega) (by first | assumption | omega) (Or.inr ⟨rfl, by rw [← hres, oNm_b (i := i) (by omega) (by rcases hu with ⟨rfl, rfl⟩ | ⟨rfl, rfl⟩ | ⟨rfl, rfl⟩ | ⟨rfl, rfl⟩ <;> first | rfl | omega) hd hnx (by omega)]⟩) _ e57 (hL29) _ _ hH ls (lv_sub hl [4, 5, 6, 7, 8, 1, 0] rfl)
  exact L29 _ 0 0 100 p f (Nat.lt_succ_self _) (by first | assumption | omega) (by first | assumption | omega) (by first | assumption | omega) (by first | assumption | omega) (Or.inl ⟨hfm, rfl⟩) _ e57 (fun q _ => rfl) _ _ hH ls (lv_sub hl [3, 4, 5, 6, 2, 1, 0] rfl)
set_option maxHeartbeats 4000000 in
set_option maxRecDepth 100000 in
theorem c0_numf {l : Launch} {D : va_G} {cT : Nat → ClassId} {N b0 : Nat} {ad : Nat → Nat} (hA : oAd b0 N ad) {σ : Nat → va_E} (lo hi : Nat) (T : Nat → Int) (z p ac x1 x2 : Nat) (f on : Int) (hN : 76 ≤ N) (hT : ∀ i : Nat, i < z → 0 ≤ T i ∧ T i ≤ 255) (hz : z ≤ 120) (hp : p ≤ 150) (hf0 : -2147483648 ≤ f ∧ f < 2147483648) (hne : ¬ f = -1) (e57 : σ (57) = .inr (0, [.ref (ad (58)), .int (oI (((z : Nat) : Int))), .int (oI (((p : Nat) : Int))), .int (oI (f)), .int (oI (((ac : Nat) : Int))), .int (oI (((x1 : Nat) : Int))), .int (oI (((x2 : Nat) : Int))), .int (oI (on))])) (e58 : σ (58) = oAC cT 120 T) :
    oCi l D cT N ad b0 yX0_number cX0_number 9 (some .int) 1 21 [.ref (ad (57)), .int (oI (2)), .int (oI (((lo : Nat) : Int))), .int (oI (((hi : Nat) : Int)))] σ (fun rr uu => rr = oI (0) ∧ uu = σ) := by
  refine m_start (cc := cX0_number) (by decide) (Nat.le_of_ble_eq_true rfl) rfl ?_
  intro Pp Ee Ss Mm Bb Me Cc Ar ls hx hb hml hown hlk hrt hts hK hH hl
  have hown : Ss.vm.findClass RX0 = some Mm.cls := hown
  have hl : lv_has ls 9 [(0, .ref (ad (57))), (1, .int (oI (2))), (2, .int (oI (((lo : Nat) : Int)))), (3, .int (oI (((hi : Nat) : Int))))] := hl
  refine m_iconst 0 hx hb dX0_number_0 rfl ?_
  refine lv_istore (lv' := [(4, .int (oI (0))), (0, .ref (ad (57))), (1, .int (oI (2))), (2, .int (oI (((lo : Nat) : Int)))), (3, .int (oI (((hi : Nat) : Int))))]) hx hb dX0_number_1 hl (by decide) rfl (fun ls hl => ?_)
  refine lv_iload_n hx hb dX0_number_3 rfl (lv_at hl 2 rfl) ?_
  refine m_iconst 3 hx hb dX0_number_4 rfl ?_
  refine m_icmp_ne 13 hx hb dX0_number_5 (by decide) (by omega) (by omega) (fun h_1 => ?_) (fun h_1 => absurd h_1 (by omega))
  refine lv_iload_n hx hb dX0_number_13 rfl (lv_at hl 2 rfl) ?_
  refine m_iconst 2 hx hb dX0_number_14 rfl ?_
  refine m_icmp_ne 23 hx hb dX0_number_15 (by decide) (by omega) (by omega) (fun h_2 => absurd h_2 (by omega)) (fun h_2 => ?_)
  refine m_bipush 10 hx hb dX0_number_18 (by decide) ?_
  refine lv_goto (tgt := 24) hx hb dX0_number_20 (by decide) ?_
  refine lv_istore (lv' := [(5, .int (oI (10))), (4, .int (oI (0))), (0, .ref (ad (57))), (1, .int (oI (2))), (2, .int (oI (((lo : Nat) : Int)))), (3, .int (oI (((hi : Nat) : Int))))]) hx hb dX0_number_24 hl (by decide) rfl (fun ls hl => ?_)
  refine m_iconst 0 hx hb dX0_number_26 rfl ?_
  refine lv_istore (lv' := [(6, .int (oI (0))), (5, .int (oI (10))), (4, .int (oI (0))), (0, .ref (ad (57))), (1, .int (oI (2))), (2, .int (oI (((lo : Nat) : Int)))), (3, .int (oI (((hi : Nat) : Int))))]) hx hb dX0_number_27 hl (by decide) rfl (fun ls hl => ?_)
  refine lv_iload hx hb dX0_number_29 (lv_at hl 0 rfl) ?_
  refine lv_iload_n hx hb dX0_number_31 rfl (lv_at hl 4 rfl) ?_
  refine m_icmp_ge 139 hx hb dX0_number_32 (by decide) (by omega) (by omega) (fun h_3 => absurd h_3 (by omega)) (fun h_3 => ?_)
  refine lv_iload hx hb dX0_number_35 (lv_at hl 0 rfl) ?_
  refine m_iconst 3 hx hb dX0_number_37 rfl ?_
  refine m_icmp_ge 139 hx hb dX0_number_38 (by decide) (by omega) (by omega) (fun h_4 => absurd h_4 (by omega)) (fun h_4 => ?_)
  refine lv_aload_n hx hb dX0_number_41 rfl (lv_at hl 3 rfl) ?_
  refine gf_X0_fault hx hb hts hown hK hH (k := 57) (by omega) e57 dX0_number_42 ?_
  refine m_iconst (-1) hx hb dX0_number_45 rfl ?_
  refine m_icmp_ne 139 hx hb dX0_number_46 (by decide) (by omega) (by omega) (fun h_5 => ?_) (fun h_5 => absurd h_5 (hne))
  refine lv_iload hx hb dX0_number_139 (lv_at hl 2 rfl) ?_
  exact m_iret hx hb hlk hrt hH (m_ni _) dX0_number_141 ⟨rfl, rfl⟩
set_option maxHeartbeats 4000000 in
set_option maxRecDepth 100000 in
theorem c0_rulerNumber {l : Launch} {D : va_G} {cT : Nat → ClassId} {N b0 : Nat} {ad : Nat → Nat} (hA : oAd b0 N ad) {σ : Nat → va_E} (T : Nat → Int) (z p ac x1 x2 : Nat) (f on : Int) (hN : 76 ≤ N) (hT : ∀ i : Nat, i < z → 0 ≤ T i ∧ T i ≤ 255) (hz : z ≤ 120) (hp : p ≤ 150) (hf0 : -2147483648 ≤ f ∧ f < 2147483648) (hfm : f = -1) (e57 : σ (57) = .inr (0, [.ref (ad (58)), .int (oI (((z : Nat) : Int))), .int (oI (((p : Nat) : Int))), .int (oI (f)), .int (oI (((ac : Nat) : Int))), .int (oI (((x1 : Nat) : Int))), .int (oI (((x2 : Nat) : Int))), .int (oI (on))])) (e58 : σ (58) = oAC cT 120 T) :
    oCi l D cT N ad b0 yX0_rulerNumber cX0_rulerNumber 1 (some .int) 2 49 [.ref (ad (57))] σ (fun rr uu => ∃ v2 : Nat, ∃ p2 : Nat, ∃ fo : Int, rr = oI (((v2 : Nat) : Int)) ∧ (oNm T z 0 3 1 p 0 = (fo, p2, v2)) ∧ (p2 ≤ p + 3) ∧ (-1 ≤ fo ∧ fo ≤ 200) ∧ (v2 ≤ 3) ∧ uu (57) = .inr (0, [.ref (ad (58)), .int (oI (((z : Nat) : Int))), .int (oI (((p2 : Nat) : Int))), .int (oI (fo)), .int (oI (((ac : Nat) : Int))), .int (oI (((x1 : Nat) : Int))), .int (oI (((x2 : Nat) : Int))), .int (oI (on))]) ∧ (∀ q : Nat, q ≠ 57 → uu q = σ q)) := by
  refine m_start (cc := cX0_rulerNumber) (by decide) (Nat.le_of_ble_eq_true rfl) rfl ?_
  intro Pp Ee Ss Mm Bb Me Cc Ar ls hx hb hml hown hlk hrt hts hK hH hl
  have hown : Ss.vm.findClass RX0 = some Mm.cls := hown
  have hl : lv_has ls 1 [(0, .ref (ad (57)))] := hl
  have hf : ∀ q : Nat, q ≠ 57 → σ q = σ q := fun q _ => rfl
  refine lv_aload_n hx hb dX0_rulerNumber_0 rfl (lv_at hl 0 rfl) ?_
  refine m_iconst 1 hx hb dX0_rulerNumber_1 rfl ?_
  refine m_iconst 0 hx hb dX0_rulerNumber_2 rfl ?_
  refine m_iconst 3 hx hb dX0_rulerNumber_3 rfl ?_
  refine m_callVi hx hb hml hown hts hK hH hl (rest := []) cw_X0_54 (c0_num1 hA 0 3 T z p ac x1 x2 f on (by first | assumption | omega) (by first | assumption | omega) (by first | assumption | omega) (by first | assumption | omega) (by first | assumption | omega) (by first | assumption | omega) (by first | assumption | omega) (by first | assumption | omega) e57 e58) ⟨Nat.le_of_ble_eq_true rfl, Nat.le_of_ble_eq_true rfl⟩ ⟨Nat.le_of_ble_eq_true rfl, Nat.le_of_ble_eq_true rfl⟩ rfl (k := 57) (by omega) e57 rfl rfl (Nat.le_of_ble_eq_true rfl) dX0_rulerNumber_4 (fun r_4 σ_1 H locs hp_2 hH => ?_)
  obtain ⟨v2, p2, fo, rfl, hR, hp2, hfo, hv2, e57, hq_3⟩ := hp_2
  have e58 : σ_1 (58) = oAC cT 120 T := (hq_3 _ (by decide)).trans e58
  have hf : ∀ q : Nat, q ≠ 57 → σ_1 q = σ q := fun q n0 => (hq_3 q n0).trans (hf q n0)
  exact m_iret hx hb hlk hrt hH (m_ni _) dX0_rulerNumber_7 ⟨v2, p2, fo, rfl, (by first | assumption | omega), (by first | assumption | omega), (by first | assumption | omega), (by first | assumption | omega), e57, hf⟩
set_option maxHeartbeats 4000000 in
set_option maxRecDepth 100000 in
theorem c0_readCommand {l : Launch} {D : va_G} {cT : Nat → ClassId} {N b0 : Nat} {ad : Nat → Nat} (hA : oAd b0 N ad) {σ : Nat → va_E} (T : Nat → Int) (z p ac x1 x2 : Nat) (f on : Int) (hN : 76 ≤ N) (hT : ∀ i : Nat, i < z → 0 ≤ T i ∧ T i ≤ 255) (hz : z ≤ 120) (hp : p ≤ 150) (hf0 : -2147483648 ≤ f ∧ f < 2147483648) (hfm : f = -1) (hpz : p < z) (e57 : σ (57) = .inr (0, [.ref (ad (58)), .int (oI (((z : Nat) : Int))), .int (oI (((p : Nat) : Int))), .int (oI (f)), .int (oI (((ac : Nat) : Int))), .int (oI (((x1 : Nat) : Int))), .int (oI (((x2 : Nat) : Int))), .int (oI (on))])) (e58 : σ (58) = oAC cT 120 T) :
    oCv l D cT N ad b0 yX0_readCommand cX0_readCommand 2 none 3 69 [.ref (ad (57))] σ (fun uu => ∃ p2 : Nat, ∃ a2 : Nat, ∃ y1 : Nat, ∃ y2 : Nat, ∃ fo : Int, ∃ o2 : Int, (oRc T z p fo p2 a2 y1 y2) ∧ (-1 ≤ fo ∧ fo ≤ 200) ∧ (p2 ≤ 150) ∧ ((o2 = 1 ∧ T p = 109) ∨ (o2 = 0 ∧ T p ≠ 109)) ∧ uu (57) = .inr (0, [.ref (ad (58)), .int (oI (((z : Nat) : Int))), .int (oI (((p2 : Nat) : Int))), .int (oI (fo)), .int (oI (((a2 : Nat) : Int))), .int (oI (((y1 : Nat) : Int))), .int (oI (((y2 : Nat) : Int))), .int (oI (o2))]) ∧ (∀ q : Nat, q ≠ 57 → uu q = σ q)) := by
  refine m_start (cc := cX0_readCommand) (by decide) (Nat.le_of_ble_eq_true rfl) rfl ?_
  intro Pp Ee Ss Mm Bb Me Cc Ar ls hx hb hml hown hlk hrt hts hK hH hl
  have hown : Ss.vm.findClass RX0 = some Mm.cls := hown
  have hl : lv_has ls 2 [(0, .ref (ad (57)))] := hl
  have hf : ∀ q : Nat, q ≠ 57 → σ q = σ q := fun q _ => rfl
  refine lv_aload_n hx hb dX0_readCommand_0 rfl (lv_at hl 0 rfl) ?_
  refine lv_aload_n hx hb dX0_readCommand_1 rfl (lv_at hl 0 rfl) ?_
  refine gf_X0_at hx hb hts hown hK hH (k := 57) (by omega) e57 dX0_readCommand_2 ?_
  refine m_pVi hx hb hml hown hts hK hH hl (rest := []) cw_X0_50 (c0_sign hA ((p : Nat) : Int) T z p ac x1 x2 f on (by first | assumption | omega) (by first | assumption | omega) (by first | assumption | omega) (by first | assumption | omega) (by first | assumption | omega) (by first | assumption | omega) e57 e58) ⟨Nat.le_of_ble_eq_true rfl, Nat.le_of_ble_eq_true rfl⟩ ⟨Nat.le_of_ble_eq_true rfl, Nat.le_of_ble_eq_true rfl⟩ rfl (k := 57) (by omega) e57 rfl rfl (Nat.le_of_ble_eq_true rfl) dX0_readCommand_5 (fun H locs hH => ?_)
  refine m_topI ((T p)) (oSg_in (x := ((p : Nat) : Int)) ⟨by omega, by omega⟩) ?_
  refine lv_istore_n (lv' := [(1, .int (oI ((T p)))), (0, .ref (ad (57)))]) hx hb dX0_readCommand_8 rfl hl (by decide) rfl (fun ls hl => ?_)
  have hTp := hT p (by omega)
  refine lv_aload_n hx hb dX0_readCommand_9 rfl (lv_at hl 1 rfl) ?_
  refine lv_dup hx hb dX0_readCommand_10 rfl ?_
  refine gf_X0_at hx hb hts hown hK hH (k := 57) (by omega) e57 dX0_readCommand_11 ?_
  refine m_iconst 1 hx hb dX0_readCommand_14 rfl ?_
  refine m_iadd (((p : Nat) : Int) + 1) hx hb dX0_readCommand_15 (by omega) ?_
  refine pf_X0_at hx hb hts hown hK hH hA (k := 57) (by omega) e57 dX0_readCommand_16 (fun H locs σ_1 e57 hq_2 hH => ?_)
  have e58 : σ_1 (58) = oAC cT 120 T := (hq_2 _ (by decide)).trans e58
  have hf : ∀ q : Nat, q ≠ 57 → σ_1 q = σ q := fun q n0 => (hq_2 q n0).trans (hf q n0)
  refine lv_iload_n hx hb dX0_readCommand_19 rfl (lv_at hl 0 rfl) ?_
  rcases (show ((T p) : Int) = 99 ∨ ((T p) : Int) = 100 ∨ ((T p) : Int) = 101 ∨ ((T p) : Int) = 102 ∨ ((T p) : Int) = 103 ∨ ((T p) : Int) = 104 ∨ ((T p) : Int) = 105 ∨ ((T p) : Int) = 106 ∨ ((T p) : Int) = 107 ∨ ((T p) : Int) = 108 ∨ ((T p) : Int) = 109 ∨ ((T p) : Int) = 110 ∨ ((T p) : Int) = 111 ∨ ((T p) : Int) = 112 ∨ ((T p) : Int) = 113 ∨ ((T p) : Int) = 114 ∨ ((T p) : Int) = 115 ∨ ((T p) : Int) = 116 ∨ ((T p) : Int) = 117 ∨ ((T p) : Int) = 118 ∨ ((T p) : Int) = 119 ∨ ((T p) : Int) = 120 ∨ (((T p) : Int) < 99 ∨ 120 < ((T p) : Int)) by omega) with h_3 | h_3 | h_3 | h_3 | h_3 | h_3 | h_3 | h_3 | h_3 | h_3 | h_3 | h_3 | h_3 | h_3 | h_3 | h_3 | h_3 | h_3 | h_3 | h_3 | h_3 | h_3 | h_3
  · refine m_tabIn 161 hx hb dX0_readCommand_20 (by omega) (by omega) (by rw [h_3]; rfl) (by decide) ?_
    refine lv_aload_n hx hb dX0_readCommand_161 rfl (lv_at hl 1 rfl) ?_
    refine m_iconst 3 hx hb dX0_readCommand_162 rfl ?_
    refine lv_aload_n hx hb dX0_readCommand_163 rfl (lv_at hl 1 rfl) ?_
    refine m_callVi hx hb hml hown hts hK hH hl (rest := [.int (oI (3)), .ref (ad (57))]) cw_X0_62 (c0_rulerNumber hA T z (p + 1) ac x1 x2 f on (by first | assumption | omega) (by first | assumption | omega) (by first | assumption | omega) (by first | assumption | omega) (by first | assumption | omega) (by first | assumption | omega) e57 e58) ⟨Nat.le_of_ble_eq_true rfl, Nat.le_of_ble_eq_true rfl⟩ ⟨Nat.le_of_ble_eq_true rfl, Nat.le_of_ble_eq_true rfl⟩ rfl (k := 57) (by omega) e57 rfl rfl (Nat.le_of_ble_eq_true rfl) dX0_readCommand_164 (fun r_7 σ_4 H locs hp_5 hH => ?_)
    obtain ⟨va, pa, fa, rfl, hR, hpa, hfa, hva, e57, hq_6⟩ := hp_5
    have e58 : σ_4 (58) = oAC cT 120 T := (hq_6 _ (by decide)).trans e58
    have hf : ∀ q : Nat, q ≠ 57 → σ_4 q = σ q := fun q n0 => (hq_6 q n0).trans (hf q n0)
    refine lv_aload_n hx hb dX0_readCommand_167 rfl (lv_at hl 1 rfl) ?_
    refine m_iconst 2 hx hb dX0_readCommand_168 rfl ?_
    refine m_iconst 2 hx hb dX0_readCommand_169 rfl ?_
    refine m_bipush 40 hx hb dX0_readCommand_170 (by decide) ?_
    by_cases hf9 : fa = -1
    · refine m_callVi hx hb hml hown hts hK hH hl (rest := [.int (oI (((va : Nat) : Int))), .int (oI (3)), .ref (ad (57))]) cw_X0_54 (c0_num2 hA 2 40 T z pa ac x1 x2 fa on (by first | assumption | omega) (by first | assumption | omega) (by first | assumption | omega) (by first | assumption | omega) (by first | assumption | omega) (by first | assumption | omega) (by first | assumption | omega) (by first | assumption | omega) e57 e58) ⟨Nat.le_of_ble_eq_true rfl, Nat.le_of_ble_eq_true rfl⟩ ⟨Nat.le_of_ble_eq_true rfl, Nat.le_of_ble_eq_true rfl⟩ rfl (k := 57) (by omega) e57 rfl rfl (Nat.le_of_ble_eq_true rfl) dX0_readCommand_172 (fun r_11 σ_8 H locs hp_9 hH => ?_)
      obtain ⟨vb, pb, fb, rfl, hQ, hpb, hfb, hvb, e57, hq_10⟩ := hp_9
      have e58 : σ_8 (58) = oAC cT 120 T := (hq_10 _ (by decide)).trans e58
      have hf : ∀ q : Nat, q ≠ 57 → σ_8 q = σ q := fun q n0 => (hq_10 q n0).trans (hf q n0)
      refine m_callVv hx hb hml hown hts hK hH hl (rest := []) cw_X0_58 (c0_hold hA 3 va vb T z pb ac x1 x2 fb on (by first | assumption | omega) (by first | assumption | omega) (by first | assumption | omega) (by first | assumption | omega) (by first | assumption | omega) e57 e58) ⟨Nat.le_of_ble_eq_true rfl, Nat.le_of_ble_eq_true rfl⟩ ⟨Nat.le_of_ble_eq_true rfl, Nat.le_of_ble_eq_true rfl⟩ rfl (k := 57) (by omega) e57 rfl rfl (Nat.le_of_ble_eq_true rfl) dX0_readCommand_175 (fun σ_12 H locs hp_13 hH => ?_)
      obtain ⟨e57, hq_14⟩ := hp_13
      have e58 : σ_12 (58) = oAC cT 120 T := (hq_14 _ (by decide)).trans e58
      have hf : ∀ q : Nat, q ≠ 57 → σ_12 q = σ q := fun q n0 => (hq_14 q n0).trans (hf q n0)
      refine lv_goto (tgt := 240) hx hb dX0_readCommand_178 (by decide) ?_
      refine lv_aload_n hx hb dX0_readCommand_240 rfl (lv_at hl 1 rfl) ?_
      refine lv_iload_n hx hb dX0_readCommand_241 rfl (lv_at hl 0 rfl) ?_
      refine m_bipush 109 hx hb dX0_readCommand_242 (by decide) ?_
      refine m_icmp_ne 251 hx hb dX0_readCommand_244 (by decide) (by omega) (by omega) (fun h_16 => ?_) (fun h_16 => absurd h_16 (by omega))
      refine m_iconst 0 hx hb dX0_readCommand_251 rfl ?_
      refine pf_X0_on hx hb hts hown hK hH hA (k := 57) (by omega) e57 m_z0 m_f0 dX0_readCommand_252 (fun H locs σ_17 e57 hq_18 hH => ?_)
      have e58 : σ_17 (58) = oAC cT 120 T := (hq_18 _ (by decide)).trans e58
      have hf : ∀ q : Nat, q ≠ 57 → σ_17 q = σ q := fun q n0 => (hq_18 q n0).trans (hf q n0)
      exact m_vret hx hb hlk hrt hH dX0_readCommand_255 ⟨pb, 3, va, vb, fb, 0, (oRc_c1 (by assumption) hR hf9 hQ), (by first | assumption | omega), (by first | assumption | omega), (by first | assumption | omega), e57, hf⟩
    · refine m_pVi hx hb hml hown hts hK hH hl (rest := [.int (oI (((va : Nat) : Int))), .int (oI (3)), .ref (ad (57))]) cw_X0_54 (c0_numf hA 2 40 T z pa ac x1 x2 fa on (by first | assumption | omega) (by first | assumption | omega) (by first | assumption | omega) (by first | assumption | omega) (by first | assumption | omega) (by first | assumption | omega) e57 e58) ⟨Nat.le_of_ble_eq_true rfl, Nat.le_of_ble_eq_true rfl⟩ ⟨Nat.le_of_ble_eq_true rfl, Nat.le_of_ble_eq_true rfl⟩ rfl (k := 57) (by omega) e57 rfl rfl (Nat.le_of_ble_eq_true rfl) dX0_readCommand_172 (fun H locs hH => ?_)
      refine m_callVv hx hb hml hown hts hK hH hl (rest := []) cw_X0_58 (c0_hold hA 3 va 0 T z pa ac x1 x2 fa on (by first | assumption | omega) (by first | assumption | omega) (by first | assumption | omega) (by first | assumption | omega) (by first | assumption | omega) e57 e58) ⟨Nat.le_of_ble_eq_true rfl, Nat.le_of_ble_eq_true rfl⟩ ⟨Nat.le_of_ble_eq_true rfl, Nat.le_of_ble_eq_true rfl⟩ rfl (k := 57) (by omega) e57 rfl rfl (Nat.le_of_ble_eq_true rfl) dX0_readCommand_175 (fun σ_19 H locs hp_20 hH => ?_)
      obtain ⟨e57, hq_21⟩ := hp_20
      have e58 : σ_19 (58) = oAC cT 120 T := (hq_21 _ (by decide)).trans e58
      have hf : ∀ q : Nat, q ≠ 57 → σ_19 q = σ q := fun q n0 => (hq_21 q n0).trans (hf q n0)
      refine lv_goto (tgt := 240) hx hb dX0_readCommand_178 (by decide) ?_
      refine lv_aload_n hx hb dX0_readCommand_240 rfl (lv_at hl 1 rfl) ?_
      refine lv_iload_n hx hb dX0_readCommand_241 rfl (lv_at hl 0 rfl) ?_
      refine m_bipush 109 hx hb dX0_readCommand_242 (by decide) ?_
      refine m_icmp_ne 251 hx hb dX0_readCommand_244 (by decide) (by omega) (by omega) (fun h_23 => ?_) (fun h_23 => absurd h_23 (by omega))
      refine m_iconst 0 hx hb dX0_readCommand_251 rfl ?_
      refine pf_X0_on hx hb hts hown hK hH hA (k := 57) (by omega) e57 m_z0 m_f0 dX0_readCommand_252 (fun H locs σ_24 e57 hq_25 hH => ?_)
      have e58 : σ_24 (58) = oAC cT 120 T := (hq_25 _ (by decide)).trans e58
      have hf : ∀ q : Nat, q ≠ 57 → σ_24 q = σ q := fun q n0 => (hq_25 q n0).trans (hf q n0)
      exact m_vret hx hb hlk hrt hH dX0_readCommand_255 ⟨pa, 3, va, 0, fa, 0, (oRc_c0 (by assumption) hR hf9), (by first | assumption | omega), (by first | assumption | omega), (by first | assumption | omega), e57, hf⟩
  · refine m_tabIn 230 hx hb dX0_readCommand_20 (by omega) (by omega) (by rw [h_3]; rfl) (by decide) ?_
    refine lv_aload_n hx hb dX0_readCommand_230 rfl (lv_at hl 1 rfl) ?_
    refine lv_aload_n hx hb dX0_readCommand_231 rfl (lv_at hl 1 rfl) ?_
    refine gf_X0_at hx hb hts hown hK hH (k := 57) (by omega) e57 dX0_readCommand_232 ?_
    refine m_iconst 1 hx hb dX0_readCommand_235 rfl ?_
    refine m_isub (((p : Nat) : Int)) hx hb dX0_readCommand_236 (by omega) ?_
    refine pf_X0_fault hx hb hts hown hK hH hA (k := 57) (by omega) e57 dX0_readCommand_237 (fun H locs σ_26 e57 hq_27 hH => ?_)
    have e58 : σ_26 (58) = oAC cT 120 T := (hq_27 _ (by decide)).trans e58
    have hf : ∀ q : Nat, q ≠ 57 → σ_26 q = σ q := fun q n0 => (hq_27 q n0).trans (hf q n0)
    refine lv_aload_n hx hb dX0_readCommand_240 rfl (lv_at hl 1 rfl) ?_
    refine lv_iload_n hx hb dX0_readCommand_241 rfl (lv_at hl 0 rfl) ?_
    refine m_bipush 109 hx hb dX0_readCommand_242 (by decide) ?_
    refine m_icmp_ne 251 hx hb dX0_readCommand_244 (by decide) (by omega) (by omega) (fun h_28 => ?_) (fun h_28 => absurd h_28 (by omega))
    refine m_iconst 0 hx hb dX0_readCommand_251 rfl ?_
    refine pf_X0_on hx hb hts hown hK hH hA (k := 57) (by omega) e57 m_z0 m_f0 dX0_readCommand_252 (fun H locs σ_29 e57 hq_30 hH => ?_)
    have e58 : σ_29 (58) = oAC cT 120 T := (hq_30 _ (by decide)).trans e58
    have hf : ∀ q : Nat, q ≠ 57 → σ_29 q = σ q := fun q n0 => (hq_30 q n0).trans (hf q n0)
    exact m_vret hx hb hlk hrt hH dX0_readCommand_255 ⟨(p + 1), ac, x1, x2, ((p : Nat) : Int), 0, (oRc_d (by omega)), (by first | assumption | omega), (by first | assumption | omega), (by first | assumption | omega), e57, hf⟩
  · refine m_tabIn 230 hx hb dX0_readCommand_20 (by omega) (by omega) (by rw [h_3]; rfl) (by decide) ?_
    refine lv_aload_n hx hb dX0_readCommand_230 rfl (lv_at hl 1 rfl) ?_
    refine lv_aload_n hx hb dX0_readCommand_231 rfl (lv_at hl 1 rfl) ?_
    refine gf_X0_at hx hb hts hown hK hH (k := 57) (by omega) e57 dX0_readCommand_232 ?_
    refine m_iconst 1 hx hb dX0_readCommand_235 rfl ?_
    refine m_isub (((p : Nat) : Int)) hx hb dX0_readCommand_236 (by omega) ?_
    refine pf_X0_fault hx hb hts hown hK hH hA (k := 57) (by omega) e57 dX0_readCommand_237 (fun H locs σ_31 e57 hq_32 hH => ?_)
    have e58 : σ_31 (58) = oAC cT 120 T := (hq_32 _ (by decide)).trans e58
    have hf : ∀ q : Nat, q ≠ 57 → σ_31 q = σ q := fun q n0 => (hq_32 q n0).trans (hf q n0)
    refine lv_aload_n hx hb dX0_readCommand_240 rfl (lv_at hl 1 rfl) ?_
    refine lv_iload_n hx hb dX0_readCommand_241 rfl (lv_at hl 0 rfl) ?_
    refine m_bipush 109 hx hb dX0_readCommand_242 (by decide) ?_
    refine m_icmp_ne 251 hx hb dX0_readCommand_244 (by decide) (by omega) (by omega) (fun h_33 => ?_) (fun h_33 => absurd h_33 (by omega))
    refine m_iconst 0 hx hb dX0_readCommand_251 rfl ?_
    refine pf_X0_on hx hb hts hown hK hH hA (k := 57) (by omega) e57 m_z0 m_f0 dX0_readCommand_252 (fun H locs σ_34 e57 hq_35 hH => ?_)
    have e58 : σ_34 (58) = oAC cT 120 T := (hq_35 _ (by decide)).trans e58
    have hf : ∀ q : Nat, q ≠ 57 → σ_34 q = σ q := fun q n0 => (hq_35 q n0).trans (hf q n0)
    exact m_vret hx hb hlk hrt hH dX0_readCommand_255 ⟨(p + 1), ac, x1, x2, ((p : Nat) : Int), 0, (oRc_d (by omega)), (by first | assumption | omega), (by first | assumption | omega), (by first | assumption | omega), e57, hf⟩
  · refine m_tabIn 230 hx hb dX0_readCommand_20 (by omega) (by omega) (by rw [h_3]; rfl) (by decide) ?_
    refine lv_aload_n hx hb dX0_readCommand_230 rfl (lv_at hl 1 rfl) ?_
    refine lv_aload_n hx hb dX0_readCommand_231 rfl (lv_at hl 1 rfl) ?_
    refine gf_X0_at hx hb hts hown hK hH (k := 57) (by omega) e57 dX0_readCommand_232 ?_
    refine m_iconst 1 hx hb dX0_readCommand_235 rfl ?_
    refine m_isub (((p : Nat) : Int)) hx hb dX0_readCommand_236 (by omega) ?_
    refine pf_X0_fault hx hb hts hown hK hH hA (k := 57) (by omega) e57 dX0_readCommand_237 (fun H locs σ_36 e57 hq_37 hH => ?_)
    have e58 : σ_36 (58) = oAC cT 120 T := (hq_37 _ (by decide)).trans e58
    have hf : ∀ q : Nat, q ≠ 57 → σ_36 q = σ q := fun q n0 => (hq_37 q n0).trans (hf q n0)
    refine lv_aload_n hx hb dX0_readCommand_240 rfl (lv_at hl 1 rfl) ?_
    refine lv_iload_n hx hb dX0_readCommand_241 rfl (lv_at hl 0 rfl) ?_
    refine m_bipush 109 hx hb dX0_readCommand_242 (by decide) ?_
    refine m_icmp_ne 251 hx hb dX0_readCommand_244 (by decide) (by omega) (by omega) (fun h_38 => ?_) (fun h_38 => absurd h_38 (by omega))
    refine m_iconst 0 hx hb dX0_readCommand_251 rfl ?_
    refine pf_X0_on hx hb hts hown hK hH hA (k := 57) (by omega) e57 m_z0 m_f0 dX0_readCommand_252 (fun H locs σ_39 e57 hq_40 hH => ?_)
    have e58 : σ_39 (58) = oAC cT 120 T := (hq_40 _ (by decide)).trans e58
    have hf : ∀ q : Nat, q ≠ 57 → σ_39 q = σ q := fun q n0 => (hq_40 q n0).trans (hf q n0)
    exact m_vret hx hb hlk hrt hH dX0_readCommand_255 ⟨(p + 1), ac, x1, x2, ((p : Nat) : Int), 0, (oRc_d (by omega)), (by first | assumption | omega), (by first | assumption | omega), (by first | assumption | omega), e57, hf⟩
  · refine m_tabIn 211 hx hb dX0_readCommand_20 (by omega) (by omega) (by rw [h_3]; rfl) (by decide) ?_
    refine lv_aload_n hx hb dX0_readCommand_211 rfl (lv_at hl 1 rfl) ?_
    refine m_iconst 5 hx hb dX0_readCommand_212 rfl ?_
    refine m_iconst 1 hx hb dX0_readCommand_213 rfl ?_
    refine lv_aload_n hx hb dX0_readCommand_214 rfl (lv_at hl 1 rfl) ?_
    refine m_iconst 3 hx hb dX0_readCommand_215 rfl ?_
    refine m_bipush 10 hx hb dX0_readCommand_216 (by decide) ?_
    refine m_sipush 150 hx hb dX0_readCommand_218 (by decide) ?_
    refine m_callVi hx hb hml hown hts hK hH hl (rest := [.int (oI (1)), .int (oI (5)), .ref (ad (57))]) cw_X0_54 (c0_num3 hA 10 150 T z (p + 1) ac x1 x2 f on (by first | assumption | omega) (by first | assumption | omega) (by first | assumption | omega) (by first | assumption | omega) (by first | assumption | omega) (by first | assumption | omega) (by first | assumption | omega) (by first | assumption | omega) e57 e58) ⟨Nat.le_of_ble_eq_true rfl, Nat.le_of_ble_eq_true rfl⟩ ⟨Nat.le_of_ble_eq_true rfl, Nat.le_of_ble_eq_true rfl⟩ rfl (k := 57) (by omega) e57 rfl rfl (Nat.le_of_ble_eq_true rfl) dX0_readCommand_221 (fun r_44 σ_41 H locs hp_42 hH => ?_)
    obtain ⟨va, pa, fa, rfl, hR, hpa, hfa, hva, e57, hq_43⟩ := hp_42
    have e58 : σ_41 (58) = oAC cT 120 T := (hq_43 _ (by decide)).trans e58
    have hf : ∀ q : Nat, q ≠ 57 → σ_41 q = σ q := fun q n0 => (hq_43 q n0).trans (hf q n0)
    refine m_callVv hx hb hml hown hts hK hH hl (rest := []) cw_X0_58 (c0_hold hA 5 1 va T z pa ac x1 x2 fa on (by first | assumption | omega) (by first | assumption | omega) (by first | assumption | omega) (by first | assumption | omega) (by first | assumption | omega) e57 e58) ⟨Nat.le_of_ble_eq_true rfl, Nat.le_of_ble_eq_true rfl⟩ ⟨Nat.le_of_ble_eq_true rfl, Nat.le_of_ble_eq_true rfl⟩ rfl (k := 57) (by omega) e57 rfl rfl (Nat.le_of_ble_eq_true rfl) dX0_readCommand_224 (fun σ_45 H locs hp_46 hH => ?_)
    obtain ⟨e57, hq_47⟩ := hp_46
    have e58 : σ_45 (58) = oAC cT 120 T := (hq_47 _ (by decide)).trans e58
    have hf : ∀ q : Nat, q ≠ 57 → σ_45 q = σ q := fun q n0 => (hq_47 q n0).trans (hf q n0)
    refine lv_goto (tgt := 240) hx hb dX0_readCommand_227 (by decide) ?_
    refine lv_aload_n hx hb dX0_readCommand_240 rfl (lv_at hl 1 rfl) ?_
    refine lv_iload_n hx hb dX0_readCommand_241 rfl (lv_at hl 0 rfl) ?_
    refine m_bipush 109 hx hb dX0_readCommand_242 (by decide) ?_
    refine m_icmp_ne 251 hx hb dX0_readCommand_244 (by decide) (by omega) (by omega) (fun h_49 => ?_) (fun h_49 => absurd h_49 (by omega))
    refine m_iconst 0 hx hb dX0_readCommand_251 rfl ?_
    refine pf_X0_on hx hb hts hown hK hH hA (k := 57) (by omega) e57 m_z0 m_f0 dX0_readCommand_252 (fun H locs σ_50 e57 hq_51 hH => ?_)
    have e58 : σ_50 (58) = oAC cT 120 T := (hq_51 _ (by decide)).trans e58
    have hf : ∀ q : Nat, q ≠ 57 → σ_50 q = σ q := fun q n0 => (hq_51 q n0).trans (hf q n0)
    exact m_vret hx hb hlk hrt hH dX0_readCommand_255 ⟨pa, 5, 1, va, fa, 0, (oRc_g (by assumption) hR), (by first | assumption | omega), (by first | assumption | omega), (by first | assumption | omega), e57, hf⟩
  · refine m_tabIn 230 hx hb dX0_readCommand_20 (by omega) (by omega) (by rw [h_3]; rfl) (by decide) ?_
    refine lv_aload_n hx hb dX0_readCommand_230 rfl (lv_at hl 1 rfl) ?_
    refine lv_aload_n hx hb dX0_readCommand_231 rfl (lv_at hl 1 rfl) ?_
    refine gf_X0_at hx hb hts hown hK hH (k := 57) (by omega) e57 dX0_readCommand_232 ?_
    refine m_iconst 1 hx hb dX0_readCommand_235 rfl ?_
    refine m_isub (((p : Nat) : Int)) hx hb dX0_readCommand_236 (by omega) ?_
    refine pf_X0_fault hx hb hts hown hK hH hA (k := 57) (by omega) e57 dX0_readCommand_237 (fun H locs σ_52 e57 hq_53 hH => ?_)
    have e58 : σ_52 (58) = oAC cT 120 T := (hq_53 _ (by decide)).trans e58
    have hf : ∀ q : Nat, q ≠ 57 → σ_52 q = σ q := fun q n0 => (hq_53 q n0).trans (hf q n0)
    refine lv_aload_n hx hb dX0_readCommand_240 rfl (lv_at hl 1 rfl) ?_
    refine lv_iload_n hx hb dX0_readCommand_241 rfl (lv_at hl 0 rfl) ?_
    refine m_bipush 109 hx hb dX0_readCommand_242 (by decide) ?_
    refine m_icmp_ne 251 hx hb dX0_readCommand_244 (by decide) (by omega) (by omega) (fun h_54 => ?_) (fun h_54 => absurd h_54 (by omega))
    refine m_iconst 0 hx hb dX0_readCommand_251 rfl ?_
    refine pf_X0_on hx hb hts hown hK hH hA (k := 57) (by omega) e57 m_z0 m_f0 dX0_readCommand_252 (fun H locs σ_55 e57 hq_56 hH => ?_)
    have e58 : σ_55 (58) = oAC cT 120 T := (hq_56 _ (by decide)).trans e58
    have hf : ∀ q : Nat, q ≠ 57 → σ_55 q = σ q := fun q n0 => (hq_56 q n0).trans (hf q n0)
    exact m_vret hx hb hlk hrt hH dX0_readCommand_255 ⟨(p + 1), ac, x1, x2, ((p : Nat) : Int), 0, (oRc_d (by omega)), (by first | assumption | omega), (by first | assumption | omega), (by first | assumption | omega), e57, hf⟩
  · refine m_tabIn 230 hx hb dX0_readCommand_20 (by omega) (by omega) (by rw [h_3]; rfl) (by decide) ?_
    refine lv_aload_n hx hb dX0_readCommand_230 rfl (lv_at hl 1 rfl) ?_
    refine lv_aload_n hx hb dX0_readCommand_231 rfl (lv_at hl 1 rfl) ?_
    refine gf_X0_at hx hb hts hown hK hH (k := 57) (by omega) e57 dX0_readCommand_232 ?_
    refine m_iconst 1 hx hb dX0_readCommand_235 rfl ?_
    refine m_isub (((p : Nat) : Int)) hx hb dX0_readCommand_236 (by omega) ?_
    refine pf_X0_fault hx hb hts hown hK hH hA (k := 57) (by omega) e57 dX0_readCommand_237 (fun H locs σ_57 e57 hq_58 hH => ?_)
    have e58 : σ_57 (58) = oAC cT 120 T := (hq_58 _ (by decide)).trans e58
    have hf : ∀ q : Nat, q ≠ 57 → σ_57 q = σ q := fun q n0 => (hq_58 q n0).trans (hf q n0)
    refine lv_aload_n hx hb dX0_readCommand_240 rfl (lv_at hl 1 rfl) ?_
    refine lv_iload_n hx hb dX0_readCommand_241 rfl (lv_at hl 0 rfl) ?_
    refine m_bipush 109 hx hb dX0_readCommand_242 (by decide) ?_
    refine m_icmp_ne 251 hx hb dX0_readCommand_244 (by decide) (by omega) (by omega) (fun h_59 => ?_) (fun h_59 => absurd h_59 (by omega))
    refine m_iconst 0 hx hb dX0_readCommand_251 rfl ?_
    refine pf_X0_on hx hb hts hown hK hH hA (k := 57) (by omega) e57 m_z0 m_f0 dX0_readCommand_252 (fun H locs σ_60 e57 hq_61 hH => ?_)
    have e58 : σ_60 (58) = oAC cT 120 T := (hq_61 _ (by decide)).trans e58
    have hf : ∀ q : Nat, q ≠ 57 → σ_60 q = σ q := fun q n0 => (hq_61 q n0).trans (hf q n0)
    exact m_vret hx hb hlk hrt hH dX0_readCommand_255 ⟨(p + 1), ac, x1, x2, ((p : Nat) : Int), 0, (oRc_d (by omega)), (by first | assumption | omega), (by first | assumption | omega), (by first | assumption | omega), e57, hf⟩
  · refine m_tabIn 230 hx hb dX0_readCommand_20 (by omega) (by omega) (by rw [h_3]; rfl) (by decide) ?_
    refine lv_aload_n hx hb dX0_readCommand_230 rfl (lv_at hl 1 rfl) ?_
    refine lv_aload_n hx hb dX0_readCommand_231 rfl (lv_at hl 1 rfl) ?_
    refine gf_X0_at hx hb hts hown hK hH (k := 57) (by omega) e57 dX0_readCommand_232 ?_
    refine m_iconst 1 hx hb dX0_readCommand_235 rfl ?_
    refine m_isub (((p : Nat) : Int)) hx hb dX0_readCommand_236 (by omega) ?_
    refine pf_X0_fault hx hb hts hown hK hH hA (k := 57) (by omega) e57 dX0_readCommand_237 (fun H locs σ_62 e57 hq_63 hH => ?_)
    have e58 : σ_62 (58) = oAC cT 120 T := (hq_63 _ (by decide)).trans e58
    have hf : ∀ q : Nat, q ≠ 57 → σ_62 q = σ q := fun q n0 => (hq_63 q n0).trans (hf q n0)
    refine lv_aload_n hx hb dX0_readCommand_240 rfl (lv_at hl 1 rfl) ?_
    refine lv_iload_n hx hb dX0_readCommand_241 rfl (lv_at hl 0 rfl) ?_
    refine m_bipush 109 hx hb dX0_readCommand_242 (by decide) ?_
    refine m_icmp_ne 251 hx hb dX0_readCommand_244 (by decide) (by omega) (by omega) (fun h_64 => ?_) (fun h_64 => absurd h_64 (by omega))
    refine m_iconst 0 hx hb dX0_readCommand_251 rfl ?_
    refine pf_X0_on hx hb hts hown hK hH hA (k := 57) (by omega) e57 m_z0 m_f0 dX0_readCommand_252 (fun H locs σ_65 e57 hq_66 hH => ?_)
    have e58 : σ_65 (58) = oAC cT 120 T := (hq_66 _ (by decide)).trans e58
    have hf : ∀ q : Nat, q ≠ 57 → σ_65 q = σ q := fun q n0 => (hq_66 q n0).trans (hf q n0)
    exact m_vret hx hb hlk hrt hH dX0_readCommand_255 ⟨(p + 1), ac, x1, x2, ((p : Nat) : Int), 0, (oRc_d (by omega)), (by first | assumption | omega), (by first | assumption | omega), (by first | assumption | omega), e57, hf⟩
  · refine m_tabIn 230 hx hb dX0_readCommand_20 (by omega) (by omega) (by rw [h_3]; rfl) (by decide) ?_
    refine lv_aload_n hx hb dX0_readCommand_230 rfl (lv_at hl 1 rfl) ?_
    refine lv_aload_n hx hb dX0_readCommand_231 rfl (lv_at hl 1 rfl) ?_
    refine gf_X0_at hx hb hts hown hK hH (k := 57) (by omega) e57 dX0_readCommand_232 ?_
    refine m_iconst 1 hx hb dX0_readCommand_235 rfl ?_
    refine m_isub (((p : Nat) : Int)) hx hb dX0_readCommand_236 (by omega) ?_
    refine pf_X0_fault hx hb hts hown hK hH hA (k := 57) (by omega) e57 dX0_readCommand_237 (fun H locs σ_67 e57 hq_68 hH => ?_)
    have e58 : σ_67 (58) = oAC cT 120 T := (hq_68 _ (by decide)).trans e58
    have hf : ∀ q : Nat, q ≠ 57 → σ_67 q = σ q := fun q n0 => (hq_68 q n0).trans (hf q n0)
    refine lv_aload_n hx hb dX0_readCommand_240 rfl (lv_at hl 1 rfl) ?_
    refine lv_iload_n hx hb dX0_readCommand_241 rfl (lv_at hl 0 rfl) ?_
    refine m_bipush 109 hx hb dX0_readCommand_242 (by decide) ?_
    refine m_icmp_ne 251 hx hb dX0_readCommand_244 (by decide) (by omega) (by omega) (fun h_69 => ?_) (fun h_69 => absurd h_69 (by omega))
    refine m_iconst 0 hx hb dX0_readCommand_251 rfl ?_
    refine pf_X0_on hx hb hts hown hK hH hA (k := 57) (by omega) e57 m_z0 m_f0 dX0_readCommand_252 (fun H locs σ_70 e57 hq_71 hH => ?_)
    have e58 : σ_70 (58) = oAC cT 120 T := (hq_71 _ (by decide)).trans e58
    have hf : ∀ q : Nat, q ≠ 57 → σ_70 q = σ q := fun q n0 => (hq_71 q n0).trans (hf q n0)
    exact m_vret hx hb hlk hrt hH dX0_readCommand_255 ⟨(p + 1), ac, x1, x2, ((p : Nat) : Int), 0, (oRc_d (by omega)), (by first | assumption | omega), (by first | assumption | omega), (by first | assumption | omega), e57, hf⟩
  · refine m_tabIn 230 hx hb dX0_readCommand_20 (by omega) (by omega) (by rw [h_3]; rfl) (by decide) ?_
    refine lv_aload_n hx hb dX0_readCommand_230 rfl (lv_at hl 1 rfl) ?_
    refine lv_aload_n hx hb dX0_readCommand_231 rfl (lv_at hl 1 rfl) ?_
    refine gf_X0_at hx hb hts hown hK hH (k := 57) (by omega) e57 dX0_readCommand_232 ?_
    refine m_iconst 1 hx hb dX0_readCommand_235 rfl ?_
    refine m_isub (((p : Nat) : Int)) hx hb dX0_readCommand_236 (by omega) ?_
    refine pf_X0_fault hx hb hts hown hK hH hA (k := 57) (by omega) e57 dX0_readCommand_237 (fun H locs σ_72 e57 hq_73 hH => ?_)
    have e58 : σ_72 (58) = oAC cT 120 T := (hq_73 _ (by decide)).trans e58
    have hf : ∀ q : Nat, q ≠ 57 → σ_72 q = σ q := fun q n0 => (hq_73 q n0).trans (hf q n0)
    refine lv_aload_n hx hb dX0_readCommand_240 rfl (lv_at hl 1 rfl) ?_
    refine lv_iload_n hx hb dX0_readCommand_241 rfl (lv_at hl 0 rfl) ?_
    refine m_bipush 109 hx hb dX0_readCommand_242 (by decide) ?_
    refine m_icmp_ne 251 hx hb dX0_readCommand_244 (by decide) (by omega) (by omega) (fun h_74 => ?_) (fun h_74 => absurd h_74 (by omega))
    refine m_iconst 0 hx hb dX0_readCommand_251 rfl ?_
    refine pf_X0_on hx hb hts hown hK hH hA (k := 57) (by omega) e57 m_z0 m_f0 dX0_readCommand_252 (fun H locs σ_75 e57 hq_76 hH => ?_)
    have e58 : σ_75 (58) = oAC cT 120 T := (hq_76 _ (by decide)).trans e58
    have hf : ∀ q : Nat, q ≠ 57 → σ_75 q = σ q := fun q n0 => (hq_76 q n0).trans (hf q n0)
    exact m_vret hx hb hlk hrt hH dX0_readCommand_255 ⟨(p + 1), ac, x1, x2, ((p : Nat) : Int), 0, (oRc_d (by omega)), (by first | assumption | omega), (by first | assumption | omega), (by first | assumption | omega), e57, hf⟩
  · refine m_tabIn 141 hx hb dX0_readCommand_20 (by omega) (by omega) (by rw [h_3]; rfl) (by decide) ?_
    refine lv_aload_n hx hb dX0_readCommand_141 rfl (lv_at hl 1 rfl) ?_
    refine m_iconst 2 hx hb dX0_readCommand_142 rfl ?_
    refine lv_aload_n hx hb dX0_readCommand_143 rfl (lv_at hl 1 rfl) ?_
    refine m_callVi hx hb hml hown hts hK hH hl (rest := [.int (oI (2)), .ref (ad (57))]) cw_X0_62 (c0_rulerNumber hA T z (p + 1) ac x1 x2 f on (by first | assumption | omega) (by first | assumption | omega) (by first | assumption | omega) (by first | assumption | omega) (by first | assumption | omega) (by first | assumption | omega) e57 e58) ⟨Nat.le_of_ble_eq_true rfl, Nat.le_of_ble_eq_true rfl⟩ ⟨Nat.le_of_ble_eq_true rfl, Nat.le_of_ble_eq_true rfl⟩ rfl (k := 57) (by omega) e57 rfl rfl (Nat.le_of_ble_eq_true rfl) dX0_readCommand_144 (fun r_80 σ_77 H locs hp_78 hH => ?_)
    obtain ⟨va, pa, fa, rfl, hR, hpa, hfa, hva, e57, hq_79⟩ := hp_78
    have e58 : σ_77 (58) = oAC cT 120 T := (hq_79 _ (by decide)).trans e58
    have hf : ∀ q : Nat, q ≠ 57 → σ_77 q = σ q := fun q n0 => (hq_79 q n0).trans (hf q n0)
    refine lv_aload_n hx hb dX0_readCommand_147 rfl (lv_at hl 1 rfl) ?_
    refine m_iconst 2 hx hb dX0_readCommand_148 rfl ?_
    refine m_iconst 0 hx hb dX0_readCommand_149 rfl ?_
    refine m_bipush 40 hx hb dX0_readCommand_150 (by decide) ?_
    by_cases hf9 : fa = -1
    · refine m_callVi hx hb hml hown hts hK hH hl (rest := [.int (oI (((va : Nat) : Int))), .int (oI (2)), .ref (ad (57))]) cw_X0_54 (c0_num2 hA 0 40 T z pa ac x1 x2 fa on (by first | assumption | omega) (by first | assumption | omega) (by first | assumption | omega) (by first | assumption | omega) (by first | assumption | omega) (by first | assumption | omega) (by first | assumption | omega) (by first | assumption | omega) e57 e58) ⟨Nat.le_of_ble_eq_true rfl, Nat.le_of_ble_eq_true rfl⟩ ⟨Nat.le_of_ble_eq_true rfl, Nat.le_of_ble_eq_true rfl⟩ rfl (k := 57) (by omega) e57 rfl rfl (Nat.le_of_ble_eq_true rfl) dX0_readCommand_152 (fun r_84 σ_81 H locs hp_82 hH => ?_)
      obtain ⟨vb, pb, fb, rfl, hQ, hpb, hfb, hvb, e57, hq_83⟩ := hp_82
      have e58 : σ_81 (58) = oAC cT 120 T := (hq_83 _ (by decide)).trans e58
      have hf : ∀ q : Nat, q ≠ 57 → σ_81 q = σ q := fun q n0 => (hq_83 q n0).trans (hf q n0)
      refine m_callVv hx hb hml hown hts hK hH hl (rest := []) cw_X0_58 (c0_hold hA 2 va vb T z pb ac x1 x2 fb on (by first | assumption | omega) (by first | assumption | omega) (by first | assumption | omega) (by first | assumption | omega) (by first | assumption | omega) e57 e58) ⟨Nat.le_of_ble_eq_true rfl, Nat.le_of_ble_eq_true rfl⟩ ⟨Nat.le_of_ble_eq_true rfl, Nat.le_of_ble_eq_true rfl⟩ rfl (k := 57) (by omega) e57 rfl rfl (Nat.le_of_ble_eq_true rfl) dX0_readCommand_155 (fun σ_85 H locs hp_86 hH => ?_)
      obtain ⟨e57, hq_87⟩ := hp_86
      have e58 : σ_85 (58) = oAC cT 120 T := (hq_87 _ (by decide)).trans e58
      have hf : ∀ q : Nat, q ≠ 57 → σ_85 q = σ q := fun q n0 => (hq_87 q n0).trans (hf q n0)
      refine lv_goto (tgt := 240) hx hb dX0_readCommand_158 (by decide) ?_
      refine lv_aload_n hx hb dX0_readCommand_240 rfl (lv_at hl 1 rfl) ?_
      refine lv_iload_n hx hb dX0_readCommand_241 rfl (lv_at hl 0 rfl) ?_
      refine m_bipush 109 hx hb dX0_readCommand_242 (by decide) ?_
      refine m_icmp_ne 251 hx hb dX0_readCommand_244 (by decide) (by omega) (by omega) (fun h_89 => absurd h_89 (by omega)) (fun h_89 => ?_)
      refine m_iconst 1 hx hb dX0_readCommand_247 rfl ?_
      refine lv_goto (tgt := 252) hx hb dX0_readCommand_248 (by decide) ?_
      refine pf_X0_on hx hb hts hown hK hH hA (k := 57) (by omega) e57 m_z1 m_f1 dX0_readCommand_252 (fun H locs σ_90 e57 hq_91 hH => ?_)
      have e58 : σ_90 (58) = oAC cT 120 T := (hq_91 _ (by decide)).trans e58
      have hf : ∀ q : Nat, q ≠ 57 → σ_90 q = σ q := fun q n0 => (hq_91 q n0).trans (hf q n0)
      exact m_vret hx hb hlk hrt hH dX0_readCommand_255 ⟨pb, 2, va, vb, fb, 1, (oRc_m1 (Or.inl (by assumption)) hR hf9 hQ), (by first | assumption | omega), (by first | assumption | omega), (by first | assumption | omega), e57, hf⟩
    · refine m_pVi hx hb hml hown hts hK hH hl (rest := [.int (oI (((va : Nat) : Int))), .int (oI (2)), .ref (ad (57))]) cw_X0_54 (c0_numf hA 0 40 T z pa ac x1 x2 fa on (by first | assumption | omega) (by first | assumption | omega) (by first | assumption | omega) (by first | assumption | omega) (by first | assumption | omega) (by first | assumption | omega) e57 e58) ⟨Nat.le_of_ble_eq_true rfl, Nat.le_of_ble_eq_true rfl⟩ ⟨Nat.le_of_ble_eq_true rfl, Nat.le_of_ble_eq_true rfl⟩ rfl (k := 57) (by omega) e57 rfl rfl (Nat.le_of_ble_eq_true rfl) dX0_readCommand_152 (fun H locs hH => ?_)
      refine m_callVv hx hb hml hown hts hK hH hl (rest := []) cw_X0_58 (c0_hold hA 2 va 0 T z pa ac x1 x2 fa on (by first | assumption | omega) (by first | assumption | omega) (by first | assumption | omega) (by first | assumption | omega) (by first | assumption | omega) e57 e58) ⟨Nat.le_of_ble_eq_true rfl, Nat.le_of_ble_eq_true rfl⟩ ⟨Nat.le_of_ble_eq_true rfl, Nat.le_of_ble_eq_true rfl⟩ rfl (k := 57) (by omega) e57 rfl rfl (Nat.le_of_ble_eq_true rfl) dX0_readCommand_155 (fun σ_92 H locs hp_93 hH => ?_)
      obtain ⟨e57, hq_94⟩ := hp_93
      have e58 : σ_92 (58) = oAC cT 120 T := (hq_94 _ (by decide)).trans e58
      have hf : ∀ q : Nat, q ≠ 57 → σ_92 q = σ q := fun q n0 => (hq_94 q n0).trans (hf q n0)
      refine lv_goto (tgt := 240) hx hb dX0_readCommand_158 (by decide) ?_
      refine lv_aload_n hx hb dX0_readCommand_240 rfl (lv_at hl 1 rfl) ?_
      refine lv_iload_n hx hb dX0_readCommand_241 rfl (lv_at hl 0 rfl) ?_
      refine m_bipush 109 hx hb dX0_readCommand_242 (by decide) ?_
      refine m_icmp_ne 251 hx hb dX0_readCommand_244 (by decide) (by omega) (by omega) (fun h_96 => absurd h_96 (by omega)) (fun h_96 => ?_)
      refine m_iconst 1 hx hb dX0_readCommand_247 rfl ?_
      refine lv_goto (tgt := 252) hx hb dX0_readCommand_248 (by decide) ?_
      refine pf_X0_on hx hb hts hown hK hH hA (k := 57) (by omega) e57 m_z1 m_f1 dX0_readCommand_252 (fun H locs σ_97 e57 hq_98 hH => ?_)
      have e58 : σ_97 (58) = oAC cT 120 T := (hq_98 _ (by decide)).trans e58
      have hf : ∀ q : Nat, q ≠ 57 → σ_97 q = σ q := fun q n0 => (hq_98 q n0).trans (hf q n0)
      exact m_vret hx hb hlk hrt hH dX0_readCommand_255 ⟨pa, 2, va, 0, fa, 1, (oRc_m0 (Or.inl (by assumption)) hR hf9), (by first | assumption | omega), (by first | assumption | omega), (by first | assumption | omega), e57, hf⟩
  · refine m_tabIn 230 hx hb dX0_readCommand_20 (by omega) (by omega) (by rw [h_3]; rfl) (by decide) ?_
    refine lv_aload_n hx hb dX0_readCommand_230 rfl (lv_at hl 1 rfl) ?_
    refine lv_aload_n hx hb dX0_readCommand_231 rfl (lv_at hl 1 rfl) ?_
    refine gf_X0_at hx hb hts hown hK hH (k := 57) (by omega) e57 dX0_readCommand_232 ?_
    refine m_iconst 1 hx hb dX0_readCommand_235 rfl ?_
    refine m_isub (((p : Nat) : Int)) hx hb dX0_readCommand_236 (by omega) ?_
    refine pf_X0_fault hx hb hts hown hK hH hA (k := 57) (by omega) e57 dX0_readCommand_237 (fun H locs σ_99 e57 hq_100 hH => ?_)
    have e58 : σ_99 (58) = oAC cT 120 T := (hq_100 _ (by decide)).trans e58
    have hf : ∀ q : Nat, q ≠ 57 → σ_99 q = σ q := fun q n0 => (hq_100 q n0).trans (hf q n0)
    refine lv_aload_n hx hb dX0_readCommand_240 rfl (lv_at hl 1 rfl) ?_
    refine lv_iload_n hx hb dX0_readCommand_241 rfl (lv_at hl 0 rfl) ?_
    refine m_bipush 109 hx hb dX0_readCommand_242 (by decide) ?_
    refine m_icmp_ne 251 hx hb dX0_readCommand_244 (by decide) (by omega) (by omega) (fun h_101 => ?_) (fun h_101 => absurd h_101 (by omega))
    refine m_iconst 0 hx hb dX0_readCommand_251 rfl ?_
    refine pf_X0_on hx hb hts hown hK hH hA (k := 57) (by omega) e57 m_z0 m_f0 dX0_readCommand_252 (fun H locs σ_102 e57 hq_103 hH => ?_)
    have e58 : σ_102 (58) = oAC cT 120 T := (hq_103 _ (by decide)).trans e58
    have hf : ∀ q : Nat, q ≠ 57 → σ_102 q = σ q := fun q n0 => (hq_103 q n0).trans (hf q n0)
    exact m_vret hx hb hlk hrt hH dX0_readCommand_255 ⟨(p + 1), ac, x1, x2, ((p : Nat) : Int), 0, (oRc_d (by omega)), (by first | assumption | omega), (by first | assumption | omega), (by first | assumption | omega), e57, hf⟩
  · refine m_tabIn 230 hx hb dX0_readCommand_20 (by omega) (by omega) (by rw [h_3]; rfl) (by decide) ?_
    refine lv_aload_n hx hb dX0_readCommand_230 rfl (lv_at hl 1 rfl) ?_
    refine lv_aload_n hx hb dX0_readCommand_231 rfl (lv_at hl 1 rfl) ?_
    refine gf_X0_at hx hb hts hown hK hH (k := 57) (by omega) e57 dX0_readCommand_232 ?_
    refine m_iconst 1 hx hb dX0_readCommand_235 rfl ?_
    refine m_isub (((p : Nat) : Int)) hx hb dX0_readCommand_236 (by omega) ?_
    refine pf_X0_fault hx hb hts hown hK hH hA (k := 57) (by omega) e57 dX0_readCommand_237 (fun H locs σ_104 e57 hq_105 hH => ?_)
    have e58 : σ_104 (58) = oAC cT 120 T := (hq_105 _ (by decide)).trans e58
    have hf : ∀ q : Nat, q ≠ 57 → σ_104 q = σ q := fun q n0 => (hq_105 q n0).trans (hf q n0)
    refine lv_aload_n hx hb dX0_readCommand_240 rfl (lv_at hl 1 rfl) ?_
    refine lv_iload_n hx hb dX0_readCommand_241 rfl (lv_at hl 0 rfl) ?_
    refine m_bipush 109 hx hb dX0_readCommand_242 (by decide) ?_
    refine m_icmp_ne 251 hx hb dX0_readCommand_244 (by decide) (by omega) (by omega) (fun h_106 => ?_) (fun h_106 => absurd h_106 (by omega))
    refine m_iconst 0 hx hb dX0_readCommand_251 rfl ?_
    refine pf_X0_on hx hb hts hown hK hH hA (k := 57) (by omega) e57 m_z0 m_f0 dX0_readCommand_252 (fun H locs σ_107 e57 hq_108 hH => ?_)
    have e58 : σ_107 (58) = oAC cT 120 T := (hq_108 _ (by decide)).trans e58
    have hf : ∀ q : Nat, q ≠ 57 → σ_107 q = σ q := fun q n0 => (hq_108 q n0).trans (hf q n0)
    exact m_vret hx hb hlk hrt hH dX0_readCommand_255 ⟨(p + 1), ac, x1, x2, ((p : Nat) : Int), 0, (oRc_d (by omega)), (by first | assumption | omega), (by first | assumption | omega), (by first | assumption | omega), e57, hf⟩
  · refine m_tabIn 230 hx hb dX0_readCommand_20 (by omega) (by omega) (by rw [h_3]; rfl) (by decide) ?_
    refine lv_aload_n hx hb dX0_readCommand_230 rfl (lv_at hl 1 rfl) ?_
    refine lv_aload_n hx hb dX0_readCommand_231 rfl (lv_at hl 1 rfl) ?_
    refine gf_X0_at hx hb hts hown hK hH (k := 57) (by omega) e57 dX0_readCommand_232 ?_
    refine m_iconst 1 hx hb dX0_readCommand_235 rfl ?_
    refine m_isub (((p : Nat) : Int)) hx hb dX0_readCommand_236 (by omega) ?_
    refine pf_X0_fault hx hb hts hown hK hH hA (k := 57) (by omega) e57 dX0_readCommand_237 (fun H locs σ_109 e57 hq_110 hH => ?_)
    have e58 : σ_109 (58) = oAC cT 120 T := (hq_110 _ (by decide)).trans e58
    have hf : ∀ q : Nat, q ≠ 57 → σ_109 q = σ q := fun q n0 => (hq_110 q n0).trans (hf q n0)
    refine lv_aload_n hx hb dX0_readCommand_240 rfl (lv_at hl 1 rfl) ?_
    refine lv_iload_n hx hb dX0_readCommand_241 rfl (lv_at hl 0 rfl) ?_
    refine m_bipush 109 hx hb dX0_readCommand_242 (by decide) ?_
    refine m_icmp_ne 251 hx hb dX0_readCommand_244 (by decide) (by omega) (by omega) (fun h_111 => ?_) (fun h_111 => absurd h_111 (by omega))
    refine m_iconst 0 hx hb dX0_readCommand_251 rfl ?_
    refine pf_X0_on hx hb hts hown hK hH hA (k := 57) (by omega) e57 m_z0 m_f0 dX0_readCommand_252 (fun H locs σ_112 e57 hq_113 hH => ?_)
    have e58 : σ_112 (58) = oAC cT 120 T := (hq_113 _ (by decide)).trans e58
    have hf : ∀ q : Nat, q ≠ 57 → σ_112 q = σ q := fun q n0 => (hq_113 q n0).trans (hf q n0)
    exact m_vret hx hb hlk hrt hH dX0_readCommand_255 ⟨(p + 1), ac, x1, x2, ((p : Nat) : Int), 0, (oRc_d (by omega)), (by first | assumption | omega), (by first | assumption | omega), (by first | assumption | omega), e57, hf⟩
  · refine m_tabIn 230 hx hb dX0_readCommand_20 (by omega) (by omega) (by rw [h_3]; rfl) (by decide) ?_
    refine lv_aload_n hx hb dX0_readCommand_230 rfl (lv_at hl 1 rfl) ?_
    refine lv_aload_n hx hb dX0_readCommand_231 rfl (lv_at hl 1 rfl) ?_
    refine gf_X0_at hx hb hts hown hK hH (k := 57) (by omega) e57 dX0_readCommand_232 ?_
    refine m_iconst 1 hx hb dX0_readCommand_235 rfl ?_
    refine m_isub (((p : Nat) : Int)) hx hb dX0_readCommand_236 (by omega) ?_
    refine pf_X0_fault hx hb hts hown hK hH hA (k := 57) (by omega) e57 dX0_readCommand_237 (fun H locs σ_114 e57 hq_115 hH => ?_)
    have e58 : σ_114 (58) = oAC cT 120 T := (hq_115 _ (by decide)).trans e58
    have hf : ∀ q : Nat, q ≠ 57 → σ_114 q = σ q := fun q n0 => (hq_115 q n0).trans (hf q n0)
    refine lv_aload_n hx hb dX0_readCommand_240 rfl (lv_at hl 1 rfl) ?_
    refine lv_iload_n hx hb dX0_readCommand_241 rfl (lv_at hl 0 rfl) ?_
    refine m_bipush 109 hx hb dX0_readCommand_242 (by decide) ?_
    refine m_icmp_ne 251 hx hb dX0_readCommand_244 (by decide) (by omega) (by omega) (fun h_116 => ?_) (fun h_116 => absurd h_116 (by omega))
    refine m_iconst 0 hx hb dX0_readCommand_251 rfl ?_
    refine pf_X0_on hx hb hts hown hK hH hA (k := 57) (by omega) e57 m_z0 m_f0 dX0_readCommand_252 (fun H locs σ_117 e57 hq_118 hH => ?_)
    have e58 : σ_117 (58) = oAC cT 120 T := (hq_118 _ (by decide)).trans e58
    have hf : ∀ q : Nat, q ≠ 57 → σ_117 q = σ q := fun q n0 => (hq_118 q n0).trans (hf q n0)
    exact m_vret hx hb hlk hrt hH dX0_readCommand_255 ⟨(p + 1), ac, x1, x2, ((p : Nat) : Int), 0, (oRc_d (by omega)), (by first | assumption | omega), (by first | assumption | omega), (by first | assumption | omega), e57, hf⟩
  · refine m_tabIn 124 hx hb dX0_readCommand_20 (by omega) (by omega) (by rw [h_3]; rfl) (by decide) ?_
    refine lv_aload_n hx hb dX0_readCommand_124 rfl (lv_at hl 1 rfl) ?_
    refine m_iconst 1 hx hb dX0_readCommand_125 rfl ?_
    refine lv_aload_n hx hb dX0_readCommand_126 rfl (lv_at hl 1 rfl) ?_
    refine m_iconst 2 hx hb dX0_readCommand_127 rfl ?_
    refine m_iconst 2 hx hb dX0_readCommand_128 rfl ?_
    refine m_bipush 40 hx hb dX0_readCommand_129 (by decide) ?_
    refine m_callVi hx hb hml hown hts hK hH hl (rest := [.int (oI (1)), .ref (ad (57))]) cw_X0_54 (c0_num2 hA 2 40 T z (p + 1) ac x1 x2 f on (by first | assumption | omega) (by first | assumption | omega) (by first | assumption | omega) (by first | assumption | omega) (by first | assumption | omega) (by first | assumption | omega) (by first | assumption | omega) (by first | assumption | omega) e57 e58) ⟨Nat.le_of_ble_eq_true rfl, Nat.le_of_ble_eq_true rfl⟩ ⟨Nat.le_of_ble_eq_true rfl, Nat.le_of_ble_eq_true rfl⟩ rfl (k := 57) (by omega) e57 rfl rfl (Nat.le_of_ble_eq_true rfl) dX0_readCommand_131 (fun r_122 σ_119 H locs hp_120 hH => ?_)
    obtain ⟨va, pa, fa, rfl, hR, hpa, hfa, hva, e57, hq_121⟩ := hp_120
    have e58 : σ_119 (58) = oAC cT 120 T := (hq_121 _ (by decide)).trans e58
    have hf : ∀ q : Nat, q ≠ 57 → σ_119 q = σ q := fun q n0 => (hq_121 q n0).trans (hf q n0)
    refine m_iconst 0 hx hb dX0_readCommand_134 rfl ?_
    refine m_callVv hx hb hml hown hts hK hH hl (rest := []) cw_X0_58 (c0_hold hA 1 va 0 T z pa ac x1 x2 fa on (by first | assumption | omega) (by first | assumption | omega) (by first | assumption | omega) (by first | assumption | omega) (by first | assumption | omega) e57 e58) ⟨Nat.le_of_ble_eq_true rfl, Nat.le_of_ble_eq_true rfl⟩ ⟨Nat.le_of_ble_eq_true rfl, Nat.le_of_ble_eq_true rfl⟩ rfl (k := 57) (by omega) e57 rfl rfl (Nat.le_of_ble_eq_true rfl) dX0_readCommand_135 (fun σ_123 H locs hp_124 hH => ?_)
    obtain ⟨e57, hq_125⟩ := hp_124
    have e58 : σ_123 (58) = oAC cT 120 T := (hq_125 _ (by decide)).trans e58
    have hf : ∀ q : Nat, q ≠ 57 → σ_123 q = σ q := fun q n0 => (hq_125 q n0).trans (hf q n0)
    refine lv_goto (tgt := 240) hx hb dX0_readCommand_138 (by decide) ?_
    refine lv_aload_n hx hb dX0_readCommand_240 rfl (lv_at hl 1 rfl) ?_
    refine lv_iload_n hx hb dX0_readCommand_241 rfl (lv_at hl 0 rfl) ?_
    refine m_bipush 109 hx hb dX0_readCommand_242 (by decide) ?_
    refine m_icmp_ne 251 hx hb dX0_readCommand_244 (by decide) (by omega) (by omega) (fun h_127 => ?_) (fun h_127 => absurd h_127 (by omega))
    refine m_iconst 0 hx hb dX0_readCommand_251 rfl ?_
    refine pf_X0_on hx hb hts hown hK hH hA (k := 57) (by omega) e57 m_z0 m_f0 dX0_readCommand_252 (fun H locs σ_128 e57 hq_129 hH => ?_)
    have e58 : σ_128 (58) = oAC cT 120 T := (hq_129 _ (by decide)).trans e58
    have hf : ∀ q : Nat, q ≠ 57 → σ_128 q = σ q := fun q n0 => (hq_129 q n0).trans (hf q n0)
    exact m_vret hx hb hlk hrt hH dX0_readCommand_255 ⟨pa, 1, va, 0, fa, 0, (oRc_r (by assumption) hR), (by first | assumption | omega), (by first | assumption | omega), (by first | assumption | omega), e57, hf⟩
  · refine m_tabIn 194 hx hb dX0_readCommand_20 (by omega) (by omega) (by rw [h_3]; rfl) (by decide) ?_
    refine lv_aload_n hx hb dX0_readCommand_194 rfl (lv_at hl 1 rfl) ?_
    refine m_iconst 5 hx hb dX0_readCommand_195 rfl ?_
    refine m_iconst 0 hx hb dX0_readCommand_196 rfl ?_
    refine lv_aload_n hx hb dX0_readCommand_197 rfl (lv_at hl 1 rfl) ?_
    refine m_iconst 1 hx hb dX0_readCommand_198 rfl ?_
    refine m_iconst 1 hx hb dX0_readCommand_199 rfl ?_
    refine m_bipush 6 hx hb dX0_readCommand_200 (by decide) ?_
    refine m_callVi hx hb hml hown hts hK hH hl (rest := [.int (oI (0)), .int (oI (5)), .ref (ad (57))]) cw_X0_54 (c0_num1 hA 1 6 T z (p + 1) ac x1 x2 f on (by first | assumption | omega) (by first | assumption | omega) (by first | assumption | omega) (by first | assumption | omega) (by first | assumption | omega) (by first | assumption | omega) (by first | assumption | omega) (by first | assumption | omega) e57 e58) ⟨Nat.le_of_ble_eq_true rfl, Nat.le_of_ble_eq_true rfl⟩ ⟨Nat.le_of_ble_eq_true rfl, Nat.le_of_ble_eq_true rfl⟩ rfl (k := 57) (by omega) e57 rfl rfl (Nat.le_of_ble_eq_true rfl) dX0_readCommand_202 (fun r_133 σ_130 H locs hp_131 hH => ?_)
    obtain ⟨va, pa, fa, rfl, hR, hpa, hfa, hva, e57, hq_132⟩ := hp_131
    have e58 : σ_130 (58) = oAC cT 120 T := (hq_132 _ (by decide)).trans e58
    have hf : ∀ q : Nat, q ≠ 57 → σ_130 q = σ q := fun q n0 => (hq_132 q n0).trans (hf q n0)
    refine m_callVv hx hb hml hown hts hK hH hl (rest := []) cw_X0_58 (c0_hold hA 5 0 va T z pa ac x1 x2 fa on (by first | assumption | omega) (by first | assumption | omega) (by first | assumption | omega) (by first | assumption | omega) (by first | assumption | omega) e57 e58) ⟨Nat.le_of_ble_eq_true rfl, Nat.le_of_ble_eq_true rfl⟩ ⟨Nat.le_of_ble_eq_true rfl, Nat.le_of_ble_eq_true rfl⟩ rfl (k := 57) (by omega) e57 rfl rfl (Nat.le_of_ble_eq_true rfl) dX0_readCommand_205 (fun σ_134 H locs hp_135 hH => ?_)
    obtain ⟨e57, hq_136⟩ := hp_135
    have e58 : σ_134 (58) = oAC cT 120 T := (hq_136 _ (by decide)).trans e58
    have hf : ∀ q : Nat, q ≠ 57 → σ_134 q = σ q := fun q n0 => (hq_136 q n0).trans (hf q n0)
    refine lv_goto (tgt := 240) hx hb dX0_readCommand_208 (by decide) ?_
    refine lv_aload_n hx hb dX0_readCommand_240 rfl (lv_at hl 1 rfl) ?_
    refine lv_iload_n hx hb dX0_readCommand_241 rfl (lv_at hl 0 rfl) ?_
    refine m_bipush 109 hx hb dX0_readCommand_242 (by decide) ?_
    refine m_icmp_ne 251 hx hb dX0_readCommand_244 (by decide) (by omega) (by omega) (fun h_138 => ?_) (fun h_138 => absurd h_138 (by omega))
    refine m_iconst 0 hx hb dX0_readCommand_251 rfl ?_
    refine pf_X0_on hx hb hts hown hK hH hA (k := 57) (by omega) e57 m_z0 m_f0 dX0_readCommand_252 (fun H locs σ_139 e57 hq_140 hH => ?_)
    have e58 : σ_139 (58) = oAC cT 120 T := (hq_140 _ (by decide)).trans e58
    have hf : ∀ q : Nat, q ≠ 57 → σ_139 q = σ q := fun q n0 => (hq_140 q n0).trans (hf q n0)
    exact m_vret hx hb hlk hrt hH dX0_readCommand_255 ⟨pa, 5, 0, va, fa, 0, (oRc_s (by assumption) hR), (by first | assumption | omega), (by first | assumption | omega), (by first | assumption | omega), e57, hf⟩
  · refine m_tabIn 181 hx hb dX0_readCommand_20 (by omega) (by omega) (by rw [h_3]; rfl) (by decide) ?_
    refine lv_aload_n hx hb dX0_readCommand_181 rfl (lv_at hl 1 rfl) ?_
    refine m_iconst 4 hx hb dX0_readCommand_182 rfl ?_
    refine lv_aload_n hx hb dX0_readCommand_183 rfl (lv_at hl 1 rfl) ?_
    refine m_callVi hx hb hml hown hts hK hH hl (rest := [.int (oI (4)), .ref (ad (57))]) cw_X0_62 (c0_rulerNumber hA T z (p + 1) ac x1 x2 f on (by first | assumption | omega) (by first | assumption | omega) (by first | assumption | omega) (by first | assumption | omega) (by first | assumption | omega) (by first | assumption | omega) e57 e58) ⟨Nat.le_of_ble_eq_true rfl, Nat.le_of_ble_eq_true rfl⟩ ⟨Nat.le_of_ble_eq_true rfl, Nat.le_of_ble_eq_true rfl⟩ rfl (k := 57) (by omega) e57 rfl rfl (Nat.le_of_ble_eq_true rfl) dX0_readCommand_184 (fun r_144 σ_141 H locs hp_142 hH => ?_)
    obtain ⟨va, pa, fa, rfl, hR, hpa, hfa, hva, e57, hq_143⟩ := hp_142
    have e58 : σ_141 (58) = oAC cT 120 T := (hq_143 _ (by decide)).trans e58
    have hf : ∀ q : Nat, q ≠ 57 → σ_141 q = σ q := fun q n0 => (hq_143 q n0).trans (hf q n0)
    refine m_iconst 0 hx hb dX0_readCommand_187 rfl ?_
    refine m_callVv hx hb hml hown hts hK hH hl (rest := []) cw_X0_58 (c0_hold hA 4 va 0 T z pa ac x1 x2 fa on (by first | assumption | omega) (by first | assumption | omega) (by first | assumption | omega) (by first | assumption | omega) (by first | assumption | omega) e57 e58) ⟨Nat.le_of_ble_eq_true rfl, Nat.le_of_ble_eq_true rfl⟩ ⟨Nat.le_of_ble_eq_true rfl, Nat.le_of_ble_eq_true rfl⟩ rfl (k := 57) (by omega) e57 rfl rfl (Nat.le_of_ble_eq_true rfl) dX0_readCommand_188 (fun σ_145 H locs hp_146 hH => ?_)
    obtain ⟨e57, hq_147⟩ := hp_146
    have e58 : σ_145 (58) = oAC cT 120 T := (hq_147 _ (by decide)).trans e58
    have hf : ∀ q : Nat, q ≠ 57 → σ_145 q = σ q := fun q n0 => (hq_147 q n0).trans (hf q n0)
    refine lv_goto (tgt := 240) hx hb dX0_readCommand_191 (by decide) ?_
    refine lv_aload_n hx hb dX0_readCommand_240 rfl (lv_at hl 1 rfl) ?_
    refine lv_iload_n hx hb dX0_readCommand_241 rfl (lv_at hl 0 rfl) ?_
    refine m_bipush 109 hx hb dX0_readCommand_242 (by decide) ?_
    refine m_icmp_ne 251 hx hb dX0_readCommand_244 (by decide) (by omega) (by omega) (fun h_149 => ?_) (fun h_149 => absurd h_149 (by omega))
    refine m_iconst 0 hx hb dX0_readCommand_251 rfl ?_
    refine pf_X0_on hx hb hts hown hK hH hA (k := 57) (by omega) e57 m_z0 m_f0 dX0_readCommand_252 (fun H locs σ_150 e57 hq_151 hH => ?_)
    have e58 : σ_150 (58) = oAC cT 120 T := (hq_151 _ (by decide)).trans e58
    have hf : ∀ q : Nat, q ≠ 57 → σ_150 q = σ q := fun q n0 => (hq_151 q n0).trans (hf q n0)
    exact m_vret hx hb hlk hrt hH dX0_readCommand_255 ⟨pa, 4, va, 0, fa, 0, (oRc_t (by assumption) hR), (by first | assumption | omega), (by first | assumption | omega), (by first | assumption | omega), e57, hf⟩
  · refine m_tabIn 230 hx hb dX0_readCommand_20 (by omega) (by omega) (by rw [h_3]; rfl) (by decide) ?_
    refine lv_aload_n hx hb dX0_readCommand_230 rfl (lv_at hl 1 rfl) ?_
    refine lv_aload_n hx hb dX0_readCommand_231 rfl (lv_at hl 1 rfl) ?_
    refine gf_X0_at hx hb hts hown hK hH (k := 57) (by omega) e57 dX0_readCommand_232 ?_
    refine m_iconst 1 hx hb dX0_readCommand_235 rfl ?_
    refine m_isub (((p : Nat) : Int)) hx hb dX0_readCommand_236 (by omega) ?_
    refine pf_X0_fault hx hb hts hown hK hH hA (k := 57) (by omega) e57 dX0_readCommand_237 (fun H locs σ_152 e57 hq_153 hH => ?_)
    have e58 : σ_152 (58) = oAC cT 120 T := (hq_153 _ (by decide)).trans e58
    have hf : ∀ q : Nat, q ≠ 57 → σ_152 q = σ q := fun q n0 => (hq_153 q n0).trans (hf q n0)
    refine lv_aload_n hx hb dX0_readCommand_240 rfl (lv_at hl 1 rfl) ?_
    refine lv_iload_n hx hb dX0_readCommand_241 rfl (lv_at hl 0 rfl) ?_
    refine m_bipush 109 hx hb dX0_readCommand_242 (by decide) ?_
    refine m_icmp_ne 251 hx hb dX0_readCommand_244 (by decide) (by omega) (by omega) (fun h_154 => ?_) (fun h_154 => absurd h_154 (by omega))
    refine m_iconst 0 hx hb dX0_readCommand_251 rfl ?_
    refine pf_X0_on hx hb hts hown hK hH hA (k := 57) (by omega) e57 m_z0 m_f0 dX0_readCommand_252 (fun H locs σ_155 e57 hq_156 hH => ?_)
    have e58 : σ_155 (58) = oAC cT 120 T := (hq_156 _ (by decide)).trans e58
    have hf : ∀ q : Nat, q ≠ 57 → σ_155 q = σ q := fun q n0 => (hq_156 q n0).trans (hf q n0)
    exact m_vret hx hb hlk hrt hH dX0_readCommand_255 ⟨(p + 1), ac, x1, x2, ((p : Nat) : Int), 0, (oRc_d (by omega)), (by first | assumption | omega), (by first | assumption | omega), (by first | assumption | omega), e57, hf⟩
  · refine m_tabIn 230 hx hb dX0_readCommand_20 (by omega) (by omega) (by rw [h_3]; rfl) (by decide) ?_
    refine lv_aload_n hx hb dX0_readCommand_230 rfl (lv_at hl 1 rfl) ?_
    refine lv_aload_n hx hb dX0_readCommand_231 rfl (lv_at hl 1 rfl) ?_
    refine gf_X0_at hx hb hts hown hK hH (k := 57) (by omega) e57 dX0_readCommand_232 ?_
    refine m_iconst 1 hx hb dX0_readCommand_235 rfl ?_
    refine m_isub (((p : Nat) : Int)) hx hb dX0_readCommand_236 (by omega) ?_
    refine pf_X0_fault hx hb hts hown hK hH hA (k := 57) (by omega) e57 dX0_readCommand_237 (fun H locs σ_157 e57 hq_158 hH => ?_)
    have e58 : σ_157 (58) = oAC cT 120 T := (hq_158 _ (by decide)).trans e58
    have hf : ∀ q : Nat, q ≠ 57 → σ_157 q = σ q := fun q n0 => (hq_158 q n0).trans (hf q n0)
    refine lv_aload_n hx hb dX0_readCommand_240 rfl (lv_at hl 1 rfl) ?_
    refine lv_iload_n hx hb dX0_readCommand_241 rfl (lv_at hl 0 rfl) ?_
    refine m_bipush 109 hx hb dX0_readCommand_242 (by decide) ?_
    refine m_icmp_ne 251 hx hb dX0_readCommand_244 (by decide) (by omega) (by omega) (fun h_159 => ?_) (fun h_159 => absurd h_159 (by omega))
    refine m_iconst 0 hx hb dX0_readCommand_251 rfl ?_
    refine pf_X0_on hx hb hts hown hK hH hA (k := 57) (by omega) e57 m_z0 m_f0 dX0_readCommand_252 (fun H locs σ_160 e57 hq_161 hH => ?_)
    have e58 : σ_160 (58) = oAC cT 120 T := (hq_161 _ (by decide)).trans e58
    have hf : ∀ q : Nat, q ≠ 57 → σ_160 q = σ q := fun q n0 => (hq_161 q n0).trans (hf q n0)
    exact m_vret hx hb hlk hrt hH dX0_readCommand_255 ⟨(p + 1), ac, x1, x2, ((p : Nat) : Int), 0, (oRc_d (by omega)), (by first | assumption | omega), (by first | assumption | omega), (by first | assumption | omega), e57, hf⟩
  · refine m_tabIn 230 hx hb dX0_readCommand_20 (by omega) (by omega) (by rw [h_3]; rfl) (by decide) ?_
    refine lv_aload_n hx hb dX0_readCommand_230 rfl (lv_at hl 1 rfl) ?_
    refine lv_aload_n hx hb dX0_readCommand_231 rfl (lv_at hl 1 rfl) ?_
    refine gf_X0_at hx hb hts hown hK hH (k := 57) (by omega) e57 dX0_readCommand_232 ?_
    refine m_iconst 1 hx hb dX0_readCommand_235 rfl ?_
    refine m_isub (((p : Nat) : Int)) hx hb dX0_readCommand_236 (by omega) ?_
    refine pf_X0_fault hx hb hts hown hK hH hA (k := 57) (by omega) e57 dX0_readCommand_237 (fun H locs σ_162 e57 hq_163 hH => ?_)
    have e58 : σ_162 (58) = oAC cT 120 T := (hq_163 _ (by decide)).trans e58
    have hf : ∀ q : Nat, q ≠ 57 → σ_162 q = σ q := fun q n0 => (hq_163 q n0).trans (hf q n0)
    refine lv_aload_n hx hb dX0_readCommand_240 rfl (lv_at hl 1 rfl) ?_
    refine lv_iload_n hx hb dX0_readCommand_241 rfl (lv_at hl 0 rfl) ?_
    refine m_bipush 109 hx hb dX0_readCommand_242 (by decide) ?_
    refine m_icmp_ne 251 hx hb dX0_readCommand_244 (by decide) (by omega) (by omega) (fun h_164 => ?_) (fun h_164 => absurd h_164 (by omega))
    refine m_iconst 0 hx hb dX0_readCommand_251 rfl ?_
    refine pf_X0_on hx hb hts hown hK hH hA (k := 57) (by omega) e57 m_z0 m_f0 dX0_readCommand_252 (fun H locs σ_165 e57 hq_166 hH => ?_)
    have e58 : σ_165 (58) = oAC cT 120 T := (hq_166 _ (by decide)).trans e58
    have hf : ∀ q : Nat, q ≠ 57 → σ_165 q = σ q := fun q n0 => (hq_166 q n0).trans (hf q n0)
    exact m_vret hx hb hlk hrt hH dX0_readCommand_255 ⟨(p + 1), ac, x1, x2, ((p : Nat) : Int), 0, (oRc_d (by omega)), (by first | assumption | omega), (by first | assumption | omega), (by first | assumption | omega), e57, hf⟩
  · refine m_tabIn 141 hx hb dX0_readCommand_20 (by omega) (by omega) (by rw [h_3]; rfl) (by decide) ?_
    refine lv_aload_n hx hb dX0_readCommand_141 rfl (lv_at hl 1 rfl) ?_
    refine m_iconst 2 hx hb dX0_readCommand_142 rfl ?_
    refine lv_aload_n hx hb dX0_readCommand_143 rfl (lv_at hl 1 rfl) ?_
    refine m_callVi hx hb hml hown hts hK hH hl (rest := [.int (oI (2)), .ref (ad (57))]) cw_X0_62 (c0_rulerNumber hA T z (p + 1) ac x1 x2 f on (by first | assumption | omega) (by first | assumption | omega) (by first | assumption | omega) (by first | assumption | omega) (by first | assumption | omega) (by first | assumption | omega) e57 e58) ⟨Nat.le_of_ble_eq_true rfl, Nat.le_of_ble_eq_true rfl⟩ ⟨Nat.le_of_ble_eq_true rfl, Nat.le_of_ble_eq_true rfl⟩ rfl (k := 57) (by omega) e57 rfl rfl (Nat.le_of_ble_eq_true rfl) dX0_readCommand_144 (fun r_170 σ_167 H locs hp_168 hH => ?_)
    obtain ⟨va, pa, fa, rfl, hR, hpa, hfa, hva, e57, hq_169⟩ := hp_168
    have e58 : σ_167 (58) = oAC cT 120 T := (hq_169 _ (by decide)).trans e58
    have hf : ∀ q : Nat, q ≠ 57 → σ_167 q = σ q := fun q n0 => (hq_169 q n0).trans (hf q n0)
    refine lv_aload_n hx hb dX0_readCommand_147 rfl (lv_at hl 1 rfl) ?_
    refine m_iconst 2 hx hb dX0_readCommand_148 rfl ?_
    refine m_iconst 0 hx hb dX0_readCommand_149 rfl ?_
    refine m_bipush 40 hx hb dX0_readCommand_150 (by decide) ?_
    by_cases hf9 : fa = -1
    · refine m_callVi hx hb hml hown hts hK hH hl (rest := [.int (oI (((va : Nat) : Int))), .int (oI (2)), .ref (ad (57))]) cw_X0_54 (c0_num2 hA 0 40 T z pa ac x1 x2 fa on (by first | assumption | omega) (by first | assumption | omega) (by first | assumption | omega) (by first | assumption | omega) (by first | assumption | omega) (by first | assumption | omega) (by first | assumption | omega) (by first | assumption | omega) e57 e58) ⟨Nat.le_of_ble_eq_true rfl, Nat.le_of_ble_eq_true rfl⟩ ⟨Nat.le_of_ble_eq_true rfl, Nat.le_of_ble_eq_true rfl⟩ rfl (k := 57) (by omega) e57 rfl rfl (Nat.le_of_ble_eq_true rfl) dX0_readCommand_152 (fun r_174 σ_171 H locs hp_172 hH => ?_)
      obtain ⟨vb, pb, fb, rfl, hQ, hpb, hfb, hvb, e57, hq_173⟩ := hp_172
      have e58 : σ_171 (58) = oAC cT 120 T := (hq_173 _ (by decide)).trans e58
      have hf : ∀ q : Nat, q ≠ 57 → σ_171 q = σ q := fun q n0 => (hq_173 q n0).trans (hf q n0)
      refine m_callVv hx hb hml hown hts hK hH hl (rest := []) cw_X0_58 (c0_hold hA 2 va vb T z pb ac x1 x2 fb on (by first | assumption | omega) (by first | assumption | omega) (by first | assumption | omega) (by first | assumption | omega) (by first | assumption | omega) e57 e58) ⟨Nat.le_of_ble_eq_true rfl, Nat.le_of_ble_eq_true rfl⟩ ⟨Nat.le_of_ble_eq_true rfl, Nat.le_of_ble_eq_true rfl⟩ rfl (k := 57) (by omega) e57 rfl rfl (Nat.le_of_ble_eq_true rfl) dX0_readCommand_155 (fun σ_175 H locs hp_176 hH => ?_)
      obtain ⟨e57, hq_177⟩ := hp_176
      have e58 : σ_175 (58) = oAC cT 120 T := (hq_177 _ (by decide)).trans e58
      have hf : ∀ q : Nat, q ≠ 57 → σ_175 q = σ q := fun q n0 => (hq_177 q n0).trans (hf q n0)
      refine lv_goto (tgt := 240) hx hb dX0_readCommand_158 (by decide) ?_
      refine lv_aload_n hx hb dX0_readCommand_240 rfl (lv_at hl 1 rfl) ?_
      refine lv_iload_n hx hb dX0_readCommand_241 rfl (lv_at hl 0 rfl) ?_
      refine m_bipush 109 hx hb dX0_readCommand_242 (by decide) ?_
      refine m_icmp_ne 251 hx hb dX0_readCommand_244 (by decide) (by omega) (by omega) (fun h_179 => ?_) (fun h_179 => absurd h_179 (by omega))
      refine m_iconst 0 hx hb dX0_readCommand_251 rfl ?_
      refine pf_X0_on hx hb hts hown hK hH hA (k := 57) (by omega) e57 m_z0 m_f0 dX0_readCommand_252 (fun H locs σ_180 e57 hq_181 hH => ?_)
      have e58 : σ_180 (58) = oAC cT 120 T := (hq_181 _ (by decide)).trans e58
      have hf : ∀ q : Nat, q ≠ 57 → σ_180 q = σ q := fun q n0 => (hq_181 q n0).trans (hf q n0)
      exact m_vret hx hb hlk hrt hH dX0_readCommand_255 ⟨pb, 2, va, vb, fb, 0, (oRc_m1 (Or.inr (by assumption)) hR hf9 hQ), (by first | assumption | omega), (by first | assumption | omega), (by first | assumption | omega), e57, hf⟩
    · refine m_pVi hx hb hml hown hts hK hH hl (rest := [.int (oI (((va : Nat) : Int))), .int (oI (2)), .ref (ad (57))]) cw_X0_54 (c0_numf hA 0 40 T z pa ac x1 x2 fa on (by first | assumption | omega) (by first | assumption | omega) (by first | assumption | omega) (by first | assumption | omega) (by first | assumption | omega) (by first | assumption | omega) e57 e58) ⟨Nat.le_of_ble_eq_true rfl, Nat.le_of_ble_eq_true rfl⟩ ⟨Nat.le_of_ble_eq_true rfl, Nat.le_of_ble_eq_true rfl⟩ rfl (k := 57) (by omega) e57 rfl rfl (Nat.le_of_ble_eq_true rfl) dX0_readCommand_152 (fun H locs hH => ?_)
      refine m_callVv hx hb hml hown hts hK hH hl (rest := []) cw_X0_58 (c0_hold hA 2 va 0 T z pa ac x1 x2 fa on (by first | assumption | omega) (by first | assumption | omega) (by first | assumption | omega) (by first | assumption | omega) (by first | assumption | omega) e57 e58) ⟨Nat.le_of_ble_eq_true rfl, Nat.le_of_ble_eq_true rfl⟩ ⟨Nat.le_of_ble_eq_true rfl, Nat.le_of_ble_eq_true rfl⟩ rfl (k := 57) (by omega) e57 rfl rfl (Nat.le_of_ble_eq_true rfl) dX0_readCommand_155 (fun σ_182 H locs hp_183 hH => ?_)
      obtain ⟨e57, hq_184⟩ := hp_183
      have e58 : σ_182 (58) = oAC cT 120 T := (hq_184 _ (by decide)).trans e58
      have hf : ∀ q : Nat, q ≠ 57 → σ_182 q = σ q := fun q n0 => (hq_184 q n0).trans (hf q n0)
      refine lv_goto (tgt := 240) hx hb dX0_readCommand_158 (by decide) ?_
      refine lv_aload_n hx hb dX0_readCommand_240 rfl (lv_at hl 1 rfl) ?_
      refine lv_iload_n hx hb dX0_readCommand_241 rfl (lv_at hl 0 rfl) ?_
      refine m_bipush 109 hx hb dX0_readCommand_242 (by decide) ?_
      refine m_icmp_ne 251 hx hb dX0_readCommand_244 (by decide) (by omega) (by omega) (fun h_186 => ?_) (fun h_186 => absurd h_186 (by omega))
      refine m_iconst 0 hx hb dX0_readCommand_251 rfl ?_
      refine pf_X0_on hx hb hts hown hK hH hA (k := 57) (by omega) e57 m_z0 m_f0 dX0_readCommand_252 (fun H locs σ_187 e57 hq_188 hH => ?_)
      have e58 : σ_187 (58) = oAC cT 120 T := (hq_188 _ (by decide)).trans e58
      have hf : ∀ q : Nat, q ≠ 57 → σ_187 q = σ q := fun q n0 => (hq_188 q n0).trans (hf q n0)
      exact m_vret hx hb hlk hrt hH dX0_readCommand_255 ⟨pa, 2, va, 0, fa, 0, (oRc_m0 (Or.inr (by assumption)) hR hf9), (by first | assumption | omega), (by first | assumption | omega), (by first | assumption | omega), e57, hf⟩
  · refine m_tabOut 230 hx hb dX0_readCommand_20 (by omega) h_3 (by decide) ?_
    refine lv_aload_n hx hb dX0_readCommand_230 rfl (lv_at hl 1 rfl) ?_
    refine lv_aload_n hx hb dX0_readCommand_231 rfl (lv_at hl 1 rfl) ?_
    refine gf_X0_at hx hb hts hown hK hH (k := 57) (by omega) e57 dX0_readCommand_232 ?_
    refine m_iconst 1 hx hb dX0_readCommand_235 rfl ?_
    refine m_isub (((p : Nat) : Int)) hx hb dX0_readCommand_236 (by omega) ?_
    refine pf_X0_fault hx hb hts hown hK hH hA (k := 57) (by omega) e57 dX0_readCommand_237 (fun H locs σ_189 e57 hq_190 hH => ?_)
    have e58 : σ_189 (58) = oAC cT 120 T := (hq_190 _ (by decide)).trans e58
    have hf : ∀ q : Nat, q ≠ 57 → σ_189 q = σ q := fun q n0 => (hq_190 q n0).trans (hf q n0)
    refine lv_aload_n hx hb dX0_readCommand_240 rfl (lv_at hl 1 rfl) ?_
    refine lv_iload_n hx hb dX0_readCommand_241 rfl (lv_at hl 0 rfl) ?_
    refine m_bipush 109 hx hb dX0_readCommand_242 (by decide) ?_
    refine m_icmp_ne 251 hx hb dX0_readCommand_244 (by decide) (by omega) (by omega) (fun h_191 => ?_) (fun h_191 => absurd h_191 (by omega))
    refine m_iconst 0 hx hb dX0_readCommand_251 rfl ?_
    refine pf_X0_on hx hb hts hown hK hH hA (k := 57) (by omega) e57 m_z0 m_f0 dX0_readCommand_252 (fun H locs σ_192 e57 hq_193 hH => ?_)
    have e58 : σ_192 (58) = oAC cT 120 T := (hq_193 _ (by decide)).trans e58
    have hf : ∀ q : Nat, q ≠ 57 → σ_192 q = σ q := fun q n0 => (hq_193 q n0).trans (hf q n0)
    exact m_vret hx hb hlk hrt hH dX0_readCommand_255 ⟨(p + 1), ac, x1, x2, ((p : Nat) : Int), 0, (oRc_d (by omega)), (by first | assumption | omega), (by first | assumption | omega), (by first | assumption | omega), e57, hf⟩
