theorem oLd_j {sp k t : Nat} : oLd sp k t = true ↔ 0 ≤ oDist sp 0 t ∧ oDist sp 0 t ≤ (k : Int) := decide_eq_true_iff
set_option maxHeartbeats 4000000 in
set_option maxRecDepth 100000 in
theorem c6_begins {l : Launch} {D : va_G} {cT : Nat → ClassId} {N b0 : Nat} {ad : Nat → Nat} (hA : oAd b0 N ad) {σ : Nat → va_E} (j n a g : Nat) (f : Nat → Int) (sz w : Nat → Nat) (F : Nat → Int) (sp i : Nat) (hN : 76 ≤ N) (hj : j = 67 ∨ j = 68) (hag : oAg a g) (hp : oRS f n a g sz w) (hF : ∀ t : Nat, t ≤ 200 → F t = oDist sp 0 t) (hi : i < 200) (ef : σ (j) = oAI cT 171 f) (e73 : σ (73) = oAI cT 201 F) :
    oCi l D cT N ad b0 yX6_begins cX6_begins 3 (some .boolean) 2 46 [.ref (ad (j)), .ref (ad (73)), .int (oI (((i : Nat) : Int) + 1))] σ (fun rr uu => (rr = oI 1 ∧ (oGp sp a (i + 1) = true) ∨ rr = oI 0 ∧ ¬ (oGp sp a (i + 1) = true)) ∧ uu = σ) := by
  refine m_start (cc := cX6_begins) (by decide) (Nat.le_of_ble_eq_true rfl) rfl ?_
  intro Pp Ee Ss Mm Bb Me Cc Ar ls hx hb hml hown hlk hrt hts hK hH hl
  have hown : Ss.vm.findClass RX6 = some Mm.cls := hown
  obtain ⟨d1, hd1⟩ : ∃ y : Int, oDist sp 0 (i + 1) = y := ⟨_, rfl⟩
  obtain ⟨d2, hd2⟩ : ∃ y : Int, oDist sp 0 i = y := ⟨_, rfl⟩
  have hb1 : -1 ≤ d1 ∧ d1 ≤ 200 := by rw [← hd1]; exact oDist_b (by omega) _
  have hb2 : -1 ≤ d2 ∧ d2 ≤ 200 := by rw [← hd2]; exact oDist_b (by omega) _
  have ha6 := hag.1
  have hl : lv_has ls 3 [(0, .ref (ad (j))), (1, .ref (ad (73))), (2, .int (oI (((i : Nat) : Int) + 1)))] := hl
  refine lv_aload_n hx hb dX6_begins_0 rfl (lv_at hl 1 rfl) ?_
  refine lv_iload_n hx hb dX6_begins_1 rfl (lv_at hl 2 rfl) ?_
  refine m_iald hx hb hK hH (k := 73) (by omega) e73 (i + 1) (by omega) (by omega) (by decide) dX6_begins_2 ?_
  refine m_topI (d1) ((hF (i + 1) (by omega)).trans hd1) ?_
  refine lv_aload_n hx hb dX6_begins_3 rfl (lv_at hl 0 rfl) ?_
  refine m_iconst 1 hx hb dX6_begins_4 rfl ?_
  refine m_iald hx hb hK hH (k := j) (by omega) ef (1) (by omega) (by omega) (by decide) dX6_begins_5 ?_
  refine m_topI (((a : Nat) : Int)) (hp.2.1) ?_
  refine m_pSb hx hb hml hown hts hK hH hl (rest := []) cw_X6_87 rfl (c6_isLaid hA d1 ((a : Nat) : Int) (by first | assumption | omega) (by first | assumption | omega) ) ⟨Nat.le_of_ble_eq_true rfl, Nat.le_of_ble_eq_true rfl⟩ ⟨Nat.le_of_ble_eq_true rfl, Nat.le_of_ble_eq_true rfl⟩ rfl rfl (Nat.le_of_ble_eq_true rfl) dX6_begins_6 (fun hA1 H locs hH => ?_) (fun hA1 H locs hH => ?_)
  · refine m_if_ne 35 hx hb dX6_begins_9 (by decide) (by omega) (fun h_1 => ?_) (fun h_1 => absurd h_1 (by omega))
    refine m_iconst 0 hx hb dX6_begins_35 rfl ?_
    exact m_iret hx hb hlk hrt hH m_z0 dX6_begins_36 ⟨Or.inr ⟨rfl, fun q => (oGp_iff.mp q).1 (oLd_j.mpr (by rw [hd1]; exact hA1))⟩, rfl⟩
  · refine m_if_ne 35 hx hb dX6_begins_9 (by decide) (by omega) (fun h_2 => absurd h_2 (by omega)) (fun h_2 => ?_)
    refine lv_iload_n hx hb dX6_begins_12 rfl (lv_at hl 2 rfl) ?_
    refine m_iconst 1 hx hb dX6_begins_13 rfl ?_
    refine m_icmp_eq 31 hx hb dX6_begins_14 (by decide) (by omega) (by omega) (fun h_3 => ?_) (fun h_3 => ?_)
    · refine m_iconst 1 hx hb dX6_begins_31 rfl ?_
      refine lv_goto (tgt := 36) hx hb dX6_begins_32 (by decide) ?_
      exact m_iret hx hb hlk hrt hH m_z1 dX6_begins_36 ⟨Or.inl ⟨rfl, oGp_iff.mpr ⟨fun q => hA1 (by have h8 := oLd_j.mp q; rw [hd1] at h8; exact h8), oLd_j.mpr (by rw [show i = 0 by omega, oDist_self]; omega)⟩⟩, rfl⟩
    · refine lv_aload_n hx hb dX6_begins_17 rfl (lv_at hl 1 rfl) ?_
      refine lv_iload_n hx hb dX6_begins_18 rfl (lv_at hl 2 rfl) ?_
      refine m_iconst 1 hx hb dX6_begins_19 rfl ?_
      refine m_isub (((i : Nat) : Int)) hx hb dX6_begins_20 (by omega) ?_
      refine m_iald hx hb hK hH (k := 73) (by omega) e73 (i) (by omega) (by omega) (by decide) dX6_begins_21 ?_
      refine m_topI (d2) ((hF i (by omega)).trans hd2) ?_
      refine lv_aload_n hx hb dX6_begins_22 rfl (lv_at hl 0 rfl) ?_
      refine m_iconst 1 hx hb dX6_begins_23 rfl ?_
      refine m_iald hx hb hK hH (k := j) (by omega) ef (1) (by omega) (by omega) (by decide) dX6_begins_24 ?_
      refine m_topI (((a : Nat) : Int)) (hp.2.1) ?_
      refine m_pSb hx hb hml hown hts hK hH hl (rest := []) cw_X6_87 rfl (c6_isLaid hA d2 ((a : Nat) : Int) (by first | assumption | omega) (by first | assumption | omega) ) ⟨Nat.le_of_ble_eq_true rfl, Nat.le_of_ble_eq_true rfl⟩ ⟨Nat.le_of_ble_eq_true rfl, Nat.le_of_ble_eq_true rfl⟩ rfl rfl (Nat.le_of_ble_eq_true rfl) dX6_begins_25 (fun hA2 H locs hH => ?_) (fun hA2 H locs hH => ?_)
      · refine m_if_eq 35 hx hb dX6_begins_28 (by decide) (by omega) (fun h_4 => absurd h_4 (by omega)) (fun h_4 => ?_)
        refine m_iconst 1 hx hb dX6_begins_31 rfl ?_
        refine lv_goto (tgt := 36) hx hb dX6_begins_32 (by decide) ?_
        exact m_iret hx hb hlk hrt hH m_z1 dX6_begins_36 ⟨Or.inl ⟨rfl, oGp_iff.mpr ⟨fun q => hA1 (by have h8 := oLd_j.mp q; rw [hd1] at h8; exact h8), oLd_j.mpr (by rw [hd2]; exact hA2)⟩⟩, rfl⟩
      · refine m_if_eq 35 hx hb dX6_begins_28 (by decide) (by omega) (fun h_5 => ?_) (fun h_5 => absurd h_5 (by omega))
        refine m_iconst 0 hx hb dX6_begins_35 rfl ?_
        exact m_iret hx hb hlk hrt hH m_z0 dX6_begins_36 ⟨Or.inr ⟨rfl, fun q => hA2 (by have h8 := oLd_j.mp (oGp_iff.mp q).2; rw [hd2] at h8; exact h8)⟩, rfl⟩
