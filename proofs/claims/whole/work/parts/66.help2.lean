def oN1 (a : String) : String → Int := fun E => if E = a then 1 else 2
theorem oN1_1 {a : String} : oI (oN1 a a) = oI 1 := by unfold oN1; rw [if_pos rfl]
set_option maxRecDepth 100000 in
theorem hL_append {l : Launch} {D : va_G} {cT : Nat → ClassId} {N b0 : Nat} {ad : Nat → Nat} (hA : oAd b0 N ad) (hN : 76 ≤ N) {σ : Nat → va_E} {v1 : Int32} {post : Int32 → (Nat → va_E) → Prop} {px : String → (Nat → va_E) → Prop} {FR LO kc : Nat} {fs : List Value} {F : Nat → Int64} (hM : oXi l D cT N ad b0 yX5_append cX5_append 2 (some .int) FR LO kc [.ref (ad 0), .int v1] σ post px) (e0 : σ 0 = .inr (5, fs)) (e75 : σ 75 = oAL cT 1 F) (hpo : ∀ (r : Int32) (u : Nat → va_E), post r u → u 75 = σ 75) (hpx : ∀ (E : String) (u : Nat → va_E), px E u → E = oIA ∨ E = oIS) :
    oHi l D cT N ad b0 yL_append cL_append 4 [(0, 9, 12, 13), (0, 9, 15, 15)] (FR + 1) (8 + (2 + 11) + LO) kc [.ref (ad 0), .int v1, .ref (ad 75)] σ (oHp cT (oN1 oIA) post px) := by
  refine m_startL (cc := cL_append) (by decide) (Nat.le_of_ble_eq_true rfl) rfl ?_
  intro Pp Ee Ss Mm Bb Me Cc Ar ls hx hb hml hown hlk hrt hts hK hH hl hT hNc hnt
  have hown : Ss.vm.findClass RL = some Mm.cls := hown
  refine lv_aload_n hx hb dL_append_0 rfl (lv_at hl 2 rfl) ?_
  refine m_iconst 0 hx hb dL_append_1 rfl ?_
  refine lv_aload_n hx hb dL_append_2 rfl (lv_at hl 0 rfl) ?_
  refine lv_iload_n hx hb dL_append_3 rfl (lv_at hl 1 rfl) ?_
  refine m_hVi (C := RX5) (k := 0) (rest := [.int (oI 0), .ref (ad 75)]) (As := [.int v1]) (hh := [(0, 9, 12, 13), (0, 9, 15, 15)]) hx hb hml hown hts hK hT hNc hH hl hnt cw_L_7 hM ⟨Nat.le_refl _, Nat.le_refl _⟩ ⟨by show 0 + kc ≤ kc; omega, by show 0 + 6 * kc ≤ 6 * kc; omega⟩ rfl (by omega) e0 rfl rfl (Nat.le_of_ble_eq_true rfl) dL_append_4 (fun E s1 hpe => ?_) (fun r s1 H locs hpo1 hH => ?_)
  rotate_left
  refine m_i2I r.toInt (oI_self r).symm ?_
  refine m_i2l hx hb dL_append_7 (oI_rng r) ?_
  refine m_last hx hb hK hH hA (k := 75) (by omega) ((hpo r s1 hpo1).trans e75) 0 rfl (by omega) (by decide) dL_append_8 (fun H locs s2 h75 hq hH => ?_)
  refine lv_goto (tgt := 18) hx hb dL_append_9 (by decide) ?_
  refine m_iconst 0 hx hb dL_append_18 rfl ?_
  exact m_iretL hx hb hlk hrt hH ⟨by omega, by omega⟩ dL_append_19 (Or.inl ⟨rfl, r.toInt, s1, _, oI_rng r, by rw [oI_self]; exact hpo1, h75, va_up_s _ _ _, hq⟩)
  rcases hpx E s1 hpe with rfl | rfl
  · refine ⟨12, ⟨[], ⟨0, 9, 12, 13⟩, [⟨0, 9, 15, 15⟩], rfl, fun z hz => absurd hz List.not_mem_nil, rfl, by decide, oHw_13, rfl, by decide⟩, fun q9 H1 locs1 hH => ?_⟩
    refine lv_astore_n hx hb dL_append_12 rfl hl (by decide) rfl (fun ls hl => ?_)
    refine m_iconst 1 hx hb dL_append_13 rfl ?_
    exact m_iretL hx hb hlk hrt hH ⟨by omega, by omega⟩ dL_append_14 (Or.inr ⟨_, hpe, by rw [oN1_1]⟩)
  · refine ⟨15, ⟨[⟨0, 9, 12, 13⟩], ⟨0, 9, 15, 15⟩, [], rfl, fun z hz => by rcases List.mem_singleton.mp hz with rfl; exact ⟨by decide, oIA, by decide, by decide, oHw_13⟩, rfl, by decide, oHw_15, rfl, by decide⟩, fun q9 H1 locs1 hH => ?_⟩
    refine lv_astore_n hx hb dL_append_15 rfl hl (by decide) rfl (fun ls hl => ?_)
    refine m_iconst 2 hx hb dL_append_16 rfl ?_
    exact m_iretL hx hb hlk hrt hH ⟨by omega, by omega⟩ dL_append_17 (Or.inr ⟨_, hpe, rfl⟩)
set_option maxRecDepth 100000 in
theorem hL_load {l : Launch} {D : va_G} {cT : Nat → ClassId} {N b0 : Nat} {ad : Nat → Nat} (hA : oAd b0 N ad) (hN : 76 ≤ N) {σ : Nat → va_E}  {post : Int32 → (Nat → va_E) → Prop} {px : String → (Nat → va_E) → Prop} {FR LO kc : Nat} {fs : List Value} {F : Nat → Int64} (hM : oXi l D cT N ad b0 yX5_load cX5_load 1 (some .int) FR LO kc [.ref (ad 0)] σ post px) (e0 : σ 0 = .inr (5, fs)) (e75 : σ 75 = oAL cT 1 F) (hpo : ∀ (r : Int32) (u : Nat → va_E), post r u → u 75 = σ 75) (hpx : ∀ (E : String) (u : Nat → va_E), px E u → E = oIS) :
    oHi l D cT N ad b0 yL_load cL_load 3 [(0, 8, 11, 15)] (FR + 1) (8 + (1 + 11) + LO) kc [.ref (ad 0), .ref (ad 75)] σ (oHp cT (oN1 oIS) post px) := by
  refine m_startL (cc := cL_load) (by decide) (Nat.le_of_ble_eq_true rfl) rfl ?_
  intro Pp Ee Ss Mm Bb Me Cc Ar ls hx hb hml hown hlk hrt hts hK hH hl hT hNc hnt
  have hown : Ss.vm.findClass RL = some Mm.cls := hown
  refine lv_aload_n hx hb dL_load_0 rfl (lv_at hl 1 rfl) ?_
  refine m_iconst 0 hx hb dL_load_1 rfl ?_
  refine lv_aload_n hx hb dL_load_2 rfl (lv_at hl 0 rfl) ?_
  refine m_hVi (C := RX5) (k := 0) (rest := [.int (oI 0), .ref (ad 75)]) (As := []) (hh := [(0, 8, 11, 15)]) hx hb hml hown hts hK hT hNc hH hl hnt cw_L_17 hM ⟨Nat.le_refl _, Nat.le_refl _⟩ ⟨by show 0 + kc ≤ kc; omega, by show 0 + 6 * kc ≤ 6 * kc; omega⟩ rfl (by omega) e0 rfl rfl (Nat.le_of_ble_eq_true rfl) dL_load_3 (fun E s1 hpe => ?_) (fun r s1 H locs hpo1 hH => ?_)
  rotate_left
  refine m_i2I r.toInt (oI_self r).symm ?_
  refine m_i2l hx hb dL_load_6 (oI_rng r) ?_
  refine m_last hx hb hK hH hA (k := 75) (by omega) ((hpo r s1 hpo1).trans e75) 0 rfl (by omega) (by decide) dL_load_7 (fun H locs s2 h75 hq hH => ?_)
  refine lv_goto (tgt := 14) hx hb dL_load_8 (by decide) ?_
  refine m_iconst 0 hx hb dL_load_14 rfl ?_
  exact m_iretL hx hb hlk hrt hH ⟨by omega, by omega⟩ dL_load_15 (Or.inl ⟨rfl, r.toInt, s1, _, oI_rng r, by rw [oI_self]; exact hpo1, h75, va_up_s _ _ _, hq⟩)
  obtain rfl := hpx E s1 hpe
  · refine ⟨11, ⟨[], ⟨0, 8, 11, 15⟩, [], rfl, fun z hz => absurd hz List.not_mem_nil, rfl, by decide, oHw_15, rfl, by decide⟩, fun q9 H1 locs1 hH => ?_⟩
    refine lv_astore_n hx hb dL_load_11 rfl hl (by decide) rfl (fun ls hl => ?_)
    refine m_iconst 1 hx hb dL_load_12 rfl ?_
    exact m_iretL hx hb hlk hrt hH ⟨by omega, by omega⟩ dL_load_13 (Or.inr ⟨_, hpe, by rw [oN1_1]⟩)
set_option maxRecDepth 100000 in
theorem hL_about {l : Launch} {D : va_G} {cT : Nat → ClassId} {N b0 : Nat} {ad : Nat → Nat} (hA : oAd b0 N ad) (hN : 76 ≤ N) {σ : Nat → va_E} {v1 : Int32} {post : Int32 → (Nat → va_E) → Prop} {px : String → (Nat → va_E) → Prop} {FR LO kc : Nat} {fs : List Value} {F : Nat → Int64} (hM : oXi l D cT N ad b0 yX5_about cX5_about 2 (some .int) FR LO kc [.ref (ad 0), .int v1] σ post px) (e0 : σ 0 = .inr (5, fs)) (e75 : σ 75 = oAL cT 1 F) (hpo : ∀ (r : Int32) (u : Nat → va_E), post r u → u 75 = σ 75) (hpx : ∀ (E : String) (u : Nat → va_E), px E u → E = oIA) :
    oHi l D cT N ad b0 yL_about cL_about 4 [(0, 9, 12, 13)] (FR + 1) (8 + (2 + 11) + LO) kc [.ref (ad 0), .int v1, .ref (ad 75)] σ (oHp cT (oN1 oIA) post px) := by
  refine m_startL (cc := cL_about) (by decide) (Nat.le_of_ble_eq_true rfl) rfl ?_
  intro Pp Ee Ss Mm Bb Me Cc Ar ls hx hb hml hown hlk hrt hts hK hH hl hT hNc hnt
  have hown : Ss.vm.findClass RL = some Mm.cls := hown
  refine lv_aload_n hx hb dL_about_0 rfl (lv_at hl 2 rfl) ?_
  refine m_iconst 0 hx hb dL_about_1 rfl ?_
  refine lv_aload_n hx hb dL_about_2 rfl (lv_at hl 0 rfl) ?_
  refine lv_iload_n hx hb dL_about_3 rfl (lv_at hl 1 rfl) ?_
  refine m_hVi (C := RX5) (k := 0) (rest := [.int (oI 0), .ref (ad 75)]) (As := [.int v1]) (hh := [(0, 9, 12, 13)]) hx hb hml hown hts hK hT hNc hH hl hnt cw_L_21 hM ⟨Nat.le_refl _, Nat.le_refl _⟩ ⟨by show 0 + kc ≤ kc; omega, by show 0 + 6 * kc ≤ 6 * kc; omega⟩ rfl (by omega) e0 rfl rfl (Nat.le_of_ble_eq_true rfl) dL_about_4 (fun E s1 hpe => ?_) (fun r s1 H locs hpo1 hH => ?_)
  rotate_left
  refine m_i2I r.toInt (oI_self r).symm ?_
  refine m_i2l hx hb dL_about_7 (oI_rng r) ?_
  refine m_last hx hb hK hH hA (k := 75) (by omega) ((hpo r s1 hpo1).trans e75) 0 rfl (by omega) (by decide) dL_about_8 (fun H locs s2 h75 hq hH => ?_)
  refine lv_goto (tgt := 15) hx hb dL_about_9 (by decide) ?_
  refine m_iconst 0 hx hb dL_about_15 rfl ?_
  exact m_iretL hx hb hlk hrt hH ⟨by omega, by omega⟩ dL_about_16 (Or.inl ⟨rfl, r.toInt, s1, _, oI_rng r, by rw [oI_self]; exact hpo1, h75, va_up_s _ _ _, hq⟩)
  obtain rfl := hpx E s1 hpe
  · refine ⟨12, ⟨[], ⟨0, 9, 12, 13⟩, [], rfl, fun z hz => absurd hz List.not_mem_nil, rfl, by decide, oHw_13, rfl, by decide⟩, fun q9 H1 locs1 hH => ?_⟩
    refine lv_astore_n hx hb dL_about_12 rfl hl (by decide) rfl (fun ls hl => ?_)
    refine m_iconst 1 hx hb dL_about_13 rfl ?_
    exact m_iretL hx hb hlk hrt hH ⟨by omega, by omega⟩ dL_about_14 (Or.inr ⟨_, hpe, by rw [oN1_1]⟩)
set_option maxRecDepth 100000 in
theorem hL_rulerOf {l : Launch} {D : va_G} {cT : Nat → ClassId} {N b0 : Nat} {ad : Nat → Nat} (hA : oAd b0 N ad) (hN : 76 ≤ N) {σ : Nat → va_E} {v1 : Int32} {v2 : Int32} {post : Int32 → (Nat → va_E) → Prop} {px : String → (Nat → va_E) → Prop} {FR LO kc : Nat} {fs : List Value} {F : Nat → Int64} (hM : oXi l D cT N ad b0 yX5_rulerOf cX5_rulerOf 3 (some .int) FR LO kc [.ref (ad 0), .int v1, .int v2] σ post px) (e0 : σ 0 = .inr (5, fs)) (e75 : σ 75 = oAL cT 1 F) (hpo : ∀ (r : Int32) (u : Nat → va_E), post r u → u 75 = σ 75) (hpx : ∀ (E : String) (u : Nat → va_E), px E u → E = oIO ∨ E = oIA) :
    oHi l D cT N ad b0 yL_rulerOf cL_rulerOf 5 [(0, 10, 13, 28), (0, 10, 17, 13)] (FR + 1) (8 + (3 + 11) + LO) kc [.ref (ad 0), .int v1, .int v2, .ref (ad 75)] σ (oHp cT (oN1 oIO) post px) := by
  refine m_startL (cc := cL_rulerOf) (by decide) (Nat.le_of_ble_eq_true rfl) rfl ?_
  intro Pp Ee Ss Mm Bb Me Cc Ar ls hx hb hml hown hlk hrt hts hK hH hl hT hNc hnt
  have hown : Ss.vm.findClass RL = some Mm.cls := hown
  refine lv_aload_n hx hb dL_rulerOf_0 rfl (lv_at hl 3 rfl) ?_
  refine m_iconst 0 hx hb dL_rulerOf_1 rfl ?_
  refine lv_aload_n hx hb dL_rulerOf_2 rfl (lv_at hl 0 rfl) ?_
  refine lv_iload_n hx hb dL_rulerOf_3 rfl (lv_at hl 1 rfl) ?_
  refine lv_iload_n hx hb dL_rulerOf_4 rfl (lv_at hl 2 rfl) ?_
  refine m_hVi (C := RX5) (k := 0) (rest := [.int (oI 0), .ref (ad 75)]) (As := [.int v1, .int v2]) (hh := [(0, 10, 13, 28), (0, 10, 17, 13)]) hx hb hml hown hts hK hT hNc hH hl hnt cw_L_24 hM ⟨Nat.le_refl _, Nat.le_refl _⟩ ⟨by show 0 + kc ≤ kc; omega, by show 0 + 6 * kc ≤ 6 * kc; omega⟩ rfl (by omega) e0 rfl rfl (Nat.le_of_ble_eq_true rfl) dL_rulerOf_5 (fun E s1 hpe => ?_) (fun r s1 H locs hpo1 hH => ?_)
  rotate_left
  refine m_i2I r.toInt (oI_self r).symm ?_
  refine m_i2l hx hb dL_rulerOf_8 (oI_rng r) ?_
  refine m_last hx hb hK hH hA (k := 75) (by omega) ((hpo r s1 hpo1).trans e75) 0 rfl (by omega) (by decide) dL_rulerOf_9 (fun H locs s2 h75 hq hH => ?_)
  refine lv_goto (tgt := 21) hx hb dL_rulerOf_10 (by decide) ?_
  refine m_iconst 0 hx hb dL_rulerOf_21 rfl ?_
  exact m_iretL hx hb hlk hrt hH ⟨by omega, by omega⟩ dL_rulerOf_22 (Or.inl ⟨rfl, r.toInt, s1, _, oI_rng r, by rw [oI_self]; exact hpo1, h75, va_up_s _ _ _, hq⟩)
  rcases hpx E s1 hpe with rfl | rfl
  · refine ⟨13, ⟨[], ⟨0, 10, 13, 28⟩, [⟨0, 10, 17, 13⟩], rfl, fun z hz => absurd hz List.not_mem_nil, rfl, by decide, oHw_28, rfl, by decide⟩, fun q9 H1 locs1 hH => ?_⟩
    refine lv_astore hx hb dL_rulerOf_13 hl (by decide) rfl (fun ls hl => ?_)
    refine m_iconst 1 hx hb dL_rulerOf_15 rfl ?_
    exact m_iretL hx hb hlk hrt hH ⟨by omega, by omega⟩ dL_rulerOf_16 (Or.inr ⟨_, hpe, by rw [oN1_1]⟩)
  · refine ⟨17, ⟨[⟨0, 10, 13, 28⟩], ⟨0, 10, 17, 13⟩, [], rfl, fun z hz => by rcases List.mem_singleton.mp hz with rfl; exact ⟨by decide, oIO, by decide, by decide, oHw_28⟩, rfl, by decide, oHw_13, rfl, by decide⟩, fun q9 H1 locs1 hH => ?_⟩
    refine lv_astore hx hb dL_rulerOf_17 hl (by decide) rfl (fun ls hl => ?_)
    refine m_iconst 2 hx hb dL_rulerOf_19 rfl ?_
    exact m_iretL hx hb hlk hrt hH ⟨by omega, by omega⟩ dL_rulerOf_20 (Or.inr ⟨_, hpe, rfl⟩)
set_option maxRecDepth 100000 in
theorem hL_isMarked {l : Launch} {D : va_G} {cT : Nat → ClassId} {N b0 : Nat} {ad : Nat → Nat} (hA : oAd b0 N ad) (hN : 76 ≤ N) {σ : Nat → va_E} {v1 : Int32} {v2 : Int32} {post : Int32 → (Nat → va_E) → Prop} {px : String → (Nat → va_E) → Prop} {FR LO kc : Nat} {fs : List Value} {F : Nat → Int64} (hM : oXi l D cT N ad b0 yX5_isMarked cX5_isMarked 3 (some .int) FR LO kc [.ref (ad 0), .int v1, .int v2] σ post px) (e0 : σ 0 = .inr (5, fs)) (e75 : σ 75 = oAL cT 1 F) (hpo : ∀ (r : Int32) (u : Nat → va_E), post r u → u 75 = σ 75) (hpx : ∀ (E : String) (u : Nat → va_E), px E u → E = oIO) :
    oHi l D cT N ad b0 yL_isMarked cL_isMarked 5 [(0, 10, 13, 28)] (FR + 1) (8 + (3 + 11) + LO) kc [.ref (ad 0), .int v1, .int v2, .ref (ad 75)] σ (oHp cT (oN1 oIO) post px) := by
  refine m_startL (cc := cL_isMarked) (by decide) (Nat.le_of_ble_eq_true rfl) rfl ?_
  intro Pp Ee Ss Mm Bb Me Cc Ar ls hx hb hml hown hlk hrt hts hK hH hl hT hNc hnt
  have hown : Ss.vm.findClass RL = some Mm.cls := hown
  refine lv_aload_n hx hb dL_isMarked_0 rfl (lv_at hl 3 rfl) ?_
  refine m_iconst 0 hx hb dL_isMarked_1 rfl ?_
  refine lv_aload_n hx hb dL_isMarked_2 rfl (lv_at hl 0 rfl) ?_
  refine lv_iload_n hx hb dL_isMarked_3 rfl (lv_at hl 1 rfl) ?_
  refine lv_iload_n hx hb dL_isMarked_4 rfl (lv_at hl 2 rfl) ?_
  refine m_hVi (C := RX5) (k := 0) (rest := [.int (oI 0), .ref (ad 75)]) (As := [.int v1, .int v2]) (hh := [(0, 10, 13, 28)]) hx hb hml hown hts hK hT hNc hH hl hnt cw_L_30 hM ⟨Nat.le_refl _, Nat.le_refl _⟩ ⟨by show 0 + kc ≤ kc; omega, by show 0 + 6 * kc ≤ 6 * kc; omega⟩ rfl (by omega) e0 rfl rfl (Nat.le_of_ble_eq_true rfl) dL_isMarked_5 (fun E s1 hpe => ?_) (fun r s1 H locs hpo1 hH => ?_)
  rotate_left
  refine m_i2I r.toInt (oI_self r).symm ?_
  refine m_i2l hx hb dL_isMarked_8 (oI_rng r) ?_
  refine m_last hx hb hK hH hA (k := 75) (by omega) ((hpo r s1 hpo1).trans e75) 0 rfl (by omega) (by decide) dL_isMarked_9 (fun H locs s2 h75 hq hH => ?_)
  refine lv_goto (tgt := 17) hx hb dL_isMarked_10 (by decide) ?_
  refine m_iconst 0 hx hb dL_isMarked_17 rfl ?_
  exact m_iretL hx hb hlk hrt hH ⟨by omega, by omega⟩ dL_isMarked_18 (Or.inl ⟨rfl, r.toInt, s1, _, oI_rng r, by rw [oI_self]; exact hpo1, h75, va_up_s _ _ _, hq⟩)
  obtain rfl := hpx E s1 hpe
  · refine ⟨13, ⟨[], ⟨0, 10, 13, 28⟩, [], rfl, fun z hz => absurd hz List.not_mem_nil, rfl, by decide, oHw_28, rfl, by decide⟩, fun q9 H1 locs1 hH => ?_⟩
    refine lv_astore hx hb dL_isMarked_13 hl (by decide) rfl (fun ls hl => ?_)
    refine m_iconst 1 hx hb dL_isMarked_15 rfl ?_
    exact m_iretL hx hb hlk hrt hH ⟨by omega, by omega⟩ dL_isMarked_16 (Or.inr ⟨_, hpe, by rw [oN1_1]⟩)
set_option maxRecDepth 100000 in
theorem hL_span {l : Launch} {D : va_G} {cT : Nat → ClassId} {N b0 : Nat} {ad : Nat → Nat} (hA : oAd b0 N ad) (hN : 76 ≤ N) {σ : Nat → va_E} {v1 : Int32} {v2 : Int32} {v3 : Int32} {post : Int32 → (Nat → va_E) → Prop} {px : String → (Nat → va_E) → Prop} {FR LO kc : Nat} {fs : List Value} {F : Nat → Int64} (hM : oXi l D cT N ad b0 yX5_span cX5_span 6 (some .int) FR LO kc [.ref (ad 0), .int v1, .int v2, .int v3] σ post px) (e0 : σ 0 = .inr (5, fs)) (e75 : σ 75 = oAL cT 1 F) (hpo : ∀ (r : Int32) (u : Nat → va_E), post r u → u 75 = σ 75) (hpx : ∀ (E : String) (u : Nat → va_E), px E u → E = oIO ∨ E = oIA) :
    oHi l D cT N ad b0 yL_span cL_span 6 [(0, 12, 15, 28), (0, 12, 19, 13)] (FR + 1) (8 + (6 + 11) + LO) kc [.ref (ad 0), .int v1, .int v2, .int v3, .ref (ad 75)] σ (oHp cT (oN1 oIO) post px) := by
  refine m_startL (cc := cL_span) (by decide) (Nat.le_of_ble_eq_true rfl) rfl ?_
  intro Pp Ee Ss Mm Bb Me Cc Ar ls hx hb hml hown hlk hrt hts hK hH hl hT hNc hnt
  have hown : Ss.vm.findClass RL = some Mm.cls := hown
  refine lv_aload hx hb dL_span_0 (lv_at hl 4 rfl) ?_
  refine m_iconst 0 hx hb dL_span_2 rfl ?_
  refine lv_aload_n hx hb dL_span_3 rfl (lv_at hl 0 rfl) ?_
  refine lv_iload_n hx hb dL_span_4 rfl (lv_at hl 1 rfl) ?_
  refine lv_iload_n hx hb dL_span_5 rfl (lv_at hl 2 rfl) ?_
  refine lv_iload_n hx hb dL_span_6 rfl (lv_at hl 3 rfl) ?_
  refine m_hVi (C := RX5) (k := 0) (rest := [.int (oI 0), .ref (ad 75)]) (As := [.int v1, .int v2, .int v3]) (hh := [(0, 12, 15, 28), (0, 12, 19, 13)]) hx hb hml hown hts hK hT hNc hH hl hnt cw_L_33 hM ⟨Nat.le_refl _, Nat.le_refl _⟩ ⟨by show 0 + kc ≤ kc; omega, by show 0 + 6 * kc ≤ 6 * kc; omega⟩ rfl (by omega) e0 rfl rfl (Nat.le_of_ble_eq_true rfl) dL_span_7 (fun E s1 hpe => ?_) (fun r s1 H locs hpo1 hH => ?_)
  rotate_left
  refine m_i2I r.toInt (oI_self r).symm ?_
  refine m_i2l hx hb dL_span_10 (oI_rng r) ?_
  refine m_last hx hb hK hH hA (k := 75) (by omega) ((hpo r s1 hpo1).trans e75) 0 rfl (by omega) (by decide) dL_span_11 (fun H locs s2 h75 hq hH => ?_)
  refine lv_goto (tgt := 23) hx hb dL_span_12 (by decide) ?_
  refine m_iconst 0 hx hb dL_span_23 rfl ?_
  exact m_iretL hx hb hlk hrt hH ⟨by omega, by omega⟩ dL_span_24 (Or.inl ⟨rfl, r.toInt, s1, _, oI_rng r, by rw [oI_self]; exact hpo1, h75, va_up_s _ _ _, hq⟩)
  rcases hpx E s1 hpe with rfl | rfl
  · refine ⟨15, ⟨[], ⟨0, 12, 15, 28⟩, [⟨0, 12, 19, 13⟩], rfl, fun z hz => absurd hz List.not_mem_nil, rfl, by decide, oHw_28, rfl, by decide⟩, fun q9 H1 locs1 hH => ?_⟩
    refine lv_astore hx hb dL_span_15 hl (by decide) rfl (fun ls hl => ?_)
    refine m_iconst 1 hx hb dL_span_17 rfl ?_
    exact m_iretL hx hb hlk hrt hH ⟨by omega, by omega⟩ dL_span_18 (Or.inr ⟨_, hpe, by rw [oN1_1]⟩)
  · refine ⟨19, ⟨[⟨0, 12, 15, 28⟩], ⟨0, 12, 19, 13⟩, [], rfl, fun z hz => by rcases List.mem_singleton.mp hz with rfl; exact ⟨by decide, oIO, by decide, by decide, oHw_28⟩, rfl, by decide, oHw_13, rfl, by decide⟩, fun q9 H1 locs1 hH => ?_⟩
    refine lv_astore hx hb dL_span_19 hl (by decide) rfl (fun ls hl => ?_)
    refine m_iconst 2 hx hb dL_span_21 rfl ?_
    exact m_iretL hx hb hlk hrt hH ⟨by omega, by omega⟩ dL_span_22 (Or.inr ⟨_, hpe, rfl⟩)
set_option maxRecDepth 100000 in
theorem hL_gap {l : Launch} {D : va_G} {cT : Nat → ClassId} {N b0 : Nat} {ad : Nat → Nat} (hA : oAd b0 N ad) (hN : 76 ≤ N) {σ : Nat → va_E} {v1 : Int32} {v2 : Int32} {post : Int32 → (Nat → va_E) → Prop} {px : String → (Nat → va_E) → Prop} {FR LO kc : Nat} {fs : List Value} {F : Nat → Int64} (hM : oXi l D cT N ad b0 yX5_gap cX5_gap 4 (some .int) FR LO kc [.ref (ad 0), .int v1, .int v2] σ post px) (e0 : σ 0 = .inr (5, fs)) (e75 : σ 75 = oAL cT 1 F) (hpo : ∀ (r : Int32) (u : Nat → va_E), post r u → u 75 = σ 75) (hpx : ∀ (E : String) (u : Nat → va_E), px E u → E = oIO ∨ E = oIA) :
    oHi l D cT N ad b0 yL_gap cL_gap 5 [(0, 10, 13, 28), (0, 10, 17, 13)] (FR + 1) (8 + (4 + 11) + LO) kc [.ref (ad 0), .int v1, .int v2, .ref (ad 75)] σ (oHp cT (oN1 oIO) post px) := by
  refine m_startL (cc := cL_gap) (by decide) (Nat.le_of_ble_eq_true rfl) rfl ?_
  intro Pp Ee Ss Mm Bb Me Cc Ar ls hx hb hml hown hlk hrt hts hK hH hl hT hNc hnt
  have hown : Ss.vm.findClass RL = some Mm.cls := hown
  refine lv_aload_n hx hb dL_gap_0 rfl (lv_at hl 3 rfl) ?_
  refine m_iconst 0 hx hb dL_gap_1 rfl ?_
  refine lv_aload_n hx hb dL_gap_2 rfl (lv_at hl 0 rfl) ?_
  refine lv_iload_n hx hb dL_gap_3 rfl (lv_at hl 1 rfl) ?_
  refine lv_iload_n hx hb dL_gap_4 rfl (lv_at hl 2 rfl) ?_
  refine m_hVi (C := RX5) (k := 0) (rest := [.int (oI 0), .ref (ad 75)]) (As := [.int v1, .int v2]) (hh := [(0, 10, 13, 28), (0, 10, 17, 13)]) hx hb hml hown hts hK hT hNc hH hl hnt cw_L_37 hM ⟨Nat.le_refl _, Nat.le_refl _⟩ ⟨by show 0 + kc ≤ kc; omega, by show 0 + 6 * kc ≤ 6 * kc; omega⟩ rfl (by omega) e0 rfl rfl (Nat.le_of_ble_eq_true rfl) dL_gap_5 (fun E s1 hpe => ?_) (fun r s1 H locs hpo1 hH => ?_)
  rotate_left
  refine m_i2I r.toInt (oI_self r).symm ?_
  refine m_i2l hx hb dL_gap_8 (oI_rng r) ?_
  refine m_last hx hb hK hH hA (k := 75) (by omega) ((hpo r s1 hpo1).trans e75) 0 rfl (by omega) (by decide) dL_gap_9 (fun H locs s2 h75 hq hH => ?_)
  refine lv_goto (tgt := 21) hx hb dL_gap_10 (by decide) ?_
  refine m_iconst 0 hx hb dL_gap_21 rfl ?_
  exact m_iretL hx hb hlk hrt hH ⟨by omega, by omega⟩ dL_gap_22 (Or.inl ⟨rfl, r.toInt, s1, _, oI_rng r, by rw [oI_self]; exact hpo1, h75, va_up_s _ _ _, hq⟩)
  rcases hpx E s1 hpe with rfl | rfl
  · refine ⟨13, ⟨[], ⟨0, 10, 13, 28⟩, [⟨0, 10, 17, 13⟩], rfl, fun z hz => absurd hz List.not_mem_nil, rfl, by decide, oHw_28, rfl, by decide⟩, fun q9 H1 locs1 hH => ?_⟩
    refine lv_astore hx hb dL_gap_13 hl (by decide) rfl (fun ls hl => ?_)
    refine m_iconst 1 hx hb dL_gap_15 rfl ?_
    exact m_iretL hx hb hlk hrt hH ⟨by omega, by omega⟩ dL_gap_16 (Or.inr ⟨_, hpe, by rw [oN1_1]⟩)
  · refine ⟨17, ⟨[⟨0, 10, 13, 28⟩], ⟨0, 10, 17, 13⟩, [], rfl, fun z hz => by rcases List.mem_singleton.mp hz with rfl; exact ⟨by decide, oIO, by decide, by decide, oHw_28⟩, rfl, by decide, oHw_13, rfl, by decide⟩, fun q9 H1 locs1 hH => ?_⟩
    refine lv_astore hx hb dL_gap_17 hl (by decide) rfl (fun ls hl => ?_)
    refine m_iconst 2 hx hb dL_gap_19 rfl ?_
    exact m_iretL hx hb hlk hrt hH ⟨by omega, by omega⟩ dL_gap_20 (Or.inr ⟨_, hpe, rfl⟩)
set_option maxRecDepth 100000 in
theorem hL_ruler {l : Launch} {D : va_G} {cT : Nat → ClassId} {N b0 : Nat} {ad : Nat → Nat} (hA : oAd b0 N ad) (hN : 76 ≤ N) {σ : Nat → va_E} {v1 : Int32} {post : Int32 → (Nat → va_E) → Prop} {px : String → (Nat → va_E) → Prop} {FR LO kc : Nat} {fs : List Value} {F : Nat → Int64} (hM : oXi l D cT N ad b0 yX5_ruler cX5_ruler 2 (some .int) FR LO kc [.ref (ad 0), .int v1] σ post px) (e0 : σ 0 = .inr (5, fs)) (e75 : σ 75 = oAL cT 1 F) (hpo : ∀ (r : Int32) (u : Nat → va_E), post r u → u 75 = σ 75) (hpx : ∀ (E : String) (u : Nat → va_E), px E u → E = oIA ∨ E = oIS) :
    oHi l D cT N ad b0 yL_ruler cL_ruler 4 [(0, 9, 12, 13), (0, 9, 15, 15)] (FR + 1) (8 + (2 + 11) + LO) kc [.ref (ad 0), .int v1, .ref (ad 75)] σ (oHp cT (oN1 oIA) post px) := by
  refine m_startL (cc := cL_ruler) (by decide) (Nat.le_of_ble_eq_true rfl) rfl ?_
  intro Pp Ee Ss Mm Bb Me Cc Ar ls hx hb hml hown hlk hrt hts hK hH hl hT hNc hnt
  have hown : Ss.vm.findClass RL = some Mm.cls := hown
  refine lv_aload_n hx hb dL_ruler_0 rfl (lv_at hl 2 rfl) ?_
  refine m_iconst 0 hx hb dL_ruler_1 rfl ?_
  refine lv_aload_n hx hb dL_ruler_2 rfl (lv_at hl 0 rfl) ?_
  refine lv_iload_n hx hb dL_ruler_3 rfl (lv_at hl 1 rfl) ?_
  refine m_hVi (C := RX5) (k := 0) (rest := [.int (oI 0), .ref (ad 75)]) (As := [.int v1]) (hh := [(0, 9, 12, 13), (0, 9, 15, 15)]) hx hb hml hown hts hK hT hNc hH hl hnt cw_L_40 hM ⟨Nat.le_refl _, Nat.le_refl _⟩ ⟨by show 0 + kc ≤ kc; omega, by show 0 + 6 * kc ≤ 6 * kc; omega⟩ rfl (by omega) e0 rfl rfl (Nat.le_of_ble_eq_true rfl) dL_ruler_4 (fun E s1 hpe => ?_) (fun r s1 H locs hpo1 hH => ?_)
  rotate_left
  refine m_i2I r.toInt (oI_self r).symm ?_
  refine m_i2l hx hb dL_ruler_7 (oI_rng r) ?_
  refine m_last hx hb hK hH hA (k := 75) (by omega) ((hpo r s1 hpo1).trans e75) 0 rfl (by omega) (by decide) dL_ruler_8 (fun H locs s2 h75 hq hH => ?_)
  refine lv_goto (tgt := 18) hx hb dL_ruler_9 (by decide) ?_
  refine m_iconst 0 hx hb dL_ruler_18 rfl ?_
  exact m_iretL hx hb hlk hrt hH ⟨by omega, by omega⟩ dL_ruler_19 (Or.inl ⟨rfl, r.toInt, s1, _, oI_rng r, by rw [oI_self]; exact hpo1, h75, va_up_s _ _ _, hq⟩)
  rcases hpx E s1 hpe with rfl | rfl
  · refine ⟨12, ⟨[], ⟨0, 9, 12, 13⟩, [⟨0, 9, 15, 15⟩], rfl, fun z hz => absurd hz List.not_mem_nil, rfl, by decide, oHw_13, rfl, by decide⟩, fun q9 H1 locs1 hH => ?_⟩
    refine lv_astore_n hx hb dL_ruler_12 rfl hl (by decide) rfl (fun ls hl => ?_)
    refine m_iconst 1 hx hb dL_ruler_13 rfl ?_
    exact m_iretL hx hb hlk hrt hH ⟨by omega, by omega⟩ dL_ruler_14 (Or.inr ⟨_, hpe, by rw [oN1_1]⟩)
  · refine ⟨15, ⟨[⟨0, 9, 12, 13⟩], ⟨0, 9, 15, 15⟩, [], rfl, fun z hz => by rcases List.mem_singleton.mp hz with rfl; exact ⟨by decide, oIA, by decide, by decide, oHw_13⟩, rfl, by decide, oHw_15, rfl, by decide⟩, fun q9 H1 locs1 hH => ?_⟩
    refine lv_astore_n hx hb dL_ruler_15 rfl hl (by decide) rfl (fun ls hl => ?_)
    refine m_iconst 2 hx hb dL_ruler_16 rfl ?_
    exact m_iretL hx hb hlk hrt hH ⟨by omega, by omega⟩ dL_ruler_17 (Or.inr ⟨_, hpe, rfl⟩)
set_option maxRecDepth 100000 in
theorem hL_mark {l : Launch} {D : va_G} {cT : Nat → ClassId} {N b0 : Nat} {ad : Nat → Nat} (hA : oAd b0 N ad) (hN : 76 ≤ N) {σ : Nat → va_E} {v1 : Int32} {v2 : Int32} {v3 : Int32} {post : Int32 → (Nat → va_E) → Prop} {px : String → (Nat → va_E) → Prop} {FR LO kc : Nat} {fs : List Value} {F : Nat → Int64} (hM : oXi l D cT N ad b0 yX5_mark cX5_mark 4 (some .int) FR LO kc [.ref (ad 0), .int v1, .int v2, .int v3] σ post px) (e0 : σ 0 = .inr (5, fs)) (e75 : σ 75 = oAL cT 1 F) (hpo : ∀ (r : Int32) (u : Nat → va_E), post r u → u 75 = σ 75) (hpx : ∀ (E : String) (u : Nat → va_E), px E u → E = oIO ∨ E = oIS) :
    oHi l D cT N ad b0 yL_mark cL_mark 6 [(0, 12, 15, 28), (0, 12, 19, 15)] (FR + 1) (8 + (4 + 11) + LO) kc [.ref (ad 0), .int v1, .int v2, .int v3, .ref (ad 75)] σ (oHp cT (oN1 oIO) post px) := by
  refine m_startL (cc := cL_mark) (by decide) (Nat.le_of_ble_eq_true rfl) rfl ?_
  intro Pp Ee Ss Mm Bb Me Cc Ar ls hx hb hml hown hlk hrt hts hK hH hl hT hNc hnt
  have hown : Ss.vm.findClass RL = some Mm.cls := hown
  refine lv_aload hx hb dL_mark_0 (lv_at hl 4 rfl) ?_
  refine m_iconst 0 hx hb dL_mark_2 rfl ?_
  refine lv_aload_n hx hb dL_mark_3 rfl (lv_at hl 0 rfl) ?_
  refine lv_iload_n hx hb dL_mark_4 rfl (lv_at hl 1 rfl) ?_
  refine lv_iload_n hx hb dL_mark_5 rfl (lv_at hl 2 rfl) ?_
  refine lv_iload_n hx hb dL_mark_6 rfl (lv_at hl 3 rfl) ?_
  refine m_hVi (C := RX5) (k := 0) (rest := [.int (oI 0), .ref (ad 75)]) (As := [.int v1, .int v2, .int v3]) (hh := [(0, 12, 15, 28), (0, 12, 19, 15)]) hx hb hml hown hts hK hT hNc hH hl hnt cw_L_43 hM ⟨Nat.le_refl _, Nat.le_refl _⟩ ⟨by show 0 + kc ≤ kc; omega, by show 0 + 6 * kc ≤ 6 * kc; omega⟩ rfl (by omega) e0 rfl rfl (Nat.le_of_ble_eq_true rfl) dL_mark_7 (fun E s1 hpe => ?_) (fun r s1 H locs hpo1 hH => ?_)
  rotate_left
  refine m_i2I r.toInt (oI_self r).symm ?_
  refine m_i2l hx hb dL_mark_10 (oI_rng r) ?_
  refine m_last hx hb hK hH hA (k := 75) (by omega) ((hpo r s1 hpo1).trans e75) 0 rfl (by omega) (by decide) dL_mark_11 (fun H locs s2 h75 hq hH => ?_)
  refine lv_goto (tgt := 23) hx hb dL_mark_12 (by decide) ?_
  refine m_iconst 0 hx hb dL_mark_23 rfl ?_
  exact m_iretL hx hb hlk hrt hH ⟨by omega, by omega⟩ dL_mark_24 (Or.inl ⟨rfl, r.toInt, s1, _, oI_rng r, by rw [oI_self]; exact hpo1, h75, va_up_s _ _ _, hq⟩)
  rcases hpx E s1 hpe with rfl | rfl
  · refine ⟨15, ⟨[], ⟨0, 12, 15, 28⟩, [⟨0, 12, 19, 15⟩], rfl, fun z hz => absurd hz List.not_mem_nil, rfl, by decide, oHw_28, rfl, by decide⟩, fun q9 H1 locs1 hH => ?_⟩
    refine lv_astore hx hb dL_mark_15 hl (by decide) rfl (fun ls hl => ?_)
    refine m_iconst 1 hx hb dL_mark_17 rfl ?_
    exact m_iretL hx hb hlk hrt hH ⟨by omega, by omega⟩ dL_mark_18 (Or.inr ⟨_, hpe, by rw [oN1_1]⟩)
  · refine ⟨19, ⟨[⟨0, 12, 15, 28⟩], ⟨0, 12, 19, 15⟩, [], rfl, fun z hz => by rcases List.mem_singleton.mp hz with rfl; exact ⟨by decide, oIO, by decide, by decide, oHw_28⟩, rfl, by decide, oHw_15, rfl, by decide⟩, fun q9 H1 locs1 hH => ?_⟩
    refine lv_astore hx hb dL_mark_19 hl (by decide) rfl (fun ls hl => ?_)
    refine m_iconst 2 hx hb dL_mark_21 rfl ?_
    exact m_iretL hx hb hlk hrt hH ⟨by omega, by omega⟩ dL_mark_22 (Or.inr ⟨_, hpe, rfl⟩)
set_option maxRecDepth 100000 in
theorem hL_cut {l : Launch} {D : va_G} {cT : Nat → ClassId} {N b0 : Nat} {ad : Nat → Nat} (hA : oAd b0 N ad) (hN : 76 ≤ N) {σ : Nat → va_E} {v1 : Int32} {v2 : Int32} {post : Int32 → (Nat → va_E) → Prop} {px : String → (Nat → va_E) → Prop} {FR LO kc : Nat} {fs : List Value} {F : Nat → Int64} (hM : oXi l D cT N ad b0 yX5_cut cX5_cut 3 (some .int) FR LO kc [.ref (ad 0), .int v1, .int v2] σ post px) (e0 : σ 0 = .inr (5, fs)) (e75 : σ 75 = oAL cT 1 F) (hpo : ∀ (r : Int32) (u : Nat → va_E), post r u → u 75 = σ 75) (hpx : ∀ (E : String) (u : Nat → va_E), px E u → E = oIO ∨ E = oIA) :
    oHi l D cT N ad b0 yL_cut cL_cut 5 [(0, 10, 13, 28), (0, 10, 17, 13)] (FR + 1) (8 + (3 + 11) + LO) kc [.ref (ad 0), .int v1, .int v2, .ref (ad 75)] σ (oHp cT (oN1 oIO) post px) := by
  refine m_startL (cc := cL_cut) (by decide) (Nat.le_of_ble_eq_true rfl) rfl ?_
  intro Pp Ee Ss Mm Bb Me Cc Ar ls hx hb hml hown hlk hrt hts hK hH hl hT hNc hnt
  have hown : Ss.vm.findClass RL = some Mm.cls := hown
  refine lv_aload_n hx hb dL_cut_0 rfl (lv_at hl 3 rfl) ?_
  refine m_iconst 0 hx hb dL_cut_1 rfl ?_
  refine lv_aload_n hx hb dL_cut_2 rfl (lv_at hl 0 rfl) ?_
  refine lv_iload_n hx hb dL_cut_3 rfl (lv_at hl 1 rfl) ?_
  refine lv_iload_n hx hb dL_cut_4 rfl (lv_at hl 2 rfl) ?_
  refine m_hVi (C := RX5) (k := 0) (rest := [.int (oI 0), .ref (ad 75)]) (As := [.int v1, .int v2]) (hh := [(0, 10, 13, 28), (0, 10, 17, 13)]) hx hb hml hown hts hK hT hNc hH hl hnt cw_L_47 hM ⟨Nat.le_refl _, Nat.le_refl _⟩ ⟨by show 0 + kc ≤ kc; omega, by show 0 + 6 * kc ≤ 6 * kc; omega⟩ rfl (by omega) e0 rfl rfl (Nat.le_of_ble_eq_true rfl) dL_cut_5 (fun E s1 hpe => ?_) (fun r s1 H locs hpo1 hH => ?_)
  rotate_left
  refine m_i2I r.toInt (oI_self r).symm ?_
  refine m_i2l hx hb dL_cut_8 (oI_rng r) ?_
  refine m_last hx hb hK hH hA (k := 75) (by omega) ((hpo r s1 hpo1).trans e75) 0 rfl (by omega) (by decide) dL_cut_9 (fun H locs s2 h75 hq hH => ?_)
  refine lv_goto (tgt := 21) hx hb dL_cut_10 (by decide) ?_
  refine m_iconst 0 hx hb dL_cut_21 rfl ?_
  exact m_iretL hx hb hlk hrt hH ⟨by omega, by omega⟩ dL_cut_22 (Or.inl ⟨rfl, r.toInt, s1, _, oI_rng r, by rw [oI_self]; exact hpo1, h75, va_up_s _ _ _, hq⟩)
  rcases hpx E s1 hpe with rfl | rfl
  · refine ⟨13, ⟨[], ⟨0, 10, 13, 28⟩, [⟨0, 10, 17, 13⟩], rfl, fun z hz => absurd hz List.not_mem_nil, rfl, by decide, oHw_28, rfl, by decide⟩, fun q9 H1 locs1 hH => ?_⟩
    refine lv_astore hx hb dL_cut_13 hl (by decide) rfl (fun ls hl => ?_)
    refine m_iconst 1 hx hb dL_cut_15 rfl ?_
    exact m_iretL hx hb hlk hrt hH ⟨by omega, by omega⟩ dL_cut_16 (Or.inr ⟨_, hpe, by rw [oN1_1]⟩)
  · refine ⟨17, ⟨[⟨0, 10, 13, 28⟩], ⟨0, 10, 17, 13⟩, [], rfl, fun z hz => by rcases List.mem_singleton.mp hz with rfl; exact ⟨by decide, oIO, by decide, by decide, oHw_28⟩, rfl, by decide, oHw_13, rfl, by decide⟩, fun q9 H1 locs1 hH => ?_⟩
    refine lv_astore hx hb dL_cut_17 hl (by decide) rfl (fun ls hl => ?_)
    refine m_iconst 2 hx hb dL_cut_19 rfl ?_
    exact m_iretL hx hb hlk hrt hH ⟨by omega, by omega⟩ dL_cut_20 (Or.inr ⟨_, hpe, rfl⟩)
set_option maxRecDepth 100000 in
theorem hL_turn {l : Launch} {D : va_G} {cT : Nat → ClassId} {N b0 : Nat} {ad : Nat → Nat} (hA : oAd b0 N ad) (hN : 76 ≤ N) {σ : Nat → va_E} {v1 : Int32} {post : Int32 → (Nat → va_E) → Prop} {px : String → (Nat → va_E) → Prop} {FR LO kc : Nat} {fs : List Value} {F : Nat → Int64} (hM : oXi l D cT N ad b0 yX5_turn cX5_turn 2 (some .int) FR LO kc [.ref (ad 0), .int v1] σ post px) (e0 : σ 0 = .inr (5, fs)) (e75 : σ 75 = oAL cT 1 F) (hpo : ∀ (r : Int32) (u : Nat → va_E), post r u → u 75 = σ 75) (hpx : ∀ (E : String) (u : Nat → va_E), px E u → E = oIO) :
    oHi l D cT N ad b0 yL_turn cL_turn 4 [(0, 9, 12, 28)] (FR + 1) (8 + (2 + 11) + LO) kc [.ref (ad 0), .int v1, .ref (ad 75)] σ (oHp cT (oN1 oIO) post px) := by
  refine m_startL (cc := cL_turn) (by decide) (Nat.le_of_ble_eq_true rfl) rfl ?_
  intro Pp Ee Ss Mm Bb Me Cc Ar ls hx hb hml hown hlk hrt hts hK hH hl hT hNc hnt
  have hown : Ss.vm.findClass RL = some Mm.cls := hown
  refine lv_aload_n hx hb dL_turn_0 rfl (lv_at hl 2 rfl) ?_
  refine m_iconst 0 hx hb dL_turn_1 rfl ?_
  refine lv_aload_n hx hb dL_turn_2 rfl (lv_at hl 0 rfl) ?_
  refine lv_iload_n hx hb dL_turn_3 rfl (lv_at hl 1 rfl) ?_
  refine m_hVi (C := RX5) (k := 0) (rest := [.int (oI 0), .ref (ad 75)]) (As := [.int v1]) (hh := [(0, 9, 12, 28)]) hx hb hml hown hts hK hT hNc hH hl hnt cw_L_50 hM ⟨Nat.le_refl _, Nat.le_refl _⟩ ⟨by show 0 + kc ≤ kc; omega, by show 0 + 6 * kc ≤ 6 * kc; omega⟩ rfl (by omega) e0 rfl rfl (Nat.le_of_ble_eq_true rfl) dL_turn_4 (fun E s1 hpe => ?_) (fun r s1 H locs hpo1 hH => ?_)
  rotate_left
  refine m_i2I r.toInt (oI_self r).symm ?_
  refine m_i2l hx hb dL_turn_7 (oI_rng r) ?_
  refine m_last hx hb hK hH hA (k := 75) (by omega) ((hpo r s1 hpo1).trans e75) 0 rfl (by omega) (by decide) dL_turn_8 (fun H locs s2 h75 hq hH => ?_)
  refine lv_goto (tgt := 15) hx hb dL_turn_9 (by decide) ?_
  refine m_iconst 0 hx hb dL_turn_15 rfl ?_
  exact m_iretL hx hb hlk hrt hH ⟨by omega, by omega⟩ dL_turn_16 (Or.inl ⟨rfl, r.toInt, s1, _, oI_rng r, by rw [oI_self]; exact hpo1, h75, va_up_s _ _ _, hq⟩)
  obtain rfl := hpx E s1 hpe
  · refine ⟨12, ⟨[], ⟨0, 9, 12, 28⟩, [], rfl, fun z hz => absurd hz List.not_mem_nil, rfl, by decide, oHw_28, rfl, by decide⟩, fun q9 H1 locs1 hH => ?_⟩
    refine lv_astore_n hx hb dL_turn_12 rfl hl (by decide) rfl (fun ls hl => ?_)
    refine m_iconst 1 hx hb dL_turn_13 rfl ?_
    exact m_iretL hx hb hlk hrt hH ⟨by omega, by omega⟩ dL_turn_14 (Or.inr ⟨_, hpe, by rw [oN1_1]⟩)
set_option maxRecDepth 100000 in
theorem hL_set {l : Launch} {D : va_G} {cT : Nat → ClassId} {N b0 : Nat} {ad : Nat → Nat} (hA : oAd b0 N ad) (hN : 76 ≤ N) {σ : Nat → va_E} {v1 : Int32} {v2 : Int32} {post : Int32 → (Nat → va_E) → Prop} {px : String → (Nat → va_E) → Prop} {FR LO kc : Nat} {fs : List Value} {F : Nat → Int64} (hM : oXi l D cT N ad b0 yX5_set cX5_set 3 (some .int) FR LO kc [.ref (ad 0), .int v1, .int v2] σ post px) (e0 : σ 0 = .inr (5, fs)) (e75 : σ 75 = oAL cT 1 F) (hpo : ∀ (r : Int32) (u : Nat → va_E), post r u → u 75 = σ 75) (hpx : ∀ (E : String) (u : Nat → va_E), px E u → E = oIA) :
    oHi l D cT N ad b0 yL_set cL_set 5 [(0, 10, 13, 13)] (FR + 1) (8 + (3 + 11) + LO) kc [.ref (ad 0), .int v1, .int v2, .ref (ad 75)] σ (oHp cT (oN1 oIA) post px) := by
  refine m_startL (cc := cL_set) (by decide) (Nat.le_of_ble_eq_true rfl) rfl ?_
  intro Pp Ee Ss Mm Bb Me Cc Ar ls hx hb hml hown hlk hrt hts hK hH hl hT hNc hnt
  have hown : Ss.vm.findClass RL = some Mm.cls := hown
  refine lv_aload_n hx hb dL_set_0 rfl (lv_at hl 3 rfl) ?_
  refine m_iconst 0 hx hb dL_set_1 rfl ?_
  refine lv_aload_n hx hb dL_set_2 rfl (lv_at hl 0 rfl) ?_
  refine lv_iload_n hx hb dL_set_3 rfl (lv_at hl 1 rfl) ?_
  refine lv_iload_n hx hb dL_set_4 rfl (lv_at hl 2 rfl) ?_
  refine m_hVi (C := RX5) (k := 0) (rest := [.int (oI 0), .ref (ad 75)]) (As := [.int v1, .int v2]) (hh := [(0, 10, 13, 13)]) hx hb hml hown hts hK hT hNc hH hl hnt cw_L_53 hM ⟨Nat.le_refl _, Nat.le_refl _⟩ ⟨by show 0 + kc ≤ kc; omega, by show 0 + 6 * kc ≤ 6 * kc; omega⟩ rfl (by omega) e0 rfl rfl (Nat.le_of_ble_eq_true rfl) dL_set_5 (fun E s1 hpe => ?_) (fun r s1 H locs hpo1 hH => ?_)
  rotate_left
  refine m_i2I r.toInt (oI_self r).symm ?_
  refine m_i2l hx hb dL_set_8 (oI_rng r) ?_
  refine m_last hx hb hK hH hA (k := 75) (by omega) ((hpo r s1 hpo1).trans e75) 0 rfl (by omega) (by decide) dL_set_9 (fun H locs s2 h75 hq hH => ?_)
  refine lv_goto (tgt := 17) hx hb dL_set_10 (by decide) ?_
  refine m_iconst 0 hx hb dL_set_17 rfl ?_
  exact m_iretL hx hb hlk hrt hH ⟨by omega, by omega⟩ dL_set_18 (Or.inl ⟨rfl, r.toInt, s1, _, oI_rng r, by rw [oI_self]; exact hpo1, h75, va_up_s _ _ _, hq⟩)
  obtain rfl := hpx E s1 hpe
  · refine ⟨13, ⟨[], ⟨0, 10, 13, 13⟩, [], rfl, fun z hz => absurd hz List.not_mem_nil, rfl, by decide, oHw_13, rfl, by decide⟩, fun q9 H1 locs1 hH => ?_⟩
    refine lv_astore hx hb dL_set_13 hl (by decide) rfl (fun ls hl => ?_)
    refine m_iconst 1 hx hb dL_set_15 rfl ?_
    exact m_iretL hx hb hlk hrt hH ⟨by omega, by omega⟩ dL_set_16 (Or.inr ⟨_, hpe, by rw [oN1_1]⟩)
set_option maxRecDepth 100000 in
theorem hL_undo {l : Launch} {D : va_G} {cT : Nat → ClassId} {N b0 : Nat} {ad : Nat → Nat} (hA : oAd b0 N ad) (hN : 76 ≤ N) {σ : Nat → va_E}  {post : Int32 → (Nat → va_E) → Prop} {px : String → (Nat → va_E) → Prop} {FR LO kc : Nat} {fs : List Value} {F : Nat → Int64} (hM : oXi l D cT N ad b0 yX5_undo cX5_undo 1 (some .int) FR LO kc [.ref (ad 0)] σ post px) (e0 : σ 0 = .inr (5, fs)) (e75 : σ 75 = oAL cT 1 F) (hpo : ∀ (r : Int32) (u : Nat → va_E), post r u → u 75 = σ 75) (hpx : ∀ (E : String) (u : Nat → va_E), px E u → E = oIS) :
    oHi l D cT N ad b0 yL_undo cL_undo 3 [(0, 8, 11, 15)] (FR + 1) (8 + (1 + 11) + LO) kc [.ref (ad 0), .ref (ad 75)] σ (oHp cT (oN1 oIS) post px) := by
  refine m_startL (cc := cL_undo) (by decide) (Nat.le_of_ble_eq_true rfl) rfl ?_
  intro Pp Ee Ss Mm Bb Me Cc Ar ls hx hb hml hown hlk hrt hts hK hH hl hT hNc hnt
  have hown : Ss.vm.findClass RL = some Mm.cls := hown
  refine lv_aload_n hx hb dL_undo_0 rfl (lv_at hl 1 rfl) ?_
  refine m_iconst 0 hx hb dL_undo_1 rfl ?_
  refine lv_aload_n hx hb dL_undo_2 rfl (lv_at hl 0 rfl) ?_
  refine m_hVi (C := RX5) (k := 0) (rest := [.int (oI 0), .ref (ad 75)]) (As := []) (hh := [(0, 8, 11, 15)]) hx hb hml hown hts hK hT hNc hH hl hnt cw_L_56 hM ⟨Nat.le_refl _, Nat.le_refl _⟩ ⟨by show 0 + kc ≤ kc; omega, by show 0 + 6 * kc ≤ 6 * kc; omega⟩ rfl (by omega) e0 rfl rfl (Nat.le_of_ble_eq_true rfl) dL_undo_3 (fun E s1 hpe => ?_) (fun r s1 H locs hpo1 hH => ?_)
  rotate_left
  refine m_i2I r.toInt (oI_self r).symm ?_
  refine m_i2l hx hb dL_undo_6 (oI_rng r) ?_
  refine m_last hx hb hK hH hA (k := 75) (by omega) ((hpo r s1 hpo1).trans e75) 0 rfl (by omega) (by decide) dL_undo_7 (fun H locs s2 h75 hq hH => ?_)
  refine lv_goto (tgt := 14) hx hb dL_undo_8 (by decide) ?_
  refine m_iconst 0 hx hb dL_undo_14 rfl ?_
  exact m_iretL hx hb hlk hrt hH ⟨by omega, by omega⟩ dL_undo_15 (Or.inl ⟨rfl, r.toInt, s1, _, oI_rng r, by rw [oI_self]; exact hpo1, h75, va_up_s _ _ _, hq⟩)
  obtain rfl := hpx E s1 hpe
  · refine ⟨11, ⟨[], ⟨0, 8, 11, 15⟩, [], rfl, fun z hz => absurd hz List.not_mem_nil, rfl, by decide, oHw_15, rfl, by decide⟩, fun q9 H1 locs1 hH => ?_⟩
    refine lv_astore_n hx hb dL_undo_11 rfl hl (by decide) rfl (fun ls hl => ?_)
    refine m_iconst 1 hx hb dL_undo_12 rfl ?_
    exact m_iretL hx hb hlk hrt hH ⟨by omega, by omega⟩ dL_undo_13 (Or.inr ⟨_, hpe, by rw [oN1_1]⟩)
set_option maxRecDepth 100000 in
theorem hL_fewest {l : Launch} {D : va_G} {cT : Nat → ClassId} {N b0 : Nat} {ad : Nat → Nat} (hA : oAd b0 N ad) (hN : 76 ≤ N) {σ : Nat → va_E} {v1 : Int32} {v2 : Int32} {post : Int32 → (Nat → va_E) → Prop} {px : String → (Nat → va_E) → Prop} {FR LO kc : Nat} {fs : List Value} {F : Nat → Int64} (hM : oXi l D cT N ad b0 yX5_fewest cX5_fewest 5 (some .int) FR LO kc [.ref (ad 0), .int v1, .int v2] σ post px) (e0 : σ 0 = .inr (5, fs)) (e75 : σ 75 = oAL cT 1 F) (hpo : ∀ (r : Int32) (u : Nat → va_E), post r u → u 75 = σ 75) (hpx : ∀ (E : String) (u : Nat → va_E), px E u → E = oIA) :
    oHi l D cT N ad b0 yL_fewest cL_fewest 5 [(0, 10, 13, 13)] (FR + 1) (8 + (5 + 11) + LO) kc [.ref (ad 0), .int v1, .int v2, .ref (ad 75)] σ (oHp cT (oN1 oIA) post px) := by
  refine m_startL (cc := cL_fewest) (by decide) (Nat.le_of_ble_eq_true rfl) rfl ?_
  intro Pp Ee Ss Mm Bb Me Cc Ar ls hx hb hml hown hlk hrt hts hK hH hl hT hNc hnt
  have hown : Ss.vm.findClass RL = some Mm.cls := hown
  refine lv_aload_n hx hb dL_fewest_0 rfl (lv_at hl 3 rfl) ?_
  refine m_iconst 0 hx hb dL_fewest_1 rfl ?_
  refine lv_aload_n hx hb dL_fewest_2 rfl (lv_at hl 0 rfl) ?_
  refine lv_iload_n hx hb dL_fewest_3 rfl (lv_at hl 1 rfl) ?_
  refine lv_iload_n hx hb dL_fewest_4 rfl (lv_at hl 2 rfl) ?_
  refine m_hVi (C := RX5) (k := 0) (rest := [.int (oI 0), .ref (ad 75)]) (As := [.int v1, .int v2]) (hh := [(0, 10, 13, 13)]) hx hb hml hown hts hK hT hNc hH hl hnt cw_L_59 hM ⟨Nat.le_refl _, Nat.le_refl _⟩ ⟨by show 0 + kc ≤ kc; omega, by show 0 + 6 * kc ≤ 6 * kc; omega⟩ rfl (by omega) e0 rfl rfl (Nat.le_of_ble_eq_true rfl) dL_fewest_5 (fun E s1 hpe => ?_) (fun r s1 H locs hpo1 hH => ?_)
  rotate_left
  refine m_i2I r.toInt (oI_self r).symm ?_
  refine m_i2l hx hb dL_fewest_8 (oI_rng r) ?_
  refine m_last hx hb hK hH hA (k := 75) (by omega) ((hpo r s1 hpo1).trans e75) 0 rfl (by omega) (by decide) dL_fewest_9 (fun H locs s2 h75 hq hH => ?_)
  refine lv_goto (tgt := 17) hx hb dL_fewest_10 (by decide) ?_
  refine m_iconst 0 hx hb dL_fewest_17 rfl ?_
  exact m_iretL hx hb hlk hrt hH ⟨by omega, by omega⟩ dL_fewest_18 (Or.inl ⟨rfl, r.toInt, s1, _, oI_rng r, by rw [oI_self]; exact hpo1, h75, va_up_s _ _ _, hq⟩)
  obtain rfl := hpx E s1 hpe
  · refine ⟨13, ⟨[], ⟨0, 10, 13, 13⟩, [], rfl, fun z hz => absurd hz List.not_mem_nil, rfl, by decide, oHw_13, rfl, by decide⟩, fun q9 H1 locs1 hH => ?_⟩
    refine lv_astore hx hb dL_fewest_13 hl (by decide) rfl (fun ls hl => ?_)
    refine m_iconst 1 hx hb dL_fewest_15 rfl ?_
    exact m_iretL hx hb hlk hrt hH ⟨by omega, by omega⟩ dL_fewest_16 (Or.inr ⟨_, hpe, by rw [oN1_1]⟩)
set_option maxRecDepth 100000 in
theorem hL_laying {l : Launch} {D : va_G} {cT : Nat → ClassId} {N b0 : Nat} {ad : Nat → Nat} (hA : oAd b0 N ad) (hN : 76 ≤ N) {σ : Nat → va_E} {v1 : Int32} {v2 : Int32} {v3 : Int32} {post : Int32 → (Nat → va_E) → Prop} {px : String → (Nat → va_E) → Prop} {FR LO kc : Nat} {fs : List Value} {F : Nat → Int64} (hM : oXi l D cT N ad b0 yX5_laying cX5_laying 6 (some .int) FR LO kc [.ref (ad 0), .int v1, .int v2, .int v3] σ post px) (e0 : σ 0 = .inr (5, fs)) (e75 : σ 75 = oAL cT 1 F) (hpo : ∀ (r : Int32) (u : Nat → va_E), post r u → u 75 = σ 75) (hpx : ∀ (E : String) (u : Nat → va_E), px E u → E = oIA) :
    oHi l D cT N ad b0 yL_laying cL_laying 6 [(0, 12, 15, 13)] (FR + 1) (8 + (6 + 11) + LO) kc [.ref (ad 0), .int v1, .int v2, .int v3, .ref (ad 75)] σ (oHp cT (oN1 oIA) post px) := by
  refine m_startL (cc := cL_laying) (by decide) (Nat.le_of_ble_eq_true rfl) rfl ?_
  intro Pp Ee Ss Mm Bb Me Cc Ar ls hx hb hml hown hlk hrt hts hK hH hl hT hNc hnt
  have hown : Ss.vm.findClass RL = some Mm.cls := hown
  refine lv_aload hx hb dL_laying_0 (lv_at hl 4 rfl) ?_
  refine m_iconst 0 hx hb dL_laying_2 rfl ?_
  refine lv_aload_n hx hb dL_laying_3 rfl (lv_at hl 0 rfl) ?_
  refine lv_iload_n hx hb dL_laying_4 rfl (lv_at hl 1 rfl) ?_
  refine lv_iload_n hx hb dL_laying_5 rfl (lv_at hl 2 rfl) ?_
  refine lv_iload_n hx hb dL_laying_6 rfl (lv_at hl 3 rfl) ?_
  refine m_hVi (C := RX5) (k := 0) (rest := [.int (oI 0), .ref (ad 75)]) (As := [.int v1, .int v2, .int v3]) (hh := [(0, 12, 15, 13)]) hx hb hml hown hts hK hT hNc hH hl hnt cw_L_62 hM ⟨Nat.le_refl _, Nat.le_refl _⟩ ⟨by show 0 + kc ≤ kc; omega, by show 0 + 6 * kc ≤ 6 * kc; omega⟩ rfl (by omega) e0 rfl rfl (Nat.le_of_ble_eq_true rfl) dL_laying_7 (fun E s1 hpe => ?_) (fun r s1 H locs hpo1 hH => ?_)
  rotate_left
  refine m_i2I r.toInt (oI_self r).symm ?_
  refine m_i2l hx hb dL_laying_10 (oI_rng r) ?_
  refine m_last hx hb hK hH hA (k := 75) (by omega) ((hpo r s1 hpo1).trans e75) 0 rfl (by omega) (by decide) dL_laying_11 (fun H locs s2 h75 hq hH => ?_)
  refine lv_goto (tgt := 19) hx hb dL_laying_12 (by decide) ?_
  refine m_iconst 0 hx hb dL_laying_19 rfl ?_
  exact m_iretL hx hb hlk hrt hH ⟨by omega, by omega⟩ dL_laying_20 (Or.inl ⟨rfl, r.toInt, s1, _, oI_rng r, by rw [oI_self]; exact hpo1, h75, va_up_s _ _ _, hq⟩)
  obtain rfl := hpx E s1 hpe
  · refine ⟨15, ⟨[], ⟨0, 12, 15, 13⟩, [], rfl, fun z hz => absurd hz List.not_mem_nil, rfl, by decide, oHw_13, rfl, by decide⟩, fun q9 H1 locs1 hH => ?_⟩
    refine lv_astore hx hb dL_laying_15 hl (by decide) rfl (fun ls hl => ?_)
    refine m_iconst 1 hx hb dL_laying_17 rfl ?_
    exact m_iretL hx hb hlk hrt hH ⟨by omega, by omega⟩ dL_laying_18 (Or.inr ⟨_, hpe, by rw [oN1_1]⟩)
set_option maxRecDepth 100000 in
theorem hL_why {l : Launch} {D : va_G} {cT : Nat → ClassId} {N b0 : Nat} {ad : Nat → Nat} (hA : oAd b0 N ad) (hN : 76 ≤ N) {σ : Nat → va_E} {v1 : Int32} {post : Int32 → (Nat → va_E) → Prop} {px : String → (Nat → va_E) → Prop} {FR LO kc : Nat} {fs : List Value} {F : Nat → Int64} (hM : oXi l D cT N ad b0 yX5_why cX5_why 4 (some .int) FR LO kc [.ref (ad 0), .int v1] σ post px) (e0 : σ 0 = .inr (5, fs)) (e75 : σ 75 = oAL cT 1 F) (hpo : ∀ (r : Int32) (u : Nat → va_E), post r u → u 75 = σ 75) (hpx : ∀ (E : String) (u : Nat → va_E), px E u → E = oIA) :
    oHi l D cT N ad b0 yL_why cL_why 4 [(0, 9, 12, 13)] (FR + 1) (8 + (4 + 11) + LO) kc [.ref (ad 0), .int v1, .ref (ad 75)] σ (oHp cT (oN1 oIA) post px) := by
  refine m_startL (cc := cL_why) (by decide) (Nat.le_of_ble_eq_true rfl) rfl ?_
  intro Pp Ee Ss Mm Bb Me Cc Ar ls hx hb hml hown hlk hrt hts hK hH hl hT hNc hnt
  have hown : Ss.vm.findClass RL = some Mm.cls := hown
  refine lv_aload_n hx hb dL_why_0 rfl (lv_at hl 2 rfl) ?_
  refine m_iconst 0 hx hb dL_why_1 rfl ?_
  refine lv_aload_n hx hb dL_why_2 rfl (lv_at hl 0 rfl) ?_
  refine lv_iload_n hx hb dL_why_3 rfl (lv_at hl 1 rfl) ?_
  refine m_hVi (C := RX5) (k := 0) (rest := [.int (oI 0), .ref (ad 75)]) (As := [.int v1]) (hh := [(0, 9, 12, 13)]) hx hb hml hown hts hK hT hNc hH hl hnt cw_L_65 hM ⟨Nat.le_refl _, Nat.le_refl _⟩ ⟨by show 0 + kc ≤ kc; omega, by show 0 + 6 * kc ≤ 6 * kc; omega⟩ rfl (by omega) e0 rfl rfl (Nat.le_of_ble_eq_true rfl) dL_why_4 (fun E s1 hpe => ?_) (fun r s1 H locs hpo1 hH => ?_)
  rotate_left
  refine m_i2I r.toInt (oI_self r).symm ?_
  refine m_i2l hx hb dL_why_7 (oI_rng r) ?_
  refine m_last hx hb hK hH hA (k := 75) (by omega) ((hpo r s1 hpo1).trans e75) 0 rfl (by omega) (by decide) dL_why_8 (fun H locs s2 h75 hq hH => ?_)
  refine lv_goto (tgt := 15) hx hb dL_why_9 (by decide) ?_
  refine m_iconst 0 hx hb dL_why_15 rfl ?_
  exact m_iretL hx hb hlk hrt hH ⟨by omega, by omega⟩ dL_why_16 (Or.inl ⟨rfl, r.toInt, s1, _, oI_rng r, by rw [oI_self]; exact hpo1, h75, va_up_s _ _ _, hq⟩)
  obtain rfl := hpx E s1 hpe
  · refine ⟨12, ⟨[], ⟨0, 9, 12, 13⟩, [], rfl, fun z hz => absurd hz List.not_mem_nil, rfl, by decide, oHw_13, rfl, by decide⟩, fun q9 H1 locs1 hH => ?_⟩
    refine lv_astore_n hx hb dL_why_12 rfl hl (by decide) rfl (fun ls hl => ?_)
    refine m_iconst 1 hx hb dL_why_13 rfl ?_
    exact m_iretL hx hb hlk hrt hH ⟨by omega, by omega⟩ dL_why_14 (Or.inr ⟨_, hpe, by rw [oN1_1]⟩)
set_option maxRecDepth 100000 in
theorem hL_bestMark {l : Launch} {D : va_G} {cT : Nat → ClassId} {N b0 : Nat} {ad : Nat → Nat} (hA : oAd b0 N ad) (hN : 76 ≤ N) {σ : Nat → va_E} {v1 : Int32} {v2 : Int32} {post : Int32 → (Nat → va_E) → Prop} {px : String → (Nat → va_E) → Prop} {FR LO kc : Nat} {fs : List Value} {F : Nat → Int64} (hM : oXi l D cT N ad b0 yX5_bestMark cX5_bestMark 11 (some .int) FR LO kc [.ref (ad 0), .int v1, .int v2] σ post px) (e0 : σ 0 = .inr (5, fs)) (e75 : σ 75 = oAL cT 1 F) (hpo : ∀ (r : Int32) (u : Nat → va_E), post r u → u 75 = σ 75) (hpx : ∀ (E : String) (u : Nat → va_E), px E u → E = oIO ∨ E = oIA) :
    oHi l D cT N ad b0 yL_bestMark cL_bestMark 5 [(0, 10, 13, 28), (0, 10, 17, 13)] (FR + 1) (8 + (11 + 11) + LO) kc [.ref (ad 0), .int v1, .int v2, .ref (ad 75)] σ (oHp cT (oN1 oIO) post px) := by
  refine m_startL (cc := cL_bestMark) (by decide) (Nat.le_of_ble_eq_true rfl) rfl ?_
  intro Pp Ee Ss Mm Bb Me Cc Ar ls hx hb hml hown hlk hrt hts hK hH hl hT hNc hnt
  have hown : Ss.vm.findClass RL = some Mm.cls := hown
  refine lv_aload_n hx hb dL_bestMark_0 rfl (lv_at hl 3 rfl) ?_
  refine m_iconst 0 hx hb dL_bestMark_1 rfl ?_
  refine lv_aload_n hx hb dL_bestMark_2 rfl (lv_at hl 0 rfl) ?_
  refine lv_iload_n hx hb dL_bestMark_3 rfl (lv_at hl 1 rfl) ?_
  refine lv_iload_n hx hb dL_bestMark_4 rfl (lv_at hl 2 rfl) ?_
  refine m_hVi (C := RX5) (k := 0) (rest := [.int (oI 0), .ref (ad 75)]) (As := [.int v1, .int v2]) (hh := [(0, 10, 13, 28), (0, 10, 17, 13)]) hx hb hml hown hts hK hT hNc hH hl hnt cw_L_68 hM ⟨Nat.le_refl _, Nat.le_refl _⟩ ⟨by show 0 + kc ≤ kc; omega, by show 0 + 6 * kc ≤ 6 * kc; omega⟩ rfl (by omega) e0 rfl rfl (Nat.le_of_ble_eq_true rfl) dL_bestMark_5 (fun E s1 hpe => ?_) (fun r s1 H locs hpo1 hH => ?_)
  rotate_left
  refine m_i2I r.toInt (oI_self r).symm ?_
  refine m_i2l hx hb dL_bestMark_8 (oI_rng r) ?_
  refine m_last hx hb hK hH hA (k := 75) (by omega) ((hpo r s1 hpo1).trans e75) 0 rfl (by omega) (by decide) dL_bestMark_9 (fun H locs s2 h75 hq hH => ?_)
  refine lv_goto (tgt := 21) hx hb dL_bestMark_10 (by decide) ?_
  refine m_iconst 0 hx hb dL_bestMark_21 rfl ?_
  exact m_iretL hx hb hlk hrt hH ⟨by omega, by omega⟩ dL_bestMark_22 (Or.inl ⟨rfl, r.toInt, s1, _, oI_rng r, by rw [oI_self]; exact hpo1, h75, va_up_s _ _ _, hq⟩)
  rcases hpx E s1 hpe with rfl | rfl
  · refine ⟨13, ⟨[], ⟨0, 10, 13, 28⟩, [⟨0, 10, 17, 13⟩], rfl, fun z hz => absurd hz List.not_mem_nil, rfl, by decide, oHw_28, rfl, by decide⟩, fun q9 H1 locs1 hH => ?_⟩
    refine lv_astore hx hb dL_bestMark_13 hl (by decide) rfl (fun ls hl => ?_)
    refine m_iconst 1 hx hb dL_bestMark_15 rfl ?_
    exact m_iretL hx hb hlk hrt hH ⟨by omega, by omega⟩ dL_bestMark_16 (Or.inr ⟨_, hpe, by rw [oN1_1]⟩)
  · refine ⟨17, ⟨[⟨0, 10, 13, 28⟩], ⟨0, 10, 17, 13⟩, [], rfl, fun z hz => by rcases List.mem_singleton.mp hz with rfl; exact ⟨by decide, oIO, by decide, by decide, oHw_28⟩, rfl, by decide, oHw_13, rfl, by decide⟩, fun q9 H1 locs1 hH => ?_⟩
    refine lv_astore hx hb dL_bestMark_17 hl (by decide) rfl (fun ls hl => ?_)
    refine m_iconst 2 hx hb dL_bestMark_19 rfl ?_
    exact m_iretL hx hb hlk hrt hH ⟨by omega, by omega⟩ dL_bestMark_20 (Or.inr ⟨_, hpe, rfl⟩)
set_option maxRecDepth 100000 in
theorem hL_needless {l : Launch} {D : va_G} {cT : Nat → ClassId} {N b0 : Nat} {ad : Nat → Nat} (hA : oAd b0 N ad) (hN : 76 ≤ N) {σ : Nat → va_E} {v1 : Int32} {post : Int32 → (Nat → va_E) → Prop} {px : String → (Nat → va_E) → Prop} {FR LO kc : Nat} {fs : List Value} {F : Nat → Int64} (hM : oXi l D cT N ad b0 yX5_needless cX5_needless 9 (some .int) FR LO kc [.ref (ad 0), .int v1] σ post px) (e0 : σ 0 = .inr (5, fs)) (e75 : σ 75 = oAL cT 1 F) (hpo : ∀ (r : Int32) (u : Nat → va_E), post r u → u 75 = σ 75) (hpx : ∀ (E : String) (u : Nat → va_E), px E u → E = oIO) :
    oHi l D cT N ad b0 yL_needless cL_needless 4 [(0, 9, 12, 28)] (FR + 1) (8 + (9 + 11) + LO) kc [.ref (ad 0), .int v1, .ref (ad 75)] σ (oHp cT (oN1 oIO) post px) := by
  refine m_startL (cc := cL_needless) (by decide) (Nat.le_of_ble_eq_true rfl) rfl ?_
  intro Pp Ee Ss Mm Bb Me Cc Ar ls hx hb hml hown hlk hrt hts hK hH hl hT hNc hnt
  have hown : Ss.vm.findClass RL = some Mm.cls := hown
  refine lv_aload_n hx hb dL_needless_0 rfl (lv_at hl 2 rfl) ?_
  refine m_iconst 0 hx hb dL_needless_1 rfl ?_
  refine lv_aload_n hx hb dL_needless_2 rfl (lv_at hl 0 rfl) ?_
  refine lv_iload_n hx hb dL_needless_3 rfl (lv_at hl 1 rfl) ?_
  refine m_hVi (C := RX5) (k := 0) (rest := [.int (oI 0), .ref (ad 75)]) (As := [.int v1]) (hh := [(0, 9, 12, 28)]) hx hb hml hown hts hK hT hNc hH hl hnt cw_L_71 hM ⟨Nat.le_refl _, Nat.le_refl _⟩ ⟨by show 0 + kc ≤ kc; omega, by show 0 + 6 * kc ≤ 6 * kc; omega⟩ rfl (by omega) e0 rfl rfl (Nat.le_of_ble_eq_true rfl) dL_needless_4 (fun E s1 hpe => ?_) (fun r s1 H locs hpo1 hH => ?_)
  rotate_left
  refine m_i2I r.toInt (oI_self r).symm ?_
  refine m_i2l hx hb dL_needless_7 (oI_rng r) ?_
  refine m_last hx hb hK hH hA (k := 75) (by omega) ((hpo r s1 hpo1).trans e75) 0 rfl (by omega) (by decide) dL_needless_8 (fun H locs s2 h75 hq hH => ?_)
  refine lv_goto (tgt := 15) hx hb dL_needless_9 (by decide) ?_
  refine m_iconst 0 hx hb dL_needless_15 rfl ?_
  exact m_iretL hx hb hlk hrt hH ⟨by omega, by omega⟩ dL_needless_16 (Or.inl ⟨rfl, r.toInt, s1, _, oI_rng r, by rw [oI_self]; exact hpo1, h75, va_up_s _ _ _, hq⟩)
  obtain rfl := hpx E s1 hpe
  · refine ⟨12, ⟨[], ⟨0, 9, 12, 28⟩, [], rfl, fun z hz => absurd hz List.not_mem_nil, rfl, by decide, oHw_28, rfl, by decide⟩, fun q9 H1 locs1 hH => ?_⟩
    refine lv_astore_n hx hb dL_needless_12 rfl hl (by decide) rfl (fun ls hl => ?_)
    refine m_iconst 1 hx hb dL_needless_13 rfl ?_
    exact m_iretL hx hb hlk hrt hH ⟨by omega, by omega⟩ dL_needless_14 (Or.inr ⟨_, hpe, by rw [oN1_1]⟩)
set_option maxRecDepth 100000 in
theorem hL_twin {l : Launch} {D : va_G} {cT : Nat → ClassId} {N b0 : Nat} {ad : Nat → Nat} (hA : oAd b0 N ad) (hN : 76 ≤ N) {σ : Nat → va_E} {v1 : Int32} {v2 : Int32} {v3 : Int32} {post : Int32 → (Nat → va_E) → Prop} {px : String → (Nat → va_E) → Prop} {FR LO kc : Nat} {fs : List Value} {F : Nat → Int64} (hM : oXi l D cT N ad b0 yX5_twin cX5_twin 11 (some .int) FR LO kc [.ref (ad 0), .int v1, .int v2, .int v3] σ post px) (e0 : σ 0 = .inr (5, fs)) (e75 : σ 75 = oAL cT 1 F) (hpo : ∀ (r : Int32) (u : Nat → va_E), post r u → u 75 = σ 75) (hpx : ∀ (E : String) (u : Nat → va_E), px E u → E = oIO) :
    oHi l D cT N ad b0 yL_twin cL_twin 6 [(0, 12, 15, 28)] (FR + 1) (8 + (11 + 11) + LO) kc [.ref (ad 0), .int v1, .int v2, .int v3, .ref (ad 75)] σ (oHp cT (oN1 oIO) post px) := by
  refine m_startL (cc := cL_twin) (by decide) (Nat.le_of_ble_eq_true rfl) rfl ?_
  intro Pp Ee Ss Mm Bb Me Cc Ar ls hx hb hml hown hlk hrt hts hK hH hl hT hNc hnt
  have hown : Ss.vm.findClass RL = some Mm.cls := hown
  refine lv_aload hx hb dL_twin_0 (lv_at hl 4 rfl) ?_
  refine m_iconst 0 hx hb dL_twin_2 rfl ?_
  refine lv_aload_n hx hb dL_twin_3 rfl (lv_at hl 0 rfl) ?_
  refine lv_iload_n hx hb dL_twin_4 rfl (lv_at hl 1 rfl) ?_
  refine lv_iload_n hx hb dL_twin_5 rfl (lv_at hl 2 rfl) ?_
  refine lv_iload_n hx hb dL_twin_6 rfl (lv_at hl 3 rfl) ?_
  refine m_hVi (C := RX5) (k := 0) (rest := [.int (oI 0), .ref (ad 75)]) (As := [.int v1, .int v2, .int v3]) (hh := [(0, 12, 15, 28)]) hx hb hml hown hts hK hT hNc hH hl hnt cw_L_74 hM ⟨Nat.le_refl _, Nat.le_refl _⟩ ⟨by show 0 + kc ≤ kc; omega, by show 0 + 6 * kc ≤ 6 * kc; omega⟩ rfl (by omega) e0 rfl rfl (Nat.le_of_ble_eq_true rfl) dL_twin_7 (fun E s1 hpe => ?_) (fun r s1 H locs hpo1 hH => ?_)
  rotate_left
  refine m_i2I r.toInt (oI_self r).symm ?_
  refine m_i2l hx hb dL_twin_10 (oI_rng r) ?_
  refine m_last hx hb hK hH hA (k := 75) (by omega) ((hpo r s1 hpo1).trans e75) 0 rfl (by omega) (by decide) dL_twin_11 (fun H locs s2 h75 hq hH => ?_)
  refine lv_goto (tgt := 19) hx hb dL_twin_12 (by decide) ?_
  refine m_iconst 0 hx hb dL_twin_19 rfl ?_
  exact m_iretL hx hb hlk hrt hH ⟨by omega, by omega⟩ dL_twin_20 (Or.inl ⟨rfl, r.toInt, s1, _, oI_rng r, by rw [oI_self]; exact hpo1, h75, va_up_s _ _ _, hq⟩)
  obtain rfl := hpx E s1 hpe
  · refine ⟨15, ⟨[], ⟨0, 12, 15, 28⟩, [], rfl, fun z hz => absurd hz List.not_mem_nil, rfl, by decide, oHw_28, rfl, by decide⟩, fun q9 H1 locs1 hH => ?_⟩
    refine lv_astore hx hb dL_twin_15 hl (by decide) rfl (fun ls hl => ?_)
    refine m_iconst 1 hx hb dL_twin_17 rfl ?_
    exact m_iretL hx hb hlk hrt hH ⟨by omega, by omega⟩ dL_twin_18 (Or.inr ⟨_, hpe, by rw [oN1_1]⟩)
set_option maxRecDepth 100000 in
theorem hL_runScript {l : Launch} {D : va_G} {cT : Nat → ClassId} {N b0 : Nat} {ad : Nat → Nat} (hA : oAd b0 N ad) (hN : 76 ≤ N) {σ : Nat → va_E} {v1 : Int32} {v2 : Int64} {post : Int32 → (Nat → va_E) → Prop} {px : String → (Nat → va_E) → Prop} {FR LO kc : Nat} {fs : List Value} {F : Nat → Int64} (hM : oXi l D cT N ad b0 yX5_runScript cX5_runScript 7 (some .int) FR LO kc [.ref (ad 0), .int v1, .long v2] σ post px) (e0 : σ 0 = .inr (5, fs)) (e75 : σ 75 = oAL cT 1 F) (hpo : ∀ (r : Int32) (u : Nat → va_E), post r u → u 75 = σ 75) (hpx : ∀ (E : String) (u : Nat → va_E), px E u → E = oIA) :
    oHi l D cT N ad b0 yL_runScript cL_runScript 6 [(0, 11, 14, 13)] (FR + 1) (8 + (7 + 11) + LO) kc [.ref (ad 0), .int v1, .long v2, .ref (ad 75)] σ (oHp cT (oN1 oIA) post px) := by
  refine m_startL (cc := cL_runScript) (by decide) (Nat.le_of_ble_eq_true rfl) rfl ?_
  intro Pp Ee Ss Mm Bb Me Cc Ar ls hx hb hml hown hlk hrt hts hK hH hl hT hNc hnt
  have hown : Ss.vm.findClass RL = some Mm.cls := hown
  refine lv_aload hx hb dL_runScript_0 (lv_at hl 3 rfl) ?_
  refine m_iconst 0 hx hb dL_runScript_2 rfl ?_
  refine lv_aload_n hx hb dL_runScript_3 rfl (lv_at hl 0 rfl) ?_
  refine lv_iload_n hx hb dL_runScript_4 rfl (lv_at hl 1 rfl) ?_
  refine lv_lload_n hx hb dL_runScript_5 rfl (lv_at hl 2 rfl) ?_
  refine m_hVi (C := RX5) (k := 0) (rest := [.int (oI 0), .ref (ad 75)]) (As := [.int v1, .long v2]) (hh := [(0, 11, 14, 13)]) hx hb hml hown hts hK hT hNc hH hl hnt cw_L_77 hM ⟨Nat.le_refl _, Nat.le_refl _⟩ ⟨by show 0 + kc ≤ kc; omega, by show 0 + 6 * kc ≤ 6 * kc; omega⟩ rfl (by omega) e0 rfl rfl (Nat.le_of_ble_eq_true rfl) dL_runScript_6 (fun E s1 hpe => ?_) (fun r s1 H locs hpo1 hH => ?_)
  rotate_left
  refine m_i2I r.toInt (oI_self r).symm ?_
  refine m_i2l hx hb dL_runScript_9 (oI_rng r) ?_
  refine m_last hx hb hK hH hA (k := 75) (by omega) ((hpo r s1 hpo1).trans e75) 0 rfl (by omega) (by decide) dL_runScript_10 (fun H locs s2 h75 hq hH => ?_)
  refine lv_goto (tgt := 18) hx hb dL_runScript_11 (by decide) ?_
  refine m_iconst 0 hx hb dL_runScript_18 rfl ?_
  exact m_iretL hx hb hlk hrt hH ⟨by omega, by omega⟩ dL_runScript_19 (Or.inl ⟨rfl, r.toInt, s1, _, oI_rng r, by rw [oI_self]; exact hpo1, h75, va_up_s _ _ _, hq⟩)
  obtain rfl := hpx E s1 hpe
  · refine ⟨14, ⟨[], ⟨0, 11, 14, 13⟩, [], rfl, fun z hz => absurd hz List.not_mem_nil, rfl, by decide, oHw_13, rfl, by decide⟩, fun q9 H1 locs1 hH => ?_⟩
    refine lv_astore hx hb dL_runScript_14 hl (by decide) rfl (fun ls hl => ?_)
    refine m_iconst 1 hx hb dL_runScript_16 rfl ?_
    exact m_iretL hx hb hlk hrt hH ⟨by omega, by omega⟩ dL_runScript_17 (Or.inr ⟨_, hpe, by rw [oN1_1]⟩)
set_option maxRecDepth 100000 in
theorem hL_simulate {l : Launch} {D : va_G} {cT : Nat → ClassId} {N b0 : Nat} {ad : Nat → Nat} (hA : oAd b0 N ad) (hN : 76 ≤ N) {σ : Nat → va_E} {v1 : Int64} {v2 : Int32} {post : Int32 → (Nat → va_E) → Prop} {px : String → (Nat → va_E) → Prop} {FR LO kc : Nat} {fs : List Value} {F : Nat → Int64} (hM : oXi l D cT N ad b0 yX5_simulate cX5_simulate 7 (some .int) FR LO kc [.ref (ad 0), .long v1, .int v2] σ post px) (e0 : σ 0 = .inr (5, fs)) (e75 : σ 75 = oAL cT 1 F) (hpo : ∀ (r : Int32) (u : Nat → va_E), post r u → u 75 = σ 75) (hpx : ∀ (E : String) (u : Nat → va_E), px E u → E = oIA) :
    oHi l D cT N ad b0 yL_simulate cL_simulate 6 [(0, 11, 14, 13)] (FR + 1) (8 + (7 + 11) + LO) kc [.ref (ad 0), .long v1, .int v2, .ref (ad 75)] σ (oHp cT (oN1 oIA) post px) := by
  refine m_startL (cc := cL_simulate) (by decide) (Nat.le_of_ble_eq_true rfl) rfl ?_
  intro Pp Ee Ss Mm Bb Me Cc Ar ls hx hb hml hown hlk hrt hts hK hH hl hT hNc hnt
  have hown : Ss.vm.findClass RL = some Mm.cls := hown
  refine lv_aload hx hb dL_simulate_0 (lv_at hl 3 rfl) ?_
  refine m_iconst 0 hx hb dL_simulate_2 rfl ?_
  refine lv_aload_n hx hb dL_simulate_3 rfl (lv_at hl 0 rfl) ?_
  refine lv_lload_n hx hb dL_simulate_4 rfl (lv_at hl 1 rfl) ?_
  refine lv_iload_n hx hb dL_simulate_5 rfl (lv_at hl 2 rfl) ?_
  refine m_hVi (C := RX5) (k := 0) (rest := [.int (oI 0), .ref (ad 75)]) (As := [.long v1, .int v2]) (hh := [(0, 11, 14, 13)]) hx hb hml hown hts hK hT hNc hH hl hnt cw_L_81 hM ⟨Nat.le_refl _, Nat.le_refl _⟩ ⟨by show 0 + kc ≤ kc; omega, by show 0 + 6 * kc ≤ 6 * kc; omega⟩ rfl (by omega) e0 rfl rfl (Nat.le_of_ble_eq_true rfl) dL_simulate_6 (fun E s1 hpe => ?_) (fun r s1 H locs hpo1 hH => ?_)
  rotate_left
  refine m_i2I r.toInt (oI_self r).symm ?_
  refine m_i2l hx hb dL_simulate_9 (oI_rng r) ?_
  refine m_last hx hb hK hH hA (k := 75) (by omega) ((hpo r s1 hpo1).trans e75) 0 rfl (by omega) (by decide) dL_simulate_10 (fun H locs s2 h75 hq hH => ?_)
  refine lv_goto (tgt := 18) hx hb dL_simulate_11 (by decide) ?_
  refine m_iconst 0 hx hb dL_simulate_18 rfl ?_
  exact m_iretL hx hb hlk hrt hH ⟨by omega, by omega⟩ dL_simulate_19 (Or.inl ⟨rfl, r.toInt, s1, _, oI_rng r, by rw [oI_self]; exact hpo1, h75, va_up_s _ _ _, hq⟩)
  obtain rfl := hpx E s1 hpe
  · refine ⟨14, ⟨[], ⟨0, 11, 14, 13⟩, [], rfl, fun z hz => absurd hz List.not_mem_nil, rfl, by decide, oHw_13, rfl, by decide⟩, fun q9 H1 locs1 hH => ?_⟩
    refine lv_astore hx hb dL_simulate_14 hl (by decide) rfl (fun ls hl => ?_)
    refine m_iconst 1 hx hb dL_simulate_16 rfl ?_
    exact m_iretL hx hb hlk hrt hH ⟨by omega, by omega⟩ dL_simulate_17 (Or.inr ⟨_, hpe, by rw [oN1_1]⟩)
set_option maxRecDepth 100000 in
theorem hL_save {l : Launch} {D : va_G} {cT : Nat → ClassId} {N b0 : Nat} {ad : Nat → Nat} (hA : oAd b0 N ad) (hN : 76 ≤ N) {σ : Nat → va_E} {v1 : Int32} {post : Int32 → (Nat → va_E) → Prop} {px : String → (Nat → va_E) → Prop} {FR LO kc : Nat} {fs : List Value} {F : Nat → Int64} (hM : oXi l D cT N ad b0 yX5_save cX5_save 2 (some .int) FR LO kc [.ref (ad 0), .int v1] σ post px) (e0 : σ 0 = .inr (5, fs)) (e75 : σ 75 = oAL cT 1 F) (hpo : ∀ (r : Int32) (u : Nat → va_E), post r u → u 75 = σ 75) (hpx : ∀ (E : String) (u : Nat → va_E), px E u → E = oIO) :
    oHi l D cT N ad b0 yL_save cL_save 4 [(0, 9, 12, 28)] (FR + 1) (8 + (2 + 11) + LO) kc [.ref (ad 0), .int v1, .ref (ad 75)] σ (oHp cT (oN1 oIO) post px) := by
  refine m_startL (cc := cL_save) (by decide) (Nat.le_of_ble_eq_true rfl) rfl ?_
  intro Pp Ee Ss Mm Bb Me Cc Ar ls hx hb hml hown hlk hrt hts hK hH hl hT hNc hnt
  have hown : Ss.vm.findClass RL = some Mm.cls := hown
  refine lv_aload_n hx hb dL_save_0 rfl (lv_at hl 2 rfl) ?_
  refine m_iconst 0 hx hb dL_save_1 rfl ?_
  refine lv_aload_n hx hb dL_save_2 rfl (lv_at hl 0 rfl) ?_
  refine lv_iload_n hx hb dL_save_3 rfl (lv_at hl 1 rfl) ?_
  refine m_hVi (C := RX5) (k := 0) (rest := [.int (oI 0), .ref (ad 75)]) (As := [.int v1]) (hh := [(0, 9, 12, 28)]) hx hb hml hown hts hK hT hNc hH hl hnt cw_L_85 hM ⟨Nat.le_refl _, Nat.le_refl _⟩ ⟨by show 0 + kc ≤ kc; omega, by show 0 + 6 * kc ≤ 6 * kc; omega⟩ rfl (by omega) e0 rfl rfl (Nat.le_of_ble_eq_true rfl) dL_save_4 (fun E s1 hpe => ?_) (fun r s1 H locs hpo1 hH => ?_)
  rotate_left
  refine m_i2I r.toInt (oI_self r).symm ?_
  refine m_i2l hx hb dL_save_7 (oI_rng r) ?_
  refine m_last hx hb hK hH hA (k := 75) (by omega) ((hpo r s1 hpo1).trans e75) 0 rfl (by omega) (by decide) dL_save_8 (fun H locs s2 h75 hq hH => ?_)
  refine lv_goto (tgt := 15) hx hb dL_save_9 (by decide) ?_
  refine m_iconst 0 hx hb dL_save_15 rfl ?_
  exact m_iretL hx hb hlk hrt hH ⟨by omega, by omega⟩ dL_save_16 (Or.inl ⟨rfl, r.toInt, s1, _, oI_rng r, by rw [oI_self]; exact hpo1, h75, va_up_s _ _ _, hq⟩)
  obtain rfl := hpx E s1 hpe
  · refine ⟨12, ⟨[], ⟨0, 9, 12, 28⟩, [], rfl, fun z hz => absurd hz List.not_mem_nil, rfl, by decide, oHw_28, rfl, by decide⟩, fun q9 H1 locs1 hH => ?_⟩
    refine lv_astore_n hx hb dL_save_12 rfl hl (by decide) rfl (fun ls hl => ?_)
    refine m_iconst 1 hx hb dL_save_13 rfl ?_
    exact m_iretL hx hb hlk hrt hH ⟨by omega, by omega⟩ dL_save_14 (Or.inr ⟨_, hpe, by rw [oN1_1]⟩)
set_option maxRecDepth 100000 in
theorem hL_restore {l : Launch} {D : va_G} {cT : Nat → ClassId} {N b0 : Nat} {ad : Nat → Nat} (hA : oAd b0 N ad) (hN : 76 ≤ N) {σ : Nat → va_E} {v1 : Int32} {post : Int32 → (Nat → va_E) → Prop} {px : String → (Nat → va_E) → Prop} {FR LO kc : Nat} {fs : List Value} {F : Nat → Int64} (hM : oXi l D cT N ad b0 yX5_restore cX5_restore 2 (some .int) FR LO kc [.ref (ad 0), .int v1] σ post px) (e0 : σ 0 = .inr (5, fs)) (e75 : σ 75 = oAL cT 1 F) (hpo : ∀ (r : Int32) (u : Nat → va_E), post r u → u 75 = σ 75) (hpx : ∀ (E : String) (u : Nat → va_E), px E u → E = oIO ∨ E = oIS) :
    oHi l D cT N ad b0 yL_restore cL_restore 4 [(0, 9, 12, 28), (0, 9, 15, 15)] (FR + 1) (8 + (2 + 11) + LO) kc [.ref (ad 0), .int v1, .ref (ad 75)] σ (oHp cT (oN1 oIO) post px) := by
  refine m_startL (cc := cL_restore) (by decide) (Nat.le_of_ble_eq_true rfl) rfl ?_
  intro Pp Ee Ss Mm Bb Me Cc Ar ls hx hb hml hown hlk hrt hts hK hH hl hT hNc hnt
  have hown : Ss.vm.findClass RL = some Mm.cls := hown
  refine lv_aload_n hx hb dL_restore_0 rfl (lv_at hl 2 rfl) ?_
  refine m_iconst 0 hx hb dL_restore_1 rfl ?_
  refine lv_aload_n hx hb dL_restore_2 rfl (lv_at hl 0 rfl) ?_
  refine lv_iload_n hx hb dL_restore_3 rfl (lv_at hl 1 rfl) ?_
  refine m_hVi (C := RX5) (k := 0) (rest := [.int (oI 0), .ref (ad 75)]) (As := [.int v1]) (hh := [(0, 9, 12, 28), (0, 9, 15, 15)]) hx hb hml hown hts hK hT hNc hH hl hnt cw_L_88 hM ⟨Nat.le_refl _, Nat.le_refl _⟩ ⟨by show 0 + kc ≤ kc; omega, by show 0 + 6 * kc ≤ 6 * kc; omega⟩ rfl (by omega) e0 rfl rfl (Nat.le_of_ble_eq_true rfl) dL_restore_4 (fun E s1 hpe => ?_) (fun r s1 H locs hpo1 hH => ?_)
  rotate_left
  refine m_i2I r.toInt (oI_self r).symm ?_
  refine m_i2l hx hb dL_restore_7 (oI_rng r) ?_
  refine m_last hx hb hK hH hA (k := 75) (by omega) ((hpo r s1 hpo1).trans e75) 0 rfl (by omega) (by decide) dL_restore_8 (fun H locs s2 h75 hq hH => ?_)
  refine lv_goto (tgt := 18) hx hb dL_restore_9 (by decide) ?_
  refine m_iconst 0 hx hb dL_restore_18 rfl ?_
  exact m_iretL hx hb hlk hrt hH ⟨by omega, by omega⟩ dL_restore_19 (Or.inl ⟨rfl, r.toInt, s1, _, oI_rng r, by rw [oI_self]; exact hpo1, h75, va_up_s _ _ _, hq⟩)
  rcases hpx E s1 hpe with rfl | rfl
  · refine ⟨12, ⟨[], ⟨0, 9, 12, 28⟩, [⟨0, 9, 15, 15⟩], rfl, fun z hz => absurd hz List.not_mem_nil, rfl, by decide, oHw_28, rfl, by decide⟩, fun q9 H1 locs1 hH => ?_⟩
    refine lv_astore_n hx hb dL_restore_12 rfl hl (by decide) rfl (fun ls hl => ?_)
    refine m_iconst 1 hx hb dL_restore_13 rfl ?_
    exact m_iretL hx hb hlk hrt hH ⟨by omega, by omega⟩ dL_restore_14 (Or.inr ⟨_, hpe, by rw [oN1_1]⟩)
  · refine ⟨15, ⟨[⟨0, 9, 12, 28⟩], ⟨0, 9, 15, 15⟩, [], rfl, fun z hz => by rcases List.mem_singleton.mp hz with rfl; exact ⟨by decide, oIO, by decide, by decide, oHw_28⟩, rfl, by decide, oHw_15, rfl, by decide⟩, fun q9 H1 locs1 hH => ?_⟩
    refine lv_astore_n hx hb dL_restore_15 rfl hl (by decide) rfl (fun ls hl => ?_)
    refine m_iconst 2 hx hb dL_restore_16 rfl ?_
    exact m_iretL hx hb hlk hrt hH ⟨by omega, by omega⟩ dL_restore_17 (Or.inr ⟨_, hpe, rfl⟩)
