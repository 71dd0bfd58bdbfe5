def oS0 (cT : Nat → ClassId) (ad : Nat → Nat) (σ : Nat → va_E) (j : Nat) : Prop := σ j = .inr (4, [.ref (ad (j + 1)), .ref (ad (j + 2)), .int (oI 0), .int (oI 2), .int (oI 40)]) ∧ σ (j + 1) = oAN cT 4 (fun _ => 0) ∧ σ (j + 2) = oAJ cT 4 (fun _ => 0)
theorem oS0.mv {cT : Nat → ClassId} {ad ad1 : Nat → Nat} {σ σ1 : Nat → va_E} {j M : Nat} (h : oS0 cT ad σ j) (hg : ∀ i : Nat, i < M → ad1 i = ad i) (hs : ∀ i : Nat, 1 ≤ i → i < M → σ1 i = σ i) (hj : 1 ≤ j ∧ j + 2 < M) : oS0 cT ad1 σ1 j :=
  ⟨by rw [hs j (by omega) (by omega), h.1, hg (j + 1) (by omega), hg (j + 2) (by omega)], by rw [hs (j + 1) (by omega) (by omega)]; exact h.2.1, by rw [hs (j + 2) (by omega) (by omega)]; exact h.2.2⟩
set_option maxHeartbeats 4000000 in
set_option maxRecDepth 100000 in
theorem c4_init {l : Launch} {D : va_G} {cT : Nat → ClassId} {b0 : Nat} {ad : Nat → Nat} {j : Nat} (hA : oAd b0 (j + 1) ad) {σ : Nat → va_E} (e0 : σ (j) = .inr (4, [.null, .null, .int (oI 0), .int (oI 0), .int (oI 0)])) :
    oCn l D cT (j + 1) ad b0 yX4_init cX4_init 1 1 60 2 8 [.ref (ad (j))] σ (fun u => oGx (j + 1) ad u.1 ∧ (∀ i : Nat, i < j → u.2 i = σ i) ∧ oS0 cT u.1 u.2 j) := by
  refine m_startN (cc := cX4_init) (by decide) (Nat.le_of_ble_eq_true rfl) rfl ?_
  intro Pp Ee Ss Mm Bb Me Cc Ar ls hx hb hml hown hlk hrt hts hK hH hl hmi hAO
  have hown : Ss.vm.findClass RX4 = some Mm.cls := hown
  obtain ⟨h, hh⟩ : ∃ h : Nat, ad (j) = h := ⟨_, rfl⟩
  rw [hh] at hl
  have hgT : oGx (j + 1) ad ad := fun _ _ => rfl
  have hsT : ∀ i : Nat, i < j → σ i = σ i := fun _ _ => rfl
  refine lv_aload_n hx hb dX4_init_0 rfl (lv_at hl 0 rfl) ?_
  refine W.objInit hx hb hown (hts _ (o_in0 (List.mem_of_getElem? (i := 40) (by decide +kernel)))) (hts _ (o_in0 (List.mem_of_getElem? (i := 12) (by decide +kernel)))) (hts _ (o_in0 (List.mem_of_getElem? (i := 13) (by decide +kernel)))) rfl (by rw [hml]; exact hl.1) rfl dX4_init_1 (Nat.le_of_ble_eq_true rfl) (Nat.le_of_ble_eq_true rfl) ?_
  refine W.eq (g2 := F0 Mm 4 ls []) rfl ?_
  refine lv_aload_n hx hb dX4_init_4 rfl (lv_at hl 0 rfl) ?_
  refine m_iconst 4 hx hb dX4_init_5 rfl ?_
  refine m_newA (atype := .int) (ty := .int) 0 (n := 4) (a1 := (4, .inl (fun _ => oI 0))) hx hb hts rfl rfl (o_in0 (List.mem_of_getElem? (i := 41) (by decide +kernel))) hK hH hA (fun _ => rfl) (by decide) (by decide) (Nat.le_of_ble_eq_true rfl) (Nat.le_of_ble_eq_true rfl) (Nat.le_of_ble_eq_true rfl) dX4_init_6 (fun H ad1 s1 hg hs hn hA hH => ?_)
  have hh : ad1 (j) = h := (hg _ (by omega)).trans hh
  have hgT : oGx (j + 1) ad ad1 := fun q hq => (hg q (by omega)).trans (hgT q hq)
  have hsT : ∀ i : Nat, i < j → s1 i = σ i := fun q hq => (hs q (by omega)).trans (hsT q hq)
  have e0 : s1 (j) = .inr (4, [.null, .null, .int (oI 0), .int (oI 0), .int (oI 0)]) := by rw [hs _ (by omega), e0]
  have k1 : s1 (j + 1) = oAI cT 4 (fun _ => 0) := hn
  rw [← hh]
  refine pf_X4_sizes hx hb hts hown hK hH hA hmi (k := j) (by omega) e0 dX4_init_8 (fun H locs s2 e0 hq hH => ?_)
  have hsT : ∀ i : Nat, i < j → s2 i = σ i := fun q hx => (hq q (by omega)).trans (hsT q hx)
  have k1 : s2 (j + 1) = oAI cT 4 (fun _ => 0) := (hq _ (by omega)).trans k1
  refine lv_aload_n hx hb dX4_init_11 rfl (lv_at hl 0 rfl) ?_
  refine m_iconst 4 hx hb dX4_init_12 rfl ?_
  refine m_newA (atype := .long) (ty := .long) 1 (n := 4) (a1 := (4, .inr (.inl (fun _ => lN 0)))) hx hb hts rfl rfl (o_in0 (List.mem_of_getElem? (i := 6) (by decide +kernel))) hK hH hA (fun _ => rfl) (by decide) (by decide) (Nat.le_of_ble_eq_true rfl) (Nat.le_of_ble_eq_true rfl) (Nat.le_of_ble_eq_true rfl) dX4_init_13 (fun H ad3 s3 hg hs hn hA hH => ?_)
  have hh : ad3 (j) = h := (hg _ (by omega)).trans hh
  have hgT : oGx (j + 1) ad ad3 := fun q hq => (hg q (by omega)).trans (hgT q hq)
  have hsT : ∀ i : Nat, i < j → s3 i = σ i := fun q hq => (hs q (by omega)).trans (hsT q hq)
  have e0 : s3 (j) = .inr (4, [.ref (ad3 (j + 1)), .null, .int (oI 0), .int (oI 0), .int (oI 0)]) := by rw [hs _ (by omega), e0, hg (j + 1) (by omega)]
  have k1 : s3 (j + 1) = oAI cT 4 (fun _ => 0) := (hs _ (by omega)).trans k1
  have k2 : s3 (j + 2) = oAJ cT 4 (fun _ => 0) := hn
  rw [← hh]
  refine pf_X4_rows hx hb hts hown hK hH hA hmi (k := j) (by omega) e0 dX4_init_15 (fun H locs s4 e0 hq hH => ?_)
  have hsT : ∀ i : Nat, i < j → s4 i = σ i := fun q hx => (hq q (by omega)).trans (hsT q hx)
  have k1 : s4 (j + 1) = oAI cT 4 (fun _ => 0) := (hq _ (by omega)).trans k1
  have k2 : s4 (j + 2) = oAJ cT 4 (fun _ => 0) := (hq _ (by omega)).trans k2
  refine lv_aload_n hx hb dX4_init_18 rfl (lv_at hl 0 rfl) ?_
  rw [← hh]
  refine m_callVv hx hb hml hown hts hK hH hl (rest := []) cw_X4_19 (c4_begin hA j 0 0 0 (fun _ => 0) (fun _ => 0) (by omega) e0) ⟨Nat.le_of_ble_eq_true rfl, Nat.le_of_ble_eq_true rfl⟩ ⟨Nat.le_of_ble_eq_true rfl, Nat.le_of_ble_eq_true rfl⟩ rfl (k := j) (by omega) e0 rfl rfl (Nat.le_of_ble_eq_true rfl) dX4_init_19 (fun s9 H locs hp hH => ?_)
  obtain ⟨e0, hq⟩ := hp
  exact m_vretN (N0 := j + 1) (k := 2) hx hb hlk hrt hA hH ⟨Nat.le_of_ble_eq_true rfl, Nat.le_of_ble_eq_true rfl⟩ dX4_init_22 ⟨hgT, fun q h => (hq q (by omega)).trans (hsT q h), e0, (hq _ (by omega)).trans k1, (hq _ (by omega)).trans k2⟩
set_option maxHeartbeats 4000000 in
set_option maxRecDepth 100000 in
theorem c0_init {l : Launch} {D : va_G} {cT : Nat → ClassId} {b0 : Nat} {ad : Nat → Nat} {j : Nat} (hA : oAd b0 (j + 1) ad) {σ : Nat → va_E} (e0 : σ (j) = .inr (0, [.null, .int (oI 0), .int (oI 0), .int (oI 0), .int (oI 0), .int (oI 0), .int (oI 0), .int (oI 0)])) :
    oCn l D cT (j + 1) ad b0 yX0_init cX0_init 1 1 60 1 120 [.ref (ad (j))] σ (fun u => oGx (j + 1) ad u.1 ∧ (∀ i : Nat, i < j → u.2 i = σ i) ∧ u.2 j = .inr (0, [.ref (u.1 (j + 1)), .int (oI 0), .int (oI 0), .int (oI 0), .int (oI 0), .int (oI 0), .int (oI 0), .int (oI 0)]) ∧ u.2 (j + 1) = oAC cT 120 (fun _ => 0)) := by
  refine m_startN (cc := cX0_init) (by decide) (Nat.le_of_ble_eq_true rfl) rfl ?_
  intro Pp Ee Ss Mm Bb Me Cc Ar ls hx hb hml hown hlk hrt hts hK hH hl hmi hAO
  have hown : Ss.vm.findClass RX0 = some Mm.cls := hown
  obtain ⟨h, hh⟩ : ∃ h : Nat, ad (j) = h := ⟨_, rfl⟩
  rw [hh] at hl
  have hgT : oGx (j + 1) ad ad := fun _ _ => rfl
  have hsT : ∀ i : Nat, i < j → σ i = σ i := fun _ _ => rfl
  refine lv_aload_n hx hb dX0_init_0 rfl (lv_at hl 0 rfl) ?_
  refine W.objInit hx hb hown (hts _ (o_in0 (List.mem_of_getElem? (i := 60) (by decide +kernel)))) (hts _ (o_in0 (List.mem_of_getElem? (i := 12) (by decide +kernel)))) (hts _ (o_in0 (List.mem_of_getElem? (i := 13) (by decide +kernel)))) rfl (by rw [hml]; exact hl.1) rfl dX0_init_1 (Nat.le_of_ble_eq_true rfl) (Nat.le_of_ble_eq_true rfl) ?_
  refine W.eq (g2 := F0 Mm 4 ls []) rfl ?_
  refine lv_aload_n hx hb dX0_init_4 rfl (lv_at hl 0 rfl) ?_
  refine m_bipush 120 hx hb dX0_init_5 (by decide) ?_
  refine m_newA (atype := .char) (ty := .char) 2 (n := 120) (a1 := (120, .inl (fun _ => oI 0))) hx hb hts rfl rfl (o_in0 (List.mem_of_getElem? (i := 61) (by decide +kernel))) hK hH hA (fun _ => rfl) (by decide) (by decide) (Nat.le_of_ble_eq_true rfl) (Nat.le_of_ble_eq_true rfl) (Nat.le_of_ble_eq_true rfl) dX0_init_7 (fun H ad1 s1 hg hs hn hA hH => ?_)
  have hh : ad1 (j) = h := (hg _ (by omega)).trans hh
  have hgT : oGx (j + 1) ad ad1 := fun q hq => (hg q (by omega)).trans (hgT q hq)
  have hsT : ∀ i : Nat, i < j → s1 i = σ i := fun q hq => (hs q (by omega)).trans (hsT q hq)
  have e0 : s1 (j) = .inr (0, [.null, .int (oI 0), .int (oI 0), .int (oI 0), .int (oI 0), .int (oI 0), .int (oI 0), .int (oI 0)]) := by rw [hs _ (by omega), e0]
  have k1 : s1 (j + 1) = oAC cT 120 (fun _ => 0) := hn
  rw [← hh]
  refine pf_X0_signs hx hb hts hown hK hH hA hmi (k := j) (by omega) e0 dX0_init_9 (fun H locs s2 e0 hq hH => ?_)
  have hsT : ∀ i : Nat, i < j → s2 i = σ i := fun q hx => (hq q (by omega)).trans (hsT q hx)
  have k1 : s2 (j + 1) = oAC cT 120 (fun _ => 0) := (hq _ (by omega)).trans k1
  exact m_vretN (N0 := j + 1) (k := 1) hx hb hlk hrt hA hH ⟨Nat.le_of_ble_eq_true rfl, Nat.le_of_ble_eq_true rfl⟩ dX0_init_12 ⟨hgT, hsT, e0, k1⟩
set_option maxHeartbeats 4000000 in
set_option maxRecDepth 100000 in
theorem c1_init {l : Launch} {D : va_G} {cT : Nat → ClassId} {b0 : Nat} {ad : Nat → Nat} {j : Nat} (hA : oAd b0 (j + 1) ad) {σ : Nat → va_E} (e0 : σ (j) = .inr (1, [.int (oI 0), .int (oI 0), .int (oI 0), .int (oI 0)])) :
    oCn l D cT (j + 1) ad b0 yX1_init cX1_init 1 1 60 0 0 [.ref (ad (j))] σ (fun u => oGx (j + 1) ad u.1 ∧ (∀ i : Nat, i < j → u.2 i = σ i) ∧ u.2 j = .inr (1, [.int (oI 0), .int (oI 0), .int (oI 0), .int (oI 0)])) := by
  refine m_startN (cc := cX1_init) (by decide) (Nat.le_of_ble_eq_true rfl) rfl ?_
  intro Pp Ee Ss Mm Bb Me Cc Ar ls hx hb hml hown hlk hrt hts hK hH hl hmi hAO
  have hown : Ss.vm.findClass RX1 = some Mm.cls := hown
  obtain ⟨h, hh⟩ : ∃ h : Nat, ad (j) = h := ⟨_, rfl⟩
  rw [hh] at hl
  have hgT : oGx (j + 1) ad ad := fun _ _ => rfl
  have hsT : ∀ i : Nat, i < j → σ i = σ i := fun _ _ => rfl
  refine lv_aload_n hx hb dX1_init_0 rfl (lv_at hl 0 rfl) ?_
  refine W.objInit hx hb hown (hts _ (o_in0 (List.mem_of_getElem? (i := 72) (by decide +kernel)))) (hts _ (o_in0 (List.mem_of_getElem? (i := 12) (by decide +kernel)))) (hts _ (o_in0 (List.mem_of_getElem? (i := 13) (by decide +kernel)))) rfl (by rw [hml]; exact hl.1) rfl dX1_init_1 (Nat.le_of_ble_eq_true rfl) (Nat.le_of_ble_eq_true rfl) ?_
  refine W.eq (g2 := F0 Mm 4 ls []) rfl ?_
  exact m_vretN (N0 := j + 1) (k := 0) hx hb hlk hrt hA hH ⟨Nat.le_of_ble_eq_true rfl, Nat.le_of_ble_eq_true rfl⟩ dX1_init_4 ⟨hgT, hsT, e0⟩
set_option maxHeartbeats 4000000 in
set_option maxRecDepth 100000 in
theorem c3_init {l : Launch} {D : va_G} {cT : Nat → ClassId} {b0 : Nat} {ad : Nat → Nat} {j : Nat} (hA : oAd b0 (j + 1) ad) {σ : Nat → va_E} (e0 : σ (j) = .inr (3, [.null, .null, .int (oI 0), .null, .null])) :
    oCn l D cT (j + 1) ad b0 yX3_init cX3_init 1 1 60 4 410 [.ref (ad (j))] σ (fun u => oGx (j + 1) ad u.1 ∧ (∀ i : Nat, i < j → u.2 i = σ i) ∧ u.2 j = .inr (3, [.ref (u.1 (j + 1)), .ref (u.1 (j + 2)), .int (oI 0), .ref (u.1 (j + 3)), .ref (u.1 (j + 4))]) ∧ u.2 (j + 1) = oAI cT 201 (fun _ => 0) ∧ u.2 (j + 2) = oAI cT 201 (fun _ => 0) ∧ u.2 (j + 3) = oAJ cT 4 (fun _ => 0) ∧ u.2 (j + 4) = oAJ cT 4 (fun _ => 0)) := by
  refine m_startN (cc := cX3_init) (by decide) (Nat.le_of_ble_eq_true rfl) rfl ?_
  intro Pp Ee Ss Mm Bb Me Cc Ar ls hx hb hml hown hlk hrt hts hK hH hl hmi hAO
  have hown : Ss.vm.findClass RX3 = some Mm.cls := hown
  obtain ⟨h, hh⟩ : ∃ h : Nat, ad (j) = h := ⟨_, rfl⟩
  rw [hh] at hl
  have hgT : oGx (j + 1) ad ad := fun _ _ => rfl
  have hsT : ∀ i : Nat, i < j → σ i = σ i := fun _ _ => rfl
  refine lv_aload_n hx hb dX3_init_0 rfl (lv_at hl 0 rfl) ?_
  refine W.objInit hx hb hown (hts _ (o_in0 (List.mem_of_getElem? (i := 65) (by decide +kernel)))) (hts _ (o_in0 (List.mem_of_getElem? (i := 12) (by decide +kernel)))) (hts _ (o_in0 (List.mem_of_getElem? (i := 13) (by decide +kernel)))) rfl (by rw [hml]; exact hl.1) rfl dX3_init_1 (Nat.le_of_ble_eq_true rfl) (Nat.le_of_ble_eq_true rfl) ?_
  refine W.eq (g2 := F0 Mm 4 ls []) rfl ?_
  refine lv_aload_n hx hb dX3_init_4 rfl (lv_at hl 0 rfl) ?_
  refine m_sipush 201 hx hb dX3_init_5 (by decide) ?_
  refine m_newA (atype := .int) (ty := .int) 0 (n := 201) (a1 := (201, .inl (fun _ => oI 0))) hx hb hts rfl rfl (o_in0 (List.mem_of_getElem? (i := 41) (by decide +kernel))) hK hH hA (fun _ => rfl) (by decide) (by decide) (Nat.le_of_ble_eq_true rfl) (Nat.le_of_ble_eq_true rfl) (Nat.le_of_ble_eq_true rfl) dX3_init_8 (fun H ad1 s1 hg hs hn hA hH => ?_)
  have hh : ad1 (j) = h := (hg _ (by omega)).trans hh
  have hgT : oGx (j + 1) ad ad1 := fun q hq => (hg q (by omega)).trans (hgT q hq)
  have hsT : ∀ i : Nat, i < j → s1 i = σ i := fun q hq => (hs q (by omega)).trans (hsT q hq)
  have e0 : s1 (j) = .inr (3, [.null, .null, .int (oI 0), .null, .null]) := by rw [hs _ (by omega), e0]
  have k1 : s1 (j + 1) = oAI cT 201 (fun _ => 0) := hn
  rw [← hh]
  refine pf_X3_steps hx hb hts hown hK hH hA hmi (k := j) (by omega) e0 dX3_init_10 (fun H locs s2 e0 hq hH => ?_)
  have hsT : ∀ i : Nat, i < j → s2 i = σ i := fun q hx => (hq q (by omega)).trans (hsT q hx)
  have k1 : s2 (j + 1) = oAI cT 201 (fun _ => 0) := (hq _ (by omega)).trans k1
  refine lv_aload_n hx hb dX3_init_13 rfl (lv_at hl 0 rfl) ?_
  refine m_sipush 201 hx hb dX3_init_14 (by decide) ?_
  refine m_newA (atype := .int) (ty := .int) 0 (n := 201) (a1 := (201, .inl (fun _ => oI 0))) hx hb hts rfl rfl (o_in0 (List.mem_of_getElem? (i := 41) (by decide +kernel))) hK hH hA (fun _ => rfl) (by decide) (by decide) (Nat.le_of_ble_eq_true rfl) (Nat.le_of_ble_eq_true rfl) (Nat.le_of_ble_eq_true rfl) dX3_init_17 (fun H ad3 s3 hg hs hn hA hH => ?_)
  have hh : ad3 (j) = h := (hg _ (by omega)).trans hh
  have hgT : oGx (j + 1) ad ad3 := fun q hq => (hg q (by omega)).trans (hgT q hq)
  have hsT : ∀ i : Nat, i < j → s3 i = σ i := fun q hq => (hs q (by omega)).trans (hsT q hq)
  have e0 : s3 (j) = .inr (3, [.ref (ad3 (j + 1)), .null, .int (oI 0), .null, .null]) := by rw [hs _ (by omega), e0, hg (j + 1) (by omega)]
  have k1 : s3 (j + 1) = oAI cT 201 (fun _ => 0) := (hs _ (by omega)).trans k1
  have k2 : s3 (j + 2) = oAI cT 201 (fun _ => 0) := hn
  rw [← hh]
  refine pf_X3_line hx hb hts hown hK hH hA hmi (k := j) (by omega) e0 dX3_init_19 (fun H locs s4 e0 hq hH => ?_)
  have hsT : ∀ i : Nat, i < j → s4 i = σ i := fun q hx => (hq q (by omega)).trans (hsT q hx)
  have k1 : s4 (j + 1) = oAI cT 201 (fun _ => 0) := (hq _ (by omega)).trans k1
  have k2 : s4 (j + 2) = oAI cT 201 (fun _ => 0) := (hq _ (by omega)).trans k2
  refine lv_aload_n hx hb dX3_init_22 rfl (lv_at hl 0 rfl) ?_
  refine m_iconst 4 hx hb dX3_init_23 rfl ?_
  refine m_newA (atype := .long) (ty := .long) 1 (n := 4) (a1 := (4, .inr (.inl (fun _ => lN 0)))) hx hb hts rfl rfl (o_in0 (List.mem_of_getElem? (i := 6) (by decide +kernel))) hK hH hA (fun _ => rfl) (by decide) (by decide) (Nat.le_of_ble_eq_true rfl) (Nat.le_of_ble_eq_true rfl) (Nat.le_of_ble_eq_true rfl) dX3_init_24 (fun H ad5 s5 hg hs hn hA hH => ?_)
  have hh : ad5 (j) = h := (hg _ (by omega)).trans hh
  have hgT : oGx (j + 1) ad ad5 := fun q hq => (hg q (by omega)).trans (hgT q hq)
  have hsT : ∀ i : Nat, i < j → s5 i = σ i := fun q hq => (hs q (by omega)).trans (hsT q hq)
  have e0 : s5 (j) = .inr (3, [.ref (ad5 (j + 1)), .ref (ad5 (j + 2)), .int (oI 0), .null, .null]) := by rw [hs _ (by omega), e0, hg (j + 1) (by omega), hg (j + 2) (by omega)]
  have k1 : s5 (j + 1) = oAI cT 201 (fun _ => 0) := (hs _ (by omega)).trans k1
  have k2 : s5 (j + 2) = oAI cT 201 (fun _ => 0) := (hs _ (by omega)).trans k2
  have k3 : s5 (j + 3) = oAJ cT 4 (fun _ => 0) := hn
  rw [← hh]
  refine pf_X3_reached hx hb hts hown hK hH hA hmi (k := j) (by omega) e0 dX3_init_26 (fun H locs s6 e0 hq hH => ?_)
  have hsT : ∀ i : Nat, i < j → s6 i = σ i := fun q hx => (hq q (by omega)).trans (hsT q hx)
  have k1 : s6 (j + 1) = oAI cT 201 (fun _ => 0) := (hq _ (by omega)).trans k1
  have k2 : s6 (j + 2) = oAI cT 201 (fun _ => 0) := (hq _ (by omega)).trans k2
  have k3 : s6 (j + 3) = oAJ cT 4 (fun _ => 0) := (hq _ (by omega)).trans k3
  refine lv_aload_n hx hb dX3_init_29 rfl (lv_at hl 0 rfl) ?_
  refine m_iconst 4 hx hb dX3_init_30 rfl ?_
  refine m_newA (atype := .long) (ty := .long) 1 (n := 4) (a1 := (4, .inr (.inl (fun _ => lN 0)))) hx hb hts rfl rfl (o_in0 (List.mem_of_getElem? (i := 6) (by decide +kernel))) hK hH hA (fun _ => rfl) (by decide) (by decide) (Nat.le_of_ble_eq_true rfl) (Nat.le_of_ble_eq_true rfl) (Nat.le_of_ble_eq_true rfl) dX3_init_31 (fun H ad7 s7 hg hs hn hA hH => ?_)
  have hh : ad7 (j) = h := (hg _ (by omega)).trans hh
  have hgT : oGx (j + 1) ad ad7 := fun q hq => (hg q (by omega)).trans (hgT q hq)
  have hsT : ∀ i : Nat, i < j → s7 i = σ i := fun q hq => (hs q (by omega)).trans (hsT q hq)
  have e0 : s7 (j) = .inr (3, [.ref (ad7 (j + 1)), .ref (ad7 (j + 2)), .int (oI 0), .ref (ad7 (j + 3)), .null]) := by rw [hs _ (by omega), e0, hg (j + 1) (by omega), hg (j + 2) (by omega), hg (j + 3) (by omega)]
  have k1 : s7 (j + 1) = oAI cT 201 (fun _ => 0) := (hs _ (by omega)).trans k1
  have k2 : s7 (j + 2) = oAI cT 201 (fun _ => 0) := (hs _ (by omega)).trans k2
  have k3 : s7 (j + 3) = oAJ cT 4 (fun _ => 0) := (hs _ (by omega)).trans k3
  have k4 : s7 (j + 4) = oAJ cT 4 (fun _ => 0) := hn
  rw [← hh]
  refine pf_X3_grown hx hb hts hown hK hH hA hmi (k := j) (by omega) e0 dX3_init_33 (fun H locs s8 e0 hq hH => ?_)
  have hsT : ∀ i : Nat, i < j → s8 i = σ i := fun q hx => (hq q (by omega)).trans (hsT q hx)
  have k1 : s8 (j + 1) = oAI cT 201 (fun _ => 0) := (hq _ (by omega)).trans k1
  have k2 : s8 (j + 2) = oAI cT 201 (fun _ => 0) := (hq _ (by omega)).trans k2
  have k3 : s8 (j + 3) = oAJ cT 4 (fun _ => 0) := (hq _ (by omega)).trans k3
  have k4 : s8 (j + 4) = oAJ cT 4 (fun _ => 0) := (hq _ (by omega)).trans k4
  exact m_vretN (N0 := j + 1) (k := 4) hx hb hlk hrt hA hH ⟨Nat.le_of_ble_eq_true rfl, Nat.le_of_ble_eq_true rfl⟩ dX3_init_36 ⟨hgT, hsT, e0, k1, k2, k3, k4⟩
set_option maxHeartbeats 4000000 in
set_option maxRecDepth 100000 in
theorem c6_init {l : Launch} {D : va_G} {cT : Nat → ClassId} {b0 : Nat} {ad : Nat → Nat} {j : Nat} (hA : oAd b0 (j + 1) ad) {σ : Nat → va_E} (e0 : σ (j) = .inr (6, [.int (oI 0), .null, .int (oI 0), .null, .null, .null, .int (oI 0), .null, .null, .null, .null, .null, .int (oI 0), .int (oI 0)])) :
    oCn l D cT (j + 1) ad b0 yX6_init cX6_init 1 1 60 9 3643 [.ref (ad (j))] σ (fun u => oGx (j + 1) ad u.1 ∧ (∀ i : Nat, i < j → u.2 i = σ i) ∧ u.2 j = .inr (6, [.int (oI 0), .ref (u.1 (j + 1)), .int (oI 0), .ref (u.1 (j + 2)), .ref (u.1 (j + 3)), .ref (u.1 (j + 4)), .int (oI 0), .ref (u.1 (j + 5)), .ref (u.1 (j + 6)), .ref (u.1 (j + 7)), .ref (u.1 (j + 8)), .ref (u.1 (j + 9)), .int (oI 0), .int (oI 0)]) ∧ u.2 (j + 1) = oAI cT 120 (fun _ => 0) ∧ u.2 (j + 3) = oAI cT 171 (fun _ => 0) ∧ u.2 (j + 4) = oAI cT 2394 (fun _ => 0) ∧ u.2 (j + 5) = oAI cT 342 (fun _ => 0) ∧ u.2 (j + 6) = oAZ cT 2 (fun _ => 0) ∧ u.2 (j + 7) = oAI cT 41 (fun _ => 0) ∧ u.2 (j + 8) = oAI cT 201 (fun _ => 0) ∧ u.2 (j + 9) = oAI cT 201 (fun _ => 0) ∧ ∃ f2 : Nat → Int, u.2 (j + 2) = oAI cT 171 f2 ∧ ∀ sz w : Nat → Nat, oRS f2 0 2 40 sz w) := by
  refine m_startN (cc := cX6_init) (by decide) (Nat.le_of_ble_eq_true rfl) rfl ?_
  intro Pp Ee Ss Mm Bb Me Cc Ar ls hx hb hml hown hlk hrt hts hK hH hl hmi hAO
  have hown : Ss.vm.findClass RX6 = some Mm.cls := hown
  obtain ⟨h, hh⟩ : ∃ h : Nat, ad (j) = h := ⟨_, rfl⟩
  rw [hh] at hl
  have hgT : oGx (j + 1) ad ad := fun _ _ => rfl
  have hsT : ∀ i : Nat, i < j → σ i = σ i := fun _ _ => rfl
  refine lv_aload_n hx hb dX6_init_0 rfl (lv_at hl 0 rfl) ?_
  refine W.objInit hx hb hown (hts _ (o_in0 (List.mem_of_getElem? (i := 76) (by decide +kernel)))) (hts _ (o_in0 (List.mem_of_getElem? (i := 12) (by decide +kernel)))) (hts _ (o_in0 (List.mem_of_getElem? (i := 13) (by decide +kernel)))) rfl (by rw [hml]; exact hl.1) rfl dX6_init_1 (Nat.le_of_ble_eq_true rfl) (Nat.le_of_ble_eq_true rfl) ?_
  refine W.eq (g2 := F0 Mm 4 ls []) rfl ?_
  refine lv_aload_n hx hb dX6_init_4 rfl (lv_at hl 0 rfl) ?_
  refine m_bipush 120 hx hb dX6_init_5 (by decide) ?_
  refine m_newA (atype := .int) (ty := .int) 0 (n := 120) (a1 := (120, .inl (fun _ => oI 0))) hx hb hts rfl rfl (o_in0 (List.mem_of_getElem? (i := 41) (by decide +kernel))) hK hH hA (fun _ => rfl) (by decide) (by decide) (Nat.le_of_ble_eq_true rfl) (Nat.le_of_ble_eq_true rfl) (Nat.le_of_ble_eq_true rfl) dX6_init_7 (fun H ad1 s1 hg hs hn hA hH => ?_)
  have hh : ad1 (j) = h := (hg _ (by omega)).trans hh
  have hgT : oGx (j + 1) ad ad1 := fun q hq => (hg q (by omega)).trans (hgT q hq)
  have hsT : ∀ i : Nat, i < j → s1 i = σ i := fun q hq => (hs q (by omega)).trans (hsT q hq)
  have e0 : s1 (j) = .inr (6, [.int (oI 0), .null, .int (oI 0), .null, .null, .null, .int (oI 0), .null, .null, .null, .null, .null, .int (oI 0), .int (oI 0)]) := by rw [hs _ (by omega), e0]
  have k1 : s1 (j + 1) = oAI cT 120 (fun _ => 0) := hn
  rw [← hh]
  refine pf_X6_text hx hb hts hown hK hH hA hmi (k := j) (by omega) e0 dX6_init_9 (fun H locs s2 e0 hq hH => ?_)
  have hsT : ∀ i : Nat, i < j → s2 i = σ i := fun q hx => (hq q (by omega)).trans (hsT q hx)
  have k1 : s2 (j + 1) = oAI cT 120 (fun _ => 0) := (hq _ (by omega)).trans k1
  refine lv_aload_n hx hb dX6_init_12 rfl (lv_at hl 0 rfl) ?_
  refine m_sipush 171 hx hb dX6_init_13 (by decide) ?_
  refine m_newA (atype := .int) (ty := .int) 0 (n := 171) (a1 := (171, .inl (fun _ => oI 0))) hx hb hts rfl rfl (o_in0 (List.mem_of_getElem? (i := 41) (by decide +kernel))) hK hH hA (fun _ => rfl) (by decide) (by decide) (Nat.le_of_ble_eq_true rfl) (Nat.le_of_ble_eq_true rfl) (Nat.le_of_ble_eq_true rfl) dX6_init_16 (fun H ad3 s3 hg hs hn hA hH => ?_)
  have hh : ad3 (j) = h := (hg _ (by omega)).trans hh
  have hgT : oGx (j + 1) ad ad3 := fun q hq => (hg q (by omega)).trans (hgT q hq)
  have hsT : ∀ i : Nat, i < j → s3 i = σ i := fun q hq => (hs q (by omega)).trans (hsT q hq)
  have e0 : s3 (j) = .inr (6, [.int (oI 0), .ref (ad3 (j + 1)), .int (oI 0), .null, .null, .null, .int (oI 0), .null, .null, .null, .null, .null, .int (oI 0), .int (oI 0)]) := by rw [hs _ (by omega), e0, hg (j + 1) (by omega)]
  have k1 : s3 (j + 1) = oAI cT 120 (fun _ => 0) := (hs _ (by omega)).trans k1
  have k2 : s3 (j + 2) = oAI cT 171 (fun _ => 0) := hn
  rw [← hh]
  refine pf_X6_now hx hb hts hown hK hH hA hmi (k := j) (by omega) e0 dX6_init_18 (fun H locs s4 e0 hq hH => ?_)
  have hsT : ∀ i : Nat, i < j → s4 i = σ i := fun q hx => (hq q (by omega)).trans (hsT q hx)
  have k1 : s4 (j + 1) = oAI cT 120 (fun _ => 0) := (hq _ (by omega)).trans k1
  have k2 : s4 (j + 2) = oAI cT 171 (fun _ => 0) := (hq _ (by omega)).trans k2
  refine lv_aload_n hx hb dX6_init_21 rfl (lv_at hl 0 rfl) ?_
  refine m_sipush 171 hx hb dX6_init_22 (by decide) ?_
  refine m_newA (atype := .int) (ty := .int) 0 (n := 171) (a1 := (171, .inl (fun _ => oI 0))) hx hb hts rfl rfl (o_in0 (List.mem_of_getElem? (i := 41) (by decide +kernel))) hK hH hA (fun _ => rfl) (by decide) (by decide) (Nat.le_of_ble_eq_true rfl) (Nat.le_of_ble_eq_true rfl) (Nat.le_of_ble_eq_true rfl) dX6_init_25 (fun H ad5 s5 hg hs hn hA hH => ?_)
  have hh : ad5 (j) = h := (hg _ (by omega)).trans hh
  have hgT : oGx (j + 1) ad ad5 := fun q hq => (hg q (by omega)).trans (hgT q hq)
  have hsT : ∀ i : Nat, i < j → s5 i = σ i := fun q hq => (hs q (by omega)).trans (hsT q hq)
  have e0 : s5 (j) = .inr (6, [.int (oI 0), .ref (ad5 (j + 1)), .int (oI 0), .ref (ad5 (j + 2)), .null, .null, .int (oI 0), .null, .null, .null, .null, .null, .int (oI 0), .int (oI 0)]) := by rw [hs _ (by omega), e0, hg (j + 1) (by omega), hg (j + 2) (by omega)]
  have k1 : s5 (j + 1) = oAI cT 120 (fun _ => 0) := (hs _ (by omega)).trans k1
  have k2 : s5 (j + 2) = oAI cT 171 (fun _ => 0) := (hs _ (by omega)).trans k2
  have k3 : s5 (j + 3) = oAI cT 171 (fun _ => 0) := hn
  rw [← hh]
  refine pf_X6_trial hx hb hts hown hK hH hA hmi (k := j) (by omega) e0 dX6_init_27 (fun H locs s6 e0 hq hH => ?_)
  have hsT : ∀ i : Nat, i < j → s6 i = σ i := fun q hx => (hq q (by omega)).trans (hsT q hx)
  have k1 : s6 (j + 1) = oAI cT 120 (fun _ => 0) := (hq _ (by omega)).trans k1
  have k2 : s6 (j + 2) = oAI cT 171 (fun _ => 0) := (hq _ (by omega)).trans k2
  have k3 : s6 (j + 3) = oAI cT 171 (fun _ => 0) := (hq _ (by omega)).trans k3
  refine lv_aload_n hx hb dX6_init_30 rfl (lv_at hl 0 rfl) ?_
  refine m_sipush 2394 hx hb dX6_init_31 (by decide) ?_
  refine m_newA (atype := .int) (ty := .int) 0 (n := 2394) (a1 := (2394, .inl (fun _ => oI 0))) hx hb hts rfl rfl (o_in0 (List.mem_of_getElem? (i := 41) (by decide +kernel))) hK hH hA (fun _ => rfl) (by decide) (by decide) (Nat.le_of_ble_eq_true rfl) (Nat.le_of_ble_eq_true rfl) (Nat.le_of_ble_eq_true rfl) dX6_init_34 (fun H ad7 s7 hg hs hn hA hH => ?_)
  have hh : ad7 (j) = h := (hg _ (by omega)).trans hh
  have hgT : oGx (j + 1) ad ad7 := fun q hq => (hg q (by omega)).trans (hgT q hq)
  have hsT : ∀ i : Nat, i < j → s7 i = σ i := fun q hq => (hs q (by omega)).trans (hsT q hq)
  have e0 : s7 (j) = .inr (6, [.int (oI 0), .ref (ad7 (j + 1)), .int (oI 0), .ref (ad7 (j + 2)), .ref (ad7 (j + 3)), .null, .int (oI 0), .null, .null, .null, .null, .null, .int (oI 0), .int (oI 0)]) := by rw [hs _ (by omega), e0, hg (j + 1) (by omega), hg (j + 2) (by omega), hg (j + 3) (by omega)]
  have k1 : s7 (j + 1) = oAI cT 120 (fun _ => 0) := (hs _ (by omega)).trans k1
  have k2 : s7 (j + 2) = oAI cT 171 (fun _ => 0) := (hs _ (by omega)).trans k2
  have k3 : s7 (j + 3) = oAI cT 171 (fun _ => 0) := (hs _ (by omega)).trans k3
  have k4 : s7 (j + 4) = oAI cT 2394 (fun _ => 0) := hn
  rw [← hh]
  refine pf_X6_diary hx hb hts hown hK hH hA hmi (k := j) (by omega) e0 dX6_init_36 (fun H locs s8 e0 hq hH => ?_)
  have hsT : ∀ i : Nat, i < j → s8 i = σ i := fun q hx => (hq q (by omega)).trans (hsT q hx)
  have k1 : s8 (j + 1) = oAI cT 120 (fun _ => 0) := (hq _ (by omega)).trans k1
  have k2 : s8 (j + 2) = oAI cT 171 (fun _ => 0) := (hq _ (by omega)).trans k2
  have k3 : s8 (j + 3) = oAI cT 171 (fun _ => 0) := (hq _ (by omega)).trans k3
  have k4 : s8 (j + 4) = oAI cT 2394 (fun _ => 0) := (hq _ (by omega)).trans k4
  refine lv_aload_n hx hb dX6_init_39 rfl (lv_at hl 0 rfl) ?_
  refine m_sipush 342 hx hb dX6_init_40 (by decide) ?_
  refine m_newA (atype := .int) (ty := .int) 0 (n := 342) (a1 := (342, .inl (fun _ => oI 0))) hx hb hts rfl rfl (o_in0 (List.mem_of_getElem? (i := 41) (by decide +kernel))) hK hH hA (fun _ => rfl) (by decide) (by decide) (Nat.le_of_ble_eq_true rfl) (Nat.le_of_ble_eq_true rfl) (Nat.le_of_ble_eq_true rfl) dX6_init_43 (fun H ad9 s9 hg hs hn hA hH => ?_)
  have hh : ad9 (j) = h := (hg _ (by omega)).trans hh
  have hgT : oGx (j + 1) ad ad9 := fun q hq => (hg q (by omega)).trans (hgT q hq)
  have hsT : ∀ i : Nat, i < j → s9 i = σ i := fun q hq => (hs q (by omega)).trans (hsT q hq)
  have e0 : s9 (j) = .inr (6, [.int (oI 0), .ref (ad9 (j + 1)), .int (oI 0), .ref (ad9 (j + 2)), .ref (ad9 (j + 3)), .ref (ad9 (j + 4)), .int (oI 0), .null, .null, .null, .null, .null, .int (oI 0), .int (oI 0)]) := by rw [hs _ (by omega), e0, hg (j + 1) (by omega), hg (j + 2) (by omega), hg (j + 3) (by omega), hg (j + 4) (by omega)]
  have k1 : s9 (j + 1) = oAI cT 120 (fun _ => 0) := (hs _ (by omega)).trans k1
  have k2 : s9 (j + 2) = oAI cT 171 (fun _ => 0) := (hs _ (by omega)).trans k2
  have k3 : s9 (j + 3) = oAI cT 171 (fun _ => 0) := (hs _ (by omega)).trans k3
  have k4 : s9 (j + 4) = oAI cT 2394 (fun _ => 0) := (hs _ (by omega)).trans k4
  have k5 : s9 (j + 5) = oAI cT 342 (fun _ => 0) := hn
  rw [← hh]
  refine pf_X6_kept hx hb hts hown hK hH hA hmi (k := j) (by omega) e0 dX6_init_45 (fun H locs s10 e0 hq hH => ?_)
  have hsT : ∀ i : Nat, i < j → s10 i = σ i := fun q hx => (hq q (by omega)).trans (hsT q hx)
  have k1 : s10 (j + 1) = oAI cT 120 (fun _ => 0) := (hq _ (by omega)).trans k1
  have k2 : s10 (j + 2) = oAI cT 171 (fun _ => 0) := (hq _ (by omega)).trans k2
  have k3 : s10 (j + 3) = oAI cT 171 (fun _ => 0) := (hq _ (by omega)).trans k3
  have k4 : s10 (j + 4) = oAI cT 2394 (fun _ => 0) := (hq _ (by omega)).trans k4
  have k5 : s10 (j + 5) = oAI cT 342 (fun _ => 0) := (hq _ (by omega)).trans k5
  refine lv_aload_n hx hb dX6_init_48 rfl (lv_at hl 0 rfl) ?_
  refine m_iconst 2 hx hb dX6_init_49 rfl ?_
  refine m_newA (atype := .boolean) (ty := .boolean) 3 (n := 2) (a1 := (2, .inl (fun _ => oI 0))) hx hb hts rfl rfl (o_in0 (List.mem_of_getElem? (i := 82) (by decide +kernel))) hK hH hA (fun _ => rfl) (by decide) (by decide) (Nat.le_of_ble_eq_true rfl) (Nat.le_of_ble_eq_true rfl) (Nat.le_of_ble_eq_true rfl) dX6_init_50 (fun H ad11 s11 hg hs hn hA hH => ?_)
  have hh : ad11 (j) = h := (hg _ (by omega)).trans hh
  have hgT : oGx (j + 1) ad ad11 := fun q hq => (hg q (by omega)).trans (hgT q hq)
  have hsT : ∀ i : Nat, i < j → s11 i = σ i := fun q hq => (hs q (by omega)).trans (hsT q hq)
  have e0 : s11 (j) = .inr (6, [.int (oI 0), .ref (ad11 (j + 1)), .int (oI 0), .ref (ad11 (j + 2)), .ref (ad11 (j + 3)), .ref (ad11 (j + 4)), .int (oI 0), .ref (ad11 (j + 5)), .null, .null, .null, .null, .int (oI 0), .int (oI 0)]) := by rw [hs _ (by omega), e0, hg (j + 1) (by omega), hg (j + 2) (by omega), hg (j + 3) (by omega), hg (j + 4) (by omega), hg (j + 5) (by omega)]
  have k1 : s11 (j + 1) = oAI cT 120 (fun _ => 0) := (hs _ (by omega)).trans k1
  have k2 : s11 (j + 2) = oAI cT 171 (fun _ => 0) := (hs _ (by omega)).trans k2
  have k3 : s11 (j + 3) = oAI cT 171 (fun _ => 0) := (hs _ (by omega)).trans k3
  have k4 : s11 (j + 4) = oAI cT 2394 (fun _ => 0) := (hs _ (by omega)).trans k4
  have k5 : s11 (j + 5) = oAI cT 342 (fun _ => 0) := (hs _ (by omega)).trans k5
  have k6 : s11 (j + 6) = oAZ cT 2 (fun _ => 0) := hn
  rw [← hh]
  refine pf_X6_isKept hx hb hts hown hK hH hA hmi (k := j) (by omega) e0 dX6_init_52 (fun H locs s12 e0 hq hH => ?_)
  have hsT : ∀ i : Nat, i < j → s12 i = σ i := fun q hx => (hq q (by omega)).trans (hsT q hx)
  have k1 : s12 (j + 1) = oAI cT 120 (fun _ => 0) := (hq _ (by omega)).trans k1
  have k2 : s12 (j + 2) = oAI cT 171 (fun _ => 0) := (hq _ (by omega)).trans k2
  have k3 : s12 (j + 3) = oAI cT 171 (fun _ => 0) := (hq _ (by omega)).trans k3
  have k4 : s12 (j + 4) = oAI cT 2394 (fun _ => 0) := (hq _ (by omega)).trans k4
  have k5 : s12 (j + 5) = oAI cT 342 (fun _ => 0) := (hq _ (by omega)).trans k5
  have k6 : s12 (j + 6) = oAZ cT 2 (fun _ => 0) := (hq _ (by omega)).trans k6
  refine lv_aload_n hx hb dX6_init_55 rfl (lv_at hl 0 rfl) ?_
  refine m_bipush 41 hx hb dX6_init_56 (by decide) ?_
  refine m_newA (atype := .int) (ty := .int) 0 (n := 41) (a1 := (41, .inl (fun _ => oI 0))) hx hb hts rfl rfl (o_in0 (List.mem_of_getElem? (i := 41) (by decide +kernel))) hK hH hA (fun _ => rfl) (by decide) (by decide) (Nat.le_of_ble_eq_true rfl) (Nat.le_of_ble_eq_true rfl) (Nat.le_of_ble_eq_true rfl) dX6_init_58 (fun H ad13 s13 hg hs hn hA hH => ?_)
  have hh : ad13 (j) = h := (hg _ (by omega)).trans hh
  have hgT : oGx (j + 1) ad ad13 := fun q hq => (hg q (by omega)).trans (hgT q hq)
  have hsT : ∀ i : Nat, i < j → s13 i = σ i := fun q hq => (hs q (by omega)).trans (hsT q hq)
  have e0 : s13 (j) = .inr (6, [.int (oI 0), .ref (ad13 (j + 1)), .int (oI 0), .ref (ad13 (j + 2)), .ref (ad13 (j + 3)), .ref (ad13 (j + 4)), .int (oI 0), .ref (ad13 (j + 5)), .ref (ad13 (j + 6)), .null, .null, .null, .int (oI 0), .int (oI 0)]) := by rw [hs _ (by omega), e0, hg (j + 1) (by omega), hg (j + 2) (by omega), hg (j + 3) (by omega), hg (j + 4) (by omega), hg (j + 5) (by omega), hg (j + 6) (by omega)]
  have k1 : s13 (j + 1) = oAI cT 120 (fun _ => 0) := (hs _ (by omega)).trans k1
  have k2 : s13 (j + 2) = oAI cT 171 (fun _ => 0) := (hs _ (by omega)).trans k2
  have k3 : s13 (j + 3) = oAI cT 171 (fun _ => 0) := (hs _ (by omega)).trans k3
  have k4 : s13 (j + 4) = oAI cT 2394 (fun _ => 0) := (hs _ (by omega)).trans k4
  have k5 : s13 (j + 5) = oAI cT 342 (fun _ => 0) := (hs _ (by omega)).trans k5
  have k6 : s13 (j + 6) = oAZ cT 2 (fun _ => 0) := (hs _ (by omega)).trans k6
  have k7 : s13 (j + 7) = oAI cT 41 (fun _ => 0) := hn
  rw [← hh]
  refine pf_X6_spans hx hb hts hown hK hH hA hmi (k := j) (by omega) e0 dX6_init_60 (fun H locs s14 e0 hq hH => ?_)
  have hsT : ∀ i : Nat, i < j → s14 i = σ i := fun q hx => (hq q (by omega)).trans (hsT q hx)
  have k1 : s14 (j + 1) = oAI cT 120 (fun _ => 0) := (hq _ (by omega)).trans k1
  have k2 : s14 (j + 2) = oAI cT 171 (fun _ => 0) := (hq _ (by omega)).trans k2
  have k3 : s14 (j + 3) = oAI cT 171 (fun _ => 0) := (hq _ (by omega)).trans k3
  have k4 : s14 (j + 4) = oAI cT 2394 (fun _ => 0) := (hq _ (by omega)).trans k4
  have k5 : s14 (j + 5) = oAI cT 342 (fun _ => 0) := (hq _ (by omega)).trans k5
  have k6 : s14 (j + 6) = oAZ cT 2 (fun _ => 0) := (hq _ (by omega)).trans k6
  have k7 : s14 (j + 7) = oAI cT 41 (fun _ => 0) := (hq _ (by omega)).trans k7
  refine lv_aload_n hx hb dX6_init_63 rfl (lv_at hl 0 rfl) ?_
  refine m_sipush 201 hx hb dX6_init_64 (by decide) ?_
  refine m_newA (atype := .int) (ty := .int) 0 (n := 201) (a1 := (201, .inl (fun _ => oI 0))) hx hb hts rfl rfl (o_in0 (List.mem_of_getElem? (i := 41) (by decide +kernel))) hK hH hA (fun _ => rfl) (by decide) (by decide) (Nat.le_of_ble_eq_true rfl) (Nat.le_of_ble_eq_true rfl) (Nat.le_of_ble_eq_true rfl) dX6_init_67 (fun H ad15 s15 hg hs hn hA hH => ?_)
  have hh : ad15 (j) = h := (hg _ (by omega)).trans hh
  have hgT : oGx (j + 1) ad ad15 := fun q hq => (hg q (by omega)).trans (hgT q hq)
  have hsT : ∀ i : Nat, i < j → s15 i = σ i := fun q hq => (hs q (by omega)).trans (hsT q hq)
  have e0 : s15 (j) = .inr (6, [.int (oI 0), .ref (ad15 (j + 1)), .int (oI 0), .ref (ad15 (j + 2)), .ref (ad15 (j + 3)), .ref (ad15 (j + 4)), .int (oI 0), .ref (ad15 (j + 5)), .ref (ad15 (j + 6)), .ref (ad15 (j + 7)), .null, .null, .int (oI 0), .int (oI 0)]) := by rw [hs _ (by omega), e0, hg (j + 1) (by omega), hg (j + 2) (by omega), hg (j + 3) (by omega), hg (j + 4) (by omega), hg (j + 5) (by omega), hg (j + 6) (by omega), hg (j + 7) (by omega)]
  have k1 : s15 (j + 1) = oAI cT 120 (fun _ => 0) := (hs _ (by omega)).trans k1
  have k2 : s15 (j + 2) = oAI cT 171 (fun _ => 0) := (hs _ (by omega)).trans k2
  have k3 : s15 (j + 3) = oAI cT 171 (fun _ => 0) := (hs _ (by omega)).trans k3
  have k4 : s15 (j + 4) = oAI cT 2394 (fun _ => 0) := (hs _ (by omega)).trans k4
  have k5 : s15 (j + 5) = oAI cT 342 (fun _ => 0) := (hs _ (by omega)).trans k5
  have k6 : s15 (j + 6) = oAZ cT 2 (fun _ => 0) := (hs _ (by omega)).trans k6
  have k7 : s15 (j + 7) = oAI cT 41 (fun _ => 0) := (hs _ (by omega)).trans k7
  have k8 : s15 (j + 8) = oAI cT 201 (fun _ => 0) := hn
  rw [← hh]
  refine pf_X6_far hx hb hts hown hK hH hA hmi (k := j) (by omega) e0 dX6_init_69 (fun H locs s16 e0 hq hH => ?_)
  have hsT : ∀ i : Nat, i < j → s16 i = σ i := fun q hx => (hq q (by omega)).trans (hsT q hx)
  have k1 : s16 (j + 1) = oAI cT 120 (fun _ => 0) := (hq _ (by omega)).trans k1
  have k2 : s16 (j + 2) = oAI cT 171 (fun _ => 0) := (hq _ (by omega)).trans k2
  have k3 : s16 (j + 3) = oAI cT 171 (fun _ => 0) := (hq _ (by omega)).trans k3
  have k4 : s16 (j + 4) = oAI cT 2394 (fun _ => 0) := (hq _ (by omega)).trans k4
  have k5 : s16 (j + 5) = oAI cT 342 (fun _ => 0) := (hq _ (by omega)).trans k5
  have k6 : s16 (j + 6) = oAZ cT 2 (fun _ => 0) := (hq _ (by omega)).trans k6
  have k7 : s16 (j + 7) = oAI cT 41 (fun _ => 0) := (hq _ (by omega)).trans k7
  have k8 : s16 (j + 8) = oAI cT 201 (fun _ => 0) := (hq _ (by omega)).trans k8
  refine lv_aload_n hx hb dX6_init_72 rfl (lv_at hl 0 rfl) ?_
  refine m_sipush 201 hx hb dX6_init_73 (by decide) ?_
  refine m_newA (atype := .int) (ty := .int) 0 (n := 201) (a1 := (201, .inl (fun _ => oI 0))) hx hb hts rfl rfl (o_in0 (List.mem_of_getElem? (i := 41) (by decide +kernel))) hK hH hA (fun _ => rfl) (by decide) (by decide) (Nat.le_of_ble_eq_true rfl) (Nat.le_of_ble_eq_true rfl) (Nat.le_of_ble_eq_true rfl) dX6_init_76 (fun H ad17 s17 hg hs hn hA hH => ?_)
  have hh : ad17 (j) = h := (hg _ (by omega)).trans hh
  have hgT : oGx (j + 1) ad ad17 := fun q hq => (hg q (by omega)).trans (hgT q hq)
  have hsT : ∀ i : Nat, i < j → s17 i = σ i := fun q hq => (hs q (by omega)).trans (hsT q hq)
  have e0 : s17 (j) = .inr (6, [.int (oI 0), .ref (ad17 (j + 1)), .int (oI 0), .ref (ad17 (j + 2)), .ref (ad17 (j + 3)), .ref (ad17 (j + 4)), .int (oI 0), .ref (ad17 (j + 5)), .ref (ad17 (j + 6)), .ref (ad17 (j + 7)), .ref (ad17 (j + 8)), .null, .int (oI 0), .int (oI 0)]) := by rw [hs _ (by omega), e0, hg (j + 1) (by omega), hg (j + 2) (by omega), hg (j + 3) (by omega), hg (j + 4) (by omega), hg (j + 5) (by omega), hg (j + 6) (by omega), hg (j + 7) (by omega), hg (j + 8) (by omega)]
  have k1 : s17 (j + 1) = oAI cT 120 (fun _ => 0) := (hs _ (by omega)).trans k1
  have k2 : s17 (j + 2) = oAI cT 171 (fun _ => 0) := (hs _ (by omega)).trans k2
  have k3 : s17 (j + 3) = oAI cT 171 (fun _ => 0) := (hs _ (by omega)).trans k3
  have k4 : s17 (j + 4) = oAI cT 2394 (fun _ => 0) := (hs _ (by omega)).trans k4
  have k5 : s17 (j + 5) = oAI cT 342 (fun _ => 0) := (hs _ (by omega)).trans k5
  have k6 : s17 (j + 6) = oAZ cT 2 (fun _ => 0) := (hs _ (by omega)).trans k6
  have k7 : s17 (j + 7) = oAI cT 41 (fun _ => 0) := (hs _ (by omega)).trans k7
  have k8 : s17 (j + 8) = oAI cT 201 (fun _ => 0) := (hs _ (by omega)).trans k8
  have k9 : s17 (j + 9) = oAI cT 201 (fun _ => 0) := hn
  rw [← hh]
  refine pf_X6_row hx hb hts hown hK hH hA hmi (k := j) (by omega) e0 dX6_init_78 (fun H locs s18 e0 hq hH => ?_)
  have hsT : ∀ i : Nat, i < j → s18 i = σ i := fun q hx => (hq q (by omega)).trans (hsT q hx)
  have k1 : s18 (j + 1) = oAI cT 120 (fun _ => 0) := (hq _ (by omega)).trans k1
  have k2 : s18 (j + 2) = oAI cT 171 (fun _ => 0) := (hq _ (by omega)).trans k2
  have k3 : s18 (j + 3) = oAI cT 171 (fun _ => 0) := (hq _ (by omega)).trans k3
  have k4 : s18 (j + 4) = oAI cT 2394 (fun _ => 0) := (hq _ (by omega)).trans k4
  have k5 : s18 (j + 5) = oAI cT 342 (fun _ => 0) := (hq _ (by omega)).trans k5
  have k6 : s18 (j + 6) = oAZ cT 2 (fun _ => 0) := (hq _ (by omega)).trans k6
  have k7 : s18 (j + 7) = oAI cT 41 (fun _ => 0) := (hq _ (by omega)).trans k7
  have k8 : s18 (j + 8) = oAI cT 201 (fun _ => 0) := (hq _ (by omega)).trans k8
  have k9 : s18 (j + 9) = oAI cT 201 (fun _ => 0) := (hq _ (by omega)).trans k9
  refine lv_aload_n hx hb dX6_init_81 rfl (lv_at hl 0 rfl) ?_
  rw [← hh]
  refine gf_X6_now hx hb hts hown hK hH (k := j) (by omega) e0 dX6_init_82 ?_
  refine m_callSv hx hb hml hown hts hK hH hl (rest := []) cw_X6_38 rfl (c6_clear hA (j + 2) _ (by omega) k2) ⟨Nat.le_of_ble_eq_true rfl, Nat.le_of_ble_eq_true rfl⟩ ⟨Nat.le_of_ble_eq_true rfl, Nat.le_of_ble_eq_true rfl⟩ rfl rfl (Nat.le_of_ble_eq_true rfl) dX6_init_85 (fun s9 H locs hp hH => ?_)
  obtain ⟨f2, hf2, e2, hq⟩ := hp
  exact m_vretN (N0 := j + 1) (k := 9) hx hb hlk hrt hA hH ⟨Nat.le_of_ble_eq_true rfl, Nat.le_of_ble_eq_true rfl⟩ dX6_init_88 ⟨hgT, fun q h => (hq q (by omega)).trans (hsT q h), (hq _ (by omega)).trans e0, (hq _ (by omega)).trans k1, (hq _ (by omega)).trans k3, (hq _ (by omega)).trans k4, (hq _ (by omega)).trans k5, (hq _ (by omega)).trans k6, (hq _ (by omega)).trans k7, (hq _ (by omega)).trans k8, (hq _ (by omega)).trans k9, f2, e2, hf2⟩
