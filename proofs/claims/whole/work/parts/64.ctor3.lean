def oM0 (cT : Nat → ClassId) (ad : Nat → Nat) (σ : Nat → va_E) (j : Nat) : Prop := σ j = .inr (2, [.ref (ad (j + 1)), .int (oI 0), .int (oI 0)]) ∧ σ (j + 1) = oAO cT 14 (fun q => if q < 14 then some (ad (j + 2 + 3 * q)) else none) ∧ ∀ q : Nat, q < 14 → oS0 cT ad σ (j + 2 + 3 * q)
def oT0 (cT : Nat → ClassId) (ad : Nat → Nat) (σ : Nat → va_E) (j : Nat) : Prop := σ j = .inr (0, [.ref (ad (j + 1)), .int (oI 0), .int (oI 0), .int (oI 0), .int (oI 0), .int (oI 0), .int (oI 0), .int (oI 0)]) ∧ σ (j + 1) = oAC cT 120 (fun _ => 0)
def oR0 (cT : Nat → ClassId) (ad : Nat → Nat) (σ : Nat → va_E) (j : Nat) : Prop := σ j = .inr (3, [.ref (ad (j + 1)), .ref (ad (j + 2)), .int (oI 0), .ref (ad (j + 3)), .ref (ad (j + 4))]) ∧ σ (j + 1) = oAI cT 201 (fun _ => 0) ∧ σ (j + 2) = oAI cT 201 (fun _ => 0) ∧ σ (j + 3) = oAJ cT 4 (fun _ => 0) ∧ σ (j + 4) = oAJ cT 4 (fun _ => 0)
def oL0 (σ : Nat → va_E) (j : Nat) : Prop := σ j = .inr (1, [.int (oI 0), .int (oI 0), .int (oI 0), .int (oI 0)])
section
variable {cT : Nat → ClassId} {ad ad1 : Nat → Nat} {σ σ1 : Nat → va_E} {j M k : Nat}
theorem oM0.mv (h : oM0 cT ad σ j) (hg : ∀ i : Nat, i < M → ad1 i = ad i) (hs : ∀ i : Nat, 1 ≤ i → i < M → σ1 i = σ i) (hj : 1 ≤ j ∧ j + 43 < M) : oM0 cT ad1 σ1 j := by
  refine ⟨by rw [hs j (by omega) (by omega), h.1, hg (j + 1) (by omega)], ?_, fun q hq => (h.2.2 q hq).mv hg hs ⟨by omega, by omega⟩⟩
  rw [hs (j + 1) (by omega) (by omega), h.2.1]
  refine congrArg (oAO cT 14) (funext fun q => ?_)
  by_cases c : q < 14
  · rw [if_pos c, if_pos c, hg _ (by omega)]
  · rw [if_neg c, if_neg c]
theorem oT0.mv (h : oT0 cT ad σ j) (hg : ∀ i : Nat, i < M → ad1 i = ad i) (hs : ∀ i : Nat, 1 ≤ i → i < M → σ1 i = σ i) (hj : 1 ≤ j ∧ j + 1 < M) : oT0 cT ad1 σ1 j :=
  ⟨by rw [hs j (by omega) (by omega), h.1, hg (j + 1) (by omega)], by rw [hs (j + 1) (by omega) (by omega)]; exact h.2⟩
theorem oR0.mv (h : oR0 cT ad σ j) (hg : ∀ i : Nat, i < M → ad1 i = ad i) (hs : ∀ i : Nat, 1 ≤ i → i < M → σ1 i = σ i) (hj : 1 ≤ j ∧ j + 4 < M) : oR0 cT ad1 σ1 j :=
  ⟨by rw [hs j (by omega) (by omega), h.1, hg (j + 1) (by omega), hg (j + 2) (by omega), hg (j + 3) (by omega), hg (j + 4) (by omega)], by rw [hs _ (by omega) (by omega)]; exact h.2.1, by rw [hs _ (by omega) (by omega)]; exact h.2.2.1, by rw [hs _ (by omega) (by omega)]; exact h.2.2.2.1, by rw [hs _ (by omega) (by omega)]; exact h.2.2.2.2⟩
theorem oL0.mv (h : oL0 σ j) (hs : ∀ i : Nat, 1 ≤ i → i < M → σ1 i = σ i) (hj : 1 ≤ j ∧ j < M) : oL0 σ1 j := (hs j (by omega) (by omega)).trans h
theorem oM0.mq (h : oM0 cT ad σ j) (hq : ∀ q : Nat, q ≠ k → σ1 q = σ q) (hj : k < j) : oM0 cT ad σ1 j := ⟨(hq _ (by omega)).trans h.1, (hq _ (by omega)).trans h.2.1, fun q hq9 => (h.2.2 q hq9).mq hq (by omega)⟩
theorem oT0.mq (h : oT0 cT ad σ j) (hq : ∀ q : Nat, q ≠ k → σ1 q = σ q) (hj : k < j) : oT0 cT ad σ1 j := ⟨(hq _ (by omega)).trans h.1, (hq _ (by omega)).trans h.2⟩
theorem oR0.mq (h : oR0 cT ad σ j) (hq : ∀ q : Nat, q ≠ k → σ1 q = σ q) (hj : k < j) : oR0 cT ad σ1 j := ⟨(hq _ (by omega)).trans h.1, (hq _ (by omega)).trans h.2.1, (hq _ (by omega)).trans h.2.2.1, (hq _ (by omega)).trans h.2.2.2.1, (hq _ (by omega)).trans h.2.2.2.2⟩
theorem oL0.mq (h : oL0 σ j) (hq : ∀ q : Nat, q ≠ k → σ1 q = σ q) (hj : k < j) : oL0 σ1 j := (hq _ (by omega)).trans h
end
def oP0 (cT : Nat → ClassId) (ad : Nat → Nat) (σ : Nat → va_E) : Prop := σ 0 = .inr (5, [.ref (ad 1), .ref (ad 4), .ref (ad 7), .ref (ad 10), .int (oI 0), .int (oI 0), .ref (ad 13), .ref (ad 57), .ref (ad 59), .ref (ad 64)]) ∧ oS0 cT ad σ 1 ∧ oS0 cT ad σ 4 ∧ oS0 cT ad σ 7 ∧ oS0 cT ad σ 10 ∧ oM0 cT ad σ 13 ∧ oT0 cT ad σ 57 ∧ oR0 cT ad σ 59 ∧ oL0 σ 64
set_option maxHeartbeats 8000000 in
set_option maxRecDepth 100000 in
theorem c5_init {l : Launch} {D : va_G} {cT : Nat → ClassId} {b0 : Nat} {ad : Nat → Nat} (hA : oAd b0 1 ad) {σ : Nat → va_E} (e0 : σ 0 = .inr (5, [.null, .null, .null, .null, .int (oI 0), .int (oI 0), .null, .null, .null, .null])) :
    oCn l D cT 1 ad b0 yX5_init cX5_init 1 3 160 64 798 [.ref (ad 0)] σ (fun u => oGx 1 ad u.1 ∧ oP0 cT u.1 u.2) := by
  refine m_startN (cc := cX5_init) (by decide) (Nat.le_of_ble_eq_true rfl) rfl ?_
  intro Pp Ee Ss Mm Bb Me Cc Ar ls hx hb hml hown hlk hrt hts hK hH hl hmi hAO
  have hown : Ss.vm.findClass RX5 = some Mm.cls := hown
  obtain ⟨h, hh⟩ : ∃ h : Nat, ad 0 = h := ⟨_, rfl⟩
  have hgT : oGx 1 ad ad := fun _ _ => rfl
  rw [hh] at hl
  refine lv_aload_n hx hb dX5_init_0 rfl (lv_at hl 0 rfl) ?_
  refine W.objInit hx hb hown (hts _ (o_in0 (List.mem_of_getElem? (i := 11) (by decide +kernel)))) (hts _ (o_in0 (List.mem_of_getElem? (i := 12) (by decide +kernel)))) (hts _ (o_in0 (List.mem_of_getElem? (i := 13) (by decide +kernel)))) rfl (by rw [hml]; exact hl.1) rfl dX5_init_1 (Nat.le_of_ble_eq_true rfl) (Nat.le_of_ble_eq_true rfl) ?_
  refine W.eq (g2 := F0 Mm 4 ls []) rfl ?_
  refine lv_aload_n hx hb dX5_init_4 rfl (lv_at hl 0 rfl) ?_
  refine m_newO (ci := 4) (fs := [.null, .null, .int (oI 0), .int (oI 0), .int (oI 0)]) (C := RX4) (T := TX4) (nf := 5) hx hb hts inlX4 tyX4 tyX4_ok hown (o_in0 (List.mem_of_getElem? (i := 14) (by decide +kernel))) (o_in0 (List.mem_of_getElem? (i := 15) (by decide +kernel))) (o_in0 (List.mem_of_getElem? (i := 16) (by decide +kernel))) hK hH hA rfl (fun q9 hq9 => by rcases (show q9 = 0 ∨ q9 = 1 ∨ q9 = 2 ∨ q9 = 3 ∨ q9 = 4 by omega) with rfl | rfl | rfl | rfl | rfl <;> rfl) (Nat.le_of_ble_eq_true rfl) (Nat.le_of_ble_eq_true rfl) dX5_init_5 (fun H a1x s1x hg1 hs1 hn1 hA hH => ?_)
  refine lv_dup hx hb dX5_init_8 rfl ?_
  refine m_init hx hb hml hown hts hAO hK hH hl ciX5_9 (c4_init (j := 1) hA hn1) ⟨Nat.le_of_ble_eq_true rfl, Nat.le_of_ble_eq_true rfl⟩ ⟨Nat.le_of_ble_eq_true rfl, Nat.le_of_ble_eq_true rfl⟩ (Nat.le_of_ble_eq_true rfl) dX5_init_9 (fun a1y s1y H locs hA hpo hH => ?_)
  obtain ⟨hg2, hs2, hnew⟩ := hpo
  have hg : oGx 1 ad a1y := fun q hq => (hg2 q (by omega)).trans (hg1 q hq)
  have hs : ∀ q : Nat, q < 1 → s1y q = σ q := fun q hq => (hs2 q hq).trans (hs1 q hq)
  have hh : a1y 0 = h := (hg 0 (by omega)).trans hh
  have hgT : oGx 1 ad a1y := fun q hq => (hg q (by omega)).trans (hgT q hq)
  have e0 : s1y 0 = .inr (5, [.null, .null, .null, .null, .int (oI 0), .int (oI 0), .null, .null, .null, .null]) := by rw [hs 0 (by omega), e0]
  have g1 : oS0 cT a1y s1y 1 := hnew
  rw [show a1x 1 = a1y 1 from (hg2 _ (by omega)).symm, ← hh]
  refine pf_X5_present hx hb hts hown hK hH hA hmi (k := 0) (by omega) e0 dX5_init_12 (fun H locs s1z e0 hq hH => ?_)
  have g1 := g1.mq hq (by omega)
  refine lv_aload_n hx hb dX5_init_15 rfl (lv_at hl 0 rfl) ?_
  refine m_newO (ci := 4) (fs := [.null, .null, .int (oI 0), .int (oI 0), .int (oI 0)]) (C := RX4) (T := TX4) (nf := 5) hx hb hts inlX4 tyX4 tyX4_ok hown (o_in0 (List.mem_of_getElem? (i := 14) (by decide +kernel))) (o_in0 (List.mem_of_getElem? (i := 15) (by decide +kernel))) (o_in0 (List.mem_of_getElem? (i := 16) (by decide +kernel))) hK hH hA rfl (fun q9 hq9 => by rcases (show q9 = 0 ∨ q9 = 1 ∨ q9 = 2 ∨ q9 = 3 ∨ q9 = 4 by omega) with rfl | rfl | rfl | rfl | rfl <;> rfl) (Nat.le_of_ble_eq_true rfl) (Nat.le_of_ble_eq_true rfl) dX5_init_16 (fun H a4x s4x hg1 hs1 hn1 hA hH => ?_)
  refine lv_dup hx hb dX5_init_19 rfl ?_
  refine m_init hx hb hml hown hts hAO hK hH hl ciX5_9 (c4_init (j := 4) hA hn1) ⟨Nat.le_of_ble_eq_true rfl, Nat.le_of_ble_eq_true rfl⟩ ⟨Nat.le_of_ble_eq_true rfl, Nat.le_of_ble_eq_true rfl⟩ (Nat.le_of_ble_eq_true rfl) dX5_init_20 (fun a4y s4y H locs hA hpo hH => ?_)
  obtain ⟨hg2, hs2, hnew⟩ := hpo
  have hg : oGx 4 a1y a4y := fun q hq => (hg2 q (by omega)).trans (hg1 q hq)
  have hs : ∀ q : Nat, q < 4 → s4y q = s1z q := fun q hq => (hs2 q hq).trans (hs1 q hq)
  have hh : a4y 0 = h := (hg 0 (by omega)).trans hh
  have hgT : oGx 1 ad a4y := fun q hq => (hg q (by omega)).trans (hgT q hq)
  have e0 : s4y 0 = .inr (5, [.ref (a4y 1), .null, .null, .null, .int (oI 0), .int (oI 0), .null, .null, .null, .null]) := by rw [hs 0 (by omega), e0, hg 1 (by omega)]
  have g1 := g1.mv (M := 4) (ad1 := a4y) (σ1 := s4y) (fun x hx9 => hg x hx9) (fun x _ hx9 => hs x hx9) ⟨by omega, by omega⟩
  have g4 : oS0 cT a4y s4y 4 := hnew
  rw [show a4x 4 = a4y 4 from (hg2 _ (by omega)).symm, ← hh]
  refine pf_X5_copy hx hb hts hown hK hH hA hmi (k := 0) (by omega) e0 dX5_init_23 (fun H locs s4z e0 hq hH => ?_)
  have g1 := g1.mq hq (by omega)
  have g4 := g4.mq hq (by omega)
  refine lv_aload_n hx hb dX5_init_26 rfl (lv_at hl 0 rfl) ?_
  refine m_newO (ci := 4) (fs := [.null, .null, .int (oI 0), .int (oI 0), .int (oI 0)]) (C := RX4) (T := TX4) (nf := 5) hx hb hts inlX4 tyX4 tyX4_ok hown (o_in0 (List.mem_of_getElem? (i := 14) (by decide +kernel))) (o_in0 (List.mem_of_getElem? (i := 15) (by decide +kernel))) (o_in0 (List.mem_of_getElem? (i := 16) (by decide +kernel))) hK hH hA rfl (fun q9 hq9 => by rcases (show q9 = 0 ∨ q9 = 1 ∨ q9 = 2 ∨ q9 = 3 ∨ q9 = 4 by omega) with rfl | rfl | rfl | rfl | rfl <;> rfl) (Nat.le_of_ble_eq_true rfl) (Nat.le_of_ble_eq_true rfl) dX5_init_27 (fun H a7x s7x hg1 hs1 hn1 hA hH => ?_)
  refine lv_dup hx hb dX5_init_30 rfl ?_
  refine m_init hx hb hml hown hts hAO hK hH hl ciX5_9 (c4_init (j := 7) hA hn1) ⟨Nat.le_of_ble_eq_true rfl, Nat.le_of_ble_eq_true rfl⟩ ⟨Nat.le_of_ble_eq_true rfl, Nat.le_of_ble_eq_true rfl⟩ (Nat.le_of_ble_eq_true rfl) dX5_init_31 (fun a7y s7y H locs hA hpo hH => ?_)
  obtain ⟨hg2, hs2, hnew⟩ := hpo
  have hg : oGx 7 a4y a7y := fun q hq => (hg2 q (by omega)).trans (hg1 q hq)
  have hs : ∀ q : Nat, q < 7 → s7y q = s4z q := fun q hq => (hs2 q hq).trans (hs1 q hq)
  have hh : a7y 0 = h := (hg 0 (by omega)).trans hh
  have hgT : oGx 1 ad a7y := fun q hq => (hg q (by omega)).trans (hgT q hq)
  have e0 : s7y 0 = .inr (5, [.ref (a7y 1), .ref (a7y 4), .null, .null, .int (oI 0), .int (oI 0), .null, .null, .null, .null]) := by rw [hs 0 (by omega), e0, hg 1 (by omega), hg 4 (by omega)]
  have g1 := g1.mv (M := 7) (ad1 := a7y) (σ1 := s7y) (fun x hx9 => hg x hx9) (fun x _ hx9 => hs x hx9) ⟨by omega, by omega⟩
  have g4 := g4.mv (M := 7) (ad1 := a7y) (σ1 := s7y) (fun x hx9 => hg x hx9) (fun x _ hx9 => hs x hx9) ⟨by omega, by omega⟩
  have g7 : oS0 cT a7y s7y 7 := hnew
  rw [show a7x 7 = a7y 7 from (hg2 _ (by omega)).symm, ← hh]
  refine pf_X5_firstSlot hx hb hts hown hK hH hA hmi (k := 0) (by omega) e0 dX5_init_34 (fun H locs s7z e0 hq hH => ?_)
  have g1 := g1.mq hq (by omega)
  have g4 := g4.mq hq (by omega)
  have g7 := g7.mq hq (by omega)
  refine lv_aload_n hx hb dX5_init_37 rfl (lv_at hl 0 rfl) ?_
  refine m_newO (ci := 4) (fs := [.null, .null, .int (oI 0), .int (oI 0), .int (oI 0)]) (C := RX4) (T := TX4) (nf := 5) hx hb hts inlX4 tyX4 tyX4_ok hown (o_in0 (List.mem_of_getElem? (i := 14) (by decide +kernel))) (o_in0 (List.mem_of_getElem? (i := 15) (by decide +kernel))) (o_in0 (List.mem_of_getElem? (i := 16) (by decide +kernel))) hK hH hA rfl (fun q9 hq9 => by rcases (show q9 = 0 ∨ q9 = 1 ∨ q9 = 2 ∨ q9 = 3 ∨ q9 = 4 by omega) with rfl | rfl | rfl | rfl | rfl <;> rfl) (Nat.le_of_ble_eq_true rfl) (Nat.le_of_ble_eq_true rfl) dX5_init_38 (fun H a10x s10x hg1 hs1 hn1 hA hH => ?_)
  refine lv_dup hx hb dX5_init_41 rfl ?_
  refine m_init hx hb hml hown hts hAO hK hH hl ciX5_9 (c4_init (j := 10) hA hn1) ⟨Nat.le_of_ble_eq_true rfl, Nat.le_of_ble_eq_true rfl⟩ ⟨Nat.le_of_ble_eq_true rfl, Nat.le_of_ble_eq_true rfl⟩ (Nat.le_of_ble_eq_true rfl) dX5_init_42 (fun a10y s10y H locs hA hpo hH => ?_)
  obtain ⟨hg2, hs2, hnew⟩ := hpo
  have hg : oGx 10 a7y a10y := fun q hq => (hg2 q (by omega)).trans (hg1 q hq)
  have hs : ∀ q : Nat, q < 10 → s10y q = s7z q := fun q hq => (hs2 q hq).trans (hs1 q hq)
  have hh : a10y 0 = h := (hg 0 (by omega)).trans hh
  have hgT : oGx 1 ad a10y := fun q hq => (hg q (by omega)).trans (hgT q hq)
  have e0 : s10y 0 = .inr (5, [.ref (a10y 1), .ref (a10y 4), .ref (a10y 7), .null, .int (oI 0), .int (oI 0), .null, .null, .null, .null]) := by rw [hs 0 (by omega), e0, hg 1 (by omega), hg 4 (by omega), hg 7 (by omega)]
  have g1 := g1.mv (M := 10) (ad1 := a10y) (σ1 := s10y) (fun x hx9 => hg x hx9) (fun x _ hx9 => hs x hx9) ⟨by omega, by omega⟩
  have g4 := g4.mv (M := 10) (ad1 := a10y) (σ1 := s10y) (fun x hx9 => hg x hx9) (fun x _ hx9 => hs x hx9) ⟨by omega, by omega⟩
  have g7 := g7.mv (M := 10) (ad1 := a10y) (σ1 := s10y) (fun x hx9 => hg x hx9) (fun x _ hx9 => hs x hx9) ⟨by omega, by omega⟩
  have g10 : oS0 cT a10y s10y 10 := hnew
  rw [show a10x 10 = a10y 10 from (hg2 _ (by omega)).symm, ← hh]
  refine pf_X5_secondSlot hx hb hts hown hK hH hA hmi (k := 0) (by omega) e0 dX5_init_45 (fun H locs s10z e0 hq hH => ?_)
  have g1 := g1.mq hq (by omega)
  have g4 := g4.mq hq (by omega)
  have g7 := g7.mq hq (by omega)
  have g10 := g10.mq hq (by omega)
  refine lv_aload_n hx hb dX5_init_48 rfl (lv_at hl 0 rfl) ?_
  refine m_newO (ci := 2) (fs := [.null, .int (oI 0), .int (oI 0)]) (C := RX2) (T := TX2) (nf := 3) hx hb hts inlX2 tyX2 tyX2_ok hown (o_in0 (List.mem_of_getElem? (i := 21) (by decide +kernel))) (o_in0 (List.mem_of_getElem? (i := 22) (by decide +kernel))) (o_in0 (List.mem_of_getElem? (i := 23) (by decide +kernel))) hK hH hA rfl (fun q9 hq9 => by rcases (show q9 = 0 ∨ q9 = 1 ∨ q9 = 2 by omega) with rfl | rfl | rfl <;> rfl) (Nat.le_of_ble_eq_true rfl) (Nat.le_of_ble_eq_true rfl) dX5_init_49 (fun H a13x s13x hg1 hs1 hn1 hA hH => ?_)
  refine lv_dup hx hb dX5_init_52 rfl ?_
  refine m_init hx hb hml hown hts hAO hK hH hl ciX5_27 (c2_init (j := 13) hA hn1) ⟨Nat.le_of_ble_eq_true rfl, Nat.le_of_ble_eq_true rfl⟩ ⟨Nat.le_of_ble_eq_true rfl, Nat.le_of_ble_eq_true rfl⟩ (Nat.le_of_ble_eq_true rfl) dX5_init_53 (fun a13y s13y H locs hA hpo hH => ?_)
  obtain ⟨hg2, hs2, hnew⟩ := hpo
  have hg : oGx 13 a10y a13y := fun q hq => (hg2 q (by omega)).trans (hg1 q hq)
  have hs : ∀ q : Nat, q < 13 → s13y q = s10z q := fun q hq => (hs2 q hq).trans (hs1 q hq)
  have hh : a13y 0 = h := (hg 0 (by omega)).trans hh
  have hgT : oGx 1 ad a13y := fun q hq => (hg q (by omega)).trans (hgT q hq)
  have e0 : s13y 0 = .inr (5, [.ref (a13y 1), .ref (a13y 4), .ref (a13y 7), .ref (a13y 10), .int (oI 0), .int (oI 0), .null, .null, .null, .null]) := by rw [hs 0 (by omega), e0, hg 1 (by omega), hg 4 (by omega), hg 7 (by omega), hg 10 (by omega)]
  have g1 := g1.mv (M := 13) (ad1 := a13y) (σ1 := s13y) (fun x hx9 => hg x hx9) (fun x _ hx9 => hs x hx9) ⟨by omega, by omega⟩
  have g4 := g4.mv (M := 13) (ad1 := a13y) (σ1 := s13y) (fun x hx9 => hg x hx9) (fun x _ hx9 => hs x hx9) ⟨by omega, by omega⟩
  have g7 := g7.mv (M := 13) (ad1 := a13y) (σ1 := s13y) (fun x hx9 => hg x hx9) (fun x _ hx9 => hs x hx9) ⟨by omega, by omega⟩
  have g10 := g10.mv (M := 13) (ad1 := a13y) (σ1 := s13y) (fun x hx9 => hg x hx9) (fun x _ hx9 => hs x hx9) ⟨by omega, by omega⟩
  have g13 : oM0 cT a13y s13y 13 := hnew
  rw [show a13x 13 = a13y 13 from (hg2 _ (by omega)).symm, ← hh]
  refine pf_X5_memory hx hb hts hown hK hH hA hmi (k := 0) (by omega) e0 dX5_init_56 (fun H locs s13z e0 hq hH => ?_)
  have g1 := g1.mq hq (by omega)
  have g4 := g4.mq hq (by omega)
  have g7 := g7.mq hq (by omega)
  have g10 := g10.mq hq (by omega)
  have g13 := g13.mq hq (by omega)
  refine lv_aload_n hx hb dX5_init_59 rfl (lv_at hl 0 rfl) ?_
  refine m_newO (ci := 0) (fs := [.null, .int (oI 0), .int (oI 0), .int (oI 0), .int (oI 0), .int (oI 0), .int (oI 0), .int (oI 0)]) (C := RX0) (T := TX0) (nf := 8) hx hb hts inlX0 tyX0 tyX0_ok hown (o_in0 (List.mem_of_getElem? (i := 25) (by decide +kernel))) (o_in0 (List.mem_of_getElem? (i := 26) (by decide +kernel))) (o_in0 (List.mem_of_getElem? (i := 27) (by decide +kernel))) hK hH hA rfl (fun q9 hq9 => by rcases (show q9 = 0 ∨ q9 = 1 ∨ q9 = 2 ∨ q9 = 3 ∨ q9 = 4 ∨ q9 = 5 ∨ q9 = 6 ∨ q9 = 7 by omega) with rfl | rfl | rfl | rfl | rfl | rfl | rfl | rfl <;> rfl) (Nat.le_of_ble_eq_true rfl) (Nat.le_of_ble_eq_true rfl) dX5_init_60 (fun H a57x s57x hg1 hs1 hn1 hA hH => ?_)
  refine lv_dup hx hb dX5_init_63 rfl ?_
  refine m_initJ hx hb hml hown hts hAO hK hH hl cjX0 hK.2.1.2.2.2.2.2.2.1 (c0_init (j := 57) hA hn1) ⟨Nat.le_of_ble_eq_true rfl, Nat.le_of_ble_eq_true rfl⟩ ⟨Nat.le_of_ble_eq_true rfl, Nat.le_of_ble_eq_true rfl⟩ (Nat.le_of_ble_eq_true rfl) dX5_init_64 (fun a57y s57y H locs hA hpo hH => ?_)
  obtain ⟨hg2, hs2, hnew⟩ := hpo
  have hg : oGx 57 a13y a57y := fun q hq => (hg2 q (by omega)).trans (hg1 q hq)
  have hs : ∀ q : Nat, q < 57 → s57y q = s13z q := fun q hq => (hs2 q hq).trans (hs1 q hq)
  have hh : a57y 0 = h := (hg 0 (by omega)).trans hh
  have hgT : oGx 1 ad a57y := fun q hq => (hg q (by omega)).trans (hgT q hq)
  have e0 : s57y 0 = .inr (5, [.ref (a57y 1), .ref (a57y 4), .ref (a57y 7), .ref (a57y 10), .int (oI 0), .int (oI 0), .ref (a57y 13), .null, .null, .null]) := by rw [hs 0 (by omega), e0, hg 1 (by omega), hg 4 (by omega), hg 7 (by omega), hg 10 (by omega), hg 13 (by omega)]
  have g1 := g1.mv (M := 57) (ad1 := a57y) (σ1 := s57y) (fun x hx9 => hg x hx9) (fun x _ hx9 => hs x hx9) ⟨by omega, by omega⟩
  have g4 := g4.mv (M := 57) (ad1 := a57y) (σ1 := s57y) (fun x hx9 => hg x hx9) (fun x _ hx9 => hs x hx9) ⟨by omega, by omega⟩
  have g7 := g7.mv (M := 57) (ad1 := a57y) (σ1 := s57y) (fun x hx9 => hg x hx9) (fun x _ hx9 => hs x hx9) ⟨by omega, by omega⟩
  have g10 := g10.mv (M := 57) (ad1 := a57y) (σ1 := s57y) (fun x hx9 => hg x hx9) (fun x _ hx9 => hs x hx9) ⟨by omega, by omega⟩
  have g13 := g13.mv (M := 57) (ad1 := a57y) (σ1 := s57y) (fun x hx9 => hg x hx9) (fun x _ hx9 => hs x hx9) ⟨by omega, by omega⟩
  have g57 : oT0 cT a57y s57y 57 := hnew
  rw [show a57x 57 = a57y 57 from (hg2 _ (by omega)).symm, ← hh]
  refine pf_X5_text hx hb hts hown hK hH hA hmi (k := 0) (by omega) e0 dX5_init_67 (fun H locs s57z e0 hq hH => ?_)
  have g1 := g1.mq hq (by omega)
  have g4 := g4.mq hq (by omega)
  have g7 := g7.mq hq (by omega)
  have g10 := g10.mq hq (by omega)
  have g13 := g13.mq hq (by omega)
  have g57 := g57.mq hq (by omega)
  refine lv_aload_n hx hb dX5_init_70 rfl (lv_at hl 0 rfl) ?_
  refine m_newO (ci := 3) (fs := [.null, .null, .int (oI 0), .null, .null]) (C := RX3) (T := TX3) (nf := 5) hx hb hts inlX3 tyX3 tyX3_ok hown (o_in0 (List.mem_of_getElem? (i := 29) (by decide +kernel))) (o_in0 (List.mem_of_getElem? (i := 30) (by decide +kernel))) (o_in0 (List.mem_of_getElem? (i := 31) (by decide +kernel))) hK hH hA rfl (fun q9 hq9 => by rcases (show q9 = 0 ∨ q9 = 1 ∨ q9 = 2 ∨ q9 = 3 ∨ q9 = 4 by omega) with rfl | rfl | rfl | rfl | rfl <;> rfl) (Nat.le_of_ble_eq_true rfl) (Nat.le_of_ble_eq_true rfl) dX5_init_71 (fun H a59x s59x hg1 hs1 hn1 hA hH => ?_)
  refine lv_dup hx hb dX5_init_74 rfl ?_
  refine m_initJ hx hb hml hown hts hAO hK hH hl cjX3 hK.2.1.2.2.2.2.2.2.2.1 (c3_init (j := 59) hA hn1) ⟨Nat.le_of_ble_eq_true rfl, Nat.le_of_ble_eq_true rfl⟩ ⟨Nat.le_of_ble_eq_true rfl, Nat.le_of_ble_eq_true rfl⟩ (Nat.le_of_ble_eq_true rfl) dX5_init_75 (fun a59y s59y H locs hA hpo hH => ?_)
  obtain ⟨hg2, hs2, hnew⟩ := hpo
  have hg : oGx 59 a57y a59y := fun q hq => (hg2 q (by omega)).trans (hg1 q hq)
  have hs : ∀ q : Nat, q < 59 → s59y q = s57z q := fun q hq => (hs2 q hq).trans (hs1 q hq)
  have hh : a59y 0 = h := (hg 0 (by omega)).trans hh
  have hgT : oGx 1 ad a59y := fun q hq => (hg q (by omega)).trans (hgT q hq)
  have e0 : s59y 0 = .inr (5, [.ref (a59y 1), .ref (a59y 4), .ref (a59y 7), .ref (a59y 10), .int (oI 0), .int (oI 0), .ref (a59y 13), .ref (a59y 57), .null, .null]) := by rw [hs 0 (by omega), e0, hg 1 (by omega), hg 4 (by omega), hg 7 (by omega), hg 10 (by omega), hg 13 (by omega), hg 57 (by omega)]
  have g1 := g1.mv (M := 59) (ad1 := a59y) (σ1 := s59y) (fun x hx9 => hg x hx9) (fun x _ hx9 => hs x hx9) ⟨by omega, by omega⟩
  have g4 := g4.mv (M := 59) (ad1 := a59y) (σ1 := s59y) (fun x hx9 => hg x hx9) (fun x _ hx9 => hs x hx9) ⟨by omega, by omega⟩
  have g7 := g7.mv (M := 59) (ad1 := a59y) (σ1 := s59y) (fun x hx9 => hg x hx9) (fun x _ hx9 => hs x hx9) ⟨by omega, by omega⟩
  have g10 := g10.mv (M := 59) (ad1 := a59y) (σ1 := s59y) (fun x hx9 => hg x hx9) (fun x _ hx9 => hs x hx9) ⟨by omega, by omega⟩
  have g13 := g13.mv (M := 59) (ad1 := a59y) (σ1 := s59y) (fun x hx9 => hg x hx9) (fun x _ hx9 => hs x hx9) ⟨by omega, by omega⟩
  have g57 := g57.mv (M := 59) (ad1 := a59y) (σ1 := s59y) (fun x hx9 => hg x hx9) (fun x _ hx9 => hs x hx9) ⟨by omega, by omega⟩
  have g59 : oR0 cT a59y s59y 59 := hnew
  rw [show a59x 59 = a59y 59 from (hg2 _ (by omega)).symm, ← hh]
  refine pf_X5_reach hx hb hts hown hK hH hA hmi (k := 0) (by omega) e0 dX5_init_78 (fun H locs s59z e0 hq hH => ?_)
  have g1 := g1.mq hq (by omega)
  have g4 := g4.mq hq (by omega)
  have g7 := g7.mq hq (by omega)
  have g10 := g10.mq hq (by omega)
  have g13 := g13.mq hq (by omega)
  have g57 := g57.mq hq (by omega)
  have g59 := g59.mq hq (by omega)
  refine lv_aload_n hx hb dX5_init_81 rfl (lv_at hl 0 rfl) ?_
  refine m_newO (ci := 1) (fs := [.int (oI 0), .int (oI 0), .int (oI 0), .int (oI 0)]) (C := RX1) (T := TX1) (nf := 4) hx hb hts inlX1 tyX1 tyX1_ok hown (o_in0 (List.mem_of_getElem? (i := 33) (by decide +kernel))) (o_in0 (List.mem_of_getElem? (i := 34) (by decide +kernel))) (o_in0 (List.mem_of_getElem? (i := 35) (by decide +kernel))) hK hH hA rfl (fun q9 hq9 => by rcases (show q9 = 0 ∨ q9 = 1 ∨ q9 = 2 ∨ q9 = 3 by omega) with rfl | rfl | rfl | rfl <;> rfl) (Nat.le_of_ble_eq_true rfl) (Nat.le_of_ble_eq_true rfl) dX5_init_82 (fun H a64x s64x hg1 hs1 hn1 hA hH => ?_)
  refine lv_dup hx hb dX5_init_85 rfl ?_
  refine m_initJ hx hb hml hown hts hAO hK hH hl cjX1 hK.2.1.2.2.2.2.2.2.2.2 (c1_init (j := 64) hA hn1) ⟨Nat.le_of_ble_eq_true rfl, Nat.le_of_ble_eq_true rfl⟩ ⟨Nat.le_of_ble_eq_true rfl, Nat.le_of_ble_eq_true rfl⟩ (Nat.le_of_ble_eq_true rfl) dX5_init_86 (fun a64y s64y H locs hA hpo hH => ?_)
  obtain ⟨hg2, hs2, hnew⟩ := hpo
  have hg : oGx 64 a59y a64y := fun q hq => (hg2 q (by omega)).trans (hg1 q hq)
  have hs : ∀ q : Nat, q < 64 → s64y q = s59z q := fun q hq => (hs2 q hq).trans (hs1 q hq)
  have hh : a64y 0 = h := (hg 0 (by omega)).trans hh
  have hgT : oGx 1 ad a64y := fun q hq => (hg q (by omega)).trans (hgT q hq)
  have e0 : s64y 0 = .inr (5, [.ref (a64y 1), .ref (a64y 4), .ref (a64y 7), .ref (a64y 10), .int (oI 0), .int (oI 0), .ref (a64y 13), .ref (a64y 57), .ref (a64y 59), .null]) := by rw [hs 0 (by omega), e0, hg 1 (by omega), hg 4 (by omega), hg 7 (by omega), hg 10 (by omega), hg 13 (by omega), hg 57 (by omega), hg 59 (by omega)]
  have g1 := g1.mv (M := 64) (ad1 := a64y) (σ1 := s64y) (fun x hx9 => hg x hx9) (fun x _ hx9 => hs x hx9) ⟨by omega, by omega⟩
  have g4 := g4.mv (M := 64) (ad1 := a64y) (σ1 := s64y) (fun x hx9 => hg x hx9) (fun x _ hx9 => hs x hx9) ⟨by omega, by omega⟩
  have g7 := g7.mv (M := 64) (ad1 := a64y) (σ1 := s64y) (fun x hx9 => hg x hx9) (fun x _ hx9 => hs x hx9) ⟨by omega, by omega⟩
  have g10 := g10.mv (M := 64) (ad1 := a64y) (σ1 := s64y) (fun x hx9 => hg x hx9) (fun x _ hx9 => hs x hx9) ⟨by omega, by omega⟩
  have g13 := g13.mv (M := 64) (ad1 := a64y) (σ1 := s64y) (fun x hx9 => hg x hx9) (fun x _ hx9 => hs x hx9) ⟨by omega, by omega⟩
  have g57 := g57.mv (M := 64) (ad1 := a64y) (σ1 := s64y) (fun x hx9 => hg x hx9) (fun x _ hx9 => hs x hx9) ⟨by omega, by omega⟩
  have g59 := g59.mv (M := 64) (ad1 := a64y) (σ1 := s64y) (fun x hx9 => hg x hx9) (fun x _ hx9 => hs x hx9) ⟨by omega, by omega⟩
  have g64 : oL0 s64y 64 := hnew
  rw [show a64x 64 = a64y 64 from (hg2 _ (by omega)).symm, ← hh]
  refine pf_X5_laid hx hb hts hown hK hH hA hmi (k := 0) (by omega) e0 dX5_init_89 (fun H locs s64z e0 hq hH => ?_)
  have g1 := g1.mq hq (by omega)
  have g4 := g4.mq hq (by omega)
  have g7 := g7.mq hq (by omega)
  have g10 := g10.mq hq (by omega)
  have g13 := g13.mq hq (by omega)
  have g57 := g57.mq hq (by omega)
  have g59 := g59.mq hq (by omega)
  have g64 := g64.mq hq (by omega)
  exact m_vretN (N0 := 1) (k := 64) hx hb hlk hrt hA hH ⟨Nat.le_of_ble_eq_true rfl, Nat.le_of_ble_eq_true rfl⟩ dX5_init_92 ⟨hgT, e0, g1, g4, g7, g10, g13, g57, g59, g64⟩
