set_option maxRecDepth 100000 in
theorem lw_rel {cT : Nat → ClassId} {ad2 ad4 ad5 : Nat → Nat} {σ2 σ4 σ5 : Nat → va_E} {f2 : Nat → Int} (hp : oP0 cT ad2 σ2) (had : ∀ i : Nat, i < 65 → ad5 i = ad2 i) (hσ : ∀ i : Nat, i < 65 → σ5 i = σ2 i) (hg5 : oGx 75 ad4 ad5) (hs5 : ∀ i : Nat, i < 75 → σ5 i = σ4 i)
    (e65 : σ4 65 = .inr (6, [.int (oI 0), .ref (ad4 66), .int (oI 0), .ref (ad4 67), .ref (ad4 68), .ref (ad4 69), .int (oI 0), .ref (ad4 70), .ref (ad4 71), .ref (ad4 72), .ref (ad4 73), .ref (ad4 74), .int (oI 0), .int (oI 0)])) (e66 : σ4 66 = oAI cT 120 (fun _ => 0)) (e67 : σ4 67 = oAI cT 171 f2) (e68 : σ4 68 = oAI cT 171 (fun _ => 0)) (e69 : σ4 69 = oAI cT 2394 (fun _ => 0)) (e70 : σ4 70 = oAI cT 342 (fun _ => 0)) (e71 : σ4 71 = oAZ cT 2 (fun _ => 0)) (e72 : σ4 72 = oAI cT 41 (fun _ => 0)) (e73 : σ4 73 = oAI cT 201 (fun _ => 0)) (e74 : σ4 74 = oAI cT 201 (fun _ => 0)) (hf2 : ∀ sz w : Nat → Nat, oRS f2 0 2 40 sz w) : oRelC cT ad5 σ5 := by
  obtain ⟨p0, p1, p4, p7, p10, p13, p57, p59, p64⟩ := hp
  have hs : ∀ i : Nat, 1 ≤ i → i < 65 → σ5 i = σ2 i := fun i _ h => hσ i h
  have p1 := p1.mv had hs ⟨by decide, by decide⟩
  have p4 := p4.mv had hs ⟨by decide, by decide⟩
  have p7 := p7.mv had hs ⟨by decide, by decide⟩
  have p10 := p10.mv had hs ⟨by decide, by decide⟩
  have p13 := p13.mv had hs ⟨by decide, by decide⟩
  have p57 := p57.mv had hs ⟨by decide, by decide⟩
  have p59 := p59.mv had hs ⟨by decide, by decide⟩
  have p64 := p64.mv hs ⟨by decide, by decide⟩
  have eA : σ5 14 = oAO cT 14 (oMem ad5) := by
    refine p13.2.1.trans (congrArg (fun f => oAO cT 14 f) (funext fun q => ?_))
    show (if q < 14 then some (ad5 (13 + 2 + 3 * q)) else none) = if q < 14 then some (ad5 (3 * q + 15)) else none
    rw [show 13 + 2 + 3 * q = 3 * q + 15 by omega]
  have e0 : σ5 0 = .inr (5, [.ref (ad5 1), .ref (ad5 4), .ref (ad5 7), .ref (ad5 10), .int (oI 0), .int (oI 0), .ref (ad5 13), .ref (ad5 57), .ref (ad5 59), .ref (ad5 64)]) := by
    rw [hσ 0 (by decide), had 1 (by decide), had 4 (by decide), had 7 (by decide), had 10 (by decide), had 13 (by decide), had 57 (by decide), had 59 (by decide), had 64 (by decide)]
    exact p0
  have hm : ∀ i : Nat, i < 14 → σ5 (3 * i + 15) = .inr (4, [.ref (ad5 (3 * i + 16)), .ref (ad5 (3 * i + 17)), .int (oI ((0 : Nat) : Int)), .int (oI ((2 : Nat) : Int)), .int (oI ((40 : Nat) : Int))]) ∧ σ5 (3 * i + 16) = oAN cT 4 (fun _ => 0) ∧ σ5 (3 * i + 17) = oAJ cT 4 (fun _ => 0) := fun i hi => by
    have h := p13.2.2 i hi
    rw [show 13 + 2 + 3 * i = 3 * i + 15 by omega] at h
    exact h
  have m65 : σ5 65 = .inr (6, [.int (oI 0), .ref (ad5 66), .int (oI 0), .ref (ad5 67), .ref (ad5 68), .ref (ad5 69), .int (oI 0), .ref (ad5 70), .ref (ad5 71), .ref (ad5 72), .ref (ad5 73), .ref (ad5 74), .int (oI 0), .int (oI 0)]) := by
    rw [hs5 65 (by decide), hg5 66 (by decide), hg5 67 (by decide), hg5 68 (by decide), hg5 69 (by decide), hg5 70 (by decide), hg5 71 (by decide), hg5 72 (by decide), hg5 73 (by decide), hg5 74 (by decide)]
    exact e65
  have hP : oRP cT ad5 σ5 ⟨0, 2, 40, fun _ => 0, fun _ => 0, 0, 2, 40, fun _ => 0, fun _ => 0, 0, 2, 40, fun _ => 0, fun _ => 0, 0, 0, 0, 0, fun _ => 0, fun _ => 2, fun _ => 40, fun _ _ => 0, fun _ _ => 0, fun _ => 0, 0⟩ :=
    ⟨e0, p1.1, p1.2.1, p1.2.2, p7.1, p7.2.1, p7.2.2, p10.1, p10.2.1, p10.2.2, p13.1, eA, hm, ⟨0, 0, 0, 0, 0, 0, by decide, by decide, p57.1⟩, p57.2, ⟨0, 2, 40, p4.1⟩, ⟨_, p4.2.1⟩, ⟨_, p4.2.2⟩, ⟨0, p59.1⟩, ⟨_, p59.2.1⟩, ⟨_, p59.2.2.1⟩, ⟨_, p59.2.2.2.1⟩, ⟨_, p59.2.2.2.2⟩, ⟨0, 0, 0, 0, Or.inl rfl, by decide, p64⟩⟩
  have hM : oRM cT ad5 σ5 0 0 ⟨f2, fun _ => 0, fun _ => 0, fun _ => 0, fun _ => 0⟩ :=
    ⟨⟨0, 0, 0, m65⟩, (hs5 66 (by decide)).trans e66, (hs5 67 (by decide)).trans e67, ⟨_, (hs5 68 (by decide)).trans e68⟩, (hs5 69 (by decide)).trans e69, (hs5 70 (by decide)).trans e70, (hs5 71 (by decide)).trans e71, ⟨fun _ => 0, (hs5 72 (by decide)).trans e72⟩, ⟨_, (hs5 73 (by decide)).trans e73⟩, ⟨_, (hs5 74 (by decide)).trans e74⟩⟩
  have hL : oLk ⟨0, 2, 40, fun _ => 0, fun _ => 0, 0, 2, 40, fun _ => 0, fun _ => 0, 0, 2, 40, fun _ => 0, fun _ => 0, 0, 0, 0, 0, fun _ => 0, fun _ => 2, fun _ => 40, fun _ _ => 0, fun _ _ => 0, fun _ => 0, 0⟩ ⟨f2, fun _ => 0, fun _ => 0, fun _ => 0, fun _ => 0⟩ :=
    ⟨⟨⟨Nat.zero_le 4, fun r h => absurd h (Nat.not_lt_zero r)⟩, ⟨⟨by decide, by decide⟩, by decide, by decide⟩, hf2 _ _⟩, (by decide : (0 : Nat) < 14), Nat.zero_le _, fun i _ => Nat.zero_le 4, fun i hi => absurd hi (Nat.not_lt_zero i), Nat.zero_le _, fun i hi => absurd hi (Nat.not_lt_zero i), rfl, Nat.zero_le 4, Nat.zero_le 4, ⟨rfl, Or.inl rfl⟩, ⟨rfl, Or.inl rfl⟩⟩
  exact ⟨_, _, hP, hM, hL⟩
set_option maxHeartbeats 4000000 in
set_option maxRecDepth 100000 in
theorem whole_start {p : Program} {e : Env} {s : State} {m : MethodId} {below : List Frame} {meth : Method} {c : Code} (l : Launch) (hflags : l.flags = flags0) {b L : Nat} {xs : Nat → Int32} (hL : L ≤ 2048) (C0 : lw_At p s m meth c b L xs) : W p l e room_1 s m #[Value.ref b] below meth c s.heap [] 0 0 (lw_Z below #[Value.ref b] s) (entryFrame m ([Value.ref b] : List Value).toArray 7) := by
  obtain ⟨hx, hb, hr, hml, hown, hts0, hX, hbl, hlocks, hgv⟩ := id C0
  have hs := flat_of_before _ hgv
  have hts : ∀ w ∈ wsL_law, w.before #[Value.ref b] s = true := fun w h => hts0 w (wsL_law_in w h)
  have hown : s.vm.findClass RL = some m.cls := hown
  have hl0 : l.stackTraces = false := by
    show (!l.flags.contains noTraceFlag) = false
    rw [hflags]
    decide +kernel
  obtain ⟨hAO, D, cT, hK⟩ := lw_K hts0 hs
  have hT := lw_oX hts0 hs
  have hNc := lw_oNc hs
  have hH : oH s.heap.size D 0 (fun _ => 0) s.heap (fun _ => oAI cT 0 (fun _ => 0)) s.heap [] := ⟨fun k q h => by simp [oW] at h, va_S.rf, Nat.le_refl _⟩
  have hA : oAd s.heap.size 0 (fun _ => 0) := ⟨fun i j hi => absurd hi (Nat.not_lt_zero i), fun k hk => absurd hk (Nat.not_lt_zero k)⟩
  have hl := lv_entry ([.ref b]) (n := 7) (Nat.le_of_ble_eq_true rfl)
  rw [lg_entry_eq]
  generalize (lg_sl ([.ref b]) ++ List.replicate (7 - (lg_sl ([.ref b])).length) Slot.unset).toArray = ls at hl ⊢
  have hl : lv_has ls 7 [(0, .ref b)] := hl
  refine m_newO (ci := 5) (fs := [.null, .null, .null, .null, .int (oI 0), .int (oI 0), .null, .null, .null, .null]) (C := RX5) (T := TX5) (nf := 10) hx hb hts inlX5 tyX5 tyX5_ok hown (o_in0 (List.mem_of_getElem? (i := 0) (by decide +kernel))) (o_in0 (List.mem_of_getElem? (i := 1) (by decide +kernel))) (o_in0 (List.mem_of_getElem? (i := 2) (by decide +kernel))) hK hH hA rfl (fun j hj => by rcases (show j = 0 ∨ j = 1 ∨ j = 2 ∨ j = 3 ∨ j = 4 ∨ j = 5 ∨ j = 6 ∨ j = 7 ∨ j = 8 ∨ j = 9 by omega) with rfl | rfl | rfl | rfl | rfl | rfl | rfl | rfl | rfl | rfl <;> rfl) (by show 0 + 1 ≤ 601024; decide) (by show 0 + 10 ≤ 7293034; decide) dL_law_0 (fun H ad1 σ1 hg1 hs1 e1 hA1 hH => ?_)
  have hA1 : oAd s.heap.size 1 ad1 := hA1
  have hH : oH s.heap.size D 1 ad1 s.heap σ1 H [] := hH
  have e1 : σ1 0 = .inr (5, [.null, .null, .null, .null, .int (oI 0), .int (oI 0), .null, .null, .null, .null]) := e1
  refine lv_dup hx hb dL_law_3 rfl ?_
  refine m_init (j := 0) (rest := [.ref (ad1 0)]) hx hb hml hown hts hAO hK hH hl ciL_91 (c5_init hA1 e1) ⟨Nat.le_of_ble_eq_true rfl, Nat.le_of_ble_eq_true rfl⟩ ⟨by show 0 + 1 + 64 ≤ 601024; decide, by show 0 + 10 + 798 ≤ 7293034; decide⟩ (Nat.le_of_ble_eq_true rfl) dL_law_4 (fun ad2 σ2 H locs hA2 hp hH => ?_)
  have hA2 : oAd s.heap.size 65 ad2 := hA2
  have hH : oH s.heap.size D 65 ad2 s.heap σ2 H locs := hH
  obtain ⟨hg2, hp⟩ := hp
  have hg2 : oGx 1 ad1 ad2 := hg2
  have hp : oP0 cT ad2 σ2 := hp
  rw [← hg2 0 (by decide)]
  refine lv_astore_n (lv' := [(1, .ref (ad2 0)), (0, .ref b)]) hx hb dL_law_7 rfl hl (by decide) rfl (fun ls hl => ?_)
  refine m_newO (ci := 6) (fs := [.int (oI 0), .null, .int (oI 0), .null, .null, .null, .int (oI 0), .null, .null, .null, .null, .null, .int (oI 0), .int (oI 0)]) (C := RX6) (T := TX6) (nf := 14) hx hb hts inlX6 tyX6 tyX6_ok hown (o_in0 (List.mem_of_getElem? (i := 3) (by decide +kernel))) (o_in0 (List.mem_of_getElem? (i := 4) (by decide +kernel))) (o_in0 (List.mem_of_getElem? (i := 5) (by decide +kernel))) hK hH hA2 rfl (fun j hj => by rcases (show j = 0 ∨ j = 1 ∨ j = 2 ∨ j = 3 ∨ j = 4 ∨ j = 5 ∨ j = 6 ∨ j = 7 ∨ j = 8 ∨ j = 9 ∨ j = 10 ∨ j = 11 ∨ j = 12 ∨ j = 13 by omega) with rfl | rfl | rfl | rfl | rfl | rfl | rfl | rfl | rfl | rfl | rfl | rfl | rfl | rfl <;> rfl) (by show 0 + 1 + 64 + 1 ≤ 601024; decide) (by show 0 + 10 + 798 + 14 ≤ 7293034; decide) dL_law_8 (fun H ad3 σ3 hg3 hs3 e3 hA3 hH => ?_)
  have hA3 : oAd s.heap.size 66 ad3 := hA3
  have hH : oH s.heap.size D 66 ad3 s.heap σ3 H locs := hH
  rw [← hg3 0 (by decide)] at hl
  refine lv_dup hx hb dL_law_11 rfl ?_
  refine m_init (j := 65) (rest := [.ref (ad3 65)]) hx hb hml hown hts hAO hK hH hl ciL_94 (c6_init (j := 65) hA3 e3) ⟨Nat.le_of_ble_eq_true rfl, Nat.le_of_ble_eq_true rfl⟩ ⟨by show 0 + 1 + 64 + 1 + 9 ≤ 601024; decide, by show 0 + 10 + 798 + 14 + 3643 ≤ 7293034; decide⟩ (Nat.le_of_ble_eq_true rfl) dL_law_12 (fun ad4 σ4 H locs hA4 hq hH => ?_)
  have hA4 : oAd s.heap.size 75 ad4 := hA4
  have hH : oH s.heap.size D 75 ad4 s.heap σ4 H locs := hH
  obtain ⟨hg4, hs4, e65, e66, e68, e69, e70, e71, e72, e73, e74, f2, e67, hf2⟩ := hq
  have hg4 : oGx 66 ad3 ad4 := hg4
  have hs4 : ∀ i : Nat, i < 65 → σ4 i = σ3 i := hs4
  rw [← hg4 0 (by decide)] at hl
  rw [← hg4 65 (by decide)]
  refine lv_astore_n (lv' := [(2, .ref (ad4 65)), (1, .ref (ad4 0)), (0, .ref b)]) hx hb dL_law_15 rfl hl (by decide) rfl (fun ls hl => ?_)
  refine m_iconst 1 hx hb dL_law_16 rfl ?_
  refine m_newA (atype := .long) (ty := .long) 1 (n := 1) (a1 := (1, .inr (.inl (fun _ => 0)))) hx hb hts rfl rfl (o_in0 (List.mem_of_getElem? (i := 6) (by decide +kernel))) hK hH hA4 (fun _ => rfl) (by decide) (by decide) (Nat.le_of_ble_eq_true rfl) (by show 0 + 1 + 64 + 1 + 9 + 1 ≤ 601024; decide) (by show 0 + 10 + 798 + 14 + 3643 + 1 ≤ 7293034; decide) dL_law_17 (fun H ad5 σ5 hg5 hs5 e75 hA5 hH => ?_)
  have hA5 : oAd s.heap.size 76 ad5 := hA5
  have hH : oH s.heap.size D 76 ad5 s.heap σ5 H locs := hH
  rw [← hg5 0 (by decide), ← hg5 65 (by decide)] at hl
  refine lv_astore_n (lv' := [(3, .ref (ad5 75)), (2, .ref (ad5 65)), (1, .ref (ad5 0)), (0, .ref b)]) hx hb dL_law_19 rfl hl (by decide) rfl (fun ls hl => ?_)
  refine m_iconst 0 hx hb dL_law_20 rfl ?_
  refine lv_istore (lv' := [(4, .int (oI 0)), (3, .ref (ad5 75)), (2, .ref (ad5 65)), (1, .ref (ad5 0)), (0, .ref b)]) hx hb dL_law_21 hl (by decide) rfl (fun ls hl => ?_)
  have had : ∀ i : Nat, i < 65 → ad5 i = ad2 i := fun i hi => (hg5 i (by omega)).trans ((hg4 i (by omega)).trans (hg3 i hi))
  have hσ : ∀ i : Nat, i < 65 → σ5 i = σ2 i := fun i hi => (hs5 i (by omega)).trans ((hs4 i hi).trans (hs3 i hi))
  have hR : oRelW cT ad5 σ5 := ⟨lw_rel hp had hσ hg5 hs5 e65 e66 e67 e68 e69 e70 e71 e72 e73 e74 hf2, _, e75⟩
  exact law_loop ⟨hx, hb, hml, hown, hts, hX, hbl, hL, hK, hT, hNc, hA5, hl0⟩ hr hlocks (L + 4) 0 (Nat.zero_le _) (by omega) σ5 H locs hR hH ls (lv_sub hl [4, 3, 2, 1, 0] rfl)
