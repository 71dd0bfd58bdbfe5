set_option maxRecDepth 100000 in
theorem lc_0 {p : Program} {l : Launch} {e : Env} {s : State} {m : MethodId} {below : List Frame} {meth : Method} {c : Code} {b L : Nat} {xs : Nat → Int32} {D : va_G} {cT : Nat → ClassId} {ad : Nat → Nat} {Q : State → Prop} (hC : lwC p l s m c b L xs D cT ad) {i : Nat} (hi : i + 4 ≤ L) {σ : Nat → va_E} {H : Heap} {locs : List Loc} {cells slots : Nat} (hR : oRelW cT ad σ) (hH : oH s.heap.size D 76 ad s.heap σ H locs) {ls : Array Slot} (hl : lv_has ls 7 (lwB b ad i)) (hc : cells + 2 ≤ 601024 ∧ slots + 12 ≤ 7293034)
    (kk : ∀ (σ1 : Nat → va_E) (H1 : Heap) (locs1 : List Loc) (ls1 : Array Slot), oRelW cT ad σ1 → oH s.heap.size D 76 ad s.heap σ1 H1 locs1 → lv_has ls1 7 (lwB b ad i) → W p l e room_1 s m #[Value.ref b] below meth c H1 locs1 (cells + 2) (slots + 12) Q (F0 m 1759 ls1 [])) :
    W p l e room_1 s m #[Value.ref b] below meth c H locs cells slots Q (F0 m 156 ls []) := by
  obtain ⟨hx, hb, hml, hown, hts, hX, hbl, hLL, hK, hT, hNc, hA, hl0⟩ := hC
  obtain ⟨v1, hv1⟩ : ∃ y : Int, (xs (i + 1)).toInt = y := ⟨_, rfl⟩
  have hb1 : -2147483648 ≤ v1 ∧ v1 < 2147483648 := by rw [← hv1]; exact oI_rng _
  obtain ⟨fs0, e0⟩ := hR.1.c0
  obtain ⟨F0, e75⟩ := hR.2
  obtain ⟨post5, fr, lo, kc, hM5, hb5, hp5⟩ := (kX_append hA hl0 hR.1 v1 hb1).use hR (fun hM h1 h2 => hL_append hA (Nat.le_refl 76) hM e0 e75 h1 (fun E u h => (h2 E u h))) (by decide)
  refine lv_aload_n hx hb dL_law_156 rfl (lv_at hl 1 rfl) ?_
  refine lv_aload_n hx hb dL_law_157 rfl (lv_at hl 0 rfl) ?_
  refine lv_iload hx hb dL_law_158 (lv_at hl 4 rfl) ?_
  refine m_iconst 1 hx hb dL_law_160 rfl ?_
  refine m_iadd (((i : Nat) : Int) + 1) hx hb dL_law_161 rfl ?_
  refine m_sld hx hb hX hbl hLL hH (i + 1) (by omega) (by omega) v1 hv1 dL_law_162 ?_
  refine lv_aload_n hx hb dL_law_163 rfl (lv_at hl 3 rfl) ?_
  refine m_lawH (rest := []) (As := [.ref (ad 0), .int (oI v1), .ref (ad 75)]) hx hb hml hown hts hK hT hNc hH hl cs_L_95 hM5 ⟨by show fr + 1 ≤ 12; omega, by show _ ≤ 434; omega⟩ ⟨by show cells + kc ≤ 601024; omega, by show slots + 6 * kc ≤ 7293034; omega⟩ rfl rfl (Nat.le_of_ble_eq_true rfl) dL_law_164 (fun r5 s1 H locs hq5 hH => ?_)
  refine W.widen (k := cells + 2) (n := slots + 12) (by omega) (by omega) ?_
  obtain ⟨k5, v, F, hr5, hk5, hvb, h75, hF, ⟨fs6, e65⟩, post6, FR6, LO6, hM6, hb6, hp6⟩ := hp5 _ _ hq5
  rw [hr5]
  refine lv_istore (lv' := [(5, .int (oI k5)), (0, .ref b), (1, .ref (ad 0)), (2, .ref (ad 65)), (3, .ref (ad 75)), (4, .int (oI ((i : Nat) : Int)))]) hx hb dL_law_167 hl (by decide) rfl (fun ls hl => ?_)
  refine lv_aload_n hx hb dL_law_169 rfl (lv_at hl 3 rfl) ?_
  refine lv_aload_n hx hb dL_law_170 rfl (lv_at hl 1 rfl) ?_
  refine lv_iload hx hb dL_law_171 (lv_at hl 5 rfl) ?_
  refine m_iconst 1 hx hb dL_law_173 rfl ?_
  refine m_iadd (((i : Nat) : Int) + 1) hx hb dL_law_174 rfl ?_
  refine m_sld hx hb hX hbl hLL hH (i + 1) (by omega) (by omega) v1 hv1 dL_law_175 ?_
  refine m_callVi (C := RX6) (k := 65) (rest := []) (As := [.int (oI v1)]) hx hb hml hown hts hK hH hl cw_L_100 hM6 ⟨by show FR6 + 1 ≤ 12; omega, by show _ ≤ 434; omega⟩ ⟨by show cells + 2 ≤ 601024; omega, by show slots + 12 ≤ 7293034; omega⟩ rfl (by decide) e65 rfl rfl (Nat.le_of_ble_eq_true rfl) dL_law_176 (fun r6 s2 H locs hq6 hH => ?_)
  obtain ⟨hf6, rf, z, ms, ⟨spo, ou6, c65⟩, hrf, hrk, hr6, hfin⟩ := hp6 _ _ hq6
  have hRel := hfin (fun q hq9 => hf6 q (Or.inl hq9))
  have c75 := (hf6 75 (Or.inr rfl)).trans h75
  refine lv_istore (lv' := [(6, .int r6), (5, .int (oI k5)), (0, .ref b), (1, .ref (ad 0)), (2, .ref (ad 65)), (3, .ref (ad 75)), (4, .int (oI ((i : Nat) : Int)))]) hx hb dL_law_179 hl (by decide) rfl (fun ls hl => ?_)
  refine lv_aload_n hx hb dL_law_181 rfl (lv_at hl 4 rfl) ?_
  refine m_callVi (C := RX6) (k := 65) (rest := []) (As := []) hx hb hml hown hts hK hH hl cw_L_101 (c6_thrown hA z ms spo ou6 rf (Nat.le_refl 76) ⟨by omega, by omega⟩ c65) ⟨by show 0 + 1 ≤ 12; omega, by show _ ≤ 434; omega⟩ ⟨by show cells + 2 ≤ 601024; omega, by show slots + 12 ≤ 7293034; omega⟩ rfl (by decide) c65 rfl rfl (Nat.le_of_ble_eq_true rfl) dL_law_182 (fun r7 s3 H locs hq7 hH => ?_)
  obtain ⟨h7, h8⟩ := hq7
  rw [h8] at hH
  rw [h7, hrk]
  refine lv_iload hx hb dL_law_185 (lv_at hl 1 rfl) ?_
  refine m_icmp_eq 192 hx hb dL_law_187 (by decide) (by omega) (by omega) (fun _ => ?_) (fun h => absurd rfl h)
  refine lv_iload hx hb dL_law_192 (lv_at hl 1 rfl) ?_
  refine m_if_ne 209 hx hb dL_law_194 (by decide) (by omega) (fun _ => ?_) (fun h0 => ?_)
  · refine lv_goto (tgt := 1759) hx hb dL_law_209 (by decide) ?_
    exact kk s2 H locs ls ⟨hRel, F, c75⟩ hH (lv_sub hl [2, 3, 4, 5, 6] rfl)
  · rw [hr6 h0] at hl
    refine lv_aload_n hx hb dL_law_197 rfl (lv_at hl 5 rfl) ?_
    refine m_iconst 0 hx hb dL_law_198 rfl ?_
    refine m_lald hx hb hK hH (k := 75) (by decide) c75 0 rfl (by decide) (by decide) dL_law_199 ?_
    rw [hF h0]
    refine lv_iload hx hb dL_law_200 (lv_at hl 0 rfl) ?_
    refine m_i2l hx hb dL_law_202 hvb ?_
    refine m_lcmp_eq 209 hx hb dL_law_203 dL_law_204 (by decide) ⟨by omega, by omega⟩ ⟨by omega, by omega⟩ (fun _ => ?_) (fun h => absurd rfl h)
    refine lv_goto (tgt := 1759) hx hb dL_law_209 (by decide) ?_
    exact kk s2 H locs ls ⟨hRel, F, c75⟩ hH (lv_sub hl [2, 3, 4, 5, 6] rfl)
set_option maxRecDepth 100000 in
theorem lc_1 {p : Program} {l : Launch} {e : Env} {s : State} {m : MethodId} {below : List Frame} {meth : Method} {c : Code} {b L : Nat} {xs : Nat → Int32} {D : va_G} {cT : Nat → ClassId} {ad : Nat → Nat} {Q : State → Prop} (hC : lwC p l s m c b L xs D cT ad) {i : Nat} (hi : i + 4 ≤ L) {σ : Nat → va_E} {H : Heap} {locs : List Loc} {cells slots : Nat} (hR : oRelW cT ad σ) (hH : oH s.heap.size D 76 ad s.heap σ H locs) {ls : Array Slot} (hl : lv_has ls 7 (lwB b ad i)) (hc : cells + 2 ≤ 601024 ∧ slots + 12 ≤ 7293034)
    (kk : ∀ (σ1 : Nat → va_E) (H1 : Heap) (locs1 : List Loc) (ls1 : Array Slot), oRelW cT ad σ1 → oH s.heap.size D 76 ad s.heap σ1 H1 locs1 → lv_has ls1 7 (lwB b ad i) → W p l e room_1 s m #[Value.ref b] below meth c H1 locs1 (cells + 2) (slots + 12) Q (F0 m 1759 ls1 [])) :
    W p l e room_1 s m #[Value.ref b] below meth c H locs cells slots Q (F0 m 212 ls []) := by
  obtain ⟨hx, hb, hml, hown, hts, hX, hbl, hLL, hK, hT, hNc, hA, hl0⟩ := hC
  obtain ⟨fs0, e0⟩ := hR.1.c0
  obtain ⟨F, e75⟩ := hR.2
  obtain ⟨fs6, e65⟩ := hR.1.c65
  obtain ⟨Ok, ⟨post5, FR, LO, hM5, hb5, hp5⟩, h6⟩ := kX_clearText hA hl0 hR.1
  refine lv_aload_n hx hb dL_law_212 rfl (lv_at hl 1 rfl) ?_
  refine m_callVi (C := RX5) (k := 0) (rest := []) (As := []) hx hb hml hown hts hK hH hl cw_L_104 hM5 ⟨by show FR + 1 ≤ 12; omega, by show _ ≤ 434; omega⟩ ⟨by show cells ≤ 601024; omega, by show slots ≤ 7293034; omega⟩ rfl (by decide) e0 rfl rfl (Nat.le_of_ble_eq_true rfl) dL_law_213 (fun r5 s1 H locs hq5 hH => ?_)
  obtain ⟨hf5, hok⟩ := hp5 _ _ hq5
  obtain ⟨post6, FR6, LO6, hM6, hb6, hp6⟩ := h6 _ _ hok (fun q h1 h2 => hf5 q h1)
  refine lv_aload_n hx hb dL_law_216 rfl (lv_at hl 2 rfl) ?_
  refine m_callVi (C := RX6) (k := 65) (rest := [.int r5]) (As := []) hx hb hml hown hts hK hH hl cw_L_107 hM6 ⟨by show FR6 + 1 ≤ 12; omega, by show _ ≤ 434; omega⟩ ⟨by show cells ≤ 601024; omega, by show slots ≤ 7293034; omega⟩ rfl (by decide) ((hf5 65 (by decide)).trans e65) rfl rfl (Nat.le_of_ble_eq_true rfl) dL_law_217 (fun r6 s2 H locs hq6 hH => ?_)
  obtain ⟨hf6, rf, z, ms, _, _, hr6, hfin⟩ := hp6 _ _ hq6
  rw [hr6]
  refine lv_icmp_eq (tgt := 1759) hx hb dL_law_220 (by decide) (fun _ => ?_) (fun h => absurd rfl h)
  refine W.widen (k := cells + 2) (n := slots + 12) (by omega) (by omega) ?_
  exact kk s2 H locs ls ⟨hfin s2 (fun q hq9 => hf6 q (Or.inl hq9)) (fun q _ _ => rfl), F, (hf6 75 (Or.inr rfl)).trans ((hf5 75 (by decide)).trans e75)⟩ hH hl
set_option maxRecDepth 100000 in
theorem lc_2 {p : Program} {l : Launch} {e : Env} {s : State} {m : MethodId} {below : List Frame} {meth : Method} {c : Code} {b L : Nat} {xs : Nat → Int32} {D : va_G} {cT : Nat → ClassId} {ad : Nat → Nat} {Q : State → Prop} (hC : lwC p l s m c b L xs D cT ad) {i : Nat} (hi : i + 4 ≤ L) {σ : Nat → va_E} {H : Heap} {locs : List Loc} {cells slots : Nat} (hR : oRelW cT ad σ) (hH : oH s.heap.size D 76 ad s.heap σ H locs) {ls : Array Slot} (hl : lv_has ls 7 (lwB b ad i)) (hc : cells + 2 ≤ 601024 ∧ slots + 12 ≤ 7293034)
    (kk : ∀ (σ1 : Nat → va_E) (H1 : Heap) (locs1 : List Loc) (ls1 : Array Slot), oRelW cT ad σ1 → oH s.heap.size D 76 ad s.heap σ1 H1 locs1 → lv_has ls1 7 (lwB b ad i) → W p l e room_1 s m #[Value.ref b] below meth c H1 locs1 (cells + 2) (slots + 12) Q (F0 m 1759 ls1 [])) :
    W p l e room_1 s m #[Value.ref b] below meth c H locs cells slots Q (F0 m 225 ls []) := by
  obtain ⟨hx, hb, hml, hown, hts, hX, hbl, hLL, hK, hT, hNc, hA, hl0⟩ := hC
  obtain ⟨fs0, e0⟩ := hR.1.c0
  obtain ⟨F, e75⟩ := hR.2
  obtain ⟨fs6, e65⟩ := hR.1.c65
  obtain ⟨Ok, ⟨post5, FR, LO, hM5, hb5, hp5⟩, h6⟩ := kX_errorPosition hA hl0 hR.1
  refine lv_aload_n hx hb dL_law_225 rfl (lv_at hl 1 rfl) ?_
  refine m_callVi (C := RX5) (k := 0) (rest := []) (As := []) hx hb hml hown hts hK hH hl cw_L_108 hM5 ⟨by show FR + 1 ≤ 12; omega, by show _ ≤ 434; omega⟩ ⟨by show cells ≤ 601024; omega, by show slots ≤ 7293034; omega⟩ rfl (by decide) e0 rfl rfl (Nat.le_of_ble_eq_true rfl) dL_law_226 (fun r5 s1 H locs hq5 hH => ?_)
  obtain ⟨hf5, hok⟩ := hp5 _ _ hq5
  obtain ⟨post6, FR6, LO6, hM6, hb6, hp6⟩ := h6 _ _ hok (fun q h1 h2 => hf5 q h1)
  refine lv_aload_n hx hb dL_law_229 rfl (lv_at hl 2 rfl) ?_
  refine m_callVi (C := RX6) (k := 65) (rest := [.int r5]) (As := []) hx hb hml hown hts hK hH hl cw_L_111 hM6 ⟨by show FR6 + 1 ≤ 12; omega, by show _ ≤ 434; omega⟩ ⟨by show cells ≤ 601024; omega, by show slots ≤ 7293034; omega⟩ rfl (by decide) ((hf5 65 (by decide)).trans e65) rfl rfl (Nat.le_of_ble_eq_true rfl) dL_law_230 (fun r6 s2 H locs hq6 hH => ?_)
  obtain ⟨hf6, rf, z, ms, _, _, hr6, hfin⟩ := hp6 _ _ hq6
  rw [hr6]
  refine lv_icmp_eq (tgt := 1759) hx hb dL_law_233 (by decide) (fun _ => ?_) (fun h => absurd rfl h)
  refine W.widen (k := cells + 2) (n := slots + 12) (by omega) (by omega) ?_
  exact kk s2 H locs ls ⟨hfin s2 (fun q hq9 => hf6 q (Or.inl hq9)) (fun q _ _ => rfl), F, (hf6 75 (Or.inr rfl)).trans ((hf5 75 (by decide)).trans e75)⟩ hH hl
set_option maxRecDepth 100000 in
theorem lc_3 {p : Program} {l : Launch} {e : Env} {s : State} {m : MethodId} {below : List Frame} {meth : Method} {c : Code} {b L : Nat} {xs : Nat → Int32} {D : va_G} {cT : Nat → ClassId} {ad : Nat → Nat} {Q : State → Prop} (hC : lwC p l s m c b L xs D cT ad) {i : Nat} (hi : i + 4 ≤ L) {σ : Nat → va_E} {H : Heap} {locs : List Loc} {cells slots : Nat} (hR : oRelW cT ad σ) (hH : oH s.heap.size D 76 ad s.heap σ H locs) {ls : Array Slot} (hl : lv_has ls 7 (lwB b ad i)) (hc : cells + 2 ≤ 601024 ∧ slots + 12 ≤ 7293034)
    (kk : ∀ (σ1 : Nat → va_E) (H1 : Heap) (locs1 : List Loc) (ls1 : Array Slot), oRelW cT ad σ1 → oH s.heap.size D 76 ad s.heap σ1 H1 locs1 → lv_has ls1 7 (lwB b ad i) → W p l e room_1 s m #[Value.ref b] below meth c H1 locs1 (cells + 2) (slots + 12) Q (F0 m 1759 ls1 [])) :
    W p l e room_1 s m #[Value.ref b] below meth c H locs cells slots Q (F0 m 238 ls []) := by
  obtain ⟨hx, hb, hml, hown, hts, hX, hbl, hLL, hK, hT, hNc, hA, hl0⟩ := hC
  obtain ⟨fs0, e0⟩ := hR.1.c0
  obtain ⟨F0, e75⟩ := hR.2
  obtain ⟨post5, fr, lo, kc, hM5, hb5, hp5⟩ := (kX_load hA hl0 hR.1 ).use hR (fun hM h1 h2 => hL_load hA (Nat.le_refl 76) hM e0 e75 h1 (fun E u h => (h2 E u h).elim id id)) (by decide)
  refine lv_aload_n hx hb dL_law_238 rfl (lv_at hl 1 rfl) ?_
  refine lv_aload_n hx hb dL_law_239 rfl (lv_at hl 3 rfl) ?_
  refine m_lawH (rest := []) (As := [.ref (ad 0), .ref (ad 75)]) hx hb hml hown hts hK hT hNc hH hl cs_L_112 hM5 ⟨by show fr + 1 ≤ 12; omega, by show _ ≤ 434; omega⟩ ⟨by show cells + kc ≤ 601024; omega, by show slots + 6 * kc ≤ 7293034; omega⟩ rfl rfl (Nat.le_of_ble_eq_true rfl) dL_law_240 (fun r5 s1 H locs hq5 hH => ?_)
  refine W.widen (k := cells + 2) (n := slots + 12) (by omega) (by omega) ?_
  obtain ⟨k5, v, F, hr5, hk5, hvb, h75, hF, ⟨fs6, e65⟩, post6, FR6, LO6, hM6, hb6, hp6⟩ := hp5 _ _ hq5
  rw [hr5]
  refine lv_istore (lv' := [(5, .int (oI k5)), (0, .ref b), (1, .ref (ad 0)), (2, .ref (ad 65)), (3, .ref (ad 75)), (4, .int (oI ((i : Nat) : Int)))]) hx hb dL_law_243 hl (by decide) rfl (fun ls hl => ?_)
  refine lv_aload_n hx hb dL_law_245 rfl (lv_at hl 3 rfl) ?_
  refine m_callVi (C := RX6) (k := 65) (rest := []) (As := []) hx hb hml hown hts hK hH hl cw_L_115 hM6 ⟨by show FR6 + 1 ≤ 12; omega, by show _ ≤ 434; omega⟩ ⟨by show cells + 2 ≤ 601024; omega, by show slots + 12 ≤ 7293034; omega⟩ rfl (by decide) e65 rfl rfl (Nat.le_of_ble_eq_true rfl) dL_law_246 (fun r6 s2 H locs hq6 hH => ?_)
  obtain ⟨hf6, rf, z, ms, ⟨spo, ou6, c65⟩, hrf, hrk, hr6, hfin⟩ := hp6 _ _ hq6
  have hRel := hfin (fun q hq9 => hf6 q (Or.inl hq9))
  have c75 := (hf6 75 (Or.inr rfl)).trans h75
  refine lv_istore (lv' := [(6, .int r6), (5, .int (oI k5)), (0, .ref b), (1, .ref (ad 0)), (2, .ref (ad 65)), (3, .ref (ad 75)), (4, .int (oI ((i : Nat) : Int)))]) hx hb dL_law_249 hl (by decide) rfl (fun ls hl => ?_)
  refine lv_aload_n hx hb dL_law_251 rfl (lv_at hl 4 rfl) ?_
  refine m_callVi (C := RX6) (k := 65) (rest := []) (As := []) hx hb hml hown hts hK hH hl cw_L_101 (c6_thrown hA z ms spo ou6 rf (Nat.le_refl 76) ⟨by omega, by omega⟩ c65) ⟨by show 0 + 1 ≤ 12; omega, by show _ ≤ 434; omega⟩ ⟨by show cells + 2 ≤ 601024; omega, by show slots + 12 ≤ 7293034; omega⟩ rfl (by decide) c65 rfl rfl (Nat.le_of_ble_eq_true rfl) dL_law_252 (fun r7 s3 H locs hq7 hH => ?_)
  obtain ⟨h7, h8⟩ := hq7
  rw [h8] at hH
  rw [h7, hrk]
  refine lv_iload hx hb dL_law_255 (lv_at hl 1 rfl) ?_
  refine m_icmp_eq 262 hx hb dL_law_257 (by decide) (by omega) (by omega) (fun _ => ?_) (fun h => absurd rfl h)
  refine lv_iload hx hb dL_law_262 (lv_at hl 1 rfl) ?_
  refine m_if_ne 279 hx hb dL_law_264 (by decide) (by omega) (fun _ => ?_) (fun h0 => ?_)
  · refine lv_goto (tgt := 1759) hx hb dL_law_279 (by decide) ?_
    exact kk s2 H locs ls ⟨hRel, F, c75⟩ hH (lv_sub hl [2, 3, 4, 5, 6] rfl)
  · rw [hr6 h0] at hl
    refine lv_aload_n hx hb dL_law_267 rfl (lv_at hl 5 rfl) ?_
    refine m_iconst 0 hx hb dL_law_268 rfl ?_
    refine m_lald hx hb hK hH (k := 75) (by decide) c75 0 rfl (by decide) (by decide) dL_law_269 ?_
    rw [hF h0]
    refine lv_iload hx hb dL_law_270 (lv_at hl 0 rfl) ?_
    refine m_i2l hx hb dL_law_272 hvb ?_
    refine m_lcmp_eq 279 hx hb dL_law_273 dL_law_274 (by decide) ⟨by omega, by omega⟩ ⟨by omega, by omega⟩ (fun _ => ?_) (fun h => absurd rfl h)
    refine lv_goto (tgt := 1759) hx hb dL_law_279 (by decide) ?_
    exact kk s2 H locs ls ⟨hRel, F, c75⟩ hH (lv_sub hl [2, 3, 4, 5, 6] rfl)
set_option maxRecDepth 100000 in
theorem lc_4 {p : Program} {l : Launch} {e : Env} {s : State} {m : MethodId} {below : List Frame} {meth : Method} {c : Code} {b L : Nat} {xs : Nat → Int32} {D : va_G} {cT : Nat → ClassId} {ad : Nat → Nat} {Q : State → Prop} (hC : lwC p l s m c b L xs D cT ad) {i : Nat} (hi : i + 4 ≤ L) {σ : Nat → va_E} {H : Heap} {locs : List Loc} {cells slots : Nat} (hR : oRelW cT ad σ) (hH : oH s.heap.size D 76 ad s.heap σ H locs) {ls : Array Slot} (hl : lv_has ls 7 (lwB b ad i)) (hc : cells + 2 ≤ 601024 ∧ slots + 12 ≤ 7293034)
    (kk : ∀ (σ1 : Nat → va_E) (H1 : Heap) (locs1 : List Loc) (ls1 : Array Slot), oRelW cT ad σ1 → oH s.heap.size D 76 ad s.heap σ1 H1 locs1 → lv_has ls1 7 (lwB b ad i) → W p l e room_1 s m #[Value.ref b] below meth c H1 locs1 (cells + 2) (slots + 12) Q (F0 m 1759 ls1 [])) :
    W p l e room_1 s m #[Value.ref b] below meth c H locs cells slots Q (F0 m 282 ls []) := by
  obtain ⟨hx, hb, hml, hown, hts, hX, hbl, hLL, hK, hT, hNc, hA, hl0⟩ := hC
  obtain ⟨v1, hv1⟩ : ∃ y : Int, (xs (i + 1)).toInt = y := ⟨_, rfl⟩
  have hb1 : -2147483648 ≤ v1 ∧ v1 < 2147483648 := by rw [← hv1]; exact oI_rng _
  obtain ⟨fs0, e0⟩ := hR.1.c0
  obtain ⟨F0, e75⟩ := hR.2
  obtain ⟨post5, fr, lo, kc, hM5, hb5, hp5⟩ := (kX_about hA hl0 hR.1 v1 hb1).use hR (fun hM h1 h2 => hL_about hA (Nat.le_refl 76) hM e0 e75 h1 (fun E u h => (h2 E u h).elim id id)) (by decide)
  refine lv_aload_n hx hb dL_law_282 rfl (lv_at hl 1 rfl) ?_
  refine lv_aload_n hx hb dL_law_283 rfl (lv_at hl 0 rfl) ?_
  refine lv_iload hx hb dL_law_284 (lv_at hl 4 rfl) ?_
  refine m_iconst 1 hx hb dL_law_286 rfl ?_
  refine m_iadd (((i : Nat) : Int) + 1) hx hb dL_law_287 rfl ?_
  refine m_sld hx hb hX hbl hLL hH (i + 1) (by omega) (by omega) v1 hv1 dL_law_288 ?_
  refine lv_aload_n hx hb dL_law_289 rfl (lv_at hl 3 rfl) ?_
  refine m_lawH (rest := []) (As := [.ref (ad 0), .int (oI v1), .ref (ad 75)]) hx hb hml hown hts hK hT hNc hH hl cs_L_116 hM5 ⟨by show fr + 1 ≤ 12; omega, by show _ ≤ 434; omega⟩ ⟨by show cells + kc ≤ 601024; omega, by show slots + 6 * kc ≤ 7293034; omega⟩ rfl rfl (Nat.le_of_ble_eq_true rfl) dL_law_290 (fun r5 s1 H locs hq5 hH => ?_)
  refine W.widen (k := cells + 2) (n := slots + 12) (by omega) (by omega) ?_
  obtain ⟨k5, v, F, hr5, hk5, hvb, h75, hF, ⟨fs6, e65⟩, post6, FR6, LO6, hM6, hb6, hp6⟩ := hp5 _ _ hq5
  rw [hr5]
  refine lv_istore (lv' := [(5, .int (oI k5)), (0, .ref b), (1, .ref (ad 0)), (2, .ref (ad 65)), (3, .ref (ad 75)), (4, .int (oI ((i : Nat) : Int)))]) hx hb dL_law_293 hl (by decide) rfl (fun ls hl => ?_)
  refine lv_aload_n hx hb dL_law_295 rfl (lv_at hl 3 rfl) ?_
  refine lv_aload_n hx hb dL_law_296 rfl (lv_at hl 1 rfl) ?_
  refine lv_iload hx hb dL_law_297 (lv_at hl 5 rfl) ?_
  refine m_iconst 1 hx hb dL_law_299 rfl ?_
  refine m_iadd (((i : Nat) : Int) + 1) hx hb dL_law_300 rfl ?_
  refine m_sld hx hb hX hbl hLL hH (i + 1) (by omega) (by omega) v1 hv1 dL_law_301 ?_
  refine m_callVi (C := RX6) (k := 65) (rest := []) (As := [.int (oI v1)]) hx hb hml hown hts hK hH hl cw_L_118 hM6 ⟨by show FR6 + 1 ≤ 12; omega, by show _ ≤ 434; omega⟩ ⟨by show cells + 2 ≤ 601024; omega, by show slots + 12 ≤ 7293034; omega⟩ rfl (by decide) e65 rfl rfl (Nat.le_of_ble_eq_true rfl) dL_law_302 (fun r6 s2 H locs hq6 hH => ?_)
  obtain ⟨hf6, rf, z, ms, ⟨spo, ou6, c65⟩, hrf, hrk, hr6, hfin⟩ := hp6 _ _ hq6
  have hRel := hfin (fun q hq9 => hf6 q (Or.inl hq9))
  have c75 := (hf6 75 (Or.inr rfl)).trans h75
  refine lv_istore (lv' := [(6, .int r6), (5, .int (oI k5)), (0, .ref b), (1, .ref (ad 0)), (2, .ref (ad 65)), (3, .ref (ad 75)), (4, .int (oI ((i : Nat) : Int)))]) hx hb dL_law_305 hl (by decide) rfl (fun ls hl => ?_)
  refine lv_aload_n hx hb dL_law_307 rfl (lv_at hl 4 rfl) ?_
  refine m_callVi (C := RX6) (k := 65) (rest := []) (As := []) hx hb hml hown hts hK hH hl cw_L_101 (c6_thrown hA z ms spo ou6 rf (Nat.le_refl 76) ⟨by omega, by omega⟩ c65) ⟨by show 0 + 1 ≤ 12; omega, by show _ ≤ 434; omega⟩ ⟨by show cells + 2 ≤ 601024; omega, by show slots + 12 ≤ 7293034; omega⟩ rfl (by decide) c65 rfl rfl (Nat.le_of_ble_eq_true rfl) dL_law_308 (fun r7 s3 H locs hq7 hH => ?_)
  obtain ⟨h7, h8⟩ := hq7
  rw [h8] at hH
  rw [h7, hrk]
  refine lv_iload hx hb dL_law_311 (lv_at hl 1 rfl) ?_
  refine m_icmp_eq 318 hx hb dL_law_313 (by decide) (by omega) (by omega) (fun _ => ?_) (fun h => absurd rfl h)
  refine lv_iload hx hb dL_law_318 (lv_at hl 1 rfl) ?_
  refine m_if_ne 335 hx hb dL_law_320 (by decide) (by omega) (fun _ => ?_) (fun h0 => ?_)
  · refine lv_goto (tgt := 1759) hx hb dL_law_335 (by decide) ?_
    exact kk s2 H locs ls ⟨hRel, F, c75⟩ hH (lv_sub hl [2, 3, 4, 5, 6] rfl)
  · rw [hr6 h0] at hl
    refine lv_aload_n hx hb dL_law_323 rfl (lv_at hl 5 rfl) ?_
    refine m_iconst 0 hx hb dL_law_324 rfl ?_
    refine m_lald hx hb hK hH (k := 75) (by decide) c75 0 rfl (by decide) (by decide) dL_law_325 ?_
    rw [hF h0]
    refine lv_iload hx hb dL_law_326 (lv_at hl 0 rfl) ?_
    refine m_i2l hx hb dL_law_328 hvb ?_
    refine m_lcmp_eq 335 hx hb dL_law_329 dL_law_330 (by decide) ⟨by omega, by omega⟩ ⟨by omega, by omega⟩ (fun _ => ?_) (fun h => absurd rfl h)
    refine lv_goto (tgt := 1759) hx hb dL_law_335 (by decide) ?_
    exact kk s2 H locs ls ⟨hRel, F, c75⟩ hH (lv_sub hl [2, 3, 4, 5, 6] rfl)
set_option maxRecDepth 100000 in
theorem lc_5 {p : Program} {l : Launch} {e : Env} {s : State} {m : MethodId} {below : List Frame} {meth : Method} {c : Code} {b L : Nat} {xs : Nat → Int32} {D : va_G} {cT : Nat → ClassId} {ad : Nat → Nat} {Q : State → Prop} (hC : lwC p l s m c b L xs D cT ad) {i : Nat} (hi : i + 4 ≤ L) {σ : Nat → va_E} {H : Heap} {locs : List Loc} {cells slots : Nat} (hR : oRelW cT ad σ) (hH : oH s.heap.size D 76 ad s.heap σ H locs) {ls : Array Slot} (hl : lv_has ls 7 (lwB b ad i)) (hc : cells + 2 ≤ 601024 ∧ slots + 12 ≤ 7293034)
    (kk : ∀ (σ1 : Nat → va_E) (H1 : Heap) (locs1 : List Loc) (ls1 : Array Slot), oRelW cT ad σ1 → oH s.heap.size D 76 ad s.heap σ1 H1 locs1 → lv_has ls1 7 (lwB b ad i) → W p l e room_1 s m #[Value.ref b] below meth c H1 locs1 (cells + 2) (slots + 12) Q (F0 m 1759 ls1 [])) :
    W p l e room_1 s m #[Value.ref b] below meth c H locs cells slots Q (F0 m 338 ls []) := by
  obtain ⟨hx, hb, hml, hown, hts, hX, hbl, hLL, hK, hT, hNc, hA, hl0⟩ := hC
  obtain ⟨v1, hv1⟩ : ∃ y : Int, (xs (i + 1)).toInt = y := ⟨_, rfl⟩
  have hb1 : -2147483648 ≤ v1 ∧ v1 < 2147483648 := by rw [← hv1]; exact oI_rng _
  obtain ⟨v2, hv2⟩ : ∃ y : Int, (xs (i + 2)).toInt = y := ⟨_, rfl⟩
  have hb2 : -2147483648 ≤ v2 ∧ v2 < 2147483648 := by rw [← hv2]; exact oI_rng _
  obtain ⟨fs0, e0⟩ := hR.1.c0
  obtain ⟨F0, e75⟩ := hR.2
  obtain ⟨post5, fr, lo, kc, hM5, hb5, hp5⟩ := (kX_rulerOf hA hl0 hR.1 v1 v2 hb1 hb2).use hR (fun hM h1 h2 => hL_rulerOf hA (Nat.le_refl 76) hM e0 e75 h1 (fun E u h => (h2 E u h))) (by decide)
  refine lv_aload_n hx hb dL_law_338 rfl (lv_at hl 1 rfl) ?_
  refine lv_aload_n hx hb dL_law_339 rfl (lv_at hl 0 rfl) ?_
  refine lv_iload hx hb dL_law_340 (lv_at hl 4 rfl) ?_
  refine m_iconst 1 hx hb dL_law_342 rfl ?_
  refine m_iadd (((i : Nat) : Int) + 1) hx hb dL_law_343 rfl ?_
  refine m_sld hx hb hX hbl hLL hH (i + 1) (by omega) (by omega) v1 hv1 dL_law_344 ?_
  refine lv_aload_n hx hb dL_law_345 rfl (lv_at hl 0 rfl) ?_
  refine lv_iload hx hb dL_law_346 (lv_at hl 4 rfl) ?_
  refine m_iconst 2 hx hb dL_law_348 rfl ?_
  refine m_iadd (((i : Nat) : Int) + 2) hx hb dL_law_349 rfl ?_
  refine m_sld hx hb hX hbl hLL hH (i + 2) (by omega) (by omega) v2 hv2 dL_law_350 ?_
  refine lv_aload_n hx hb dL_law_351 rfl (lv_at hl 3 rfl) ?_
  refine m_lawH (rest := []) (As := [.ref (ad 0), .int (oI v1), .int (oI v2), .ref (ad 75)]) hx hb hml hown hts hK hT hNc hH hl cs_L_119 hM5 ⟨by show fr + 1 ≤ 12; omega, by show _ ≤ 434; omega⟩ ⟨by show cells + kc ≤ 601024; omega, by show slots + 6 * kc ≤ 7293034; omega⟩ rfl rfl (Nat.le_of_ble_eq_true rfl) dL_law_352 (fun r5 s1 H locs hq5 hH => ?_)
  refine W.widen (k := cells + 2) (n := slots + 12) (by omega) (by omega) ?_
  obtain ⟨k5, v, F, hr5, hk5, hvb, h75, hF, ⟨fs6, e65⟩, post6, FR6, LO6, hM6, hb6, hp6⟩ := hp5 _ _ hq5
  rw [hr5]
  refine lv_istore (lv' := [(5, .int (oI k5)), (0, .ref b), (1, .ref (ad 0)), (2, .ref (ad 65)), (3, .ref (ad 75)), (4, .int (oI ((i : Nat) : Int)))]) hx hb dL_law_355 hl (by decide) rfl (fun ls hl => ?_)
  refine lv_aload_n hx hb dL_law_357 rfl (lv_at hl 3 rfl) ?_
  refine lv_aload_n hx hb dL_law_358 rfl (lv_at hl 1 rfl) ?_
  refine lv_iload hx hb dL_law_359 (lv_at hl 5 rfl) ?_
  refine m_iconst 1 hx hb dL_law_361 rfl ?_
  refine m_iadd (((i : Nat) : Int) + 1) hx hb dL_law_362 rfl ?_
  refine m_sld hx hb hX hbl hLL hH (i + 1) (by omega) (by omega) v1 hv1 dL_law_363 ?_
  refine lv_aload_n hx hb dL_law_364 rfl (lv_at hl 1 rfl) ?_
  refine lv_iload hx hb dL_law_365 (lv_at hl 5 rfl) ?_
  refine m_iconst 2 hx hb dL_law_367 rfl ?_
  refine m_iadd (((i : Nat) : Int) + 2) hx hb dL_law_368 rfl ?_
  refine m_sld hx hb hX hbl hLL hH (i + 2) (by omega) (by omega) v2 hv2 dL_law_369 ?_
  refine m_callVi (C := RX6) (k := 65) (rest := []) (As := [.int (oI v1), .int (oI v2)]) hx hb hml hown hts hK hH hl cw_L_122 hM6 ⟨by show FR6 + 1 ≤ 12; omega, by show _ ≤ 434; omega⟩ ⟨by show cells + 2 ≤ 601024; omega, by show slots + 12 ≤ 7293034; omega⟩ rfl (by decide) e65 rfl rfl (Nat.le_of_ble_eq_true rfl) dL_law_370 (fun r6 s2 H locs hq6 hH => ?_)
  obtain ⟨hf6, rf, z, ms, ⟨spo, ou6, c65⟩, hrf, hrk, hr6, hfin⟩ := hp6 _ _ hq6
  have hRel := hfin (fun q hq9 => hf6 q (Or.inl hq9))
  have c75 := (hf6 75 (Or.inr rfl)).trans h75
  refine lv_istore (lv' := [(6, .int r6), (5, .int (oI k5)), (0, .ref b), (1, .ref (ad 0)), (2, .ref (ad 65)), (3, .ref (ad 75)), (4, .int (oI ((i : Nat) : Int)))]) hx hb dL_law_373 hl (by decide) rfl (fun ls hl => ?_)
  refine lv_aload_n hx hb dL_law_375 rfl (lv_at hl 4 rfl) ?_
  refine m_callVi (C := RX6) (k := 65) (rest := []) (As := []) hx hb hml hown hts hK hH hl cw_L_101 (c6_thrown hA z ms spo ou6 rf (Nat.le_refl 76) ⟨by omega, by omega⟩ c65) ⟨by show 0 + 1 ≤ 12; omega, by show _ ≤ 434; omega⟩ ⟨by show cells + 2 ≤ 601024; omega, by show slots + 12 ≤ 7293034; omega⟩ rfl (by decide) c65 rfl rfl (Nat.le_of_ble_eq_true rfl) dL_law_376 (fun r7 s3 H locs hq7 hH => ?_)
  obtain ⟨h7, h8⟩ := hq7
  rw [h8] at hH
  rw [h7, hrk]
  refine lv_iload hx hb dL_law_379 (lv_at hl 1 rfl) ?_
  refine m_icmp_eq 386 hx hb dL_law_381 (by decide) (by omega) (by omega) (fun _ => ?_) (fun h => absurd rfl h)
  refine lv_iload hx hb dL_law_386 (lv_at hl 1 rfl) ?_
  refine m_if_ne 403 hx hb dL_law_388 (by decide) (by omega) (fun _ => ?_) (fun h0 => ?_)
  · refine lv_goto (tgt := 1759) hx hb dL_law_403 (by decide) ?_
    exact kk s2 H locs ls ⟨hRel, F, c75⟩ hH (lv_sub hl [2, 3, 4, 5, 6] rfl)
  · rw [hr6 h0] at hl
    refine lv_aload_n hx hb dL_law_391 rfl (lv_at hl 5 rfl) ?_
    refine m_iconst 0 hx hb dL_law_392 rfl ?_
    refine m_lald hx hb hK hH (k := 75) (by decide) c75 0 rfl (by decide) (by decide) dL_law_393 ?_
    rw [hF h0]
    refine lv_iload hx hb dL_law_394 (lv_at hl 0 rfl) ?_
    refine m_i2l hx hb dL_law_396 hvb ?_
    refine m_lcmp_eq 403 hx hb dL_law_397 dL_law_398 (by decide) ⟨by omega, by omega⟩ ⟨by omega, by omega⟩ (fun _ => ?_) (fun h => absurd rfl h)
    refine lv_goto (tgt := 1759) hx hb dL_law_403 (by decide) ?_
    exact kk s2 H locs ls ⟨hRel, F, c75⟩ hH (lv_sub hl [2, 3, 4, 5, 6] rfl)
set_option maxRecDepth 100000 in
theorem lc_6 {p : Program} {l : Launch} {e : Env} {s : State} {m : MethodId} {below : List Frame} {meth : Method} {c : Code} {b L : Nat} {xs : Nat → Int32} {D : va_G} {cT : Nat → ClassId} {ad : Nat → Nat} {Q : State → Prop} (hC : lwC p l s m c b L xs D cT ad) {i : Nat} (hi : i + 4 ≤ L) {σ : Nat → va_E} {H : Heap} {locs : List Loc} {cells slots : Nat} (hR : oRelW cT ad σ) (hH : oH s.heap.size D 76 ad s.heap σ H locs) {ls : Array Slot} (hl : lv_has ls 7 (lwB b ad i)) (hc : cells + 2 ≤ 601024 ∧ slots + 12 ≤ 7293034)
    (kk : ∀ (σ1 : Nat → va_E) (H1 : Heap) (locs1 : List Loc) (ls1 : Array Slot), oRelW cT ad σ1 → oH s.heap.size D 76 ad s.heap σ1 H1 locs1 → lv_has ls1 7 (lwB b ad i) → W p l e room_1 s m #[Value.ref b] below meth c H1 locs1 (cells + 2) (slots + 12) Q (F0 m 1759 ls1 [])) :
    W p l e room_1 s m #[Value.ref b] below meth c H locs cells slots Q (F0 m 406 ls []) := by
  obtain ⟨hx, hb, hml, hown, hts, hX, hbl, hLL, hK, hT, hNc, hA, hl0⟩ := hC
  obtain ⟨v1, hv1⟩ : ∃ y : Int, (xs (i + 1)).toInt = y := ⟨_, rfl⟩
  have hb1 : -2147483648 ≤ v1 ∧ v1 < 2147483648 := by rw [← hv1]; exact oI_rng _
  obtain ⟨v2, hv2⟩ : ∃ y : Int, (xs (i + 2)).toInt = y := ⟨_, rfl⟩
  have hb2 : -2147483648 ≤ v2 ∧ v2 < 2147483648 := by rw [← hv2]; exact oI_rng _
  obtain ⟨fs0, e0⟩ := hR.1.c0
  obtain ⟨F0, e75⟩ := hR.2
  obtain ⟨post5, fr, lo, kc, hM5, hb5, hp5⟩ := (kX_isMarked hA hl0 hR.1 v1 v2 hb1 hb2).use hR (fun hM h1 h2 => hL_isMarked hA (Nat.le_refl 76) hM e0 e75 h1 (fun E u h => (h2 E u h).elim id id)) (by decide)
  refine lv_aload_n hx hb dL_law_406 rfl (lv_at hl 1 rfl) ?_
  refine lv_aload_n hx hb dL_law_407 rfl (lv_at hl 0 rfl) ?_
  refine lv_iload hx hb dL_law_408 (lv_at hl 4 rfl) ?_
  refine m_iconst 1 hx hb dL_law_410 rfl ?_
  refine m_iadd (((i : Nat) : Int) + 1) hx hb dL_law_411 rfl ?_
  refine m_sld hx hb hX hbl hLL hH (i + 1) (by omega) (by omega) v1 hv1 dL_law_412 ?_
  refine lv_aload_n hx hb dL_law_413 rfl (lv_at hl 0 rfl) ?_
  refine lv_iload hx hb dL_law_414 (lv_at hl 4 rfl) ?_
  refine m_iconst 2 hx hb dL_law_416 rfl ?_
  refine m_iadd (((i : Nat) : Int) + 2) hx hb dL_law_417 rfl ?_
  refine m_sld hx hb hX hbl hLL hH (i + 2) (by omega) (by omega) v2 hv2 dL_law_418 ?_
  refine lv_aload_n hx hb dL_law_419 rfl (lv_at hl 3 rfl) ?_
  refine m_lawH (rest := []) (As := [.ref (ad 0), .int (oI v1), .int (oI v2), .ref (ad 75)]) hx hb hml hown hts hK hT hNc hH hl cs_L_123 hM5 ⟨by show fr + 1 ≤ 12; omega, by show _ ≤ 434; omega⟩ ⟨by show cells + kc ≤ 601024; omega, by show slots + 6 * kc ≤ 7293034; omega⟩ rfl rfl (Nat.le_of_ble_eq_true rfl) dL_law_420 (fun r5 s1 H locs hq5 hH => ?_)
  refine W.widen (k := cells + 2) (n := slots + 12) (by omega) (by omega) ?_
  obtain ⟨k5, v, F, hr5, hk5, hvb, h75, hF, ⟨fs6, e65⟩, post6, FR6, LO6, hM6, hb6, hp6⟩ := hp5 _ _ hq5
  rw [hr5]
  refine lv_istore (lv' := [(5, .int (oI k5)), (0, .ref b), (1, .ref (ad 0)), (2, .ref (ad 65)), (3, .ref (ad 75)), (4, .int (oI ((i : Nat) : Int)))]) hx hb dL_law_423 hl (by decide) rfl (fun ls hl => ?_)
  refine lv_aload_n hx hb dL_law_425 rfl (lv_at hl 3 rfl) ?_
  refine lv_aload_n hx hb dL_law_426 rfl (lv_at hl 1 rfl) ?_
  refine lv_iload hx hb dL_law_427 (lv_at hl 5 rfl) ?_
  refine m_iconst 1 hx hb dL_law_429 rfl ?_
  refine m_iadd (((i : Nat) : Int) + 1) hx hb dL_law_430 rfl ?_
  refine m_sld hx hb hX hbl hLL hH (i + 1) (by omega) (by omega) v1 hv1 dL_law_431 ?_
  refine lv_aload_n hx hb dL_law_432 rfl (lv_at hl 1 rfl) ?_
  refine lv_iload hx hb dL_law_433 (lv_at hl 5 rfl) ?_
  refine m_iconst 2 hx hb dL_law_435 rfl ?_
  refine m_iadd (((i : Nat) : Int) + 2) hx hb dL_law_436 rfl ?_
  refine m_sld hx hb hX hbl hLL hH (i + 2) (by omega) (by omega) v2 hv2 dL_law_437 ?_
  refine m_callVi (C := RX6) (k := 65) (rest := []) (As := [.int (oI v1), .int (oI v2)]) hx hb hml hown hts hK hH hl cw_L_125 hM6 ⟨by show FR6 + 1 ≤ 12; omega, by show _ ≤ 434; omega⟩ ⟨by show cells + 2 ≤ 601024; omega, by show slots + 12 ≤ 7293034; omega⟩ rfl (by decide) e65 rfl rfl (Nat.le_of_ble_eq_true rfl) dL_law_438 (fun r6 s2 H locs hq6 hH => ?_)
  obtain ⟨hf6, rf, z, ms, ⟨spo, ou6, c65⟩, hrf, hrk, hr6, hfin⟩ := hp6 _ _ hq6
  have hRel := hfin (fun q hq9 => hf6 q (Or.inl hq9))
  have c75 := (hf6 75 (Or.inr rfl)).trans h75
  refine lv_istore (lv' := [(6, .int r6), (5, .int (oI k5)), (0, .ref b), (1, .ref (ad 0)), (2, .ref (ad 65)), (3, .ref (ad 75)), (4, .int (oI ((i : Nat) : Int)))]) hx hb dL_law_441 hl (by decide) rfl (fun ls hl => ?_)
  refine lv_aload_n hx hb dL_law_443 rfl (lv_at hl 4 rfl) ?_
  refine m_callVi (C := RX6) (k := 65) (rest := []) (As := []) hx hb hml hown hts hK hH hl cw_L_101 (c6_thrown hA z ms spo ou6 rf (Nat.le_refl 76) ⟨by omega, by omega⟩ c65) ⟨by show 0 + 1 ≤ 12; omega, by show _ ≤ 434; omega⟩ ⟨by show cells + 2 ≤ 601024; omega, by show slots + 12 ≤ 7293034; omega⟩ rfl (by decide) c65 rfl rfl (Nat.le_of_ble_eq_true rfl) dL_law_444 (fun r7 s3 H locs hq7 hH => ?_)
  obtain ⟨h7, h8⟩ := hq7
  rw [h8] at hH
  rw [h7, hrk]
  refine lv_iload hx hb dL_law_447 (lv_at hl 1 rfl) ?_
  refine m_icmp_eq 454 hx hb dL_law_449 (by decide) (by omega) (by omega) (fun _ => ?_) (fun h => absurd rfl h)
  refine lv_iload hx hb dL_law_454 (lv_at hl 1 rfl) ?_
  refine m_if_ne 471 hx hb dL_law_456 (by decide) (by omega) (fun _ => ?_) (fun h0 => ?_)
  · refine lv_goto (tgt := 1759) hx hb dL_law_471 (by decide) ?_
    exact kk s2 H locs ls ⟨hRel, F, c75⟩ hH (lv_sub hl [2, 3, 4, 5, 6] rfl)
  · rw [hr6 h0] at hl
    refine lv_aload_n hx hb dL_law_459 rfl (lv_at hl 5 rfl) ?_
    refine m_iconst 0 hx hb dL_law_460 rfl ?_
    refine m_lald hx hb hK hH (k := 75) (by decide) c75 0 rfl (by decide) (by decide) dL_law_461 ?_
    rw [hF h0]
    refine lv_iload hx hb dL_law_462 (lv_at hl 0 rfl) ?_
    refine m_i2l hx hb dL_law_464 hvb ?_
    refine m_lcmp_eq 471 hx hb dL_law_465 dL_law_466 (by decide) ⟨by omega, by omega⟩ ⟨by omega, by omega⟩ (fun _ => ?_) (fun h => absurd rfl h)
    refine lv_goto (tgt := 1759) hx hb dL_law_471 (by decide) ?_
    exact kk s2 H locs ls ⟨hRel, F, c75⟩ hH (lv_sub hl [2, 3, 4, 5, 6] rfl)
set_option maxRecDepth 100000 in
theorem lc_7 {p : Program} {l : Launch} {e : Env} {s : State} {m : MethodId} {below : List Frame} {meth : Method} {c : Code} {b L : Nat} {xs : Nat → Int32} {D : va_G} {cT : Nat → ClassId} {ad : Nat → Nat} {Q : State → Prop} (hC : lwC p l s m c b L xs D cT ad) {i : Nat} (hi : i + 4 ≤ L) {σ : Nat → va_E} {H : Heap} {locs : List Loc} {cells slots : Nat} (hR : oRelW cT ad σ) (hH : oH s.heap.size D 76 ad s.heap σ H locs) {ls : Array Slot} (hl : lv_has ls 7 (lwB b ad i)) (hc : cells + 2 ≤ 601024 ∧ slots + 12 ≤ 7293034)
    (kk : ∀ (σ1 : Nat → va_E) (H1 : Heap) (locs1 : List Loc) (ls1 : Array Slot), oRelW cT ad σ1 → oH s.heap.size D 76 ad s.heap σ1 H1 locs1 → lv_has ls1 7 (lwB b ad i) → W p l e room_1 s m #[Value.ref b] below meth c H1 locs1 (cells + 2) (slots + 12) Q (F0 m 1759 ls1 [])) :
    W p l e room_1 s m #[Value.ref b] below meth c H locs cells slots Q (F0 m 474 ls []) := by
  obtain ⟨hx, hb, hml, hown, hts, hX, hbl, hLL, hK, hT, hNc, hA, hl0⟩ := hC
  obtain ⟨v1, hv1⟩ : ∃ y : Int, (xs (i + 1)).toInt = y := ⟨_, rfl⟩
  have hb1 : -2147483648 ≤ v1 ∧ v1 < 2147483648 := by rw [← hv1]; exact oI_rng _
  obtain ⟨v2, hv2⟩ : ∃ y : Int, (xs (i + 2)).toInt = y := ⟨_, rfl⟩
  have hb2 : -2147483648 ≤ v2 ∧ v2 < 2147483648 := by rw [← hv2]; exact oI_rng _
  obtain ⟨v3, hv3⟩ : ∃ y : Int, (xs (i + 3)).toInt = y := ⟨_, rfl⟩
  have hb3 : -2147483648 ≤ v3 ∧ v3 < 2147483648 := by rw [← hv3]; exact oI_rng _
  obtain ⟨fs0, e0⟩ := hR.1.c0
  obtain ⟨F0, e75⟩ := hR.2
  obtain ⟨post5, fr, lo, kc, hM5, hb5, hp5⟩ := (kX_span hA hl0 hR.1 v1 v2 v3 hb1 hb2 hb3).use hR (fun hM h1 h2 => hL_span hA (Nat.le_refl 76) hM e0 e75 h1 (fun E u h => (h2 E u h))) (by decide)
  refine lv_aload_n hx hb dL_law_474 rfl (lv_at hl 1 rfl) ?_
  refine lv_aload_n hx hb dL_law_475 rfl (lv_at hl 0 rfl) ?_
  refine lv_iload hx hb dL_law_476 (lv_at hl 4 rfl) ?_
  refine m_iconst 1 hx hb dL_law_478 rfl ?_
  refine m_iadd (((i : Nat) : Int) + 1) hx hb dL_law_479 rfl ?_
  refine m_sld hx hb hX hbl hLL hH (i + 1) (by omega) (by omega) v1 hv1 dL_law_480 ?_
  refine lv_aload_n hx hb dL_law_481 rfl (lv_at hl 0 rfl) ?_
  refine lv_iload hx hb dL_law_482 (lv_at hl 4 rfl) ?_
  refine m_iconst 2 hx hb dL_law_484 rfl ?_
  refine m_iadd (((i : Nat) : Int) + 2) hx hb dL_law_485 rfl ?_
  refine m_sld hx hb hX hbl hLL hH (i + 2) (by omega) (by omega) v2 hv2 dL_law_486 ?_
  refine lv_aload_n hx hb dL_law_487 rfl (lv_at hl 0 rfl) ?_
  refine lv_iload hx hb dL_law_488 (lv_at hl 4 rfl) ?_
  refine m_iconst 3 hx hb dL_law_490 rfl ?_
  refine m_iadd (((i : Nat) : Int) + 3) hx hb dL_law_491 rfl ?_
  refine m_sld hx hb hX hbl hLL hH (i + 3) (by omega) (by omega) v3 hv3 dL_law_492 ?_
  refine lv_aload_n hx hb dL_law_493 rfl (lv_at hl 3 rfl) ?_
  refine m_lawH (rest := []) (As := [.ref (ad 0), .int (oI v1), .int (oI v2), .int (oI v3), .ref (ad 75)]) hx hb hml hown hts hK hT hNc hH hl cs_L_126 hM5 ⟨by show fr + 1 ≤ 12; omega, by show _ ≤ 434; omega⟩ ⟨by show cells + kc ≤ 601024; omega, by show slots + 6 * kc ≤ 7293034; omega⟩ rfl rfl (Nat.le_of_ble_eq_true rfl) dL_law_494 (fun r5 s1 H locs hq5 hH => ?_)
  refine W.widen (k := cells + 2) (n := slots + 12) (by omega) (by omega) ?_
  obtain ⟨k5, v, F, hr5, hk5, hvb, h75, hF, ⟨fs6, e65⟩, post6, FR6, LO6, hM6, hb6, hp6⟩ := hp5 _ _ hq5
  rw [hr5]
  refine lv_istore (lv' := [(5, .int (oI k5)), (0, .ref b), (1, .ref (ad 0)), (2, .ref (ad 65)), (3, .ref (ad 75)), (4, .int (oI ((i : Nat) : Int)))]) hx hb dL_law_497 hl (by decide) rfl (fun ls hl => ?_)
  refine lv_aload_n hx hb dL_law_499 rfl (lv_at hl 3 rfl) ?_
  refine lv_aload_n hx hb dL_law_500 rfl (lv_at hl 1 rfl) ?_
  refine lv_iload hx hb dL_law_501 (lv_at hl 5 rfl) ?_
  refine m_iconst 1 hx hb dL_law_503 rfl ?_
  refine m_iadd (((i : Nat) : Int) + 1) hx hb dL_law_504 rfl ?_
  refine m_sld hx hb hX hbl hLL hH (i + 1) (by omega) (by omega) v1 hv1 dL_law_505 ?_
  refine lv_aload_n hx hb dL_law_506 rfl (lv_at hl 1 rfl) ?_
  refine lv_iload hx hb dL_law_507 (lv_at hl 5 rfl) ?_
  refine m_iconst 2 hx hb dL_law_509 rfl ?_
  refine m_iadd (((i : Nat) : Int) + 2) hx hb dL_law_510 rfl ?_
  refine m_sld hx hb hX hbl hLL hH (i + 2) (by omega) (by omega) v2 hv2 dL_law_511 ?_
  refine lv_aload_n hx hb dL_law_512 rfl (lv_at hl 1 rfl) ?_
  refine lv_iload hx hb dL_law_513 (lv_at hl 5 rfl) ?_
  refine m_iconst 3 hx hb dL_law_515 rfl ?_
  refine m_iadd (((i : Nat) : Int) + 3) hx hb dL_law_516 rfl ?_
  refine m_sld hx hb hX hbl hLL hH (i + 3) (by omega) (by omega) v3 hv3 dL_law_517 ?_
  refine m_callVi (C := RX6) (k := 65) (rest := []) (As := [.int (oI v1), .int (oI v2), .int (oI v3)]) hx hb hml hown hts hK hH hl cw_L_129 hM6 ⟨by show FR6 + 1 ≤ 12; omega, by show _ ≤ 434; omega⟩ ⟨by show cells + 2 ≤ 601024; omega, by show slots + 12 ≤ 7293034; omega⟩ rfl (by decide) e65 rfl rfl (Nat.le_of_ble_eq_true rfl) dL_law_518 (fun r6 s2 H locs hq6 hH => ?_)
  obtain ⟨hf6, rf, z, ms, ⟨spo, ou6, c65⟩, hrf, hrk, hr6, hfin⟩ := hp6 _ _ hq6
  have hRel := hfin (fun q hq9 => hf6 q (Or.inl hq9))
  have c75 := (hf6 75 (Or.inr rfl)).trans h75
  refine lv_istore (lv' := [(6, .int r6), (5, .int (oI k5)), (0, .ref b), (1, .ref (ad 0)), (2, .ref (ad 65)), (3, .ref (ad 75)), (4, .int (oI ((i : Nat) : Int)))]) hx hb dL_law_521 hl (by decide) rfl (fun ls hl => ?_)
  refine lv_aload_n hx hb dL_law_523 rfl (lv_at hl 4 rfl) ?_
  refine m_callVi (C := RX6) (k := 65) (rest := []) (As := []) hx hb hml hown hts hK hH hl cw_L_101 (c6_thrown hA z ms spo ou6 rf (Nat.le_refl 76) ⟨by omega, by omega⟩ c65) ⟨by show 0 + 1 ≤ 12; omega, by show _ ≤ 434; omega⟩ ⟨by show cells + 2 ≤ 601024; omega, by show slots + 12 ≤ 7293034; omega⟩ rfl (by decide) c65 rfl rfl (Nat.le_of_ble_eq_true rfl) dL_law_524 (fun r7 s3 H locs hq7 hH => ?_)
  obtain ⟨h7, h8⟩ := hq7
  rw [h8] at hH
  rw [h7, hrk]
  refine lv_iload hx hb dL_law_527 (lv_at hl 1 rfl) ?_
  refine m_icmp_eq 534 hx hb dL_law_529 (by decide) (by omega) (by omega) (fun _ => ?_) (fun h => absurd rfl h)
  refine lv_iload hx hb dL_law_534 (lv_at hl 1 rfl) ?_
  refine m_if_ne 551 hx hb dL_law_536 (by decide) (by omega) (fun _ => ?_) (fun h0 => ?_)
  · refine lv_goto (tgt := 1759) hx hb dL_law_551 (by decide) ?_
    exact kk s2 H locs ls ⟨hRel, F, c75⟩ hH (lv_sub hl [2, 3, 4, 5, 6] rfl)
  · rw [hr6 h0] at hl
    refine lv_aload_n hx hb dL_law_539 rfl (lv_at hl 5 rfl) ?_
    refine m_iconst 0 hx hb dL_law_540 rfl ?_
    refine m_lald hx hb hK hH (k := 75) (by decide) c75 0 rfl (by decide) (by decide) dL_law_541 ?_
    rw [hF h0]
    refine lv_iload hx hb dL_law_542 (lv_at hl 0 rfl) ?_
    refine m_i2l hx hb dL_law_544 hvb ?_
    refine m_lcmp_eq 551 hx hb dL_law_545 dL_law_546 (by decide) ⟨by omega, by omega⟩ ⟨by omega, by omega⟩ (fun _ => ?_) (fun h => absurd rfl h)
    refine lv_goto (tgt := 1759) hx hb dL_law_551 (by decide) ?_
    exact kk s2 H locs ls ⟨hRel, F, c75⟩ hH (lv_sub hl [2, 3, 4, 5, 6] rfl)
set_option maxRecDepth 100000 in
theorem lc_8 {p : Program} {l : Launch} {e : Env} {s : State} {m : MethodId} {below : List Frame} {meth : Method} {c : Code} {b L : Nat} {xs : Nat → Int32} {D : va_G} {cT : Nat → ClassId} {ad : Nat → Nat} {Q : State → Prop} (hC : lwC p l s m c b L xs D cT ad) {i : Nat} (hi : i + 4 ≤ L) {σ : Nat → va_E} {H : Heap} {locs : List Loc} {cells slots : Nat} (hR : oRelW cT ad σ) (hH : oH s.heap.size D 76 ad s.heap σ H locs) {ls : Array Slot} (hl : lv_has ls 7 (lwB b ad i)) (hc : cells + 2 ≤ 601024 ∧ slots + 12 ≤ 7293034)
    (kk : ∀ (σ1 : Nat → va_E) (H1 : Heap) (locs1 : List Loc) (ls1 : Array Slot), oRelW cT ad σ1 → oH s.heap.size D 76 ad s.heap σ1 H1 locs1 → lv_has ls1 7 (lwB b ad i) → W p l e room_1 s m #[Value.ref b] below meth c H1 locs1 (cells + 2) (slots + 12) Q (F0 m 1759 ls1 [])) :
    W p l e room_1 s m #[Value.ref b] below meth c H locs cells slots Q (F0 m 554 ls []) := by
  obtain ⟨hx, hb, hml, hown, hts, hX, hbl, hLL, hK, hT, hNc, hA, hl0⟩ := hC
  obtain ⟨v1, hv1⟩ : ∃ y : Int, (xs (i + 1)).toInt = y := ⟨_, rfl⟩
  have hb1 : -2147483648 ≤ v1 ∧ v1 < 2147483648 := by rw [← hv1]; exact oI_rng _
  obtain ⟨v2, hv2⟩ : ∃ y : Int, (xs (i + 2)).toInt = y := ⟨_, rfl⟩
  have hb2 : -2147483648 ≤ v2 ∧ v2 < 2147483648 := by rw [← hv2]; exact oI_rng _
  obtain ⟨fs0, e0⟩ := hR.1.c0
  obtain ⟨F0, e75⟩ := hR.2
  obtain ⟨post5, fr, lo, kc, hM5, hb5, hp5⟩ := (kX_gap hA hl0 hR.1 v1 v2 hb1 hb2).use hR (fun hM h1 h2 => hL_gap hA (Nat.le_refl 76) hM e0 e75 h1 (fun E u h => (h2 E u h))) (by decide)
  refine lv_aload_n hx hb dL_law_554 rfl (lv_at hl 1 rfl) ?_
  refine lv_aload_n hx hb dL_law_555 rfl (lv_at hl 0 rfl) ?_
  refine lv_iload hx hb dL_law_556 (lv_at hl 4 rfl) ?_
  refine m_iconst 1 hx hb dL_law_558 rfl ?_
  refine m_iadd (((i : Nat) : Int) + 1) hx hb dL_law_559 rfl ?_
  refine m_sld hx hb hX hbl hLL hH (i + 1) (by omega) (by omega) v1 hv1 dL_law_560 ?_
  refine lv_aload_n hx hb dL_law_561 rfl (lv_at hl 0 rfl) ?_
  refine lv_iload hx hb dL_law_562 (lv_at hl 4 rfl) ?_
  refine m_iconst 2 hx hb dL_law_564 rfl ?_
  refine m_iadd (((i : Nat) : Int) + 2) hx hb dL_law_565 rfl ?_
  refine m_sld hx hb hX hbl hLL hH (i + 2) (by omega) (by omega) v2 hv2 dL_law_566 ?_
  refine lv_aload_n hx hb dL_law_567 rfl (lv_at hl 3 rfl) ?_
  refine m_lawH (rest := []) (As := [.ref (ad 0), .int (oI v1), .int (oI v2), .ref (ad 75)]) hx hb hml hown hts hK hT hNc hH hl cs_L_130 hM5 ⟨by show fr + 1 ≤ 12; omega, by show _ ≤ 434; omega⟩ ⟨by show cells + kc ≤ 601024; omega, by show slots + 6 * kc ≤ 7293034; omega⟩ rfl rfl (Nat.le_of_ble_eq_true rfl) dL_law_568 (fun r5 s1 H locs hq5 hH => ?_)
  refine W.widen (k := cells + 2) (n := slots + 12) (by omega) (by omega) ?_
  obtain ⟨k5, v, F, hr5, hk5, hvb, h75, hF, ⟨fs6, e65⟩, post6, FR6, LO6, hM6, hb6, hp6⟩ := hp5 _ _ hq5
  rw [hr5]
  refine lv_istore (lv' := [(5, .int (oI k5)), (0, .ref b), (1, .ref (ad 0)), (2, .ref (ad 65)), (3, .ref (ad 75)), (4, .int (oI ((i : Nat) : Int)))]) hx hb dL_law_571 hl (by decide) rfl (fun ls hl => ?_)
  refine lv_aload_n hx hb dL_law_573 rfl (lv_at hl 3 rfl) ?_
  refine lv_aload_n hx hb dL_law_574 rfl (lv_at hl 1 rfl) ?_
  refine lv_iload hx hb dL_law_575 (lv_at hl 5 rfl) ?_
  refine m_iconst 1 hx hb dL_law_577 rfl ?_
  refine m_iadd (((i : Nat) : Int) + 1) hx hb dL_law_578 rfl ?_
  refine m_sld hx hb hX hbl hLL hH (i + 1) (by omega) (by omega) v1 hv1 dL_law_579 ?_
  refine lv_aload_n hx hb dL_law_580 rfl (lv_at hl 1 rfl) ?_
  refine lv_iload hx hb dL_law_581 (lv_at hl 5 rfl) ?_
  refine m_iconst 2 hx hb dL_law_583 rfl ?_
  refine m_iadd (((i : Nat) : Int) + 2) hx hb dL_law_584 rfl ?_
  refine m_sld hx hb hX hbl hLL hH (i + 2) (by omega) (by omega) v2 hv2 dL_law_585 ?_
  refine m_callVi (C := RX6) (k := 65) (rest := []) (As := [.int (oI v1), .int (oI v2)]) hx hb hml hown hts hK hH hl cw_L_132 hM6 ⟨by show FR6 + 1 ≤ 12; omega, by show _ ≤ 434; omega⟩ ⟨by show cells + 2 ≤ 601024; omega, by show slots + 12 ≤ 7293034; omega⟩ rfl (by decide) e65 rfl rfl (Nat.le_of_ble_eq_true rfl) dL_law_586 (fun r6 s2 H locs hq6 hH => ?_)
  obtain ⟨hf6, rf, z, ms, ⟨spo, ou6, c65⟩, hrf, hrk, hr6, hfin⟩ := hp6 _ _ hq6
  have hRel := hfin (fun q hq9 => hf6 q (Or.inl hq9))
  have c75 := (hf6 75 (Or.inr rfl)).trans h75
  refine lv_istore (lv' := [(6, .int r6), (5, .int (oI k5)), (0, .ref b), (1, .ref (ad 0)), (2, .ref (ad 65)), (3, .ref (ad 75)), (4, .int (oI ((i : Nat) : Int)))]) hx hb dL_law_589 hl (by decide) rfl (fun ls hl => ?_)
  refine lv_aload_n hx hb dL_law_591 rfl (lv_at hl 4 rfl) ?_
  refine m_callVi (C := RX6) (k := 65) (rest := []) (As := []) hx hb hml hown hts hK hH hl cw_L_101 (c6_thrown hA z ms spo ou6 rf (Nat.le_refl 76) ⟨by omega, by omega⟩ c65) ⟨by show 0 + 1 ≤ 12; omega, by show _ ≤ 434; omega⟩ ⟨by show cells + 2 ≤ 601024; omega, by show slots + 12 ≤ 7293034; omega⟩ rfl (by decide) c65 rfl rfl (Nat.le_of_ble_eq_true rfl) dL_law_592 (fun r7 s3 H locs hq7 hH => ?_)
  obtain ⟨h7, h8⟩ := hq7
  rw [h8] at hH
  rw [h7, hrk]
  refine lv_iload hx hb dL_law_595 (lv_at hl 1 rfl) ?_
  refine m_icmp_eq 602 hx hb dL_law_597 (by decide) (by omega) (by omega) (fun _ => ?_) (fun h => absurd rfl h)
  refine lv_iload hx hb dL_law_602 (lv_at hl 1 rfl) ?_
  refine m_if_ne 619 hx hb dL_law_604 (by decide) (by omega) (fun _ => ?_) (fun h0 => ?_)
  · refine lv_goto (tgt := 1759) hx hb dL_law_619 (by decide) ?_
    exact kk s2 H locs ls ⟨hRel, F, c75⟩ hH (lv_sub hl [2, 3, 4, 5, 6] rfl)
  · rw [hr6 h0] at hl
    refine lv_aload_n hx hb dL_law_607 rfl (lv_at hl 5 rfl) ?_
    refine m_iconst 0 hx hb dL_law_608 rfl ?_
    refine m_lald hx hb hK hH (k := 75) (by decide) c75 0 rfl (by decide) (by decide) dL_law_609 ?_
    rw [hF h0]
    refine lv_iload hx hb dL_law_610 (lv_at hl 0 rfl) ?_
    refine m_i2l hx hb dL_law_612 hvb ?_
    refine m_lcmp_eq 619 hx hb dL_law_613 dL_law_614 (by decide) ⟨by omega, by omega⟩ ⟨by omega, by omega⟩ (fun _ => ?_) (fun h => absurd rfl h)
    refine lv_goto (tgt := 1759) hx hb dL_law_619 (by decide) ?_
    exact kk s2 H locs ls ⟨hRel, F, c75⟩ hH (lv_sub hl [2, 3, 4, 5, 6] rfl)
set_option maxRecDepth 100000 in
theorem lc_9 {p : Program} {l : Launch} {e : Env} {s : State} {m : MethodId} {below : List Frame} {meth : Method} {c : Code} {b L : Nat} {xs : Nat → Int32} {D : va_G} {cT : Nat → ClassId} {ad : Nat → Nat} {Q : State → Prop} (hC : lwC p l s m c b L xs D cT ad) {i : Nat} (hi : i + 4 ≤ L) {σ : Nat → va_E} {H : Heap} {locs : List Loc} {cells slots : Nat} (hR : oRelW cT ad σ) (hH : oH s.heap.size D 76 ad s.heap σ H locs) {ls : Array Slot} (hl : lv_has ls 7 (lwB b ad i)) (hc : cells + 2 ≤ 601024 ∧ slots + 12 ≤ 7293034)
    (kk : ∀ (σ1 : Nat → va_E) (H1 : Heap) (locs1 : List Loc) (ls1 : Array Slot), oRelW cT ad σ1 → oH s.heap.size D 76 ad s.heap σ1 H1 locs1 → lv_has ls1 7 (lwB b ad i) → W p l e room_1 s m #[Value.ref b] below meth c H1 locs1 (cells + 2) (slots + 12) Q (F0 m 1759 ls1 [])) :
    W p l e room_1 s m #[Value.ref b] below meth c H locs cells slots Q (F0 m 622 ls []) := by
  obtain ⟨hx, hb, hml, hown, hts, hX, hbl, hLL, hK, hT, hNc, hA, hl0⟩ := hC
  obtain ⟨v1, hv1⟩ : ∃ y : Int, (xs (i + 1)).toInt = y := ⟨_, rfl⟩
  have hb1 : -2147483648 ≤ v1 ∧ v1 < 2147483648 := by rw [← hv1]; exact oI_rng _
  obtain ⟨fs0, e0⟩ := hR.1.c0
  obtain ⟨F0, e75⟩ := hR.2
  obtain ⟨post5, fr, lo, kc, hM5, hb5, hp5⟩ := (kX_ruler hA hl0 hR.1 v1 hb1).use hR (fun hM h1 h2 => hL_ruler hA (Nat.le_refl 76) hM e0 e75 h1 (fun E u h => (h2 E u h))) (by decide)
  refine lv_aload_n hx hb dL_law_622 rfl (lv_at hl 1 rfl) ?_
  refine lv_aload_n hx hb dL_law_623 rfl (lv_at hl 0 rfl) ?_
  refine lv_iload hx hb dL_law_624 (lv_at hl 4 rfl) ?_
  refine m_iconst 1 hx hb dL_law_626 rfl ?_
  refine m_iadd (((i : Nat) : Int) + 1) hx hb dL_law_627 rfl ?_
  refine m_sld hx hb hX hbl hLL hH (i + 1) (by omega) (by omega) v1 hv1 dL_law_628 ?_
  refine lv_aload_n hx hb dL_law_629 rfl (lv_at hl 3 rfl) ?_
  refine m_lawH (rest := []) (As := [.ref (ad 0), .int (oI v1), .ref (ad 75)]) hx hb hml hown hts hK hT hNc hH hl cs_L_133 hM5 ⟨by show fr + 1 ≤ 12; omega, by show _ ≤ 434; omega⟩ ⟨by show cells + kc ≤ 601024; omega, by show slots + 6 * kc ≤ 7293034; omega⟩ rfl rfl (Nat.le_of_ble_eq_true rfl) dL_law_630 (fun r5 s1 H locs hq5 hH => ?_)
  refine W.widen (k := cells + 2) (n := slots + 12) (by omega) (by omega) ?_
  obtain ⟨k5, v, F, hr5, hk5, hvb, h75, hF, ⟨fs6, e65⟩, post6, FR6, LO6, hM6, hb6, hp6⟩ := hp5 _ _ hq5
  rw [hr5]
  refine lv_istore (lv' := [(5, .int (oI k5)), (0, .ref b), (1, .ref (ad 0)), (2, .ref (ad 65)), (3, .ref (ad 75)), (4, .int (oI ((i : Nat) : Int)))]) hx hb dL_law_633 hl (by decide) rfl (fun ls hl => ?_)
  refine lv_aload_n hx hb dL_law_635 rfl (lv_at hl 3 rfl) ?_
  refine lv_aload_n hx hb dL_law_636 rfl (lv_at hl 1 rfl) ?_
  refine lv_iload hx hb dL_law_637 (lv_at hl 5 rfl) ?_
  refine m_iconst 1 hx hb dL_law_639 rfl ?_
  refine m_iadd (((i : Nat) : Int) + 1) hx hb dL_law_640 rfl ?_
  refine m_sld hx hb hX hbl hLL hH (i + 1) (by omega) (by omega) v1 hv1 dL_law_641 ?_
  refine m_callVi (C := RX6) (k := 65) (rest := []) (As := [.int (oI v1)]) hx hb hml hown hts hK hH hl cw_L_135 hM6 ⟨by show FR6 + 1 ≤ 12; omega, by show _ ≤ 434; omega⟩ ⟨by show cells + 2 ≤ 601024; omega, by show slots + 12 ≤ 7293034; omega⟩ rfl (by decide) e65 rfl rfl (Nat.le_of_ble_eq_true rfl) dL_law_642 (fun r6 s2 H locs hq6 hH => ?_)
  obtain ⟨hf6, rf, z, ms, ⟨spo, ou6, c65⟩, hrf, hrk, hr6, hfin⟩ := hp6 _ _ hq6
  have hRel := hfin (fun q hq9 => hf6 q (Or.inl hq9))
  have c75 := (hf6 75 (Or.inr rfl)).trans h75
  refine lv_istore (lv' := [(6, .int r6), (5, .int (oI k5)), (0, .ref b), (1, .ref (ad 0)), (2, .ref (ad 65)), (3, .ref (ad 75)), (4, .int (oI ((i : Nat) : Int)))]) hx hb dL_law_645 hl (by decide) rfl (fun ls hl => ?_)
  refine lv_aload_n hx hb dL_law_647 rfl (lv_at hl 4 rfl) ?_
  refine m_callVi (C := RX6) (k := 65) (rest := []) (As := []) hx hb hml hown hts hK hH hl cw_L_101 (c6_thrown hA z ms spo ou6 rf (Nat.le_refl 76) ⟨by omega, by omega⟩ c65) ⟨by show 0 + 1 ≤ 12; omega, by show _ ≤ 434; omega⟩ ⟨by show cells + 2 ≤ 601024; omega, by show slots + 12 ≤ 7293034; omega⟩ rfl (by decide) c65 rfl rfl (Nat.le_of_ble_eq_true rfl) dL_law_648 (fun r7 s3 H locs hq7 hH => ?_)
  obtain ⟨h7, h8⟩ := hq7
  rw [h8] at hH
  rw [h7, hrk]
  refine lv_iload hx hb dL_law_651 (lv_at hl 1 rfl) ?_
  refine m_icmp_eq 658 hx hb dL_law_653 (by decide) (by omega) (by omega) (fun _ => ?_) (fun h => absurd rfl h)
  refine lv_iload hx hb dL_law_658 (lv_at hl 1 rfl) ?_
  refine m_if_ne 675 hx hb dL_law_660 (by decide) (by omega) (fun _ => ?_) (fun h0 => ?_)
  · refine lv_goto (tgt := 1759) hx hb dL_law_675 (by decide) ?_
    exact kk s2 H locs ls ⟨hRel, F, c75⟩ hH (lv_sub hl [2, 3, 4, 5, 6] rfl)
  · rw [hr6 h0] at hl
    refine lv_aload_n hx hb dL_law_663 rfl (lv_at hl 5 rfl) ?_
    refine m_iconst 0 hx hb dL_law_664 rfl ?_
    refine m_lald hx hb hK hH (k := 75) (by decide) c75 0 rfl (by decide) (by decide) dL_law_665 ?_
    rw [hF h0]
    refine lv_iload hx hb dL_law_666 (lv_at hl 0 rfl) ?_
    refine m_i2l hx hb dL_law_668 hvb ?_
    refine m_lcmp_eq 675 hx hb dL_law_669 dL_law_670 (by decide) ⟨by omega, by omega⟩ ⟨by omega, by omega⟩ (fun _ => ?_) (fun h => absurd rfl h)
    refine lv_goto (tgt := 1759) hx hb dL_law_675 (by decide) ?_
    exact kk s2 H locs ls ⟨hRel, F, c75⟩ hH (lv_sub hl [2, 3, 4, 5, 6] rfl)
set_option maxRecDepth 100000 in
theorem lc_10 {p : Program} {l : Launch} {e : Env} {s : State} {m : MethodId} {below : List Frame} {meth : Method} {c : Code} {b L : Nat} {xs : Nat → Int32} {D : va_G} {cT : Nat → ClassId} {ad : Nat → Nat} {Q : State → Prop} (hC : lwC p l s m c b L xs D cT ad) {i : Nat} (hi : i + 4 ≤ L) {σ : Nat → va_E} {H : Heap} {locs : List Loc} {cells slots : Nat} (hR : oRelW cT ad σ) (hH : oH s.heap.size D 76 ad s.heap σ H locs) {ls : Array Slot} (hl : lv_has ls 7 (lwB b ad i)) (hc : cells + 2 ≤ 601024 ∧ slots + 12 ≤ 7293034)
    (kk : ∀ (σ1 : Nat → va_E) (H1 : Heap) (locs1 : List Loc) (ls1 : Array Slot), oRelW cT ad σ1 → oH s.heap.size D 76 ad s.heap σ1 H1 locs1 → lv_has ls1 7 (lwB b ad i) → W p l e room_1 s m #[Value.ref b] below meth c H1 locs1 (cells + 2) (slots + 12) Q (F0 m 1759 ls1 [])) :
    W p l e room_1 s m #[Value.ref b] below meth c H locs cells slots Q (F0 m 678 ls []) := by
  obtain ⟨hx, hb, hml, hown, hts, hX, hbl, hLL, hK, hT, hNc, hA, hl0⟩ := hC
  obtain ⟨v1, hv1⟩ : ∃ y : Int, (xs (i + 1)).toInt = y := ⟨_, rfl⟩
  have hb1 : -2147483648 ≤ v1 ∧ v1 < 2147483648 := by rw [← hv1]; exact oI_rng _
  obtain ⟨v2, hv2⟩ : ∃ y : Int, (xs (i + 2)).toInt = y := ⟨_, rfl⟩
  have hb2 : -2147483648 ≤ v2 ∧ v2 < 2147483648 := by rw [← hv2]; exact oI_rng _
  obtain ⟨v3, hv3⟩ : ∃ y : Int, (xs (i + 3)).toInt = y := ⟨_, rfl⟩
  have hb3 : -2147483648 ≤ v3 ∧ v3 < 2147483648 := by rw [← hv3]; exact oI_rng _
  obtain ⟨fs0, e0⟩ := hR.1.c0
  obtain ⟨F0, e75⟩ := hR.2
  obtain ⟨post5, fr, lo, kc, hM5, hb5, hp5⟩ := (kX_mark hA hl0 hR.1 v1 v2 (oBn v3) hb1 hb2 (oBn_01 v3)).use hR (fun hM h1 h2 => hL_mark hA (Nat.le_refl 76) hM e0 e75 h1 (fun E u h => (h2 E u h))) (by decide)
  refine lv_aload_n hx hb dL_law_678 rfl (lv_at hl 1 rfl) ?_
  refine lv_aload_n hx hb dL_law_679 rfl (lv_at hl 0 rfl) ?_
  refine lv_iload hx hb dL_law_680 (lv_at hl 4 rfl) ?_
  refine m_iconst 1 hx hb dL_law_682 rfl ?_
  refine m_iadd (((i : Nat) : Int) + 1) hx hb dL_law_683 rfl ?_
  refine m_sld hx hb hX hbl hLL hH (i + 1) (by omega) (by omega) v1 hv1 dL_law_684 ?_
  refine lv_aload_n hx hb dL_law_685 rfl (lv_at hl 0 rfl) ?_
  refine lv_iload hx hb dL_law_686 (lv_at hl 4 rfl) ?_
  refine m_iconst 2 hx hb dL_law_688 rfl ?_
  refine m_iadd (((i : Nat) : Int) + 2) hx hb dL_law_689 rfl ?_
  refine m_sld hx hb hX hbl hLL hH (i + 2) (by omega) (by omega) v2 hv2 dL_law_690 ?_
  refine lv_aload_n hx hb dL_law_691 rfl (lv_at hl 0 rfl) ?_
  refine lv_iload hx hb dL_law_692 (lv_at hl 4 rfl) ?_
  refine m_iconst 3 hx hb dL_law_694 rfl ?_
  refine m_iadd (((i : Nat) : Int) + 3) hx hb dL_law_695 rfl ?_
  refine m_sld hx hb hX hbl hLL hH (i + 3) (by omega) (by omega) v3 hv3 dL_law_696 ?_
  refine m_bool hx hb hb3 dL_law_697 dL_law_700 dL_law_701 dL_law_704 ?_
  refine lv_aload_n hx hb dL_law_705 rfl (lv_at hl 3 rfl) ?_
  refine m_lawH (rest := []) (As := [.ref (ad 0), .int (oI v1), .int (oI v2), .int (oI (oBn v3)), .ref (ad 75)]) hx hb hml hown hts hK hT hNc hH hl cs_L_136 hM5 ⟨by show fr + 1 ≤ 12; omega, by show _ ≤ 434; omega⟩ ⟨by show cells + kc ≤ 601024; omega, by show slots + 6 * kc ≤ 7293034; omega⟩ rfl rfl (Nat.le_of_ble_eq_true rfl) dL_law_706 (fun r5 s1 H locs hq5 hH => ?_)
  refine W.widen (k := cells + 2) (n := slots + 12) (by omega) (by omega) ?_
  obtain ⟨k5, v, F, hr5, hk5, hvb, h75, hF, ⟨fs6, e65⟩, post6, FR6, LO6, hM6, hb6, hp6⟩ := hp5 _ _ hq5
  rw [hr5]
  refine lv_istore (lv' := [(5, .int (oI k5)), (0, .ref b), (1, .ref (ad 0)), (2, .ref (ad 65)), (3, .ref (ad 75)), (4, .int (oI ((i : Nat) : Int)))]) hx hb dL_law_709 hl (by decide) rfl (fun ls hl => ?_)
  refine lv_aload_n hx hb dL_law_711 rfl (lv_at hl 3 rfl) ?_
  refine lv_aload_n hx hb dL_law_712 rfl (lv_at hl 1 rfl) ?_
  refine lv_iload hx hb dL_law_713 (lv_at hl 5 rfl) ?_
  refine m_iconst 1 hx hb dL_law_715 rfl ?_
  refine m_iadd (((i : Nat) : Int) + 1) hx hb dL_law_716 rfl ?_
  refine m_sld hx hb hX hbl hLL hH (i + 1) (by omega) (by omega) v1 hv1 dL_law_717 ?_
  refine lv_aload_n hx hb dL_law_718 rfl (lv_at hl 1 rfl) ?_
  refine lv_iload hx hb dL_law_719 (lv_at hl 5 rfl) ?_
  refine m_iconst 2 hx hb dL_law_721 rfl ?_
  refine m_iadd (((i : Nat) : Int) + 2) hx hb dL_law_722 rfl ?_
  refine m_sld hx hb hX hbl hLL hH (i + 2) (by omega) (by omega) v2 hv2 dL_law_723 ?_
  refine lv_aload_n hx hb dL_law_724 rfl (lv_at hl 1 rfl) ?_
  refine lv_iload hx hb dL_law_725 (lv_at hl 5 rfl) ?_
  refine m_iconst 3 hx hb dL_law_727 rfl ?_
  refine m_iadd (((i : Nat) : Int) + 3) hx hb dL_law_728 rfl ?_
  refine m_sld hx hb hX hbl hLL hH (i + 3) (by omega) (by omega) v3 hv3 dL_law_729 ?_
  refine m_bool hx hb hb3 dL_law_730 dL_law_733 dL_law_734 dL_law_737 ?_
  refine m_callVi (C := RX6) (k := 65) (rest := []) (As := [.int (oI v1), .int (oI v2), .int (oI (oBn v3))]) hx hb hml hown hts hK hH hl cw_L_139 hM6 ⟨by show FR6 + 1 ≤ 12; omega, by show _ ≤ 434; omega⟩ ⟨by show cells + 2 ≤ 601024; omega, by show slots + 12 ≤ 7293034; omega⟩ rfl (by decide) e65 rfl rfl (Nat.le_of_ble_eq_true rfl) dL_law_738 (fun r6 s2 H locs hq6 hH => ?_)
  obtain ⟨hf6, rf, z, ms, ⟨spo, ou6, c65⟩, hrf, hrk, hr6, hfin⟩ := hp6 _ _ hq6
  have hRel := hfin (fun q hq9 => hf6 q (Or.inl hq9))
  have c75 := (hf6 75 (Or.inr rfl)).trans h75
  refine lv_istore (lv' := [(6, .int r6), (5, .int (oI k5)), (0, .ref b), (1, .ref (ad 0)), (2, .ref (ad 65)), (3, .ref (ad 75)), (4, .int (oI ((i : Nat) : Int)))]) hx hb dL_law_741 hl (by decide) rfl (fun ls hl => ?_)
  refine lv_aload_n hx hb dL_law_743 rfl (lv_at hl 4 rfl) ?_
  refine m_callVi (C := RX6) (k := 65) (rest := []) (As := []) hx hb hml hown hts hK hH hl cw_L_101 (c6_thrown hA z ms spo ou6 rf (Nat.le_refl 76) ⟨by omega, by omega⟩ c65) ⟨by show 0 + 1 ≤ 12; omega, by show _ ≤ 434; omega⟩ ⟨by show cells + 2 ≤ 601024; omega, by show slots + 12 ≤ 7293034; omega⟩ rfl (by decide) c65 rfl rfl (Nat.le_of_ble_eq_true rfl) dL_law_744 (fun r7 s3 H locs hq7 hH => ?_)
  obtain ⟨h7, h8⟩ := hq7
  rw [h8] at hH
  rw [h7, hrk]
  refine lv_iload hx hb dL_law_747 (lv_at hl 1 rfl) ?_
  refine m_icmp_eq 754 hx hb dL_law_749 (by decide) (by omega) (by omega) (fun _ => ?_) (fun h => absurd rfl h)
  refine lv_iload hx hb dL_law_754 (lv_at hl 1 rfl) ?_
  refine m_if_ne 771 hx hb dL_law_756 (by decide) (by omega) (fun _ => ?_) (fun h0 => ?_)
  · refine lv_goto (tgt := 1759) hx hb dL_law_771 (by decide) ?_
    exact kk s2 H locs ls ⟨hRel, F, c75⟩ hH (lv_sub hl [2, 3, 4, 5, 6] rfl)
  · rw [hr6 h0] at hl
    refine lv_aload_n hx hb dL_law_759 rfl (lv_at hl 5 rfl) ?_
    refine m_iconst 0 hx hb dL_law_760 rfl ?_
    refine m_lald hx hb hK hH (k := 75) (by decide) c75 0 rfl (by decide) (by decide) dL_law_761 ?_
    rw [hF h0]
    refine lv_iload hx hb dL_law_762 (lv_at hl 0 rfl) ?_
    refine m_i2l hx hb dL_law_764 hvb ?_
    refine m_lcmp_eq 771 hx hb dL_law_765 dL_law_766 (by decide) ⟨by omega, by omega⟩ ⟨by omega, by omega⟩ (fun _ => ?_) (fun h => absurd rfl h)
    refine lv_goto (tgt := 1759) hx hb dL_law_771 (by decide) ?_
    exact kk s2 H locs ls ⟨hRel, F, c75⟩ hH (lv_sub hl [2, 3, 4, 5, 6] rfl)
set_option maxRecDepth 100000 in
theorem lc_11 {p : Program} {l : Launch} {e : Env} {s : State} {m : MethodId} {below : List Frame} {meth : Method} {c : Code} {b L : Nat} {xs : Nat → Int32} {D : va_G} {cT : Nat → ClassId} {ad : Nat → Nat} {Q : State → Prop} (hC : lwC p l s m c b L xs D cT ad) {i : Nat} (hi : i + 4 ≤ L) {σ : Nat → va_E} {H : Heap} {locs : List Loc} {cells slots : Nat} (hR : oRelW cT ad σ) (hH : oH s.heap.size D 76 ad s.heap σ H locs) {ls : Array Slot} (hl : lv_has ls 7 (lwB b ad i)) (hc : cells + 2 ≤ 601024 ∧ slots + 12 ≤ 7293034)
    (kk : ∀ (σ1 : Nat → va_E) (H1 : Heap) (locs1 : List Loc) (ls1 : Array Slot), oRelW cT ad σ1 → oH s.heap.size D 76 ad s.heap σ1 H1 locs1 → lv_has ls1 7 (lwB b ad i) → W p l e room_1 s m #[Value.ref b] below meth c H1 locs1 (cells + 2) (slots + 12) Q (F0 m 1759 ls1 [])) :
    W p l e room_1 s m #[Value.ref b] below meth c H locs cells slots Q (F0 m 774 ls []) := by
  obtain ⟨hx, hb, hml, hown, hts, hX, hbl, hLL, hK, hT, hNc, hA, hl0⟩ := hC
  obtain ⟨v1, hv1⟩ : ∃ y : Int, (xs (i + 1)).toInt = y := ⟨_, rfl⟩
  have hb1 : -2147483648 ≤ v1 ∧ v1 < 2147483648 := by rw [← hv1]; exact oI_rng _
  obtain ⟨v2, hv2⟩ : ∃ y : Int, (xs (i + 2)).toInt = y := ⟨_, rfl⟩
  have hb2 : -2147483648 ≤ v2 ∧ v2 < 2147483648 := by rw [← hv2]; exact oI_rng _
  obtain ⟨fs0, e0⟩ := hR.1.c0
  obtain ⟨F0, e75⟩ := hR.2
  obtain ⟨post5, fr, lo, kc, hM5, hb5, hp5⟩ := (kX_cut hA hl0 hR.1 v1 v2 hb1 hb2).use hR (fun hM h1 h2 => hL_cut hA (Nat.le_refl 76) hM e0 e75 h1 (fun E u h => (h2 E u h))) (by decide)
  refine lv_aload_n hx hb dL_law_774 rfl (lv_at hl 1 rfl) ?_
  refine lv_aload_n hx hb dL_law_775 rfl (lv_at hl 0 rfl) ?_
  refine lv_iload hx hb dL_law_776 (lv_at hl 4 rfl) ?_
  refine m_iconst 1 hx hb dL_law_778 rfl ?_
  refine m_iadd (((i : Nat) : Int) + 1) hx hb dL_law_779 rfl ?_
  refine m_sld hx hb hX hbl hLL hH (i + 1) (by omega) (by omega) v1 hv1 dL_law_780 ?_
  refine lv_aload_n hx hb dL_law_781 rfl (lv_at hl 0 rfl) ?_
  refine lv_iload hx hb dL_law_782 (lv_at hl 4 rfl) ?_
  refine m_iconst 2 hx hb dL_law_784 rfl ?_
  refine m_iadd (((i : Nat) : Int) + 2) hx hb dL_law_785 rfl ?_
  refine m_sld hx hb hX hbl hLL hH (i + 2) (by omega) (by omega) v2 hv2 dL_law_786 ?_
  refine lv_aload_n hx hb dL_law_787 rfl (lv_at hl 3 rfl) ?_
  refine m_lawH (rest := []) (As := [.ref (ad 0), .int (oI v1), .int (oI v2), .ref (ad 75)]) hx hb hml hown hts hK hT hNc hH hl cs_L_140 hM5 ⟨by show fr + 1 ≤ 12; omega, by show _ ≤ 434; omega⟩ ⟨by show cells + kc ≤ 601024; omega, by show slots + 6 * kc ≤ 7293034; omega⟩ rfl rfl (Nat.le_of_ble_eq_true rfl) dL_law_788 (fun r5 s1 H locs hq5 hH => ?_)
  refine W.widen (k := cells + 2) (n := slots + 12) (by omega) (by omega) ?_
  obtain ⟨k5, v, F, hr5, hk5, hvb, h75, hF, ⟨fs6, e65⟩, post6, FR6, LO6, hM6, hb6, hp6⟩ := hp5 _ _ hq5
  rw [hr5]
  refine lv_istore (lv' := [(5, .int (oI k5)), (0, .ref b), (1, .ref (ad 0)), (2, .ref (ad 65)), (3, .ref (ad 75)), (4, .int (oI ((i : Nat) : Int)))]) hx hb dL_law_791 hl (by decide) rfl (fun ls hl => ?_)
  refine lv_aload_n hx hb dL_law_793 rfl (lv_at hl 3 rfl) ?_
  refine lv_aload_n hx hb dL_law_794 rfl (lv_at hl 1 rfl) ?_
  refine lv_iload hx hb dL_law_795 (lv_at hl 5 rfl) ?_
  refine m_iconst 1 hx hb dL_law_797 rfl ?_
  refine m_iadd (((i : Nat) : Int) + 1) hx hb dL_law_798 rfl ?_
  refine m_sld hx hb hX hbl hLL hH (i + 1) (by omega) (by omega) v1 hv1 dL_law_799 ?_
  refine lv_aload_n hx hb dL_law_800 rfl (lv_at hl 1 rfl) ?_
  refine lv_iload hx hb dL_law_801 (lv_at hl 5 rfl) ?_
  refine m_iconst 2 hx hb dL_law_803 rfl ?_
  refine m_iadd (((i : Nat) : Int) + 2) hx hb dL_law_804 rfl ?_
  refine m_sld hx hb hX hbl hLL hH (i + 2) (by omega) (by omega) v2 hv2 dL_law_805 ?_
  refine m_callVi (C := RX6) (k := 65) (rest := []) (As := [.int (oI v1), .int (oI v2)]) hx hb hml hown hts hK hH hl cw_L_142 hM6 ⟨by show FR6 + 1 ≤ 12; omega, by show _ ≤ 434; omega⟩ ⟨by show cells + 2 ≤ 601024; omega, by show slots + 12 ≤ 7293034; omega⟩ rfl (by decide) e65 rfl rfl (Nat.le_of_ble_eq_true rfl) dL_law_806 (fun r6 s2 H locs hq6 hH => ?_)
  obtain ⟨hf6, rf, z, ms, ⟨spo, ou6, c65⟩, hrf, hrk, hr6, hfin⟩ := hp6 _ _ hq6
  have hRel := hfin (fun q hq9 => hf6 q (Or.inl hq9))
  have c75 := (hf6 75 (Or.inr rfl)).trans h75
  refine lv_istore (lv' := [(6, .int r6), (5, .int (oI k5)), (0, .ref b), (1, .ref (ad 0)), (2, .ref (ad 65)), (3, .ref (ad 75)), (4, .int (oI ((i : Nat) : Int)))]) hx hb dL_law_809 hl (by decide) rfl (fun ls hl => ?_)
  refine lv_aload_n hx hb dL_law_811 rfl (lv_at hl 4 rfl) ?_
  refine m_callVi (C := RX6) (k := 65) (rest := []) (As := []) hx hb hml hown hts hK hH hl cw_L_101 (c6_thrown hA z ms spo ou6 rf (Nat.le_refl 76) ⟨by omega, by omega⟩ c65) ⟨by show 0 + 1 ≤ 12; omega, by show _ ≤ 434; omega⟩ ⟨by show cells + 2 ≤ 601024; omega, by show slots + 12 ≤ 7293034; omega⟩ rfl (by decide) c65 rfl rfl (Nat.le_of_ble_eq_true rfl) dL_law_812 (fun r7 s3 H locs hq7 hH => ?_)
  obtain ⟨h7, h8⟩ := hq7
  rw [h8] at hH
  rw [h7, hrk]
  refine lv_iload hx hb dL_law_815 (lv_at hl 1 rfl) ?_
  refine m_icmp_eq 822 hx hb dL_law_817 (by decide) (by omega) (by omega) (fun _ => ?_) (fun h => absurd rfl h)
  refine lv_iload hx hb dL_law_822 (lv_at hl 1 rfl) ?_
  refine m_if_ne 839 hx hb dL_law_824 (by decide) (by omega) (fun _ => ?_) (fun h0 => ?_)
  · refine lv_goto (tgt := 1759) hx hb dL_law_839 (by decide) ?_
    exact kk s2 H locs ls ⟨hRel, F, c75⟩ hH (lv_sub hl [2, 3, 4, 5, 6] rfl)
  · rw [hr6 h0] at hl
    refine lv_aload_n hx hb dL_law_827 rfl (lv_at hl 5 rfl) ?_
    refine m_iconst 0 hx hb dL_law_828 rfl ?_
    refine m_lald hx hb hK hH (k := 75) (by decide) c75 0 rfl (by decide) (by decide) dL_law_829 ?_
    rw [hF h0]
    refine lv_iload hx hb dL_law_830 (lv_at hl 0 rfl) ?_
    refine m_i2l hx hb dL_law_832 hvb ?_
    refine m_lcmp_eq 839 hx hb dL_law_833 dL_law_834 (by decide) ⟨by omega, by omega⟩ ⟨by omega, by omega⟩ (fun _ => ?_) (fun h => absurd rfl h)
    refine lv_goto (tgt := 1759) hx hb dL_law_839 (by decide) ?_
    exact kk s2 H locs ls ⟨hRel, F, c75⟩ hH (lv_sub hl [2, 3, 4, 5, 6] rfl)
set_option maxRecDepth 100000 in
theorem lc_12 {p : Program} {l : Launch} {e : Env} {s : State} {m : MethodId} {below : List Frame} {meth : Method} {c : Code} {b L : Nat} {xs : Nat → Int32} {D : va_G} {cT : Nat → ClassId} {ad : Nat → Nat} {Q : State → Prop} (hC : lwC p l s m c b L xs D cT ad) {i : Nat} (hi : i + 4 ≤ L) {σ : Nat → va_E} {H : Heap} {locs : List Loc} {cells slots : Nat} (hR : oRelW cT ad σ) (hH : oH s.heap.size D 76 ad s.heap σ H locs) {ls : Array Slot} (hl : lv_has ls 7 (lwB b ad i)) (hc : cells + 2 ≤ 601024 ∧ slots + 12 ≤ 7293034)
    (kk : ∀ (σ1 : Nat → va_E) (H1 : Heap) (locs1 : List Loc) (ls1 : Array Slot), oRelW cT ad σ1 → oH s.heap.size D 76 ad s.heap σ1 H1 locs1 → lv_has ls1 7 (lwB b ad i) → W p l e room_1 s m #[Value.ref b] below meth c H1 locs1 (cells + 2) (slots + 12) Q (F0 m 1759 ls1 [])) :
    W p l e room_1 s m #[Value.ref b] below meth c H locs cells slots Q (F0 m 842 ls []) := by
  obtain ⟨hx, hb, hml, hown, hts, hX, hbl, hLL, hK, hT, hNc, hA, hl0⟩ := hC
  obtain ⟨v1, hv1⟩ : ∃ y : Int, (xs (i + 1)).toInt = y := ⟨_, rfl⟩
  have hb1 : -2147483648 ≤ v1 ∧ v1 < 2147483648 := by rw [← hv1]; exact oI_rng _
  obtain ⟨fs0, e0⟩ := hR.1.c0
  obtain ⟨F0, e75⟩ := hR.2
  obtain ⟨post5, fr, lo, kc, hM5, hb5, hp5⟩ := (kX_turn hA hl0 hR.1 v1 hb1).use hR (fun hM h1 h2 => hL_turn hA (Nat.le_refl 76) hM e0 e75 h1 (fun E u h => (h2 E u h).elim id id)) (by decide)
  refine lv_aload_n hx hb dL_law_842 rfl (lv_at hl 1 rfl) ?_
  refine lv_aload_n hx hb dL_law_843 rfl (lv_at hl 0 rfl) ?_
  refine lv_iload hx hb dL_law_844 (lv_at hl 4 rfl) ?_
  refine m_iconst 1 hx hb dL_law_846 rfl ?_
  refine m_iadd (((i : Nat) : Int) + 1) hx hb dL_law_847 rfl ?_
  refine m_sld hx hb hX hbl hLL hH (i + 1) (by omega) (by omega) v1 hv1 dL_law_848 ?_
  refine lv_aload_n hx hb dL_law_849 rfl (lv_at hl 3 rfl) ?_
  refine m_lawH (rest := []) (As := [.ref (ad 0), .int (oI v1), .ref (ad 75)]) hx hb hml hown hts hK hT hNc hH hl cs_L_143 hM5 ⟨by show fr + 1 ≤ 12; omega, by show _ ≤ 434; omega⟩ ⟨by show cells + kc ≤ 601024; omega, by show slots + 6 * kc ≤ 7293034; omega⟩ rfl rfl (Nat.le_of_ble_eq_true rfl) dL_law_850 (fun r5 s1 H locs hq5 hH => ?_)
  refine W.widen (k := cells + 2) (n := slots + 12) (by omega) (by omega) ?_
  obtain ⟨k5, v, F, hr5, hk5, hvb, h75, hF, ⟨fs6, e65⟩, post6, FR6, LO6, hM6, hb6, hp6⟩ := hp5 _ _ hq5
  rw [hr5]
  refine lv_istore (lv' := [(5, .int (oI k5)), (0, .ref b), (1, .ref (ad 0)), (2, .ref (ad 65)), (3, .ref (ad 75)), (4, .int (oI ((i : Nat) : Int)))]) hx hb dL_law_853 hl (by decide) rfl (fun ls hl => ?_)
  refine lv_aload_n hx hb dL_law_855 rfl (lv_at hl 3 rfl) ?_
  refine lv_aload_n hx hb dL_law_856 rfl (lv_at hl 1 rfl) ?_
  refine lv_iload hx hb dL_law_857 (lv_at hl 5 rfl) ?_
  refine m_iconst 1 hx hb dL_law_859 rfl ?_
  refine m_iadd (((i : Nat) : Int) + 1) hx hb dL_law_860 rfl ?_
  refine m_sld hx hb hX hbl hLL hH (i + 1) (by omega) (by omega) v1 hv1 dL_law_861 ?_
  refine m_callVi (C := RX6) (k := 65) (rest := []) (As := [.int (oI v1)]) hx hb hml hown hts hK hH hl cw_L_145 hM6 ⟨by show FR6 + 1 ≤ 12; omega, by show _ ≤ 434; omega⟩ ⟨by show cells + 2 ≤ 601024; omega, by show slots + 12 ≤ 7293034; omega⟩ rfl (by decide) e65 rfl rfl (Nat.le_of_ble_eq_true rfl) dL_law_862 (fun r6 s2 H locs hq6 hH => ?_)
  obtain ⟨hf6, rf, z, ms, ⟨spo, ou6, c65⟩, hrf, hrk, hr6, hfin⟩ := hp6 _ _ hq6
  have hRel := hfin (fun q hq9 => hf6 q (Or.inl hq9))
  have c75 := (hf6 75 (Or.inr rfl)).trans h75
  refine lv_istore (lv' := [(6, .int r6), (5, .int (oI k5)), (0, .ref b), (1, .ref (ad 0)), (2, .ref (ad 65)), (3, .ref (ad 75)), (4, .int (oI ((i : Nat) : Int)))]) hx hb dL_law_865 hl (by decide) rfl (fun ls hl => ?_)
  refine lv_aload_n hx hb dL_law_867 rfl (lv_at hl 4 rfl) ?_
  refine m_callVi (C := RX6) (k := 65) (rest := []) (As := []) hx hb hml hown hts hK hH hl cw_L_101 (c6_thrown hA z ms spo ou6 rf (Nat.le_refl 76) ⟨by omega, by omega⟩ c65) ⟨by show 0 + 1 ≤ 12; omega, by show _ ≤ 434; omega⟩ ⟨by show cells + 2 ≤ 601024; omega, by show slots + 12 ≤ 7293034; omega⟩ rfl (by decide) c65 rfl rfl (Nat.le_of_ble_eq_true rfl) dL_law_868 (fun r7 s3 H locs hq7 hH => ?_)
  obtain ⟨h7, h8⟩ := hq7
  rw [h8] at hH
  rw [h7, hrk]
  refine lv_iload hx hb dL_law_871 (lv_at hl 1 rfl) ?_
  refine m_icmp_eq 878 hx hb dL_law_873 (by decide) (by omega) (by omega) (fun _ => ?_) (fun h => absurd rfl h)
  refine lv_iload hx hb dL_law_878 (lv_at hl 1 rfl) ?_
  refine m_if_ne 895 hx hb dL_law_880 (by decide) (by omega) (fun _ => ?_) (fun h0 => ?_)
  · refine lv_goto (tgt := 1759) hx hb dL_law_895 (by decide) ?_
    exact kk s2 H locs ls ⟨hRel, F, c75⟩ hH (lv_sub hl [2, 3, 4, 5, 6] rfl)
  · rw [hr6 h0] at hl
    refine lv_aload_n hx hb dL_law_883 rfl (lv_at hl 5 rfl) ?_
    refine m_iconst 0 hx hb dL_law_884 rfl ?_
    refine m_lald hx hb hK hH (k := 75) (by decide) c75 0 rfl (by decide) (by decide) dL_law_885 ?_
    rw [hF h0]
    refine lv_iload hx hb dL_law_886 (lv_at hl 0 rfl) ?_
    refine m_i2l hx hb dL_law_888 hvb ?_
    refine m_lcmp_eq 895 hx hb dL_law_889 dL_law_890 (by decide) ⟨by omega, by omega⟩ ⟨by omega, by omega⟩ (fun _ => ?_) (fun h => absurd rfl h)
    refine lv_goto (tgt := 1759) hx hb dL_law_895 (by decide) ?_
    exact kk s2 H locs ls ⟨hRel, F, c75⟩ hH (lv_sub hl [2, 3, 4, 5, 6] rfl)
set_option maxRecDepth 100000 in
theorem lc_13 {p : Program} {l : Launch} {e : Env} {s : State} {m : MethodId} {below : List Frame} {meth : Method} {c : Code} {b L : Nat} {xs : Nat → Int32} {D : va_G} {cT : Nat → ClassId} {ad : Nat → Nat} {Q : State → Prop} (hC : lwC p l s m c b L xs D cT ad) {i : Nat} (hi : i + 4 ≤ L) {σ : Nat → va_E} {H : Heap} {locs : List Loc} {cells slots : Nat} (hR : oRelW cT ad σ) (hH : oH s.heap.size D 76 ad s.heap σ H locs) {ls : Array Slot} (hl : lv_has ls 7 (lwB b ad i)) (hc : cells + 2 ≤ 601024 ∧ slots + 12 ≤ 7293034)
    (kk : ∀ (σ1 : Nat → va_E) (H1 : Heap) (locs1 : List Loc) (ls1 : Array Slot), oRelW cT ad σ1 → oH s.heap.size D 76 ad s.heap σ1 H1 locs1 → lv_has ls1 7 (lwB b ad i) → W p l e room_1 s m #[Value.ref b] below meth c H1 locs1 (cells + 2) (slots + 12) Q (F0 m 1759 ls1 [])) :
    W p l e room_1 s m #[Value.ref b] below meth c H locs cells slots Q (F0 m 898 ls []) := by
  obtain ⟨hx, hb, hml, hown, hts, hX, hbl, hLL, hK, hT, hNc, hA, hl0⟩ := hC
  obtain ⟨v1, hv1⟩ : ∃ y : Int, (xs (i + 1)).toInt = y := ⟨_, rfl⟩
  have hb1 : -2147483648 ≤ v1 ∧ v1 < 2147483648 := by rw [← hv1]; exact oI_rng _
  obtain ⟨v2, hv2⟩ : ∃ y : Int, (xs (i + 2)).toInt = y := ⟨_, rfl⟩
  have hb2 : -2147483648 ≤ v2 ∧ v2 < 2147483648 := by rw [← hv2]; exact oI_rng _
  obtain ⟨fs0, e0⟩ := hR.1.c0
  obtain ⟨F0, e75⟩ := hR.2
  obtain ⟨post5, fr, lo, kc, hM5, hb5, hp5⟩ := (kX_set hA hl0 hR.1 v1 v2 hb1 hb2).use hR (fun hM h1 h2 => hL_set hA (Nat.le_refl 76) hM e0 e75 h1 (fun E u h => (h2 E u h).elim id id)) (by decide)
  refine lv_aload_n hx hb dL_law_898 rfl (lv_at hl 1 rfl) ?_
  refine lv_aload_n hx hb dL_law_899 rfl (lv_at hl 0 rfl) ?_
  refine lv_iload hx hb dL_law_900 (lv_at hl 4 rfl) ?_
  refine m_iconst 1 hx hb dL_law_902 rfl ?_
  refine m_iadd (((i : Nat) : Int) + 1) hx hb dL_law_903 rfl ?_
  refine m_sld hx hb hX hbl hLL hH (i + 1) (by omega) (by omega) v1 hv1 dL_law_904 ?_
  refine lv_aload_n hx hb dL_law_905 rfl (lv_at hl 0 rfl) ?_
  refine lv_iload hx hb dL_law_906 (lv_at hl 4 rfl) ?_
  refine m_iconst 2 hx hb dL_law_908 rfl ?_
  refine m_iadd (((i : Nat) : Int) + 2) hx hb dL_law_909 rfl ?_
  refine m_sld hx hb hX hbl hLL hH (i + 2) (by omega) (by omega) v2 hv2 dL_law_910 ?_
  refine lv_aload_n hx hb dL_law_911 rfl (lv_at hl 3 rfl) ?_
  refine m_lawH (rest := []) (As := [.ref (ad 0), .int (oI v1), .int (oI v2), .ref (ad 75)]) hx hb hml hown hts hK hT hNc hH hl cs_L_146 hM5 ⟨by show fr + 1 ≤ 12; omega, by show _ ≤ 434; omega⟩ ⟨by show cells + kc ≤ 601024; omega, by show slots + 6 * kc ≤ 7293034; omega⟩ rfl rfl (Nat.le_of_ble_eq_true rfl) dL_law_912 (fun r5 s1 H locs hq5 hH => ?_)
  refine W.widen (k := cells + 2) (n := slots + 12) (by omega) (by omega) ?_
  obtain ⟨k5, v, F, hr5, hk5, hvb, h75, hF, ⟨fs6, e65⟩, post6, FR6, LO6, hM6, hb6, hp6⟩ := hp5 _ _ hq5
  rw [hr5]
  refine lv_istore (lv' := [(5, .int (oI k5)), (0, .ref b), (1, .ref (ad 0)), (2, .ref (ad 65)), (3, .ref (ad 75)), (4, .int (oI ((i : Nat) : Int)))]) hx hb dL_law_915 hl (by decide) rfl (fun ls hl => ?_)
  refine lv_aload_n hx hb dL_law_917 rfl (lv_at hl 3 rfl) ?_
  refine lv_aload_n hx hb dL_law_918 rfl (lv_at hl 1 rfl) ?_
  refine lv_iload hx hb dL_law_919 (lv_at hl 5 rfl) ?_
  refine m_iconst 1 hx hb dL_law_921 rfl ?_
  refine m_iadd (((i : Nat) : Int) + 1) hx hb dL_law_922 rfl ?_
  refine m_sld hx hb hX hbl hLL hH (i + 1) (by omega) (by omega) v1 hv1 dL_law_923 ?_
  refine lv_aload_n hx hb dL_law_924 rfl (lv_at hl 1 rfl) ?_
  refine lv_iload hx hb dL_law_925 (lv_at hl 5 rfl) ?_
  refine m_iconst 2 hx hb dL_law_927 rfl ?_
  refine m_iadd (((i : Nat) : Int) + 2) hx hb dL_law_928 rfl ?_
  refine m_sld hx hb hX hbl hLL hH (i + 2) (by omega) (by omega) v2 hv2 dL_law_929 ?_
  refine m_callVi (C := RX6) (k := 65) (rest := []) (As := [.int (oI v1), .int (oI v2)]) hx hb hml hown hts hK hH hl cw_L_148 hM6 ⟨by show FR6 + 1 ≤ 12; omega, by show _ ≤ 434; omega⟩ ⟨by show cells + 2 ≤ 601024; omega, by show slots + 12 ≤ 7293034; omega⟩ rfl (by decide) e65 rfl rfl (Nat.le_of_ble_eq_true rfl) dL_law_930 (fun r6 s2 H locs hq6 hH => ?_)
  obtain ⟨hf6, rf, z, ms, ⟨spo, ou6, c65⟩, hrf, hrk, hr6, hfin⟩ := hp6 _ _ hq6
  have hRel := hfin (fun q hq9 => hf6 q (Or.inl hq9))
  have c75 := (hf6 75 (Or.inr rfl)).trans h75
  refine lv_istore (lv' := [(6, .int r6), (5, .int (oI k5)), (0, .ref b), (1, .ref (ad 0)), (2, .ref (ad 65)), (3, .ref (ad 75)), (4, .int (oI ((i : Nat) : Int)))]) hx hb dL_law_933 hl (by decide) rfl (fun ls hl => ?_)
  refine lv_aload_n hx hb dL_law_935 rfl (lv_at hl 4 rfl) ?_
  refine m_callVi (C := RX6) (k := 65) (rest := []) (As := []) hx hb hml hown hts hK hH hl cw_L_101 (c6_thrown hA z ms spo ou6 rf (Nat.le_refl 76) ⟨by omega, by omega⟩ c65) ⟨by show 0 + 1 ≤ 12; omega, by show _ ≤ 434; omega⟩ ⟨by show cells + 2 ≤ 601024; omega, by show slots + 12 ≤ 7293034; omega⟩ rfl (by decide) c65 rfl rfl (Nat.le_of_ble_eq_true rfl) dL_law_936 (fun r7 s3 H locs hq7 hH => ?_)
  obtain ⟨h7, h8⟩ := hq7
  rw [h8] at hH
  rw [h7, hrk]
  refine lv_iload hx hb dL_law_939 (lv_at hl 1 rfl) ?_
  refine m_icmp_eq 946 hx hb dL_law_941 (by decide) (by omega) (by omega) (fun _ => ?_) (fun h => absurd rfl h)
  refine lv_iload hx hb dL_law_946 (lv_at hl 1 rfl) ?_
  refine m_if_ne 963 hx hb dL_law_948 (by decide) (by omega) (fun _ => ?_) (fun h0 => ?_)
  · refine lv_goto (tgt := 1759) hx hb dL_law_963 (by decide) ?_
    exact kk s2 H locs ls ⟨hRel, F, c75⟩ hH (lv_sub hl [2, 3, 4, 5, 6] rfl)
  · rw [hr6 h0] at hl
    refine lv_aload_n hx hb dL_law_951 rfl (lv_at hl 5 rfl) ?_
    refine m_iconst 0 hx hb dL_law_952 rfl ?_
    refine m_lald hx hb hK hH (k := 75) (by decide) c75 0 rfl (by decide) (by decide) dL_law_953 ?_
    rw [hF h0]
    refine lv_iload hx hb dL_law_954 (lv_at hl 0 rfl) ?_
    refine m_i2l hx hb dL_law_956 hvb ?_
    refine m_lcmp_eq 963 hx hb dL_law_957 dL_law_958 (by decide) ⟨by omega, by omega⟩ ⟨by omega, by omega⟩ (fun _ => ?_) (fun h => absurd rfl h)
    refine lv_goto (tgt := 1759) hx hb dL_law_963 (by decide) ?_
    exact kk s2 H locs ls ⟨hRel, F, c75⟩ hH (lv_sub hl [2, 3, 4, 5, 6] rfl)
set_option maxRecDepth 100000 in
theorem lc_14 {p : Program} {l : Launch} {e : Env} {s : State} {m : MethodId} {below : List Frame} {meth : Method} {c : Code} {b L : Nat} {xs : Nat → Int32} {D : va_G} {cT : Nat → ClassId} {ad : Nat → Nat} {Q : State → Prop} (hC : lwC p l s m c b L xs D cT ad) {i : Nat} (hi : i + 4 ≤ L) {σ : Nat → va_E} {H : Heap} {locs : List Loc} {cells slots : Nat} (hR : oRelW cT ad σ) (hH : oH s.heap.size D 76 ad s.heap σ H locs) {ls : Array Slot} (hl : lv_has ls 7 (lwB b ad i)) (hc : cells + 2 ≤ 601024 ∧ slots + 12 ≤ 7293034)
    (kk : ∀ (σ1 : Nat → va_E) (H1 : Heap) (locs1 : List Loc) (ls1 : Array Slot), oRelW cT ad σ1 → oH s.heap.size D 76 ad s.heap σ1 H1 locs1 → lv_has ls1 7 (lwB b ad i) → W p l e room_1 s m #[Value.ref b] below meth c H1 locs1 (cells + 2) (slots + 12) Q (F0 m 1759 ls1 [])) :
    W p l e room_1 s m #[Value.ref b] below meth c H locs cells slots Q (F0 m 966 ls []) := by
  obtain ⟨hx, hb, hml, hown, hts, hX, hbl, hLL, hK, hT, hNc, hA, hl0⟩ := hC
  obtain ⟨fs0, e0⟩ := hR.1.c0
  obtain ⟨F0, e75⟩ := hR.2
  obtain ⟨post5, fr, lo, kc, hM5, hb5, hp5⟩ := (kX_undo hA hl0 hR.1 ).use hR (fun hM h1 h2 => hL_undo hA (Nat.le_refl 76) hM e0 e75 h1 (fun E u h => (h2 E u h).elim id id)) (by decide)
  refine lv_aload_n hx hb dL_law_966 rfl (lv_at hl 1 rfl) ?_
  refine lv_aload_n hx hb dL_law_967 rfl (lv_at hl 3 rfl) ?_
  refine m_lawH (rest := []) (As := [.ref (ad 0), .ref (ad 75)]) hx hb hml hown hts hK hT hNc hH hl cs_L_149 hM5 ⟨by show fr + 1 ≤ 12; omega, by show _ ≤ 434; omega⟩ ⟨by show cells + kc ≤ 601024; omega, by show slots + 6 * kc ≤ 7293034; omega⟩ rfl rfl (Nat.le_of_ble_eq_true rfl) dL_law_968 (fun r5 s1 H locs hq5 hH => ?_)
  refine W.widen (k := cells + 2) (n := slots + 12) (by omega) (by omega) ?_
  obtain ⟨k5, v, F, hr5, hk5, hvb, h75, hF, ⟨fs6, e65⟩, post6, FR6, LO6, hM6, hb6, hp6⟩ := hp5 _ _ hq5
  rw [hr5]
  refine lv_istore (lv' := [(5, .int (oI k5)), (0, .ref b), (1, .ref (ad 0)), (2, .ref (ad 65)), (3, .ref (ad 75)), (4, .int (oI ((i : Nat) : Int)))]) hx hb dL_law_971 hl (by decide) rfl (fun ls hl => ?_)
  refine lv_aload_n hx hb dL_law_973 rfl (lv_at hl 3 rfl) ?_
  refine m_callVi (C := RX6) (k := 65) (rest := []) (As := []) hx hb hml hown hts hK hH hl cw_L_151 hM6 ⟨by show FR6 + 1 ≤ 12; omega, by show _ ≤ 434; omega⟩ ⟨by show cells + 2 ≤ 601024; omega, by show slots + 12 ≤ 7293034; omega⟩ rfl (by decide) e65 rfl rfl (Nat.le_of_ble_eq_true rfl) dL_law_974 (fun r6 s2 H locs hq6 hH => ?_)
  obtain ⟨hf6, rf, z, ms, ⟨spo, ou6, c65⟩, hrf, hrk, hr6, hfin⟩ := hp6 _ _ hq6
  have hRel := hfin (fun q hq9 => hf6 q (Or.inl hq9))
  have c75 := (hf6 75 (Or.inr rfl)).trans h75
  refine lv_istore (lv' := [(6, .int r6), (5, .int (oI k5)), (0, .ref b), (1, .ref (ad 0)), (2, .ref (ad 65)), (3, .ref (ad 75)), (4, .int (oI ((i : Nat) : Int)))]) hx hb dL_law_977 hl (by decide) rfl (fun ls hl => ?_)
  refine lv_aload_n hx hb dL_law_979 rfl (lv_at hl 4 rfl) ?_
  refine m_callVi (C := RX6) (k := 65) (rest := []) (As := []) hx hb hml hown hts hK hH hl cw_L_101 (c6_thrown hA z ms spo ou6 rf (Nat.le_refl 76) ⟨by omega, by omega⟩ c65) ⟨by show 0 + 1 ≤ 12; omega, by show _ ≤ 434; omega⟩ ⟨by show cells + 2 ≤ 601024; omega, by show slots + 12 ≤ 7293034; omega⟩ rfl (by decide) c65 rfl rfl (Nat.le_of_ble_eq_true rfl) dL_law_980 (fun r7 s3 H locs hq7 hH => ?_)
  obtain ⟨h7, h8⟩ := hq7
  rw [h8] at hH
  rw [h7, hrk]
  refine lv_iload hx hb dL_law_983 (lv_at hl 1 rfl) ?_
  refine m_icmp_eq 990 hx hb dL_law_985 (by decide) (by omega) (by omega) (fun _ => ?_) (fun h => absurd rfl h)
  refine lv_iload hx hb dL_law_990 (lv_at hl 1 rfl) ?_
  refine m_if_ne 1007 hx hb dL_law_992 (by decide) (by omega) (fun _ => ?_) (fun h0 => ?_)
  · refine lv_goto (tgt := 1759) hx hb dL_law_1007 (by decide) ?_
    exact kk s2 H locs ls ⟨hRel, F, c75⟩ hH (lv_sub hl [2, 3, 4, 5, 6] rfl)
  · rw [hr6 h0] at hl
    refine lv_aload_n hx hb dL_law_995 rfl (lv_at hl 5 rfl) ?_
    refine m_iconst 0 hx hb dL_law_996 rfl ?_
    refine m_lald hx hb hK hH (k := 75) (by decide) c75 0 rfl (by decide) (by decide) dL_law_997 ?_
    rw [hF h0]
    refine lv_iload hx hb dL_law_998 (lv_at hl 0 rfl) ?_
    refine m_i2l hx hb dL_law_1000 hvb ?_
    refine m_lcmp_eq 1007 hx hb dL_law_1001 dL_law_1002 (by decide) ⟨by omega, by omega⟩ ⟨by omega, by omega⟩ (fun _ => ?_) (fun h => absurd rfl h)
    refine lv_goto (tgt := 1759) hx hb dL_law_1007 (by decide) ?_
    exact kk s2 H locs ls ⟨hRel, F, c75⟩ hH (lv_sub hl [2, 3, 4, 5, 6] rfl)
set_option maxRecDepth 100000 in
theorem lc_15 {p : Program} {l : Launch} {e : Env} {s : State} {m : MethodId} {below : List Frame} {meth : Method} {c : Code} {b L : Nat} {xs : Nat → Int32} {D : va_G} {cT : Nat → ClassId} {ad : Nat → Nat} {Q : State → Prop} (hC : lwC p l s m c b L xs D cT ad) {i : Nat} (hi : i + 4 ≤ L) {σ : Nat → va_E} {H : Heap} {locs : List Loc} {cells slots : Nat} (hR : oRelW cT ad σ) (hH : oH s.heap.size D 76 ad s.heap σ H locs) {ls : Array Slot} (hl : lv_has ls 7 (lwB b ad i)) (hc : cells + 2 ≤ 601024 ∧ slots + 12 ≤ 7293034)
    (kk : ∀ (σ1 : Nat → va_E) (H1 : Heap) (locs1 : List Loc) (ls1 : Array Slot), oRelW cT ad σ1 → oH s.heap.size D 76 ad s.heap σ1 H1 locs1 → lv_has ls1 7 (lwB b ad i) → W p l e room_1 s m #[Value.ref b] below meth c H1 locs1 (cells + 2) (slots + 12) Q (F0 m 1759 ls1 [])) :
    W p l e room_1 s m #[Value.ref b] below meth c H locs cells slots Q (F0 m 1010 ls []) := by
  obtain ⟨hx, hb, hml, hown, hts, hX, hbl, hLL, hK, hT, hNc, hA, hl0⟩ := hC
  obtain ⟨v1, hv1⟩ : ∃ y : Int, (xs (i + 1)).toInt = y := ⟨_, rfl⟩
  have hb1 : -2147483648 ≤ v1 ∧ v1 < 2147483648 := by rw [← hv1]; exact oI_rng _
  obtain ⟨v2, hv2⟩ : ∃ y : Int, (xs (i + 2)).toInt = y := ⟨_, rfl⟩
  have hb2 : -2147483648 ≤ v2 ∧ v2 < 2147483648 := by rw [← hv2]; exact oI_rng _
  obtain ⟨fs0, e0⟩ := hR.1.c0
  obtain ⟨F0, e75⟩ := hR.2
  obtain ⟨post5, fr, lo, kc, hM5, hb5, hp5⟩ := (kX_fewest hA hl0 hR.1 v1 v2 hb1 hb2).use hR (fun hM h1 h2 => hL_fewest hA (Nat.le_refl 76) hM e0 e75 h1 (fun E u h => (h2 E u h).elim id id)) (by decide)
  refine lv_aload_n hx hb dL_law_1010 rfl (lv_at hl 1 rfl) ?_
  refine lv_aload_n hx hb dL_law_1011 rfl (lv_at hl 0 rfl) ?_
  refine lv_iload hx hb dL_law_1012 (lv_at hl 4 rfl) ?_
  refine m_iconst 1 hx hb dL_law_1014 rfl ?_
  refine m_iadd (((i : Nat) : Int) + 1) hx hb dL_law_1015 rfl ?_
  refine m_sld hx hb hX hbl hLL hH (i + 1) (by omega) (by omega) v1 hv1 dL_law_1016 ?_
  refine lv_aload_n hx hb dL_law_1017 rfl (lv_at hl 0 rfl) ?_
  refine lv_iload hx hb dL_law_1018 (lv_at hl 4 rfl) ?_
  refine m_iconst 2 hx hb dL_law_1020 rfl ?_
  refine m_iadd (((i : Nat) : Int) + 2) hx hb dL_law_1021 rfl ?_
  refine m_sld hx hb hX hbl hLL hH (i + 2) (by omega) (by omega) v2 hv2 dL_law_1022 ?_
  refine lv_aload_n hx hb dL_law_1023 rfl (lv_at hl 3 rfl) ?_
  refine m_lawH (rest := []) (As := [.ref (ad 0), .int (oI v1), .int (oI v2), .ref (ad 75)]) hx hb hml hown hts hK hT hNc hH hl cs_L_152 hM5 ⟨by show fr + 1 ≤ 12; omega, by show _ ≤ 434; omega⟩ ⟨by show cells + kc ≤ 601024; omega, by show slots + 6 * kc ≤ 7293034; omega⟩ rfl rfl (Nat.le_of_ble_eq_true rfl) dL_law_1024 (fun r5 s1 H locs hq5 hH => ?_)
  refine W.widen (k := cells + 2) (n := slots + 12) (by omega) (by omega) ?_
  obtain ⟨k5, v, F, hr5, hk5, hvb, h75, hF, ⟨fs6, e65⟩, post6, FR6, LO6, hM6, hb6, hp6⟩ := hp5 _ _ hq5
  rw [hr5]
  refine lv_istore (lv' := [(5, .int (oI k5)), (0, .ref b), (1, .ref (ad 0)), (2, .ref (ad 65)), (3, .ref (ad 75)), (4, .int (oI ((i : Nat) : Int)))]) hx hb dL_law_1027 hl (by decide) rfl (fun ls hl => ?_)
  refine lv_aload_n hx hb dL_law_1029 rfl (lv_at hl 3 rfl) ?_
  refine lv_aload_n hx hb dL_law_1030 rfl (lv_at hl 1 rfl) ?_
  refine lv_iload hx hb dL_law_1031 (lv_at hl 5 rfl) ?_
  refine m_iconst 1 hx hb dL_law_1033 rfl ?_
  refine m_iadd (((i : Nat) : Int) + 1) hx hb dL_law_1034 rfl ?_
  refine m_sld hx hb hX hbl hLL hH (i + 1) (by omega) (by omega) v1 hv1 dL_law_1035 ?_
  refine lv_aload_n hx hb dL_law_1036 rfl (lv_at hl 1 rfl) ?_
  refine lv_iload hx hb dL_law_1037 (lv_at hl 5 rfl) ?_
  refine m_iconst 2 hx hb dL_law_1039 rfl ?_
  refine m_iadd (((i : Nat) : Int) + 2) hx hb dL_law_1040 rfl ?_
  refine m_sld hx hb hX hbl hLL hH (i + 2) (by omega) (by omega) v2 hv2 dL_law_1041 ?_
  refine m_callVi (C := RX6) (k := 65) (rest := []) (As := [.int (oI v1), .int (oI v2)]) hx hb hml hown hts hK hH hl cw_L_154 hM6 ⟨by show FR6 + 1 ≤ 12; omega, by show _ ≤ 434; omega⟩ ⟨by show cells + 2 ≤ 601024; omega, by show slots + 12 ≤ 7293034; omega⟩ rfl (by decide) e65 rfl rfl (Nat.le_of_ble_eq_true rfl) dL_law_1042 (fun r6 s2 H locs hq6 hH => ?_)
  obtain ⟨hf6, rf, z, ms, ⟨spo, ou6, c65⟩, hrf, hrk, hr6, hfin⟩ := hp6 _ _ hq6
  have hRel := hfin (fun q hq9 => hf6 q (Or.inl hq9))
  have c75 := (hf6 75 (Or.inr rfl)).trans h75
  refine lv_istore (lv' := [(6, .int r6), (5, .int (oI k5)), (0, .ref b), (1, .ref (ad 0)), (2, .ref (ad 65)), (3, .ref (ad 75)), (4, .int (oI ((i : Nat) : Int)))]) hx hb dL_law_1045 hl (by decide) rfl (fun ls hl => ?_)
  refine lv_aload_n hx hb dL_law_1047 rfl (lv_at hl 4 rfl) ?_
  refine m_callVi (C := RX6) (k := 65) (rest := []) (As := []) hx hb hml hown hts hK hH hl cw_L_101 (c6_thrown hA z ms spo ou6 rf (Nat.le_refl 76) ⟨by omega, by omega⟩ c65) ⟨by show 0 + 1 ≤ 12; omega, by show _ ≤ 434; omega⟩ ⟨by show cells + 2 ≤ 601024; omega, by show slots + 12 ≤ 7293034; omega⟩ rfl (by decide) c65 rfl rfl (Nat.le_of_ble_eq_true rfl) dL_law_1048 (fun r7 s3 H locs hq7 hH => ?_)
  obtain ⟨h7, h8⟩ := hq7
  rw [h8] at hH
  rw [h7, hrk]
  refine lv_iload hx hb dL_law_1051 (lv_at hl 1 rfl) ?_
  refine m_icmp_eq 1058 hx hb dL_law_1053 (by decide) (by omega) (by omega) (fun _ => ?_) (fun h => absurd rfl h)
  refine lv_iload hx hb dL_law_1058 (lv_at hl 1 rfl) ?_
  refine m_if_ne 1075 hx hb dL_law_1060 (by decide) (by omega) (fun _ => ?_) (fun h0 => ?_)
  · refine lv_goto (tgt := 1759) hx hb dL_law_1075 (by decide) ?_
    exact kk s2 H locs ls ⟨hRel, F, c75⟩ hH (lv_sub hl [2, 3, 4, 5, 6] rfl)
  · rw [hr6 h0] at hl
    refine lv_aload_n hx hb dL_law_1063 rfl (lv_at hl 5 rfl) ?_
    refine m_iconst 0 hx hb dL_law_1064 rfl ?_
    refine m_lald hx hb hK hH (k := 75) (by decide) c75 0 rfl (by decide) (by decide) dL_law_1065 ?_
    rw [hF h0]
    refine lv_iload hx hb dL_law_1066 (lv_at hl 0 rfl) ?_
    refine m_i2l hx hb dL_law_1068 hvb ?_
    refine m_lcmp_eq 1075 hx hb dL_law_1069 dL_law_1070 (by decide) ⟨by omega, by omega⟩ ⟨by omega, by omega⟩ (fun _ => ?_) (fun h => absurd rfl h)
    refine lv_goto (tgt := 1759) hx hb dL_law_1075 (by decide) ?_
    exact kk s2 H locs ls ⟨hRel, F, c75⟩ hH (lv_sub hl [2, 3, 4, 5, 6] rfl)
set_option maxRecDepth 100000 in
theorem lc_16 {p : Program} {l : Launch} {e : Env} {s : State} {m : MethodId} {below : List Frame} {meth : Method} {c : Code} {b L : Nat} {xs : Nat → Int32} {D : va_G} {cT : Nat → ClassId} {ad : Nat → Nat} {Q : State → Prop} (hC : lwC p l s m c b L xs D cT ad) {i : Nat} (hi : i + 4 ≤ L) {σ : Nat → va_E} {H : Heap} {locs : List Loc} {cells slots : Nat} (hR : oRelW cT ad σ) (hH : oH s.heap.size D 76 ad s.heap σ H locs) {ls : Array Slot} (hl : lv_has ls 7 (lwB b ad i)) (hc : cells + 2 ≤ 601024 ∧ slots + 12 ≤ 7293034)
    (kk : ∀ (σ1 : Nat → va_E) (H1 : Heap) (locs1 : List Loc) (ls1 : Array Slot), oRelW cT ad σ1 → oH s.heap.size D 76 ad s.heap σ1 H1 locs1 → lv_has ls1 7 (lwB b ad i) → W p l e room_1 s m #[Value.ref b] below meth c H1 locs1 (cells + 2) (slots + 12) Q (F0 m 1759 ls1 [])) :
    W p l e room_1 s m #[Value.ref b] below meth c H locs cells slots Q (F0 m 1078 ls []) := by
  obtain ⟨hx, hb, hml, hown, hts, hX, hbl, hLL, hK, hT, hNc, hA, hl0⟩ := hC
  obtain ⟨v1, hv1⟩ : ∃ y : Int, (xs (i + 1)).toInt = y := ⟨_, rfl⟩
  have hb1 : -2147483648 ≤ v1 ∧ v1 < 2147483648 := by rw [← hv1]; exact oI_rng _
  obtain ⟨v2, hv2⟩ : ∃ y : Int, (xs (i + 2)).toInt = y := ⟨_, rfl⟩
  have hb2 : -2147483648 ≤ v2 ∧ v2 < 2147483648 := by rw [← hv2]; exact oI_rng _
  obtain ⟨v3, hv3⟩ : ∃ y : Int, (xs (i + 3)).toInt = y := ⟨_, rfl⟩
  have hb3 : -2147483648 ≤ v3 ∧ v3 < 2147483648 := by rw [← hv3]; exact oI_rng _
  obtain ⟨fs0, e0⟩ := hR.1.c0
  obtain ⟨F0, e75⟩ := hR.2
  obtain ⟨post5, fr, lo, kc, hM5, hb5, hp5⟩ := (kX_laying hA hl0 hR.1 v1 v2 v3 hb1 hb2 hb3).use hR (fun hM h1 h2 => hL_laying hA (Nat.le_refl 76) hM e0 e75 h1 (fun E u h => (h2 E u h).elim id id)) (by decide)
  refine lv_aload_n hx hb dL_law_1078 rfl (lv_at hl 1 rfl) ?_
  refine lv_aload_n hx hb dL_law_1079 rfl (lv_at hl 0 rfl) ?_
  refine lv_iload hx hb dL_law_1080 (lv_at hl 4 rfl) ?_
  refine m_iconst 1 hx hb dL_law_1082 rfl ?_
  refine m_iadd (((i : Nat) : Int) + 1) hx hb dL_law_1083 rfl ?_
  refine m_sld hx hb hX hbl hLL hH (i + 1) (by omega) (by omega) v1 hv1 dL_law_1084 ?_
  refine lv_aload_n hx hb dL_law_1085 rfl (lv_at hl 0 rfl) ?_
  refine lv_iload hx hb dL_law_1086 (lv_at hl 4 rfl) ?_
  refine m_iconst 2 hx hb dL_law_1088 rfl ?_
  refine m_iadd (((i : Nat) : Int) + 2) hx hb dL_law_1089 rfl ?_
  refine m_sld hx hb hX hbl hLL hH (i + 2) (by omega) (by omega) v2 hv2 dL_law_1090 ?_
  refine lv_aload_n hx hb dL_law_1091 rfl (lv_at hl 0 rfl) ?_
  refine lv_iload hx hb dL_law_1092 (lv_at hl 4 rfl) ?_
  refine m_iconst 3 hx hb dL_law_1094 rfl ?_
  refine m_iadd (((i : Nat) : Int) + 3) hx hb dL_law_1095 rfl ?_
  refine m_sld hx hb hX hbl hLL hH (i + 3) (by omega) (by omega) v3 hv3 dL_law_1096 ?_
  refine lv_aload_n hx hb dL_law_1097 rfl (lv_at hl 3 rfl) ?_
  refine m_lawH (rest := []) (As := [.ref (ad 0), .int (oI v1), .int (oI v2), .int (oI v3), .ref (ad 75)]) hx hb hml hown hts hK hT hNc hH hl cs_L_155 hM5 ⟨by show fr + 1 ≤ 12; omega, by show _ ≤ 434; omega⟩ ⟨by show cells + kc ≤ 601024; omega, by show slots + 6 * kc ≤ 7293034; omega⟩ rfl rfl (Nat.le_of_ble_eq_true rfl) dL_law_1098 (fun r5 s1 H locs hq5 hH => ?_)
  refine W.widen (k := cells + 2) (n := slots + 12) (by omega) (by omega) ?_
  obtain ⟨k5, v, F, hr5, hk5, hvb, h75, hF, ⟨fs6, e65⟩, post6, FR6, LO6, hM6, hb6, hp6⟩ := hp5 _ _ hq5
  rw [hr5]
  refine lv_istore (lv' := [(5, .int (oI k5)), (0, .ref b), (1, .ref (ad 0)), (2, .ref (ad 65)), (3, .ref (ad 75)), (4, .int (oI ((i : Nat) : Int)))]) hx hb dL_law_1101 hl (by decide) rfl (fun ls hl => ?_)
  refine lv_aload_n hx hb dL_law_1103 rfl (lv_at hl 3 rfl) ?_
  refine lv_aload_n hx hb dL_law_1104 rfl (lv_at hl 1 rfl) ?_
  refine lv_iload hx hb dL_law_1105 (lv_at hl 5 rfl) ?_
  refine m_iconst 1 hx hb dL_law_1107 rfl ?_
  refine m_iadd (((i : Nat) : Int) + 1) hx hb dL_law_1108 rfl ?_
  refine m_sld hx hb hX hbl hLL hH (i + 1) (by omega) (by omega) v1 hv1 dL_law_1109 ?_
  refine lv_aload_n hx hb dL_law_1110 rfl (lv_at hl 1 rfl) ?_
  refine lv_iload hx hb dL_law_1111 (lv_at hl 5 rfl) ?_
  refine m_iconst 2 hx hb dL_law_1113 rfl ?_
  refine m_iadd (((i : Nat) : Int) + 2) hx hb dL_law_1114 rfl ?_
  refine m_sld hx hb hX hbl hLL hH (i + 2) (by omega) (by omega) v2 hv2 dL_law_1115 ?_
  refine lv_aload_n hx hb dL_law_1116 rfl (lv_at hl 1 rfl) ?_
  refine lv_iload hx hb dL_law_1117 (lv_at hl 5 rfl) ?_
  refine m_iconst 3 hx hb dL_law_1119 rfl ?_
  refine m_iadd (((i : Nat) : Int) + 3) hx hb dL_law_1120 rfl ?_
  refine m_sld hx hb hX hbl hLL hH (i + 3) (by omega) (by omega) v3 hv3 dL_law_1121 ?_
  refine m_callVi (C := RX6) (k := 65) (rest := []) (As := [.int (oI v1), .int (oI v2), .int (oI v3)]) hx hb hml hown hts hK hH hl cw_L_157 hM6 ⟨by show FR6 + 1 ≤ 12; omega, by show _ ≤ 434; omega⟩ ⟨by show cells + 2 ≤ 601024; omega, by show slots + 12 ≤ 7293034; omega⟩ rfl (by decide) e65 rfl rfl (Nat.le_of_ble_eq_true rfl) dL_law_1122 (fun r6 s2 H locs hq6 hH => ?_)
  obtain ⟨hf6, rf, z, ms, ⟨spo, ou6, c65⟩, hrf, hrk, hr6, hfin⟩ := hp6 _ _ hq6
  have hRel := hfin (fun q hq9 => hf6 q (Or.inl hq9))
  have c75 := (hf6 75 (Or.inr rfl)).trans h75
  refine lv_istore (lv' := [(6, .int r6), (5, .int (oI k5)), (0, .ref b), (1, .ref (ad 0)), (2, .ref (ad 65)), (3, .ref (ad 75)), (4, .int (oI ((i : Nat) : Int)))]) hx hb dL_law_1125 hl (by decide) rfl (fun ls hl => ?_)
  refine lv_aload_n hx hb dL_law_1127 rfl (lv_at hl 4 rfl) ?_
  refine m_callVi (C := RX6) (k := 65) (rest := []) (As := []) hx hb hml hown hts hK hH hl cw_L_101 (c6_thrown hA z ms spo ou6 rf (Nat.le_refl 76) ⟨by omega, by omega⟩ c65) ⟨by show 0 + 1 ≤ 12; omega, by show _ ≤ 434; omega⟩ ⟨by show cells + 2 ≤ 601024; omega, by show slots + 12 ≤ 7293034; omega⟩ rfl (by decide) c65 rfl rfl (Nat.le_of_ble_eq_true rfl) dL_law_1128 (fun r7 s3 H locs hq7 hH => ?_)
  obtain ⟨h7, h8⟩ := hq7
  rw [h8] at hH
  rw [h7, hrk]
  refine lv_iload hx hb dL_law_1131 (lv_at hl 1 rfl) ?_
  refine m_icmp_eq 1138 hx hb dL_law_1133 (by decide) (by omega) (by omega) (fun _ => ?_) (fun h => absurd rfl h)
  refine lv_iload hx hb dL_law_1138 (lv_at hl 1 rfl) ?_
  refine m_if_ne 1155 hx hb dL_law_1140 (by decide) (by omega) (fun _ => ?_) (fun h0 => ?_)
  · refine lv_goto (tgt := 1759) hx hb dL_law_1155 (by decide) ?_
    exact kk s2 H locs ls ⟨hRel, F, c75⟩ hH (lv_sub hl [2, 3, 4, 5, 6] rfl)
  · rw [hr6 h0] at hl
    refine lv_aload_n hx hb dL_law_1143 rfl (lv_at hl 5 rfl) ?_
    refine m_iconst 0 hx hb dL_law_1144 rfl ?_
    refine m_lald hx hb hK hH (k := 75) (by decide) c75 0 rfl (by decide) (by decide) dL_law_1145 ?_
    rw [hF h0]
    refine lv_iload hx hb dL_law_1146 (lv_at hl 0 rfl) ?_
    refine m_i2l hx hb dL_law_1148 hvb ?_
    refine m_lcmp_eq 1155 hx hb dL_law_1149 dL_law_1150 (by decide) ⟨by omega, by omega⟩ ⟨by omega, by omega⟩ (fun _ => ?_) (fun h => absurd rfl h)
    refine lv_goto (tgt := 1759) hx hb dL_law_1155 (by decide) ?_
    exact kk s2 H locs ls ⟨hRel, F, c75⟩ hH (lv_sub hl [2, 3, 4, 5, 6] rfl)
set_option maxRecDepth 100000 in
theorem lc_17 {p : Program} {l : Launch} {e : Env} {s : State} {m : MethodId} {below : List Frame} {meth : Method} {c : Code} {b L : Nat} {xs : Nat → Int32} {D : va_G} {cT : Nat → ClassId} {ad : Nat → Nat} {Q : State → Prop} (hC : lwC p l s m c b L xs D cT ad) {i : Nat} (hi : i + 4 ≤ L) {σ : Nat → va_E} {H : Heap} {locs : List Loc} {cells slots : Nat} (hR : oRelW cT ad σ) (hH : oH s.heap.size D 76 ad s.heap σ H locs) {ls : Array Slot} (hl : lv_has ls 7 (lwB b ad i)) (hc : cells + 2 ≤ 601024 ∧ slots + 12 ≤ 7293034)
    (kk : ∀ (σ1 : Nat → va_E) (H1 : Heap) (locs1 : List Loc) (ls1 : Array Slot), oRelW cT ad σ1 → oH s.heap.size D 76 ad s.heap σ1 H1 locs1 → lv_has ls1 7 (lwB b ad i) → W p l e room_1 s m #[Value.ref b] below meth c H1 locs1 (cells + 2) (slots + 12) Q (F0 m 1759 ls1 [])) :
    W p l e room_1 s m #[Value.ref b] below meth c H locs cells slots Q (F0 m 1158 ls []) := by
  obtain ⟨hx, hb, hml, hown, hts, hX, hbl, hLL, hK, hT, hNc, hA, hl0⟩ := hC
  obtain ⟨v1, hv1⟩ : ∃ y : Int, (xs (i + 1)).toInt = y := ⟨_, rfl⟩
  have hb1 : -2147483648 ≤ v1 ∧ v1 < 2147483648 := by rw [← hv1]; exact oI_rng _
  obtain ⟨fs0, e0⟩ := hR.1.c0
  obtain ⟨F0, e75⟩ := hR.2
  obtain ⟨post5, fr, lo, kc, hM5, hb5, hp5⟩ := (kX_why hA hl0 hR.1 v1 hb1).use hR (fun hM h1 h2 => hL_why hA (Nat.le_refl 76) hM e0 e75 h1 (fun E u h => (h2 E u h).elim id id)) (by decide)
  refine lv_aload_n hx hb dL_law_1158 rfl (lv_at hl 1 rfl) ?_
  refine lv_aload_n hx hb dL_law_1159 rfl (lv_at hl 0 rfl) ?_
  refine lv_iload hx hb dL_law_1160 (lv_at hl 4 rfl) ?_
  refine m_iconst 1 hx hb dL_law_1162 rfl ?_
  refine m_iadd (((i : Nat) : Int) + 1) hx hb dL_law_1163 rfl ?_
  refine m_sld hx hb hX hbl hLL hH (i + 1) (by omega) (by omega) v1 hv1 dL_law_1164 ?_
  refine lv_aload_n hx hb dL_law_1165 rfl (lv_at hl 3 rfl) ?_
  refine m_lawH (rest := []) (As := [.ref (ad 0), .int (oI v1), .ref (ad 75)]) hx hb hml hown hts hK hT hNc hH hl cs_L_158 hM5 ⟨by show fr + 1 ≤ 12; omega, by show _ ≤ 434; omega⟩ ⟨by show cells + kc ≤ 601024; omega, by show slots + 6 * kc ≤ 7293034; omega⟩ rfl rfl (Nat.le_of_ble_eq_true rfl) dL_law_1166 (fun r5 s1 H locs hq5 hH => ?_)
  refine W.widen (k := cells + 2) (n := slots + 12) (by omega) (by omega) ?_
  obtain ⟨k5, v, F, hr5, hk5, hvb, h75, hF, ⟨fs6, e65⟩, post6, FR6, LO6, hM6, hb6, hp6⟩ := hp5 _ _ hq5
  rw [hr5]
  refine lv_istore (lv' := [(5, .int (oI k5)), (0, .ref b), (1, .ref (ad 0)), (2, .ref (ad 65)), (3, .ref (ad 75)), (4, .int (oI ((i : Nat) : Int)))]) hx hb dL_law_1169 hl (by decide) rfl (fun ls hl => ?_)
  refine lv_aload_n hx hb dL_law_1171 rfl (lv_at hl 3 rfl) ?_
  refine lv_aload_n hx hb dL_law_1172 rfl (lv_at hl 1 rfl) ?_
  refine lv_iload hx hb dL_law_1173 (lv_at hl 5 rfl) ?_
  refine m_iconst 1 hx hb dL_law_1175 rfl ?_
  refine m_iadd (((i : Nat) : Int) + 1) hx hb dL_law_1176 rfl ?_
  refine m_sld hx hb hX hbl hLL hH (i + 1) (by omega) (by omega) v1 hv1 dL_law_1177 ?_
  refine m_callVi (C := RX6) (k := 65) (rest := []) (As := [.int (oI v1)]) hx hb hml hown hts hK hH hl cw_L_160 hM6 ⟨by show FR6 + 1 ≤ 12; omega, by show _ ≤ 434; omega⟩ ⟨by show cells + 2 ≤ 601024; omega, by show slots + 12 ≤ 7293034; omega⟩ rfl (by decide) e65 rfl rfl (Nat.le_of_ble_eq_true rfl) dL_law_1178 (fun r6 s2 H locs hq6 hH => ?_)
  obtain ⟨hf6, rf, z, ms, ⟨spo, ou6, c65⟩, hrf, hrk, hr6, hfin⟩ := hp6 _ _ hq6
  have hRel := hfin (fun q hq9 => hf6 q (Or.inl hq9))
  have c75 := (hf6 75 (Or.inr rfl)).trans h75
  refine lv_istore (lv' := [(6, .int r6), (5, .int (oI k5)), (0, .ref b), (1, .ref (ad 0)), (2, .ref (ad 65)), (3, .ref (ad 75)), (4, .int (oI ((i : Nat) : Int)))]) hx hb dL_law_1181 hl (by decide) rfl (fun ls hl => ?_)
  refine lv_aload_n hx hb dL_law_1183 rfl (lv_at hl 4 rfl) ?_
  refine m_callVi (C := RX6) (k := 65) (rest := []) (As := []) hx hb hml hown hts hK hH hl cw_L_101 (c6_thrown hA z ms spo ou6 rf (Nat.le_refl 76) ⟨by omega, by omega⟩ c65) ⟨by show 0 + 1 ≤ 12; omega, by show _ ≤ 434; omega⟩ ⟨by show cells + 2 ≤ 601024; omega, by show slots + 12 ≤ 7293034; omega⟩ rfl (by decide) c65 rfl rfl (Nat.le_of_ble_eq_true rfl) dL_law_1184 (fun r7 s3 H locs hq7 hH => ?_)
  obtain ⟨h7, h8⟩ := hq7
  rw [h8] at hH
  rw [h7, hrk]
  refine lv_iload hx hb dL_law_1187 (lv_at hl 1 rfl) ?_
  refine m_icmp_eq 1194 hx hb dL_law_1189 (by decide) (by omega) (by omega) (fun _ => ?_) (fun h => absurd rfl h)
  refine lv_iload hx hb dL_law_1194 (lv_at hl 1 rfl) ?_
  refine m_if_ne 1211 hx hb dL_law_1196 (by decide) (by omega) (fun _ => ?_) (fun h0 => ?_)
  · refine lv_goto (tgt := 1759) hx hb dL_law_1211 (by decide) ?_
    exact kk s2 H locs ls ⟨hRel, F, c75⟩ hH (lv_sub hl [2, 3, 4, 5, 6] rfl)
  · rw [hr6 h0] at hl
    refine lv_aload_n hx hb dL_law_1199 rfl (lv_at hl 5 rfl) ?_
    refine m_iconst 0 hx hb dL_law_1200 rfl ?_
    refine m_lald hx hb hK hH (k := 75) (by decide) c75 0 rfl (by decide) (by decide) dL_law_1201 ?_
    rw [hF h0]
    refine lv_iload hx hb dL_law_1202 (lv_at hl 0 rfl) ?_
    refine m_i2l hx hb dL_law_1204 hvb ?_
    refine m_lcmp_eq 1211 hx hb dL_law_1205 dL_law_1206 (by decide) ⟨by omega, by omega⟩ ⟨by omega, by omega⟩ (fun _ => ?_) (fun h => absurd rfl h)
    refine lv_goto (tgt := 1759) hx hb dL_law_1211 (by decide) ?_
    exact kk s2 H locs ls ⟨hRel, F, c75⟩ hH (lv_sub hl [2, 3, 4, 5, 6] rfl)
set_option maxRecDepth 100000 in
theorem lc_18 {p : Program} {l : Launch} {e : Env} {s : State} {m : MethodId} {below : List Frame} {meth : Method} {c : Code} {b L : Nat} {xs : Nat → Int32} {D : va_G} {cT : Nat → ClassId} {ad : Nat → Nat} {Q : State → Prop} (hC : lwC p l s m c b L xs D cT ad) {i : Nat} (hi : i + 4 ≤ L) {σ : Nat → va_E} {H : Heap} {locs : List Loc} {cells slots : Nat} (hR : oRelW cT ad σ) (hH : oH s.heap.size D 76 ad s.heap σ H locs) {ls : Array Slot} (hl : lv_has ls 7 (lwB b ad i)) (hc : cells + 2 ≤ 601024 ∧ slots + 12 ≤ 7293034)
    (kk : ∀ (σ1 : Nat → va_E) (H1 : Heap) (locs1 : List Loc) (ls1 : Array Slot), oRelW cT ad σ1 → oH s.heap.size D 76 ad s.heap σ1 H1 locs1 → lv_has ls1 7 (lwB b ad i) → W p l e room_1 s m #[Value.ref b] below meth c H1 locs1 (cells + 2) (slots + 12) Q (F0 m 1759 ls1 [])) :
    W p l e room_1 s m #[Value.ref b] below meth c H locs cells slots Q (F0 m 1214 ls []) := by
  obtain ⟨hx, hb, hml, hown, hts, hX, hbl, hLL, hK, hT, hNc, hA, hl0⟩ := hC
  obtain ⟨v1, hv1⟩ : ∃ y : Int, (xs (i + 1)).toInt = y := ⟨_, rfl⟩
  have hb1 : -2147483648 ≤ v1 ∧ v1 < 2147483648 := by rw [← hv1]; exact oI_rng _
  obtain ⟨v2, hv2⟩ : ∃ y : Int, (xs (i + 2)).toInt = y := ⟨_, rfl⟩
  have hb2 : -2147483648 ≤ v2 ∧ v2 < 2147483648 := by rw [← hv2]; exact oI_rng _
  obtain ⟨fs0, e0⟩ := hR.1.c0
  obtain ⟨F0, e75⟩ := hR.2
  obtain ⟨post5, fr, lo, kc, hM5, hb5, hp5⟩ := (kX_bestMark hA hl0 hR.1 v1 v2 hb1 hb2).use hR (fun hM h1 h2 => hL_bestMark hA (Nat.le_refl 76) hM e0 e75 h1 (fun E u h => (h2 E u h))) (by decide)
  refine lv_aload_n hx hb dL_law_1214 rfl (lv_at hl 1 rfl) ?_
  refine lv_aload_n hx hb dL_law_1215 rfl (lv_at hl 0 rfl) ?_
  refine lv_iload hx hb dL_law_1216 (lv_at hl 4 rfl) ?_
  refine m_iconst 1 hx hb dL_law_1218 rfl ?_
  refine m_iadd (((i : Nat) : Int) + 1) hx hb dL_law_1219 rfl ?_
  refine m_sld hx hb hX hbl hLL hH (i + 1) (by omega) (by omega) v1 hv1 dL_law_1220 ?_
  refine lv_aload_n hx hb dL_law_1221 rfl (lv_at hl 0 rfl) ?_
  refine lv_iload hx hb dL_law_1222 (lv_at hl 4 rfl) ?_
  refine m_iconst 2 hx hb dL_law_1224 rfl ?_
  refine m_iadd (((i : Nat) : Int) + 2) hx hb dL_law_1225 rfl ?_
  refine m_sld hx hb hX hbl hLL hH (i + 2) (by omega) (by omega) v2 hv2 dL_law_1226 ?_
  refine lv_aload_n hx hb dL_law_1227 rfl (lv_at hl 3 rfl) ?_
  refine m_lawH (rest := []) (As := [.ref (ad 0), .int (oI v1), .int (oI v2), .ref (ad 75)]) hx hb hml hown hts hK hT hNc hH hl cs_L_161 hM5 ⟨by show fr + 1 ≤ 12; omega, by show _ ≤ 434; omega⟩ ⟨by show cells + kc ≤ 601024; omega, by show slots + 6 * kc ≤ 7293034; omega⟩ rfl rfl (Nat.le_of_ble_eq_true rfl) dL_law_1228 (fun r5 s1 H locs hq5 hH => ?_)
  refine W.widen (k := cells + 2) (n := slots + 12) (by omega) (by omega) ?_
  obtain ⟨k5, v, F, hr5, hk5, hvb, h75, hF, ⟨fs6, e65⟩, post6, FR6, LO6, hM6, hb6, hp6⟩ := hp5 _ _ hq5
  rw [hr5]
  refine lv_istore (lv' := [(5, .int (oI k5)), (0, .ref b), (1, .ref (ad 0)), (2, .ref (ad 65)), (3, .ref (ad 75)), (4, .int (oI ((i : Nat) : Int)))]) hx hb dL_law_1231 hl (by decide) rfl (fun ls hl => ?_)
  refine lv_aload_n hx hb dL_law_1233 rfl (lv_at hl 3 rfl) ?_
  refine lv_aload_n hx hb dL_law_1234 rfl (lv_at hl 1 rfl) ?_
  refine lv_iload hx hb dL_law_1235 (lv_at hl 5 rfl) ?_
  refine m_iconst 1 hx hb dL_law_1237 rfl ?_
  refine m_iadd (((i : Nat) : Int) + 1) hx hb dL_law_1238 rfl ?_
  refine m_sld hx hb hX hbl hLL hH (i + 1) (by omega) (by omega) v1 hv1 dL_law_1239 ?_
  refine lv_aload_n hx hb dL_law_1240 rfl (lv_at hl 1 rfl) ?_
  refine lv_iload hx hb dL_law_1241 (lv_at hl 5 rfl) ?_
  refine m_iconst 2 hx hb dL_law_1243 rfl ?_
  refine m_iadd (((i : Nat) : Int) + 2) hx hb dL_law_1244 rfl ?_
  refine m_sld hx hb hX hbl hLL hH (i + 2) (by omega) (by omega) v2 hv2 dL_law_1245 ?_
  refine m_callVi (C := RX6) (k := 65) (rest := []) (As := [.int (oI v1), .int (oI v2)]) hx hb hml hown hts hK hH hl cw_L_163 hM6 ⟨by show FR6 + 1 ≤ 12; omega, by show _ ≤ 434; omega⟩ ⟨by show cells + 2 ≤ 601024; omega, by show slots + 12 ≤ 7293034; omega⟩ rfl (by decide) e65 rfl rfl (Nat.le_of_ble_eq_true rfl) dL_law_1246 (fun r6 s2 H locs hq6 hH => ?_)
  obtain ⟨hf6, rf, z, ms, ⟨spo, ou6, c65⟩, hrf, hrk, hr6, hfin⟩ := hp6 _ _ hq6
  have hRel := hfin (fun q hq9 => hf6 q (Or.inl hq9))
  have c75 := (hf6 75 (Or.inr rfl)).trans h75
  refine lv_istore (lv' := [(6, .int r6), (5, .int (oI k5)), (0, .ref b), (1, .ref (ad 0)), (2, .ref (ad 65)), (3, .ref (ad 75)), (4, .int (oI ((i : Nat) : Int)))]) hx hb dL_law_1249 hl (by decide) rfl (fun ls hl => ?_)
  refine lv_aload_n hx hb dL_law_1251 rfl (lv_at hl 4 rfl) ?_
  refine m_callVi (C := RX6) (k := 65) (rest := []) (As := []) hx hb hml hown hts hK hH hl cw_L_101 (c6_thrown hA z ms spo ou6 rf (Nat.le_refl 76) ⟨by omega, by omega⟩ c65) ⟨by show 0 + 1 ≤ 12; omega, by show _ ≤ 434; omega⟩ ⟨by show cells + 2 ≤ 601024; omega, by show slots + 12 ≤ 7293034; omega⟩ rfl (by decide) c65 rfl rfl (Nat.le_of_ble_eq_true rfl) dL_law_1252 (fun r7 s3 H locs hq7 hH => ?_)
  obtain ⟨h7, h8⟩ := hq7
  rw [h8] at hH
  rw [h7, hrk]
  refine lv_iload hx hb dL_law_1255 (lv_at hl 1 rfl) ?_
  refine m_icmp_eq 1262 hx hb dL_law_1257 (by decide) (by omega) (by omega) (fun _ => ?_) (fun h => absurd rfl h)
  refine lv_iload hx hb dL_law_1262 (lv_at hl 1 rfl) ?_
  refine m_if_ne 1279 hx hb dL_law_1264 (by decide) (by omega) (fun _ => ?_) (fun h0 => ?_)
  · refine lv_goto (tgt := 1759) hx hb dL_law_1279 (by decide) ?_
    exact kk s2 H locs ls ⟨hRel, F, c75⟩ hH (lv_sub hl [2, 3, 4, 5, 6] rfl)
  · rw [hr6 h0] at hl
    refine lv_aload_n hx hb dL_law_1267 rfl (lv_at hl 5 rfl) ?_
    refine m_iconst 0 hx hb dL_law_1268 rfl ?_
    refine m_lald hx hb hK hH (k := 75) (by decide) c75 0 rfl (by decide) (by decide) dL_law_1269 ?_
    rw [hF h0]
    refine lv_iload hx hb dL_law_1270 (lv_at hl 0 rfl) ?_
    refine m_i2l hx hb dL_law_1272 hvb ?_
    refine m_lcmp_eq 1279 hx hb dL_law_1273 dL_law_1274 (by decide) ⟨by omega, by omega⟩ ⟨by omega, by omega⟩ (fun _ => ?_) (fun h => absurd rfl h)
    refine lv_goto (tgt := 1759) hx hb dL_law_1279 (by decide) ?_
    exact kk s2 H locs ls ⟨hRel, F, c75⟩ hH (lv_sub hl [2, 3, 4, 5, 6] rfl)
set_option maxRecDepth 100000 in
theorem lc_19 {p : Program} {l : Launch} {e : Env} {s : State} {m : MethodId} {below : List Frame} {meth : Method} {c : Code} {b L : Nat} {xs : Nat → Int32} {D : va_G} {cT : Nat → ClassId} {ad : Nat → Nat} {Q : State → Prop} (hC : lwC p l s m c b L xs D cT ad) {i : Nat} (hi : i + 4 ≤ L) {σ : Nat → va_E} {H : Heap} {locs : List Loc} {cells slots : Nat} (hR : oRelW cT ad σ) (hH : oH s.heap.size D 76 ad s.heap σ H locs) {ls : Array Slot} (hl : lv_has ls 7 (lwB b ad i)) (hc : cells + 2 ≤ 601024 ∧ slots + 12 ≤ 7293034)
    (kk : ∀ (σ1 : Nat → va_E) (H1 : Heap) (locs1 : List Loc) (ls1 : Array Slot), oRelW cT ad σ1 → oH s.heap.size D 76 ad s.heap σ1 H1 locs1 → lv_has ls1 7 (lwB b ad i) → W p l e room_1 s m #[Value.ref b] below meth c H1 locs1 (cells + 2) (slots + 12) Q (F0 m 1759 ls1 [])) :
    W p l e room_1 s m #[Value.ref b] below meth c H locs cells slots Q (F0 m 1282 ls []) := by
  obtain ⟨hx, hb, hml, hown, hts, hX, hbl, hLL, hK, hT, hNc, hA, hl0⟩ := hC
  obtain ⟨v1, hv1⟩ : ∃ y : Int, (xs (i + 1)).toInt = y := ⟨_, rfl⟩
  have hb1 : -2147483648 ≤ v1 ∧ v1 < 2147483648 := by rw [← hv1]; exact oI_rng _
  obtain ⟨fs0, e0⟩ := hR.1.c0
  obtain ⟨F0, e75⟩ := hR.2
  obtain ⟨post5, fr, lo, kc, hM5, hb5, hp5⟩ := (kX_needless hA hl0 hR.1 v1 hb1).use hR (fun hM h1 h2 => hL_needless hA (Nat.le_refl 76) hM e0 e75 h1 (fun E u h => (h2 E u h).elim id id)) (by decide)
  refine lv_aload_n hx hb dL_law_1282 rfl (lv_at hl 1 rfl) ?_
  refine lv_aload_n hx hb dL_law_1283 rfl (lv_at hl 0 rfl) ?_
  refine lv_iload hx hb dL_law_1284 (lv_at hl 4 rfl) ?_
  refine m_iconst 1 hx hb dL_law_1286 rfl ?_
  refine m_iadd (((i : Nat) : Int) + 1) hx hb dL_law_1287 rfl ?_
  refine m_sld hx hb hX hbl hLL hH (i + 1) (by omega) (by omega) v1 hv1 dL_law_1288 ?_
  refine lv_aload_n hx hb dL_law_1289 rfl (lv_at hl 3 rfl) ?_
  refine m_lawH (rest := []) (As := [.ref (ad 0), .int (oI v1), .ref (ad 75)]) hx hb hml hown hts hK hT hNc hH hl cs_L_164 hM5 ⟨by show fr + 1 ≤ 12; omega, by show _ ≤ 434; omega⟩ ⟨by show cells + kc ≤ 601024; omega, by show slots + 6 * kc ≤ 7293034; omega⟩ rfl rfl (Nat.le_of_ble_eq_true rfl) dL_law_1290 (fun r5 s1 H locs hq5 hH => ?_)
  refine W.widen (k := cells + 2) (n := slots + 12) (by omega) (by omega) ?_
  obtain ⟨k5, v, F, hr5, hk5, hvb, h75, hF, ⟨fs6, e65⟩, post6, FR6, LO6, hM6, hb6, hp6⟩ := hp5 _ _ hq5
  rw [hr5]
  refine lv_istore (lv' := [(5, .int (oI k5)), (0, .ref b), (1, .ref (ad 0)), (2, .ref (ad 65)), (3, .ref (ad 75)), (4, .int (oI ((i : Nat) : Int)))]) hx hb dL_law_1293 hl (by decide) rfl (fun ls hl => ?_)
  refine lv_aload_n hx hb dL_law_1295 rfl (lv_at hl 3 rfl) ?_
  refine lv_aload_n hx hb dL_law_1296 rfl (lv_at hl 1 rfl) ?_
  refine lv_iload hx hb dL_law_1297 (lv_at hl 5 rfl) ?_
  refine m_iconst 1 hx hb dL_law_1299 rfl ?_
  refine m_iadd (((i : Nat) : Int) + 1) hx hb dL_law_1300 rfl ?_
  refine m_sld hx hb hX hbl hLL hH (i + 1) (by omega) (by omega) v1 hv1 dL_law_1301 ?_
  refine m_callVi (C := RX6) (k := 65) (rest := []) (As := [.int (oI v1)]) hx hb hml hown hts hK hH hl cw_L_166 hM6 ⟨by show FR6 + 1 ≤ 12; omega, by show _ ≤ 434; omega⟩ ⟨by show cells + 2 ≤ 601024; omega, by show slots + 12 ≤ 7293034; omega⟩ rfl (by decide) e65 rfl rfl (Nat.le_of_ble_eq_true rfl) dL_law_1302 (fun r6 s2 H locs hq6 hH => ?_)
  obtain ⟨hf6, rf, z, ms, ⟨spo, ou6, c65⟩, hrf, hrk, hr6, hfin⟩ := hp6 _ _ hq6
  have hRel := hfin (fun q hq9 => hf6 q (Or.inl hq9))
  have c75 := (hf6 75 (Or.inr rfl)).trans h75
  refine lv_istore (lv' := [(6, .int r6), (5, .int (oI k5)), (0, .ref b), (1, .ref (ad 0)), (2, .ref (ad 65)), (3, .ref (ad 75)), (4, .int (oI ((i : Nat) : Int)))]) hx hb dL_law_1305 hl (by decide) rfl (fun ls hl => ?_)
  refine lv_aload_n hx hb dL_law_1307 rfl (lv_at hl 4 rfl) ?_
  refine m_callVi (C := RX6) (k := 65) (rest := []) (As := []) hx hb hml hown hts hK hH hl cw_L_101 (c6_thrown hA z ms spo ou6 rf (Nat.le_refl 76) ⟨by omega, by omega⟩ c65) ⟨by show 0 + 1 ≤ 12; omega, by show _ ≤ 434; omega⟩ ⟨by show cells + 2 ≤ 601024; omega, by show slots + 12 ≤ 7293034; omega⟩ rfl (by decide) c65 rfl rfl (Nat.le_of_ble_eq_true rfl) dL_law_1308 (fun r7 s3 H locs hq7 hH => ?_)
  obtain ⟨h7, h8⟩ := hq7
  rw [h8] at hH
  rw [h7, hrk]
  refine lv_iload hx hb dL_law_1311 (lv_at hl 1 rfl) ?_
  refine m_icmp_eq 1318 hx hb dL_law_1313 (by decide) (by omega) (by omega) (fun _ => ?_) (fun h => absurd rfl h)
  refine lv_iload hx hb dL_law_1318 (lv_at hl 1 rfl) ?_
  refine m_if_ne 1335 hx hb dL_law_1320 (by decide) (by omega) (fun _ => ?_) (fun h0 => ?_)
  · refine lv_goto (tgt := 1759) hx hb dL_law_1335 (by decide) ?_
    exact kk s2 H locs ls ⟨hRel, F, c75⟩ hH (lv_sub hl [2, 3, 4, 5, 6] rfl)
  · rw [hr6 h0] at hl
    refine lv_aload_n hx hb dL_law_1323 rfl (lv_at hl 5 rfl) ?_
    refine m_iconst 0 hx hb dL_law_1324 rfl ?_
    refine m_lald hx hb hK hH (k := 75) (by decide) c75 0 rfl (by decide) (by decide) dL_law_1325 ?_
    rw [hF h0]
    refine lv_iload hx hb dL_law_1326 (lv_at hl 0 rfl) ?_
    refine m_i2l hx hb dL_law_1328 hvb ?_
    refine m_lcmp_eq 1335 hx hb dL_law_1329 dL_law_1330 (by decide) ⟨by omega, by omega⟩ ⟨by omega, by omega⟩ (fun _ => ?_) (fun h => absurd rfl h)
    refine lv_goto (tgt := 1759) hx hb dL_law_1335 (by decide) ?_
    exact kk s2 H locs ls ⟨hRel, F, c75⟩ hH (lv_sub hl [2, 3, 4, 5, 6] rfl)
set_option maxRecDepth 100000 in
theorem lc_20 {p : Program} {l : Launch} {e : Env} {s : State} {m : MethodId} {below : List Frame} {meth : Method} {c : Code} {b L : Nat} {xs : Nat → Int32} {D : va_G} {cT : Nat → ClassId} {ad : Nat → Nat} {Q : State → Prop} (hC : lwC p l s m c b L xs D cT ad) {i : Nat} (hi : i + 4 ≤ L) {σ : Nat → va_E} {H : Heap} {locs : List Loc} {cells slots : Nat} (hR : oRelW cT ad σ) (hH : oH s.heap.size D 76 ad s.heap σ H locs) {ls : Array Slot} (hl : lv_has ls 7 (lwB b ad i)) (hc : cells + 2 ≤ 601024 ∧ slots + 12 ≤ 7293034)
    (kk : ∀ (σ1 : Nat → va_E) (H1 : Heap) (locs1 : List Loc) (ls1 : Array Slot), oRelW cT ad σ1 → oH s.heap.size D 76 ad s.heap σ1 H1 locs1 → lv_has ls1 7 (lwB b ad i) → W p l e room_1 s m #[Value.ref b] below meth c H1 locs1 (cells + 2) (slots + 12) Q (F0 m 1759 ls1 [])) :
    W p l e room_1 s m #[Value.ref b] below meth c H locs cells slots Q (F0 m 1338 ls []) := by
  obtain ⟨hx, hb, hml, hown, hts, hX, hbl, hLL, hK, hT, hNc, hA, hl0⟩ := hC
  obtain ⟨v1, hv1⟩ : ∃ y : Int, (xs (i + 1)).toInt = y := ⟨_, rfl⟩
  have hb1 : -2147483648 ≤ v1 ∧ v1 < 2147483648 := by rw [← hv1]; exact oI_rng _
  obtain ⟨v2, hv2⟩ : ∃ y : Int, (xs (i + 2)).toInt = y := ⟨_, rfl⟩
  have hb2 : -2147483648 ≤ v2 ∧ v2 < 2147483648 := by rw [← hv2]; exact oI_rng _
  obtain ⟨v3, hv3⟩ : ∃ y : Int, (xs (i + 3)).toInt = y := ⟨_, rfl⟩
  have hb3 : -2147483648 ≤ v3 ∧ v3 < 2147483648 := by rw [← hv3]; exact oI_rng _
  obtain ⟨fs0, e0⟩ := hR.1.c0
  obtain ⟨F0, e75⟩ := hR.2
  obtain ⟨post5, fr, lo, kc, hM5, hb5, hp5⟩ := (kX_twin hA hl0 hR.1 v1 v2 (oBn v3) hb1 hb2 (oBn_01 v3)).use hR (fun hM h1 h2 => hL_twin hA (Nat.le_refl 76) hM e0 e75 h1 (fun E u h => (h2 E u h).elim id id)) (by decide)
  refine lv_aload_n hx hb dL_law_1338 rfl (lv_at hl 1 rfl) ?_
  refine lv_aload_n hx hb dL_law_1339 rfl (lv_at hl 0 rfl) ?_
  refine lv_iload hx hb dL_law_1340 (lv_at hl 4 rfl) ?_
  refine m_iconst 1 hx hb dL_law_1342 rfl ?_
  refine m_iadd (((i : Nat) : Int) + 1) hx hb dL_law_1343 rfl ?_
  refine m_sld hx hb hX hbl hLL hH (i + 1) (by omega) (by omega) v1 hv1 dL_law_1344 ?_
  refine lv_aload_n hx hb dL_law_1345 rfl (lv_at hl 0 rfl) ?_
  refine lv_iload hx hb dL_law_1346 (lv_at hl 4 rfl) ?_
  refine m_iconst 2 hx hb dL_law_1348 rfl ?_
  refine m_iadd (((i : Nat) : Int) + 2) hx hb dL_law_1349 rfl ?_
  refine m_sld hx hb hX hbl hLL hH (i + 2) (by omega) (by omega) v2 hv2 dL_law_1350 ?_
  refine lv_aload_n hx hb dL_law_1351 rfl (lv_at hl 0 rfl) ?_
  refine lv_iload hx hb dL_law_1352 (lv_at hl 4 rfl) ?_
  refine m_iconst 3 hx hb dL_law_1354 rfl ?_
  refine m_iadd (((i : Nat) : Int) + 3) hx hb dL_law_1355 rfl ?_
  refine m_sld hx hb hX hbl hLL hH (i + 3) (by omega) (by omega) v3 hv3 dL_law_1356 ?_
  refine m_bool hx hb hb3 dL_law_1357 dL_law_1360 dL_law_1361 dL_law_1364 ?_
  refine lv_aload_n hx hb dL_law_1365 rfl (lv_at hl 3 rfl) ?_
  refine m_lawH (rest := []) (As := [.ref (ad 0), .int (oI v1), .int (oI v2), .int (oI (oBn v3)), .ref (ad 75)]) hx hb hml hown hts hK hT hNc hH hl cs_L_167 hM5 ⟨by show fr + 1 ≤ 12; omega, by show _ ≤ 434; omega⟩ ⟨by show cells + kc ≤ 601024; omega, by show slots + 6 * kc ≤ 7293034; omega⟩ rfl rfl (Nat.le_of_ble_eq_true rfl) dL_law_1366 (fun r5 s1 H locs hq5 hH => ?_)
  refine W.widen (k := cells + 2) (n := slots + 12) (by omega) (by omega) ?_
  obtain ⟨k5, v, F, hr5, hk5, hvb, h75, hF, ⟨fs6, e65⟩, post6, FR6, LO6, hM6, hb6, hp6⟩ := hp5 _ _ hq5
  rw [hr5]
  refine lv_istore (lv' := [(5, .int (oI k5)), (0, .ref b), (1, .ref (ad 0)), (2, .ref (ad 65)), (3, .ref (ad 75)), (4, .int (oI ((i : Nat) : Int)))]) hx hb dL_law_1369 hl (by decide) rfl (fun ls hl => ?_)
  refine lv_aload_n hx hb dL_law_1371 rfl (lv_at hl 3 rfl) ?_
  refine lv_aload_n hx hb dL_law_1372 rfl (lv_at hl 1 rfl) ?_
  refine lv_iload hx hb dL_law_1373 (lv_at hl 5 rfl) ?_
  refine m_iconst 1 hx hb dL_law_1375 rfl ?_
  refine m_iadd (((i : Nat) : Int) + 1) hx hb dL_law_1376 rfl ?_
  refine m_sld hx hb hX hbl hLL hH (i + 1) (by omega) (by omega) v1 hv1 dL_law_1377 ?_
  refine lv_aload_n hx hb dL_law_1378 rfl (lv_at hl 1 rfl) ?_
  refine lv_iload hx hb dL_law_1379 (lv_at hl 5 rfl) ?_
  refine m_iconst 2 hx hb dL_law_1381 rfl ?_
  refine m_iadd (((i : Nat) : Int) + 2) hx hb dL_law_1382 rfl ?_
  refine m_sld hx hb hX hbl hLL hH (i + 2) (by omega) (by omega) v2 hv2 dL_law_1383 ?_
  refine lv_aload_n hx hb dL_law_1384 rfl (lv_at hl 1 rfl) ?_
  refine lv_iload hx hb dL_law_1385 (lv_at hl 5 rfl) ?_
  refine m_iconst 3 hx hb dL_law_1387 rfl ?_
  refine m_iadd (((i : Nat) : Int) + 3) hx hb dL_law_1388 rfl ?_
  refine m_sld hx hb hX hbl hLL hH (i + 3) (by omega) (by omega) v3 hv3 dL_law_1389 ?_
  refine m_bool hx hb hb3 dL_law_1390 dL_law_1393 dL_law_1394 dL_law_1397 ?_
  refine m_callVi (C := RX6) (k := 65) (rest := []) (As := [.int (oI v1), .int (oI v2), .int (oI (oBn v3))]) hx hb hml hown hts hK hH hl cw_L_169 hM6 ⟨by show FR6 + 1 ≤ 12; omega, by show _ ≤ 434; omega⟩ ⟨by show cells + 2 ≤ 601024; omega, by show slots + 12 ≤ 7293034; omega⟩ rfl (by decide) e65 rfl rfl (Nat.le_of_ble_eq_true rfl) dL_law_1398 (fun r6 s2 H locs hq6 hH => ?_)
  obtain ⟨hf6, rf, z, ms, ⟨spo, ou6, c65⟩, hrf, hrk, hr6, hfin⟩ := hp6 _ _ hq6
  have hRel := hfin (fun q hq9 => hf6 q (Or.inl hq9))
  have c75 := (hf6 75 (Or.inr rfl)).trans h75
  refine lv_istore (lv' := [(6, .int r6), (5, .int (oI k5)), (0, .ref b), (1, .ref (ad 0)), (2, .ref (ad 65)), (3, .ref (ad 75)), (4, .int (oI ((i : Nat) : Int)))]) hx hb dL_law_1401 hl (by decide) rfl (fun ls hl => ?_)
  refine lv_aload_n hx hb dL_law_1403 rfl (lv_at hl 4 rfl) ?_
  refine m_callVi (C := RX6) (k := 65) (rest := []) (As := []) hx hb hml hown hts hK hH hl cw_L_101 (c6_thrown hA z ms spo ou6 rf (Nat.le_refl 76) ⟨by omega, by omega⟩ c65) ⟨by show 0 + 1 ≤ 12; omega, by show _ ≤ 434; omega⟩ ⟨by show cells + 2 ≤ 601024; omega, by show slots + 12 ≤ 7293034; omega⟩ rfl (by decide) c65 rfl rfl (Nat.le_of_ble_eq_true rfl) dL_law_1404 (fun r7 s3 H locs hq7 hH => ?_)
  obtain ⟨h7, h8⟩ := hq7
  rw [h8] at hH
  rw [h7, hrk]
  refine lv_iload hx hb dL_law_1407 (lv_at hl 1 rfl) ?_
  refine m_icmp_eq 1414 hx hb dL_law_1409 (by decide) (by omega) (by omega) (fun _ => ?_) (fun h => absurd rfl h)
  refine lv_iload hx hb dL_law_1414 (lv_at hl 1 rfl) ?_
  refine m_if_ne 1431 hx hb dL_law_1416 (by decide) (by omega) (fun _ => ?_) (fun h0 => ?_)
  · refine lv_goto (tgt := 1759) hx hb dL_law_1431 (by decide) ?_
    exact kk s2 H locs ls ⟨hRel, F, c75⟩ hH (lv_sub hl [2, 3, 4, 5, 6] rfl)
  · rw [hr6 h0] at hl
    refine lv_aload_n hx hb dL_law_1419 rfl (lv_at hl 5 rfl) ?_
    refine m_iconst 0 hx hb dL_law_1420 rfl ?_
    refine m_lald hx hb hK hH (k := 75) (by decide) c75 0 rfl (by decide) (by decide) dL_law_1421 ?_
    rw [hF h0]
    refine lv_iload hx hb dL_law_1422 (lv_at hl 0 rfl) ?_
    refine m_i2l hx hb dL_law_1424 hvb ?_
    refine m_lcmp_eq 1431 hx hb dL_law_1425 dL_law_1426 (by decide) ⟨by omega, by omega⟩ ⟨by omega, by omega⟩ (fun _ => ?_) (fun h => absurd rfl h)
    refine lv_goto (tgt := 1759) hx hb dL_law_1431 (by decide) ?_
    exact kk s2 H locs ls ⟨hRel, F, c75⟩ hH (lv_sub hl [2, 3, 4, 5, 6] rfl)
set_option maxRecDepth 100000 in
theorem lc_21 {p : Program} {l : Launch} {e : Env} {s : State} {m : MethodId} {below : List Frame} {meth : Method} {c : Code} {b L : Nat} {xs : Nat → Int32} {D : va_G} {cT : Nat → ClassId} {ad : Nat → Nat} {Q : State → Prop} (hC : lwC p l s m c b L xs D cT ad) {i : Nat} (hi : i + 4 ≤ L) {σ : Nat → va_E} {H : Heap} {locs : List Loc} {cells slots : Nat} (hR : oRelW cT ad σ) (hH : oH s.heap.size D 76 ad s.heap σ H locs) {ls : Array Slot} (hl : lv_has ls 7 (lwB b ad i)) (hc : cells + 2 ≤ 601024 ∧ slots + 12 ≤ 7293034)
    (kk : ∀ (σ1 : Nat → va_E) (H1 : Heap) (locs1 : List Loc) (ls1 : Array Slot), oRelW cT ad σ1 → oH s.heap.size D 76 ad s.heap σ1 H1 locs1 → lv_has ls1 7 (lwB b ad i) → W p l e room_1 s m #[Value.ref b] below meth c H1 locs1 (cells + 2) (slots + 12) Q (F0 m 1759 ls1 [])) :
    W p l e room_1 s m #[Value.ref b] below meth c H locs cells slots Q (F0 m 1434 ls []) := by
  obtain ⟨hx, hb, hml, hown, hts, hX, hbl, hLL, hK, hT, hNc, hA, hl0⟩ := hC
  obtain ⟨fs0, e0⟩ := hR.1.c0
  obtain ⟨F, e75⟩ := hR.2
  obtain ⟨fs6, e65⟩ := hR.1.c65
  obtain ⟨Ok, ⟨post5, FR, LO, hM5, hb5, hp5⟩, h6⟩ := kX_layings hA hl0 hR.1
  refine lv_aload_n hx hb dL_law_1434 rfl (lv_at hl 1 rfl) ?_
  refine m_callVi (C := RX5) (k := 0) (rest := []) (As := []) hx hb hml hown hts hK hH hl cw_L_170 hM5 ⟨by show FR + 1 ≤ 12; omega, by show _ ≤ 434; omega⟩ ⟨by show cells ≤ 601024; omega, by show slots ≤ 7293034; omega⟩ rfl (by decide) e0 rfl rfl (Nat.le_of_ble_eq_true rfl) dL_law_1435 (fun r5 s1 H locs hq5 hH => ?_)
  obtain ⟨hf5, hok⟩ := hp5 _ _ hq5
  obtain ⟨post6, FR6, LO6, hM6, hb6, hp6⟩ := h6 _ _ hok (fun q h1 h2 => hf5 q h1)
  refine lv_aload_n hx hb dL_law_1438 rfl (lv_at hl 2 rfl) ?_
  refine m_callVi (C := RX6) (k := 65) (rest := [.int r5]) (As := []) hx hb hml hown hts hK hH hl cw_L_173 hM6 ⟨by show FR6 + 1 ≤ 12; omega, by show _ ≤ 434; omega⟩ ⟨by show cells ≤ 601024; omega, by show slots ≤ 7293034; omega⟩ rfl (by decide) ((hf5 65 (by decide)).trans e65) rfl rfl (Nat.le_of_ble_eq_true rfl) dL_law_1439 (fun r6 s2 H locs hq6 hH => ?_)
  obtain ⟨hf6, rf, z, ms, _, _, hr6, hfin⟩ := hp6 _ _ hq6
  rw [hr6]
  refine lv_icmp_eq (tgt := 1759) hx hb dL_law_1442 (by decide) (fun _ => ?_) (fun h => absurd rfl h)
  refine W.widen (k := cells + 2) (n := slots + 12) (by omega) (by omega) ?_
  exact kk s2 H locs ls ⟨hfin s2 (fun q hq9 => hf6 q (Or.inl hq9)) (fun q _ _ => rfl), F, (hf6 75 (Or.inr rfl)).trans ((hf5 75 (by decide)).trans e75)⟩ hH hl
set_option maxRecDepth 100000 in
theorem lc_22 {p : Program} {l : Launch} {e : Env} {s : State} {m : MethodId} {below : List Frame} {meth : Method} {c : Code} {b L : Nat} {xs : Nat → Int32} {D : va_G} {cT : Nat → ClassId} {ad : Nat → Nat} {Q : State → Prop} (hC : lwC p l s m c b L xs D cT ad) {i : Nat} (hi : i + 4 ≤ L) {σ : Nat → va_E} {H : Heap} {locs : List Loc} {cells slots : Nat} (hR : oRelW cT ad σ) (hH : oH s.heap.size D 76 ad s.heap σ H locs) {ls : Array Slot} (hl : lv_has ls 7 (lwB b ad i)) (hc : cells + 2 ≤ 601024 ∧ slots + 12 ≤ 7293034)
    (kk : ∀ (σ1 : Nat → va_E) (H1 : Heap) (locs1 : List Loc) (ls1 : Array Slot), oRelW cT ad σ1 → oH s.heap.size D 76 ad s.heap σ1 H1 locs1 → lv_has ls1 7 (lwB b ad i) → W p l e room_1 s m #[Value.ref b] below meth c H1 locs1 (cells + 2) (slots + 12) Q (F0 m 1759 ls1 [])) :
    W p l e room_1 s m #[Value.ref b] below meth c H locs cells slots Q (F0 m 1447 ls []) := by
  obtain ⟨hx, hb, hml, hown, hts, hX, hbl, hLL, hK, hT, hNc, hA, hl0⟩ := hC
  obtain ⟨v1, hv1⟩ : ∃ y : Int, (xs (i + 1)).toInt = y := ⟨_, rfl⟩
  have hb1 : -2147483648 ≤ v1 ∧ v1 < 2147483648 := by rw [← hv1]; exact oI_rng _
  obtain ⟨v2, hv2⟩ : ∃ y : Int, (xs (i + 2)).toInt = y := ⟨_, rfl⟩
  have hb2 : -2147483648 ≤ v2 ∧ v2 < 2147483648 := by rw [← hv2]; exact oI_rng _
  obtain ⟨v3, hv3⟩ : ∃ y : Int, (xs (i + 3)).toInt = y := ⟨_, rfl⟩
  have hb3 : -2147483648 ≤ v3 ∧ v3 < 2147483648 := by rw [← hv3]; exact oI_rng _
  obtain ⟨A, hAA⟩ : ∃ y : Int64, (oI v2).toInt64 = y := ⟨_, rfl⟩
  obtain ⟨c32, h32⟩ : ∃ y : Int32, (Int8.ofInt 32).toInt32 = y := ⟨_, rfl⟩
  obtain ⟨B, hBB⟩ : ∃ y : Int64, A <<< (c32.toInt64 &&& 63) = y := ⟨_, rfl⟩
  obtain ⟨C2, hCC⟩ : ∃ y : Int64, (oI v3).toInt64 = y := ⟨_, rfl⟩
  obtain ⟨sc, hV, hsc⟩ := oL_ex (B ||| (C2 &&& 4294967295))
  obtain ⟨fs0, e0⟩ := hR.1.c0
  obtain ⟨F0, e75⟩ := hR.2
  obtain ⟨post5, fr, lo, kc, hM5, hb5, hp5⟩ := (kX_runScript hA hl0 hR.1 v1 sc hb1 hsc).use hR (fun hM h1 h2 => hL_runScript hA (Nat.le_refl 76) hM e0 e75 h1 (fun E u h => (h2 E u h).elim id id)) (by decide)
  refine lv_aload_n hx hb dL_law_1447 rfl (lv_at hl 1 rfl) ?_
  refine lv_aload_n hx hb dL_law_1448 rfl (lv_at hl 0 rfl) ?_
  refine lv_iload hx hb dL_law_1449 (lv_at hl 4 rfl) ?_
  refine m_iconst 1 hx hb dL_law_1451 rfl ?_
  refine m_iadd (((i : Nat) : Int) + 1) hx hb dL_law_1452 rfl ?_
  refine m_sld hx hb hX hbl hLL hH (i + 1) (by omega) (by omega) v1 hv1 dL_law_1453 ?_
  refine lv_aload_n hx hb dL_law_1454 rfl (lv_at hl 0 rfl) ?_
  refine lv_iload hx hb dL_law_1455 (lv_at hl 4 rfl) ?_
  refine m_iconst 2 hx hb dL_law_1457 rfl ?_
  refine m_iadd (((i : Nat) : Int) + 2) hx hb dL_law_1458 rfl ?_
  refine m_sld hx hb hX hbl hLL hH (i + 2) (by omega) (by omega) v2 hv2 dL_law_1459 ?_
  refine lv_i2l hx hb dL_law_1460 hAA ?_
  refine lv_bipush hx hb dL_law_1461 h32 ?_
  refine lv_lshl hx hb dL_law_1463 hBB ?_
  refine lv_aload_n hx hb dL_law_1464 rfl (lv_at hl 0 rfl) ?_
  refine lv_iload hx hb dL_law_1465 (lv_at hl 4 rfl) ?_
  refine m_iconst 3 hx hb dL_law_1467 rfl ?_
  refine m_iadd (((i : Nat) : Int) + 3) hx hb dL_law_1468 rfl ?_
  refine m_sld hx hb hX hbl hLL hH (i + 3) (by omega) (by omega) v3 hv3 dL_law_1469 ?_
  refine lv_i2l hx hb dL_law_1470 hCC ?_
  refine lv_ldc2 (v := 4294967295) hx hb hown (hts _ kl_L_174) dL_law_1471 ?_
  refine lv_land hx hb dL_law_1474 ?_
  refine lv_lor hx hb dL_law_1475 ?_
  rw [hV]
  refine lv_aload_n hx hb dL_law_1476 rfl (lv_at hl 3 rfl) ?_
  refine m_lawH (rest := []) (As := [.ref (ad 0), .int (oI v1), .long (oL sc), .ref (ad 75)]) hx hb hml hown hts hK hT hNc hH hl cs_L_176 hM5 ⟨by show fr + 1 ≤ 12; omega, by show _ ≤ 434; omega⟩ ⟨by show cells + kc ≤ 601024; omega, by show slots + 6 * kc ≤ 7293034; omega⟩ rfl rfl (Nat.le_of_ble_eq_true rfl) dL_law_1477 (fun r5 s1 H locs hq5 hH => ?_)
  refine W.widen (k := cells + 2) (n := slots + 12) (by omega) (by omega) ?_
  obtain ⟨k5, v, F, hr5, hk5, hvb, h75, hF, ⟨fs6, e65⟩, post6, FR6, LO6, hM6, hb6, hp6⟩ := hp5 _ _ hq5
  rw [hr5]
  refine lv_istore (lv' := [(5, .int (oI k5)), (0, .ref b), (1, .ref (ad 0)), (2, .ref (ad 65)), (3, .ref (ad 75)), (4, .int (oI ((i : Nat) : Int)))]) hx hb dL_law_1480 hl (by decide) rfl (fun ls hl => ?_)
  refine lv_aload_n hx hb dL_law_1482 rfl (lv_at hl 3 rfl) ?_
  refine lv_aload_n hx hb dL_law_1483 rfl (lv_at hl 1 rfl) ?_
  refine lv_iload hx hb dL_law_1484 (lv_at hl 5 rfl) ?_
  refine m_iconst 1 hx hb dL_law_1486 rfl ?_
  refine m_iadd (((i : Nat) : Int) + 1) hx hb dL_law_1487 rfl ?_
  refine m_sld hx hb hX hbl hLL hH (i + 1) (by omega) (by omega) v1 hv1 dL_law_1488 ?_
  refine lv_aload_n hx hb dL_law_1489 rfl (lv_at hl 1 rfl) ?_
  refine lv_iload hx hb dL_law_1490 (lv_at hl 5 rfl) ?_
  refine m_iconst 2 hx hb dL_law_1492 rfl ?_
  refine m_iadd (((i : Nat) : Int) + 2) hx hb dL_law_1493 rfl ?_
  refine m_sld hx hb hX hbl hLL hH (i + 2) (by omega) (by omega) v2 hv2 dL_law_1494 ?_
  refine lv_i2l hx hb dL_law_1495 hAA ?_
  refine lv_bipush hx hb dL_law_1496 h32 ?_
  refine lv_lshl hx hb dL_law_1498 hBB ?_
  refine lv_aload_n hx hb dL_law_1499 rfl (lv_at hl 1 rfl) ?_
  refine lv_iload hx hb dL_law_1500 (lv_at hl 5 rfl) ?_
  refine m_iconst 3 hx hb dL_law_1502 rfl ?_
  refine m_iadd (((i : Nat) : Int) + 3) hx hb dL_law_1503 rfl ?_
  refine m_sld hx hb hX hbl hLL hH (i + 3) (by omega) (by omega) v3 hv3 dL_law_1504 ?_
  refine lv_i2l hx hb dL_law_1505 hCC ?_
  refine lv_ldc2 (v := 4294967295) hx hb hown (hts _ kl_L_174) dL_law_1506 ?_
  refine lv_land hx hb dL_law_1509 ?_
  refine lv_lor hx hb dL_law_1510 ?_
  rw [hV]
  refine m_callVi (C := RX6) (k := 65) (rest := []) (As := [.int (oI v1), .long (oL sc)]) hx hb hml hown hts hK hH hl cw_L_179 hM6 ⟨by show FR6 + 1 ≤ 12; omega, by show _ ≤ 434; omega⟩ ⟨by show cells + 2 ≤ 601024; omega, by show slots + 12 ≤ 7293034; omega⟩ rfl (by decide) e65 rfl rfl (Nat.le_of_ble_eq_true rfl) dL_law_1511 (fun r6 s2 H locs hq6 hH => ?_)
  obtain ⟨hf6, rf, z, ms, ⟨spo, ou6, c65⟩, hrf, hrk, hr6, hfin⟩ := hp6 _ _ hq6
  have hRel := hfin (fun q hq9 => hf6 q (Or.inl hq9))
  have c75 := (hf6 75 (Or.inr rfl)).trans h75
  refine lv_istore (lv' := [(6, .int r6), (5, .int (oI k5)), (0, .ref b), (1, .ref (ad 0)), (2, .ref (ad 65)), (3, .ref (ad 75)), (4, .int (oI ((i : Nat) : Int)))]) hx hb dL_law_1514 hl (by decide) rfl (fun ls hl => ?_)
  refine lv_aload_n hx hb dL_law_1516 rfl (lv_at hl 4 rfl) ?_
  refine m_callVi (C := RX6) (k := 65) (rest := []) (As := []) hx hb hml hown hts hK hH hl cw_L_101 (c6_thrown hA z ms spo ou6 rf (Nat.le_refl 76) ⟨by omega, by omega⟩ c65) ⟨by show 0 + 1 ≤ 12; omega, by show _ ≤ 434; omega⟩ ⟨by show cells + 2 ≤ 601024; omega, by show slots + 12 ≤ 7293034; omega⟩ rfl (by decide) c65 rfl rfl (Nat.le_of_ble_eq_true rfl) dL_law_1517 (fun r7 s3 H locs hq7 hH => ?_)
  obtain ⟨h7, h8⟩ := hq7
  rw [h8] at hH
  rw [h7, hrk]
  refine lv_iload hx hb dL_law_1520 (lv_at hl 1 rfl) ?_
  refine m_icmp_eq 1527 hx hb dL_law_1522 (by decide) (by omega) (by omega) (fun _ => ?_) (fun h => absurd rfl h)
  refine lv_iload hx hb dL_law_1527 (lv_at hl 1 rfl) ?_
  refine m_if_ne 1544 hx hb dL_law_1529 (by decide) (by omega) (fun _ => ?_) (fun h0 => ?_)
  · refine lv_goto (tgt := 1759) hx hb dL_law_1544 (by decide) ?_
    exact kk s2 H locs ls ⟨hRel, F, c75⟩ hH (lv_sub hl [2, 3, 4, 5, 6] rfl)
  · rw [hr6 h0] at hl
    refine lv_aload_n hx hb dL_law_1532 rfl (lv_at hl 5 rfl) ?_
    refine m_iconst 0 hx hb dL_law_1533 rfl ?_
    refine m_lald hx hb hK hH (k := 75) (by decide) c75 0 rfl (by decide) (by decide) dL_law_1534 ?_
    rw [hF h0]
    refine lv_iload hx hb dL_law_1535 (lv_at hl 0 rfl) ?_
    refine m_i2l hx hb dL_law_1537 hvb ?_
    refine m_lcmp_eq 1544 hx hb dL_law_1538 dL_law_1539 (by decide) ⟨by omega, by omega⟩ ⟨by omega, by omega⟩ (fun _ => ?_) (fun h => absurd rfl h)
    refine lv_goto (tgt := 1759) hx hb dL_law_1544 (by decide) ?_
    exact kk s2 H locs ls ⟨hRel, F, c75⟩ hH (lv_sub hl [2, 3, 4, 5, 6] rfl)
set_option maxRecDepth 100000 in
theorem lc_23 {p : Program} {l : Launch} {e : Env} {s : State} {m : MethodId} {below : List Frame} {meth : Method} {c : Code} {b L : Nat} {xs : Nat → Int32} {D : va_G} {cT : Nat → ClassId} {ad : Nat → Nat} {Q : State → Prop} (hC : lwC p l s m c b L xs D cT ad) {i : Nat} (hi : i + 4 ≤ L) {σ : Nat → va_E} {H : Heap} {locs : List Loc} {cells slots : Nat} (hR : oRelW cT ad σ) (hH : oH s.heap.size D 76 ad s.heap σ H locs) {ls : Array Slot} (hl : lv_has ls 7 (lwB b ad i)) (hc : cells + 2 ≤ 601024 ∧ slots + 12 ≤ 7293034)
    (kk : ∀ (σ1 : Nat → va_E) (H1 : Heap) (locs1 : List Loc) (ls1 : Array Slot), oRelW cT ad σ1 → oH s.heap.size D 76 ad s.heap σ1 H1 locs1 → lv_has ls1 7 (lwB b ad i) → W p l e room_1 s m #[Value.ref b] below meth c H1 locs1 (cells + 2) (slots + 12) Q (F0 m 1759 ls1 [])) :
    W p l e room_1 s m #[Value.ref b] below meth c H locs cells slots Q (F0 m 1547 ls []) := by
  obtain ⟨hx, hb, hml, hown, hts, hX, hbl, hLL, hK, hT, hNc, hA, hl0⟩ := hC
  obtain ⟨v1, hv1⟩ : ∃ y : Int, (xs (i + 1)).toInt = y := ⟨_, rfl⟩
  have hb1 : -2147483648 ≤ v1 ∧ v1 < 2147483648 := by rw [← hv1]; exact oI_rng _
  obtain ⟨v2, hv2⟩ : ∃ y : Int, (xs (i + 2)).toInt = y := ⟨_, rfl⟩
  have hb2 : -2147483648 ≤ v2 ∧ v2 < 2147483648 := by rw [← hv2]; exact oI_rng _
  obtain ⟨v3, hv3⟩ : ∃ y : Int, (xs (i + 3)).toInt = y := ⟨_, rfl⟩
  have hb3 : -2147483648 ≤ v3 ∧ v3 < 2147483648 := by rw [← hv3]; exact oI_rng _
  obtain ⟨A, hAA⟩ : ∃ y : Int64, (oI v1).toInt64 = y := ⟨_, rfl⟩
  obtain ⟨c32, h32⟩ : ∃ y : Int32, (Int8.ofInt 32).toInt32 = y := ⟨_, rfl⟩
  obtain ⟨B, hBB⟩ : ∃ y : Int64, A <<< (c32.toInt64 &&& 63) = y := ⟨_, rfl⟩
  obtain ⟨C2, hCC⟩ : ∃ y : Int64, (oI v2).toInt64 = y := ⟨_, rfl⟩
  obtain ⟨sd, hV, hsd⟩ := lN_ex (B ||| (C2 &&& 4294967295))
  obtain ⟨fs0, e0⟩ := hR.1.c0
  obtain ⟨F0, e75⟩ := hR.2
  obtain ⟨post5, fr, lo, kc, hM5, hb5, hp5⟩ := (kX_simulate hA hl0 hR.1 sd v3 hsd hb3).use hR (fun hM h1 h2 => hL_simulate hA (Nat.le_refl 76) hM e0 e75 h1 (fun E u h => (h2 E u h).elim id id)) (by decide)
  refine lv_aload_n hx hb dL_law_1547 rfl (lv_at hl 1 rfl) ?_
  refine lv_aload_n hx hb dL_law_1548 rfl (lv_at hl 0 rfl) ?_
  refine lv_iload hx hb dL_law_1549 (lv_at hl 4 rfl) ?_
  refine m_iconst 1 hx hb dL_law_1551 rfl ?_
  refine m_iadd (((i : Nat) : Int) + 1) hx hb dL_law_1552 rfl ?_
  refine m_sld hx hb hX hbl hLL hH (i + 1) (by omega) (by omega) v1 hv1 dL_law_1553 ?_
  refine lv_i2l hx hb dL_law_1554 hAA ?_
  refine lv_bipush hx hb dL_law_1555 h32 ?_
  refine lv_lshl hx hb dL_law_1557 hBB ?_
  refine lv_aload_n hx hb dL_law_1558 rfl (lv_at hl 0 rfl) ?_
  refine lv_iload hx hb dL_law_1559 (lv_at hl 4 rfl) ?_
  refine m_iconst 2 hx hb dL_law_1561 rfl ?_
  refine m_iadd (((i : Nat) : Int) + 2) hx hb dL_law_1562 rfl ?_
  refine m_sld hx hb hX hbl hLL hH (i + 2) (by omega) (by omega) v2 hv2 dL_law_1563 ?_
  refine lv_i2l hx hb dL_law_1564 hCC ?_
  refine lv_ldc2 (v := 4294967295) hx hb hown (hts _ kl_L_174) dL_law_1565 ?_
  refine lv_land hx hb dL_law_1568 ?_
  refine lv_lor hx hb dL_law_1569 ?_
  rw [hV]
  refine lv_aload_n hx hb dL_law_1570 rfl (lv_at hl 0 rfl) ?_
  refine lv_iload hx hb dL_law_1571 (lv_at hl 4 rfl) ?_
  refine m_iconst 3 hx hb dL_law_1573 rfl ?_
  refine m_iadd (((i : Nat) : Int) + 3) hx hb dL_law_1574 rfl ?_
  refine m_sld hx hb hX hbl hLL hH (i + 3) (by omega) (by omega) v3 hv3 dL_law_1575 ?_
  refine lv_aload_n hx hb dL_law_1576 rfl (lv_at hl 3 rfl) ?_
  refine m_lawH (rest := []) (As := [.ref (ad 0), .long (lN sd), .int (oI v3), .ref (ad 75)]) hx hb hml hown hts hK hT hNc hH hl cs_L_180 hM5 ⟨by show fr + 1 ≤ 12; omega, by show _ ≤ 434; omega⟩ ⟨by show cells + kc ≤ 601024; omega, by show slots + 6 * kc ≤ 7293034; omega⟩ rfl rfl (Nat.le_of_ble_eq_true rfl) dL_law_1577 (fun r5 s1 H locs hq5 hH => ?_)
  refine W.widen (k := cells + 2) (n := slots + 12) (by omega) (by omega) ?_
  obtain ⟨k5, v, F, hr5, hk5, hvb, h75, hF, ⟨fs6, e65⟩, post6, FR6, LO6, hM6, hb6, hp6⟩ := hp5 _ _ hq5
  rw [hr5]
  refine lv_istore (lv' := [(5, .int (oI k5)), (0, .ref b), (1, .ref (ad 0)), (2, .ref (ad 65)), (3, .ref (ad 75)), (4, .int (oI ((i : Nat) : Int)))]) hx hb dL_law_1580 hl (by decide) rfl (fun ls hl => ?_)
  refine lv_aload_n hx hb dL_law_1582 rfl (lv_at hl 3 rfl) ?_
  refine lv_aload_n hx hb dL_law_1583 rfl (lv_at hl 1 rfl) ?_
  refine lv_iload hx hb dL_law_1584 (lv_at hl 5 rfl) ?_
  refine m_iconst 1 hx hb dL_law_1586 rfl ?_
  refine m_iadd (((i : Nat) : Int) + 1) hx hb dL_law_1587 rfl ?_
  refine m_sld hx hb hX hbl hLL hH (i + 1) (by omega) (by omega) v1 hv1 dL_law_1588 ?_
  refine lv_i2l hx hb dL_law_1589 hAA ?_
  refine lv_bipush hx hb dL_law_1590 h32 ?_
  refine lv_lshl hx hb dL_law_1592 hBB ?_
  refine lv_aload_n hx hb dL_law_1593 rfl (lv_at hl 1 rfl) ?_
  refine lv_iload hx hb dL_law_1594 (lv_at hl 5 rfl) ?_
  refine m_iconst 2 hx hb dL_law_1596 rfl ?_
  refine m_iadd (((i : Nat) : Int) + 2) hx hb dL_law_1597 rfl ?_
  refine m_sld hx hb hX hbl hLL hH (i + 2) (by omega) (by omega) v2 hv2 dL_law_1598 ?_
  refine lv_i2l hx hb dL_law_1599 hCC ?_
  refine lv_ldc2 (v := 4294967295) hx hb hown (hts _ kl_L_174) dL_law_1600 ?_
  refine lv_land hx hb dL_law_1603 ?_
  refine lv_lor hx hb dL_law_1604 ?_
  rw [hV]
  refine lv_aload_n hx hb dL_law_1605 rfl (lv_at hl 1 rfl) ?_
  refine lv_iload hx hb dL_law_1606 (lv_at hl 5 rfl) ?_
  refine m_iconst 3 hx hb dL_law_1608 rfl ?_
  refine m_iadd (((i : Nat) : Int) + 3) hx hb dL_law_1609 rfl ?_
  refine m_sld hx hb hX hbl hLL hH (i + 3) (by omega) (by omega) v3 hv3 dL_law_1610 ?_
  refine m_callVi (C := RX6) (k := 65) (rest := []) (As := [.long (lN sd), .int (oI v3)]) hx hb hml hown hts hK hH hl cw_L_183 hM6 ⟨by show FR6 + 1 ≤ 12; omega, by show _ ≤ 434; omega⟩ ⟨by show cells + 2 ≤ 601024; omega, by show slots + 12 ≤ 7293034; omega⟩ rfl (by decide) e65 rfl rfl (Nat.le_of_ble_eq_true rfl) dL_law_1611 (fun r6 s2 H locs hq6 hH => ?_)
  obtain ⟨hf6, rf, z, ms, ⟨spo, ou6, c65⟩, hrf, hrk, hr6, hfin⟩ := hp6 _ _ hq6
  have hRel := hfin (fun q hq9 => hf6 q (Or.inl hq9))
  have c75 := (hf6 75 (Or.inr rfl)).trans h75
  refine lv_istore (lv' := [(6, .int r6), (5, .int (oI k5)), (0, .ref b), (1, .ref (ad 0)), (2, .ref (ad 65)), (3, .ref (ad 75)), (4, .int (oI ((i : Nat) : Int)))]) hx hb dL_law_1614 hl (by decide) rfl (fun ls hl => ?_)
  refine lv_aload_n hx hb dL_law_1616 rfl (lv_at hl 4 rfl) ?_
  refine m_callVi (C := RX6) (k := 65) (rest := []) (As := []) hx hb hml hown hts hK hH hl cw_L_101 (c6_thrown hA z ms spo ou6 rf (Nat.le_refl 76) ⟨by omega, by omega⟩ c65) ⟨by show 0 + 1 ≤ 12; omega, by show _ ≤ 434; omega⟩ ⟨by show cells + 2 ≤ 601024; omega, by show slots + 12 ≤ 7293034; omega⟩ rfl (by decide) c65 rfl rfl (Nat.le_of_ble_eq_true rfl) dL_law_1617 (fun r7 s3 H locs hq7 hH => ?_)
  obtain ⟨h7, h8⟩ := hq7
  rw [h8] at hH
  rw [h7, hrk]
  refine lv_iload hx hb dL_law_1620 (lv_at hl 1 rfl) ?_
  refine m_icmp_eq 1627 hx hb dL_law_1622 (by decide) (by omega) (by omega) (fun _ => ?_) (fun h => absurd rfl h)
  refine lv_iload hx hb dL_law_1627 (lv_at hl 1 rfl) ?_
  refine m_if_ne 1644 hx hb dL_law_1629 (by decide) (by omega) (fun _ => ?_) (fun h0 => ?_)
  · refine lv_goto (tgt := 1759) hx hb dL_law_1644 (by decide) ?_
    exact kk s2 H locs ls ⟨hRel, F, c75⟩ hH (lv_sub hl [2, 3, 4, 5, 6] rfl)
  · rw [hr6 h0] at hl
    refine lv_aload_n hx hb dL_law_1632 rfl (lv_at hl 5 rfl) ?_
    refine m_iconst 0 hx hb dL_law_1633 rfl ?_
    refine m_lald hx hb hK hH (k := 75) (by decide) c75 0 rfl (by decide) (by decide) dL_law_1634 ?_
    rw [hF h0]
    refine lv_iload hx hb dL_law_1635 (lv_at hl 0 rfl) ?_
    refine m_i2l hx hb dL_law_1637 hvb ?_
    refine m_lcmp_eq 1644 hx hb dL_law_1638 dL_law_1639 (by decide) ⟨by omega, by omega⟩ ⟨by omega, by omega⟩ (fun _ => ?_) (fun h => absurd rfl h)
    refine lv_goto (tgt := 1759) hx hb dL_law_1644 (by decide) ?_
    exact kk s2 H locs ls ⟨hRel, F, c75⟩ hH (lv_sub hl [2, 3, 4, 5, 6] rfl)
set_option maxRecDepth 100000 in
theorem lc_24 {p : Program} {l : Launch} {e : Env} {s : State} {m : MethodId} {below : List Frame} {meth : Method} {c : Code} {b L : Nat} {xs : Nat → Int32} {D : va_G} {cT : Nat → ClassId} {ad : Nat → Nat} {Q : State → Prop} (hC : lwC p l s m c b L xs D cT ad) {i : Nat} (hi : i + 4 ≤ L) {σ : Nat → va_E} {H : Heap} {locs : List Loc} {cells slots : Nat} (hR : oRelW cT ad σ) (hH : oH s.heap.size D 76 ad s.heap σ H locs) {ls : Array Slot} (hl : lv_has ls 7 (lwB b ad i)) (hc : cells + 2 ≤ 601024 ∧ slots + 12 ≤ 7293034)
    (kk : ∀ (σ1 : Nat → va_E) (H1 : Heap) (locs1 : List Loc) (ls1 : Array Slot), oRelW cT ad σ1 → oH s.heap.size D 76 ad s.heap σ1 H1 locs1 → lv_has ls1 7 (lwB b ad i) → W p l e room_1 s m #[Value.ref b] below meth c H1 locs1 (cells + 2) (slots + 12) Q (F0 m 1759 ls1 [])) :
    W p l e room_1 s m #[Value.ref b] below meth c H locs cells slots Q (F0 m 1647 ls []) := by
  obtain ⟨hx, hb, hml, hown, hts, hX, hbl, hLL, hK, hT, hNc, hA, hl0⟩ := hC
  obtain ⟨v1, hv1⟩ : ∃ y : Int, (xs (i + 1)).toInt = y := ⟨_, rfl⟩
  have hb1 : -2147483648 ≤ v1 ∧ v1 < 2147483648 := by rw [← hv1]; exact oI_rng _
  obtain ⟨fs0, e0⟩ := hR.1.c0
  obtain ⟨F0, e75⟩ := hR.2
  obtain ⟨post5, fr, lo, kc, hM5, hb5, hp5⟩ := (kX_save hA hl0 hR.1 v1 hb1).use hR (fun hM h1 h2 => hL_save hA (Nat.le_refl 76) hM e0 e75 h1 (fun E u h => (h2 E u h).elim id id)) (by decide)
  refine lv_aload_n hx hb dL_law_1647 rfl (lv_at hl 1 rfl) ?_
  refine lv_aload_n hx hb dL_law_1648 rfl (lv_at hl 0 rfl) ?_
  refine lv_iload hx hb dL_law_1649 (lv_at hl 4 rfl) ?_
  refine m_iconst 1 hx hb dL_law_1651 rfl ?_
  refine m_iadd (((i : Nat) : Int) + 1) hx hb dL_law_1652 rfl ?_
  refine m_sld hx hb hX hbl hLL hH (i + 1) (by omega) (by omega) v1 hv1 dL_law_1653 ?_
  refine lv_aload_n hx hb dL_law_1654 rfl (lv_at hl 3 rfl) ?_
  refine m_lawH (rest := []) (As := [.ref (ad 0), .int (oI v1), .ref (ad 75)]) hx hb hml hown hts hK hT hNc hH hl cs_L_184 hM5 ⟨by show fr + 1 ≤ 12; omega, by show _ ≤ 434; omega⟩ ⟨by show cells + kc ≤ 601024; omega, by show slots + 6 * kc ≤ 7293034; omega⟩ rfl rfl (Nat.le_of_ble_eq_true rfl) dL_law_1655 (fun r5 s1 H locs hq5 hH => ?_)
  refine W.widen (k := cells + 2) (n := slots + 12) (by omega) (by omega) ?_
  obtain ⟨k5, v, F, hr5, hk5, hvb, h75, hF, ⟨fs6, e65⟩, post6, FR6, LO6, hM6, hb6, hp6⟩ := hp5 _ _ hq5
  rw [hr5]
  refine lv_istore (lv' := [(5, .int (oI k5)), (0, .ref b), (1, .ref (ad 0)), (2, .ref (ad 65)), (3, .ref (ad 75)), (4, .int (oI ((i : Nat) : Int)))]) hx hb dL_law_1658 hl (by decide) rfl (fun ls hl => ?_)
  refine lv_aload_n hx hb dL_law_1660 rfl (lv_at hl 3 rfl) ?_
  refine lv_aload_n hx hb dL_law_1661 rfl (lv_at hl 1 rfl) ?_
  refine lv_iload hx hb dL_law_1662 (lv_at hl 5 rfl) ?_
  refine m_iconst 1 hx hb dL_law_1664 rfl ?_
  refine m_iadd (((i : Nat) : Int) + 1) hx hb dL_law_1665 rfl ?_
  refine m_sld hx hb hX hbl hLL hH (i + 1) (by omega) (by omega) v1 hv1 dL_law_1666 ?_
  refine m_callVi (C := RX6) (k := 65) (rest := []) (As := [.int (oI v1)]) hx hb hml hown hts hK hH hl cw_L_186 hM6 ⟨by show FR6 + 1 ≤ 12; omega, by show _ ≤ 434; omega⟩ ⟨by show cells + 2 ≤ 601024; omega, by show slots + 12 ≤ 7293034; omega⟩ rfl (by decide) e65 rfl rfl (Nat.le_of_ble_eq_true rfl) dL_law_1667 (fun r6 s2 H locs hq6 hH => ?_)
  obtain ⟨hf6, rf, z, ms, ⟨spo, ou6, c65⟩, hrf, hrk, hr6, hfin⟩ := hp6 _ _ hq6
  have hRel := hfin (fun q hq9 => hf6 q (Or.inl hq9))
  have c75 := (hf6 75 (Or.inr rfl)).trans h75
  refine lv_istore (lv' := [(6, .int r6), (5, .int (oI k5)), (0, .ref b), (1, .ref (ad 0)), (2, .ref (ad 65)), (3, .ref (ad 75)), (4, .int (oI ((i : Nat) : Int)))]) hx hb dL_law_1670 hl (by decide) rfl (fun ls hl => ?_)
  refine lv_aload_n hx hb dL_law_1672 rfl (lv_at hl 4 rfl) ?_
  refine m_callVi (C := RX6) (k := 65) (rest := []) (As := []) hx hb hml hown hts hK hH hl cw_L_101 (c6_thrown hA z ms spo ou6 rf (Nat.le_refl 76) ⟨by omega, by omega⟩ c65) ⟨by show 0 + 1 ≤ 12; omega, by show _ ≤ 434; omega⟩ ⟨by show cells + 2 ≤ 601024; omega, by show slots + 12 ≤ 7293034; omega⟩ rfl (by decide) c65 rfl rfl (Nat.le_of_ble_eq_true rfl) dL_law_1673 (fun r7 s3 H locs hq7 hH => ?_)
  obtain ⟨h7, h8⟩ := hq7
  rw [h8] at hH
  rw [h7, hrk]
  refine lv_iload hx hb dL_law_1676 (lv_at hl 1 rfl) ?_
  refine m_icmp_eq 1683 hx hb dL_law_1678 (by decide) (by omega) (by omega) (fun _ => ?_) (fun h => absurd rfl h)
  refine lv_iload hx hb dL_law_1683 (lv_at hl 1 rfl) ?_
  refine m_if_ne 1700 hx hb dL_law_1685 (by decide) (by omega) (fun _ => ?_) (fun h0 => ?_)
  · refine lv_goto (tgt := 1759) hx hb dL_law_1700 (by decide) ?_
    exact kk s2 H locs ls ⟨hRel, F, c75⟩ hH (lv_sub hl [2, 3, 4, 5, 6] rfl)
  · rw [hr6 h0] at hl
    refine lv_aload_n hx hb dL_law_1688 rfl (lv_at hl 5 rfl) ?_
    refine m_iconst 0 hx hb dL_law_1689 rfl ?_
    refine m_lald hx hb hK hH (k := 75) (by decide) c75 0 rfl (by decide) (by decide) dL_law_1690 ?_
    rw [hF h0]
    refine lv_iload hx hb dL_law_1691 (lv_at hl 0 rfl) ?_
    refine m_i2l hx hb dL_law_1693 hvb ?_
    refine m_lcmp_eq 1700 hx hb dL_law_1694 dL_law_1695 (by decide) ⟨by omega, by omega⟩ ⟨by omega, by omega⟩ (fun _ => ?_) (fun h => absurd rfl h)
    refine lv_goto (tgt := 1759) hx hb dL_law_1700 (by decide) ?_
    exact kk s2 H locs ls ⟨hRel, F, c75⟩ hH (lv_sub hl [2, 3, 4, 5, 6] rfl)
set_option maxRecDepth 100000 in
theorem lc_25 {p : Program} {l : Launch} {e : Env} {s : State} {m : MethodId} {below : List Frame} {meth : Method} {c : Code} {b L : Nat} {xs : Nat → Int32} {D : va_G} {cT : Nat → ClassId} {ad : Nat → Nat} {Q : State → Prop} (hC : lwC p l s m c b L xs D cT ad) {i : Nat} (hi : i + 4 ≤ L) {σ : Nat → va_E} {H : Heap} {locs : List Loc} {cells slots : Nat} (hR : oRelW cT ad σ) (hH : oH s.heap.size D 76 ad s.heap σ H locs) {ls : Array Slot} (hl : lv_has ls 7 (lwB b ad i)) (hc : cells + 2 ≤ 601024 ∧ slots + 12 ≤ 7293034)
    (kk : ∀ (σ1 : Nat → va_E) (H1 : Heap) (locs1 : List Loc) (ls1 : Array Slot), oRelW cT ad σ1 → oH s.heap.size D 76 ad s.heap σ1 H1 locs1 → lv_has ls1 7 (lwB b ad i) → W p l e room_1 s m #[Value.ref b] below meth c H1 locs1 (cells + 2) (slots + 12) Q (F0 m 1759 ls1 [])) :
    W p l e room_1 s m #[Value.ref b] below meth c H locs cells slots Q (F0 m 1703 ls []) := by
  obtain ⟨hx, hb, hml, hown, hts, hX, hbl, hLL, hK, hT, hNc, hA, hl0⟩ := hC
  obtain ⟨v1, hv1⟩ : ∃ y : Int, (xs (i + 1)).toInt = y := ⟨_, rfl⟩
  have hb1 : -2147483648 ≤ v1 ∧ v1 < 2147483648 := by rw [← hv1]; exact oI_rng _
  obtain ⟨fs0, e0⟩ := hR.1.c0
  obtain ⟨F0, e75⟩ := hR.2
  obtain ⟨post5, fr, lo, kc, hM5, hb5, hp5⟩ := (kX_restore hA hl0 hR.1 v1 hb1).use hR (fun hM h1 h2 => hL_restore hA (Nat.le_refl 76) hM e0 e75 h1 (fun E u h => (h2 E u h))) (by decide)
  refine lv_aload_n hx hb dL_law_1703 rfl (lv_at hl 1 rfl) ?_
  refine lv_aload_n hx hb dL_law_1704 rfl (lv_at hl 0 rfl) ?_
  refine lv_iload hx hb dL_law_1705 (lv_at hl 4 rfl) ?_
  refine m_iconst 1 hx hb dL_law_1707 rfl ?_
  refine m_iadd (((i : Nat) : Int) + 1) hx hb dL_law_1708 rfl ?_
  refine m_sld hx hb hX hbl hLL hH (i + 1) (by omega) (by omega) v1 hv1 dL_law_1709 ?_
  refine lv_aload_n hx hb dL_law_1710 rfl (lv_at hl 3 rfl) ?_
  refine m_lawH (rest := []) (As := [.ref (ad 0), .int (oI v1), .ref (ad 75)]) hx hb hml hown hts hK hT hNc hH hl cs_L_187 hM5 ⟨by show fr + 1 ≤ 12; omega, by show _ ≤ 434; omega⟩ ⟨by show cells + kc ≤ 601024; omega, by show slots + 6 * kc ≤ 7293034; omega⟩ rfl rfl (Nat.le_of_ble_eq_true rfl) dL_law_1711 (fun r5 s1 H locs hq5 hH => ?_)
  refine W.widen (k := cells + 2) (n := slots + 12) (by omega) (by omega) ?_
  obtain ⟨k5, v, F, hr5, hk5, hvb, h75, hF, ⟨fs6, e65⟩, post6, FR6, LO6, hM6, hb6, hp6⟩ := hp5 _ _ hq5
  rw [hr5]
  refine lv_istore (lv' := [(5, .int (oI k5)), (0, .ref b), (1, .ref (ad 0)), (2, .ref (ad 65)), (3, .ref (ad 75)), (4, .int (oI ((i : Nat) : Int)))]) hx hb dL_law_1714 hl (by decide) rfl (fun ls hl => ?_)
  refine lv_aload_n hx hb dL_law_1716 rfl (lv_at hl 3 rfl) ?_
  refine lv_aload_n hx hb dL_law_1717 rfl (lv_at hl 1 rfl) ?_
  refine lv_iload hx hb dL_law_1718 (lv_at hl 5 rfl) ?_
  refine m_iconst 1 hx hb dL_law_1720 rfl ?_
  refine m_iadd (((i : Nat) : Int) + 1) hx hb dL_law_1721 rfl ?_
  refine m_sld hx hb hX hbl hLL hH (i + 1) (by omega) (by omega) v1 hv1 dL_law_1722 ?_
  refine m_callVi (C := RX6) (k := 65) (rest := []) (As := [.int (oI v1)]) hx hb hml hown hts hK hH hl cw_L_189 hM6 ⟨by show FR6 + 1 ≤ 12; omega, by show _ ≤ 434; omega⟩ ⟨by show cells + 2 ≤ 601024; omega, by show slots + 12 ≤ 7293034; omega⟩ rfl (by decide) e65 rfl rfl (Nat.le_of_ble_eq_true rfl) dL_law_1723 (fun r6 s2 H locs hq6 hH => ?_)
  obtain ⟨hf6, rf, z, ms, ⟨spo, ou6, c65⟩, hrf, hrk, hr6, hfin⟩ := hp6 _ _ hq6
  have hRel := hfin (fun q hq9 => hf6 q (Or.inl hq9))
  have c75 := (hf6 75 (Or.inr rfl)).trans h75
  refine lv_istore (lv' := [(6, .int r6), (5, .int (oI k5)), (0, .ref b), (1, .ref (ad 0)), (2, .ref (ad 65)), (3, .ref (ad 75)), (4, .int (oI ((i : Nat) : Int)))]) hx hb dL_law_1726 hl (by decide) rfl (fun ls hl => ?_)
  refine lv_aload_n hx hb dL_law_1728 rfl (lv_at hl 4 rfl) ?_
  refine m_callVi (C := RX6) (k := 65) (rest := []) (As := []) hx hb hml hown hts hK hH hl cw_L_101 (c6_thrown hA z ms spo ou6 rf (Nat.le_refl 76) ⟨by omega, by omega⟩ c65) ⟨by show 0 + 1 ≤ 12; omega, by show _ ≤ 434; omega⟩ ⟨by show cells + 2 ≤ 601024; omega, by show slots + 12 ≤ 7293034; omega⟩ rfl (by decide) c65 rfl rfl (Nat.le_of_ble_eq_true rfl) dL_law_1729 (fun r7 s3 H locs hq7 hH => ?_)
  obtain ⟨h7, h8⟩ := hq7
  rw [h8] at hH
  rw [h7, hrk]
  refine lv_iload hx hb dL_law_1732 (lv_at hl 1 rfl) ?_
  refine m_icmp_eq 1739 hx hb dL_law_1734 (by decide) (by omega) (by omega) (fun _ => ?_) (fun h => absurd rfl h)
  refine lv_iload hx hb dL_law_1739 (lv_at hl 1 rfl) ?_
  refine m_if_ne 1756 hx hb dL_law_1741 (by decide) (by omega) (fun _ => ?_) (fun h0 => ?_)
  · refine lv_goto (tgt := 1759) hx hb dL_law_1756 (by decide) ?_
    exact kk s2 H locs ls ⟨hRel, F, c75⟩ hH (lv_sub hl [2, 3, 4, 5, 6] rfl)
  · rw [hr6 h0] at hl
    refine lv_aload_n hx hb dL_law_1744 rfl (lv_at hl 5 rfl) ?_
    refine m_iconst 0 hx hb dL_law_1745 rfl ?_
    refine m_lald hx hb hK hH (k := 75) (by decide) c75 0 rfl (by decide) (by decide) dL_law_1746 ?_
    rw [hF h0]
    refine lv_iload hx hb dL_law_1747 (lv_at hl 0 rfl) ?_
    refine m_i2l hx hb dL_law_1749 hvb ?_
    refine m_lcmp_eq 1756 hx hb dL_law_1750 dL_law_1751 (by decide) ⟨by omega, by omega⟩ ⟨by omega, by omega⟩ (fun _ => ?_) (fun h => absurd rfl h)
    refine lv_goto (tgt := 1759) hx hb dL_law_1756 (by decide) ?_
    exact kk s2 H locs ls ⟨hRel, F, c75⟩ hH (lv_sub hl [2, 3, 4, 5, 6] rfl)
