theorem oMem_act {nx ms : Nat} (hnx : nx < 14) (hms : ms ≤ 14) {f fd d2 : Nat → Int} {ac2 : Nat} (hr : oRem f fd d2 ms ac2) {mn ma mg : Nat → Nat} {msz mw : Nat → Nat → Nat} {n a g : Nat} {sz2 w2 : Nat → Nat} (hn : oPi f n a g sz2 w2) (hm : ∀ i : Nat, i < ms → oPi (fun k => fd (k + 171 * i)) (mn ((nx + 14 - ms + i) % 14)) (ma ((nx + 14 - ms + i) % 14)) (mg ((nx + 14 - ms + i) % 14)) (msz ((nx + 14 - ms + i) % 14)) (mw ((nx + 14 - ms + i) % 14))) :
    ac2 = min (ms + 1) 14 ∧ ∀ i : Nat, i < min (ms + 1) 14 → oPi (fun k => d2 (k + 171 * i)) (va_up mn nx n (((if nx + 1 < 14 then nx + 1 else 0) + 14 - min (ms + 1) 14 + i) % 14)) (va_up ma nx a (((if nx + 1 < 14 then nx + 1 else 0) + 14 - min (ms + 1) 14 + i) % 14)) (va_up mg nx g (((if nx + 1 < 14 then nx + 1 else 0) + 14 - min (ms + 1) 14 + i) % 14)) (va_up msz nx sz2 (((if nx + 1 < 14 then nx + 1 else 0) + 14 - min (ms + 1) 14 + i) % 14)) (va_up mw nx w2 (((if nx + 1 < 14 then nx + 1 else 0) + 14 - min (ms + 1) 14 + i) % 14)) := by
  obtain ⟨x, hx, hx2⟩ : ∃ x : Nat, (if nx + 1 < 14 then nx + 1 else 0) = x ∧ ((nx < 13 ∧ x = nx + 1) ∨ (nx = 13 ∧ x = 0)) := by
    by_cases h : nx + 1 < 14
    · exact ⟨nx + 1, if_pos h, Or.inl ⟨by omega, rfl⟩⟩
    · exact ⟨0, if_neg h, Or.inr ⟨by omega, rfl⟩⟩
  rw [hx]
  rcases hr with ⟨h1, h2, h3, h4⟩ | ⟨h1, h2, h3, h4⟩
  · refine ⟨by omega, fun i hi => ?_⟩
    rw [show (x + 14 - min (ms + 1) 14 + i) % 14 = (nx + 14 - ms + i) % 14 by omega]
    by_cases hi2 : i = ms
    · rw [show (nx + 14 - ms + i) % 14 = nx by omega, va_up_s, va_up_s, va_up_s, va_up_s, va_up_s]
      exact hn.f (fun k hk => by rw [hi2]; exact h4 k hk)
    · have hk : ¬ (nx + 14 - ms + i) % 14 = nx := by omega
      rw [va_up_n _ _ hk, va_up_n _ _ hk, va_up_n _ _ hk, va_up_n _ _ hk, va_up_n _ _ hk]
      exact (hm i (by omega)).f (fun k hk => h3 _ (by omega))
  · refine ⟨by omega, fun i hi => ?_⟩
    by_cases hi2 : i = 13
    · rw [show (x + 14 - min (ms + 1) 14 + i) % 14 = nx by omega, va_up_s, va_up_s, va_up_s, va_up_s, va_up_s]
      exact hn.f (fun k hk => by rw [hi2]; exact h4 k hk)
    · rw [show (x + 14 - min (ms + 1) 14 + i) % 14 = (nx + 14 - ms + (i + 1)) % 14 by omega]
      have hk : ¬ (nx + 14 - ms + (i + 1)) % 14 = nx := by omega
      rw [va_up_n _ _ hk, va_up_n _ _ hk, va_up_n _ _ hk, va_up_n _ _ hk, va_up_n _ _ hk]
      exact (hm (i + 1) (by omega)).f (fun k hk => (h3 (k + 171 * i) (by omega)).trans (congrArg fd (by omega)))
theorem oRf_1_1 {n : Nat} {sz : Nat → Nat} {r p on : Int} : ¬ oRefA 1 n sz r p on = 1 := by
  intro h
  rw [oRefA_1] at h
  unfold oRef1 at h
  (repeat' split at h) <;> omega
theorem oRf_2_2 {n : Nat} {sz : Nat → Nat} {r p on : Int} : ¬ oRefA 2 n sz r p on = 2 := by
  intro h
  rw [oRefA_2] at h
  unfold oRef2 at h
  (repeat' split at h) <;> omega
theorem oRf_3_3 {n : Nat} {sz : Nat → Nat} {r p on : Int} : ¬ oRefA 3 n sz r p on = 3 := by
  intro h
  rw [oRefA_3] at h
  unfold oRef3 at h
  (repeat' split at h) <;> omega
theorem oRf_4_2 {n : Nat} {sz : Nat → Nat} {r p on : Int} : ¬ oRefA 4 n sz r p on = 2 := by
  intro h
  rw [oRefA_4] at h
  unfold oRef4 at h
  (repeat' split at h) <;> omega
theorem oRf_4_3 {n : Nat} {sz : Nat → Nat} {r p on : Int} : ¬ oRefA 4 n sz r p on = 3 := by
  intro h
  rw [oRefA_4] at h
  unfold oRef4 at h
  (repeat' split at h) <;> omega
theorem oRf_5_1 {n : Nat} {sz : Nat → Nat} {r p on : Int} : ¬ oRefA 5 n sz r p on = 1 := by
  intro h
  rw [oRefA_5] at h
  unfold oRef5 at h
  (repeat' split at h) <;> omega
theorem oRf_5_3 {n : Nat} {sz : Nat → Nat} {r p on : Int} : ¬ oRefA 5 n sz r p on = 3 := by
  intro h
  rw [oRefA_5] at h
  unfold oRef5 at h
  (repeat' split at h) <;> omega
set_option maxRecDepth 100000 in
theorem kX_ruler {l : Launch} {D : va_G} {cT : Nat → ClassId} {b0 : Nat} {ad : Nat → Nat} (hA : oAd b0 76 ad) (hl0 : l.stackTraces = false) {σ : Nat → va_E} (hR : oRelC cT ad σ) (r : Int) (hbr : -2147483648 ≤ r ∧ r < 2147483648) :
    oKX l D cT ad b0 σ yX5_ruler cX5_ruler 2 [.ref (ad (0)), .int (oI (r))] yX6_ruler cX6_ruler 2 [.ref (ad (65)), .int (oI (r))] oIA oIS := by
  obtain ⟨⟨n, a, g, sz, w, n7, a7, g7, sz7, w7, n8, a8, g8, sz8, w8, ff, sf, nx, ms, mn, ma, mg, msz, mw, T, z⟩, ⟨f7, T6, fd, fk, kz⟩, hP, hM, hL⟩ := hR
  have hnx : nx < 14 := hL.hnx
  have hms : ms ≤ 14 := hL.hms
  obtain ⟨rf, spo, ou6, e65⟩ := hM.z65
  refine ⟨fun rr uu => ∃ (n1 a1 g1 : Nat) (sz1 w1 sz2 w2 : Nat → Nat), rr = oI ((oDoV 1 r 0 0 n a g sz w)) ∧ (oRefA 1 n sz r 0 0 = 0) ∧ (oDoS 1 r 0 0 n a g sz w = (n1, a1, g1, sz1, w1)) ∧ (oWf n1 sz1 w1) ∧ (oAg a1 g1) ∧ (∀ r : Nat, r < n → sz2 r = sz r ∧ w2 r = w r) ∧ oRP cT ad uu ⟨n1, a1, g1, sz1, w1, n7, a7, g7, sz7, w7, n8, a8, g8, sz8, w8, ff, sf, (if nx + 1 < 14 then nx + 1 else 0), min (ms + 1) 14, va_up mn nx n, va_up ma nx a, va_up mg nx g, va_up msz nx sz2, va_up mw nx w2, T, z⟩, fun E uu => ((E = oIO ∧ oRefA 1 n sz r 0 0 = 1) ∨ (E = oIA ∧ oRefA 1 n sz r 0 0 = 2) ∨ (E = oIS ∧ oRefA 1 n sz r 0 0 = 3)) ∧ oRP cT ad uu ⟨n, a, g, sz, w, n7, a7, g7, sz7, w7, n8, a8, g8, sz8, w8, ff, sf, nx, ms, mn, ma, mg, msz, mw, T, z⟩, ⟨_, _, _, _, _, c5_ruler hA r n a g sz w nx ms mn ma mg msz mw ff sf hl0 (Nat.le_refl 76) hL.now.1 hL.hnx hL.hms hP.hm hbr hL.now.2.1 hP.eO hP.e0 hP.e1 hP.e2 hP.eM hP.eA, by decide, fun rz u h => ?_, fun E u h => ?_⟩, fun E u h => ?_, fun rz u0 u hOk hu => ?_, fun E u0 u hEx hu => ?_⟩
  · obtain ⟨n1, a1, g1, sz1, w1, sz2, w2, h0, h1, h2, h3, h4, h5, c1, c2, c3, c13, cA, cB, cC, hq⟩ := h
    have hm2 : ∀ i : Nat, i < 14 → u (3 * i + 15) = .inr (4, [.ref (ad (3 * i + 16)), .ref (ad (3 * i + 17)), .int (oI ((va_up mn nx n i : Nat) : Int)), .int (oI ((va_up ma nx a i : Nat) : Int)), .int (oI ((va_up mg nx g i : Nat) : Int))]) ∧ u (3 * i + 16) = oAN cT 4 (va_up msz nx sz2 i) ∧ u (3 * i + 17) = oAJ cT 4 (va_up mw nx w2 i) := fun i hi => by
      by_cases hin : i = nx
      · rw [hin, va_up_s, va_up_s, va_up_s, va_up_s, va_up_s]
        exact ⟨cA, cB, cC⟩
      · rw [va_up_n _ _ hin, va_up_n _ _ hin, va_up_n _ _ hin, va_up_n _ _ hin, va_up_n _ _ hin]
        exact ⟨(hq _ (by omega) (by omega) (by omega) (by omega) (by omega) (by omega) (by omega)).trans (hP.hm i hi).1, (hq _ (by omega) (by omega) (by omega) (by omega) (by omega) (by omega) (by omega)).trans (hP.hm i hi).2.1, (hq _ (by omega) (by omega) (by omega) (by omega) (by omega) (by omega) (by omega)).trans (hP.hm i hi).2.2⟩
    exact ⟨fun q hq9 => hq q (by omega) (by omega) (by omega) (by omega) (by omega) (by omega) (by omega), n1, a1, g1, sz1, w1, sz2, w2, h0, h1, h2, h3, h4, h5, ⟨((hq 0 (by omega) (by omega) (by omega) (by omega) (by omega) (by omega) (by omega)).trans hP.eO), c1, c2, c3, ((hq 7 (by omega) (by omega) (by omega) (by omega) (by omega) (by omega) (by omega)).trans hP.f70), ((hq 8 (by omega) (by omega) (by omega) (by omega) (by omega) (by omega) (by omega)).trans hP.f71), ((hq 9 (by omega) (by omega) (by omega) (by omega) (by omega) (by omega) (by omega)).trans hP.f72), ((hq 10 (by omega) (by omega) (by omega) (by omega) (by omega) (by omega) (by omega)).trans hP.f100), ((hq 11 (by omega) (by omega) (by omega) (by omega) (by omega) (by omega) (by omega)).trans hP.f101), ((hq 12 (by omega) (by omega) (by omega) (by omega) (by omega) (by omega) (by omega)).trans hP.f102), c13, ((hq 14 (by omega) (by omega) (by omega) (by omega) (by omega) (by omega) (by omega)).trans hP.eA), hm2, (zc (hq 57 (by omega) (by omega) (by omega) (by omega) (by omega) (by omega) (by omega)) hP.z57), ((hq 58 (by omega) (by omega) (by omega) (by omega) (by omega) (by omega) (by omega)).trans hP.e58), (zc (hq 4 (by omega) (by omega) (by omega) (by omega) (by omega) (by omega) (by omega)) hP.z4), (zc (hq 5 (by omega) (by omega) (by omega) (by omega) (by omega) (by omega) (by omega)) hP.z5), (zc (hq 6 (by omega) (by omega) (by omega) (by omega) (by omega) (by omega) (by omega)) hP.z6), (zc (hq 59 (by omega) (by omega) (by omega) (by omega) (by omega) (by omega) (by omega)) hP.z59), (zc (hq 60 (by omega) (by omega) (by omega) (by omega) (by omega) (by omega) (by omega)) hP.z60), (zc (hq 61 (by omega) (by omega) (by omega) (by omega) (by omega) (by omega) (by omega)) hP.z61), (zc (hq 62 (by omega) (by omega) (by omega) (by omega) (by omega) (by omega) (by omega)) hP.z62), (zc (hq 63 (by omega) (by omega) (by omega) (by omega) (by omega) (by omega) (by omega)) hP.z63), (zc (hq 64 (by omega) (by omega) (by omega) (by omega) (by omega) (by omega) (by omega)) hP.z64)⟩⟩
  · obtain ⟨h0, hq⟩ := h
    have hq : ∀ q : Nat, u q = σ q := fun q => by rw [hq]
    exact ⟨fun q hq9 => hq q, h0, hP.congr (fun q _ => hq q)⟩
  · rcases h.1 with h | h | h <;> first | exact Or.inl h.1 | exact Or.inr h.1 | exact absurd h.2 oRf_1_1
  · obtain ⟨n1, a1, g1, sz1, w1, sz2, w2, h0, h1, h2, h3, h4, h5, hP1⟩ := hOk
    refine ⟨_, _, _, c6_ruler hA r z ms spo ou6 rf n a g f7 sz w fd (Nat.le_refl 76) hL.now.1 hL.now.2.1 hL.now.2.2 hL.hms hbr ((hu 65 (by decide) (by decide)).trans e65) ((hu 67 (by decide) (by decide)).trans hM.e67) ((hu 69 (by decide) (by decide)).trans hM.e69), by decide, fun r6 u2 h => ?_⟩
    obtain ⟨v9, r9, ac2, y7, d2, h6, hd, c65, c67, c69, hq⟩ := h
    rcases hd with ⟨m0, m1, m2, m3, n9, a9, g9, sz9, w9, m4, m5⟩ | ⟨_, _, _, m3⟩
    · have b3 := h2.symm.trans m4
      simp only [Prod.mk.injEq] at b3
      obtain ⟨b4, b5, b6, b7, b8⟩ := b3
      rw [← b4, ← b5, ← b6, ← b7, ← b8] at m5
      obtain ⟨k1, k2⟩ := oMem_act hnx hms m3 (hL.now.eq h5) hL.mem
      rw [k1] at c65
      have hM2 : oRM cT ad u2 z (min (ms + 1) 14) ⟨y7, T6, d2, fk, kz⟩ := ⟨⟨_, _, _, c65⟩, ((hq 66 (by decide) (by decide) (by decide)).trans ((hu 66 (by decide) (by decide)).trans hM.e66)), c67, (zc ((hq 68 (by decide) (by decide) (by decide)).trans (hu 68 (by decide) (by decide))) hM.z68), c69, ((hq 70 (by decide) (by decide) (by decide)).trans ((hu 70 (by decide) (by decide)).trans hM.e70)), ((hq 71 (by decide) (by decide) (by decide)).trans ((hu 71 (by decide) (by decide)).trans hM.e71)), (zc ((hq 72 (by decide) (by decide) (by decide)).trans (hu 72 (by decide) (by decide))) hM.z72), (zc ((hq 73 (by decide) (by decide) (by decide)).trans (hu 73 (by decide) (by decide))) hM.z73), (zc ((hq 74 (by decide) (by decide) (by decide)).trans (hu 74 (by decide) (by decide))) hM.z74)⟩
      have hL2 : oLk ⟨n1, a1, g1, sz1, w1, n7, a7, g7, sz7, w7, n8, a8, g8, sz8, w8, ff, sf, (if nx + 1 < 14 then nx + 1 else 0), min (ms + 1) 14, va_up mn nx n, va_up ma nx a, va_up mg nx g, va_up msz nx sz2, va_up mw nx w2, T, z⟩ ⟨y7, T6, d2, fk, kz⟩ := ⟨⟨h3, h4, m5⟩, (show (if nx + 1 < 14 then nx + 1 else 0) < 14 by split <;> omega), (show min (ms + 1) 14 ≤ 14 by omega), fun i hi => (show va_up mn nx n i ≤ 4 by
      by_cases hin : i = nx
      · rw [hin, va_up_s]; exact hL.now.1.1
      · rw [va_up_n _ _ hin]; exact hL.mn4 i hi), k2, hL.hz, hL.hT, hL.hTT, hL.n74, hL.n84, hL.k0, hL.k1⟩
      exact ⟨fun q hq9 => hq q (by omega) (by omega) (by omega), r9, _, _, ⟨_, _, c65⟩, by rw [m1]; decide, m1, by rw [h6, h0, m2], oFin.mk hP1 hM2 hL2⟩
    · rcases m3 with m3 | m3 <;> exact absurd (h1.symm.trans m3.2) (by decide)
  · obtain ⟨hE, hP1⟩ := hEx
    refine ⟨_, _, _, c6_ruler hA r z ms spo ou6 rf n a g f7 sz w fd (Nat.le_refl 76) hL.now.1 hL.now.2.1 hL.now.2.2 hL.hms hbr ((hu 65 (by decide) (by decide)).trans e65) ((hu 67 (by decide) (by decide)).trans hM.e67) ((hu 69 (by decide) (by decide)).trans hM.e69), by decide, fun r6 u2 h => ?_⟩
    obtain ⟨v9, r9, ac2, y7, d2, h6, hd, c65, c67, c69, hq⟩ := h
    rcases hd with ⟨m0, m1, m2, m3, n9, a9, g9, sz9, w9, m4, m5⟩ | ⟨y1, y2, y3, m3⟩
    · rcases hE with p | p | p <;> exact absurd (m0.symm.trans p.2) (by decide)
    · rw [y1] at c65
      rw [y2] at c67
      rw [y3] at c69
      have hM2 : oRM cT ad u2 z ms ⟨f7, T6, fd, fk, kz⟩ := ⟨⟨_, _, _, c65⟩, ((hq 66 (by decide) (by decide) (by decide)).trans ((hu 66 (by decide) (by decide)).trans hM.e66)), c67, (zc ((hq 68 (by decide) (by decide) (by decide)).trans (hu 68 (by decide) (by decide))) hM.z68), c69, ((hq 70 (by decide) (by decide) (by decide)).trans ((hu 70 (by decide) (by decide)).trans hM.e70)), ((hq 71 (by decide) (by decide) (by decide)).trans ((hu 71 (by decide) (by decide)).trans hM.e71)), (zc ((hq 72 (by decide) (by decide) (by decide)).trans (hu 72 (by decide) (by decide))) hM.z72), (zc ((hq 73 (by decide) (by decide) (by decide)).trans (hu 73 (by decide) (by decide))) hM.z73), (zc ((hq 74 (by decide) (by decide) (by decide)).trans (hu 74 (by decide) (by decide))) hM.z74)⟩
      rcases hE with p | p | p <;> rcases m3 with m3 | m3 <;> first | exact absurd (p.2.symm.trans m3.2) (by decide) | exact ⟨fun q hq9 => hq q (by omega) (by omega) (by omega), r9, _, _, ⟨_, _, c65⟩, by rw [m3.1]; decide, m3.1.trans (by rw [p.1]; first | exact n1_1 | exact n1_2 | exact n1_3 | exact n1_4), oFin.mk hP1 hM2 hL⟩
set_option maxRecDepth 100000 in
theorem kX_mark {l : Launch} {D : va_G} {cT : Nat → ClassId} {b0 : Nat} {ad : Nat → Nat} (hA : oAd b0 76 ad) (hl0 : l.stackTraces = false) {σ : Nat → va_E} (hR : oRelC cT ad σ) (r : Int) (p : Int) (on : Int) (hbr : -2147483648 ≤ r ∧ r < 2147483648) (hbp : -2147483648 ≤ p ∧ p < 2147483648) (hon : on = 0 ∨ on = 1) :
    oKX l D cT ad b0 σ yX5_mark cX5_mark 4 [.ref (ad (0)), .int (oI (r)), .int (oI (p)), .int (oI (on))] yX6_mark cX6_mark 4 [.ref (ad (65)), .int (oI (r)), .int (oI (p)), .int (oI (on))] oIO oIS := by
  obtain ⟨⟨n, a, g, sz, w, n7, a7, g7, sz7, w7, n8, a8, g8, sz8, w8, ff, sf, nx, ms, mn, ma, mg, msz, mw, T, z⟩, ⟨f7, T6, fd, fk, kz⟩, hP, hM, hL⟩ := hR
  have hnx : nx < 14 := hL.hnx
  have hms : ms ≤ 14 := hL.hms
  obtain ⟨rf, spo, ou6, e65⟩ := hM.z65
  refine ⟨fun rr uu => ∃ (n1 a1 g1 : Nat) (sz1 w1 sz2 w2 : Nat → Nat), rr = oI ((oDoV 2 r p on n a g sz w)) ∧ (oRefA 2 n sz r p on = 0) ∧ (oDoS 2 r p on n a g sz w = (n1, a1, g1, sz1, w1)) ∧ (oWf n1 sz1 w1) ∧ (oAg a1 g1) ∧ (∀ r : Nat, r < n → sz2 r = sz r ∧ w2 r = w r) ∧ oRP cT ad uu ⟨n1, a1, g1, sz1, w1, n7, a7, g7, sz7, w7, n8, a8, g8, sz8, w8, ff, sf, (if nx + 1 < 14 then nx + 1 else 0), min (ms + 1) 14, va_up mn nx n, va_up ma nx a, va_up mg nx g, va_up msz nx sz2, va_up mw nx w2, T, z⟩, fun E uu => ((E = oIO ∧ oRefA 2 n sz r p on = 1) ∨ (E = oIA ∧ oRefA 2 n sz r p on = 2) ∨ (E = oIS ∧ oRefA 2 n sz r p on = 3)) ∧ oRP cT ad uu ⟨n, a, g, sz, w, n7, a7, g7, sz7, w7, n8, a8, g8, sz8, w8, ff, sf, nx, ms, mn, ma, mg, msz, mw, T, z⟩, ⟨_, _, _, _, _, c5_mark hA r p on n a g sz w nx ms mn ma mg msz mw ff sf hl0 (Nat.le_refl 76) hL.now.1 hL.hnx hL.hms hP.hm hbr hbp hon hL.now.2.1 hP.eO hP.e0 hP.e1 hP.e2 hP.eM hP.eA, by decide, fun rz u h => ?_, fun E u h => ?_⟩, fun E u h => ?_, fun rz u0 u hOk hu => ?_, fun E u0 u hEx hu => ?_⟩
  · obtain ⟨n1, a1, g1, sz1, w1, sz2, w2, h0, h1, h2, h3, h4, h5, c1, c2, c3, c13, cA, cB, cC, hq⟩ := h
    have hm2 : ∀ i : Nat, i < 14 → u (3 * i + 15) = .inr (4, [.ref (ad (3 * i + 16)), .ref (ad (3 * i + 17)), .int (oI ((va_up mn nx n i : Nat) : Int)), .int (oI ((va_up ma nx a i : Nat) : Int)), .int (oI ((va_up mg nx g i : Nat) : Int))]) ∧ u (3 * i + 16) = oAN cT 4 (va_up msz nx sz2 i) ∧ u (3 * i + 17) = oAJ cT 4 (va_up mw nx w2 i) := fun i hi => by
      by_cases hin : i = nx
      · rw [hin, va_up_s, va_up_s, va_up_s, va_up_s, va_up_s]
        exact ⟨cA, cB, cC⟩
      · rw [va_up_n _ _ hin, va_up_n _ _ hin, va_up_n _ _ hin, va_up_n _ _ hin, va_up_n _ _ hin]
        exact ⟨(hq _ (by omega) (by omega) (by omega) (by omega) (by omega) (by omega) (by omega)).trans (hP.hm i hi).1, (hq _ (by omega) (by omega) (by omega) (by omega) (by omega) (by omega) (by omega)).trans (hP.hm i hi).2.1, (hq _ (by omega) (by omega) (by omega) (by omega) (by omega) (by omega) (by omega)).trans (hP.hm i hi).2.2⟩
    exact ⟨fun q hq9 => hq q (by omega) (by omega) (by omega) (by omega) (by omega) (by omega) (by omega), n1, a1, g1, sz1, w1, sz2, w2, h0, h1, h2, h3, h4, h5, ⟨((hq 0 (by omega) (by omega) (by omega) (by omega) (by omega) (by omega) (by omega)).trans hP.eO), c1, c2, c3, ((hq 7 (by omega) (by omega) (by omega) (by omega) (by omega) (by omega) (by omega)).trans hP.f70), ((hq 8 (by omega) (by omega) (by omega) (by omega) (by omega) (by omega) (by omega)).trans hP.f71), ((hq 9 (by omega) (by omega) (by omega) (by omega) (by omega) (by omega) (by omega)).trans hP.f72), ((hq 10 (by omega) (by omega) (by omega) (by omega) (by omega) (by omega) (by omega)).trans hP.f100), ((hq 11 (by omega) (by omega) (by omega) (by omega) (by omega) (by omega) (by omega)).trans hP.f101), ((hq 12 (by omega) (by omega) (by omega) (by omega) (by omega) (by omega) (by omega)).trans hP.f102), c13, ((hq 14 (by omega) (by omega) (by omega) (by omega) (by omega) (by omega) (by omega)).trans hP.eA), hm2, (zc (hq 57 (by omega) (by omega) (by omega) (by omega) (by omega) (by omega) (by omega)) hP.z57), ((hq 58 (by omega) (by omega) (by omega) (by omega) (by omega) (by omega) (by omega)).trans hP.e58), (zc (hq 4 (by omega) (by omega) (by omega) (by omega) (by omega) (by omega) (by omega)) hP.z4), (zc (hq 5 (by omega) (by omega) (by omega) (by omega) (by omega) (by omega) (by omega)) hP.z5), (zc (hq 6 (by omega) (by omega) (by omega) (by omega) (by omega) (by omega) (by omega)) hP.z6), (zc (hq 59 (by omega) (by omega) (by omega) (by omega) (by omega) (by omega) (by omega)) hP.z59), (zc (hq 60 (by omega) (by omega) (by omega) (by omega) (by omega) (by omega) (by omega)) hP.z60), (zc (hq 61 (by omega) (by omega) (by omega) (by omega) (by omega) (by omega) (by omega)) hP.z61), (zc (hq 62 (by omega) (by omega) (by omega) (by omega) (by omega) (by omega) (by omega)) hP.z62), (zc (hq 63 (by omega) (by omega) (by omega) (by omega) (by omega) (by omega) (by omega)) hP.z63), (zc (hq 64 (by omega) (by omega) (by omega) (by omega) (by omega) (by omega) (by omega)) hP.z64)⟩⟩
  · obtain ⟨h0, hq⟩ := h
    have hq : ∀ q : Nat, u q = σ q := fun q => by rw [hq]
    exact ⟨fun q hq9 => hq q, h0, hP.congr (fun q _ => hq q)⟩
  · rcases h.1 with h | h | h <;> first | exact Or.inl h.1 | exact Or.inr h.1 | exact absurd h.2 oRf_2_2
  · obtain ⟨n1, a1, g1, sz1, w1, sz2, w2, h0, h1, h2, h3, h4, h5, hP1⟩ := hOk
    refine ⟨_, _, _, c6_mark hA r p on z ms spo ou6 rf n a g f7 sz w fd (Nat.le_refl 76) hL.now.1 hL.now.2.1 hL.now.2.2 hL.hms hbr hbp hon ((hu 65 (by decide) (by decide)).trans e65) ((hu 67 (by decide) (by decide)).trans hM.e67) ((hu 69 (by decide) (by decide)).trans hM.e69), by decide, fun r6 u2 h => ?_⟩
    obtain ⟨v9, r9, ac2, y7, d2, h6, hd, c65, c67, c69, hq⟩ := h
    rcases hd with ⟨m0, m1, m2, m3, n9, a9, g9, sz9, w9, m4, m5⟩ | ⟨_, _, _, m3⟩
    · have b3 := h2.symm.trans m4
      simp only [Prod.mk.injEq] at b3
      obtain ⟨b4, b5, b6, b7, b8⟩ := b3
      rw [← b4, ← b5, ← b6, ← b7, ← b8] at m5
      obtain ⟨k1, k2⟩ := oMem_act hnx hms m3 (hL.now.eq h5) hL.mem
      rw [k1] at c65
      have hM2 : oRM cT ad u2 z (min (ms + 1) 14) ⟨y7, T6, d2, fk, kz⟩ := ⟨⟨_, _, _, c65⟩, ((hq 66 (by decide) (by decide) (by decide)).trans ((hu 66 (by decide) (by decide)).trans hM.e66)), c67, (zc ((hq 68 (by decide) (by decide) (by decide)).trans (hu 68 (by decide) (by decide))) hM.z68), c69, ((hq 70 (by decide) (by decide) (by decide)).trans ((hu 70 (by decide) (by decide)).trans hM.e70)), ((hq 71 (by decide) (by decide) (by decide)).trans ((hu 71 (by decide) (by decide)).trans hM.e71)), (zc ((hq 72 (by decide) (by decide) (by decide)).trans (hu 72 (by decide) (by decide))) hM.z72), (zc ((hq 73 (by decide) (by decide) (by decide)).trans (hu 73 (by decide) (by decide))) hM.z73), (zc ((hq 74 (by decide) (by decide) (by decide)).trans (hu 74 (by decide) (by decide))) hM.z74)⟩
      have hL2 : oLk ⟨n1, a1, g1, sz1, w1, n7, a7, g7, sz7, w7, n8, a8, g8, sz8, w8, ff, sf, (if nx + 1 < 14 then nx + 1 else 0), min (ms + 1) 14, va_up mn nx n, va_up ma nx a, va_up mg nx g, va_up msz nx sz2, va_up mw nx w2, T, z⟩ ⟨y7, T6, d2, fk, kz⟩ := ⟨⟨h3, h4, m5⟩, (show (if nx + 1 < 14 then nx + 1 else 0) < 14 by split <;> omega), (show min (ms + 1) 14 ≤ 14 by omega), fun i hi => (show va_up mn nx n i ≤ 4 by
      by_cases hin : i = nx
      · rw [hin, va_up_s]; exact hL.now.1.1
      · rw [va_up_n _ _ hin]; exact hL.mn4 i hi), k2, hL.hz, hL.hT, hL.hTT, hL.n74, hL.n84, hL.k0, hL.k1⟩
      exact ⟨fun q hq9 => hq q (by omega) (by omega) (by omega), r9, _, _, ⟨_, _, c65⟩, by rw [m1]; decide, m1, by rw [h6, h0, m2], oFin.mk hP1 hM2 hL2⟩
    · rcases m3 with m3 | m3 <;> exact absurd (h1.symm.trans m3.2) (by decide)
  · obtain ⟨hE, hP1⟩ := hEx
    refine ⟨_, _, _, c6_mark hA r p on z ms spo ou6 rf n a g f7 sz w fd (Nat.le_refl 76) hL.now.1 hL.now.2.1 hL.now.2.2 hL.hms hbr hbp hon ((hu 65 (by decide) (by decide)).trans e65) ((hu 67 (by decide) (by decide)).trans hM.e67) ((hu 69 (by decide) (by decide)).trans hM.e69), by decide, fun r6 u2 h => ?_⟩
    obtain ⟨v9, r9, ac2, y7, d2, h6, hd, c65, c67, c69, hq⟩ := h
    rcases hd with ⟨m0, m1, m2, m3, n9, a9, g9, sz9, w9, m4, m5⟩ | ⟨y1, y2, y3, m3⟩
    · rcases hE with p | p | p <;> exact absurd (m0.symm.trans p.2) (by decide)
    · rw [y1] at c65
      rw [y2] at c67
      rw [y3] at c69
      have hM2 : oRM cT ad u2 z ms ⟨f7, T6, fd, fk, kz⟩ := ⟨⟨_, _, _, c65⟩, ((hq 66 (by decide) (by decide) (by decide)).trans ((hu 66 (by decide) (by decide)).trans hM.e66)), c67, (zc ((hq 68 (by decide) (by decide) (by decide)).trans (hu 68 (by decide) (by decide))) hM.z68), c69, ((hq 70 (by decide) (by decide) (by decide)).trans ((hu 70 (by decide) (by decide)).trans hM.e70)), ((hq 71 (by decide) (by decide) (by decide)).trans ((hu 71 (by decide) (by decide)).trans hM.e71)), (zc ((hq 72 (by decide) (by decide) (by decide)).trans (hu 72 (by decide) (by decide))) hM.z72), (zc ((hq 73 (by decide) (by decide) (by decide)).trans (hu 73 (by decide) (by decide))) hM.z73), (zc ((hq 74 (by decide) (by decide) (by decide)).trans (hu 74 (by decide) (by decide))) hM.z74)⟩
      rcases hE with p | p | p <;> rcases m3 with m3 | m3 <;> first | exact absurd (p.2.symm.trans m3.2) (by decide) | exact ⟨fun q hq9 => hq q (by omega) (by omega) (by omega), r9, _, _, ⟨_, _, c65⟩, by rw [m3.1]; decide, m3.1.trans (by rw [p.1]; first | exact n1_1 | exact n1_2 | exact n1_3 | exact n1_4), oFin.mk hP1 hM2 hL⟩
set_option maxRecDepth 100000 in
theorem kX_cut {l : Launch} {D : va_G} {cT : Nat → ClassId} {b0 : Nat} {ad : Nat → Nat} (hA : oAd b0 76 ad) (hl0 : l.stackTraces = false) {σ : Nat → va_E} (hR : oRelC cT ad σ) (r : Int) (p : Int) (hbr : -2147483648 ≤ r ∧ r < 2147483648) (hbp : -2147483648 ≤ p ∧ p < 2147483648) :
    oKX l D cT ad b0 σ yX5_cut cX5_cut 3 [.ref (ad (0)), .int (oI (r)), .int (oI (p))] yX6_cut cX6_cut 3 [.ref (ad (65)), .int (oI (r)), .int (oI (p))] oIO oIA := by
  obtain ⟨⟨n, a, g, sz, w, n7, a7, g7, sz7, w7, n8, a8, g8, sz8, w8, ff, sf, nx, ms, mn, ma, mg, msz, mw, T, z⟩, ⟨f7, T6, fd, fk, kz⟩, hP, hM, hL⟩ := hR
  have hnx : nx < 14 := hL.hnx
  have hms : ms ≤ 14 := hL.hms
  obtain ⟨rf, spo, ou6, e65⟩ := hM.z65
  refine ⟨fun rr uu => ∃ (n1 a1 g1 : Nat) (sz1 w1 sz2 w2 : Nat → Nat), rr = oI ((oDoV 3 r p 0 n a g sz w)) ∧ (oRefA 3 n sz r p 0 = 0) ∧ (oDoS 3 r p 0 n a g sz w = (n1, a1, g1, sz1, w1)) ∧ (oWf n1 sz1 w1) ∧ (oAg a1 g1) ∧ (∀ r : Nat, r < n → sz2 r = sz r ∧ w2 r = w r) ∧ oRP cT ad uu ⟨n1, a1, g1, sz1, w1, n7, a7, g7, sz7, w7, n8, a8, g8, sz8, w8, ff, sf, (if nx + 1 < 14 then nx + 1 else 0), min (ms + 1) 14, va_up mn nx n, va_up ma nx a, va_up mg nx g, va_up msz nx sz2, va_up mw nx w2, T, z⟩, fun E uu => ((E = oIO ∧ oRefA 3 n sz r p 0 = 1) ∨ (E = oIA ∧ oRefA 3 n sz r p 0 = 2) ∨ (E = oIS ∧ oRefA 3 n sz r p 0 = 3)) ∧ oRP cT ad uu ⟨n, a, g, sz, w, n7, a7, g7, sz7, w7, n8, a8, g8, sz8, w8, ff, sf, nx, ms, mn, ma, mg, msz, mw, T, z⟩, ⟨_, _, _, _, _, c5_cut hA r p n a g sz w nx ms mn ma mg msz mw ff sf hl0 (Nat.le_refl 76) hL.now.1 hL.hnx hL.hms hP.hm hbr hbp hL.now.2.1 hP.eO hP.e0 hP.e1 hP.e2 hP.eM hP.eA, by decide, fun rz u h => ?_, fun E u h => ?_⟩, fun E u h => ?_, fun rz u0 u hOk hu => ?_, fun E u0 u hEx hu => ?_⟩
  · obtain ⟨n1, a1, g1, sz1, w1, sz2, w2, h0, h1, h2, h3, h4, h5, c1, c2, c3, c13, cA, cB, cC, hq⟩ := h
    have hm2 : ∀ i : Nat, i < 14 → u (3 * i + 15) = .inr (4, [.ref (ad (3 * i + 16)), .ref (ad (3 * i + 17)), .int (oI ((va_up mn nx n i : Nat) : Int)), .int (oI ((va_up ma nx a i : Nat) : Int)), .int (oI ((va_up mg nx g i : Nat) : Int))]) ∧ u (3 * i + 16) = oAN cT 4 (va_up msz nx sz2 i) ∧ u (3 * i + 17) = oAJ cT 4 (va_up mw nx w2 i) := fun i hi => by
      by_cases hin : i = nx
      · rw [hin, va_up_s, va_up_s, va_up_s, va_up_s, va_up_s]
        exact ⟨cA, cB, cC⟩
      · rw [va_up_n _ _ hin, va_up_n _ _ hin, va_up_n _ _ hin, va_up_n _ _ hin, va_up_n _ _ hin]
        exact ⟨(hq _ (by omega) (by omega) (by omega) (by omega) (by omega) (by omega) (by omega)).trans (hP.hm i hi).1, (hq _ (by omega) (by omega) (by omega) (by omega) (by omega) (by omega) (by omega)).trans (hP.hm i hi).2.1, (hq _ (by omega) (by omega) (by omega) (by omega) (by omega) (by omega) (by omega)).trans (hP.hm i hi).2.2⟩
    exact ⟨fun q hq9 => hq q (by omega) (by omega) (by omega) (by omega) (by omega) (by omega) (by omega), n1, a1, g1, sz1, w1, sz2, w2, h0, h1, h2, h3, h4, h5, ⟨((hq 0 (by omega) (by omega) (by omega) (by omega) (by omega) (by omega) (by omega)).trans hP.eO), c1, c2, c3, ((hq 7 (by omega) (by omega) (by omega) (by omega) (by omega) (by omega) (by omega)).trans hP.f70), ((hq 8 (by omega) (by omega) (by omega) (by omega) (by omega) (by omega) (by omega)).trans hP.f71), ((hq 9 (by omega) (by omega) (by omega) (by omega) (by omega) (by omega) (by omega)).trans hP.f72), ((hq 10 (by omega) (by omega) (by omega) (by omega) (by omega) (by omega) (by omega)).trans hP.f100), ((hq 11 (by omega) (by omega) (by omega) (by omega) (by omega) (by omega) (by omega)).trans hP.f101), ((hq 12 (by omega) (by omega) (by omega) (by omega) (by omega) (by omega) (by omega)).trans hP.f102), c13, ((hq 14 (by omega) (by omega) (by omega) (by omega) (by omega) (by omega) (by omega)).trans hP.eA), hm2, (zc (hq 57 (by omega) (by omega) (by omega) (by omega) (by omega) (by omega) (by omega)) hP.z57), ((hq 58 (by omega) (by omega) (by omega) (by omega) (by omega) (by omega) (by omega)).trans hP.e58), (zc (hq 4 (by omega) (by omega) (by omega) (by omega) (by omega) (by omega) (by omega)) hP.z4), (zc (hq 5 (by omega) (by omega) (by omega) (by omega) (by omega) (by omega) (by omega)) hP.z5), (zc (hq 6 (by omega) (by omega) (by omega) (by omega) (by omega) (by omega) (by omega)) hP.z6), (zc (hq 59 (by omega) (by omega) (by omega) (by omega) (by omega) (by omega) (by omega)) hP.z59), (zc (hq 60 (by omega) (by omega) (by omega) (by omega) (by omega) (by omega) (by omega)) hP.z60), (zc (hq 61 (by omega) (by omega) (by omega) (by omega) (by omega) (by omega) (by omega)) hP.z61), (zc (hq 62 (by omega) (by omega) (by omega) (by omega) (by omega) (by omega) (by omega)) hP.z62), (zc (hq 63 (by omega) (by omega) (by omega) (by omega) (by omega) (by omega) (by omega)) hP.z63), (zc (hq 64 (by omega) (by omega) (by omega) (by omega) (by omega) (by omega) (by omega)) hP.z64)⟩⟩
  · obtain ⟨h0, hq⟩ := h
    have hq : ∀ q : Nat, u q = σ q := fun q => by rw [hq]
    exact ⟨fun q hq9 => hq q, h0, hP.congr (fun q _ => hq q)⟩
  · rcases h.1 with h | h | h <;> first | exact Or.inl h.1 | exact Or.inr h.1 | exact absurd h.2 oRf_3_3
  · obtain ⟨n1, a1, g1, sz1, w1, sz2, w2, h0, h1, h2, h3, h4, h5, hP1⟩ := hOk
    refine ⟨_, _, _, c6_cut hA r p z ms spo ou6 rf n a g f7 sz w fd (Nat.le_refl 76) hL.now.1 hL.now.2.1 hL.now.2.2 hL.hms hbr hbp ((hu 65 (by decide) (by decide)).trans e65) ((hu 67 (by decide) (by decide)).trans hM.e67) ((hu 69 (by decide) (by decide)).trans hM.e69), by decide, fun r6 u2 h => ?_⟩
    obtain ⟨v9, r9, ac2, y7, d2, h6, hd, c65, c67, c69, hq⟩ := h
    rcases hd with ⟨m0, m1, m2, m3, n9, a9, g9, sz9, w9, m4, m5⟩ | ⟨_, _, _, m3⟩
    · have b3 := h2.symm.trans m4
      simp only [Prod.mk.injEq] at b3
      obtain ⟨b4, b5, b6, b7, b8⟩ := b3
      rw [← b4, ← b5, ← b6, ← b7, ← b8] at m5
      obtain ⟨k1, k2⟩ := oMem_act hnx hms m3 (hL.now.eq h5) hL.mem
      rw [k1] at c65
      have hM2 : oRM cT ad u2 z (min (ms + 1) 14) ⟨y7, T6, d2, fk, kz⟩ := ⟨⟨_, _, _, c65⟩, ((hq 66 (by decide) (by decide) (by decide)).trans ((hu 66 (by decide) (by decide)).trans hM.e66)), c67, (zc ((hq 68 (by decide) (by decide) (by decide)).trans (hu 68 (by decide) (by decide))) hM.z68), c69, ((hq 70 (by decide) (by decide) (by decide)).trans ((hu 70 (by decide) (by decide)).trans hM.e70)), ((hq 71 (by decide) (by decide) (by decide)).trans ((hu 71 (by decide) (by decide)).trans hM.e71)), (zc ((hq 72 (by decide) (by decide) (by decide)).trans (hu 72 (by decide) (by decide))) hM.z72), (zc ((hq 73 (by decide) (by decide) (by decide)).trans (hu 73 (by decide) (by decide))) hM.z73), (zc ((hq 74 (by decide) (by decide) (by decide)).trans (hu 74 (by decide) (by decide))) hM.z74)⟩
      have hL2 : oLk ⟨n1, a1, g1, sz1, w1, n7, a7, g7, sz7, w7, n8, a8, g8, sz8, w8, ff, sf, (if nx + 1 < 14 then nx + 1 else 0), min (ms + 1) 14, va_up mn nx n, va_up ma nx a, va_up mg nx g, va_up msz nx sz2, va_up mw nx w2, T, z⟩ ⟨y7, T6, d2, fk, kz⟩ := ⟨⟨h3, h4, m5⟩, (show (if nx + 1 < 14 then nx + 1 else 0) < 14 by split <;> omega), (show min (ms + 1) 14 ≤ 14 by omega), fun i hi => (show va_up mn nx n i ≤ 4 by
      by_cases hin : i = nx
      · rw [hin, va_up_s]; exact hL.now.1.1
      · rw [va_up_n _ _ hin]; exact hL.mn4 i hi), k2, hL.hz, hL.hT, hL.hTT, hL.n74, hL.n84, hL.k0, hL.k1⟩
      exact ⟨fun q hq9 => hq q (by omega) (by omega) (by omega), r9, _, _, ⟨_, _, c65⟩, by rw [m1]; decide, m1, by rw [h6, h0, m2], oFin.mk hP1 hM2 hL2⟩
    · rcases m3 with m3 | m3 <;> exact absurd (h1.symm.trans m3.2) (by decide)
  · obtain ⟨hE, hP1⟩ := hEx
    refine ⟨_, _, _, c6_cut hA r p z ms spo ou6 rf n a g f7 sz w fd (Nat.le_refl 76) hL.now.1 hL.now.2.1 hL.now.2.2 hL.hms hbr hbp ((hu 65 (by decide) (by decide)).trans e65) ((hu 67 (by decide) (by decide)).trans hM.e67) ((hu 69 (by decide) (by decide)).trans hM.e69), by decide, fun r6 u2 h => ?_⟩
    obtain ⟨v9, r9, ac2, y7, d2, h6, hd, c65, c67, c69, hq⟩ := h
    rcases hd with ⟨m0, m1, m2, m3, n9, a9, g9, sz9, w9, m4, m5⟩ | ⟨y1, y2, y3, m3⟩
    · rcases hE with p | p | p <;> exact absurd (m0.symm.trans p.2) (by decide)
    · rw [y1] at c65
      rw [y2] at c67
      rw [y3] at c69
      have hM2 : oRM cT ad u2 z ms ⟨f7, T6, fd, fk, kz⟩ := ⟨⟨_, _, _, c65⟩, ((hq 66 (by decide) (by decide) (by decide)).trans ((hu 66 (by decide) (by decide)).trans hM.e66)), c67, (zc ((hq 68 (by decide) (by decide) (by decide)).trans (hu 68 (by decide) (by decide))) hM.z68), c69, ((hq 70 (by decide) (by decide) (by decide)).trans ((hu 70 (by decide) (by decide)).trans hM.e70)), ((hq 71 (by decide) (by decide) (by decide)).trans ((hu 71 (by decide) (by decide)).trans hM.e71)), (zc ((hq 72 (by decide) (by decide) (by decide)).trans (hu 72 (by decide) (by decide))) hM.z72), (zc ((hq 73 (by decide) (by decide) (by decide)).trans (hu 73 (by decide) (by decide))) hM.z73), (zc ((hq 74 (by decide) (by decide) (by decide)).trans (hu 74 (by decide) (by decide))) hM.z74)⟩
      rcases hE with p | p | p <;> rcases m3 with m3 | m3 <;> first | exact absurd (p.2.symm.trans m3.2) (by decide) | exact ⟨fun q hq9 => hq q (by omega) (by omega) (by omega), r9, _, _, ⟨_, _, c65⟩, by rw [m3.1]; decide, m3.1.trans (by rw [p.1]; first | exact n1_1 | exact n1_2 | exact n1_3 | exact n1_4), oFin.mk hP1 hM2 hL⟩
set_option maxRecDepth 100000 in
theorem kX_turn {l : Launch} {D : va_G} {cT : Nat → ClassId} {b0 : Nat} {ad : Nat → Nat} (hA : oAd b0 76 ad) (hl0 : l.stackTraces = false) {σ : Nat → va_E} (hR : oRelC cT ad σ) (r : Int) (hbr : -2147483648 ≤ r ∧ r < 2147483648) :
    oKX l D cT ad b0 σ yX5_turn cX5_turn 2 [.ref (ad (0)), .int (oI (r))] yX6_turn cX6_turn 2 [.ref (ad (65)), .int (oI (r))] oIO oIO := by
  obtain ⟨⟨n, a, g, sz, w, n7, a7, g7, sz7, w7, n8, a8, g8, sz8, w8, ff, sf, nx, ms, mn, ma, mg, msz, mw, T, z⟩, ⟨f7, T6, fd, fk, kz⟩, hP, hM, hL⟩ := hR
  have hnx : nx < 14 := hL.hnx
  have hms : ms ≤ 14 := hL.hms
  obtain ⟨rf, spo, ou6, e65⟩ := hM.z65
  refine ⟨fun rr uu => ∃ (n1 a1 g1 : Nat) (sz1 w1 sz2 w2 : Nat → Nat), rr = oI ((oDoV 4 r 0 0 n a g sz w)) ∧ (oRefA 4 n sz r 0 0 = 0) ∧ (oDoS 4 r 0 0 n a g sz w = (n1, a1, g1, sz1, w1)) ∧ (oWf n1 sz1 w1) ∧ (oAg a1 g1) ∧ (∀ r : Nat, r < n → sz2 r = sz r ∧ w2 r = w r) ∧ oRP cT ad uu ⟨n1, a1, g1, sz1, w1, n7, a7, g7, sz7, w7, n8, a8, g8, sz8, w8, ff, sf, (if nx + 1 < 14 then nx + 1 else 0), min (ms + 1) 14, va_up mn nx n, va_up ma nx a, va_up mg nx g, va_up msz nx sz2, va_up mw nx w2, T, z⟩, fun E uu => ((E = oIO ∧ oRefA 4 n sz r 0 0 = 1) ∨ (E = oIA ∧ oRefA 4 n sz r 0 0 = 2) ∨ (E = oIS ∧ oRefA 4 n sz r 0 0 = 3)) ∧ oRP cT ad uu ⟨n, a, g, sz, w, n7, a7, g7, sz7, w7, n8, a8, g8, sz8, w8, ff, sf, nx, ms, mn, ma, mg, msz, mw, T, z⟩, ⟨_, _, _, _, _, c5_turn hA r n a g sz w nx ms mn ma mg msz mw ff sf hl0 (Nat.le_refl 76) hL.now.1 hL.hnx hL.hms hP.hm hbr hL.now.2.1 hP.eO hP.e0 hP.e1 hP.e2 hP.eM hP.eA, by decide, fun rz u h => ?_, fun E u h => ?_⟩, fun E u h => ?_, fun rz u0 u hOk hu => ?_, fun E u0 u hEx hu => ?_⟩
  · obtain ⟨n1, a1, g1, sz1, w1, sz2, w2, h0, h1, h2, h3, h4, h5, c1, c2, c3, c13, cA, cB, cC, hq⟩ := h
    have hm2 : ∀ i : Nat, i < 14 → u (3 * i + 15) = .inr (4, [.ref (ad (3 * i + 16)), .ref (ad (3 * i + 17)), .int (oI ((va_up mn nx n i : Nat) : Int)), .int (oI ((va_up ma nx a i : Nat) : Int)), .int (oI ((va_up mg nx g i : Nat) : Int))]) ∧ u (3 * i + 16) = oAN cT 4 (va_up msz nx sz2 i) ∧ u (3 * i + 17) = oAJ cT 4 (va_up mw nx w2 i) := fun i hi => by
      by_cases hin : i = nx
      · rw [hin, va_up_s, va_up_s, va_up_s, va_up_s, va_up_s]
        exact ⟨cA, cB, cC⟩
      · rw [va_up_n _ _ hin, va_up_n _ _ hin, va_up_n _ _ hin, va_up_n _ _ hin, va_up_n _ _ hin]
        exact ⟨(hq _ (by omega) (by omega) (by omega) (by omega) (by omega) (by omega) (by omega)).trans (hP.hm i hi).1, (hq _ (by omega) (by omega) (by omega) (by omega) (by omega) (by omega) (by omega)).trans (hP.hm i hi).2.1, (hq _ (by omega) (by omega) (by omega) (by omega) (by omega) (by omega) (by omega)).trans (hP.hm i hi).2.2⟩
    exact ⟨fun q hq9 => hq q (by omega) (by omega) (by omega) (by omega) (by omega) (by omega) (by omega), n1, a1, g1, sz1, w1, sz2, w2, h0, h1, h2, h3, h4, h5, ⟨((hq 0 (by omega) (by omega) (by omega) (by omega) (by omega) (by omega) (by omega)).trans hP.eO), c1, c2, c3, ((hq 7 (by omega) (by omega) (by omega) (by omega) (by omega) (by omega) (by omega)).trans hP.f70), ((hq 8 (by omega) (by omega) (by omega) (by omega) (by omega) (by omega) (by omega)).trans hP.f71), ((hq 9 (by omega) (by omega) (by omega) (by omega) (by omega) (by omega) (by omega)).trans hP.f72), ((hq 10 (by omega) (by omega) (by omega) (by omega) (by omega) (by omega) (by omega)).trans hP.f100), ((hq 11 (by omega) (by omega) (by omega) (by omega) (by omega) (by omega) (by omega)).trans hP.f101), ((hq 12 (by omega) (by omega) (by omega) (by omega) (by omega) (by omega) (by omega)).trans hP.f102), c13, ((hq 14 (by omega) (by omega) (by omega) (by omega) (by omega) (by omega) (by omega)).trans hP.eA), hm2, (zc (hq 57 (by omega) (by omega) (by omega) (by omega) (by omega) (by omega) (by omega)) hP.z57), ((hq 58 (by omega) (by omega) (by omega) (by omega) (by omega) (by omega) (by omega)).trans hP.e58), (zc (hq 4 (by omega) (by omega) (by omega) (by omega) (by omega) (by omega) (by omega)) hP.z4), (zc (hq 5 (by omega) (by omega) (by omega) (by omega) (by omega) (by omega) (by omega)) hP.z5), (zc (hq 6 (by omega) (by omega) (by omega) (by omega) (by omega) (by omega) (by omega)) hP.z6), (zc (hq 59 (by omega) (by omega) (by omega) (by omega) (by omega) (by omega) (by omega)) hP.z59), (zc (hq 60 (by omega) (by omega) (by omega) (by omega) (by omega) (by omega) (by omega)) hP.z60), (zc (hq 61 (by omega) (by omega) (by omega) (by omega) (by omega) (by omega) (by omega)) hP.z61), (zc (hq 62 (by omega) (by omega) (by omega) (by omega) (by omega) (by omega) (by omega)) hP.z62), (zc (hq 63 (by omega) (by omega) (by omega) (by omega) (by omega) (by omega) (by omega)) hP.z63), (zc (hq 64 (by omega) (by omega) (by omega) (by omega) (by omega) (by omega) (by omega)) hP.z64)⟩⟩
  · obtain ⟨h0, hq⟩ := h
    have hq : ∀ q : Nat, u q = σ q := fun q => by rw [hq]
    exact ⟨fun q hq9 => hq q, h0, hP.congr (fun q _ => hq q)⟩
  · rcases h.1 with h | h | h <;> first | exact Or.inl h.1 | exact Or.inr h.1 | exact absurd h.2 oRf_4_2 | exact absurd h.2 oRf_4_3
  · obtain ⟨n1, a1, g1, sz1, w1, sz2, w2, h0, h1, h2, h3, h4, h5, hP1⟩ := hOk
    refine ⟨_, _, _, c6_turn hA r z ms spo ou6 rf n a g f7 sz w fd (Nat.le_refl 76) hL.now.1 hL.now.2.1 hL.now.2.2 hL.hms hbr ((hu 65 (by decide) (by decide)).trans e65) ((hu 67 (by decide) (by decide)).trans hM.e67) ((hu 69 (by decide) (by decide)).trans hM.e69), by decide, fun r6 u2 h => ?_⟩
    obtain ⟨v9, r9, ac2, y7, d2, h6, hd, c65, c67, c69, hq⟩ := h
    rcases hd with ⟨m0, m1, m2, m3, n9, a9, g9, sz9, w9, m4, m5⟩ | ⟨_, _, _, m3⟩
    · have b3 := h2.symm.trans m4
      simp only [Prod.mk.injEq] at b3
      obtain ⟨b4, b5, b6, b7, b8⟩ := b3
      rw [← b4, ← b5, ← b6, ← b7, ← b8] at m5
      obtain ⟨k1, k2⟩ := oMem_act hnx hms m3 (hL.now.eq h5) hL.mem
      rw [k1] at c65
      have hM2 : oRM cT ad u2 z (min (ms + 1) 14) ⟨y7, T6, d2, fk, kz⟩ := ⟨⟨_, _, _, c65⟩, ((hq 66 (by decide) (by decide) (by decide)).trans ((hu 66 (by decide) (by decide)).trans hM.e66)), c67, (zc ((hq 68 (by decide) (by decide) (by decide)).trans (hu 68 (by decide) (by decide))) hM.z68), c69, ((hq 70 (by decide) (by decide) (by decide)).trans ((hu 70 (by decide) (by decide)).trans hM.e70)), ((hq 71 (by decide) (by decide) (by decide)).trans ((hu 71 (by decide) (by decide)).trans hM.e71)), (zc ((hq 72 (by decide) (by decide) (by decide)).trans (hu 72 (by decide) (by decide))) hM.z72), (zc ((hq 73 (by decide) (by decide) (by decide)).trans (hu 73 (by decide) (by decide))) hM.z73), (zc ((hq 74 (by decide) (by decide) (by decide)).trans (hu 74 (by decide) (by decide))) hM.z74)⟩
      have hL2 : oLk ⟨n1, a1, g1, sz1, w1, n7, a7, g7, sz7, w7, n8, a8, g8, sz8, w8, ff, sf, (if nx + 1 < 14 then nx + 1 else 0), min (ms + 1) 14, va_up mn nx n, va_up ma nx a, va_up mg nx g, va_up msz nx sz2, va_up mw nx w2, T, z⟩ ⟨y7, T6, d2, fk, kz⟩ := ⟨⟨h3, h4, m5⟩, (show (if nx + 1 < 14 then nx + 1 else 0) < 14 by split <;> omega), (show min (ms + 1) 14 ≤ 14 by omega), fun i hi => (show va_up mn nx n i ≤ 4 by
      by_cases hin : i = nx
      · rw [hin, va_up_s]; exact hL.now.1.1
      · rw [va_up_n _ _ hin]; exact hL.mn4 i hi), k2, hL.hz, hL.hT, hL.hTT, hL.n74, hL.n84, hL.k0, hL.k1⟩
      exact ⟨fun q hq9 => hq q (by omega) (by omega) (by omega), r9, _, _, ⟨_, _, c65⟩, by rw [m1]; decide, m1, by rw [h6, h0, m2], oFin.mk hP1 hM2 hL2⟩
    · exact absurd (h1.symm.trans m3.2) (by decide)
  · obtain ⟨hE, hP1⟩ := hEx
    refine ⟨_, _, _, c6_turn hA r z ms spo ou6 rf n a g f7 sz w fd (Nat.le_refl 76) hL.now.1 hL.now.2.1 hL.now.2.2 hL.hms hbr ((hu 65 (by decide) (by decide)).trans e65) ((hu 67 (by decide) (by decide)).trans hM.e67) ((hu 69 (by decide) (by decide)).trans hM.e69), by decide, fun r6 u2 h => ?_⟩
    obtain ⟨v9, r9, ac2, y7, d2, h6, hd, c65, c67, c69, hq⟩ := h
    rcases hd with ⟨m0, m1, m2, m3, n9, a9, g9, sz9, w9, m4, m5⟩ | ⟨y1, y2, y3, m3⟩
    · rcases hE with p | p | p <;> exact absurd (m0.symm.trans p.2) (by decide)
    · rw [y1] at c65
      rw [y2] at c67
      rw [y3] at c69
      have hM2 : oRM cT ad u2 z ms ⟨f7, T6, fd, fk, kz⟩ := ⟨⟨_, _, _, c65⟩, ((hq 66 (by decide) (by decide) (by decide)).trans ((hu 66 (by decide) (by decide)).trans hM.e66)), c67, (zc ((hq 68 (by decide) (by decide) (by decide)).trans (hu 68 (by decide) (by decide))) hM.z68), c69, ((hq 70 (by decide) (by decide) (by decide)).trans ((hu 70 (by decide) (by decide)).trans hM.e70)), ((hq 71 (by decide) (by decide) (by decide)).trans ((hu 71 (by decide) (by decide)).trans hM.e71)), (zc ((hq 72 (by decide) (by decide) (by decide)).trans (hu 72 (by decide) (by decide))) hM.z72), (zc ((hq 73 (by decide) (by decide) (by decide)).trans (hu 73 (by decide) (by decide))) hM.z73), (zc ((hq 74 (by decide) (by decide) (by decide)).trans (hu 74 (by decide) (by decide))) hM.z74)⟩
      rcases hE with p | p | p <;> first | exact absurd (p.2.symm.trans m3.2) (by decide) | exact ⟨fun q hq9 => hq q (by omega) (by omega) (by omega), r9, _, _, ⟨_, _, c65⟩, by rw [m3.1]; decide, m3.1.trans (by rw [p.1]; first | exact n1_1 | exact n1_2 | exact n1_3 | exact n1_4), oFin.mk hP1 hM2 hL⟩
set_option maxRecDepth 100000 in
theorem kX_set {l : Launch} {D : va_G} {cT : Nat → ClassId} {b0 : Nat} {ad : Nat → Nat} (hA : oAd b0 76 ad) (hl0 : l.stackTraces = false) {σ : Nat → va_E} (hR : oRelC cT ad σ) (r : Int) (p : Int) (hbr : -2147483648 ≤ r ∧ r < 2147483648) (hbp : -2147483648 ≤ p ∧ p < 2147483648) :
    oKX l D cT ad b0 σ yX5_set cX5_set 3 [.ref (ad (0)), .int (oI (r)), .int (oI (p))] yX6_set cX6_set 3 [.ref (ad (65)), .int (oI (r)), .int (oI (p))] oIA oIA := by
  obtain ⟨⟨n, a, g, sz, w, n7, a7, g7, sz7, w7, n8, a8, g8, sz8, w8, ff, sf, nx, ms, mn, ma, mg, msz, mw, T, z⟩, ⟨f7, T6, fd, fk, kz⟩, hP, hM, hL⟩ := hR
  have hnx : nx < 14 := hL.hnx
  have hms : ms ≤ 14 := hL.hms
  obtain ⟨rf, spo, ou6, e65⟩ := hM.z65
  refine ⟨fun rr uu => ∃ (n1 a1 g1 : Nat) (sz1 w1 sz2 w2 : Nat → Nat), rr = oI ((oDoV 5 r p 0 n a g sz w)) ∧ (oRefA 5 n sz r p 0 = 0) ∧ (oDoS 5 r p 0 n a g sz w = (n1, a1, g1, sz1, w1)) ∧ (oWf n1 sz1 w1) ∧ (oAg a1 g1) ∧ (∀ r : Nat, r < n → sz2 r = sz r ∧ w2 r = w r) ∧ oRP cT ad uu ⟨n1, a1, g1, sz1, w1, n7, a7, g7, sz7, w7, n8, a8, g8, sz8, w8, ff, sf, (if nx + 1 < 14 then nx + 1 else 0), min (ms + 1) 14, va_up mn nx n, va_up ma nx a, va_up mg nx g, va_up msz nx sz2, va_up mw nx w2, T, z⟩, fun E uu => ((E = oIO ∧ oRefA 5 n sz r p 0 = 1) ∨ (E = oIA ∧ oRefA 5 n sz r p 0 = 2) ∨ (E = oIS ∧ oRefA 5 n sz r p 0 = 3)) ∧ oRP cT ad uu ⟨n, a, g, sz, w, n7, a7, g7, sz7, w7, n8, a8, g8, sz8, w8, ff, sf, nx, ms, mn, ma, mg, msz, mw, T, z⟩, ⟨_, _, _, _, _, c5_set hA r p n a g sz w nx ms mn ma mg msz mw ff sf hl0 (Nat.le_refl 76) hL.now.1 hL.hnx hL.hms hP.hm hbr hbp hL.now.2.1 hP.eO hP.e0 hP.e1 hP.e2 hP.eM hP.eA, by decide, fun rz u h => ?_, fun E u h => ?_⟩, fun E u h => ?_, fun rz u0 u hOk hu => ?_, fun E u0 u hEx hu => ?_⟩
  · obtain ⟨n1, a1, g1, sz1, w1, sz2, w2, h0, h1, h2, h3, h4, h5, c1, c2, c3, c13, cA, cB, cC, hq⟩ := h
    have hm2 : ∀ i : Nat, i < 14 → u (3 * i + 15) = .inr (4, [.ref (ad (3 * i + 16)), .ref (ad (3 * i + 17)), .int (oI ((va_up mn nx n i : Nat) : Int)), .int (oI ((va_up ma nx a i : Nat) : Int)), .int (oI ((va_up mg nx g i : Nat) : Int))]) ∧ u (3 * i + 16) = oAN cT 4 (va_up msz nx sz2 i) ∧ u (3 * i + 17) = oAJ cT 4 (va_up mw nx w2 i) := fun i hi => by
      by_cases hin : i = nx
      · rw [hin, va_up_s, va_up_s, va_up_s, va_up_s, va_up_s]
        exact ⟨cA, cB, cC⟩
      · rw [va_up_n _ _ hin, va_up_n _ _ hin, va_up_n _ _ hin, va_up_n _ _ hin, va_up_n _ _ hin]
        exact ⟨(hq _ (by omega) (by omega) (by omega) (by omega) (by omega) (by omega) (by omega)).trans (hP.hm i hi).1, (hq _ (by omega) (by omega) (by omega) (by omega) (by omega) (by omega) (by omega)).trans (hP.hm i hi).2.1, (hq _ (by omega) (by omega) (by omega) (by omega) (by omega) (by omega) (by omega)).trans (hP.hm i hi).2.2⟩
    exact ⟨fun q hq9 => hq q (by omega) (by omega) (by omega) (by omega) (by omega) (by omega) (by omega), n1, a1, g1, sz1, w1, sz2, w2, h0, h1, h2, h3, h4, h5, ⟨((hq 0 (by omega) (by omega) (by omega) (by omega) (by omega) (by omega) (by omega)).trans hP.eO), c1, c2, c3, ((hq 7 (by omega) (by omega) (by omega) (by omega) (by omega) (by omega) (by omega)).trans hP.f70), ((hq 8 (by omega) (by omega) (by omega) (by omega) (by omega) (by omega) (by omega)).trans hP.f71), ((hq 9 (by omega) (by omega) (by omega) (by omega) (by omega) (by omega) (by omega)).trans hP.f72), ((hq 10 (by omega) (by omega) (by omega) (by omega) (by omega) (by omega) (by omega)).trans hP.f100), ((hq 11 (by omega) (by omega) (by omega) (by omega) (by omega) (by omega) (by omega)).trans hP.f101), ((hq 12 (by omega) (by omega) (by omega) (by omega) (by omega) (by omega) (by omega)).trans hP.f102), c13, ((hq 14 (by omega) (by omega) (by omega) (by omega) (by omega) (by omega) (by omega)).trans hP.eA), hm2, (zc (hq 57 (by omega) (by omega) (by omega) (by omega) (by omega) (by omega) (by omega)) hP.z57), ((hq 58 (by omega) (by omega) (by omega) (by omega) (by omega) (by omega) (by omega)).trans hP.e58), (zc (hq 4 (by omega) (by omega) (by omega) (by omega) (by omega) (by omega) (by omega)) hP.z4), (zc (hq 5 (by omega) (by omega) (by omega) (by omega) (by omega) (by omega) (by omega)) hP.z5), (zc (hq 6 (by omega) (by omega) (by omega) (by omega) (by omega) (by omega) (by omega)) hP.z6), (zc (hq 59 (by omega) (by omega) (by omega) (by omega) (by omega) (by omega) (by omega)) hP.z59), (zc (hq 60 (by omega) (by omega) (by omega) (by omega) (by omega) (by omega) (by omega)) hP.z60), (zc (hq 61 (by omega) (by omega) (by omega) (by omega) (by omega) (by omega) (by omega)) hP.z61), (zc (hq 62 (by omega) (by omega) (by omega) (by omega) (by omega) (by omega) (by omega)) hP.z62), (zc (hq 63 (by omega) (by omega) (by omega) (by omega) (by omega) (by omega) (by omega)) hP.z63), (zc (hq 64 (by omega) (by omega) (by omega) (by omega) (by omega) (by omega) (by omega)) hP.z64)⟩⟩
  · obtain ⟨h0, hq⟩ := h
    have hq : ∀ q : Nat, u q = σ q := fun q => by rw [hq]
    exact ⟨fun q hq9 => hq q, h0, hP.congr (fun q _ => hq q)⟩
  · rcases h.1 with h | h | h <;> first | exact Or.inl h.1 | exact Or.inr h.1 | exact absurd h.2 oRf_5_1 | exact absurd h.2 oRf_5_3
  · obtain ⟨n1, a1, g1, sz1, w1, sz2, w2, h0, h1, h2, h3, h4, h5, hP1⟩ := hOk
    refine ⟨_, _, _, c6_set hA r p z ms spo ou6 rf n a g f7 sz w fd (Nat.le_refl 76) hL.now.1 hL.now.2.1 hL.now.2.2 hL.hms hbr hbp ((hu 65 (by decide) (by decide)).trans e65) ((hu 67 (by decide) (by decide)).trans hM.e67) ((hu 69 (by decide) (by decide)).trans hM.e69), by decide, fun r6 u2 h => ?_⟩
    obtain ⟨v9, r9, ac2, y7, d2, h6, hd, c65, c67, c69, hq⟩ := h
    rcases hd with ⟨m0, m1, m2, m3, n9, a9, g9, sz9, w9, m4, m5⟩ | ⟨_, _, _, m3⟩
    · have b3 := h2.symm.trans m4
      simp only [Prod.mk.injEq] at b3
      obtain ⟨b4, b5, b6, b7, b8⟩ := b3
      rw [← b4, ← b5, ← b6, ← b7, ← b8] at m5
      obtain ⟨k1, k2⟩ := oMem_act hnx hms m3 (hL.now.eq h5) hL.mem
      rw [k1] at c65
      have hM2 : oRM cT ad u2 z (min (ms + 1) 14) ⟨y7, T6, d2, fk, kz⟩ := ⟨⟨_, _, _, c65⟩, ((hq 66 (by decide) (by decide) (by decide)).trans ((hu 66 (by decide) (by decide)).trans hM.e66)), c67, (zc ((hq 68 (by decide) (by decide) (by decide)).trans (hu 68 (by decide) (by decide))) hM.z68), c69, ((hq 70 (by decide) (by decide) (by decide)).trans ((hu 70 (by decide) (by decide)).trans hM.e70)), ((hq 71 (by decide) (by decide) (by decide)).trans ((hu 71 (by decide) (by decide)).trans hM.e71)), (zc ((hq 72 (by decide) (by decide) (by decide)).trans (hu 72 (by decide) (by decide))) hM.z72), (zc ((hq 73 (by decide) (by decide) (by decide)).trans (hu 73 (by decide) (by decide))) hM.z73), (zc ((hq 74 (by decide) (by decide) (by decide)).trans (hu 74 (by decide) (by decide))) hM.z74)⟩
      have hL2 : oLk ⟨n1, a1, g1, sz1, w1, n7, a7, g7, sz7, w7, n8, a8, g8, sz8, w8, ff, sf, (if nx + 1 < 14 then nx + 1 else 0), min (ms + 1) 14, va_up mn nx n, va_up ma nx a, va_up mg nx g, va_up msz nx sz2, va_up mw nx w2, T, z⟩ ⟨y7, T6, d2, fk, kz⟩ := ⟨⟨h3, h4, m5⟩, (show (if nx + 1 < 14 then nx + 1 else 0) < 14 by split <;> omega), (show min (ms + 1) 14 ≤ 14 by omega), fun i hi => (show va_up mn nx n i ≤ 4 by
      by_cases hin : i = nx
      · rw [hin, va_up_s]; exact hL.now.1.1
      · rw [va_up_n _ _ hin]; exact hL.mn4 i hi), k2, hL.hz, hL.hT, hL.hTT, hL.n74, hL.n84, hL.k0, hL.k1⟩
      exact ⟨fun q hq9 => hq q (by omega) (by omega) (by omega), r9, _, _, ⟨_, _, c65⟩, by rw [m1]; decide, m1, by rw [h6, h0, m2], oFin.mk hP1 hM2 hL2⟩
    · exact absurd (h1.symm.trans m3.2) (by decide)
  · obtain ⟨hE, hP1⟩ := hEx
    refine ⟨_, _, _, c6_set hA r p z ms spo ou6 rf n a g f7 sz w fd (Nat.le_refl 76) hL.now.1 hL.now.2.1 hL.now.2.2 hL.hms hbr hbp ((hu 65 (by decide) (by decide)).trans e65) ((hu 67 (by decide) (by decide)).trans hM.e67) ((hu 69 (by decide) (by decide)).trans hM.e69), by decide, fun r6 u2 h => ?_⟩
    obtain ⟨v9, r9, ac2, y7, d2, h6, hd, c65, c67, c69, hq⟩ := h
    rcases hd with ⟨m0, m1, m2, m3, n9, a9, g9, sz9, w9, m4, m5⟩ | ⟨y1, y2, y3, m3⟩
    · rcases hE with p | p | p <;> exact absurd (m0.symm.trans p.2) (by decide)
    · rw [y1] at c65
      rw [y2] at c67
      rw [y3] at c69
      have hM2 : oRM cT ad u2 z ms ⟨f7, T6, fd, fk, kz⟩ := ⟨⟨_, _, _, c65⟩, ((hq 66 (by decide) (by decide) (by decide)).trans ((hu 66 (by decide) (by decide)).trans hM.e66)), c67, (zc ((hq 68 (by decide) (by decide) (by decide)).trans (hu 68 (by decide) (by decide))) hM.z68), c69, ((hq 70 (by decide) (by decide) (by decide)).trans ((hu 70 (by decide) (by decide)).trans hM.e70)), ((hq 71 (by decide) (by decide) (by decide)).trans ((hu 71 (by decide) (by decide)).trans hM.e71)), (zc ((hq 72 (by decide) (by decide) (by decide)).trans (hu 72 (by decide) (by decide))) hM.z72), (zc ((hq 73 (by decide) (by decide) (by decide)).trans (hu 73 (by decide) (by decide))) hM.z73), (zc ((hq 74 (by decide) (by decide) (by decide)).trans (hu 74 (by decide) (by decide))) hM.z74)⟩
      rcases hE with p | p | p <;> first | exact absurd (p.2.symm.trans m3.2) (by decide) | exact ⟨fun q hq9 => hq q (by omega) (by omega) (by omega), r9, _, _, ⟨_, _, c65⟩, by rw [m3.1]; decide, m3.1.trans (by rw [p.1]; first | exact n1_1 | exact n1_2 | exact n1_3 | exact n1_4), oFin.mk hP1 hM2 hL⟩
