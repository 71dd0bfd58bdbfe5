set_option maxRecDepth 100000 in
theorem kX_about {l : Launch} {D : va_G} {cT : Nat → ClassId} {b0 : Nat} {ad : Nat → Nat} (hA : oAd b0 76 ad) (hl0 : l.stackTraces = false) {σ : Nat → va_E} (hR : oRelC cT ad σ) (x : Int) (hbx : -2147483648 ≤ x ∧ x < 2147483648) :
    oKX l D cT ad b0 σ yX5_about cX5_about 2 [.ref (ad (0)), .int (oI (x))] yX6_about cX6_about 4 [.ref (ad (65)), .int (oI (x))] oIA oIA := by
  obtain ⟨⟨n, a, g, sz, w, n7, a7, g7, sz7, w7, n8, a8, g8, sz8, w8, ff, sf, nx, ms, mn, ma, mg, msz, mw, T, z⟩, ⟨f7, T6, fd, fk, kz⟩, hP, hM, hL⟩ := hR
  obtain ⟨ld, e59⟩ := hP.z59
  obtain ⟨wr, e62⟩ := hP.z62
  obtain ⟨gr, e63⟩ := hP.z63
  obtain ⟨rf, spo, ou6, e65⟩ := hM.z65
  obtain ⟨s, q72⟩ := hM.z72
  obtain ⟨F, q73⟩ := hM.z73
  obtain ⟨R, q74⟩ := hM.z74
  refine ⟨fun rr uu => (rr = oI (((oAbo x n a g w : Nat) : Int)) ∧ (0 ≤ x ∧ x ≤ 8)) ∧ oRP cT ad uu ⟨n, a, g, sz, w, n7, a7, g7, sz7, w7, n8, a8, g8, sz8, w8, ff, sf, nx, ms, mn, ma, mg, msz, mw, T, z⟩, fun E uu => (E = oIA ∧ ¬ (0 ≤ x ∧ x ≤ 8)) ∧ oRP cT ad uu ⟨n, a, g, sz, w, n7, a7, g7, sz7, w7, n8, a8, g8, sz8, w8, ff, sf, nx, ms, mn, ma, mg, msz, mw, T, z⟩, ⟨_, _, _, _, _, c5_about hA x n a g sz w ld wr gr ff sf hl0 (Nat.le_refl 76) hL.now.1 hL.now.2.1 hbx hP.eO hP.e0 hP.e1 hP.e2 e59 e62 e63, by decide, fun rz u h => ?_, fun E u h => ?_⟩, fun E u h => ?_, fun rz u0 u hOk hu => ?_, fun E u0 u hEx hu => ?_⟩
  · obtain ⟨w2, gr2, h0, h1, c62, c63, hq⟩ := h
    exact ⟨fun q hq9 => hq q (by omega) (by omega), ⟨h0, h1⟩, hP.scr (fun q j4 j5 j6 j59 j60 j61 j62 j63 j64 => hq q j62 j63) (zc (hq 4 (by decide) (by decide)) hP.z4) (zc (hq 5 (by decide) (by decide)) hP.z5) (zc (hq 6 (by decide) (by decide)) hP.z6) (zc (hq 59 (by decide) (by decide)) hP.z59) (zc (hq 60 (by decide) (by decide)) hP.z60) (zc (hq 61 (by decide) (by decide)) hP.z61) ⟨_, c62⟩ ⟨_, c63⟩ (zc (hq 64 (by decide) (by decide)) hP.z64)⟩
  · obtain ⟨h0, h1, hq⟩ := h
    have hq : ∀ q : Nat, u q = σ q := fun q => by rw [hq]
    exact ⟨fun q hq9 => hq q, ⟨h0, h1⟩, hP.congr (fun q _ => hq q)⟩
  · exact Or.inl h.1.1
  · obtain ⟨⟨h0, h1⟩, hP1⟩ := hOk
    refine ⟨_, _, _, c6_about hA x z ms spo ou6 rf n a g f7 sz w s F R (Nat.le_refl 76) hL.now.1 hL.now.2.1 hL.now.2.2 hbx ((hu 65 (by decide) (by decide)).trans e65) ((hu 67 (by decide) (by decide)).trans hM.e67) ((hu 72 (by decide) (by decide)).trans q72) ((hu 73 (by decide) (by decide)).trans q73) ((hu 74 (by decide) (by decide)).trans q74), by decide, fun r6 u2 h => ?_⟩
    obtain ⟨v9, r9, s2, F2, R2, h6, hd, c65, c72, c73, c74, hq⟩ := h
    have hM2 : oRM cT ad u2 z ms ⟨f7, T6, fd, fk, kz⟩ := ⟨⟨_, _, _, c65⟩, ((hq 66 (by decide) (by decide) (by decide) (by decide)).trans ((hu 66 (by decide) (by decide)).trans hM.e66)), ((hq 67 (by decide) (by decide) (by decide) (by decide)).trans ((hu 67 (by decide) (by decide)).trans hM.e67)), (zc ((hq 68 (by decide) (by decide) (by decide) (by decide)).trans (hu 68 (by decide) (by decide))) hM.z68), ((hq 69 (by decide) (by decide) (by decide) (by decide)).trans ((hu 69 (by decide) (by decide)).trans hM.e69)), ((hq 70 (by decide) (by decide) (by decide) (by decide)).trans ((hu 70 (by decide) (by decide)).trans hM.e70)), ((hq 71 (by decide) (by decide) (by decide) (by decide)).trans ((hu 71 (by decide) (by decide)).trans hM.e71)), ⟨_, c72⟩, ⟨_, c73⟩, ⟨_, c74⟩⟩
    have hF : oFin cT ad u0 u2 := oFin.mk hP1 hM2 hL
    refine ⟨fun q hq9 => hq q (by omega) (by omega) (by omega) (by omega), r9, z, ms, ⟨_, _, c65⟩, ?_⟩
    rcases hd with ⟨m0, m1, m2⟩ | ⟨m0, m1⟩
    · exact ⟨by rw [m1]; decide, m1, by rw [h6, h0, m2], hF⟩
    · first | exact absurd h1 m0
  · obtain ⟨hE, hP1⟩ := hEx
    refine ⟨_, _, _, c6_about hA x z ms spo ou6 rf n a g f7 sz w s F R (Nat.le_refl 76) hL.now.1 hL.now.2.1 hL.now.2.2 hbx ((hu 65 (by decide) (by decide)).trans e65) ((hu 67 (by decide) (by decide)).trans hM.e67) ((hu 72 (by decide) (by decide)).trans q72) ((hu 73 (by decide) (by decide)).trans q73) ((hu 74 (by decide) (by decide)).trans q74), by decide, fun r6 u2 h => ?_⟩
    obtain ⟨v9, r9, s2, F2, R2, h6, hd, c65, c72, c73, c74, hq⟩ := h
    have hM2 : oRM cT ad u2 z ms ⟨f7, T6, fd, fk, kz⟩ := ⟨⟨_, _, _, c65⟩, ((hq 66 (by decide) (by decide) (by decide) (by decide)).trans ((hu 66 (by decide) (by decide)).trans hM.e66)), ((hq 67 (by decide) (by decide) (by decide) (by decide)).trans ((hu 67 (by decide) (by decide)).trans hM.e67)), (zc ((hq 68 (by decide) (by decide) (by decide) (by decide)).trans (hu 68 (by decide) (by decide))) hM.z68), ((hq 69 (by decide) (by decide) (by decide) (by decide)).trans ((hu 69 (by decide) (by decide)).trans hM.e69)), ((hq 70 (by decide) (by decide) (by decide) (by decide)).trans ((hu 70 (by decide) (by decide)).trans hM.e70)), ((hq 71 (by decide) (by decide) (by decide) (by decide)).trans ((hu 71 (by decide) (by decide)).trans hM.e71)), ⟨_, c72⟩, ⟨_, c73⟩, ⟨_, c74⟩⟩
    have hF : oFin cT ad u0 u2 := oFin.mk hP1 hM2 hL
    refine ⟨fun q hq9 => hq q (by omega) (by omega) (by omega) (by omega), r9, z, ms, ⟨_, _, c65⟩, ?_⟩
    rcases hE with ⟨p0, p1⟩
    · rcases hd with ⟨m0, m1, m2⟩ | ⟨m0, m1⟩
      · first | exact absurd m0 p1 | exact absurd m2 p1 | exact absurd ⟨m0, m2⟩ p1 | exact absurd ⟨m2, m0⟩ p1
      · first | exact ⟨by rw [m1]; decide, m1.trans (by rw [p0]; first | exact n1_1 | exact n1_2 | exact n1_3 | exact n1_4), hF⟩
set_option maxRecDepth 100000 in
theorem kX_rulerOf {l : Launch} {D : va_G} {cT : Nat → ClassId} {b0 : Nat} {ad : Nat → Nat} (hA : oAd b0 76 ad) (hl0 : l.stackTraces = false) {σ : Nat → va_E} (hR : oRelC cT ad σ) (r : Int) (x : Int) (hbr : -2147483648 ≤ r ∧ r < 2147483648) (hbx : -2147483648 ≤ x ∧ x < 2147483648) :
    oKX l D cT ad b0 σ yX5_rulerOf cX5_rulerOf 3 [.ref (ad (0)), .int (oI (r)), .int (oI (x))] yX6_rulerOf cX6_rulerOf 6 [.ref (ad (65)), .int (oI (r)), .int (oI (x))] oIO oIA := by
  obtain ⟨⟨n, a, g, sz, w, n7, a7, g7, sz7, w7, n8, a8, g8, sz8, w8, ff, sf, nx, ms, mn, ma, mg, msz, mw, T, z⟩, ⟨f7, T6, fd, fk, kz⟩, hP, hM, hL⟩ := hR
  obtain ⟨rf, spo, ou6, e65⟩ := hM.z65
  obtain ⟨s, q72⟩ := hM.z72
  refine ⟨fun rr uu => (rr = oI (((oRul x (oRow n w r) (oSize n sz r) : Nat) : Int)) ∧ ((0 ≤ r ∧ r < (n : Int))) ∧ (0 ≤ x ∧ x ≤ 5)) ∧ oRP cT ad uu ⟨n, a, g, sz, w, n7, a7, g7, sz7, w7, n8, a8, g8, sz8, w8, ff, sf, nx, ms, mn, ma, mg, msz, mw, T, z⟩, fun E uu => (((E = oIO ∧ ¬ (0 ≤ r ∧ r < (n : Int))) ∨ (E = oIA ∧ (0 ≤ r ∧ r < (n : Int)) ∧ ¬ (0 ≤ x ∧ x ≤ 5)))) ∧ oRP cT ad uu ⟨n, a, g, sz, w, n7, a7, g7, sz7, w7, n8, a8, g8, sz8, w8, ff, sf, nx, ms, mn, ma, mg, msz, mw, T, z⟩, ⟨_, _, _, _, _, c5_rulerOf hA r x n a g sz w ff sf hl0 (Nat.le_refl 76) hL.now.1 hbr hbx hP.eO hP.e0 hP.e1 hP.e2, by decide, fun rz u h => ?_, fun E u h => ?_⟩, fun E u h => ?_, fun rz u0 u hOk hu => ?_, fun E u0 u hEx hu => ?_⟩
  · obtain ⟨h0, h1, h2, hq⟩ := h
    have hq : ∀ q : Nat, u q = σ q := fun q => by rw [hq]
    exact ⟨fun q hq9 => hq q, ⟨h0, h1, h2⟩, hP.scr (fun q _ _ _ _ _ _ _ _ _ => hq q) (zc (hq 4) hP.z4) (zc (hq 5) hP.z5) (zc (hq 6) hP.z6) (zc (hq 59) hP.z59) (zc (hq 60) hP.z60) (zc (hq 61) hP.z61) (zc (hq 62) hP.z62) (zc (hq 63) hP.z63) (zc (hq 64) hP.z64)⟩
  · obtain ⟨h0, hq⟩ := h
    have hq : ∀ q : Nat, u q = σ q := fun q => by rw [hq]
    exact ⟨fun q hq9 => hq q, h0, hP.congr (fun q _ => hq q)⟩
  · rcases h.1 with h | h
    · exact Or.inl h.1
    · exact Or.inr h.1
  · obtain ⟨⟨h0, h1, h2⟩, hP1⟩ := hOk
    refine ⟨_, _, _, c6_rulerOf hA r x z ms spo ou6 rf n a g f7 sz w s (Nat.le_refl 76) hL.now.1 hL.now.2.1 hL.now.2.2 hbr hbx ((hu 65 (by decide) (by decide)).trans e65) ((hu 67 (by decide) (by decide)).trans hM.e67) ((hu 72 (by decide) (by decide)).trans q72), by decide, fun r6 u2 h => ?_⟩
    obtain ⟨v9, r9, s2, h6, hd, c65, c72, hq⟩ := h
    have hM2 : oRM cT ad u2 z ms ⟨f7, T6, fd, fk, kz⟩ := ⟨⟨_, _, _, c65⟩, ((hq 66 (by decide) (by decide)).trans ((hu 66 (by decide) (by decide)).trans hM.e66)), ((hq 67 (by decide) (by decide)).trans ((hu 67 (by decide) (by decide)).trans hM.e67)), (zc ((hq 68 (by decide) (by decide)).trans (hu 68 (by decide) (by decide))) hM.z68), ((hq 69 (by decide) (by decide)).trans ((hu 69 (by decide) (by decide)).trans hM.e69)), ((hq 70 (by decide) (by decide)).trans ((hu 70 (by decide) (by decide)).trans hM.e70)), ((hq 71 (by decide) (by decide)).trans ((hu 71 (by decide) (by decide)).trans hM.e71)), ⟨_, c72⟩, (zc ((hq 73 (by decide) (by decide)).trans (hu 73 (by decide) (by decide))) hM.z73), (zc ((hq 74 (by decide) (by decide)).trans (hu 74 (by decide) (by decide))) hM.z74)⟩
    have hF : oFin cT ad u0 u2 := oFin.mk hP1 hM2 hL
    refine ⟨fun q hq9 => hq q (by omega) (by omega), r9, z, ms, ⟨_, _, c65⟩, ?_⟩
    rcases hd with ⟨m0, m1, m2, m3⟩ | ⟨m0, m1⟩ | ⟨m0, m1, m2⟩
    · exact ⟨by rw [m2]; decide, m2, by rw [h6, h0, m3], hF⟩
    · first | exact absurd h1 m1 | exact absurd h2 m1 | exact absurd ⟨h1, h2⟩ m1 | exact absurd ⟨h2, h1⟩ m1
    · first | exact absurd h1 m2 | exact absurd h2 m2 | exact absurd ⟨h1, h2⟩ m2 | exact absurd ⟨h2, h1⟩ m2
  · obtain ⟨hE, hP1⟩ := hEx
    refine ⟨_, _, _, c6_rulerOf hA r x z ms spo ou6 rf n a g f7 sz w s (Nat.le_refl 76) hL.now.1 hL.now.2.1 hL.now.2.2 hbr hbx ((hu 65 (by decide) (by decide)).trans e65) ((hu 67 (by decide) (by decide)).trans hM.e67) ((hu 72 (by decide) (by decide)).trans q72), by decide, fun r6 u2 h => ?_⟩
    obtain ⟨v9, r9, s2, h6, hd, c65, c72, hq⟩ := h
    have hM2 : oRM cT ad u2 z ms ⟨f7, T6, fd, fk, kz⟩ := ⟨⟨_, _, _, c65⟩, ((hq 66 (by decide) (by decide)).trans ((hu 66 (by decide) (by decide)).trans hM.e66)), ((hq 67 (by decide) (by decide)).trans ((hu 67 (by decide) (by decide)).trans hM.e67)), (zc ((hq 68 (by decide) (by decide)).trans (hu 68 (by decide) (by decide))) hM.z68), ((hq 69 (by decide) (by decide)).trans ((hu 69 (by decide) (by decide)).trans hM.e69)), ((hq 70 (by decide) (by decide)).trans ((hu 70 (by decide) (by decide)).trans hM.e70)), ((hq 71 (by decide) (by decide)).trans ((hu 71 (by decide) (by decide)).trans hM.e71)), ⟨_, c72⟩, (zc ((hq 73 (by decide) (by decide)).trans (hu 73 (by decide) (by decide))) hM.z73), (zc ((hq 74 (by decide) (by decide)).trans (hu 74 (by decide) (by decide))) hM.z74)⟩
    have hF : oFin cT ad u0 u2 := oFin.mk hP1 hM2 hL
    refine ⟨fun q hq9 => hq q (by omega) (by omega), r9, z, ms, ⟨_, _, c65⟩, ?_⟩
    rcases hE with ⟨p0, p1⟩ | ⟨p0, p1, p2⟩
    · rcases hd with ⟨m0, m1, m2, m3⟩ | ⟨m0, m1⟩ | ⟨m0, m1, m2⟩
      · first | exact absurd m0 p1 | exact absurd m1 p1 | exact absurd m3 p1 | exact absurd ⟨m0, m1⟩ p1 | exact absurd ⟨m0, m3⟩ p1 | exact absurd ⟨m1, m0⟩ p1 | exact absurd ⟨m1, m3⟩ p1 | exact absurd ⟨m3, m0⟩ p1 | exact absurd ⟨m3, m1⟩ p1
      · first | exact ⟨by rw [m0]; decide, m0.trans (by rw [p0]; first | exact n1_1 | exact n1_2 | exact n1_3 | exact n1_4), hF⟩
      · first | exact ⟨by rw [m0]; decide, m0.trans (by rw [p0]; first | exact n1_1 | exact n1_2 | exact n1_3 | exact n1_4), hF⟩ | exact absurd m1 p1
    · rcases hd with ⟨m0, m1, m2, m3⟩ | ⟨m0, m1⟩ | ⟨m0, m1, m2⟩
      · first | exact absurd m0 p2 | exact absurd m1 p2 | exact absurd m3 p2 | exact absurd ⟨m0, m1⟩ p2 | exact absurd ⟨m0, m3⟩ p2 | exact absurd ⟨m1, m0⟩ p2 | exact absurd ⟨m1, m3⟩ p2 | exact absurd ⟨m3, m0⟩ p2 | exact absurd ⟨m3, m1⟩ p2
      · first | exact ⟨by rw [m0]; decide, m0.trans (by rw [p0]; first | exact n1_1 | exact n1_2 | exact n1_3 | exact n1_4), hF⟩ | exact absurd p1 m1
      · first | exact ⟨by rw [m0]; decide, m0.trans (by rw [p0]; first | exact n1_1 | exact n1_2 | exact n1_3 | exact n1_4), hF⟩ | exact absurd m1 p2 | exact absurd p1 m2
set_option maxRecDepth 100000 in
theorem kX_isMarked {l : Launch} {D : va_G} {cT : Nat → ClassId} {b0 : Nat} {ad : Nat → Nat} (hA : oAd b0 76 ad) (hl0 : l.stackTraces = false) {σ : Nat → va_E} (hR : oRelC cT ad σ) (r : Int) (p : Int) (hbr : -2147483648 ≤ r ∧ r < 2147483648) (hbp : -2147483648 ≤ p ∧ p < 2147483648) :
    oKX l D cT ad b0 σ yX5_isMarked cX5_isMarked 3 [.ref (ad (0)), .int (oI (r)), .int (oI (p))] yX6_isMarked cX6_isMarked 3 [.ref (ad (65)), .int (oI (r)), .int (oI (p))] oIO oIO := by
  obtain ⟨⟨n, a, g, sz, w, n7, a7, g7, sz7, w7, n8, a8, g8, sz8, w8, ff, sf, nx, ms, mn, ma, mg, msz, mw, T, z⟩, ⟨f7, T6, fd, fk, kz⟩, hP, hM, hL⟩ := hR
  obtain ⟨rf, spo, ou6, e65⟩ := hM.z65
  refine ⟨fun rr uu => (rr = oI (((bz (oRow n w r) p.toNat : Nat) : Int)) ∧ (((0 ≤ r ∧ r < (n : Int)) ∧ 0 ≤ p ∧ p ≤ (oSize n sz r : Int)))) ∧ oRP cT ad uu ⟨n, a, g, sz, w, n7, a7, g7, sz7, w7, n8, a8, g8, sz8, w8, ff, sf, nx, ms, mn, ma, mg, msz, mw, T, z⟩, fun E uu => (E = oIO ∧ ¬ ((0 ≤ r ∧ r < (n : Int)) ∧ 0 ≤ p ∧ p ≤ (oSize n sz r : Int))) ∧ oRP cT ad uu ⟨n, a, g, sz, w, n7, a7, g7, sz7, w7, n8, a8, g8, sz8, w8, ff, sf, nx, ms, mn, ma, mg, msz, mw, T, z⟩, ⟨_, _, _, _, _, c5_isMarked hA r p n a g sz w ff sf hl0 (Nat.le_refl 76) hL.now.1 hbr hbp hP.eO hP.e0 hP.e1 hP.e2, by decide, fun rz u h => ?_, fun E u h => ?_⟩, fun E u h => ?_, fun rz u0 u hOk hu => ?_, fun E u0 u hEx hu => ?_⟩
  · obtain ⟨h0, h1, hq⟩ := h
    have hq : ∀ q : Nat, u q = σ q := fun q => by rw [hq]
    exact ⟨fun q hq9 => hq q, ⟨h0, h1⟩, hP.scr (fun q _ _ _ _ _ _ _ _ _ => hq q) (zc (hq 4) hP.z4) (zc (hq 5) hP.z5) (zc (hq 6) hP.z6) (zc (hq 59) hP.z59) (zc (hq 60) hP.z60) (zc (hq 61) hP.z61) (zc (hq 62) hP.z62) (zc (hq 63) hP.z63) (zc (hq 64) hP.z64)⟩
  · obtain ⟨h0, h1, hq⟩ := h
    have hq : ∀ q : Nat, u q = σ q := fun q => by rw [hq]
    exact ⟨fun q hq9 => hq q, ⟨h0, h1⟩, hP.congr (fun q _ => hq q)⟩
  · exact Or.inl h.1.1
  · obtain ⟨⟨h0, h1⟩, hP1⟩ := hOk
    refine ⟨_, _, _, c6_isMarked hA r p z ms spo ou6 rf n a g f7 sz w (Nat.le_refl 76) hL.now.1 hL.now.2.1 hL.now.2.2 hbr hbp ((hu 65 (by decide) (by decide)).trans e65) ((hu 67 (by decide) (by decide)).trans hM.e67), by decide, fun r6 u2 h => ?_⟩
    obtain ⟨v9, r9, h6, hd, c65, hq⟩ := h
    have hM2 : oRM cT ad u2 z ms ⟨f7, T6, fd, fk, kz⟩ := ⟨⟨_, _, _, c65⟩, ((hq 66 (by decide)).trans ((hu 66 (by decide) (by decide)).trans hM.e66)), ((hq 67 (by decide)).trans ((hu 67 (by decide) (by decide)).trans hM.e67)), (zc ((hq 68 (by decide)).trans (hu 68 (by decide) (by decide))) hM.z68), ((hq 69 (by decide)).trans ((hu 69 (by decide) (by decide)).trans hM.e69)), ((hq 70 (by decide)).trans ((hu 70 (by decide) (by decide)).trans hM.e70)), ((hq 71 (by decide)).trans ((hu 71 (by decide) (by decide)).trans hM.e71)), (zc ((hq 72 (by decide)).trans (hu 72 (by decide) (by decide))) hM.z72), (zc ((hq 73 (by decide)).trans (hu 73 (by decide) (by decide))) hM.z73), (zc ((hq 74 (by decide)).trans (hu 74 (by decide) (by decide))) hM.z74)⟩
    have hF : oFin cT ad u0 u2 := oFin.mk hP1 hM2 hL
    refine ⟨fun q hq9 => hq q (by omega), r9, z, ms, ⟨_, _, c65⟩, ?_⟩
    rcases hd with ⟨m0, m1, m2⟩ | ⟨m0, m1⟩
    · exact ⟨by rw [m1]; decide, m1, by rw [h6, h0, m2], hF⟩
    · first | exact absurd h1 m0
  · obtain ⟨hE, hP1⟩ := hEx
    refine ⟨_, _, _, c6_isMarked hA r p z ms spo ou6 rf n a g f7 sz w (Nat.le_refl 76) hL.now.1 hL.now.2.1 hL.now.2.2 hbr hbp ((hu 65 (by decide) (by decide)).trans e65) ((hu 67 (by decide) (by decide)).trans hM.e67), by decide, fun r6 u2 h => ?_⟩
    obtain ⟨v9, r9, h6, hd, c65, hq⟩ := h
    have hM2 : oRM cT ad u2 z ms ⟨f7, T6, fd, fk, kz⟩ := ⟨⟨_, _, _, c65⟩, ((hq 66 (by decide)).trans ((hu 66 (by decide) (by decide)).trans hM.e66)), ((hq 67 (by decide)).trans ((hu 67 (by decide) (by decide)).trans hM.e67)), (zc ((hq 68 (by decide)).trans (hu 68 (by decide) (by decide))) hM.z68), ((hq 69 (by decide)).trans ((hu 69 (by decide) (by decide)).trans hM.e69)), ((hq 70 (by decide)).trans ((hu 70 (by decide) (by decide)).trans hM.e70)), ((hq 71 (by decide)).trans ((hu 71 (by decide) (by decide)).trans hM.e71)), (zc ((hq 72 (by decide)).trans (hu 72 (by decide) (by decide))) hM.z72), (zc ((hq 73 (by decide)).trans (hu 73 (by decide) (by decide))) hM.z73), (zc ((hq 74 (by decide)).trans (hu 74 (by decide) (by decide))) hM.z74)⟩
    have hF : oFin cT ad u0 u2 := oFin.mk hP1 hM2 hL
    refine ⟨fun q hq9 => hq q (by omega), r9, z, ms, ⟨_, _, c65⟩, ?_⟩
    rcases hE with ⟨p0, p1⟩
    · rcases hd with ⟨m0, m1, m2⟩ | ⟨m0, m1⟩
      · first | exact absurd m0 p1 | exact absurd m2 p1 | exact absurd ⟨m0, m2⟩ p1 | exact absurd ⟨m2, m0⟩ p1
      · first | exact ⟨by rw [m1]; decide, m1.trans (by rw [p0]; first | exact n1_1 | exact n1_2 | exact n1_3 | exact n1_4), hF⟩
set_option maxRecDepth 100000 in
theorem kX_span {l : Launch} {D : va_G} {cT : Nat → ClassId} {b0 : Nat} {ad : Nat → Nat} (hA : oAd b0 76 ad) (hl0 : l.stackTraces = false) {σ : Nat → va_E} (hR : oRelC cT ad σ) (r : Int) (k : Int) (x : Int) (hbr : -2147483648 ≤ r ∧ r < 2147483648) (hbk : -2147483648 ≤ k ∧ k < 2147483648) (hbx : -2147483648 ≤ x ∧ x < 2147483648) :
    oKX l D cT ad b0 σ yX5_span cX5_span 6 [.ref (ad (0)), .int (oI (r)), .int (oI (k)), .int (oI (x))] yX6_span cX6_span 7 [.ref (ad (65)), .int (oI (r)), .int (oI (k)), .int (oI (x))] oIO oIA := by
  obtain ⟨⟨n, a, g, sz, w, n7, a7, g7, sz7, w7, n8, a8, g8, sz8, w8, ff, sf, nx, ms, mn, ma, mg, msz, mw, T, z⟩, ⟨f7, T6, fd, fk, kz⟩, hP, hM, hL⟩ := hR
  obtain ⟨rf, spo, ou6, e65⟩ := hM.z65
  obtain ⟨s, q72⟩ := hM.z72
  refine ⟨fun rr uu => (rr = oI ((oSpa x n w (oRow n w r) k.toNat)) ∧ (((0 ≤ r ∧ r < (n : Int)) ∧ 0 ≤ k ∧ k < (oSp (pcnt (oRow n w r)) : Int))) ∧ (0 ≤ x ∧ x ≤ 3)) ∧ oRP cT ad uu ⟨n, a, g, sz, w, n7, a7, g7, sz7, w7, n8, a8, g8, sz8, w8, ff, sf, nx, ms, mn, ma, mg, msz, mw, T, z⟩, fun E uu => (((E = oIO ∧ ¬ ((0 ≤ r ∧ r < (n : Int)) ∧ 0 ≤ k ∧ k < (oSp (pcnt (oRow n w r)) : Int))) ∨ (E = oIA ∧ ((0 ≤ r ∧ r < (n : Int)) ∧ 0 ≤ k ∧ k < (oSp (pcnt (oRow n w r)) : Int)) ∧ ¬ (0 ≤ x ∧ x ≤ 3)))) ∧ oRP cT ad uu ⟨n, a, g, sz, w, n7, a7, g7, sz7, w7, n8, a8, g8, sz8, w8, ff, sf, nx, ms, mn, ma, mg, msz, mw, T, z⟩, ⟨_, _, _, _, _, c5_span hA r k x n a g sz w ff sf hl0 (Nat.le_refl 76) hL.now.1 hbr hbk hbx hP.eO hP.e0 hP.e1 hP.e2, by decide, fun rz u h => ?_, fun E u h => ?_⟩, fun E u h => ?_, fun rz u0 u hOk hu => ?_, fun E u0 u hEx hu => ?_⟩
  · obtain ⟨h0, h1, h2, hq⟩ := h
    have hq : ∀ q : Nat, u q = σ q := fun q => by rw [hq]
    exact ⟨fun q hq9 => hq q, ⟨h0, h1, h2⟩, hP.scr (fun q _ _ _ _ _ _ _ _ _ => hq q) (zc (hq 4) hP.z4) (zc (hq 5) hP.z5) (zc (hq 6) hP.z6) (zc (hq 59) hP.z59) (zc (hq 60) hP.z60) (zc (hq 61) hP.z61) (zc (hq 62) hP.z62) (zc (hq 63) hP.z63) (zc (hq 64) hP.z64)⟩
  · obtain ⟨h0, hq⟩ := h
    have hq : ∀ q : Nat, u q = σ q := fun q => by rw [hq]
    exact ⟨fun q hq9 => hq q, h0, hP.congr (fun q _ => hq q)⟩
  · rcases h.1 with h | h
    · exact Or.inl h.1
    · exact Or.inr h.1
  · obtain ⟨⟨h0, h1, h2⟩, hP1⟩ := hOk
    refine ⟨_, _, _, c6_span hA r k x z ms spo ou6 rf n a g f7 sz w s (Nat.le_refl 76) hL.now.1 hL.now.2.1 hL.now.2.2 hbr hbk hbx ((hu 65 (by decide) (by decide)).trans e65) ((hu 67 (by decide) (by decide)).trans hM.e67) ((hu 72 (by decide) (by decide)).trans q72), by decide, fun r6 u2 h => ?_⟩
    obtain ⟨v9, r9, s2, h6, hd, c65, c72, hq⟩ := h
    have hM2 : oRM cT ad u2 z ms ⟨f7, T6, fd, fk, kz⟩ := ⟨⟨_, _, _, c65⟩, ((hq 66 (by decide) (by decide)).trans ((hu 66 (by decide) (by decide)).trans hM.e66)), ((hq 67 (by decide) (by decide)).trans ((hu 67 (by decide) (by decide)).trans hM.e67)), (zc ((hq 68 (by decide) (by decide)).trans (hu 68 (by decide) (by decide))) hM.z68), ((hq 69 (by decide) (by decide)).trans ((hu 69 (by decide) (by decide)).trans hM.e69)), ((hq 70 (by decide) (by decide)).trans ((hu 70 (by decide) (by decide)).trans hM.e70)), ((hq 71 (by decide) (by decide)).trans ((hu 71 (by decide) (by decide)).trans hM.e71)), ⟨_, c72⟩, (zc ((hq 73 (by decide) (by decide)).trans (hu 73 (by decide) (by decide))) hM.z73), (zc ((hq 74 (by decide) (by decide)).trans (hu 74 (by decide) (by decide))) hM.z74)⟩
    have hF : oFin cT ad u0 u2 := oFin.mk hP1 hM2 hL
    refine ⟨fun q hq9 => hq q (by omega) (by omega), r9, z, ms, ⟨_, _, c65⟩, ?_⟩
    rcases hd with ⟨m0, m1, m2, m3⟩ | ⟨m0, m1⟩ | ⟨m0, m1, m2⟩
    · exact ⟨by rw [m2]; decide, m2, by rw [h6, h0, m3], hF⟩
    · first | exact absurd h1 m1 | exact absurd h2 m1 | exact absurd ⟨h1, h2⟩ m1 | exact absurd ⟨h2, h1⟩ m1
    · first | exact absurd h1 m2 | exact absurd h2 m2 | exact absurd ⟨h1, h2⟩ m2 | exact absurd ⟨h2, h1⟩ m2
  · obtain ⟨hE, hP1⟩ := hEx
    refine ⟨_, _, _, c6_span hA r k x z ms spo ou6 rf n a g f7 sz w s (Nat.le_refl 76) hL.now.1 hL.now.2.1 hL.now.2.2 hbr hbk hbx ((hu 65 (by decide) (by decide)).trans e65) ((hu 67 (by decide) (by decide)).trans hM.e67) ((hu 72 (by decide) (by decide)).trans q72), by decide, fun r6 u2 h => ?_⟩
    obtain ⟨v9, r9, s2, h6, hd, c65, c72, hq⟩ := h
    have hM2 : oRM cT ad u2 z ms ⟨f7, T6, fd, fk, kz⟩ := ⟨⟨_, _, _, c65⟩, ((hq 66 (by decide) (by decide)).trans ((hu 66 (by decide) (by decide)).trans hM.e66)), ((hq 67 (by decide) (by decide)).trans ((hu 67 (by decide) (by decide)).trans hM.e67)), (zc ((hq 68 (by decide) (by decide)).trans (hu 68 (by decide) (by decide))) hM.z68), ((hq 69 (by decide) (by decide)).trans ((hu 69 (by decide) (by decide)).trans hM.e69)), ((hq 70 (by decide) (by decide)).trans ((hu 70 (by decide) (by decide)).trans hM.e70)), ((hq 71 (by decide) (by decide)).trans ((hu 71 (by decide) (by decide)).trans hM.e71)), ⟨_, c72⟩, (zc ((hq 73 (by decide) (by decide)).trans (hu 73 (by decide) (by decide))) hM.z73), (zc ((hq 74 (by decide) (by decide)).trans (hu 74 (by decide) (by decide))) hM.z74)⟩
    have hF : oFin cT ad u0 u2 := oFin.mk hP1 hM2 hL
    refine ⟨fun q hq9 => hq q (by omega) (by omega), r9, z, ms, ⟨_, _, c65⟩, ?_⟩
    rcases hE with ⟨p0, p1⟩ | ⟨p0, p1, p2⟩
    · rcases hd with ⟨m0, m1, m2, m3⟩ | ⟨m0, m1⟩ | ⟨m0, m1, m2⟩
      · first | exact absurd m0 p1 | exact absurd m1 p1 | exact absurd m3 p1 | exact absurd ⟨m0, m1⟩ p1 | exact absurd ⟨m0, m3⟩ p1 | exact absurd ⟨m1, m0⟩ p1 | exact absurd ⟨m1, m3⟩ p1 | exact absurd ⟨m3, m0⟩ p1 | exact absurd ⟨m3, m1⟩ p1
      · first | exact ⟨by rw [m0]; decide, m0.trans (by rw [p0]; first | exact n1_1 | exact n1_2 | exact n1_3 | exact n1_4), hF⟩
      · first | exact ⟨by rw [m0]; decide, m0.trans (by rw [p0]; first | exact n1_1 | exact n1_2 | exact n1_3 | exact n1_4), hF⟩ | exact absurd m1 p1
    · rcases hd with ⟨m0, m1, m2, m3⟩ | ⟨m0, m1⟩ | ⟨m0, m1, m2⟩
      · first | exact absurd m0 p2 | exact absurd m1 p2 | exact absurd m3 p2 | exact absurd ⟨m0, m1⟩ p2 | exact absurd ⟨m0, m3⟩ p2 | exact absurd ⟨m1, m0⟩ p2 | exact absurd ⟨m1, m3⟩ p2 | exact absurd ⟨m3, m0⟩ p2 | exact absurd ⟨m3, m1⟩ p2
      · first | exact ⟨by rw [m0]; decide, m0.trans (by rw [p0]; first | exact n1_1 | exact n1_2 | exact n1_3 | exact n1_4), hF⟩ | exact absurd p1 m1
      · first | exact ⟨by rw [m0]; decide, m0.trans (by rw [p0]; first | exact n1_1 | exact n1_2 | exact n1_3 | exact n1_4), hF⟩ | exact absurd m1 p2 | exact absurd p1 m2
set_option maxRecDepth 100000 in
theorem kX_gap {l : Launch} {D : va_G} {cT : Nat → ClassId} {b0 : Nat} {ad : Nat → Nat} (hA : oAd b0 76 ad) (hl0 : l.stackTraces = false) {σ : Nat → va_E} (hR : oRelC cT ad σ) (k : Int) (x : Int) (hbk : -2147483648 ≤ k ∧ k < 2147483648) (hbx : -2147483648 ≤ x ∧ x < 2147483648) :
    oKX l D cT ad b0 σ yX5_gap cX5_gap 4 [.ref (ad (0)), .int (oI (k)), .int (oI (x))] yX6_gap cX6_gap 5 [.ref (ad (65)), .int (oI (k)), .int (oI (x))] oIO oIA := by
  obtain ⟨⟨n, a, g, sz, w, n7, a7, g7, sz7, w7, n8, a8, g8, sz8, w8, ff, sf, nx, ms, mn, ma, mg, msz, mw, T, z⟩, ⟨f7, T6, fd, fk, kz⟩, hP, hM, hL⟩ := hR
  obtain ⟨ld, e59⟩ := hP.z59
  obtain ⟨wr, e62⟩ := hP.z62
  obtain ⟨gr, e63⟩ := hP.z63
  obtain ⟨rf, spo, ou6, e65⟩ := hM.z65
  obtain ⟨s, q72⟩ := hM.z72
  obtain ⟨F, q73⟩ := hM.z73
  obtain ⟨R, q74⟩ := hM.z74
  refine ⟨fun rr uu => (rr = oI ((oGpa x (oOrW n w (-1) 4) a g k.toNat)) ∧ ((0 ≤ k ∧ k < (oGaps (oOrW n w (-1) 4) a g : Int))) ∧ (x = 0 ∨ x = 1)) ∧ oRP cT ad uu ⟨n, a, g, sz, w, n7, a7, g7, sz7, w7, n8, a8, g8, sz8, w8, ff, sf, nx, ms, mn, ma, mg, msz, mw, T, z⟩, fun E uu => (((E = oIO ∧ ¬ (0 ≤ k ∧ k < (oGaps (oOrW n w (-1) 4) a g : Int))) ∨ (E = oIA ∧ (0 ≤ k ∧ k < (oGaps (oOrW n w (-1) 4) a g : Int)) ∧ ¬ (x = 0 ∨ x = 1)))) ∧ oRP cT ad uu ⟨n, a, g, sz, w, n7, a7, g7, sz7, w7, n8, a8, g8, sz8, w8, ff, sf, nx, ms, mn, ma, mg, msz, mw, T, z⟩, ⟨_, _, _, _, _, c5_gap hA k x n a g sz w ld wr gr ff sf hl0 (Nat.le_refl 76) hL.now.1 hL.now.2.1 hbk hbx hP.eO hP.e0 hP.e1 hP.e2 e59 e62 e63, by decide, fun rz u h => ?_, fun E u h => ?_⟩, fun E u h => ?_, fun rz u0 u hOk hu => ?_, fun E u0 u hEx hu => ?_⟩
  · obtain ⟨w2, gr2, h0, h1, h2, c62, c63, hq⟩ := h
    exact ⟨fun q hq9 => hq q (by omega) (by omega), ⟨h0, h1, h2⟩, hP.scr (fun q j4 j5 j6 j59 j60 j61 j62 j63 j64 => hq q j62 j63) (zc (hq 4 (by decide) (by decide)) hP.z4) (zc (hq 5 (by decide) (by decide)) hP.z5) (zc (hq 6 (by decide) (by decide)) hP.z6) (zc (hq 59 (by decide) (by decide)) hP.z59) (zc (hq 60 (by decide) (by decide)) hP.z60) (zc (hq 61 (by decide) (by decide)) hP.z61) ⟨_, c62⟩ ⟨_, c63⟩ (zc (hq 64 (by decide) (by decide)) hP.z64)⟩
  · obtain ⟨h0, w2, gr2, c62, c63, hq⟩ := h
    exact ⟨fun q hq9 => hq q (by omega) (by omega), h0, hP.scr (fun q j4 j5 j6 j59 j60 j61 j62 j63 j64 => hq q j62 j63) (zc (hq 4 (by decide) (by decide)) hP.z4) (zc (hq 5 (by decide) (by decide)) hP.z5) (zc (hq 6 (by decide) (by decide)) hP.z6) (zc (hq 59 (by decide) (by decide)) hP.z59) (zc (hq 60 (by decide) (by decide)) hP.z60) (zc (hq 61 (by decide) (by decide)) hP.z61) ⟨_, c62⟩ ⟨_, c63⟩ (zc (hq 64 (by decide) (by decide)) hP.z64)⟩
  · rcases h.1 with h | h
    · exact Or.inl h.1
    · exact Or.inr h.1
  · obtain ⟨⟨h0, h1, h2⟩, hP1⟩ := hOk
    refine ⟨_, _, _, c6_gap hA k x z ms spo ou6 rf n a g f7 sz w s F R (Nat.le_refl 76) hL.now.1 hL.now.2.1 hL.now.2.2 hbk hbx ((hu 65 (by decide) (by decide)).trans e65) ((hu 67 (by decide) (by decide)).trans hM.e67) ((hu 72 (by decide) (by decide)).trans q72) ((hu 73 (by decide) (by decide)).trans q73) ((hu 74 (by decide) (by decide)).trans q74), by decide, fun r6 u2 h => ?_⟩
    obtain ⟨v9, r9, s2, F2, R2, h6, hd, c65, c72, c73, c74, hq⟩ := h
    have hM2 : oRM cT ad u2 z ms ⟨f7, T6, fd, fk, kz⟩ := ⟨⟨_, _, _, c65⟩, ((hq 66 (by decide) (by decide) (by decide) (by decide)).trans ((hu 66 (by decide) (by decide)).trans hM.e66)), ((hq 67 (by decide) (by decide) (by decide) (by decide)).trans ((hu 67 (by decide) (by decide)).trans hM.e67)), (zc ((hq 68 (by decide) (by decide) (by decide) (by decide)).trans (hu 68 (by decide) (by decide))) hM.z68), ((hq 69 (by decide) (by decide) (by decide) (by decide)).trans ((hu 69 (by decide) (by decide)).trans hM.e69)), ((hq 70 (by decide) (by decide) (by decide) (by decide)).trans ((hu 70 (by decide) (by decide)).trans hM.e70)), ((hq 71 (by decide) (by decide) (by decide) (by decide)).trans ((hu 71 (by decide) (by decide)).trans hM.e71)), ⟨_, c72⟩, ⟨_, c73⟩, ⟨_, c74⟩⟩
    have hF : oFin cT ad u0 u2 := oFin.mk hP1 hM2 hL
    refine ⟨fun q hq9 => hq q (by omega) (by omega) (by omega) (by omega), r9, z, ms, ⟨_, _, c65⟩, ?_⟩
    rcases hd with ⟨m0, m1, m2, m3⟩ | ⟨m0, m1⟩ | ⟨m0, m1, m2⟩
    · exact ⟨by rw [m2]; decide, m2, by rw [h6, h0, m3], hF⟩
    · first | exact absurd h1 m1 | exact absurd h2 m1 | exact absurd ⟨h1, h2⟩ m1 | exact absurd ⟨h2, h1⟩ m1
    · first | exact absurd h1 m2 | exact absurd h2 m2 | exact absurd ⟨h1, h2⟩ m2 | exact absurd ⟨h2, h1⟩ m2
  · obtain ⟨hE, hP1⟩ := hEx
    refine ⟨_, _, _, c6_gap hA k x z ms spo ou6 rf n a g f7 sz w s F R (Nat.le_refl 76) hL.now.1 hL.now.2.1 hL.now.2.2 hbk hbx ((hu 65 (by decide) (by decide)).trans e65) ((hu 67 (by decide) (by decide)).trans hM.e67) ((hu 72 (by decide) (by decide)).trans q72) ((hu 73 (by decide) (by decide)).trans q73) ((hu 74 (by decide) (by decide)).trans q74), by decide, fun r6 u2 h => ?_⟩
    obtain ⟨v9, r9, s2, F2, R2, h6, hd, c65, c72, c73, c74, hq⟩ := h
    have hM2 : oRM cT ad u2 z ms ⟨f7, T6, fd, fk, kz⟩ := ⟨⟨_, _, _, c65⟩, ((hq 66 (by decide) (by decide) (by decide) (by decide)).trans ((hu 66 (by decide) (by decide)).trans hM.e66)), ((hq 67 (by decide) (by decide) (by decide) (by decide)).trans ((hu 67 (by decide) (by decide)).trans hM.e67)), (zc ((hq 68 (by decide) (by decide) (by decide) (by decide)).trans (hu 68 (by decide) (by decide))) hM.z68), ((hq 69 (by decide) (by decide) (by decide) (by decide)).trans ((hu 69 (by decide) (by decide)).trans hM.e69)), ((hq 70 (by decide) (by decide) (by decide) (by decide)).trans ((hu 70 (by decide) (by decide)).trans hM.e70)), ((hq 71 (by decide) (by decide) (by decide) (by decide)).trans ((hu 71 (by decide) (by decide)).trans hM.e71)), ⟨_, c72⟩, ⟨_, c73⟩, ⟨_, c74⟩⟩
    have hF : oFin cT ad u0 u2 := oFin.mk hP1 hM2 hL
    refine ⟨fun q hq9 => hq q (by omega) (by omega) (by omega) (by omega), r9, z, ms, ⟨_, _, c65⟩, ?_⟩
    rcases hE with ⟨p0, p1⟩ | ⟨p0, p1, p2⟩
    · rcases hd with ⟨m0, m1, m2, m3⟩ | ⟨m0, m1⟩ | ⟨m0, m1, m2⟩
      · first | exact absurd m0 p1 | exact absurd m1 p1 | exact absurd m3 p1 | exact absurd ⟨m0, m1⟩ p1 | exact absurd ⟨m0, m3⟩ p1 | exact absurd ⟨m1, m0⟩ p1 | exact absurd ⟨m1, m3⟩ p1 | exact absurd ⟨m3, m0⟩ p1 | exact absurd ⟨m3, m1⟩ p1
      · first | exact ⟨by rw [m0]; decide, m0.trans (by rw [p0]; first | exact n1_1 | exact n1_2 | exact n1_3 | exact n1_4), hF⟩
      · first | exact ⟨by rw [m0]; decide, m0.trans (by rw [p0]; first | exact n1_1 | exact n1_2 | exact n1_3 | exact n1_4), hF⟩ | exact absurd m1 p1
    · rcases hd with ⟨m0, m1, m2, m3⟩ | ⟨m0, m1⟩ | ⟨m0, m1, m2⟩
      · first | exact absurd m0 p2 | exact absurd m1 p2 | exact absurd m3 p2 | exact absurd ⟨m0, m1⟩ p2 | exact absurd ⟨m0, m3⟩ p2 | exact absurd ⟨m1, m0⟩ p2 | exact absurd ⟨m1, m3⟩ p2 | exact absurd ⟨m3, m0⟩ p2 | exact absurd ⟨m3, m1⟩ p2
      · first | exact ⟨by rw [m0]; decide, m0.trans (by rw [p0]; first | exact n1_1 | exact n1_2 | exact n1_3 | exact n1_4), hF⟩ | exact absurd p1 m1
      · first | exact ⟨by rw [m0]; decide, m0.trans (by rw [p0]; first | exact n1_1 | exact n1_2 | exact n1_3 | exact n1_4), hF⟩ | exact absurd m1 p2 | exact absurd p1 m2
set_option maxRecDepth 100000 in
theorem kX_fewest {l : Launch} {D : va_G} {cT : Nat → ClassId} {b0 : Nat} {ad : Nat → Nat} (hA : oAd b0 76 ad) (hl0 : l.stackTraces = false) {σ : Nat → va_E} (hR : oRelC cT ad σ) (t : Int) (x : Int) (hbt : -2147483648 ≤ t ∧ t < 2147483648) (hbx : -2147483648 ≤ x ∧ x < 2147483648) :
    oKX l D cT ad b0 σ yX5_fewest cX5_fewest 5 [.ref (ad (0)), .int (oI (t)), .int (oI (x))] yX6_fewest cX6_fewest 3 [.ref (ad (65)), .int (oI (t)), .int (oI (x))] oIA oIA := by
  obtain ⟨⟨n, a, g, sz, w, n7, a7, g7, sz7, w7, n8, a8, g8, sz8, w8, ff, sf, nx, ms, mn, ma, mg, msz, mw, T, z⟩, ⟨f7, T6, fd, fk, kz⟩, hP, hM, hL⟩ := hR
  obtain ⟨ld, e59⟩ := hP.z59
  obtain ⟨wr, e62⟩ := hP.z62
  obtain ⟨gr, e63⟩ := hP.z63
  obtain ⟨S, e60⟩ := hP.z60
  obtain ⟨Ln, e61⟩ := hP.z61
  obtain ⟨rf, spo, ou6, e65⟩ := hM.z65
  obtain ⟨s, q72⟩ := hM.z72
  obtain ⟨F, q73⟩ := hM.z73
  obtain ⟨R, q74⟩ := hM.z74
  refine ⟨fun rr uu => (rr = oI ((oDist (oOrW n w (-1) 4) 0 t.toNat)) ∧ (0 ≤ t ∧ t ≤ 200) ∧ (x = 0 ∨ x = 1)) ∧ oRP cT ad uu ⟨n, a, g, sz, w, n7, a7, g7, sz7, w7, n8, a8, g8, sz8, w8, ff, sf, nx, ms, mn, ma, mg, msz, mw, T, z⟩, fun E uu => ((E = oIA ∧ ¬ ((0 ≤ t ∧ t ≤ 200) ∧ (x = 0 ∨ x = 1)))) ∧ oRP cT ad uu ⟨n, a, g, sz, w, n7, a7, g7, sz7, w7, n8, a8, g8, sz8, w8, ff, sf, nx, ms, mn, ma, mg, msz, mw, T, z⟩, ⟨_, _, _, _, _, c5_fewest hA t x n a g sz w ld wr gr S Ln ff sf hl0 (Nat.le_refl 76) hL.now.1 hbt hbx hP.eO hP.e0 hP.e1 hP.e2 e59 e60 e61 e62 e63, by decide, fun rz u h => ?_, fun E u h => ?_⟩, fun E u h => ?_, fun rz u0 u hOk hu => ?_, fun E u0 u hEx hu => ?_⟩
  · obtain ⟨ld2, S2, Ln2, w2, gr2, h0, h1, h2, c59, c60, c61, c62, c63, hq⟩ := h
    exact ⟨fun q hq9 => hq q (by omega) (by omega) (by omega) (by omega) (by omega), ⟨h0, h1, h2⟩, hP.scr (fun q j4 j5 j6 j59 j60 j61 j62 j63 j64 => hq q j59 j60 j61 j62 j63) (zc (hq 4 (by decide) (by decide) (by decide) (by decide) (by decide)) hP.z4) (zc (hq 5 (by decide) (by decide) (by decide) (by decide) (by decide)) hP.z5) (zc (hq 6 (by decide) (by decide) (by decide) (by decide) (by decide)) hP.z6) ⟨_, c59⟩ ⟨_, c60⟩ ⟨_, c61⟩ ⟨_, c62⟩ ⟨_, c63⟩ (zc (hq 64 (by decide) (by decide) (by decide) (by decide) (by decide)) hP.z64)⟩
  · obtain ⟨h0, hq⟩ := h
    have hq : ∀ q : Nat, u q = σ q := fun q => by rw [hq]
    exact ⟨fun q hq9 => hq q, h0, hP.congr (fun q _ => hq q)⟩
  · exact Or.inl h.1.1
  · obtain ⟨⟨h0, h1, h2⟩, hP1⟩ := hOk
    refine ⟨_, _, _, c6_fewest hA t x z ms spo ou6 rf n a g f7 sz w s F R (Nat.le_refl 76) hL.now.1 hL.now.2.1 hL.now.2.2 hbt hbx ((hu 65 (by decide) (by decide)).trans e65) ((hu 67 (by decide) (by decide)).trans hM.e67) ((hu 72 (by decide) (by decide)).trans q72) ((hu 73 (by decide) (by decide)).trans q73) ((hu 74 (by decide) (by decide)).trans q74), by decide, fun r6 u2 h => ?_⟩
    obtain ⟨v9, r9, s2, F2, R2, h6, hd, c65, c72, c73, c74, hq⟩ := h
    have hM2 : oRM cT ad u2 z ms ⟨f7, T6, fd, fk, kz⟩ := ⟨⟨_, _, _, c65⟩, ((hq 66 (by decide) (by decide) (by decide) (by decide)).trans ((hu 66 (by decide) (by decide)).trans hM.e66)), ((hq 67 (by decide) (by decide) (by decide) (by decide)).trans ((hu 67 (by decide) (by decide)).trans hM.e67)), (zc ((hq 68 (by decide) (by decide) (by decide) (by decide)).trans (hu 68 (by decide) (by decide))) hM.z68), ((hq 69 (by decide) (by decide) (by decide) (by decide)).trans ((hu 69 (by decide) (by decide)).trans hM.e69)), ((hq 70 (by decide) (by decide) (by decide) (by decide)).trans ((hu 70 (by decide) (by decide)).trans hM.e70)), ((hq 71 (by decide) (by decide) (by decide) (by decide)).trans ((hu 71 (by decide) (by decide)).trans hM.e71)), ⟨_, c72⟩, ⟨_, c73⟩, ⟨_, c74⟩⟩
    have hF : oFin cT ad u0 u2 := oFin.mk hP1 hM2 hL
    refine ⟨fun q hq9 => hq q (by omega) (by omega) (by omega) (by omega), r9, z, ms, ⟨_, _, c65⟩, ?_⟩
    rcases hd with ⟨m0, m1, m2⟩ | ⟨m0, m1⟩
    · exact ⟨by rw [m1]; decide, m1, by rw [h6, h0, m2], hF⟩
    · first | exact absurd h1 m0 | exact absurd h2 m0 | exact absurd ⟨h1, h2⟩ m0 | exact absurd ⟨h2, h1⟩ m0
  · obtain ⟨hE, hP1⟩ := hEx
    refine ⟨_, _, _, c6_fewest hA t x z ms spo ou6 rf n a g f7 sz w s F R (Nat.le_refl 76) hL.now.1 hL.now.2.1 hL.now.2.2 hbt hbx ((hu 65 (by decide) (by decide)).trans e65) ((hu 67 (by decide) (by decide)).trans hM.e67) ((hu 72 (by decide) (by decide)).trans q72) ((hu 73 (by decide) (by decide)).trans q73) ((hu 74 (by decide) (by decide)).trans q74), by decide, fun r6 u2 h => ?_⟩
    obtain ⟨v9, r9, s2, F2, R2, h6, hd, c65, c72, c73, c74, hq⟩ := h
    have hM2 : oRM cT ad u2 z ms ⟨f7, T6, fd, fk, kz⟩ := ⟨⟨_, _, _, c65⟩, ((hq 66 (by decide) (by decide) (by decide) (by decide)).trans ((hu 66 (by decide) (by decide)).trans hM.e66)), ((hq 67 (by decide) (by decide) (by decide) (by decide)).trans ((hu 67 (by decide) (by decide)).trans hM.e67)), (zc ((hq 68 (by decide) (by decide) (by decide) (by decide)).trans (hu 68 (by decide) (by decide))) hM.z68), ((hq 69 (by decide) (by decide) (by decide) (by decide)).trans ((hu 69 (by decide) (by decide)).trans hM.e69)), ((hq 70 (by decide) (by decide) (by decide) (by decide)).trans ((hu 70 (by decide) (by decide)).trans hM.e70)), ((hq 71 (by decide) (by decide) (by decide) (by decide)).trans ((hu 71 (by decide) (by decide)).trans hM.e71)), ⟨_, c72⟩, ⟨_, c73⟩, ⟨_, c74⟩⟩
    have hF : oFin cT ad u0 u2 := oFin.mk hP1 hM2 hL
    refine ⟨fun q hq9 => hq q (by omega) (by omega) (by omega) (by omega), r9, z, ms, ⟨_, _, c65⟩, ?_⟩
    rcases hE with ⟨p0, p1⟩
    · rcases hd with ⟨m0, m1, m2⟩ | ⟨m0, m1⟩
      · first | exact absurd m0 p1 | exact absurd m2 p1 | exact absurd ⟨m0, m2⟩ p1 | exact absurd ⟨m2, m0⟩ p1
      · first | exact ⟨by rw [m1]; decide, m1.trans (by rw [p0]; first | exact n1_1 | exact n1_2 | exact n1_3 | exact n1_4), hF⟩
set_option maxRecDepth 100000 in
theorem kX_why {l : Launch} {D : va_G} {cT : Nat → ClassId} {b0 : Nat} {ad : Nat → Nat} (hA : oAd b0 76 ad) (hl0 : l.stackTraces = false) {σ : Nat → va_E} (hR : oRelC cT ad σ) (t : Int) (hbt : -2147483648 ≤ t ∧ t < 2147483648) :
    oKX l D cT ad b0 σ yX5_why cX5_why 4 [.ref (ad (0)), .int (oI (t))] yX6_why cX6_why 2 [.ref (ad (65)), .int (oI (t))] oIA oIA := by
  obtain ⟨⟨n, a, g, sz, w, n7, a7, g7, sz7, w7, n8, a8, g8, sz8, w8, ff, sf, nx, ms, mn, ma, mg, msz, mw, T, z⟩, ⟨f7, T6, fd, fk, kz⟩, hP, hM, hL⟩ := hR
  obtain ⟨ld, e59⟩ := hP.z59
  obtain ⟨wr, e62⟩ := hP.z62
  obtain ⟨gr, e63⟩ := hP.z63
  obtain ⟨S, e60⟩ := hP.z60
  obtain ⟨Ln, e61⟩ := hP.z61
  obtain ⟨rf, spo, ou6, e65⟩ := hM.z65
  obtain ⟨s, q72⟩ := hM.z72
  obtain ⟨F, q73⟩ := hM.z73
  obtain ⟨R, q74⟩ := hM.z74
  refine ⟨fun rr uu => (rr = oI ((oWhy t.toNat n a (oOrW n w (-1) 4))) ∧ (0 ≤ t ∧ t ≤ 200)) ∧ oRP cT ad uu ⟨n, a, g, sz, w, n7, a7, g7, sz7, w7, n8, a8, g8, sz8, w8, ff, sf, nx, ms, mn, ma, mg, msz, mw, T, z⟩, fun E uu => ((E = oIA ∧ ¬ (0 ≤ t ∧ t ≤ 200))) ∧ oRP cT ad uu ⟨n, a, g, sz, w, n7, a7, g7, sz7, w7, n8, a8, g8, sz8, w8, ff, sf, nx, ms, mn, ma, mg, msz, mw, T, z⟩, ⟨_, _, _, _, _, c5_why hA t n a g sz w ld wr gr S Ln ff sf hl0 (Nat.le_refl 76) hL.now.1 hL.now.2.1 hbt hP.eO hP.e0 hP.e1 hP.e2 e59 e60 e61 e62 e63, by decide, fun rz u h => ?_, fun E u h => ?_⟩, fun E u h => ?_, fun rz u0 u hOk hu => ?_, fun E u0 u hEx hu => ?_⟩
  · obtain ⟨ld2, S2, Ln2, h0, h1, c59, c60, c61, hq⟩ := h
    exact ⟨fun q hq9 => hq q (by omega) (by omega) (by omega), ⟨h0, h1⟩, hP.scr (fun q j4 j5 j6 j59 j60 j61 j62 j63 j64 => hq q j59 j60 j61) (zc (hq 4 (by decide) (by decide) (by decide)) hP.z4) (zc (hq 5 (by decide) (by decide) (by decide)) hP.z5) (zc (hq 6 (by decide) (by decide) (by decide)) hP.z6) ⟨_, c59⟩ ⟨_, c60⟩ ⟨_, c61⟩ (zc (hq 62 (by decide) (by decide) (by decide)) hP.z62) (zc (hq 63 (by decide) (by decide) (by decide)) hP.z63) (zc (hq 64 (by decide) (by decide) (by decide)) hP.z64)⟩
  · obtain ⟨h0, hq⟩ := h
    have hq : ∀ q : Nat, u q = σ q := fun q => by rw [hq]
    exact ⟨fun q hq9 => hq q, h0, hP.congr (fun q _ => hq q)⟩
  · exact Or.inl h.1.1
  · obtain ⟨⟨h0, h1⟩, hP1⟩ := hOk
    refine ⟨_, _, _, c6_why hA t z ms spo ou6 rf n a g f7 sz w s F R (Nat.le_refl 76) hL.now.1 hL.now.2.1 hL.now.2.2 hbt ((hu 65 (by decide) (by decide)).trans e65) ((hu 67 (by decide) (by decide)).trans hM.e67) ((hu 72 (by decide) (by decide)).trans q72) ((hu 73 (by decide) (by decide)).trans q73) ((hu 74 (by decide) (by decide)).trans q74), by decide, fun r6 u2 h => ?_⟩
    obtain ⟨v9, r9, s2, F2, R2, h6, hd, c65, c72, c73, c74, hq⟩ := h
    have hM2 : oRM cT ad u2 z ms ⟨f7, T6, fd, fk, kz⟩ := ⟨⟨_, _, _, c65⟩, ((hq 66 (by decide) (by decide) (by decide) (by decide)).trans ((hu 66 (by decide) (by decide)).trans hM.e66)), ((hq 67 (by decide) (by decide) (by decide) (by decide)).trans ((hu 67 (by decide) (by decide)).trans hM.e67)), (zc ((hq 68 (by decide) (by decide) (by decide) (by decide)).trans (hu 68 (by decide) (by decide))) hM.z68), ((hq 69 (by decide) (by decide) (by decide) (by decide)).trans ((hu 69 (by decide) (by decide)).trans hM.e69)), ((hq 70 (by decide) (by decide) (by decide) (by decide)).trans ((hu 70 (by decide) (by decide)).trans hM.e70)), ((hq 71 (by decide) (by decide) (by decide) (by decide)).trans ((hu 71 (by decide) (by decide)).trans hM.e71)), ⟨_, c72⟩, ⟨_, c73⟩, ⟨_, c74⟩⟩
    have hF : oFin cT ad u0 u2 := oFin.mk hP1 hM2 hL
    refine ⟨fun q hq9 => hq q (by omega) (by omega) (by omega) (by omega), r9, z, ms, ⟨_, _, c65⟩, ?_⟩
    rcases hd with ⟨m0, m1, m2⟩ | ⟨m0, m1⟩
    · exact ⟨by rw [m1]; decide, m1, by rw [h6, h0, m2], hF⟩
    · first | exact absurd h1 m0
  · obtain ⟨hE, hP1⟩ := hEx
    refine ⟨_, _, _, c6_why hA t z ms spo ou6 rf n a g f7 sz w s F R (Nat.le_refl 76) hL.now.1 hL.now.2.1 hL.now.2.2 hbt ((hu 65 (by decide) (by decide)).trans e65) ((hu 67 (by decide) (by decide)).trans hM.e67) ((hu 72 (by decide) (by decide)).trans q72) ((hu 73 (by decide) (by decide)).trans q73) ((hu 74 (by decide) (by decide)).trans q74), by decide, fun r6 u2 h => ?_⟩
    obtain ⟨v9, r9, s2, F2, R2, h6, hd, c65, c72, c73, c74, hq⟩ := h
    have hM2 : oRM cT ad u2 z ms ⟨f7, T6, fd, fk, kz⟩ := ⟨⟨_, _, _, c65⟩, ((hq 66 (by decide) (by decide) (by decide) (by decide)).trans ((hu 66 (by decide) (by decide)).trans hM.e66)), ((hq 67 (by decide) (by decide) (by decide) (by decide)).trans ((hu 67 (by decide) (by decide)).trans hM.e67)), (zc ((hq 68 (by decide) (by decide) (by decide) (by decide)).trans (hu 68 (by decide) (by decide))) hM.z68), ((hq 69 (by decide) (by decide) (by decide) (by decide)).trans ((hu 69 (by decide) (by decide)).trans hM.e69)), ((hq 70 (by decide) (by decide) (by decide) (by decide)).trans ((hu 70 (by decide) (by decide)).trans hM.e70)), ((hq 71 (by decide) (by decide) (by decide) (by decide)).trans ((hu 71 (by decide) (by decide)).trans hM.e71)), ⟨_, c72⟩, ⟨_, c73⟩, ⟨_, c74⟩⟩
    have hF : oFin cT ad u0 u2 := oFin.mk hP1 hM2 hL
    refine ⟨fun q hq9 => hq q (by omega) (by omega) (by omega) (by omega), r9, z, ms, ⟨_, _, c65⟩, ?_⟩
    rcases hE with ⟨p0, p1⟩
    · rcases hd with ⟨m0, m1, m2⟩ | ⟨m0, m1⟩
      · first | exact absurd m0 p1 | exact absurd m2 p1 | exact absurd ⟨m0, m2⟩ p1 | exact absurd ⟨m2, m0⟩ p1
      · first | exact ⟨by rw [m1]; decide, m1.trans (by rw [p0]; first | exact n1_1 | exact n1_2 | exact n1_3 | exact n1_4), hF⟩
set_option maxRecDepth 100000 in
theorem kX_bestMark {l : Launch} {D : va_G} {cT : Nat → ClassId} {b0 : Nat} {ad : Nat → Nat} (hA : oAd b0 76 ad) (hl0 : l.stackTraces = false) {σ : Nat → va_E} (hR : oRelC cT ad σ) (r : Int) (x : Int) (hbr : -2147483648 ≤ r ∧ r < 2147483648) (hbx : -2147483648 ≤ x ∧ x < 2147483648) :
    oKX l D cT ad b0 σ yX5_bestMark cX5_bestMark 11 [.ref (ad (0)), .int (oI (r)), .int (oI (x))] yX6_bestMark cX6_bestMark 7 [.ref (ad (65)), .int (oI (r)), .int (oI (x))] oIO oIA := by
  obtain ⟨⟨n, a, g, sz, w, n7, a7, g7, sz7, w7, n8, a8, g8, sz8, w8, ff, sf, nx, ms, mn, ma, mg, msz, mw, T, z⟩, ⟨f7, T6, fd, fk, kz⟩, hP, hM, hL⟩ := hR
  obtain ⟨ld, e59⟩ := hP.z59
  obtain ⟨wr, e62⟩ := hP.z62
  obtain ⟨gr, e63⟩ := hP.z63
  obtain ⟨rf, spo, ou6, e65⟩ := hM.z65
  obtain ⟨ft, q68⟩ := hM.z68
  obtain ⟨s, q72⟩ := hM.z72
  obtain ⟨F, q73⟩ := hM.z73
  obtain ⟨R, q74⟩ := hM.z74
  refine ⟨fun rr uu => (rr = oI ((if x = 0 then (oBm n a g sz w r 41).1 else (oBm n a g sz w r 41).2)) ∧ ((0 ≤ r ∧ r < (n : Int))) ∧ (x = 0 ∨ x = 1)) ∧ oRP cT ad uu ⟨n, a, g, sz, w, n7, a7, g7, sz7, w7, n8, a8, g8, sz8, w8, ff, sf, nx, ms, mn, ma, mg, msz, mw, T, z⟩, fun E uu => (((E = oIO ∧ ¬ (0 ≤ r ∧ r < (n : Int))) ∨ (E = oIA ∧ (0 ≤ r ∧ r < (n : Int)) ∧ ¬ (x = 0 ∨ x = 1)))) ∧ oRP cT ad uu ⟨n, a, g, sz, w, n7, a7, g7, sz7, w7, n8, a8, g8, sz8, w8, ff, sf, nx, ms, mn, ma, mg, msz, mw, T, z⟩, ⟨_, _, _, _, _, c5_bestMark hA r x n a g sz w ld wr gr ff sf hl0 (Nat.le_refl 76) hL.now.1 hL.now.2.1 hbr hbx hP.eO hP.e0 hP.e1 hP.e2 e59 e62 e63, by decide, fun rz u h => ?_, fun E u h => ?_⟩, fun E u h => ?_, fun rz u0 u hOk hu => ?_, fun E u0 u hEx hu => ?_⟩
  · obtain ⟨w2, gr2, h0, h1, h2, c62, c63, hq⟩ := h
    exact ⟨fun q hq9 => hq q (by omega) (by omega), ⟨h0, h1, h2⟩, hP.scr (fun q j4 j5 j6 j59 j60 j61 j62 j63 j64 => hq q j62 j63) (zc (hq 4 (by decide) (by decide)) hP.z4) (zc (hq 5 (by decide) (by decide)) hP.z5) (zc (hq 6 (by decide) (by decide)) hP.z6) (zc (hq 59 (by decide) (by decide)) hP.z59) (zc (hq 60 (by decide) (by decide)) hP.z60) (zc (hq 61 (by decide) (by decide)) hP.z61) ⟨_, c62⟩ ⟨_, c63⟩ (zc (hq 64 (by decide) (by decide)) hP.z64)⟩
  · obtain ⟨h0, hq⟩ := h
    have hq : ∀ q : Nat, u q = σ q := fun q => by rw [hq]
    exact ⟨fun q hq9 => hq q, h0, hP.congr (fun q _ => hq q)⟩
  · rcases h.1 with h | h
    · exact Or.inl h.1
    · exact Or.inr h.1
  · obtain ⟨⟨h0, h1, h2⟩, hP1⟩ := hOk
    refine ⟨_, _, _, c6_bestMark hA r x z ms spo ou6 rf n a g f7 sz w ft s F R (Nat.le_refl 76) hL.now.1 hL.now.2.1 hL.now.2.2 hbr hbx ((hu 65 (by decide) (by decide)).trans e65) ((hu 67 (by decide) (by decide)).trans hM.e67) ((hu 68 (by decide) (by decide)).trans q68) ((hu 72 (by decide) (by decide)).trans q72) ((hu 73 (by decide) (by decide)).trans q73) ((hu 74 (by decide) (by decide)).trans q74), by decide, fun r6 u2 h => ?_⟩
    obtain ⟨v9, r9, g8, s2, F2, R2, h6, hd, c65, c68, c72, c73, c74, hq⟩ := h
    have hM2 : oRM cT ad u2 z ms ⟨f7, T6, fd, fk, kz⟩ := ⟨⟨_, _, _, c65⟩, ((hq 66 (by decide) (by decide) (by decide) (by decide) (by decide)).trans ((hu 66 (by decide) (by decide)).trans hM.e66)), ((hq 67 (by decide) (by decide) (by decide) (by decide) (by decide)).trans ((hu 67 (by decide) (by decide)).trans hM.e67)), ⟨_, c68⟩, ((hq 69 (by decide) (by decide) (by decide) (by decide) (by decide)).trans ((hu 69 (by decide) (by decide)).trans hM.e69)), ((hq 70 (by decide) (by decide) (by decide) (by decide) (by decide)).trans ((hu 70 (by decide) (by decide)).trans hM.e70)), ((hq 71 (by decide) (by decide) (by decide) (by decide) (by decide)).trans ((hu 71 (by decide) (by decide)).trans hM.e71)), ⟨_, c72⟩, ⟨_, c73⟩, ⟨_, c74⟩⟩
    have hF : oFin cT ad u0 u2 := oFin.mk hP1 hM2 hL
    refine ⟨fun q hq9 => hq q (by omega) (by omega) (by omega) (by omega) (by omega), r9, z, ms, ⟨_, _, c65⟩, ?_⟩
    rcases hd with ⟨m0, m1, m2, m3⟩ | ⟨m0, m1⟩ | ⟨m0, m1, m2⟩
    · exact ⟨by rw [m2]; decide, m2, by rw [h6, h0, m3], hF⟩
    · first | exact absurd h1 m1 | exact absurd h2 m1 | exact absurd ⟨h1, h2⟩ m1 | exact absurd ⟨h2, h1⟩ m1
    · first | exact absurd h1 m2 | exact absurd h2 m2 | exact absurd ⟨h1, h2⟩ m2 | exact absurd ⟨h2, h1⟩ m2
  · obtain ⟨hE, hP1⟩ := hEx
    refine ⟨_, _, _, c6_bestMark hA r x z ms spo ou6 rf n a g f7 sz w ft s F R (Nat.le_refl 76) hL.now.1 hL.now.2.1 hL.now.2.2 hbr hbx ((hu 65 (by decide) (by decide)).trans e65) ((hu 67 (by decide) (by decide)).trans hM.e67) ((hu 68 (by decide) (by decide)).trans q68) ((hu 72 (by decide) (by decide)).trans q72) ((hu 73 (by decide) (by decide)).trans q73) ((hu 74 (by decide) (by decide)).trans q74), by decide, fun r6 u2 h => ?_⟩
    obtain ⟨v9, r9, g8, s2, F2, R2, h6, hd, c65, c68, c72, c73, c74, hq⟩ := h
    have hM2 : oRM cT ad u2 z ms ⟨f7, T6, fd, fk, kz⟩ := ⟨⟨_, _, _, c65⟩, ((hq 66 (by decide) (by decide) (by decide) (by decide) (by decide)).trans ((hu 66 (by decide) (by decide)).trans hM.e66)), ((hq 67 (by decide) (by decide) (by decide) (by decide) (by decide)).trans ((hu 67 (by decide) (by decide)).trans hM.e67)), ⟨_, c68⟩, ((hq 69 (by decide) (by decide) (by decide) (by decide) (by decide)).trans ((hu 69 (by decide) (by decide)).trans hM.e69)), ((hq 70 (by decide) (by decide) (by decide) (by decide) (by decide)).trans ((hu 70 (by decide) (by decide)).trans hM.e70)), ((hq 71 (by decide) (by decide) (by decide) (by decide) (by decide)).trans ((hu 71 (by decide) (by decide)).trans hM.e71)), ⟨_, c72⟩, ⟨_, c73⟩, ⟨_, c74⟩⟩
    have hF : oFin cT ad u0 u2 := oFin.mk hP1 hM2 hL
    refine ⟨fun q hq9 => hq q (by omega) (by omega) (by omega) (by omega) (by omega), r9, z, ms, ⟨_, _, c65⟩, ?_⟩
    rcases hE with ⟨p0, p1⟩ | ⟨p0, p1, p2⟩
    · rcases hd with ⟨m0, m1, m2, m3⟩ | ⟨m0, m1⟩ | ⟨m0, m1, m2⟩
      · first | exact absurd m0 p1 | exact absurd m1 p1 | exact absurd m3 p1 | exact absurd ⟨m0, m1⟩ p1 | exact absurd ⟨m0, m3⟩ p1 | exact absurd ⟨m1, m0⟩ p1 | exact absurd ⟨m1, m3⟩ p1 | exact absurd ⟨m3, m0⟩ p1 | exact absurd ⟨m3, m1⟩ p1
      · first | exact ⟨by rw [m0]; decide, m0.trans (by rw [p0]; first | exact n1_1 | exact n1_2 | exact n1_3 | exact n1_4), hF⟩
      · first | exact ⟨by rw [m0]; decide, m0.trans (by rw [p0]; first | exact n1_1 | exact n1_2 | exact n1_3 | exact n1_4), hF⟩ | exact absurd m1 p1
    · rcases hd with ⟨m0, m1, m2, m3⟩ | ⟨m0, m1⟩ | ⟨m0, m1, m2⟩
      · first | exact absurd m0 p2 | exact absurd m1 p2 | exact absurd m3 p2 | exact absurd ⟨m0, m1⟩ p2 | exact absurd ⟨m0, m3⟩ p2 | exact absurd ⟨m1, m0⟩ p2 | exact absurd ⟨m1, m3⟩ p2 | exact absurd ⟨m3, m0⟩ p2 | exact absurd ⟨m3, m1⟩ p2
      · first | exact ⟨by rw [m0]; decide, m0.trans (by rw [p0]; first | exact n1_1 | exact n1_2 | exact n1_3 | exact n1_4), hF⟩ | exact absurd p1 m1
      · first | exact ⟨by rw [m0]; decide, m0.trans (by rw [p0]; first | exact n1_1 | exact n1_2 | exact n1_3 | exact n1_4), hF⟩ | exact absurd m1 p2 | exact absurd p1 m2
set_option maxRecDepth 100000 in
theorem kX_needless {l : Launch} {D : va_G} {cT : Nat → ClassId} {b0 : Nat} {ad : Nat → Nat} (hA : oAd b0 76 ad) (hl0 : l.stackTraces = false) {σ : Nat → va_E} (hR : oRelC cT ad σ) (r : Int) (hbr : -2147483648 ≤ r ∧ r < 2147483648) :
    oKX l D cT ad b0 σ yX5_needless cX5_needless 9 [.ref (ad (0)), .int (oI (r))] yX6_needless cX6_needless 5 [.ref (ad (65)), .int (oI (r))] oIO oIO := by
  obtain ⟨⟨n, a, g, sz, w, n7, a7, g7, sz7, w7, n8, a8, g8, sz8, w8, ff, sf, nx, ms, mn, ma, mg, msz, mw, T, z⟩, ⟨f7, T6, fd, fk, kz⟩, hP, hM, hL⟩ := hR
  obtain ⟨ld, e59⟩ := hP.z59
  obtain ⟨wr, e62⟩ := hP.z62
  obtain ⟨gr, e63⟩ := hP.z63
  obtain ⟨rf, spo, ou6, e65⟩ := hM.z65
  obtain ⟨ft, q68⟩ := hM.z68
  obtain ⟨s, q72⟩ := hM.z72
  obtain ⟨F, q73⟩ := hM.z73
  obtain ⟨R, q74⟩ := hM.z74
  refine ⟨fun rr uu => (rr = oI (((oNd n a g sz w r 39 : Nat) : Int)) ∧ ((0 ≤ r ∧ r < (n : Int)))) ∧ oRP cT ad uu ⟨n, a, g, sz, w, n7, a7, g7, sz7, w7, n8, a8, g8, sz8, w8, ff, sf, nx, ms, mn, ma, mg, msz, mw, T, z⟩, fun E uu => ((E = oIO ∧ ¬ (0 ≤ r ∧ r < (n : Int)))) ∧ oRP cT ad uu ⟨n, a, g, sz, w, n7, a7, g7, sz7, w7, n8, a8, g8, sz8, w8, ff, sf, nx, ms, mn, ma, mg, msz, mw, T, z⟩, ⟨_, _, _, _, _, c5_needless hA r n a g sz w ld wr gr ff sf hl0 (Nat.le_refl 76) hL.now.1 hL.now.2.1 hbr hP.eO hP.e0 hP.e1 hP.e2 e59 e62 e63, by decide, fun rz u h => ?_, fun E u h => ?_⟩, fun E u h => ?_, fun rz u0 u hOk hu => ?_, fun E u0 u hEx hu => ?_⟩
  · obtain ⟨w2, gr2, h0, h1, c62, c63, hq⟩ := h
    exact ⟨fun q hq9 => hq q (by omega) (by omega), ⟨h0, h1⟩, hP.scr (fun q j4 j5 j6 j59 j60 j61 j62 j63 j64 => hq q j62 j63) (zc (hq 4 (by decide) (by decide)) hP.z4) (zc (hq 5 (by decide) (by decide)) hP.z5) (zc (hq 6 (by decide) (by decide)) hP.z6) (zc (hq 59 (by decide) (by decide)) hP.z59) (zc (hq 60 (by decide) (by decide)) hP.z60) (zc (hq 61 (by decide) (by decide)) hP.z61) ⟨_, c62⟩ ⟨_, c63⟩ (zc (hq 64 (by decide) (by decide)) hP.z64)⟩
  · obtain ⟨h0, hq⟩ := h
    have hq : ∀ q : Nat, u q = σ q := fun q => by rw [hq]
    exact ⟨fun q hq9 => hq q, h0, hP.congr (fun q _ => hq q)⟩
  · exact Or.inl h.1.1
  · obtain ⟨⟨h0, h1⟩, hP1⟩ := hOk
    refine ⟨_, _, _, c6_needless hA r z ms spo ou6 rf n a g f7 sz w ft s F R (Nat.le_refl 76) hL.now.1 hL.now.2.1 hL.now.2.2 hbr ((hu 65 (by decide) (by decide)).trans e65) ((hu 67 (by decide) (by decide)).trans hM.e67) ((hu 68 (by decide) (by decide)).trans q68) ((hu 72 (by decide) (by decide)).trans q72) ((hu 73 (by decide) (by decide)).trans q73) ((hu 74 (by decide) (by decide)).trans q74), by decide, fun r6 u2 h => ?_⟩
    obtain ⟨v9, r9, g8, s2, F2, R2, h6, hd, c65, c68, c72, c73, c74, hq⟩ := h
    have hM2 : oRM cT ad u2 z ms ⟨f7, T6, fd, fk, kz⟩ := ⟨⟨_, _, _, c65⟩, ((hq 66 (by decide) (by decide) (by decide) (by decide) (by decide)).trans ((hu 66 (by decide) (by decide)).trans hM.e66)), ((hq 67 (by decide) (by decide) (by decide) (by decide) (by decide)).trans ((hu 67 (by decide) (by decide)).trans hM.e67)), ⟨_, c68⟩, ((hq 69 (by decide) (by decide) (by decide) (by decide) (by decide)).trans ((hu 69 (by decide) (by decide)).trans hM.e69)), ((hq 70 (by decide) (by decide) (by decide) (by decide) (by decide)).trans ((hu 70 (by decide) (by decide)).trans hM.e70)), ((hq 71 (by decide) (by decide) (by decide) (by decide) (by decide)).trans ((hu 71 (by decide) (by decide)).trans hM.e71)), ⟨_, c72⟩, ⟨_, c73⟩, ⟨_, c74⟩⟩
    have hF : oFin cT ad u0 u2 := oFin.mk hP1 hM2 hL
    refine ⟨fun q hq9 => hq q (by omega) (by omega) (by omega) (by omega) (by omega), r9, z, ms, ⟨_, _, c65⟩, ?_⟩
    rcases hd with ⟨m0, m1, m2⟩ | ⟨m0, m1⟩
    · exact ⟨by rw [m1]; decide, m1, by rw [h6, h0, m2], hF⟩
    · first | exact absurd h1 m1
  · obtain ⟨hE, hP1⟩ := hEx
    refine ⟨_, _, _, c6_needless hA r z ms spo ou6 rf n a g f7 sz w ft s F R (Nat.le_refl 76) hL.now.1 hL.now.2.1 hL.now.2.2 hbr ((hu 65 (by decide) (by decide)).trans e65) ((hu 67 (by decide) (by decide)).trans hM.e67) ((hu 68 (by decide) (by decide)).trans q68) ((hu 72 (by decide) (by decide)).trans q72) ((hu 73 (by decide) (by decide)).trans q73) ((hu 74 (by decide) (by decide)).trans q74), by decide, fun r6 u2 h => ?_⟩
    obtain ⟨v9, r9, g8, s2, F2, R2, h6, hd, c65, c68, c72, c73, c74, hq⟩ := h
    have hM2 : oRM cT ad u2 z ms ⟨f7, T6, fd, fk, kz⟩ := ⟨⟨_, _, _, c65⟩, ((hq 66 (by decide) (by decide) (by decide) (by decide) (by decide)).trans ((hu 66 (by decide) (by decide)).trans hM.e66)), ((hq 67 (by decide) (by decide) (by decide) (by decide) (by decide)).trans ((hu 67 (by decide) (by decide)).trans hM.e67)), ⟨_, c68⟩, ((hq 69 (by decide) (by decide) (by decide) (by decide) (by decide)).trans ((hu 69 (by decide) (by decide)).trans hM.e69)), ((hq 70 (by decide) (by decide) (by decide) (by decide) (by decide)).trans ((hu 70 (by decide) (by decide)).trans hM.e70)), ((hq 71 (by decide) (by decide) (by decide) (by decide) (by decide)).trans ((hu 71 (by decide) (by decide)).trans hM.e71)), ⟨_, c72⟩, ⟨_, c73⟩, ⟨_, c74⟩⟩
    have hF : oFin cT ad u0 u2 := oFin.mk hP1 hM2 hL
    refine ⟨fun q hq9 => hq q (by omega) (by omega) (by omega) (by omega) (by omega), r9, z, ms, ⟨_, _, c65⟩, ?_⟩
    rcases hE with ⟨p0, p1⟩
    · rcases hd with ⟨m0, m1, m2⟩ | ⟨m0, m1⟩
      · first | exact absurd m0 p1 | exact absurd m2 p1 | exact absurd ⟨m0, m2⟩ p1 | exact absurd ⟨m2, m0⟩ p1
      · first | exact ⟨by rw [m0]; decide, m0.trans (by rw [p0]; first | exact n1_1 | exact n1_2 | exact n1_3 | exact n1_4), hF⟩
set_option maxRecDepth 100000 in
theorem kX_twin {l : Launch} {D : va_G} {cT : Nat → ClassId} {b0 : Nat} {ad : Nat → Nat} (hA : oAd b0 76 ad) (hl0 : l.stackTraces = false) {σ : Nat → va_E} (hR : oRelC cT ad σ) (r : Int) (o : Int) (on : Int) (hbr : -2147483648 ≤ r ∧ r < 2147483648) (hbo : -2147483648 ≤ o ∧ o < 2147483648) (hon : on = 0 ∨ on = 1) :
    oKX l D cT ad b0 σ yX5_twin cX5_twin 11 [.ref (ad (0)), .int (oI (r)), .int (oI (o)), .int (oI (on))] yX6_twin cX6_twin 7 [.ref (ad (65)), .int (oI (r)), .int (oI (o)), .int (oI (on))] oIO oIO := by
  obtain ⟨⟨n, a, g, sz, w, n7, a7, g7, sz7, w7, n8, a8, g8, sz8, w8, ff, sf, nx, ms, mn, ma, mg, msz, mw, T, z⟩, ⟨f7, T6, fd, fk, kz⟩, hP, hM, hL⟩ := hR
  obtain ⟨rf, spo, ou6, e65⟩ := hM.z65
  refine ⟨fun rr uu => (rr = oI ((oTwn (oInner (oRow n w r) (oSize n sz r)) (if on = 1 then oRev (oInner (oRow n w o) (oSize n sz o)) (oSize n sz o) else oInner (oRow n w o) (oSize n sz o)))) ∧ ((0 ≤ r ∧ r < (n : Int))) ∧ ((0 ≤ o ∧ o < (n : Int)))) ∧ oRP cT ad uu ⟨n, a, g, sz, w, n7, a7, g7, sz7, w7, n8, a8, g8, sz8, w8, ff, sf, nx, ms, mn, ma, mg, msz, mw, T, z⟩, fun E uu => ((E = oIO ∧ ¬ ((0 ≤ r ∧ r < (n : Int)) ∧ (0 ≤ o ∧ o < (n : Int))))) ∧ oRP cT ad uu ⟨n, a, g, sz, w, n7, a7, g7, sz7, w7, n8, a8, g8, sz8, w8, ff, sf, nx, ms, mn, ma, mg, msz, mw, T, z⟩, ⟨_, _, _, _, _, c5_twin hA r o on n a g sz w ff sf hl0 (Nat.le_refl 76) hL.now.1 hbr hbo hon hP.eO hP.e0 hP.e1 hP.e2, by decide, fun rz u h => ?_, fun E u h => ?_⟩, fun E u h => ?_, fun rz u0 u hOk hu => ?_, fun E u0 u hEx hu => ?_⟩
  · obtain ⟨h0, h1, h2, hq⟩ := h
    have hq : ∀ q : Nat, u q = σ q := fun q => by rw [hq]
    exact ⟨fun q hq9 => hq q, ⟨h0, h1, h2⟩, hP.scr (fun q _ _ _ _ _ _ _ _ _ => hq q) (zc (hq 4) hP.z4) (zc (hq 5) hP.z5) (zc (hq 6) hP.z6) (zc (hq 59) hP.z59) (zc (hq 60) hP.z60) (zc (hq 61) hP.z61) (zc (hq 62) hP.z62) (zc (hq 63) hP.z63) (zc (hq 64) hP.z64)⟩
  · obtain ⟨h0, hq⟩ := h
    have hq : ∀ q : Nat, u q = σ q := fun q => by rw [hq]
    exact ⟨fun q hq9 => hq q, h0, hP.congr (fun q _ => hq q)⟩
  · exact Or.inl h.1.1
  · obtain ⟨⟨h0, h1, h2⟩, hP1⟩ := hOk
    refine ⟨_, _, _, c6_twin hA r o on z ms spo ou6 rf n a g f7 sz w (Nat.le_refl 76) hL.now.1 hL.now.2.1 hL.now.2.2 hbr hbo hon ((hu 65 (by decide) (by decide)).trans e65) ((hu 67 (by decide) (by decide)).trans hM.e67), by decide, fun r6 u2 h => ?_⟩
    obtain ⟨v9, r9, h6, hd, c65, hq⟩ := h
    have hM2 : oRM cT ad u2 z ms ⟨f7, T6, fd, fk, kz⟩ := ⟨⟨_, _, _, c65⟩, ((hq 66 (by decide)).trans ((hu 66 (by decide) (by decide)).trans hM.e66)), ((hq 67 (by decide)).trans ((hu 67 (by decide) (by decide)).trans hM.e67)), (zc ((hq 68 (by decide)).trans (hu 68 (by decide) (by decide))) hM.z68), ((hq 69 (by decide)).trans ((hu 69 (by decide) (by decide)).trans hM.e69)), ((hq 70 (by decide)).trans ((hu 70 (by decide) (by decide)).trans hM.e70)), ((hq 71 (by decide)).trans ((hu 71 (by decide) (by decide)).trans hM.e71)), (zc ((hq 72 (by decide)).trans (hu 72 (by decide) (by decide))) hM.z72), (zc ((hq 73 (by decide)).trans (hu 73 (by decide) (by decide))) hM.z73), (zc ((hq 74 (by decide)).trans (hu 74 (by decide) (by decide))) hM.z74)⟩
    have hF : oFin cT ad u0 u2 := oFin.mk hP1 hM2 hL
    refine ⟨fun q hq9 => hq q (by omega), r9, z, ms, ⟨_, _, c65⟩, ?_⟩
    rcases hd with ⟨m0, m1, m2⟩ | ⟨m0, m1⟩
    · exact ⟨by rw [m1]; decide, m1, by rw [h6, h0, m2], hF⟩
    · first | exact absurd h1 m1 | exact absurd h2 m1 | exact absurd ⟨h1, h2⟩ m1 | exact absurd ⟨h2, h1⟩ m1
  · obtain ⟨hE, hP1⟩ := hEx
    refine ⟨_, _, _, c6_twin hA r o on z ms spo ou6 rf n a g f7 sz w (Nat.le_refl 76) hL.now.1 hL.now.2.1 hL.now.2.2 hbr hbo hon ((hu 65 (by decide) (by decide)).trans e65) ((hu 67 (by decide) (by decide)).trans hM.e67), by decide, fun r6 u2 h => ?_⟩
    obtain ⟨v9, r9, h6, hd, c65, hq⟩ := h
    have hM2 : oRM cT ad u2 z ms ⟨f7, T6, fd, fk, kz⟩ := ⟨⟨_, _, _, c65⟩, ((hq 66 (by decide)).trans ((hu 66 (by decide) (by decide)).trans hM.e66)), ((hq 67 (by decide)).trans ((hu 67 (by decide) (by decide)).trans hM.e67)), (zc ((hq 68 (by decide)).trans (hu 68 (by decide) (by decide))) hM.z68), ((hq 69 (by decide)).trans ((hu 69 (by decide) (by decide)).trans hM.e69)), ((hq 70 (by decide)).trans ((hu 70 (by decide) (by decide)).trans hM.e70)), ((hq 71 (by decide)).trans ((hu 71 (by decide) (by decide)).trans hM.e71)), (zc ((hq 72 (by decide)).trans (hu 72 (by decide) (by decide))) hM.z72), (zc ((hq 73 (by decide)).trans (hu 73 (by decide) (by decide))) hM.z73), (zc ((hq 74 (by decide)).trans (hu 74 (by decide) (by decide))) hM.z74)⟩
    have hF : oFin cT ad u0 u2 := oFin.mk hP1 hM2 hL
    refine ⟨fun q hq9 => hq q (by omega), r9, z, ms, ⟨_, _, c65⟩, ?_⟩
    rcases hE with ⟨p0, p1⟩
    · rcases hd with ⟨m0, m1, m2⟩ | ⟨m0, m1⟩
      · first | exact absurd m0 p1 | exact absurd m2 p1 | exact absurd ⟨m0, m2⟩ p1 | exact absurd ⟨m2, m0⟩ p1
      · first | exact ⟨by rw [m0]; decide, m0.trans (by rw [p0]; first | exact n1_1 | exact n1_2 | exact n1_3 | exact n1_4), hF⟩
set_option maxRecDepth 100000 in
theorem kX_laying {l : Launch} {D : va_G} {cT : Nat → ClassId} {b0 : Nat} {ad : Nat → Nat} (hA : oAd b0 76 ad) (hl0 : l.stackTraces = false) {σ : Nat → va_E} (hR : oRelC cT ad σ) (t : Int) (k : Int) (x : Int) (hbt : -2147483648 ≤ t ∧ t < 2147483648) (hbk : -2147483648 ≤ k ∧ k < 2147483648) (hbx : -2147483648 ≤ x ∧ x < 2147483648) :
    oKX l D cT ad b0 σ yX5_laying cX5_laying 6 [.ref (ad (0)), .int (oI (t)), .int (oI (k)), .int (oI (x))] yX6_laying cX6_laying 6 [.ref (ad (65)), .int (oI (t)), .int (oI (k)), .int (oI (x))] oIA oIA := by
  obtain ⟨⟨n, a, g, sz, w, n7, a7, g7, sz7, w7, n8, a8, g8, sz8, w8, ff, sf, nx, ms, mn, ma, mg, msz, mw, T, z⟩, ⟨f7, T6, fd, fk, kz⟩, hP, hM, hL⟩ := hR
  obtain ⟨ld, e59⟩ := hP.z59
  obtain ⟨S, e60⟩ := hP.z60
  obtain ⟨Ln, e61⟩ := hP.z61
  obtain ⟨lr, lk, lf, le, hlf, hle, e64⟩ := hP.z64
  obtain ⟨rf, spo, ou6, e65⟩ := hM.z65
  obtain ⟨s, q72⟩ := hM.z72
  obtain ⟨F, q73⟩ := hM.z73
  obtain ⟨R, q74⟩ := hM.z74
  refine ⟨fun rr uu => (∃ q : Int, ∃ r2 : Nat, ∃ k2 : Nat, ∃ f2 : Int, ∃ e2 : Int, rr = oI (q) ∧ ((0 ≤ t ∧ t ≤ 200) ∧ 0 ≤ k ∧ 0 ≤ x ∧ x ≤ 3) ∧ (((oD (oOrW n w (-1) 4) t.toNat) 0 ≤ k ∧ q = -1) ∨ (k < (oD (oOrW n w (-1) 4) t.toNat) 0 ∧ oLyR n w (oD (oOrW n w (-1) 4) t.toNat) ((oD (oOrW n w (-1) 4) t.toNat) 0) (k.toNat + 1) r2 k2 f2 e2 ∧ q = oLn x r2 k2 f2 e2)) ∧ (f2 = 0 ∨ f2 = 1) ∧ (-2147483648 ≤ e2 ∧ e2 < 2147483648)) ∧ oRP cT ad uu ⟨n, a, g, sz, w, n7, a7, g7, sz7, w7, n8, a8, g8, sz8, w8, ff, sf, nx, ms, mn, ma, mg, msz, mw, T, z⟩, fun E uu => ((E = oIA ∧ ¬ ((0 ≤ t ∧ t ≤ 200) ∧ 0 ≤ k ∧ 0 ≤ x ∧ x ≤ 3))) ∧ oRP cT ad uu ⟨n, a, g, sz, w, n7, a7, g7, sz7, w7, n8, a8, g8, sz8, w8, ff, sf, nx, ms, mn, ma, mg, msz, mw, T, z⟩, ⟨_, _, _, _, _, c5_laying hA t k x n a g sz w ld S Ln lr lk lf le ff sf hl0 (Nat.le_refl 76) hL.now.1 hbt hbk hbx hlf hle hP.eO hP.e0 hP.e1 hP.e2 e59 e60 e61 e64, by decide, fun rz u h => ?_, fun E u h => ?_⟩, fun E u h => ?_, fun rz u0 u hOk hu => ?_, fun E u0 u hEx hu => ?_⟩
  · obtain ⟨q, ld2, S2, Ln2, r2, k2, f2, e2, h0, h1, h2, h3, h4, c59, c60, c61, c64, hq⟩ := h
    exact ⟨fun q hq9 => hq q (by omega) (by omega) (by omega) (by omega), ⟨q, r2, k2, f2, e2, h0, h1, h2, h3, h4⟩, hP.scr (fun q j4 j5 j6 j59 j60 j61 j62 j63 j64 => hq q j59 j60 j61 j64) (zc (hq 4 (by decide) (by decide) (by decide) (by decide)) hP.z4) (zc (hq 5 (by decide) (by decide) (by decide) (by decide)) hP.z5) (zc (hq 6 (by decide) (by decide) (by decide) (by decide)) hP.z6) ⟨_, c59⟩ ⟨_, c60⟩ ⟨_, c61⟩ (zc (hq 62 (by decide) (by decide) (by decide) (by decide)) hP.z62) (zc (hq 63 (by decide) (by decide) (by decide) (by decide)) hP.z63) ⟨_, _, _, _, h3, h4, c64⟩⟩
  · obtain ⟨h0, hq⟩ := h
    have hq : ∀ q : Nat, u q = σ q := fun q => by rw [hq]
    exact ⟨fun q hq9 => hq q, h0, hP.congr (fun q _ => hq q)⟩
  · exact Or.inl h.1.1
  · obtain ⟨⟨q, r2, k2, f2, e2, h0, h1, h2, h3, h4⟩, hP1⟩ := hOk
    refine ⟨_, _, _, c6_laying hA t k x z ms spo ou6 rf n a g f7 sz w s F R (Nat.le_refl 76) hL.now.1 hL.now.2.1 hL.now.2.2 hbt hbk hbx ((hu 65 (by decide) (by decide)).trans e65) ((hu 67 (by decide) (by decide)).trans hM.e67) ((hu 72 (by decide) (by decide)).trans q72) ((hu 73 (by decide) (by decide)).trans q73) ((hu 74 (by decide) (by decide)).trans q74), by decide, fun r6 u2 h => ?_⟩
    obtain ⟨v9, r9, s2, F2, R2, h6, hd, c65, c72, c73, c74, hq⟩ := h
    have hM2 : oRM cT ad u2 z ms ⟨f7, T6, fd, fk, kz⟩ := ⟨⟨_, _, _, c65⟩, ((hq 66 (by decide) (by decide) (by decide) (by decide)).trans ((hu 66 (by decide) (by decide)).trans hM.e66)), ((hq 67 (by decide) (by decide) (by decide) (by decide)).trans ((hu 67 (by decide) (by decide)).trans hM.e67)), (zc ((hq 68 (by decide) (by decide) (by decide) (by decide)).trans (hu 68 (by decide) (by decide))) hM.z68), ((hq 69 (by decide) (by decide) (by decide) (by decide)).trans ((hu 69 (by decide) (by decide)).trans hM.e69)), ((hq 70 (by decide) (by decide) (by decide) (by decide)).trans ((hu 70 (by decide) (by decide)).trans hM.e70)), ((hq 71 (by decide) (by decide) (by decide) (by decide)).trans ((hu 71 (by decide) (by decide)).trans hM.e71)), ⟨_, c72⟩, ⟨_, c73⟩, ⟨_, c74⟩⟩
    have hF : oFin cT ad u0 u2 := oFin.mk hP1 hM2 hL
    refine ⟨fun q hq9 => hq q (by omega) (by omega) (by omega) (by omega), r9, z, ms, ⟨_, _, c65⟩, ?_⟩
    rcases hd with ⟨m0, m1, m2⟩ | ⟨m0, m1⟩
    · refine ⟨by rw [m1]; decide, m1, ?_, hF⟩
      rw [h6, h0]
      refine congrArg oI ?_
      rcases h2 with ⟨a1, a2⟩ | ⟨a1, a2, a3⟩
      · rcases m2 with ⟨b1, b2⟩ | ⟨b1, r2', k2', fd', ed', b2, b3, b4⟩
        · rw [b2, a2]
        · exact absurd b1 (Int.not_lt.mpr a1)
      · rcases m2 with ⟨b1, b2⟩ | ⟨b1, r2', k2', fd', ed', b2, b3, b4⟩
        · exact absurd a1 (Int.not_lt.mpr b1)
        · obtain ⟨e4, e5⟩ := oLyR_one _ a2 b2
          obtain ⟨e1, e2, e3⟩ := e5 (by omega)
          rw [b4, a3, e1, e2, e3, e4]
    · first | exact absurd h1 m1 | exact absurd h2 m1 | exact absurd h3 m1 | exact absurd h4 m1 | exact absurd ⟨h1, h2⟩ m1 | exact absurd ⟨h1, h3⟩ m1 | exact absurd ⟨h1, h4⟩ m1 | exact absurd ⟨h2, h1⟩ m1 | exact absurd ⟨h2, h3⟩ m1 | exact absurd ⟨h2, h4⟩ m1 | exact absurd ⟨h3, h1⟩ m1 | exact absurd ⟨h3, h2⟩ m1 | exact absurd ⟨h3, h4⟩ m1 | exact absurd ⟨h4, h1⟩ m1 | exact absurd ⟨h4, h2⟩ m1 | exact absurd ⟨h4, h3⟩ m1
  · obtain ⟨hE, hP1⟩ := hEx
    refine ⟨_, _, _, c6_laying hA t k x z ms spo ou6 rf n a g f7 sz w s F R (Nat.le_refl 76) hL.now.1 hL.now.2.1 hL.now.2.2 hbt hbk hbx ((hu 65 (by decide) (by decide)).trans e65) ((hu 67 (by decide) (by decide)).trans hM.e67) ((hu 72 (by decide) (by decide)).trans q72) ((hu 73 (by decide) (by decide)).trans q73) ((hu 74 (by decide) (by decide)).trans q74), by decide, fun r6 u2 h => ?_⟩
    obtain ⟨v9, r9, s2, F2, R2, h6, hd, c65, c72, c73, c74, hq⟩ := h
    have hM2 : oRM cT ad u2 z ms ⟨f7, T6, fd, fk, kz⟩ := ⟨⟨_, _, _, c65⟩, ((hq 66 (by decide) (by decide) (by decide) (by decide)).trans ((hu 66 (by decide) (by decide)).trans hM.e66)), ((hq 67 (by decide) (by decide) (by decide) (by decide)).trans ((hu 67 (by decide) (by decide)).trans hM.e67)), (zc ((hq 68 (by decide) (by decide) (by decide) (by decide)).trans (hu 68 (by decide) (by decide))) hM.z68), ((hq 69 (by decide) (by decide) (by decide) (by decide)).trans ((hu 69 (by decide) (by decide)).trans hM.e69)), ((hq 70 (by decide) (by decide) (by decide) (by decide)).trans ((hu 70 (by decide) (by decide)).trans hM.e70)), ((hq 71 (by decide) (by decide) (by decide) (by decide)).trans ((hu 71 (by decide) (by decide)).trans hM.e71)), ⟨_, c72⟩, ⟨_, c73⟩, ⟨_, c74⟩⟩
    have hF : oFin cT ad u0 u2 := oFin.mk hP1 hM2 hL
    refine ⟨fun q hq9 => hq q (by omega) (by omega) (by omega) (by omega), r9, z, ms, ⟨_, _, c65⟩, ?_⟩
    rcases hE with ⟨p0, p1⟩
    · rcases hd with ⟨m0, m1, m2⟩ | ⟨m0, m1⟩
      · first | exact absurd m0 p1 | exact absurd m2 p1 | exact absurd ⟨m0, m2⟩ p1 | exact absurd ⟨m2, m0⟩ p1
      · first | exact ⟨by rw [m0]; decide, m0.trans (by rw [p0]; first | exact n1_1 | exact n1_2 | exact n1_3 | exact n1_4), hF⟩
set_option maxRecDepth 100000 in
theorem kX_runScript1 {l : Launch} {D : va_G} {cT : Nat → ClassId} {b0 : Nat} {ad : Nat → Nat} (hA : oAd b0 76 ad) (hl0 : l.stackTraces = false) {σ : Nat → va_E} (hR : oRelC cT ad σ) (sc : Int) (hsc : -9223372036854775808 ≤ sc ∧ sc < 9223372036854775808) :
    oKX l D cT ad b0 σ yX5_runScript cX5_runScript 7 [.ref (ad (0)), .int (oI (1)), .long (oL (sc))] yX6_runScript cX6_runScript 8 [.ref (ad (65)), .int (oI (1)), .long (oL (sc))] oIA oIA := by
  obtain ⟨⟨n, a, g, sz, w, n7, a7, g7, sz7, w7, n8, a8, g8, sz8, w8, ff, sf, nx, ms, mn, ma, mg, msz, mw, T, z⟩, ⟨f7, T6, fd, fk, kz⟩, hP, hM, hL⟩ := hR
  obtain ⟨n6, a6, g6, k0⟩ := hP.z4
  obtain ⟨sz6, k1⟩ := hP.z5
  obtain ⟨w6, k2⟩ := hP.z6
  obtain ⟨ld, e59⟩ := hP.z59
  obtain ⟨wr, e62⟩ := hP.z62
  obtain ⟨gr, e63⟩ := hP.z63
  obtain ⟨S, e60⟩ := hP.z60
  obtain ⟨Ln, e61⟩ := hP.z61
  obtain ⟨rf, spo, ou6, e65⟩ := hM.z65
  obtain ⟨ft, q68⟩ := hM.z68
  obtain ⟨s, q72⟩ := hM.z72
  obtain ⟨F, q73⟩ := hM.z73
  obtain ⟨R, q74⟩ := hM.z74
  refine ⟨fun rr uu => (∃ sz3 : Nat → Nat, ∃ w3 : Nat → Nat, rr = oI ((oScr (oGl3 1 sc.toNat) 0 n a g sz3 w3)) ∧ (0 ≤ sc ∧ sc < 1000000) ∧ (∀ r : Nat, r < n → sz3 r = sz r ∧ w3 r = w r)) ∧ oRP cT ad uu ⟨n, a, g, sz, w, n7, a7, g7, sz7, w7, n8, a8, g8, sz8, w8, ff, sf, nx, ms, mn, ma, mg, msz, mw, T, z⟩, fun E uu => ((E = oIA ∧ ¬ (0 ≤ sc ∧ sc < 1000000))) ∧ oRP cT ad uu ⟨n, a, g, sz, w, n7, a7, g7, sz7, w7, n8, a8, g8, sz8, w8, ff, sf, nx, ms, mn, ma, mg, msz, mw, T, z⟩, ⟨_, _, _, _, _, c5_runScript1 hA sc n a g sz w n6 a6 g6 sz6 w6 ld wr gr S Ln ff sf hl0 (Nat.le_refl 76) hL.now.1 hL.now.2.1 hsc hP.eO hP.e0 hP.e1 hP.e2 k0 k1 k2 e59 e60 e61 e62 e63, by decide, fun rz u h => ?_, fun E u h => ?_⟩, fun E u h => ?_, fun rz u0 u hOk hu => ?_, fun E u0 u hEx hu => ?_⟩
  · obtain ⟨sz3, w3, n1, a1, g1, sz1, w1, ld2, S2, Ln2, w2, gr2, h0, h1, h2, c4, c5, c6, c59, c60, c61, c62, c63, hq⟩ := h
    exact ⟨fun q hq9 => hq q (by omega) (by omega) (by omega) (by omega) (by omega) (by omega) (by omega) (by omega), ⟨sz3, w3, h0, h1, h2⟩, hP.scr (fun q j4 j5 j6 j59 j60 j61 j62 j63 j64 => hq q j4 j5 j6 j59 j60 j61 j62 j63) ⟨_, _, _, c4⟩ ⟨_, c5⟩ ⟨_, c6⟩ ⟨_, c59⟩ ⟨_, c60⟩ ⟨_, c61⟩ ⟨_, c62⟩ ⟨_, c63⟩ (zc (hq 64 (by decide) (by decide) (by decide) (by decide) (by decide) (by decide) (by decide) (by decide)) hP.z64)⟩
  · obtain ⟨h0, hq⟩ := h
    have hq : ∀ q : Nat, u q = σ q := fun q => by rw [hq]
    exact ⟨fun q hq9 => hq q, h0, hP.congr (fun q _ => hq q)⟩
  · exact Or.inl h.1.1
  · obtain ⟨⟨sz3, w3, h0, h1, h2⟩, hP1⟩ := hOk
    refine ⟨_, _, _, c6_runScript1 hA sc z ms spo ou6 rf n a g f7 sz3 w3 ft s F R (Nat.le_refl 76) (hL.now.1.congr h2) hL.now.2.1 (oRS_eq hL.now.2.2 h2) hsc ((hu 65 (by decide) (by decide)).trans e65) ((hu 67 (by decide) (by decide)).trans hM.e67) ((hu 68 (by decide) (by decide)).trans q68) ((hu 72 (by decide) (by decide)).trans q72) ((hu 73 (by decide) (by decide)).trans q73) ((hu 74 (by decide) (by decide)).trans q74), by decide, fun r6 u2 h => ?_⟩
    obtain ⟨v9, r9, g8, s2, F2, R2, h6, hd, c65, c68, c72, c73, c74, hq⟩ := h
    have hM2 : oRM cT ad u2 z ms ⟨f7, T6, fd, fk, kz⟩ := ⟨⟨_, _, _, c65⟩, ((hq 66 (by decide) (by decide) (by decide) (by decide) (by decide)).trans ((hu 66 (by decide) (by decide)).trans hM.e66)), ((hq 67 (by decide) (by decide) (by decide) (by decide) (by decide)).trans ((hu 67 (by decide) (by decide)).trans hM.e67)), ⟨_, c68⟩, ((hq 69 (by decide) (by decide) (by decide) (by decide) (by decide)).trans ((hu 69 (by decide) (by decide)).trans hM.e69)), ((hq 70 (by decide) (by decide) (by decide) (by decide) (by decide)).trans ((hu 70 (by decide) (by decide)).trans hM.e70)), ((hq 71 (by decide) (by decide) (by decide) (by decide) (by decide)).trans ((hu 71 (by decide) (by decide)).trans hM.e71)), ⟨_, c72⟩, ⟨_, c73⟩, ⟨_, c74⟩⟩
    have hF : oFin cT ad u0 u2 := oFin.mk hP1 hM2 hL
    refine ⟨fun q hq9 => hq q (by omega) (by omega) (by omega) (by omega) (by omega), r9, z, ms, ⟨_, _, c65⟩, ?_⟩
    rcases hd with ⟨m0, m1, m2⟩ | ⟨m0, m1⟩
    · exact ⟨by rw [m1]; decide, m1, by rw [h6, h0, m2], hF⟩
    · first | exact absurd h1 m1 | exact absurd h2 m1 | exact absurd ⟨h1, h2⟩ m1 | exact absurd ⟨h2, h1⟩ m1
  · obtain ⟨hE, hP1⟩ := hEx
    refine ⟨_, _, _, c6_runScript1 hA sc z ms spo ou6 rf n a g f7 sz w ft s F R (Nat.le_refl 76) hL.now.1 hL.now.2.1 hL.now.2.2 hsc ((hu 65 (by decide) (by decide)).trans e65) ((hu 67 (by decide) (by decide)).trans hM.e67) ((hu 68 (by decide) (by decide)).trans q68) ((hu 72 (by decide) (by decide)).trans q72) ((hu 73 (by decide) (by decide)).trans q73) ((hu 74 (by decide) (by decide)).trans q74), by decide, fun r6 u2 h => ?_⟩
    obtain ⟨v9, r9, g8, s2, F2, R2, h6, hd, c65, c68, c72, c73, c74, hq⟩ := h
    have hM2 : oRM cT ad u2 z ms ⟨f7, T6, fd, fk, kz⟩ := ⟨⟨_, _, _, c65⟩, ((hq 66 (by decide) (by decide) (by decide) (by decide) (by decide)).trans ((hu 66 (by decide) (by decide)).trans hM.e66)), ((hq 67 (by decide) (by decide) (by decide) (by decide) (by decide)).trans ((hu 67 (by decide) (by decide)).trans hM.e67)), ⟨_, c68⟩, ((hq 69 (by decide) (by decide) (by decide) (by decide) (by decide)).trans ((hu 69 (by decide) (by decide)).trans hM.e69)), ((hq 70 (by decide) (by decide) (by decide) (by decide) (by decide)).trans ((hu 70 (by decide) (by decide)).trans hM.e70)), ((hq 71 (by decide) (by decide) (by decide) (by decide) (by decide)).trans ((hu 71 (by decide) (by decide)).trans hM.e71)), ⟨_, c72⟩, ⟨_, c73⟩, ⟨_, c74⟩⟩
    have hF : oFin cT ad u0 u2 := oFin.mk hP1 hM2 hL
    refine ⟨fun q hq9 => hq q (by omega) (by omega) (by omega) (by omega) (by omega), r9, z, ms, ⟨_, _, c65⟩, ?_⟩
    rcases hE with ⟨p0, p1⟩
    · rcases hd with ⟨m0, m1, m2⟩ | ⟨m0, m1⟩
      · first | exact absurd m0 p1 | exact absurd m2 p1 | exact absurd ⟨m0, m2⟩ p1 | exact absurd ⟨m2, m0⟩ p1
      · first | exact ⟨by rw [m0]; decide, m0.trans (by rw [p0]; first | exact n1_1 | exact n1_2 | exact n1_3 | exact n1_4), hF⟩
set_option maxRecDepth 100000 in
theorem kX_runScript2 {l : Launch} {D : va_G} {cT : Nat → ClassId} {b0 : Nat} {ad : Nat → Nat} (hA : oAd b0 76 ad) (hl0 : l.stackTraces = false) {σ : Nat → va_E} (hR : oRelC cT ad σ) (sc : Int) (hsc : -9223372036854775808 ≤ sc ∧ sc < 9223372036854775808) :
    oKX l D cT ad b0 σ yX5_runScript cX5_runScript 7 [.ref (ad (0)), .int (oI (2)), .long (oL (sc))] yX6_runScript cX6_runScript 8 [.ref (ad (65)), .int (oI (2)), .long (oL (sc))] oIA oIA := by
  obtain ⟨⟨n, a, g, sz, w, n7, a7, g7, sz7, w7, n8, a8, g8, sz8, w8, ff, sf, nx, ms, mn, ma, mg, msz, mw, T, z⟩, ⟨f7, T6, fd, fk, kz⟩, hP, hM, hL⟩ := hR
  obtain ⟨n6, a6, g6, k0⟩ := hP.z4
  obtain ⟨sz6, k1⟩ := hP.z5
  obtain ⟨w6, k2⟩ := hP.z6
  obtain ⟨ld, e59⟩ := hP.z59
  obtain ⟨wr, e62⟩ := hP.z62
  obtain ⟨gr, e63⟩ := hP.z63
  obtain ⟨S, e60⟩ := hP.z60
  obtain ⟨Ln, e61⟩ := hP.z61
  obtain ⟨rf, spo, ou6, e65⟩ := hM.z65
  obtain ⟨ft, q68⟩ := hM.z68
  obtain ⟨s, q72⟩ := hM.z72
  obtain ⟨F, q73⟩ := hM.z73
  obtain ⟨R, q74⟩ := hM.z74
  refine ⟨fun rr uu => (∃ sz3 : Nat → Nat, ∃ w3 : Nat → Nat, rr = oI ((oScr (oGl3 2 sc.toNat) 0 n a g sz3 w3)) ∧ (0 ≤ sc ∧ sc < 1000000000000) ∧ (∀ r : Nat, r < n → sz3 r = sz r ∧ w3 r = w r)) ∧ oRP cT ad uu ⟨n, a, g, sz, w, n7, a7, g7, sz7, w7, n8, a8, g8, sz8, w8, ff, sf, nx, ms, mn, ma, mg, msz, mw, T, z⟩, fun E uu => ((E = oIA ∧ ¬ (0 ≤ sc ∧ sc < 1000000000000))) ∧ oRP cT ad uu ⟨n, a, g, sz, w, n7, a7, g7, sz7, w7, n8, a8, g8, sz8, w8, ff, sf, nx, ms, mn, ma, mg, msz, mw, T, z⟩, ⟨_, _, _, _, _, c5_runScript2 hA sc n a g sz w n6 a6 g6 sz6 w6 ld wr gr S Ln ff sf hl0 (Nat.le_refl 76) hL.now.1 hL.now.2.1 hsc hP.eO hP.e0 hP.e1 hP.e2 k0 k1 k2 e59 e60 e61 e62 e63, by decide, fun rz u h => ?_, fun E u h => ?_⟩, fun E u h => ?_, fun rz u0 u hOk hu => ?_, fun E u0 u hEx hu => ?_⟩
  · obtain ⟨sz3, w3, n1, a1, g1, sz1, w1, ld2, S2, Ln2, w2, gr2, h0, h1, h2, c4, c5, c6, c59, c60, c61, c62, c63, hq⟩ := h
    exact ⟨fun q hq9 => hq q (by omega) (by omega) (by omega) (by omega) (by omega) (by omega) (by omega) (by omega), ⟨sz3, w3, h0, h1, h2⟩, hP.scr (fun q j4 j5 j6 j59 j60 j61 j62 j63 j64 => hq q j4 j5 j6 j59 j60 j61 j62 j63) ⟨_, _, _, c4⟩ ⟨_, c5⟩ ⟨_, c6⟩ ⟨_, c59⟩ ⟨_, c60⟩ ⟨_, c61⟩ ⟨_, c62⟩ ⟨_, c63⟩ (zc (hq 64 (by decide) (by decide) (by decide) (by decide) (by decide) (by decide) (by decide) (by decide)) hP.z64)⟩
  · obtain ⟨h0, hq⟩ := h
    have hq : ∀ q : Nat, u q = σ q := fun q => by rw [hq]
    exact ⟨fun q hq9 => hq q, h0, hP.congr (fun q _ => hq q)⟩
  · exact Or.inl h.1.1
  · obtain ⟨⟨sz3, w3, h0, h1, h2⟩, hP1⟩ := hOk
    refine ⟨_, _, _, c6_runScript2 hA sc z ms spo ou6 rf n a g f7 sz3 w3 ft s F R (Nat.le_refl 76) (hL.now.1.congr h2) hL.now.2.1 (oRS_eq hL.now.2.2 h2) hsc ((hu 65 (by decide) (by decide)).trans e65) ((hu 67 (by decide) (by decide)).trans hM.e67) ((hu 68 (by decide) (by decide)).trans q68) ((hu 72 (by decide) (by decide)).trans q72) ((hu 73 (by decide) (by decide)).trans q73) ((hu 74 (by decide) (by decide)).trans q74), by decide, fun r6 u2 h => ?_⟩
    obtain ⟨v9, r9, g8, s2, F2, R2, h6, hd, c65, c68, c72, c73, c74, hq⟩ := h
    have hM2 : oRM cT ad u2 z ms ⟨f7, T6, fd, fk, kz⟩ := ⟨⟨_, _, _, c65⟩, ((hq 66 (by decide) (by decide) (by decide) (by decide) (by decide)).trans ((hu 66 (by decide) (by decide)).trans hM.e66)), ((hq 67 (by decide) (by decide) (by decide) (by decide) (by decide)).trans ((hu 67 (by decide) (by decide)).trans hM.e67)), ⟨_, c68⟩, ((hq 69 (by decide) (by decide) (by decide) (by decide) (by decide)).trans ((hu 69 (by decide) (by decide)).trans hM.e69)), ((hq 70 (by decide) (by decide) (by decide) (by decide) (by decide)).trans ((hu 70 (by decide) (by decide)).trans hM.e70)), ((hq 71 (by decide) (by decide) (by decide) (by decide) (by decide)).trans ((hu 71 (by decide) (by decide)).trans hM.e71)), ⟨_, c72⟩, ⟨_, c73⟩, ⟨_, c74⟩⟩
    have hF : oFin cT ad u0 u2 := oFin.mk hP1 hM2 hL
    refine ⟨fun q hq9 => hq q (by omega) (by omega) (by omega) (by omega) (by omega), r9, z, ms, ⟨_, _, c65⟩, ?_⟩
    rcases hd with ⟨m0, m1, m2⟩ | ⟨m0, m1⟩
    · exact ⟨by rw [m1]; decide, m1, by rw [h6, h0, m2], hF⟩
    · first | exact absurd h1 m1 | exact absurd h2 m1 | exact absurd ⟨h1, h2⟩ m1 | exact absurd ⟨h2, h1⟩ m1
  · obtain ⟨hE, hP1⟩ := hEx
    refine ⟨_, _, _, c6_runScript2 hA sc z ms spo ou6 rf n a g f7 sz w ft s F R (Nat.le_refl 76) hL.now.1 hL.now.2.1 hL.now.2.2 hsc ((hu 65 (by decide) (by decide)).trans e65) ((hu 67 (by decide) (by decide)).trans hM.e67) ((hu 68 (by decide) (by decide)).trans q68) ((hu 72 (by decide) (by decide)).trans q72) ((hu 73 (by decide) (by decide)).trans q73) ((hu 74 (by decide) (by decide)).trans q74), by decide, fun r6 u2 h => ?_⟩
    obtain ⟨v9, r9, g8, s2, F2, R2, h6, hd, c65, c68, c72, c73, c74, hq⟩ := h
    have hM2 : oRM cT ad u2 z ms ⟨f7, T6, fd, fk, kz⟩ := ⟨⟨_, _, _, c65⟩, ((hq 66 (by decide) (by decide) (by decide) (by decide) (by decide)).trans ((hu 66 (by decide) (by decide)).trans hM.e66)), ((hq 67 (by decide) (by decide) (by decide) (by decide) (by decide)).trans ((hu 67 (by decide) (by decide)).trans hM.e67)), ⟨_, c68⟩, ((hq 69 (by decide) (by decide) (by decide) (by decide) (by decide)).trans ((hu 69 (by decide) (by decide)).trans hM.e69)), ((hq 70 (by decide) (by decide) (by decide) (by decide) (by decide)).trans ((hu 70 (by decide) (by decide)).trans hM.e70)), ((hq 71 (by decide) (by decide) (by decide) (by decide) (by decide)).trans ((hu 71 (by decide) (by decide)).trans hM.e71)), ⟨_, c72⟩, ⟨_, c73⟩, ⟨_, c74⟩⟩
    have hF : oFin cT ad u0 u2 := oFin.mk hP1 hM2 hL
    refine ⟨fun q hq9 => hq q (by omega) (by omega) (by omega) (by omega) (by omega), r9, z, ms, ⟨_, _, c65⟩, ?_⟩
    rcases hE with ⟨p0, p1⟩
    · rcases hd with ⟨m0, m1, m2⟩ | ⟨m0, m1⟩
      · first | exact absurd m0 p1 | exact absurd m2 p1 | exact absurd ⟨m0, m2⟩ p1 | exact absurd ⟨m2, m0⟩ p1
      · first | exact ⟨by rw [m0]; decide, m0.trans (by rw [p0]; first | exact n1_1 | exact n1_2 | exact n1_3 | exact n1_4), hF⟩
set_option maxRecDepth 100000 in
theorem kX_runScript3 {l : Launch} {D : va_G} {cT : Nat → ClassId} {b0 : Nat} {ad : Nat → Nat} (hA : oAd b0 76 ad) (hl0 : l.stackTraces = false) {σ : Nat → va_E} (hR : oRelC cT ad σ) (sc : Int) (hsc : -9223372036854775808 ≤ sc ∧ sc < 9223372036854775808) :
    oKX l D cT ad b0 σ yX5_runScript cX5_runScript 7 [.ref (ad (0)), .int (oI (3)), .long (oL (sc))] yX6_runScript cX6_runScript 8 [.ref (ad (65)), .int (oI (3)), .long (oL (sc))] oIA oIA := by
  obtain ⟨⟨n, a, g, sz, w, n7, a7, g7, sz7, w7, n8, a8, g8, sz8, w8, ff, sf, nx, ms, mn, ma, mg, msz, mw, T, z⟩, ⟨f7, T6, fd, fk, kz⟩, hP, hM, hL⟩ := hR
  obtain ⟨n6, a6, g6, k0⟩ := hP.z4
  obtain ⟨sz6, k1⟩ := hP.z5
  obtain ⟨w6, k2⟩ := hP.z6
  obtain ⟨ld, e59⟩ := hP.z59
  obtain ⟨wr, e62⟩ := hP.z62
  obtain ⟨gr, e63⟩ := hP.z63
  obtain ⟨S, e60⟩ := hP.z60
  obtain ⟨Ln, e61⟩ := hP.z61
  obtain ⟨rf, spo, ou6, e65⟩ := hM.z65
  obtain ⟨ft, q68⟩ := hM.z68
  obtain ⟨s, q72⟩ := hM.z72
  obtain ⟨F, q73⟩ := hM.z73
  obtain ⟨R, q74⟩ := hM.z74
  refine ⟨fun rr uu => (∃ sz3 : Nat → Nat, ∃ w3 : Nat → Nat, rr = oI ((oScr (oGl3 3 sc.toNat) 0 n a g sz3 w3)) ∧ (0 ≤ sc ∧ sc < 1000000000000000000) ∧ (∀ r : Nat, r < n → sz3 r = sz r ∧ w3 r = w r)) ∧ oRP cT ad uu ⟨n, a, g, sz, w, n7, a7, g7, sz7, w7, n8, a8, g8, sz8, w8, ff, sf, nx, ms, mn, ma, mg, msz, mw, T, z⟩, fun E uu => ((E = oIA ∧ ¬ (0 ≤ sc ∧ sc < 1000000000000000000))) ∧ oRP cT ad uu ⟨n, a, g, sz, w, n7, a7, g7, sz7, w7, n8, a8, g8, sz8, w8, ff, sf, nx, ms, mn, ma, mg, msz, mw, T, z⟩, ⟨_, _, _, _, _, c5_runScript3 hA sc n a g sz w n6 a6 g6 sz6 w6 ld wr gr S Ln ff sf hl0 (Nat.le_refl 76) hL.now.1 hL.now.2.1 hsc hP.eO hP.e0 hP.e1 hP.e2 k0 k1 k2 e59 e60 e61 e62 e63, by decide, fun rz u h => ?_, fun E u h => ?_⟩, fun E u h => ?_, fun rz u0 u hOk hu => ?_, fun E u0 u hEx hu => ?_⟩
  · obtain ⟨sz3, w3, n1, a1, g1, sz1, w1, ld2, S2, Ln2, w2, gr2, h0, h1, h2, c4, c5, c6, c59, c60, c61, c62, c63, hq⟩ := h
    exact ⟨fun q hq9 => hq q (by omega) (by omega) (by omega) (by omega) (by omega) (by omega) (by omega) (by omega), ⟨sz3, w3, h0, h1, h2⟩, hP.scr (fun q j4 j5 j6 j59 j60 j61 j62 j63 j64 => hq q j4 j5 j6 j59 j60 j61 j62 j63) ⟨_, _, _, c4⟩ ⟨_, c5⟩ ⟨_, c6⟩ ⟨_, c59⟩ ⟨_, c60⟩ ⟨_, c61⟩ ⟨_, c62⟩ ⟨_, c63⟩ (zc (hq 64 (by decide) (by decide) (by decide) (by decide) (by decide) (by decide) (by decide) (by decide)) hP.z64)⟩
  · obtain ⟨h0, hq⟩ := h
    have hq : ∀ q : Nat, u q = σ q := fun q => by rw [hq]
    exact ⟨fun q hq9 => hq q, h0, hP.congr (fun q _ => hq q)⟩
  · exact Or.inl h.1.1
  · obtain ⟨⟨sz3, w3, h0, h1, h2⟩, hP1⟩ := hOk
    refine ⟨_, _, _, c6_runScript3 hA sc z ms spo ou6 rf n a g f7 sz3 w3 ft s F R (Nat.le_refl 76) (hL.now.1.congr h2) hL.now.2.1 (oRS_eq hL.now.2.2 h2) hsc ((hu 65 (by decide) (by decide)).trans e65) ((hu 67 (by decide) (by decide)).trans hM.e67) ((hu 68 (by decide) (by decide)).trans q68) ((hu 72 (by decide) (by decide)).trans q72) ((hu 73 (by decide) (by decide)).trans q73) ((hu 74 (by decide) (by decide)).trans q74), by decide, fun r6 u2 h => ?_⟩
    obtain ⟨v9, r9, g8, s2, F2, R2, h6, hd, c65, c68, c72, c73, c74, hq⟩ := h
    have hM2 : oRM cT ad u2 z ms ⟨f7, T6, fd, fk, kz⟩ := ⟨⟨_, _, _, c65⟩, ((hq 66 (by decide) (by decide) (by decide) (by decide) (by decide)).trans ((hu 66 (by decide) (by decide)).trans hM.e66)), ((hq 67 (by decide) (by decide) (by decide) (by decide) (by decide)).trans ((hu 67 (by decide) (by decide)).trans hM.e67)), ⟨_, c68⟩, ((hq 69 (by decide) (by decide) (by decide) (by decide) (by decide)).trans ((hu 69 (by decide) (by decide)).trans hM.e69)), ((hq 70 (by decide) (by decide) (by decide) (by decide) (by decide)).trans ((hu 70 (by decide) (by decide)).trans hM.e70)), ((hq 71 (by decide) (by decide) (by decide) (by decide) (by decide)).trans ((hu 71 (by decide) (by decide)).trans hM.e71)), ⟨_, c72⟩, ⟨_, c73⟩, ⟨_, c74⟩⟩
    have hF : oFin cT ad u0 u2 := oFin.mk hP1 hM2 hL
    refine ⟨fun q hq9 => hq q (by omega) (by omega) (by omega) (by omega) (by omega), r9, z, ms, ⟨_, _, c65⟩, ?_⟩
    rcases hd with ⟨m0, m1, m2⟩ | ⟨m0, m1⟩
    · exact ⟨by rw [m1]; decide, m1, by rw [h6, h0, m2], hF⟩
    · first | exact absurd h1 m1 | exact absurd h2 m1 | exact absurd ⟨h1, h2⟩ m1 | exact absurd ⟨h2, h1⟩ m1
  · obtain ⟨hE, hP1⟩ := hEx
    refine ⟨_, _, _, c6_runScript3 hA sc z ms spo ou6 rf n a g f7 sz w ft s F R (Nat.le_refl 76) hL.now.1 hL.now.2.1 hL.now.2.2 hsc ((hu 65 (by decide) (by decide)).trans e65) ((hu 67 (by decide) (by decide)).trans hM.e67) ((hu 68 (by decide) (by decide)).trans q68) ((hu 72 (by decide) (by decide)).trans q72) ((hu 73 (by decide) (by decide)).trans q73) ((hu 74 (by decide) (by decide)).trans q74), by decide, fun r6 u2 h => ?_⟩
    obtain ⟨v9, r9, g8, s2, F2, R2, h6, hd, c65, c68, c72, c73, c74, hq⟩ := h
    have hM2 : oRM cT ad u2 z ms ⟨f7, T6, fd, fk, kz⟩ := ⟨⟨_, _, _, c65⟩, ((hq 66 (by decide) (by decide) (by decide) (by decide) (by decide)).trans ((hu 66 (by decide) (by decide)).trans hM.e66)), ((hq 67 (by decide) (by decide) (by decide) (by decide) (by decide)).trans ((hu 67 (by decide) (by decide)).trans hM.e67)), ⟨_, c68⟩, ((hq 69 (by decide) (by decide) (by decide) (by decide) (by decide)).trans ((hu 69 (by decide) (by decide)).trans hM.e69)), ((hq 70 (by decide) (by decide) (by decide) (by decide) (by decide)).trans ((hu 70 (by decide) (by decide)).trans hM.e70)), ((hq 71 (by decide) (by decide) (by decide) (by decide) (by decide)).trans ((hu 71 (by decide) (by decide)).trans hM.e71)), ⟨_, c72⟩, ⟨_, c73⟩, ⟨_, c74⟩⟩
    have hF : oFin cT ad u0 u2 := oFin.mk hP1 hM2 hL
    refine ⟨fun q hq9 => hq q (by omega) (by omega) (by omega) (by omega) (by omega), r9, z, ms, ⟨_, _, c65⟩, ?_⟩
    rcases hE with ⟨p0, p1⟩
    · rcases hd with ⟨m0, m1, m2⟩ | ⟨m0, m1⟩
      · first | exact absurd m0 p1 | exact absurd m2 p1 | exact absurd ⟨m0, m2⟩ p1 | exact absurd ⟨m2, m0⟩ p1
      · first | exact ⟨by rw [m0]; decide, m0.trans (by rw [p0]; first | exact n1_1 | exact n1_2 | exact n1_3 | exact n1_4), hF⟩
set_option maxRecDepth 100000 in
theorem kX_simulate {l : Launch} {D : va_G} {cT : Nat → ClassId} {b0 : Nat} {ad : Nat → Nat} (hA : oAd b0 76 ad) (hl0 : l.stackTraces = false) {σ : Nat → va_E} (hR : oRelC cT ad σ) (sd : Nat) (x : Int) (hsd : sd < 2 ^ 64) (hbx : -2147483648 ≤ x ∧ x < 2147483648) :
    oKX l D cT ad b0 σ yX5_simulate cX5_simulate 7 [.ref (ad (0)), .long (lN (sd)), .int (oI (x))] yX6_simulate cX6_simulate 7 [.ref (ad (65)), .long (lN (sd)), .int (oI (x))] oIA oIA := by
  obtain ⟨⟨n, a, g, sz, w, n7, a7, g7, sz7, w7, n8, a8, g8, sz8, w8, ff, sf, nx, ms, mn, ma, mg, msz, mw, T, z⟩, ⟨f7, T6, fd, fk, kz⟩, hP, hM, hL⟩ := hR
  obtain ⟨n6, a6, g6, k0⟩ := hP.z4
  obtain ⟨sz6, k1⟩ := hP.z5
  obtain ⟨w6, k2⟩ := hP.z6
  obtain ⟨ld, e59⟩ := hP.z59
  obtain ⟨wr, e62⟩ := hP.z62
  obtain ⟨gr, e63⟩ := hP.z63
  obtain ⟨rf, spo, ou6, e65⟩ := hM.z65
  obtain ⟨ft, q68⟩ := hM.z68
  obtain ⟨s, q72⟩ := hM.z72
  obtain ⟨F, q73⟩ := hM.z73
  obtain ⟨R, q74⟩ := hM.z74
  refine ⟨fun rr uu => (∃ sz3 : Nat → Nat, ∃ w3 : Nat → Nat, ∃ y1 : Nat, ∃ n1 : Nat, ∃ a1 : Nat, ∃ g1 : Nat, ∃ sz1 : Nat → Nat, ∃ w1 : Nat → Nat, rr = oI (((n1 : Nat) : Int) + 10000 * ((oAllM n1 w1 4 : Nat) : Int) + 10 * ((oCnt (oOrW n1 w1 (-1) 4) a1 g1 : Nat) : Int)) ∧ (1 ≤ x ∧ x ≤ 60) ∧ (∀ r : Nat, r < n → sz3 r = sz r ∧ w3 r = w r) ∧ (oSim sd n a g sz3 w3 x.toNat = (y1, n1, a1, g1, sz1, w1))) ∧ oRP cT ad uu ⟨n, a, g, sz, w, n7, a7, g7, sz7, w7, n8, a8, g8, sz8, w8, ff, sf, nx, ms, mn, ma, mg, msz, mw, T, z⟩, fun E uu => ((E = oIA ∧ ¬ (1 ≤ x ∧ x ≤ 60))) ∧ oRP cT ad uu ⟨n, a, g, sz, w, n7, a7, g7, sz7, w7, n8, a8, g8, sz8, w8, ff, sf, nx, ms, mn, ma, mg, msz, mw, T, z⟩, ⟨_, _, _, _, _, c5_simulate hA sd x n a g sz w n6 a6 g6 sz6 w6 ld wr gr ff sf hl0 (Nat.le_refl 76) hL.now.1 hL.now.2.1 hsd hbx hP.eO hP.e0 hP.e1 hP.e2 k0 k1 k2 e59 e62 e63, by decide, fun rz u h => ?_, fun E u h => ?_⟩, fun E u h => ?_, fun rz u0 u hOk hu => ?_, fun E u0 u hEx hu => ?_⟩
  · obtain ⟨sz3, w3, y1, n1, a1, g1, sz1, w1, w2, gr2, h0, h1, h2, h3, c4, c5, c6, c62, c63, hq⟩ := h
    exact ⟨fun q hq9 => hq q (by omega) (by omega) (by omega) (by omega) (by omega), ⟨sz3, w3, y1, n1, a1, g1, sz1, w1, h0, h1, h2, h3⟩, hP.scr (fun q j4 j5 j6 j59 j60 j61 j62 j63 j64 => hq q j4 j5 j6 j62 j63) ⟨_, _, _, c4⟩ ⟨_, c5⟩ ⟨_, c6⟩ (zc (hq 59 (by decide) (by decide) (by decide) (by decide) (by decide)) hP.z59) (zc (hq 60 (by decide) (by decide) (by decide) (by decide) (by decide)) hP.z60) (zc (hq 61 (by decide) (by decide) (by decide) (by decide) (by decide)) hP.z61) ⟨_, c62⟩ ⟨_, c63⟩ (zc (hq 64 (by decide) (by decide) (by decide) (by decide) (by decide)) hP.z64)⟩
  · obtain ⟨h0, hq⟩ := h
    have hq : ∀ q : Nat, u q = σ q := fun q => by rw [hq]
    exact ⟨fun q hq9 => hq q, h0, hP.congr (fun q _ => hq q)⟩
  · exact Or.inl h.1.1
  · obtain ⟨⟨sz3, w3, y1, n1, a1, g1, sz1, w1, h0, h1, h2, h3⟩, hP1⟩ := hOk
    refine ⟨_, _, _, c6_simulate hA sd x z ms spo ou6 rf n a g f7 sz3 w3 ft s F R (Nat.le_refl 76) (hL.now.1.congr h2) hL.now.2.1 (oRS_eq hL.now.2.2 h2) hsd hbx ((hu 65 (by decide) (by decide)).trans e65) ((hu 67 (by decide) (by decide)).trans hM.e67) ((hu 68 (by decide) (by decide)).trans q68) ((hu 72 (by decide) (by decide)).trans q72) ((hu 73 (by decide) (by decide)).trans q73) ((hu 74 (by decide) (by decide)).trans q74), by decide, fun r6 u2 h => ?_⟩
    obtain ⟨v9, r9, g8, s2, F2, R2, h6, hd, c65, c68, c72, c73, c74, hq⟩ := h
    have hM2 : oRM cT ad u2 z ms ⟨f7, T6, fd, fk, kz⟩ := ⟨⟨_, _, _, c65⟩, ((hq 66 (by decide) (by decide) (by decide) (by decide) (by decide)).trans ((hu 66 (by decide) (by decide)).trans hM.e66)), ((hq 67 (by decide) (by decide) (by decide) (by decide) (by decide)).trans ((hu 67 (by decide) (by decide)).trans hM.e67)), ⟨_, c68⟩, ((hq 69 (by decide) (by decide) (by decide) (by decide) (by decide)).trans ((hu 69 (by decide) (by decide)).trans hM.e69)), ((hq 70 (by decide) (by decide) (by decide) (by decide) (by decide)).trans ((hu 70 (by decide) (by decide)).trans hM.e70)), ((hq 71 (by decide) (by decide) (by decide) (by decide) (by decide)).trans ((hu 71 (by decide) (by decide)).trans hM.e71)), ⟨_, c72⟩, ⟨_, c73⟩, ⟨_, c74⟩⟩
    have hF : oFin cT ad u0 u2 := oFin.mk hP1 hM2 hL
    refine ⟨fun q hq9 => hq q (by omega) (by omega) (by omega) (by omega) (by omega), r9, z, ms, ⟨_, _, c65⟩, ?_⟩
    rcases hd with ⟨m0, m1, m2⟩ | ⟨m0, m1⟩
    · refine ⟨by rw [m1]; decide, m1, ?_, hF⟩
      obtain ⟨y9, n9, a9, g9, sz9, w9, b1, b2⟩ := m2
      have b3 := h3.symm.trans b1
      simp only [Prod.mk.injEq] at b3
      obtain ⟨_, b4, b5, b6, b7, b8⟩ := b3
      rw [h6, h0, b2, b4, b5, b6, b8]
    · first | exact absurd h1 m1 | exact absurd h2 m1 | exact absurd h3 m1 | exact absurd ⟨h1, h2⟩ m1 | exact absurd ⟨h1, h3⟩ m1 | exact absurd ⟨h2, h1⟩ m1 | exact absurd ⟨h2, h3⟩ m1 | exact absurd ⟨h3, h1⟩ m1 | exact absurd ⟨h3, h2⟩ m1
  · obtain ⟨hE, hP1⟩ := hEx
    refine ⟨_, _, _, c6_simulate hA sd x z ms spo ou6 rf n a g f7 sz w ft s F R (Nat.le_refl 76) hL.now.1 hL.now.2.1 hL.now.2.2 hsd hbx ((hu 65 (by decide) (by decide)).trans e65) ((hu 67 (by decide) (by decide)).trans hM.e67) ((hu 68 (by decide) (by decide)).trans q68) ((hu 72 (by decide) (by decide)).trans q72) ((hu 73 (by decide) (by decide)).trans q73) ((hu 74 (by decide) (by decide)).trans q74), by decide, fun r6 u2 h => ?_⟩
    obtain ⟨v9, r9, g8, s2, F2, R2, h6, hd, c65, c68, c72, c73, c74, hq⟩ := h
    have hM2 : oRM cT ad u2 z ms ⟨f7, T6, fd, fk, kz⟩ := ⟨⟨_, _, _, c65⟩, ((hq 66 (by decide) (by decide) (by decide) (by decide) (by decide)).trans ((hu 66 (by decide) (by decide)).trans hM.e66)), ((hq 67 (by decide) (by decide) (by decide) (by decide) (by decide)).trans ((hu 67 (by decide) (by decide)).trans hM.e67)), ⟨_, c68⟩, ((hq 69 (by decide) (by decide) (by decide) (by decide) (by decide)).trans ((hu 69 (by decide) (by decide)).trans hM.e69)), ((hq 70 (by decide) (by decide) (by decide) (by decide) (by decide)).trans ((hu 70 (by decide) (by decide)).trans hM.e70)), ((hq 71 (by decide) (by decide) (by decide) (by decide) (by decide)).trans ((hu 71 (by decide) (by decide)).trans hM.e71)), ⟨_, c72⟩, ⟨_, c73⟩, ⟨_, c74⟩⟩
    have hF : oFin cT ad u0 u2 := oFin.mk hP1 hM2 hL
    refine ⟨fun q hq9 => hq q (by omega) (by omega) (by omega) (by omega) (by omega), r9, z, ms, ⟨_, _, c65⟩, ?_⟩
    rcases hE with ⟨p0, p1⟩
    · rcases hd with ⟨m0, m1, m2⟩ | ⟨m0, m1⟩
      · first | exact absurd m0 p1 | exact absurd m2 p1 | exact absurd ⟨m0, m2⟩ p1 | exact absurd ⟨m2, m0⟩ p1
      · first | exact ⟨by rw [m0]; decide, m0.trans (by rw [p0]; first | exact n1_1 | exact n1_2 | exact n1_3 | exact n1_4), hF⟩
