def oKY (l : Launch) (D : va_G) (cT : Nat → ClassId) (ad : Nat → Nat) (b0 : Nat) (σ : Nat → va_E) (y5 : MethodName) (c5 : ByteArray) (m5 : Nat) (As5 : List Value) (y6 : MethodName) (c6 : ByteArray) (m6 : Nat) (As6 : List Value) : Prop :=
  ∃ (Ok : Int32 → (Nat → va_E) → Prop), (∃ (post : Int32 → (Nat → va_E) → Prop) (FR LO : Nat), oCi l D cT 76 ad b0 y5 c5 m5 (some .int) FR LO As5 σ post ∧ (FR ≤ 8 ∧ LO ≤ 160) ∧ ∀ (r : Int32) (u : Nat → va_E), post r u → (∀ q : Nat, 65 ≤ q → u q = σ q) ∧ Ok r u) ∧
    ∀ (r : Int32) (u : Nat → va_E), Ok r u → (∀ q : Nat, 65 ≤ q → q ≠ 75 → u q = σ q) → oQ6 l D cT ad b0 u y6 c6 m6 As6 (fun r6 _ u2 => r6 = r ∧ oFin cT ad u u2)
set_option maxRecDepth 100000 in
theorem kX_clearText {l : Launch} {D : va_G} {cT : Nat → ClassId} {b0 : Nat} {ad : Nat → Nat} (hA : oAd b0 76 ad) (hl0 : l.stackTraces = false) {σ : Nat → va_E} (hR : oRelC cT ad σ)   :
    oKY l D cT ad b0 σ yX5_clearText cX5_clearText 1 [.ref (ad (0))] yX6_clearText cX6_clearText 2 [.ref (ad (65))] := by
  obtain ⟨⟨n, a, g, sz, w, n7, a7, g7, sz7, w7, n8, a8, g8, sz8, w8, ff, sf, nx, ms, mn, ma, mg, msz, mw, T, z⟩, ⟨f7, T6, fd, fk, kz⟩, hP, hM, hL⟩ := hR
  have hnx : nx < 14 := hL.hnx
  have hms : ms ≤ 14 := hL.hms
  have hzz : z ≤ 120 := hL.hz
  have hTT : T6 = T := hL.hTT
  obtain ⟨p, ac, x1, x2, f, on, hp, hf0, e57⟩ := hP.z57
  obtain ⟨rf, spo, ou6, e65⟩ := hM.z65
  refine ⟨fun rr uu => rr = oI ((z : Nat) : Int) ∧ oRP cT ad uu ⟨n, a, g, sz, w, n7, a7, g7, sz7, w7, n8, a8, g8, sz8, w8, ff, sf, nx, ms, mn, ma, mg, msz, mw, T, 0⟩, ⟨_, _, _, c5_clearText hA T z p ac x1 x2 f on ff sf (Nat.le_refl 76) hL.hT hL.hz hp hf0 hP.eO e57 hP.e58, by decide, fun rz u h => ?_⟩, fun rz u hOk hu => ?_⟩
  · obtain ⟨h0, c57, hq⟩ := h
    exact ⟨fun q hq9 => hq q (by omega), h0, ⟨((hq 0 (by omega)).trans hP.eO), ((hq 1 (by omega)).trans hP.e0), ((hq 2 (by omega)).trans hP.e1), ((hq 3 (by omega)).trans hP.e2), ((hq 7 (by omega)).trans hP.f70), ((hq 8 (by omega)).trans hP.f71), ((hq 9 (by omega)).trans hP.f72), ((hq 10 (by omega)).trans hP.f100), ((hq 11 (by omega)).trans hP.f101), ((hq 12 (by omega)).trans hP.f102), ((hq 13 (by omega)).trans hP.eM), ((hq 14 (by omega)).trans hP.eA), fun i hi => ⟨(hq _ (by omega)).trans (hP.hm i hi).1, (hq _ (by omega)).trans (hP.hm i hi).2.1, (hq _ (by omega)).trans (hP.hm i hi).2.2⟩, ⟨p, ac, x1, x2, f, on, hp, hf0, c57⟩, ((hq 58 (by omega)).trans hP.e58), (zc (hq 4 (by omega)) hP.z4), (zc (hq 5 (by omega)) hP.z5), (zc (hq 6 (by omega)) hP.z6), (zc (hq 59 (by omega)) hP.z59), (zc (hq 60 (by omega)) hP.z60), (zc (hq 61 (by omega)) hP.z61), (zc (hq 62 (by omega)) hP.z62), (zc (hq 63 (by omega)) hP.z63), (zc (hq 64 (by omega)) hP.z64)⟩⟩
  · obtain ⟨h0, hP1⟩ := hOk
    refine ⟨_, _, _, c6_clearText hA z ms spo ou6 rf (Nat.le_refl 76) hL.hz ((hu 65 (by decide) (by decide)).trans e65), by decide, fun r6 u2 h => ?_⟩
    obtain ⟨h6, c65, hq⟩ := h
    have hM2 : oRM cT ad u2 0 ms ⟨f7, T6, fd, fk, kz⟩ := ⟨⟨_, _, _, c65⟩, ((hq 66 (by decide)).trans ((hu 66 (by decide) (by decide)).trans hM.e66)), ((hq 67 (by decide)).trans ((hu 67 (by decide) (by decide)).trans hM.e67)), (zc ((hq 68 (by decide)).trans (hu 68 (by decide) (by decide))) hM.z68), ((hq 69 (by decide)).trans ((hu 69 (by decide) (by decide)).trans hM.e69)), ((hq 70 (by decide)).trans ((hu 70 (by decide) (by decide)).trans hM.e70)), ((hq 71 (by decide)).trans ((hu 71 (by decide) (by decide)).trans hM.e71)), (zc ((hq 72 (by decide)).trans (hu 72 (by decide) (by decide))) hM.z72), (zc ((hq 73 (by decide)).trans (hu 73 (by decide) (by decide))) hM.z73), (zc ((hq 74 (by decide)).trans (hu 74 (by decide) (by decide))) hM.z74)⟩
    have hL2 : oLk ⟨n, a, g, sz, w, n7, a7, g7, sz7, w7, n8, a8, g8, sz8, w8, ff, sf, nx, ms, mn, ma, mg, msz, mw, T, 0⟩ ⟨f7, T6, fd, fk, kz⟩ := ⟨hL.now, hL.hnx, hL.hms, hL.mn4, hL.mem, Nat.zero_le _, fun i hi => absurd hi (Nat.not_lt_zero i), hL.hTT, hL.n74, hL.n84, hL.k0, hL.k1⟩
    exact ⟨fun q hq9 => hq q (by omega), 0, _, _, ⟨_, _, c65⟩, by decide, by rw [h6, h0], oFin.mk hP1 hM2 hL2⟩
set_option maxRecDepth 100000 in
theorem kX_errorPosition {l : Launch} {D : va_G} {cT : Nat → ClassId} {b0 : Nat} {ad : Nat → Nat} (hA : oAd b0 76 ad) (hl0 : l.stackTraces = false) {σ : Nat → va_E} (hR : oRelC cT ad σ)   :
    oKY l D cT ad b0 σ yX5_errorPosition cX5_errorPosition 1 [.ref (ad (0))] yX6_errorPosition cX6_errorPosition 1 [.ref (ad (65))] := by
  obtain ⟨⟨n, a, g, sz, w, n7, a7, g7, sz7, w7, n8, a8, g8, sz8, w8, ff, sf, nx, ms, mn, ma, mg, msz, mw, T, z⟩, ⟨f7, T6, fd, fk, kz⟩, hP, hM, hL⟩ := hR
  have hnx : nx < 14 := hL.hnx
  have hms : ms ≤ 14 := hL.hms
  have hzz : z ≤ 120 := hL.hz
  have hTT : T6 = T := hL.hTT
  obtain ⟨p, ac, x1, x2, f, on, hp, hf0, e57⟩ := hP.z57
  obtain ⟨rf, spo, ou6, e65⟩ := hM.z65
  obtain ⟨ft, q68⟩ := hM.z68
  refine ⟨fun rr uu => rr = oI (oErr T z) ∧ oRP cT ad uu ⟨n, a, g, sz, w, n7, a7, g7, sz7, w7, n8, a8, g8, sz8, w8, ff, sf, nx, ms, mn, ma, mg, msz, mw, T, z⟩, ⟨_, _, _, c5_errorPosition hA T z p ac x1 x2 f on ff sf (Nat.le_refl 76) hL.hT hL.hz hp hf0 hP.eO e57 hP.e58, by decide, fun rz u h => ?_⟩, fun rz u hOk hu => ?_⟩
  · obtain ⟨p2, a2, y1, y2, o2, h0, h1, c57, hq⟩ := h
    have heb : -1 ≤ oErr T z ∧ oErr T z ≤ 200 := oErr_b hzz
    exact ⟨fun q hq9 => hq q (by omega), h0, ⟨((hq 0 (by omega)).trans hP.eO), ((hq 1 (by omega)).trans hP.e0), ((hq 2 (by omega)).trans hP.e1), ((hq 3 (by omega)).trans hP.e2), ((hq 7 (by omega)).trans hP.f70), ((hq 8 (by omega)).trans hP.f71), ((hq 9 (by omega)).trans hP.f72), ((hq 10 (by omega)).trans hP.f100), ((hq 11 (by omega)).trans hP.f101), ((hq 12 (by omega)).trans hP.f102), ((hq 13 (by omega)).trans hP.eM), ((hq 14 (by omega)).trans hP.eA), fun i hi => ⟨(hq _ (by omega)).trans (hP.hm i hi).1, (hq _ (by omega)).trans (hP.hm i hi).2.1, (hq _ (by omega)).trans (hP.hm i hi).2.2⟩, ⟨p2, a2, y1, y2, oErr T z, o2, h1, ⟨by omega, by omega⟩, c57⟩, ((hq 58 (by omega)).trans hP.e58), (zc (hq 4 (by omega)) hP.z4), (zc (hq 5 (by omega)) hP.z5), (zc (hq 6 (by omega)) hP.z6), (zc (hq 59 (by omega)) hP.z59), (zc (hq 60 (by omega)) hP.z60), (zc (hq 61 (by omega)) hP.z61), (zc (hq 62 (by omega)) hP.z62), (zc (hq 63 (by omega)) hP.z63), (zc (hq 64 (by omega)) hP.z64)⟩⟩
  · obtain ⟨h0, hP1⟩ := hOk
    refine ⟨_, _, _, c6_errorPosition hA z ms spo ou6 rf T6 ft (Nat.le_refl 76) (fun i hi => by rw [show T6 = T from hL.hTT]; exact hL.hT i hi) hL.hz ((hu 65 (by decide) (by decide)).trans e65) ((hu 66 (by decide) (by decide)).trans hM.e66) ((hu 68 (by decide) (by decide)).trans q68), by decide, fun r6 u2 h => ?_⟩
    obtain ⟨p2, ou2, g2, h6, _, _, c65, c68, hq⟩ := h
    have hM2 : oRM cT ad u2 z ms ⟨f7, T6, fd, fk, kz⟩ := ⟨⟨_, _, _, c65⟩, ((hq 66 (by decide) (by decide)).trans ((hu 66 (by decide) (by decide)).trans hM.e66)), ((hq 67 (by decide) (by decide)).trans ((hu 67 (by decide) (by decide)).trans hM.e67)), ⟨_, c68⟩, ((hq 69 (by decide) (by decide)).trans ((hu 69 (by decide) (by decide)).trans hM.e69)), ((hq 70 (by decide) (by decide)).trans ((hu 70 (by decide) (by decide)).trans hM.e70)), ((hq 71 (by decide) (by decide)).trans ((hu 71 (by decide) (by decide)).trans hM.e71)), (zc ((hq 72 (by decide) (by decide)).trans (hu 72 (by decide) (by decide))) hM.z72), (zc ((hq 73 (by decide) (by decide)).trans (hu 73 (by decide) (by decide))) hM.z73), (zc ((hq 74 (by decide) (by decide)).trans (hu 74 (by decide) (by decide))) hM.z74)⟩
    exact ⟨fun q hq9 => hq q (by omega) (by omega), 0, _, _, ⟨_, _, c65⟩, by decide, by rw [h6, h0, hTT], oFin.mk hP1 hM2 hL⟩
set_option maxRecDepth 100000 in
theorem kX_layings {l : Launch} {D : va_G} {cT : Nat → ClassId} {b0 : Nat} {ad : Nat → Nat} (hA : oAd b0 76 ad) (hl0 : l.stackTraces = false) {σ : Nat → va_E} (hR : oRelC cT ad σ)   :
    oKY l D cT ad b0 σ yX5_layings cX5_layings 4 [.ref (ad (0))] yX6_layings cX6_layings 3 [.ref (ad (65))] := by
  obtain ⟨⟨n, a, g, sz, w, n7, a7, g7, sz7, w7, n8, a8, g8, sz8, w8, ff, sf, nx, ms, mn, ma, mg, msz, mw, T, z⟩, ⟨f7, T6, fd, fk, kz⟩, hP, hM, hL⟩ := hR
  have hnx : nx < 14 := hL.hnx
  have hms : ms ≤ 14 := hL.hms
  have hzz : z ≤ 120 := hL.hz
  have hTT : T6 = T := hL.hTT
  obtain ⟨ld, e59⟩ := hP.z59
  obtain ⟨wr, e62⟩ := hP.z62
  obtain ⟨gr, e63⟩ := hP.z63
  obtain ⟨S, e60⟩ := hP.z60
  obtain ⟨Ln, e61⟩ := hP.z61
  obtain ⟨rf, spo, ou6, e65⟩ := hM.z65
  obtain ⟨s, q72⟩ := hM.z72
  obtain ⟨F, q73⟩ := hM.z73
  obtain ⟨R, q74⟩ := hM.z74
  refine ⟨fun rr uu => rr = oI (oLyA (oOrW n w (-1) 4) g) ∧ oRP cT ad uu ⟨n, a, g, sz, w, n7, a7, g7, sz7, w7, n8, a8, g8, sz8, w8, ff, sf, nx, ms, mn, ma, mg, msz, mw, T, z⟩, ⟨_, _, _, c5_layings hA n a g sz w ld wr gr S Ln ff sf (Nat.le_refl 76) hL.now.1 hL.now.2.1 hP.eO hP.e0 hP.e1 hP.e2 e59 e60 e61 e62 e63, by decide, fun rz u h => ?_⟩, fun rz u hOk hu => ?_⟩
  · obtain ⟨ld2, S2, Ln2, h0, c59, c60, c61, hq⟩ := h
    exact ⟨fun q hq9 => hq q (by omega) (by omega) (by omega), h0, ⟨((hq 0 (by omega) (by omega) (by omega)).trans hP.eO), ((hq 1 (by omega) (by omega) (by omega)).trans hP.e0), ((hq 2 (by omega) (by omega) (by omega)).trans hP.e1), ((hq 3 (by omega) (by omega) (by omega)).trans hP.e2), ((hq 7 (by omega) (by omega) (by omega)).trans hP.f70), ((hq 8 (by omega) (by omega) (by omega)).trans hP.f71), ((hq 9 (by omega) (by omega) (by omega)).trans hP.f72), ((hq 10 (by omega) (by omega) (by omega)).trans hP.f100), ((hq 11 (by omega) (by omega) (by omega)).trans hP.f101), ((hq 12 (by omega) (by omega) (by omega)).trans hP.f102), ((hq 13 (by omega) (by omega) (by omega)).trans hP.eM), ((hq 14 (by omega) (by omega) (by omega)).trans hP.eA), fun i hi => ⟨(hq _ (by omega) (by omega) (by omega)).trans (hP.hm i hi).1, (hq _ (by omega) (by omega) (by omega)).trans (hP.hm i hi).2.1, (hq _ (by omega) (by omega) (by omega)).trans (hP.hm i hi).2.2⟩, (zc (hq 57 (by omega) (by omega) (by omega)) hP.z57), ((hq 58 (by omega) (by omega) (by omega)).trans hP.e58), (zc (hq 4 (by omega) (by omega) (by omega)) hP.z4), (zc (hq 5 (by omega) (by omega) (by omega)) hP.z5), (zc (hq 6 (by omega) (by omega) (by omega)) hP.z6), ⟨_, c59⟩, ⟨_, c60⟩, ⟨_, c61⟩, (zc (hq 62 (by omega) (by omega) (by omega)) hP.z62), (zc (hq 63 (by omega) (by omega) (by omega)) hP.z63), (zc (hq 64 (by omega) (by omega) (by omega)) hP.z64)⟩⟩
  · obtain ⟨h0, hP1⟩ := hOk
    refine ⟨_, _, _, c6_layings hA z ms spo ou6 rf n a g f7 sz w s F R (Nat.le_refl 76) hL.now.1 hL.now.2.1 hL.now.2.2 ((hu 65 (by decide) (by decide)).trans e65) ((hu 67 (by decide) (by decide)).trans hM.e67) ((hu 72 (by decide) (by decide)).trans q72) ((hu 73 (by decide) (by decide)).trans q73) ((hu 74 (by decide) (by decide)).trans q74), by decide, fun r6 u2 h => ?_⟩
    obtain ⟨s2, F2, R2, h6, c65, c72, c73, c74, hq⟩ := h
    have hM2 : oRM cT ad u2 z ms ⟨f7, T6, fd, fk, kz⟩ := ⟨⟨_, _, _, c65⟩, ((hq 66 (by decide) (by decide) (by decide) (by decide)).trans ((hu 66 (by decide) (by decide)).trans hM.e66)), ((hq 67 (by decide) (by decide) (by decide) (by decide)).trans ((hu 67 (by decide) (by decide)).trans hM.e67)), (zc ((hq 68 (by decide) (by decide) (by decide) (by decide)).trans (hu 68 (by decide) (by decide))) hM.z68), ((hq 69 (by decide) (by decide) (by decide) (by decide)).trans ((hu 69 (by decide) (by decide)).trans hM.e69)), ((hq 70 (by decide) (by decide) (by decide) (by decide)).trans ((hu 70 (by decide) (by decide)).trans hM.e70)), ((hq 71 (by decide) (by decide) (by decide) (by decide)).trans ((hu 71 (by decide) (by decide)).trans hM.e71)), ⟨_, c72⟩, ⟨_, c73⟩, ⟨_, c74⟩⟩
    exact ⟨fun q hq9 => hq q (by omega) (by omega) (by omega) (by omega), 0, _, _, ⟨_, _, c65⟩, by decide, by rw [h6, h0], oFin.mk hP1 hM2 hL⟩
set_option maxRecDepth 100000 in
theorem kX_append {l : Launch} {D : va_G} {cT : Nat → ClassId} {b0 : Nat} {ad : Nat → Nat} (hA : oAd b0 76 ad) (hl0 : l.stackTraces = false) {σ : Nat → va_E} (hR : oRelC cT ad σ) (c : Int) (hbc : -2147483648 ≤ c ∧ c < 2147483648) :
    oKX l D cT ad b0 σ yX5_append cX5_append 2 [.ref (ad (0)), .int (oI (c))] yX6_append cX6_append 2 [.ref (ad (65)), .int (oI (c))] oIA oIS := by
  obtain ⟨⟨n, a, g, sz, w, n7, a7, g7, sz7, w7, n8, a8, g8, sz8, w8, ff, sf, nx, ms, mn, ma, mg, msz, mw, T, z⟩, ⟨f7, T6, fd, fk, kz⟩, hP, hM, hL⟩ := hR
  have hnx : nx < 14 := hL.hnx
  have hms : ms ≤ 14 := hL.hms
  have hzz : z ≤ 120 := hL.hz
  have hTT : T6 = T := hL.hTT
  obtain ⟨p, ac, x1, x2, f, on, hp, hf0, e57⟩ := hP.z57
  obtain ⟨rf, spo, ou6, e65⟩ := hM.z65
  refine ⟨fun rr uu => rr = oI (((z : Nat) : Int) + 1) ∧ (0 ≤ c ∧ c ≤ 255) ∧ z < 120 ∧ oRP cT ad uu ⟨n, a, g, sz, w, n7, a7, g7, sz7, w7, n8, a8, g8, sz8, w8, ff, sf, nx, ms, mn, ma, mg, msz, mw, va_up T z ((c.toNat : Nat) : Int), z + 1⟩, fun E uu => ((E = oIA ∧ ¬ (0 ≤ c ∧ c ≤ 255)) ∨ (E = oIS ∧ (0 ≤ c ∧ c ≤ 255) ∧ z = 120)) ∧ oRP cT ad uu ⟨n, a, g, sz, w, n7, a7, g7, sz7, w7, n8, a8, g8, sz8, w8, ff, sf, nx, ms, mn, ma, mg, msz, mw, T, z⟩, ⟨_, _, _, _, _, c5_append hA c T z p ac x1 x2 f on ff sf hl0 (Nat.le_refl 76) hL.hT hL.hz hp hf0 hbc hP.eO e57 hP.e58, by decide, fun rz u h => ?_, fun E u h => ?_⟩, fun E u h => ?_, fun rz u0 u hOk hu => ?_, fun E u0 u hEx hu => ?_⟩
  · obtain ⟨h0, h1, h2, c57, c58, hq⟩ := h
    exact ⟨fun q hq9 => hq q (by omega) (by omega), h0, h1, h2, ⟨((hq 0 (by omega) (by omega)).trans hP.eO), ((hq 1 (by omega) (by omega)).trans hP.e0), ((hq 2 (by omega) (by omega)).trans hP.e1), ((hq 3 (by omega) (by omega)).trans hP.e2), ((hq 7 (by omega) (by omega)).trans hP.f70), ((hq 8 (by omega) (by omega)).trans hP.f71), ((hq 9 (by omega) (by omega)).trans hP.f72), ((hq 10 (by omega) (by omega)).trans hP.f100), ((hq 11 (by omega) (by omega)).trans hP.f101), ((hq 12 (by omega) (by omega)).trans hP.f102), ((hq 13 (by omega) (by omega)).trans hP.eM), ((hq 14 (by omega) (by omega)).trans hP.eA), fun i hi => ⟨(hq _ (by omega) (by omega)).trans (hP.hm i hi).1, (hq _ (by omega) (by omega)).trans (hP.hm i hi).2.1, (hq _ (by omega) (by omega)).trans (hP.hm i hi).2.2⟩, ⟨p, ac, x1, x2, f, on, hp, hf0, c57.trans (by rw [Int.natCast_add z 1]; rfl)⟩, c58, (zc (hq 4 (by omega) (by omega)) hP.z4), (zc (hq 5 (by omega) (by omega)) hP.z5), (zc (hq 6 (by omega) (by omega)) hP.z6), (zc (hq 59 (by omega) (by omega)) hP.z59), (zc (hq 60 (by omega) (by omega)) hP.z60), (zc (hq 61 (by omega) (by omega)) hP.z61), (zc (hq 62 (by omega) (by omega)) hP.z62), (zc (hq 63 (by omega) (by omega)) hP.z63), (zc (hq 64 (by omega) (by omega)) hP.z64)⟩⟩
  · obtain ⟨h0, hq⟩ := h
    have hq : ∀ q : Nat, u q = σ q := fun q => by rw [hq]
    exact ⟨fun q hq9 => hq q, h0, hP.congr (fun q _ => hq q)⟩
  · rcases h.1 with h | h
    · exact Or.inl h.1
    · exact Or.inr h.1
  · obtain ⟨h0, h1, h2, hP1⟩ := hOk
    refine ⟨_, _, _, c6_append hA c z ms spo ou6 rf T6 (Nat.le_refl 76) hL.hz hbc ((hu 65 (by decide) (by decide)).trans e65) ((hu 66 (by decide) (by decide)).trans hM.e66), by decide, fun r6 u2 h => ?_⟩
    obtain ⟨v9, r9, si2, T2, h6, hd, c65, c66, hq⟩ := h
    rcases hd with ⟨m0, m1, m2, m3, m4, m5⟩ | ⟨_, _, m⟩
    · rw [m4] at c65
      rw [m5] at c66
      have hM2 : oRM cT ad u2 (z + 1) ms ⟨f7, va_up T6 z c, fd, fk, kz⟩ := ⟨⟨_, _, _, c65⟩, c66, ((hq 67 (by decide) (by decide)).trans ((hu 67 (by decide) (by decide)).trans hM.e67)), (zc ((hq 68 (by decide) (by decide)).trans (hu 68 (by decide) (by decide))) hM.z68), ((hq 69 (by decide) (by decide)).trans ((hu 69 (by decide) (by decide)).trans hM.e69)), ((hq 70 (by decide) (by decide)).trans ((hu 70 (by decide) (by decide)).trans hM.e70)), ((hq 71 (by decide) (by decide)).trans ((hu 71 (by decide) (by decide)).trans hM.e71)), (zc ((hq 72 (by decide) (by decide)).trans (hu 72 (by decide) (by decide))) hM.z72), (zc ((hq 73 (by decide) (by decide)).trans (hu 73 (by decide) (by decide))) hM.z73), (zc ((hq 74 (by decide) (by decide)).trans (hu 74 (by decide) (by decide))) hM.z74)⟩
      have hL2 : oLk ⟨n, a, g, sz, w, n7, a7, g7, sz7, w7, n8, a8, g8, sz8, w8, ff, sf, nx, ms, mn, ma, mg, msz, mw, va_up T z ((c.toNat : Nat) : Int), z + 1⟩ ⟨f7, va_up T6 z c, fd, fk, kz⟩ := ⟨hL.now, hL.hnx, hL.hms, hL.mn4, hL.mem, (show z + 1 ≤ 120 by omega), fun i hi => (show 0 ≤ va_up T z ((c.toNat : Nat) : Int) i ∧ va_up T z ((c.toNat : Nat) : Int) i ≤ 255 by
      have hi : i < z + 1 := hi
      by_cases hiz : i = z
      · rw [hiz, va_up_s]; omega
      · rw [va_up_n _ _ hiz]; exact hL.hT i (show i < z by omega)), (show va_up T6 z c = va_up T z ((c.toNat : Nat) : Int) by rw [hTT, Int.toNat_of_nonneg h1.1]), hL.n74, hL.n84, hL.k0, hL.k1⟩
      exact ⟨fun q hq9 => hq q (by omega) (by omega), r9, _, _, ⟨_, _, c65⟩, by rw [m2]; decide, m2, by rw [h6, h0, m3], oFin.mk hP1 hM2 hL2⟩
    · rcases m with ⟨_, m⟩ | ⟨_, _, m⟩
      · exact absurd h1 m
      · omega
  · obtain ⟨hE, hP1⟩ := hEx
    refine ⟨_, _, _, c6_append hA c z ms spo ou6 rf T6 (Nat.le_refl 76) hL.hz hbc ((hu 65 (by decide) (by decide)).trans e65) ((hu 66 (by decide) (by decide)).trans hM.e66), by decide, fun r6 u2 h => ?_⟩
    obtain ⟨v9, r9, si2, T2, h6, hd, c65, c66, hq⟩ := h
    rcases hd with ⟨m0, m1, m2, m3, m4, m5⟩ | ⟨y1, y2, m⟩
    · rcases hE with p | p
      · exact absurd m0 p.2
      · omega
    · rw [y1] at c65
      rw [y2] at c66
      have hM2 : oRM cT ad u2 z ms ⟨f7, T6, fd, fk, kz⟩ := ⟨⟨_, _, _, c65⟩, c66, ((hq 67 (by decide) (by decide)).trans ((hu 67 (by decide) (by decide)).trans hM.e67)), (zc ((hq 68 (by decide) (by decide)).trans (hu 68 (by decide) (by decide))) hM.z68), ((hq 69 (by decide) (by decide)).trans ((hu 69 (by decide) (by decide)).trans hM.e69)), ((hq 70 (by decide) (by decide)).trans ((hu 70 (by decide) (by decide)).trans hM.e70)), ((hq 71 (by decide) (by decide)).trans ((hu 71 (by decide) (by decide)).trans hM.e71)), (zc ((hq 72 (by decide) (by decide)).trans (hu 72 (by decide) (by decide))) hM.z72), (zc ((hq 73 (by decide) (by decide)).trans (hu 73 (by decide) (by decide))) hM.z73), (zc ((hq 74 (by decide) (by decide)).trans (hu 74 (by decide) (by decide))) hM.z74)⟩
      rcases hE with p | p <;> rcases m with ⟨m1, m2⟩ | ⟨m1, m2, m3⟩
      · exact ⟨fun q hq9 => hq q (by omega) (by omega), r9, _, _, ⟨_, _, c65⟩, by rw [m1]; decide, m1.trans (by rw [p.1]; exact n1_1), oFin.mk hP1 hM2 hL⟩
      · exact absurd m2 p.2
      · exact absurd p.2.1 m2
      · exact ⟨fun q hq9 => hq q (by omega) (by omega), r9, _, _, ⟨_, _, c65⟩, by rw [m1]; decide, m1.trans (by rw [p.1]; exact n1_4), oFin.mk hP1 hM2 hL⟩
set_option maxRecDepth 100000 in
theorem kX_load {l : Launch} {D : va_G} {cT : Nat → ClassId} {b0 : Nat} {ad : Nat → Nat} (hA : oAd b0 76 ad) (hl0 : l.stackTraces = false) {σ : Nat → va_E} (hR : oRelC cT ad σ)   :
    oKX l D cT ad b0 σ yX5_load cX5_load 1 [.ref (ad (0))] yX6_load cX6_load 1 [.ref (ad (65))] oIS oIS := by
  obtain ⟨⟨n, a, g, sz, w, n7, a7, g7, sz7, w7, n8, a8, g8, sz8, w8, ff, sf, nx, ms, mn, ma, mg, msz, mw, T, z⟩, ⟨f7, T6, fd, fk, kz⟩, hP, hM, hL⟩ := hR
  have hnx : nx < 14 := hL.hnx
  have hms : ms ≤ 14 := hL.hms
  have hzz : z ≤ 120 := hL.hz
  have hTT : T6 = T := hL.hTT
  obtain ⟨p, ac, x1, x2, f, on, hp, hf0, e57⟩ := hP.z57
  obtain ⟨rf, spo, ou6, e65⟩ := hM.z65
  obtain ⟨ft, q68⟩ := hM.z68
  refine ⟨fun rr uu => ∃ (ou n1 a1 g1 : Nat) (sz1 w1 : Nat → Nat), rr = oI ((ou : Nat) : Int) ∧ oErr T z = -1 ∧ oRunC T z 120 1 0 0 2 40 sz w = (ou, n1, a1, g1, sz1, w1) ∧ oWf n1 sz1 w1 ∧ oAg a1 g1 ∧ oRP cT ad uu ⟨n1, a1, g1, sz1, w1, n7, a7, g7, sz7, w7, n8, a8, g8, sz8, w8, 0, 0, nx, 0, mn, ma, mg, msz, mw, T, z⟩, fun E uu => (E = oIS ∧ ¬ oErr T z = -1) ∧ oRP cT ad uu ⟨n, a, g, sz, w, n7, a7, g7, sz7, w7, n8, a8, g8, sz8, w8, ff, sf, nx, ms, mn, ma, mg, msz, mw, T, z⟩, ⟨_, _, _, _, _, c5_load hA T z p ac x1 x2 f on n a g nx ms sz w ff sf hl0 (Nat.le_refl 76) hL.hT hL.hz hp hf0 hP.eO e57 hP.e58 hP.e0 hP.e1 hP.e2 hP.eM, by decide, fun rz u h => ?_, fun E u h => ?_⟩, fun E u h => ?_, fun rz u0 u hOk hu => ?_, fun E u0 u hEx hu => ?_⟩
  · obtain ⟨ou, n1, a1, g1, sz1, w1, p2, a2, y1, y2, o2, h0, h1, h2, h3, h4, h5, c57, c1, c2, c3, c13, c0, hq⟩ := h
    exact ⟨fun q hq9 => hq q (by omega) (by omega) (by omega) (by omega) (by omega) (by omega), ou, n1, a1, g1, sz1, w1, h0, h1, h2, h3, h4, ⟨c0, c1, c2, c3, ((hq 7 (by omega) (by omega) (by omega) (by omega) (by omega) (by omega)).trans hP.f70), ((hq 8 (by omega) (by omega) (by omega) (by omega) (by omega) (by omega)).trans hP.f71), ((hq 9 (by omega) (by omega) (by omega) (by omega) (by omega) (by omega)).trans hP.f72), ((hq 10 (by omega) (by omega) (by omega) (by omega) (by omega) (by omega)).trans hP.f100), ((hq 11 (by omega) (by omega) (by omega) (by omega) (by omega) (by omega)).trans hP.f101), ((hq 12 (by omega) (by omega) (by omega) (by omega) (by omega) (by omega)).trans hP.f102), c13, ((hq 14 (by omega) (by omega) (by omega) (by omega) (by omega) (by omega)).trans hP.eA), fun i hi => ⟨(hq _ (by omega) (by omega) (by omega) (by omega) (by omega) (by omega)).trans (hP.hm i hi).1, (hq _ (by omega) (by omega) (by omega) (by omega) (by omega) (by omega)).trans (hP.hm i hi).2.1, (hq _ (by omega) (by omega) (by omega) (by omega) (by omega) (by omega)).trans (hP.hm i hi).2.2⟩, ⟨p2, a2, y1, y2, -1, o2, h5, by decide, c57⟩, ((hq 58 (by omega) (by omega) (by omega) (by omega) (by omega) (by omega)).trans hP.e58), (zc (hq 4 (by omega) (by omega) (by omega) (by omega) (by omega) (by omega)) hP.z4), (zc (hq 5 (by omega) (by omega) (by omega) (by omega) (by omega) (by omega)) hP.z5), (zc (hq 6 (by omega) (by omega) (by omega) (by omega) (by omega) (by omega)) hP.z6), (zc (hq 59 (by omega) (by omega) (by omega) (by omega) (by omega) (by omega)) hP.z59), (zc (hq 60 (by omega) (by omega) (by omega) (by omega) (by omega) (by omega)) hP.z60), (zc (hq 61 (by omega) (by omega) (by omega) (by omega) (by omega) (by omega)) hP.z61), (zc (hq 62 (by omega) (by omega) (by omega) (by omega) (by omega) (by omega)) hP.z62), (zc (hq 63 (by omega) (by omega) (by omega) (by omega) (by omega) (by omega)) hP.z63), (zc (hq 64 (by omega) (by omega) (by omega) (by omega) (by omega) (by omega)) hP.z64)⟩⟩
  · obtain ⟨h0, p2, a2, y1, y2, f2, o2, h5, c57, hq⟩ := h
    exact ⟨fun q hq9 => hq q (by omega), h0, ⟨((hq 0 (by omega)).trans hP.eO), ((hq 1 (by omega)).trans hP.e0), ((hq 2 (by omega)).trans hP.e1), ((hq 3 (by omega)).trans hP.e2), ((hq 7 (by omega)).trans hP.f70), ((hq 8 (by omega)).trans hP.f71), ((hq 9 (by omega)).trans hP.f72), ((hq 10 (by omega)).trans hP.f100), ((hq 11 (by omega)).trans hP.f101), ((hq 12 (by omega)).trans hP.f102), ((hq 13 (by omega)).trans hP.eM), ((hq 14 (by omega)).trans hP.eA), fun i hi => ⟨(hq _ (by omega)).trans (hP.hm i hi).1, (hq _ (by omega)).trans (hP.hm i hi).2.1, (hq _ (by omega)).trans (hP.hm i hi).2.2⟩, ⟨p2, a2, y1, y2, (oI f2).toInt, o2, h5, oI_rng _, by rw [oI_self]; exact c57⟩, ((hq 58 (by omega)).trans hP.e58), (zc (hq 4 (by omega)) hP.z4), (zc (hq 5 (by omega)) hP.z5), (zc (hq 6 (by omega)) hP.z6), (zc (hq 59 (by omega)) hP.z59), (zc (hq 60 (by omega)) hP.z60), (zc (hq 61 (by omega)) hP.z61), (zc (hq 62 (by omega)) hP.z62), (zc (hq 63 (by omega)) hP.z63), (zc (hq 64 (by omega)) hP.z64)⟩⟩
  · exact Or.inl h.1.1
  · obtain ⟨ou, n1, a1, g1, sz1, w1, h0, h1, h2, h3, h4, hP1⟩ := hOk
    refine ⟨_, _, _, c6_load hA z ms spo ou6 rf T6 ft f7 kz sz w (Nat.le_refl 76) (fun i hi => by rw [show T6 = T from hL.hTT]; exact hL.hT i hi) hL.hz ((hu 65 (by decide) (by decide)).trans e65) ((hu 66 (by decide) (by decide)).trans hM.e66) ((hu 67 (by decide) (by decide)).trans hM.e67) ((hu 68 (by decide) (by decide)).trans q68) ((hu 71 (by decide) (by decide)).trans hM.e71), by decide, fun r6 u2 h => ?_⟩
    obtain ⟨v9, r9, ac2, p2, ou2, g2, y7, kz2, h6, hd, _, _, c65, c67, c68, c71, hq⟩ := h
    rcases hd with ⟨m0, m1, m2, m3, m4, n9, a9, g9, sz9, w9, m5, m6, m7, m8⟩ | ⟨m0, _⟩
    · rw [hTT] at m5
      have b3 := h2.symm.trans m5
      simp only [Prod.mk.injEq] at b3
      obtain ⟨b0, b4, b5, b6, b7, b8⟩ := b3
      rw [← b4, ← b5, ← b6, ← b7, ← b8] at m6
      rw [m3] at c65
      have hM2 : oRM cT ad u2 z 0 ⟨y7, T6, fd, fk, kz2⟩ := ⟨⟨_, _, _, c65⟩, ((hq 66 (by decide) (by decide) (by decide) (by decide)).trans ((hu 66 (by decide) (by decide)).trans hM.e66)), c67, ⟨_, c68⟩, ((hq 69 (by decide) (by decide) (by decide) (by decide)).trans ((hu 69 (by decide) (by decide)).trans hM.e69)), ((hq 70 (by decide) (by decide) (by decide) (by decide)).trans ((hu 70 (by decide) (by decide)).trans hM.e70)), c71, (zc ((hq 72 (by decide) (by decide) (by decide) (by decide)).trans (hu 72 (by decide) (by decide))) hM.z72), (zc ((hq 73 (by decide) (by decide) (by decide) (by decide)).trans (hu 73 (by decide) (by decide))) hM.z73), (zc ((hq 74 (by decide) (by decide) (by decide) (by decide)).trans (hu 74 (by decide) (by decide))) hM.z74)⟩
      have hL2 : oLk ⟨n1, a1, g1, sz1, w1, n7, a7, g7, sz7, w7, n8, a8, g8, sz8, w8, 0, 0, nx, 0, mn, ma, mg, msz, mw, T, z⟩ ⟨y7, T6, fd, fk, kz2⟩ := ⟨⟨h3, h4, m6⟩, hL.hnx, Nat.zero_le _, hL.mn4, fun i hi => absurd hi (Nat.not_lt_zero i), hL.hz, hL.hT, hL.hTT, hL.n74, hL.n84, ⟨m4 0 (by decide), Or.inl rfl⟩, ⟨m4 1 (by decide), Or.inl rfl⟩⟩
      exact ⟨fun q hq9 => hq q (by omega) (by omega) (by omega) (by omega), r9, _, _, ⟨_, _, c65⟩, by rw [m1]; decide, m1, by rw [h6, h0, m2, ← b0], oFin.mk hP1 hM2 hL2⟩
    · rw [hTT] at m0
      exact absurd h1 m0
  · obtain ⟨hE, hP1⟩ := hEx
    refine ⟨_, _, _, c6_load hA z ms spo ou6 rf T6 ft f7 kz sz w (Nat.le_refl 76) (fun i hi => by rw [show T6 = T from hL.hTT]; exact hL.hT i hi) hL.hz ((hu 65 (by decide) (by decide)).trans e65) ((hu 66 (by decide) (by decide)).trans hM.e66) ((hu 67 (by decide) (by decide)).trans hM.e67) ((hu 68 (by decide) (by decide)).trans q68) ((hu 71 (by decide) (by decide)).trans hM.e71), by decide, fun r6 u2 h => ?_⟩
    obtain ⟨v9, r9, ac2, p2, ou2, g2, y7, kz2, h6, hd, _, _, c65, c67, c68, c71, hq⟩ := h
    rcases hd with ⟨m0, m1, m2, m3, m4, n9, a9, g9, sz9, w9, m5, m6, m7, m8⟩ | ⟨m0, m1, m2, m3, m4⟩
    · rw [hTT] at m0
      exact absurd m0 hE.2
    · rw [m2] at c65
      rw [m3] at c67
      rw [m4] at c71
      have hM2 : oRM cT ad u2 z ms ⟨f7, T6, fd, fk, kz⟩ := ⟨⟨_, _, _, c65⟩, ((hq 66 (by decide) (by decide) (by decide) (by decide)).trans ((hu 66 (by decide) (by decide)).trans hM.e66)), c67, ⟨_, c68⟩, ((hq 69 (by decide) (by decide) (by decide) (by decide)).trans ((hu 69 (by decide) (by decide)).trans hM.e69)), ((hq 70 (by decide) (by decide) (by decide) (by decide)).trans ((hu 70 (by decide) (by decide)).trans hM.e70)), c71, (zc ((hq 72 (by decide) (by decide) (by decide) (by decide)).trans (hu 72 (by decide) (by decide))) hM.z72), (zc ((hq 73 (by decide) (by decide) (by decide) (by decide)).trans (hu 73 (by decide) (by decide))) hM.z73), (zc ((hq 74 (by decide) (by decide) (by decide) (by decide)).trans (hu 74 (by decide) (by decide))) hM.z74)⟩
      exact ⟨fun q hq9 => hq q (by omega) (by omega) (by omega) (by omega), r9, _, _, ⟨_, _, c65⟩, by rw [m1]; decide, m1.trans (by rw [hE.1]; exact n1_1), oFin.mk hP1 hM2 hL⟩
set_option maxRecDepth 100000 in
theorem kX_undo {l : Launch} {D : va_G} {cT : Nat → ClassId} {b0 : Nat} {ad : Nat → Nat} (hA : oAd b0 76 ad) (hl0 : l.stackTraces = false) {σ : Nat → va_E} (hR : oRelC cT ad σ)   :
    oKX l D cT ad b0 σ yX5_undo cX5_undo 1 [.ref (ad (0))] yX6_undo cX6_undo 1 [.ref (ad (65))] oIS oIS := by
  obtain ⟨⟨n, a, g, sz, w, n7, a7, g7, sz7, w7, n8, a8, g8, sz8, w8, ff, sf, nx, ms, mn, ma, mg, msz, mw, T, z⟩, ⟨f7, T6, fd, fk, kz⟩, hP, hM, hL⟩ := hR
  have hnx : nx < 14 := hL.hnx
  have hms : ms ≤ 14 := hL.hms
  have hzz : z ≤ 120 := hL.hz
  have hTT : T6 = T := hL.hTT
  obtain ⟨kb, hkb, hkn⟩ : ∃ kb : Nat, kb < 14 ∧ ((0 < nx ∧ kb + 1 = nx) ∨ (nx = 0 ∧ kb = 13)) := by
    by_cases h : nx = 0
    · exact ⟨13, by decide, Or.inr ⟨h, rfl⟩⟩
    · exact ⟨nx - 1, by omega, Or.inl ⟨by omega, by omega⟩⟩
  obtain ⟨rf, spo, ou6, e65⟩ := hM.z65
  refine ⟨fun rr uu => ∃ sz1 w1 : Nat → Nat, rr = oI (((ms - 1 : Nat) : Nat) : Int) ∧ 1 ≤ ms ∧ (∀ r : Nat, r < mn kb → sz1 r = msz kb r ∧ w1 r = mw kb r) ∧ oRP cT ad uu ⟨mn kb, ma kb, mg kb, sz1, w1, n7, a7, g7, sz7, w7, n8, a8, g8, sz8, w8, ff, sf, kb, ms - 1, mn, ma, mg, msz, mw, T, z⟩, fun E uu => (E = oIS ∧ ms = 0) ∧ oRP cT ad uu ⟨n, a, g, sz, w, n7, a7, g7, sz7, w7, n8, a8, g8, sz8, w8, ff, sf, nx, ms, mn, ma, mg, msz, mw, T, z⟩, ⟨_, _, _, _, _, c5_undo hA kb nx ms n a g sz w mn ma mg msz mw ff sf hl0 (Nat.le_refl 76) hkb hkn hL.hms hP.hm (hL.mn4 kb hkb) hP.eO hP.e0 hP.e1 hP.e2 hP.eM hP.eA, by decide, fun rz u h => ?_, fun E u h => ?_⟩, fun E u h => ?_, fun rz u0 u hOk hu => ?_, fun E u0 u hEx hu => ?_⟩
  · obtain ⟨sz1, w1, h0, h1, h2, c13, c1, c2, c3, hq⟩ := h
    exact ⟨fun q hq9 => hq q (by omega) (by omega) (by omega) (by omega), sz1, w1, h0, h1, h2, ⟨((hq 0 (by omega) (by omega) (by omega) (by omega)).trans hP.eO), c1, c2, c3, ((hq 7 (by omega) (by omega) (by omega) (by omega)).trans hP.f70), ((hq 8 (by omega) (by omega) (by omega) (by omega)).trans hP.f71), ((hq 9 (by omega) (by omega) (by omega) (by omega)).trans hP.f72), ((hq 10 (by omega) (by omega) (by omega) (by omega)).trans hP.f100), ((hq 11 (by omega) (by omega) (by omega) (by omega)).trans hP.f101), ((hq 12 (by omega) (by omega) (by omega) (by omega)).trans hP.f102), c13, ((hq 14 (by omega) (by omega) (by omega) (by omega)).trans hP.eA), fun i hi => ⟨(hq _ (by omega) (by omega) (by omega) (by omega)).trans (hP.hm i hi).1, (hq _ (by omega) (by omega) (by omega) (by omega)).trans (hP.hm i hi).2.1, (hq _ (by omega) (by omega) (by omega) (by omega)).trans (hP.hm i hi).2.2⟩, (zc (hq 57 (by omega) (by omega) (by omega) (by omega)) hP.z57), ((hq 58 (by omega) (by omega) (by omega) (by omega)).trans hP.e58), (zc (hq 4 (by omega) (by omega) (by omega) (by omega)) hP.z4), (zc (hq 5 (by omega) (by omega) (by omega) (by omega)) hP.z5), (zc (hq 6 (by omega) (by omega) (by omega) (by omega)) hP.z6), (zc (hq 59 (by omega) (by omega) (by omega) (by omega)) hP.z59), (zc (hq 60 (by omega) (by omega) (by omega) (by omega)) hP.z60), (zc (hq 61 (by omega) (by omega) (by omega) (by omega)) hP.z61), (zc (hq 62 (by omega) (by omega) (by omega) (by omega)) hP.z62), (zc (hq 63 (by omega) (by omega) (by omega) (by omega)) hP.z63), (zc (hq 64 (by omega) (by omega) (by omega) (by omega)) hP.z64)⟩⟩
  · obtain ⟨h0, hq⟩ := h
    have hq : ∀ q : Nat, u q = σ q := fun q => by rw [hq]
    exact ⟨fun q hq9 => hq q, h0, hP.congr (fun q _ => hq q)⟩
  · exact Or.inl h.1.1
  · obtain ⟨sz1, w1, h0, h1, h2, hP1⟩ := hOk
    refine ⟨_, _, _, c6_undo hA z ms spo ou6 rf f7 fd (Nat.le_refl 76) hL.hms ((hu 65 (by decide) (by decide)).trans e65) ((hu 67 (by decide) (by decide)).trans hM.e67) ((hu 69 (by decide) (by decide)).trans hM.e69), by decide, fun r6 u2 h => ?_⟩
    obtain ⟨v9, r9, ac2, y7, h6, hd, c65, c67, hq⟩ := h
    rcases hd with ⟨m0, m1, m2, m3, m4⟩ | ⟨m0, _⟩
    · rw [m3] at c65
      have hx : oPi (fun k => fd (k + 171 * (ms - 1))) (mn ((nx + 14 - ms + (ms - 1)) % 14)) (ma ((nx + 14 - ms + (ms - 1)) % 14)) (mg ((nx + 14 - ms + (ms - 1)) % 14)) (msz ((nx + 14 - ms + (ms - 1)) % 14)) (mw ((nx + 14 - ms + (ms - 1)) % 14)) := hL.mem (ms - 1) (show ms - 1 < ms by omega)
      rw [show (nx + 14 - ms + (ms - 1)) % 14 = kb by omega] at hx
      have hM2 : oRM cT ad u2 z (ms - 1) ⟨y7, T6, fd, fk, kz⟩ := ⟨⟨_, _, _, c65⟩, ((hq 66 (by decide) (by decide)).trans ((hu 66 (by decide) (by decide)).trans hM.e66)), c67, (zc ((hq 68 (by decide) (by decide)).trans (hu 68 (by decide) (by decide))) hM.z68), ((hq 69 (by decide) (by decide)).trans ((hu 69 (by decide) (by decide)).trans hM.e69)), ((hq 70 (by decide) (by decide)).trans ((hu 70 (by decide) (by decide)).trans hM.e70)), ((hq 71 (by decide) (by decide)).trans ((hu 71 (by decide) (by decide)).trans hM.e71)), (zc ((hq 72 (by decide) (by decide)).trans (hu 72 (by decide) (by decide))) hM.z72), (zc ((hq 73 (by decide) (by decide)).trans (hu 73 (by decide) (by decide))) hM.z73), (zc ((hq 74 (by decide) (by decide)).trans (hu 74 (by decide) (by decide))) hM.z74)⟩
      have hL2 : oLk ⟨mn kb, ma kb, mg kb, sz1, w1, n7, a7, g7, sz7, w7, n8, a8, g8, sz8, w8, ff, sf, kb, ms - 1, mn, ma, mg, msz, mw, T, z⟩ ⟨y7, T6, fd, fk, kz⟩ := ⟨(hx.f m4).eq h2, hkb, (show ms - 1 ≤ 14 by omega), hL.mn4, fun i hi => (show oPi (fun k => fd (k + 171 * i)) (mn ((kb + 14 - (ms - 1) + i) % 14)) (ma ((kb + 14 - (ms - 1) + i) % 14)) (mg ((kb + 14 - (ms - 1) + i) % 14)) (msz ((kb + 14 - (ms - 1) + i) % 14)) (mw ((kb + 14 - (ms - 1) + i) % 14)) by
      have hi : i < ms - 1 := hi
      have hy : oPi (fun k => fd (k + 171 * i)) (mn ((nx + 14 - ms + i) % 14)) (ma ((nx + 14 - ms + i) % 14)) (mg ((nx + 14 - ms + i) % 14)) (msz ((nx + 14 - ms + i) % 14)) (mw ((nx + 14 - ms + i) % 14)) := hL.mem i (show i < ms by omega)
      rw [show (kb + 14 - (ms - 1) + i) % 14 = (nx + 14 - ms + i) % 14 by omega]
      exact hy), hL.hz, hL.hT, hL.hTT, hL.n74, hL.n84, hL.k0, hL.k1⟩
      exact ⟨fun q hq9 => hq q (by omega) (by omega), r9, _, _, ⟨_, _, c65⟩, by rw [m1]; decide, m1, by rw [h6, h0, m2], oFin.mk hP1 hM2 hL2⟩
    · omega
  · obtain ⟨hE, hP1⟩ := hEx
    refine ⟨_, _, _, c6_undo hA z ms spo ou6 rf f7 fd (Nat.le_refl 76) hL.hms ((hu 65 (by decide) (by decide)).trans e65) ((hu 67 (by decide) (by decide)).trans hM.e67) ((hu 69 (by decide) (by decide)).trans hM.e69), by decide, fun r6 u2 h => ?_⟩
    obtain ⟨v9, r9, ac2, y7, h6, hd, c65, c67, hq⟩ := h
    rcases hd with ⟨m0, m1, m2, m3, m4⟩ | ⟨m0, m1, m2, m3⟩
    · omega
    · rw [m2] at c65
      rw [m3] at c67
      have hM2 : oRM cT ad u2 z ms ⟨f7, T6, fd, fk, kz⟩ := ⟨⟨_, _, _, c65⟩, ((hq 66 (by decide) (by decide)).trans ((hu 66 (by decide) (by decide)).trans hM.e66)), c67, (zc ((hq 68 (by decide) (by decide)).trans (hu 68 (by decide) (by decide))) hM.z68), ((hq 69 (by decide) (by decide)).trans ((hu 69 (by decide) (by decide)).trans hM.e69)), ((hq 70 (by decide) (by decide)).trans ((hu 70 (by decide) (by decide)).trans hM.e70)), ((hq 71 (by decide) (by decide)).trans ((hu 71 (by decide) (by decide)).trans hM.e71)), (zc ((hq 72 (by decide) (by decide)).trans (hu 72 (by decide) (by decide))) hM.z72), (zc ((hq 73 (by decide) (by decide)).trans (hu 73 (by decide) (by decide))) hM.z73), (zc ((hq 74 (by decide) (by decide)).trans (hu 74 (by decide) (by decide))) hM.z74)⟩
      exact ⟨fun q hq9 => hq q (by omega) (by omega), r9, _, _, ⟨_, _, c65⟩, by rw [m1]; decide, m1.trans (by rw [hE.1]; exact n1_1), oFin.mk hP1 hM2 hL⟩
set_option maxRecDepth 100000 in
theorem kX_save0 {l : Launch} {D : va_G} {cT : Nat → ClassId} {b0 : Nat} {ad : Nat → Nat} (hA : oAd b0 76 ad) (hl0 : l.stackTraces = false) {σ : Nat → va_E} (hR : oRelC cT ad σ) (t : Int) (hbt : -2147483648 ≤ t ∧ t < 2147483648) (htv : t = 0) :
    oKX l D cT ad b0 σ yX5_save cX5_save 2 [.ref (ad (0)), .int (oI (t))] yX6_save cX6_save 2 [.ref (ad (65)), .int (oI (t))] oIO oIO := by
  obtain ⟨⟨n, a, g, sz, w, n7, a7, g7, sz7, w7, n8, a8, g8, sz8, w8, ff, sf, nx, ms, mn, ma, mg, msz, mw, T, z⟩, ⟨f7, T6, fd, fk, kz⟩, hP, hM, hL⟩ := hR
  have hnx : nx < 14 := hL.hnx
  have hms : ms ≤ 14 := hL.hms
  have hzz : z ≤ 120 := hL.hz
  have hTT : T6 = T := hL.hTT
  obtain ⟨rf, spo, ou6, e65⟩ := hM.z65
  refine ⟨fun rr uu => ∃ sz2 w2 : Nat → Nat, rr = oI ((n : Nat) : Int) ∧ (∀ r : Nat, r < n → sz2 r = sz r ∧ w2 r = w r) ∧ oRP cT ad uu ⟨n, a, g, sz, w, n, a, g, sz2, w2, n8, a8, g8, sz8, w8, 1, sf, nx, ms, mn, ma, mg, msz, mw, T, z⟩, fun _ _ => False, ⟨_, _, _, _, _, c5_save0 hA t n a g n7 a7 g7 n8 a8 g8 sz w sz7 w7 sz8 w8 ff sf hl0 (Nat.le_refl 76) hL.now.1 hbt htv hP.eO hP.e0 hP.e1 hP.e2 hP.f70 hP.f71 hP.f72 hP.f100 hP.f101 hP.f102, by decide, fun rz u h => ?_, fun E u h => ?_⟩, fun E u h => ?_, fun rz u0 u hOk hu => ?_, fun E u0 u hEx hu => ?_⟩
  · obtain ⟨sz2, w2, h0, h1, c7, c8, c9, c0, hq⟩ := h
    exact ⟨fun q hq9 => hq q (by omega) (by omega) (by omega) (by omega), sz2, w2, h0, h1, ⟨c0, ((hq 1 (by omega) (by omega) (by omega) (by omega)).trans hP.e0), ((hq 2 (by omega) (by omega) (by omega) (by omega)).trans hP.e1), ((hq 3 (by omega) (by omega) (by omega) (by omega)).trans hP.e2), c7, c8, c9, ((hq 10 (by omega) (by omega) (by omega) (by omega)).trans hP.f100), ((hq 11 (by omega) (by omega) (by omega) (by omega)).trans hP.f101), ((hq 12 (by omega) (by omega) (by omega) (by omega)).trans hP.f102), ((hq 13 (by omega) (by omega) (by omega) (by omega)).trans hP.eM), ((hq 14 (by omega) (by omega) (by omega) (by omega)).trans hP.eA), fun i hi => ⟨(hq _ (by omega) (by omega) (by omega) (by omega)).trans (hP.hm i hi).1, (hq _ (by omega) (by omega) (by omega) (by omega)).trans (hP.hm i hi).2.1, (hq _ (by omega) (by omega) (by omega) (by omega)).trans (hP.hm i hi).2.2⟩, (zc (hq 57 (by omega) (by omega) (by omega) (by omega)) hP.z57), ((hq 58 (by omega) (by omega) (by omega) (by omega)).trans hP.e58), (zc (hq 4 (by omega) (by omega) (by omega) (by omega)) hP.z4), (zc (hq 5 (by omega) (by omega) (by omega) (by omega)) hP.z5), (zc (hq 6 (by omega) (by omega) (by omega) (by omega)) hP.z6), (zc (hq 59 (by omega) (by omega) (by omega) (by omega)) hP.z59), (zc (hq 60 (by omega) (by omega) (by omega) (by omega)) hP.z60), (zc (hq 61 (by omega) (by omega) (by omega) (by omega)) hP.z61), (zc (hq 62 (by omega) (by omega) (by omega) (by omega)) hP.z62), (zc (hq 63 (by omega) (by omega) (by omega) (by omega)) hP.z63), (zc (hq 64 (by omega) (by omega) (by omega) (by omega)) hP.z64)⟩⟩
  · exact h.elim
  · exact h.elim
  · obtain ⟨sz2, w2, h0, h1, hP1⟩ := hOk
    refine ⟨_, _, _, c6_save hA t z ms spo ou6 rf n a g f7 sz w fk kz (Nat.le_refl 76) hL.now.1 hL.now.2.1 hL.now.2.2 hbt ((hu 65 (by decide) (by decide)).trans e65) ((hu 67 (by decide) (by decide)).trans hM.e67) ((hu 70 (by decide) (by decide)).trans hM.e70) ((hu 71 (by decide) (by decide)).trans hM.e71), by decide, fun r6 u2 h => ?_⟩
    obtain ⟨v9, r9, k2, kz2, h6, hd, c65, c70, c71, hq⟩ := h
    have ht : t.toNat = 0 := by omega
    rcases hd with ⟨m0, m1, m2, m3, m4, m5⟩ | ⟨m0, _⟩
    · rw [ht] at m3 m4 m5
      have hM2 : oRM cT ad u2 z ms ⟨f7, T6, fd, k2, kz2⟩ := ⟨⟨_, _, _, c65⟩, ((hq 66 (by decide) (by decide) (by decide)).trans ((hu 66 (by decide) (by decide)).trans hM.e66)), ((hq 67 (by decide) (by decide) (by decide)).trans ((hu 67 (by decide) (by decide)).trans hM.e67)), (zc ((hq 68 (by decide) (by decide) (by decide)).trans (hu 68 (by decide) (by decide))) hM.z68), ((hq 69 (by decide) (by decide) (by decide)).trans ((hu 69 (by decide) (by decide)).trans hM.e69)), c70, c71, (zc ((hq 72 (by decide) (by decide) (by decide)).trans (hu 72 (by decide) (by decide))) hM.z72), (zc ((hq 73 (by decide) (by decide) (by decide)).trans (hu 73 (by decide) (by decide))) hM.z73), (zc ((hq 74 (by decide) (by decide) (by decide)).trans (hu 74 (by decide) (by decide))) hM.z74)⟩
      have hL2 : oLk ⟨n, a, g, sz, w, n, a, g, sz2, w2, n8, a8, g8, sz8, w8, 1, sf, nx, ms, mn, ma, mg, msz, mw, T, z⟩ ⟨f7, T6, fd, k2, kz2⟩ := ⟨hL.now, hL.hnx, hL.hms, hL.mn4, hL.mem, hL.hz, hL.hT, hL.hTT, hL.now.1.1, hL.n84, ⟨(show kz2 0 = 1 by rw [m5, va_up_s]), Or.inr ⟨rfl, (hL.now.eq h1).f m3⟩⟩, ⟨(show kz2 1 = sf by rw [m5, va_up_n _ _ (by decide)]; exact hL.k1.1), hL.k1.2.imp id (fun h => ⟨h.1, h.2.f (fun k hk => m4 _ (by omega))⟩)⟩⟩
      exact ⟨fun q hq9 => hq q (by omega) (by omega) (by omega), r9, _, _, ⟨_, _, c65⟩, by rw [m1]; decide, m1, by rw [h6, h0, m2], oFin.mk hP1 hM2 hL2⟩
    · exact absurd (by omega) m0
  · exact hEx.elim
set_option maxRecDepth 100000 in
theorem kX_save1 {l : Launch} {D : va_G} {cT : Nat → ClassId} {b0 : Nat} {ad : Nat → Nat} (hA : oAd b0 76 ad) (hl0 : l.stackTraces = false) {σ : Nat → va_E} (hR : oRelC cT ad σ) (t : Int) (hbt : -2147483648 ≤ t ∧ t < 2147483648) (htv : t = 1) :
    oKX l D cT ad b0 σ yX5_save cX5_save 2 [.ref (ad (0)), .int (oI (t))] yX6_save cX6_save 2 [.ref (ad (65)), .int (oI (t))] oIO oIO := by
  obtain ⟨⟨n, a, g, sz, w, n7, a7, g7, sz7, w7, n8, a8, g8, sz8, w8, ff, sf, nx, ms, mn, ma, mg, msz, mw, T, z⟩, ⟨f7, T6, fd, fk, kz⟩, hP, hM, hL⟩ := hR
  have hnx : nx < 14 := hL.hnx
  have hms : ms ≤ 14 := hL.hms
  have hzz : z ≤ 120 := hL.hz
  have hTT : T6 = T := hL.hTT
  obtain ⟨rf, spo, ou6, e65⟩ := hM.z65
  refine ⟨fun rr uu => ∃ sz2 w2 : Nat → Nat, rr = oI ((n : Nat) : Int) ∧ (∀ r : Nat, r < n → sz2 r = sz r ∧ w2 r = w r) ∧ oRP cT ad uu ⟨n, a, g, sz, w, n7, a7, g7, sz7, w7, n, a, g, sz2, w2, ff, 1, nx, ms, mn, ma, mg, msz, mw, T, z⟩, fun _ _ => False, ⟨_, _, _, _, _, c5_save1 hA t n a g n7 a7 g7 n8 a8 g8 sz w sz7 w7 sz8 w8 ff sf hl0 (Nat.le_refl 76) hL.now.1 hbt htv hP.eO hP.e0 hP.e1 hP.e2 hP.f70 hP.f71 hP.f72 hP.f100 hP.f101 hP.f102, by decide, fun rz u h => ?_, fun E u h => ?_⟩, fun E u h => ?_, fun rz u0 u hOk hu => ?_, fun E u0 u hEx hu => ?_⟩
  · obtain ⟨sz2, w2, h0, h1, c7, c8, c9, c0, hq⟩ := h
    exact ⟨fun q hq9 => hq q (by omega) (by omega) (by omega) (by omega), sz2, w2, h0, h1, ⟨c0, ((hq 1 (by omega) (by omega) (by omega) (by omega)).trans hP.e0), ((hq 2 (by omega) (by omega) (by omega) (by omega)).trans hP.e1), ((hq 3 (by omega) (by omega) (by omega) (by omega)).trans hP.e2), ((hq 7 (by omega) (by omega) (by omega) (by omega)).trans hP.f70), ((hq 8 (by omega) (by omega) (by omega) (by omega)).trans hP.f71), ((hq 9 (by omega) (by omega) (by omega) (by omega)).trans hP.f72), c7, c8, c9, ((hq 13 (by omega) (by omega) (by omega) (by omega)).trans hP.eM), ((hq 14 (by omega) (by omega) (by omega) (by omega)).trans hP.eA), fun i hi => ⟨(hq _ (by omega) (by omega) (by omega) (by omega)).trans (hP.hm i hi).1, (hq _ (by omega) (by omega) (by omega) (by omega)).trans (hP.hm i hi).2.1, (hq _ (by omega) (by omega) (by omega) (by omega)).trans (hP.hm i hi).2.2⟩, (zc (hq 57 (by omega) (by omega) (by omega) (by omega)) hP.z57), ((hq 58 (by omega) (by omega) (by omega) (by omega)).trans hP.e58), (zc (hq 4 (by omega) (by omega) (by omega) (by omega)) hP.z4), (zc (hq 5 (by omega) (by omega) (by omega) (by omega)) hP.z5), (zc (hq 6 (by omega) (by omega) (by omega) (by omega)) hP.z6), (zc (hq 59 (by omega) (by omega) (by omega) (by omega)) hP.z59), (zc (hq 60 (by omega) (by omega) (by omega) (by omega)) hP.z60), (zc (hq 61 (by omega) (by omega) (by omega) (by omega)) hP.z61), (zc (hq 62 (by omega) (by omega) (by omega) (by omega)) hP.z62), (zc (hq 63 (by omega) (by omega) (by omega) (by omega)) hP.z63), (zc (hq 64 (by omega) (by omega) (by omega) (by omega)) hP.z64)⟩⟩
  · exact h.elim
  · exact h.elim
  · obtain ⟨sz2, w2, h0, h1, hP1⟩ := hOk
    refine ⟨_, _, _, c6_save hA t z ms spo ou6 rf n a g f7 sz w fk kz (Nat.le_refl 76) hL.now.1 hL.now.2.1 hL.now.2.2 hbt ((hu 65 (by decide) (by decide)).trans e65) ((hu 67 (by decide) (by decide)).trans hM.e67) ((hu 70 (by decide) (by decide)).trans hM.e70) ((hu 71 (by decide) (by decide)).trans hM.e71), by decide, fun r6 u2 h => ?_⟩
    obtain ⟨v9, r9, k2, kz2, h6, hd, c65, c70, c71, hq⟩ := h
    have ht : t.toNat = 1 := by omega
    rcases hd with ⟨m0, m1, m2, m3, m4, m5⟩ | ⟨m0, _⟩
    · rw [ht] at m3 m4 m5
      have hM2 : oRM cT ad u2 z ms ⟨f7, T6, fd, k2, kz2⟩ := ⟨⟨_, _, _, c65⟩, ((hq 66 (by decide) (by decide) (by decide)).trans ((hu 66 (by decide) (by decide)).trans hM.e66)), ((hq 67 (by decide) (by decide) (by decide)).trans ((hu 67 (by decide) (by decide)).trans hM.e67)), (zc ((hq 68 (by decide) (by decide) (by decide)).trans (hu 68 (by decide) (by decide))) hM.z68), ((hq 69 (by decide) (by decide) (by decide)).trans ((hu 69 (by decide) (by decide)).trans hM.e69)), c70, c71, (zc ((hq 72 (by decide) (by decide) (by decide)).trans (hu 72 (by decide) (by decide))) hM.z72), (zc ((hq 73 (by decide) (by decide) (by decide)).trans (hu 73 (by decide) (by decide))) hM.z73), (zc ((hq 74 (by decide) (by decide) (by decide)).trans (hu 74 (by decide) (by decide))) hM.z74)⟩
      have hL2 : oLk ⟨n, a, g, sz, w, n7, a7, g7, sz7, w7, n, a, g, sz2, w2, ff, 1, nx, ms, mn, ma, mg, msz, mw, T, z⟩ ⟨f7, T6, fd, k2, kz2⟩ := ⟨hL.now, hL.hnx, hL.hms, hL.mn4, hL.mem, hL.hz, hL.hT, hL.hTT, hL.n74, hL.now.1.1, ⟨(show kz2 0 = ff by rw [m5, va_up_n _ _ (by decide)]; exact hL.k0.1), hL.k0.2.imp id (fun h => ⟨h.1, h.2.f (fun k hk => m4 _ (by omega))⟩)⟩, ⟨(show kz2 1 = 1 by rw [m5, va_up_s]), Or.inr ⟨rfl, (hL.now.eq h1).f m3⟩⟩⟩
      exact ⟨fun q hq9 => hq q (by omega) (by omega) (by omega), r9, _, _, ⟨_, _, c65⟩, by rw [m1]; decide, m1, by rw [h6, h0, m2], oFin.mk hP1 hM2 hL2⟩
    · exact absurd (by omega) m0
  · exact hEx.elim
set_option maxRecDepth 100000 in
theorem kX_saveX {l : Launch} {D : va_G} {cT : Nat → ClassId} {b0 : Nat} {ad : Nat → Nat} (hA : oAd b0 76 ad) (hl0 : l.stackTraces = false) {σ : Nat → va_E} (hR : oRelC cT ad σ) (t : Int) (hbt : -2147483648 ≤ t ∧ t < 2147483648) (htv : ¬ (t = 0 ∨ t = 1)) :
    oKX l D cT ad b0 σ yX5_save cX5_save 2 [.ref (ad (0)), .int (oI (t))] yX6_save cX6_save 2 [.ref (ad (65)), .int (oI (t))] oIO oIO := by
  obtain ⟨⟨n, a, g, sz, w, n7, a7, g7, sz7, w7, n8, a8, g8, sz8, w8, ff, sf, nx, ms, mn, ma, mg, msz, mw, T, z⟩, ⟨f7, T6, fd, fk, kz⟩, hP, hM, hL⟩ := hR
  have hnx : nx < 14 := hL.hnx
  have hms : ms ≤ 14 := hL.hms
  have hzz : z ≤ 120 := hL.hz
  have hTT : T6 = T := hL.hTT
  obtain ⟨rf, spo, ou6, e65⟩ := hM.z65
  refine ⟨fun _ _ => False, fun E uu => E = oIO ∧ oRP cT ad uu ⟨n, a, g, sz, w, n7, a7, g7, sz7, w7, n8, a8, g8, sz8, w8, ff, sf, nx, ms, mn, ma, mg, msz, mw, T, z⟩, ⟨_, _, _, _, _, c5_saveX hA t n a g n7 a7 g7 n8 a8 g8 sz w sz7 w7 sz8 w8 ff sf hl0 (Nat.le_refl 76) hL.now.1 hbt htv hP.eO hP.e0 hP.e1 hP.e2 hP.f70 hP.f71 hP.f72 hP.f100 hP.f101 hP.f102, by decide, fun rz u h => ?_, fun E u h => ?_⟩, fun E u h => ?_, fun rz u0 u hOk hu => ?_, fun E u0 u hEx hu => ?_⟩
  · exact h.2.1.elim
  · obtain ⟨h0, hq⟩ := h
    have hq : ∀ q : Nat, u q = σ q := fun q => by rw [hq]
    exact ⟨fun q hq9 => hq q, h0, hP.congr (fun q _ => hq q)⟩
  · exact Or.inl h.1
  · exact hOk.elim
  · obtain ⟨hE, hP1⟩ := hEx
    refine ⟨_, _, _, c6_save hA t z ms spo ou6 rf n a g f7 sz w fk kz (Nat.le_refl 76) hL.now.1 hL.now.2.1 hL.now.2.2 hbt ((hu 65 (by decide) (by decide)).trans e65) ((hu 67 (by decide) (by decide)).trans hM.e67) ((hu 70 (by decide) (by decide)).trans hM.e70) ((hu 71 (by decide) (by decide)).trans hM.e71), by decide, fun r6 u2 h => ?_⟩
    obtain ⟨v9, r9, k2, kz2, h6, hd, c65, c70, c71, hq⟩ := h
    rcases hd with ⟨m0, _⟩ | ⟨m0, m1, m2, m3⟩
    · exact absurd m0 htv
    · rw [m2] at c70
      rw [m3] at c71
      have hM2 : oRM cT ad u2 z ms ⟨f7, T6, fd, fk, kz⟩ := ⟨⟨_, _, _, c65⟩, ((hq 66 (by decide) (by decide) (by decide)).trans ((hu 66 (by decide) (by decide)).trans hM.e66)), ((hq 67 (by decide) (by decide) (by decide)).trans ((hu 67 (by decide) (by decide)).trans hM.e67)), (zc ((hq 68 (by decide) (by decide) (by decide)).trans (hu 68 (by decide) (by decide))) hM.z68), ((hq 69 (by decide) (by decide) (by decide)).trans ((hu 69 (by decide) (by decide)).trans hM.e69)), c70, c71, (zc ((hq 72 (by decide) (by decide) (by decide)).trans (hu 72 (by decide) (by decide))) hM.z72), (zc ((hq 73 (by decide) (by decide) (by decide)).trans (hu 73 (by decide) (by decide))) hM.z73), (zc ((hq 74 (by decide) (by decide) (by decide)).trans (hu 74 (by decide) (by decide))) hM.z74)⟩
      exact ⟨fun q hq9 => hq q (by omega) (by omega) (by omega), r9, _, _, ⟨_, _, c65⟩, by rw [m1]; decide, m1.trans (by rw [hE]; exact n1_1), oFin.mk hP1 hM2 hL⟩
set_option maxRecDepth 100000 in
theorem kX_restore0 {l : Launch} {D : va_G} {cT : Nat → ClassId} {b0 : Nat} {ad : Nat → Nat} (hA : oAd b0 76 ad) (hl0 : l.stackTraces = false) {σ : Nat → va_E} (hR : oRelC cT ad σ) (t : Int) (hbt : -2147483648 ≤ t ∧ t < 2147483648) (htv : t = 0) :
    oKX l D cT ad b0 σ yX5_restore cX5_restore 2 [.ref (ad (0)), .int (oI (t))] yX6_restore cX6_restore 2 [.ref (ad (65)), .int (oI (t))] oIO oIS := by
  obtain ⟨⟨n, a, g, sz, w, n7, a7, g7, sz7, w7, n8, a8, g8, sz8, w8, ff, sf, nx, ms, mn, ma, mg, msz, mw, T, z⟩, ⟨f7, T6, fd, fk, kz⟩, hP, hM, hL⟩ := hR
  have hnx : nx < 14 := hL.hnx
  have hms : ms ≤ 14 := hL.hms
  have hzz : z ≤ 120 := hL.hz
  have hTT : T6 = T := hL.hTT
  have k01 : kz 0 = ff := hL.k0.1
  have k11 : kz 1 = sf := hL.k1.1
  have k02 : ff = 0 ∨ ff = 1 := hL.k0.2.imp id (fun h => h.1)
  have k12 : sf = 0 ∨ sf = 1 := hL.k1.2.imp id (fun h => h.1)
  have hkz : ∀ i : Nat, i < 2 → kz i = 0 ∨ kz i = 1 := fun i hi => by
    rcases (show i = 0 ∨ i = 1 by omega) with rfl | rfl
    · rw [k01]; exact k02
    · rw [k11]; exact k12
  obtain ⟨rf, spo, ou6, e65⟩ := hM.z65
  refine ⟨fun rr uu => ∃ sz2 w2 : Nat → Nat, rr = oI ((n7 : Nat) : Int) ∧ ff = 1 ∧ (∀ r : Nat, r < n7 → sz2 r = sz7 r ∧ w2 r = w7 r) ∧ oRP cT ad uu ⟨n7, a7, g7, sz2, w2, n7, a7, g7, sz7, w7, n8, a8, g8, sz8, w8, ff, sf, nx, 0, mn, ma, mg, msz, mw, T, z⟩, fun E uu => (E = oIS ∧ ff = 0) ∧ oRP cT ad uu ⟨n, a, g, sz, w, n7, a7, g7, sz7, w7, n8, a8, g8, sz8, w8, ff, sf, nx, ms, mn, ma, mg, msz, mw, T, z⟩, ⟨_, _, _, _, _, c5_restore0 hA t nx ms n a g n7 a7 g7 n8 a8 g8 sz w sz7 w7 sz8 w8 ff sf hl0 (Nat.le_refl 76) hL.n74 k02 hbt htv hP.eO hP.e0 hP.e1 hP.e2 hP.f70 hP.f71 hP.f72 hP.f100 hP.f101 hP.f102 hP.eM, by decide, fun rz u h => ?_, fun E u h => ?_⟩, fun E u h => ?_, fun rz u0 u hOk hu => ?_, fun E u0 u hEx hu => ?_⟩
  · obtain ⟨sz2, w2, h0, h1, h2, c1, c2, c3, c13, hq⟩ := h
    exact ⟨fun q hq9 => hq q (by omega) (by omega) (by omega) (by omega), sz2, w2, h0, h1, h2, ⟨((hq 0 (by omega) (by omega) (by omega) (by omega)).trans hP.eO), c1, c2, c3, ((hq 7 (by omega) (by omega) (by omega) (by omega)).trans hP.f70), ((hq 8 (by omega) (by omega) (by omega) (by omega)).trans hP.f71), ((hq 9 (by omega) (by omega) (by omega) (by omega)).trans hP.f72), ((hq 10 (by omega) (by omega) (by omega) (by omega)).trans hP.f100), ((hq 11 (by omega) (by omega) (by omega) (by omega)).trans hP.f101), ((hq 12 (by omega) (by omega) (by omega) (by omega)).trans hP.f102), c13, ((hq 14 (by omega) (by omega) (by omega) (by omega)).trans hP.eA), fun i hi => ⟨(hq _ (by omega) (by omega) (by omega) (by omega)).trans (hP.hm i hi).1, (hq _ (by omega) (by omega) (by omega) (by omega)).trans (hP.hm i hi).2.1, (hq _ (by omega) (by omega) (by omega) (by omega)).trans (hP.hm i hi).2.2⟩, (zc (hq 57 (by omega) (by omega) (by omega) (by omega)) hP.z57), ((hq 58 (by omega) (by omega) (by omega) (by omega)).trans hP.e58), (zc (hq 4 (by omega) (by omega) (by omega) (by omega)) hP.z4), (zc (hq 5 (by omega) (by omega) (by omega) (by omega)) hP.z5), (zc (hq 6 (by omega) (by omega) (by omega) (by omega)) hP.z6), (zc (hq 59 (by omega) (by omega) (by omega) (by omega)) hP.z59), (zc (hq 60 (by omega) (by omega) (by omega) (by omega)) hP.z60), (zc (hq 61 (by omega) (by omega) (by omega) (by omega)) hP.z61), (zc (hq 62 (by omega) (by omega) (by omega) (by omega)) hP.z62), (zc (hq 63 (by omega) (by omega) (by omega) (by omega)) hP.z63), (zc (hq 64 (by omega) (by omega) (by omega) (by omega)) hP.z64)⟩⟩
  · obtain ⟨h0, hq⟩ := h
    have hq : ∀ q : Nat, u q = σ q := fun q => by rw [hq]
    exact ⟨fun q hq9 => hq q, h0, hP.congr (fun q _ => hq q)⟩
  · exact Or.inr h.1.1
  · obtain ⟨sz2, w2, h0, h1, h2, hP1⟩ := hOk
    refine ⟨_, _, _, c6_restore hA t z ms spo ou6 rf f7 fk kz (Nat.le_refl 76) hkz hbt ((hu 65 (by decide) (by decide)).trans e65) ((hu 67 (by decide) (by decide)).trans hM.e67) ((hu 70 (by decide) (by decide)).trans hM.e70) ((hu 71 (by decide) (by decide)).trans hM.e71), by decide, fun r6 u2 h => ?_⟩
    obtain ⟨v9, r9, ac2, y7, h6, hd, c65, c67, hq⟩ := h
    have ht : t.toNat = 0 := by omega
    rcases hd with ⟨m0, m1, m2, m3, m4, m5⟩ | ⟨_, _, m⟩
    · rw [ht] at m5
      rw [m4] at c65
      have hx : oPi (fun k => fk (k + 171 * 0)) n7 a7 g7 sz7 w7 := by
        rcases hL.k0.2 with h | h
        · exact absurd ((show ff = 0 from h).symm.trans h1) (by decide)
        · exact h.2
      have hx2 : oPi y7 n7 a7 g7 sz2 w2 := (hx.f m5).eq h2
      have hM2 : oRM cT ad u2 z 0 ⟨y7, T6, fd, fk, kz⟩ := ⟨⟨_, _, _, c65⟩, ((hq 66 (by decide) (by decide)).trans ((hu 66 (by decide) (by decide)).trans hM.e66)), c67, (zc ((hq 68 (by decide) (by decide)).trans (hu 68 (by decide) (by decide))) hM.z68), ((hq 69 (by decide) (by decide)).trans ((hu 69 (by decide) (by decide)).trans hM.e69)), ((hq 70 (by decide) (by decide)).trans ((hu 70 (by decide) (by decide)).trans hM.e70)), ((hq 71 (by decide) (by decide)).trans ((hu 71 (by decide) (by decide)).trans hM.e71)), (zc ((hq 72 (by decide) (by decide)).trans (hu 72 (by decide) (by decide))) hM.z72), (zc ((hq 73 (by decide) (by decide)).trans (hu 73 (by decide) (by decide))) hM.z73), (zc ((hq 74 (by decide) (by decide)).trans (hu 74 (by decide) (by decide))) hM.z74)⟩
      have hL2 : oLk ⟨n7, a7, g7, sz2, w2, n7, a7, g7, sz7, w7, n8, a8, g8, sz8, w8, ff, sf, nx, 0, mn, ma, mg, msz, mw, T, z⟩ ⟨y7, T6, fd, fk, kz⟩ := ⟨hx2, hL.hnx, Nat.zero_le _, hL.mn4, fun i hi => absurd hi (Nat.not_lt_zero i), hL.hz, hL.hT, hL.hTT, hL.n74, hL.n84, hL.k0, hL.k1⟩
      exact ⟨fun q hq9 => hq q (by omega) (by omega), r9, _, _, ⟨_, _, c65⟩, by rw [m2]; decide, m2, by rw [h6, h0, m3, hx2.2.2.1], oFin.mk hP1 hM2 hL2⟩
    · rcases m with ⟨_, m⟩ | ⟨_, _, m⟩
      · exact absurd (by omega) m
      · rw [ht, k01, h1] at m
        exact absurd m (by decide)
  · obtain ⟨hE, hP1⟩ := hEx
    refine ⟨_, _, _, c6_restore hA t z ms spo ou6 rf f7 fk kz (Nat.le_refl 76) hkz hbt ((hu 65 (by decide) (by decide)).trans e65) ((hu 67 (by decide) (by decide)).trans hM.e67) ((hu 70 (by decide) (by decide)).trans hM.e70) ((hu 71 (by decide) (by decide)).trans hM.e71), by decide, fun r6 u2 h => ?_⟩
    obtain ⟨v9, r9, ac2, y7, h6, hd, c65, c67, hq⟩ := h
    have ht : t.toNat = 0 := by omega
    rcases hd with ⟨m0, m1, m2, m3, m4, m5⟩ | ⟨y1, y2, m⟩
    · rw [ht, k01, hE.2] at m1
      exact absurd m1 (by decide)
    · rw [y1] at c65
      rw [y2] at c67
      have hM2 : oRM cT ad u2 z ms ⟨f7, T6, fd, fk, kz⟩ := ⟨⟨_, _, _, c65⟩, ((hq 66 (by decide) (by decide)).trans ((hu 66 (by decide) (by decide)).trans hM.e66)), c67, (zc ((hq 68 (by decide) (by decide)).trans (hu 68 (by decide) (by decide))) hM.z68), ((hq 69 (by decide) (by decide)).trans ((hu 69 (by decide) (by decide)).trans hM.e69)), ((hq 70 (by decide) (by decide)).trans ((hu 70 (by decide) (by decide)).trans hM.e70)), ((hq 71 (by decide) (by decide)).trans ((hu 71 (by decide) (by decide)).trans hM.e71)), (zc ((hq 72 (by decide) (by decide)).trans (hu 72 (by decide) (by decide))) hM.z72), (zc ((hq 73 (by decide) (by decide)).trans (hu 73 (by decide) (by decide))) hM.z73), (zc ((hq 74 (by decide) (by decide)).trans (hu 74 (by decide) (by decide))) hM.z74)⟩
      rcases m with ⟨m1, m⟩ | ⟨m1, _, m⟩
      · exact absurd (by omega) m
      · exact ⟨fun q hq9 => hq q (by omega) (by omega), r9, _, _, ⟨_, _, c65⟩, by rw [m1]; decide, m1.trans (by rw [hE.1]; exact n1_3), oFin.mk hP1 hM2 hL⟩
set_option maxRecDepth 100000 in
theorem kX_restore1 {l : Launch} {D : va_G} {cT : Nat → ClassId} {b0 : Nat} {ad : Nat → Nat} (hA : oAd b0 76 ad) (hl0 : l.stackTraces = false) {σ : Nat → va_E} (hR : oRelC cT ad σ) (t : Int) (hbt : -2147483648 ≤ t ∧ t < 2147483648) (htv : t = 1) :
    oKX l D cT ad b0 σ yX5_restore cX5_restore 2 [.ref (ad (0)), .int (oI (t))] yX6_restore cX6_restore 2 [.ref (ad (65)), .int (oI (t))] oIO oIS := by
  obtain ⟨⟨n, a, g, sz, w, n7, a7, g7, sz7, w7, n8, a8, g8, sz8, w8, ff, sf, nx, ms, mn, ma, mg, msz, mw, T, z⟩, ⟨f7, T6, fd, fk, kz⟩, hP, hM, hL⟩ := hR
  have hnx : nx < 14 := hL.hnx
  have hms : ms ≤ 14 := hL.hms
  have hzz : z ≤ 120 := hL.hz
  have hTT : T6 = T := hL.hTT
  have k01 : kz 0 = ff := hL.k0.1
  have k11 : kz 1 = sf := hL.k1.1
  have k02 : ff = 0 ∨ ff = 1 := hL.k0.2.imp id (fun h => h.1)
  have k12 : sf = 0 ∨ sf = 1 := hL.k1.2.imp id (fun h => h.1)
  have hkz : ∀ i : Nat, i < 2 → kz i = 0 ∨ kz i = 1 := fun i hi => by
    rcases (show i = 0 ∨ i = 1 by omega) with rfl | rfl
    · rw [k01]; exact k02
    · rw [k11]; exact k12
  obtain ⟨rf, spo, ou6, e65⟩ := hM.z65
  refine ⟨fun rr uu => ∃ sz2 w2 : Nat → Nat, rr = oI ((n8 : Nat) : Int) ∧ sf = 1 ∧ (∀ r : Nat, r < n8 → sz2 r = sz8 r ∧ w2 r = w8 r) ∧ oRP cT ad uu ⟨n8, a8, g8, sz2, w2, n7, a7, g7, sz7, w7, n8, a8, g8, sz8, w8, ff, sf, nx, 0, mn, ma, mg, msz, mw, T, z⟩, fun E uu => (E = oIS ∧ sf = 0) ∧ oRP cT ad uu ⟨n, a, g, sz, w, n7, a7, g7, sz7, w7, n8, a8, g8, sz8, w8, ff, sf, nx, ms, mn, ma, mg, msz, mw, T, z⟩, ⟨_, _, _, _, _, c5_restore1 hA t nx ms n a g n7 a7 g7 n8 a8 g8 sz w sz7 w7 sz8 w8 ff sf hl0 (Nat.le_refl 76) hL.n84 k12 hbt htv hP.eO hP.e0 hP.e1 hP.e2 hP.f70 hP.f71 hP.f72 hP.f100 hP.f101 hP.f102 hP.eM, by decide, fun rz u h => ?_, fun E u h => ?_⟩, fun E u h => ?_, fun rz u0 u hOk hu => ?_, fun E u0 u hEx hu => ?_⟩
  · obtain ⟨sz2, w2, h0, h1, h2, c1, c2, c3, c13, hq⟩ := h
    exact ⟨fun q hq9 => hq q (by omega) (by omega) (by omega) (by omega), sz2, w2, h0, h1, h2, ⟨((hq 0 (by omega) (by omega) (by omega) (by omega)).trans hP.eO), c1, c2, c3, ((hq 7 (by omega) (by omega) (by omega) (by omega)).trans hP.f70), ((hq 8 (by omega) (by omega) (by omega) (by omega)).trans hP.f71), ((hq 9 (by omega) (by omega) (by omega) (by omega)).trans hP.f72), ((hq 10 (by omega) (by omega) (by omega) (by omega)).trans hP.f100), ((hq 11 (by omega) (by omega) (by omega) (by omega)).trans hP.f101), ((hq 12 (by omega) (by omega) (by omega) (by omega)).trans hP.f102), c13, ((hq 14 (by omega) (by omega) (by omega) (by omega)).trans hP.eA), fun i hi => ⟨(hq _ (by omega) (by omega) (by omega) (by omega)).trans (hP.hm i hi).1, (hq _ (by omega) (by omega) (by omega) (by omega)).trans (hP.hm i hi).2.1, (hq _ (by omega) (by omega) (by omega) (by omega)).trans (hP.hm i hi).2.2⟩, (zc (hq 57 (by omega) (by omega) (by omega) (by omega)) hP.z57), ((hq 58 (by omega) (by omega) (by omega) (by omega)).trans hP.e58), (zc (hq 4 (by omega) (by omega) (by omega) (by omega)) hP.z4), (zc (hq 5 (by omega) (by omega) (by omega) (by omega)) hP.z5), (zc (hq 6 (by omega) (by omega) (by omega) (by omega)) hP.z6), (zc (hq 59 (by omega) (by omega) (by omega) (by omega)) hP.z59), (zc (hq 60 (by omega) (by omega) (by omega) (by omega)) hP.z60), (zc (hq 61 (by omega) (by omega) (by omega) (by omega)) hP.z61), (zc (hq 62 (by omega) (by omega) (by omega) (by omega)) hP.z62), (zc (hq 63 (by omega) (by omega) (by omega) (by omega)) hP.z63), (zc (hq 64 (by omega) (by omega) (by omega) (by omega)) hP.z64)⟩⟩
  · obtain ⟨h0, hq⟩ := h
    have hq : ∀ q : Nat, u q = σ q := fun q => by rw [hq]
    exact ⟨fun q hq9 => hq q, h0, hP.congr (fun q _ => hq q)⟩
  · exact Or.inr h.1.1
  · obtain ⟨sz2, w2, h0, h1, h2, hP1⟩ := hOk
    refine ⟨_, _, _, c6_restore hA t z ms spo ou6 rf f7 fk kz (Nat.le_refl 76) hkz hbt ((hu 65 (by decide) (by decide)).trans e65) ((hu 67 (by decide) (by decide)).trans hM.e67) ((hu 70 (by decide) (by decide)).trans hM.e70) ((hu 71 (by decide) (by decide)).trans hM.e71), by decide, fun r6 u2 h => ?_⟩
    obtain ⟨v9, r9, ac2, y7, h6, hd, c65, c67, hq⟩ := h
    have ht : t.toNat = 1 := by omega
    rcases hd with ⟨m0, m1, m2, m3, m4, m5⟩ | ⟨_, _, m⟩
    · rw [ht] at m5
      rw [m4] at c65
      have hx : oPi (fun k => fk (k + 171 * 1)) n8 a8 g8 sz8 w8 := by
        rcases hL.k1.2 with h | h
        · exact absurd ((show sf = 0 from h).symm.trans h1) (by decide)
        · exact h.2
      have hx2 : oPi y7 n8 a8 g8 sz2 w2 := (hx.f m5).eq h2
      have hM2 : oRM cT ad u2 z 0 ⟨y7, T6, fd, fk, kz⟩ := ⟨⟨_, _, _, c65⟩, ((hq 66 (by decide) (by decide)).trans ((hu 66 (by decide) (by decide)).trans hM.e66)), c67, (zc ((hq 68 (by decide) (by decide)).trans (hu 68 (by decide) (by decide))) hM.z68), ((hq 69 (by decide) (by decide)).trans ((hu 69 (by decide) (by decide)).trans hM.e69)), ((hq 70 (by decide) (by decide)).trans ((hu 70 (by decide) (by decide)).trans hM.e70)), ((hq 71 (by decide) (by decide)).trans ((hu 71 (by decide) (by decide)).trans hM.e71)), (zc ((hq 72 (by decide) (by decide)).trans (hu 72 (by decide) (by decide))) hM.z72), (zc ((hq 73 (by decide) (by decide)).trans (hu 73 (by decide) (by decide))) hM.z73), (zc ((hq 74 (by decide) (by decide)).trans (hu 74 (by decide) (by decide))) hM.z74)⟩
      have hL2 : oLk ⟨n8, a8, g8, sz2, w2, n7, a7, g7, sz7, w7, n8, a8, g8, sz8, w8, ff, sf, nx, 0, mn, ma, mg, msz, mw, T, z⟩ ⟨y7, T6, fd, fk, kz⟩ := ⟨hx2, hL.hnx, Nat.zero_le _, hL.mn4, fun i hi => absurd hi (Nat.not_lt_zero i), hL.hz, hL.hT, hL.hTT, hL.n74, hL.n84, hL.k0, hL.k1⟩
      exact ⟨fun q hq9 => hq q (by omega) (by omega), r9, _, _, ⟨_, _, c65⟩, by rw [m2]; decide, m2, by rw [h6, h0, m3, hx2.2.2.1], oFin.mk hP1 hM2 hL2⟩
    · rcases m with ⟨_, m⟩ | ⟨_, _, m⟩
      · exact absurd (by omega) m
      · rw [ht, k11, h1] at m
        exact absurd m (by decide)
  · obtain ⟨hE, hP1⟩ := hEx
    refine ⟨_, _, _, c6_restore hA t z ms spo ou6 rf f7 fk kz (Nat.le_refl 76) hkz hbt ((hu 65 (by decide) (by decide)).trans e65) ((hu 67 (by decide) (by decide)).trans hM.e67) ((hu 70 (by decide) (by decide)).trans hM.e70) ((hu 71 (by decide) (by decide)).trans hM.e71), by decide, fun r6 u2 h => ?_⟩
    obtain ⟨v9, r9, ac2, y7, h6, hd, c65, c67, hq⟩ := h
    have ht : t.toNat = 1 := by omega
    rcases hd with ⟨m0, m1, m2, m3, m4, m5⟩ | ⟨y1, y2, m⟩
    · rw [ht, k11, hE.2] at m1
      exact absurd m1 (by decide)
    · rw [y1] at c65
      rw [y2] at c67
      have hM2 : oRM cT ad u2 z ms ⟨f7, T6, fd, fk, kz⟩ := ⟨⟨_, _, _, c65⟩, ((hq 66 (by decide) (by decide)).trans ((hu 66 (by decide) (by decide)).trans hM.e66)), c67, (zc ((hq 68 (by decide) (by decide)).trans (hu 68 (by decide) (by decide))) hM.z68), ((hq 69 (by decide) (by decide)).trans ((hu 69 (by decide) (by decide)).trans hM.e69)), ((hq 70 (by decide) (by decide)).trans ((hu 70 (by decide) (by decide)).trans hM.e70)), ((hq 71 (by decide) (by decide)).trans ((hu 71 (by decide) (by decide)).trans hM.e71)), (zc ((hq 72 (by decide) (by decide)).trans (hu 72 (by decide) (by decide))) hM.z72), (zc ((hq 73 (by decide) (by decide)).trans (hu 73 (by decide) (by decide))) hM.z73), (zc ((hq 74 (by decide) (by decide)).trans (hu 74 (by decide) (by decide))) hM.z74)⟩
      rcases m with ⟨m1, m⟩ | ⟨m1, _, m⟩
      · exact absurd (by omega) m
      · exact ⟨fun q hq9 => hq q (by omega) (by omega), r9, _, _, ⟨_, _, c65⟩, by rw [m1]; decide, m1.trans (by rw [hE.1]; exact n1_3), oFin.mk hP1 hM2 hL⟩
set_option maxRecDepth 100000 in
theorem kX_restoreX {l : Launch} {D : va_G} {cT : Nat → ClassId} {b0 : Nat} {ad : Nat → Nat} (hA : oAd b0 76 ad) (hl0 : l.stackTraces = false) {σ : Nat → va_E} (hR : oRelC cT ad σ) (t : Int) (hbt : -2147483648 ≤ t ∧ t < 2147483648) (htv : ¬ (t = 0 ∨ t = 1)) :
    oKX l D cT ad b0 σ yX5_restore cX5_restore 2 [.ref (ad (0)), .int (oI (t))] yX6_restore cX6_restore 2 [.ref (ad (65)), .int (oI (t))] oIO oIS := by
  obtain ⟨⟨n, a, g, sz, w, n7, a7, g7, sz7, w7, n8, a8, g8, sz8, w8, ff, sf, nx, ms, mn, ma, mg, msz, mw, T, z⟩, ⟨f7, T6, fd, fk, kz⟩, hP, hM, hL⟩ := hR
  have hnx : nx < 14 := hL.hnx
  have hms : ms ≤ 14 := hL.hms
  have hzz : z ≤ 120 := hL.hz
  have hTT : T6 = T := hL.hTT
  have k01 : kz 0 = ff := hL.k0.1
  have k11 : kz 1 = sf := hL.k1.1
  have k02 : ff = 0 ∨ ff = 1 := hL.k0.2.imp id (fun h => h.1)
  have k12 : sf = 0 ∨ sf = 1 := hL.k1.2.imp id (fun h => h.1)
  have hkz : ∀ i : Nat, i < 2 → kz i = 0 ∨ kz i = 1 := fun i hi => by
    rcases (show i = 0 ∨ i = 1 by omega) with rfl | rfl
    · rw [k01]; exact k02
    · rw [k11]; exact k12
  obtain ⟨rf, spo, ou6, e65⟩ := hM.z65
  refine ⟨fun _ _ => False, fun E uu => E = oIO ∧ oRP cT ad uu ⟨n, a, g, sz, w, n7, a7, g7, sz7, w7, n8, a8, g8, sz8, w8, ff, sf, nx, ms, mn, ma, mg, msz, mw, T, z⟩, ⟨_, _, _, _, _, c5_restoreX hA t nx ms n a g n7 a7 g7 n8 a8 g8 sz w sz7 w7 sz8 w8 ff sf hl0 (Nat.le_refl 76) hbt htv hP.eO hP.e0 hP.e1 hP.e2 hP.f70 hP.f71 hP.f72 hP.f100 hP.f101 hP.f102 hP.eM, by decide, fun rz u h => ?_, fun E u h => ?_⟩, fun E u h => ?_, fun rz u0 u hOk hu => ?_, fun E u0 u hEx hu => ?_⟩
  · exact h.2.1.elim
  · obtain ⟨h0, hq⟩ := h
    have hq : ∀ q : Nat, u q = σ q := fun q => by rw [hq]
    exact ⟨fun q hq9 => hq q, h0, hP.congr (fun q _ => hq q)⟩
  · exact Or.inl h.1
  · exact hOk.elim
  · obtain ⟨hE, hP1⟩ := hEx
    refine ⟨_, _, _, c6_restore hA t z ms spo ou6 rf f7 fk kz (Nat.le_refl 76) hkz hbt ((hu 65 (by decide) (by decide)).trans e65) ((hu 67 (by decide) (by decide)).trans hM.e67) ((hu 70 (by decide) (by decide)).trans hM.e70) ((hu 71 (by decide) (by decide)).trans hM.e71), by decide, fun r6 u2 h => ?_⟩
    obtain ⟨v9, r9, ac2, y7, h6, hd, c65, c67, hq⟩ := h
    rcases hd with ⟨m0, _⟩ | ⟨y1, y2, m⟩
    · exact absurd m0 htv
    · rw [y1] at c65
      rw [y2] at c67
      have hM2 : oRM cT ad u2 z ms ⟨f7, T6, fd, fk, kz⟩ := ⟨⟨_, _, _, c65⟩, ((hq 66 (by decide) (by decide)).trans ((hu 66 (by decide) (by decide)).trans hM.e66)), c67, (zc ((hq 68 (by decide) (by decide)).trans (hu 68 (by decide) (by decide))) hM.z68), ((hq 69 (by decide) (by decide)).trans ((hu 69 (by decide) (by decide)).trans hM.e69)), ((hq 70 (by decide) (by decide)).trans ((hu 70 (by decide) (by decide)).trans hM.e70)), ((hq 71 (by decide) (by decide)).trans ((hu 71 (by decide) (by decide)).trans hM.e71)), (zc ((hq 72 (by decide) (by decide)).trans (hu 72 (by decide) (by decide))) hM.z72), (zc ((hq 73 (by decide) (by decide)).trans (hu 73 (by decide) (by decide))) hM.z73), (zc ((hq 74 (by decide) (by decide)).trans (hu 74 (by decide) (by decide))) hM.z74)⟩
      rcases m with ⟨m1, m⟩ | ⟨m1, m, _⟩
      · exact ⟨fun q hq9 => hq q (by omega) (by omega), r9, _, _, ⟨_, _, c65⟩, by rw [m1]; decide, m1.trans (by rw [hE]; exact n1_1), oFin.mk hP1 hM2 hL⟩
      · exact absurd m htv
set_option maxRecDepth 100000 in
theorem kX_runScriptX {l : Launch} {D : va_G} {cT : Nat → ClassId} {b0 : Nat} {ad : Nat → Nat} (hA : oAd b0 76 ad) (hl0 : l.stackTraces = false) {σ : Nat → va_E} (hR : oRelC cT ad σ) (x sc : Int) (hbx : -2147483648 ≤ x ∧ x < 2147483648) (hx13 : ¬ (1 ≤ x ∧ x ≤ 3)) (hsc : -9223372036854775808 ≤ sc ∧ sc < 9223372036854775808) :
    oKX l D cT ad b0 σ yX5_runScript cX5_runScript 7 [.ref (ad (0)), .int (oI (x)), .long (oL (sc))] yX6_runScript cX6_runScript 8 [.ref (ad (65)), .int (oI (x)), .long (oL (sc))] oIA oIA := by
  obtain ⟨⟨n, a, g, sz, w, n7, a7, g7, sz7, w7, n8, a8, g8, sz8, w8, ff, sf, nx, ms, mn, ma, mg, msz, mw, T, z⟩, ⟨f7, T6, fd, fk, kz⟩, hP, hM, hL⟩ := hR
  have hnx : nx < 14 := hL.hnx
  have hms : ms ≤ 14 := hL.hms
  have hzz : z ≤ 120 := hL.hz
  have hTT : T6 = T := hL.hTT
  obtain ⟨n6, a6, g6, k0⟩ := hP.z4
  obtain ⟨sz6, k1⟩ := hP.z5
  obtain ⟨w6, k2⟩ := hP.z6
  obtain ⟨ld, e59⟩ := hP.z59
  obtain ⟨wr, e62⟩ := hP.z62
  obtain ⟨gr, e63⟩ := hP.z63
  obtain ⟨S, e60⟩ := hP.z60
  obtain ⟨Ln, e61⟩ := hP.z61
  obtain ⟨rf, spo, ou6, e65⟩ := hM.z65
  refine ⟨fun _ _ => False, fun E uu => E = oIA ∧ oRP cT ad uu ⟨n, a, g, sz, w, n7, a7, g7, sz7, w7, n8, a8, g8, sz8, w8, ff, sf, nx, ms, mn, ma, mg, msz, mw, T, z⟩, ⟨_, _, _, _, _, c5_runScriptX hA x sc n a g sz w n6 a6 g6 sz6 w6 ld wr gr S Ln ff sf hl0 (Nat.le_refl 76) hL.now.1 hbx hx13 hP.eO hP.e0 hP.e1 hP.e2 k0 k1 k2 e59 e60 e61 e62 e63, by decide, fun rz u h => ?_, fun E u h => ?_⟩, fun E u h => ?_, fun rz u0 u hOk hu => ?_, fun E u0 u hEx hu => ?_⟩
  · exact h.2.1.elim
  · obtain ⟨h0, hq⟩ := h
    have hq : ∀ q : Nat, u q = σ q := fun q => by rw [hq]
    exact ⟨fun q hq9 => hq q, h0, hP.congr (fun q _ => hq q)⟩
  · exact Or.inl h.1
  · exact hOk.elim
  · obtain ⟨hE, hP1⟩ := hEx
    refine ⟨_, _, _, c6_runScriptX hA x sc z ms spo ou6 rf (Nat.le_refl 76) hbx hx13 hsc ((hu 65 (by decide) (by decide)).trans e65), by decide, fun r6 u2 h => ?_⟩
    obtain ⟨h6, c65, hq⟩ := h
    have hM2 : oRM cT ad u2 z ms ⟨f7, T6, fd, fk, kz⟩ := ⟨⟨_, _, _, c65⟩, ((hq 66 (by decide)).trans ((hu 66 (by decide) (by decide)).trans hM.e66)), ((hq 67 (by decide)).trans ((hu 67 (by decide) (by decide)).trans hM.e67)), (zc ((hq 68 (by decide)).trans (hu 68 (by decide) (by decide))) hM.z68), ((hq 69 (by decide)).trans ((hu 69 (by decide) (by decide)).trans hM.e69)), ((hq 70 (by decide)).trans ((hu 70 (by decide) (by decide)).trans hM.e70)), ((hq 71 (by decide)).trans ((hu 71 (by decide) (by decide)).trans hM.e71)), (zc ((hq 72 (by decide)).trans (hu 72 (by decide) (by decide))) hM.z72), (zc ((hq 73 (by decide)).trans (hu 73 (by decide) (by decide))) hM.z73), (zc ((hq 74 (by decide)).trans (hu 74 (by decide) (by decide))) hM.z74)⟩
    exact ⟨fun q hq9 => hq q (by omega), 1, _, _, ⟨_, _, c65⟩, by decide, by rw [hE]; exact n1_1, oFin.mk hP1 hM2 hL⟩
theorem kX_save {l : Launch} {D : va_G} {cT : Nat → ClassId} {b0 : Nat} {ad : Nat → Nat} (hA : oAd b0 76 ad) (hl0 : l.stackTraces = false) {σ : Nat → va_E} (hR : oRelC cT ad σ) (t : Int) (hbt : -2147483648 ≤ t ∧ t < 2147483648) : oKX l D cT ad b0 σ yX5_save cX5_save 2 [.ref (ad (0)), .int (oI (t))] yX6_save cX6_save 2 [.ref (ad (65)), .int (oI (t))] oIO oIO := by
  by_cases h0 : t = 0
  · exact kX_save0 hA hl0 hR t hbt h0
  · by_cases h1 : t = 1
    · exact kX_save1 hA hl0 hR t hbt h1
    · exact kX_saveX hA hl0 hR t hbt (by omega)
theorem kX_restore {l : Launch} {D : va_G} {cT : Nat → ClassId} {b0 : Nat} {ad : Nat → Nat} (hA : oAd b0 76 ad) (hl0 : l.stackTraces = false) {σ : Nat → va_E} (hR : oRelC cT ad σ) (t : Int) (hbt : -2147483648 ≤ t ∧ t < 2147483648) : oKX l D cT ad b0 σ yX5_restore cX5_restore 2 [.ref (ad (0)), .int (oI (t))] yX6_restore cX6_restore 2 [.ref (ad (65)), .int (oI (t))] oIO oIS := by
  by_cases h0 : t = 0
  · exact kX_restore0 hA hl0 hR t hbt h0
  · by_cases h1 : t = 1
    · exact kX_restore1 hA hl0 hR t hbt h1
    · exact kX_restoreX hA hl0 hR t hbt (by omega)
theorem kX_runScript {l : Launch} {D : va_G} {cT : Nat → ClassId} {b0 : Nat} {ad : Nat → Nat} (hA : oAd b0 76 ad) (hl0 : l.stackTraces = false) {σ : Nat → va_E} (hR : oRelC cT ad σ) (x sc : Int) (hbx : -2147483648 ≤ x ∧ x < 2147483648) (hsc : -9223372036854775808 ≤ sc ∧ sc < 9223372036854775808) : oKX l D cT ad b0 σ yX5_runScript cX5_runScript 7 [.ref (ad (0)), .int (oI (x)), .long (oL (sc))] yX6_runScript cX6_runScript 8 [.ref (ad (65)), .int (oI (x)), .long (oL (sc))] oIA oIA := by
  by_cases h : 1 ≤ x ∧ x ≤ 3
  · rcases (show x = 1 ∨ x = 2 ∨ x = 3 by omega) with rfl | rfl | rfl
    · exact kX_runScript1 hA hl0 hR sc hsc
    · exact kX_runScript2 hA hl0 hR sc hsc
    · exact kX_runScript3 hA hl0 hR sc hsc
  · exact kX_runScriptX hA hl0 hR x sc hbx h hsc
