/-! ===== one action, whatever it is ===== -/
theorem oCi_mono {l : Launch} {D : va_G} {cT : Nat → ClassId} {N b0 : Nat} {ad : Nat → Nat} {y : MethodName} {cc : ByteArray} {maxL : Nat} {ret : Option FieldType} {fr lo : Nat} {As : List Value} {σ : Nat → va_E} {post post' : Int32 → (Nat → va_E) → Prop} (h : ∀ rr uu, post rr uu → post' rr uu) (hC : oCi l D cT N ad b0 y cc maxL ret fr lo As σ post) : oCi l D cT N ad b0 y cc maxL ret fr lo As σ post' := by
  intro p e h1 h2 h3 s m args below hf ha hP hK
  obtain ⟨n, o, hw, hs, he, hq, hL⟩ := hC p e h1 h2 h3 s m args below hf ha hP hK
  obtain ⟨⟨r, u, e1, e2, e3⟩, hF⟩ := hq
  exact ⟨n, o, hw, hs, he, ⟨⟨r, u, e1, h r u e2, e3⟩, hF⟩, hL⟩
def oRefA (k : Int) (n : Nat) (sz : Nat → Nat) (r p on : Int) : Int := if k = 1 then oRef1 n r else if k = 2 then oRef2 n sz r p on else if k = 3 then oRef3 n sz r p else if k = 4 then oRef4 n r else oRef5 r p
theorem oRefA_1 (n : Nat) (sz : Nat → Nat) (r p on : Int) : oRefA 1 n sz r p on = oRef1 n r := if_pos rfl
theorem oRefA_2 (n : Nat) (sz : Nat → Nat) (r p on : Int) : oRefA 2 n sz r p on = oRef2 n sz r p on := by unfold oRefA; rw [if_neg (by decide), if_pos rfl]
theorem oRefA_3 (n : Nat) (sz : Nat → Nat) (r p on : Int) : oRefA 3 n sz r p on = oRef3 n sz r p := by unfold oRefA; rw [if_neg (by decide), if_neg (by decide), if_pos rfl]
theorem oRefA_4 (n : Nat) (sz : Nat → Nat) (r p on : Int) : oRefA 4 n sz r p on = oRef4 n r := by unfold oRefA; rw [if_neg (by decide), if_neg (by decide), if_neg (by decide), if_pos rfl]
theorem oRefA_5 (n : Nat) (sz : Nat → Nat) (r p on : Int) : oRefA 5 n sz r p on = oRef5 r p := by unfold oRefA; rw [if_neg (by decide), if_neg (by decide), if_neg (by decide), if_neg (by decide)]
def oDoW (x : Nat) (p on : Int) : Nat := if on = 0 then oSet0 x p.toNat else oSet1 x p.toNat
def oDoS (k r p on : Int) (n a g : Nat) (sz w : Nat → Nat) : Nat × Nat × Nat × (Nat → Nat) × (Nat → Nat) :=
  if k = 1 then (n + 1, a, g, va_up sz n r.toNat, va_up w n (1 ||| 2 ^ r.toNat))
  else if k = 2 then (n, a, g, sz, va_up w r.toNat (oDoW (w r.toNat) p on))
  else if k = 3 then (n, a, g, va_up sz r.toNat p.toNat, va_up w r.toNat (oCutW (w r.toNat) p.toNat))
  else if k = 4 then (n, a, g, sz, va_up w r.toNat (oRev (w r.toNat) (sz r.toNat)))
  else if r = 0 then (n, p.toNat, g, sz, w) else (n, a, p.toNat, sz, w)
def oDoV (k r p on : Int) (n a g : Nat) (sz w : Nat → Nat) : Int :=
  if k = 1 then (n : Int) else if k = 2 then (pcnt (oDoW (w r.toNat) p on) : Int) else if k = 3 then (pcnt (oCutW (w r.toNat) p.toNat) : Int)
  else if k = 4 then oTurnR (oRev (w r.toNat) (sz r.toNat)) (sz r.toNat) else if r = 0 then (a : Int) else (g : Int)
section
variable (r p on : Int) (n a g : Nat) (sz w : Nat → Nat)
theorem oDoS_1 : oDoS 1 r p on n a g sz w = (n + 1, a, g, va_up sz n r.toNat, va_up w n (1 ||| 2 ^ r.toNat)) := if_pos rfl
theorem oDoS_2 : oDoS 2 r p on n a g sz w = (n, a, g, sz, va_up w r.toNat (oDoW (w r.toNat) p on)) := by unfold oDoS; rw [if_neg (by decide), if_pos rfl]
theorem oDoS_3 : oDoS 3 r p on n a g sz w = (n, a, g, va_up sz r.toNat p.toNat, va_up w r.toNat (oCutW (w r.toNat) p.toNat)) := by unfold oDoS; rw [if_neg (by decide), if_neg (by decide), if_pos rfl]
theorem oDoS_4 : oDoS 4 r p on n a g sz w = (n, a, g, sz, va_up w r.toNat (oRev (w r.toNat) (sz r.toNat))) := by unfold oDoS; rw [if_neg (by decide), if_neg (by decide), if_neg (by decide), if_pos rfl]
theorem oDoS_50 : oDoS 5 0 p on n a g sz w = (n, p.toNat, g, sz, w) := by unfold oDoS; rw [if_neg (by decide), if_neg (by decide), if_neg (by decide), if_neg (by decide), if_pos rfl]
theorem oDoS_51 : oDoS 5 1 p on n a g sz w = (n, a, p.toNat, sz, w) := by unfold oDoS; rw [if_neg (by decide), if_neg (by decide), if_neg (by decide), if_neg (by decide), if_neg (by decide)]
theorem oDoV_1 : oDoV 1 r p on n a g sz w = (n : Int) := if_pos rfl
theorem oDoV_2 : oDoV 2 r p on n a g sz w = (pcnt (oDoW (w r.toNat) p on) : Int) := by unfold oDoV; rw [if_neg (by decide), if_pos rfl]
theorem oDoV_3 : oDoV 3 r p on n a g sz w = (pcnt (oCutW (w r.toNat) p.toNat) : Int) := by unfold oDoV; rw [if_neg (by decide), if_neg (by decide), if_pos rfl]
theorem oDoV_4 : oDoV 4 r p on n a g sz w = oTurnR (oRev (w r.toNat) (sz r.toNat)) (sz r.toNat) := by unfold oDoV; rw [if_neg (by decide), if_neg (by decide), if_neg (by decide), if_pos rfl]
theorem oDoV_50 : oDoV 5 0 p on n a g sz w = (a : Int) := by unfold oDoV; rw [if_neg (by decide), if_neg (by decide), if_neg (by decide), if_neg (by decide), if_pos rfl]
theorem oDoV_51 : oDoV 5 1 p on n a g sz w = (g : Int) := by unfold oDoV; rw [if_neg (by decide), if_neg (by decide), if_neg (by decide), if_neg (by decide), if_neg (by decide)]
end
def oAtt (k r p on : Int) (n a g : Nat) (sz w : Nat → Nat) : Int × Nat × Nat × Nat × (Nat → Nat) × (Nat → Nat) := if oRefA k n sz r p on = 0 then (1, oDoS k r p on n a g sz w) else (0, n, a, g, sz, w)
theorem oAtt_ok {k r p on : Int} {n a g : Nat} {sz w : Nat → Nat} (h : oRefA k n sz r p on = 0) : oAtt k r p on n a g sz w = (1, oDoS k r p on n a g sz w) := if_pos h
theorem oAtt_no {k r p on : Int} {n a g : Nat} {sz w : Nat → Nat} (h : ¬ oRefA k n sz r p on = 0) : oAtt k r p on n a g sz w = (0, n, a, g, sz, w) := if_neg h
def oAg (a g : Nat) : Prop := (1 ≤ a ∧ a ≤ 6) ∧ 10 ≤ g ∧ g ≤ 150
theorem c4_perG {l : Launch} {D : va_G} {cT : Nat → ClassId} {N b0 : Nat} {ad : Nat → Nat} (hA : oAd b0 N ad) {σ : Nat → va_E} (j n a g : Nat) (sz w : Nat → Nat) (k r p on : Int) (hj : j + 2 < N) (hwf : oWf n sz w) (hk : 1 ≤ k ∧ k ≤ 5) (hbr : -2147483648 ≤ r ∧ r < 2147483648) (hbp : -2147483648 ≤ p ∧ p < 2147483648) (hon : on = 0 ∨ on = 1) (hag : oAg a g) (hok : oRefA k n sz r p on = 0) (e0 : σ (j) = .inr (4, [.ref (ad (j + 1)), .ref (ad (j + 2)), .int (oI (((n : Nat) : Int))), .int (oI (((a : Nat) : Int))), .int (oI (((g : Nat) : Int)))])) (e1 : σ (j + 1) = oAN cT 4 sz) (e2 : σ (j + 2) = oAJ cT 4 w) :
    oCi l D cT N ad b0 yX4_perform cX4_perform 5 (some .int) 3 68 [.ref (ad (j)), .int (oI (k)), .int (oI (r)), .int (oI (p)), .int (oI (on))] σ (fun rr uu => ∃ n1 : Nat, ∃ a1 : Nat, ∃ g1 : Nat, ∃ sz1 : Nat → Nat, ∃ w1 : Nat → Nat, rr = oI ((oDoV k r p on n a g sz w)) ∧ (oDoS k r p on n a g sz w = (n1, a1, g1, sz1, w1)) ∧ (oWf n1 sz1 w1) ∧ (oAg a1 g1) ∧ uu (j) = .inr (4, [.ref (ad (j + 1)), .ref (ad (j + 2)), .int (oI (((n1 : Nat) : Int))), .int (oI (((a1 : Nat) : Int))), .int (oI (((g1 : Nat) : Int)))]) ∧ uu (j + 1) = oAN cT 4 sz1 ∧ uu (j + 2) = oAJ cT 4 w1 ∧ (∀ q : Nat, q ≠ j → q ≠ (j + 1) → q ≠ (j + 2) → uu q = σ q)) := by
  rcases (show k = 1 ∨ k = 2 ∨ k = 3 ∨ k = 4 ∨ k = 5 by omega) with rfl | rfl | rfl | rfl | rfl
  · have h := oRef1_0.mp ((oRefA_1 n sz r p on).symm.trans hok)
    obtain ⟨x, rfl⟩ := Int.eq_ofNat_of_zero_le (show 0 ≤ r by omega)
    refine oCi_mono ?_ (c4_perf1 hA j n a g sz w x p on hj hwf (by omega) (by omega) hbp (by omega) e0 e1 e2)
    rintro rr uu ⟨hr, h0, h1, h2, hf⟩
    exact ⟨n + 1, a, g, va_up sz n x, va_up w n (1 ||| 2 ^ x), (by rw [oDoV_1]; exact hr), (by rw [oDoS_1]; rfl), hwf.add (by omega) (by omega) (by omega), hag, h0, h1, h2, hf⟩
  · have h := oRef2_0.mp ((oRefA_2 n sz r p on).symm.trans hok)
    obtain ⟨x, rfl⟩ := Int.eq_ofNat_of_zero_le (show 0 ≤ r by omega)
    obtain ⟨y, rfl⟩ := Int.eq_ofNat_of_zero_le (show 0 ≤ p by omega)
    have eS : oSize n sz ((x : Nat) : Int) = sz x := oSize_in ⟨by omega, by omega⟩
    rw [eS] at h
    rcases hon with rfl | rfl
    · refine oCi_mono ?_ (c4_perf2b hA j n a g sz w x y hj hwf (by omega) (by omega) (by omega) (by omega) e0 e1 e2)
      rintro rr uu ⟨hr, h1, h2, hf⟩
      exact ⟨n, a, g, sz, va_up w x (oSet0 (w x) y), (by rw [oDoV_2]; exact hr), (by rw [oDoS_2]; rfl), hwf.mark0 (by omega) (by omega) (by omega), hag, ((hf j (by omega) (by omega)).trans e0), h1, h2, (fun q _ n1 n2 => hf q n1 n2)⟩
    · refine oCi_mono ?_ (c4_perf2a hA j n a g sz w x y hj hwf (by omega) (by omega) e0 e1 e2)
      rintro rr uu ⟨hr, h1, h2, hf⟩
      exact ⟨n, a, g, sz, va_up w x (oSet1 (w x) y), (by rw [oDoV_2]; exact hr), (by rw [oDoS_2]; rfl), hwf.mark1 (by omega) (by omega), hag, ((hf j (by omega) (by omega)).trans e0), h1, h2, (fun q _ n1 n2 => hf q n1 n2)⟩
  · have h := oRef3_0.mp ((oRefA_3 n sz r p on).symm.trans hok)
    obtain ⟨x, rfl⟩ := Int.eq_ofNat_of_zero_le (show 0 ≤ r by omega)
    obtain ⟨y, rfl⟩ := Int.eq_ofNat_of_zero_le (show 0 ≤ p by omega)
    have eS : oSize n sz ((x : Nat) : Int) = sz x := oSize_in ⟨by omega, by omega⟩
    rw [eS] at h
    refine oCi_mono ?_ (c4_perf3 hA j n a g sz w x y on hj hwf (by omega) (by omega) (by omega) e0 e1 e2)
    rintro rr uu ⟨hr, h1, h2, hf⟩
    exact ⟨n, a, g, va_up sz x y, va_up w x (oCutW (w x) y), (by rw [oDoV_3]; exact hr), (by rw [oDoS_3]; rfl), hwf.cut (by omega) (by omega) (by omega), hag, ((hf j (by omega) (by omega)).trans e0), h1, h2, (fun q _ n1 n2 => hf q n1 n2)⟩
  · have h : 0 ≤ r ∧ r < (n : Int) := by have := (oRefA_4 n sz r p on).symm.trans hok; unfold oRef4 at this; split at this <;> first | assumption | exact absurd this (by decide)
    obtain ⟨x, rfl⟩ := Int.eq_ofNat_of_zero_le (show 0 ≤ r by omega)
    refine oCi_mono ?_ (c4_perf4 hA j n a g sz w x p on hj hwf (by omega) hbp (by omega) e0 e1 e2)
    rintro rr uu ⟨hr, h1, h2, hf⟩
    exact ⟨n, a, g, sz, va_up w x (oRev (w x) (sz x)), (by rw [oDoV_4]; exact hr), (by rw [oDoS_4]; rfl), hwf.turn (by omega), hag, ((hf j (by omega) (by omega)).trans e0), h1, h2, (fun q _ n1 n2 => hf q n1 n2)⟩
  · have h := oRef5_0.mp ((oRefA_5 n sz r p on).symm.trans hok)
    obtain ⟨y, rfl⟩ := Int.eq_ofNat_of_zero_le (show 0 ≤ p by omega)
    rcases h with ⟨rfl, h⟩ | ⟨rfl, h⟩
    · refine oCi_mono ?_ (c4_perf5a hA j n a g sz w y on hj hwf (by omega) (by omega) e0 e1 e2)
      rintro rr uu ⟨hr, h0, hf⟩
      exact ⟨n, y, g, sz, w, (by rw [oDoV_50]; exact hr), (by rw [oDoS_50]; rfl), hwf, ⟨by omega, hag.2⟩, h0, ((hf (j + 1) (by omega)).trans e1), ((hf (j + 2) (by omega)).trans e2), (fun q n0 _ _ => hf q n0)⟩
    · refine oCi_mono ?_ (c4_perf5b hA j n a g sz w y on hj hwf (by omega) (by omega) e0 e1 e2)
      rintro rr uu ⟨hr, h0, hf⟩
      exact ⟨n, a, y, sz, w, (by rw [oDoV_51]; exact hr), (by rw [oDoS_51]; rfl), hwf, ⟨hag.1, by omega⟩, h0, ((hf (j + 1) (by omega)).trans e1), ((hf (j + 2) (by omega)).trans e2), (fun q n0 _ _ => hf q n0)⟩
theorem c4_attG {l : Launch} {D : va_G} {cT : Nat → ClassId} {N b0 : Nat} {ad : Nat → Nat} (hA : oAd b0 N ad) {σ : Nat → va_E} (j n a g : Nat) (sz w : Nat → Nat) (k r p on : Int) (hj : j + 2 < N) (hwf : oWf n sz w) (hk : 1 ≤ k ∧ k ≤ 5) (hbr : -2147483648 ≤ r ∧ r < 2147483648) (hbp : -2147483648 ≤ p ∧ p < 2147483648) (hon : on = 0 ∨ on = 1) (hag : oAg a g) (e0 : σ (j) = .inr (4, [.ref (ad (j + 1)), .ref (ad (j + 2)), .int (oI (((n : Nat) : Int))), .int (oI (((a : Nat) : Int))), .int (oI (((g : Nat) : Int)))])) (e1 : σ (j + 1) = oAN cT 4 sz) (e2 : σ (j + 2) = oAJ cT 4 w) :
    oCi l D cT N ad b0 yX4_attempt cX4_attempt 5 (some .boolean) 4 92 [.ref (ad (j)), .int (oI (k)), .int (oI (r)), .int (oI (p)), .int (oI (on))] σ (fun rr uu => ∃ rt : Int, ∃ n1 : Nat, ∃ a1 : Nat, ∃ g1 : Nat, ∃ sz1 : Nat → Nat, ∃ w1 : Nat → Nat, rr = oI (rt) ∧ (oAtt k r p on n a g sz w = (rt, n1, a1, g1, sz1, w1)) ∧ (rt = 0 ∨ rt = 1) ∧ (oWf n1 sz1 w1) ∧ (oAg a1 g1) ∧ uu (j) = .inr (4, [.ref (ad (j + 1)), .ref (ad (j + 2)), .int (oI (((n1 : Nat) : Int))), .int (oI (((a1 : Nat) : Int))), .int (oI (((g1 : Nat) : Int)))]) ∧ uu (j + 1) = oAN cT 4 sz1 ∧ uu (j + 2) = oAJ cT 4 w1 ∧ (∀ q : Nat, q ≠ j → q ≠ (j + 1) → q ≠ (j + 2) → uu q = σ q)) := by
  by_cases hok : oRefA k n sz r p on = 0
  · rcases (show k = 1 ∨ k = 2 ∨ k = 3 ∨ k = 4 ∨ k = 5 by omega) with rfl | rfl | rfl | rfl | rfl
    · have h := oRef1_0.mp ((oRefA_1 n sz r p on).symm.trans hok)
      obtain ⟨x, rfl⟩ := Int.eq_ofNat_of_zero_le (show 0 ≤ r by omega)
      refine oCi_mono ?_ (c4_att1 hA j n a g sz w x p on hj hwf (by omega) (by omega) hbp (by omega) e0 e1 e2)
      rintro rr uu ⟨hr, h0, h1, h2, hf⟩
      exact ⟨1, n + 1, a, g, va_up sz n x, va_up w n (1 ||| 2 ^ x), hr, (by rw [oAtt_ok hok, oDoS_1]; rfl), Or.inr rfl, hwf.add (by omega) (by omega) (by omega), hag, h0, h1, h2, hf⟩
    · have h := oRef2_0.mp ((oRefA_2 n sz r p on).symm.trans hok)
      obtain ⟨x, rfl⟩ := Int.eq_ofNat_of_zero_le (show 0 ≤ r by omega)
      obtain ⟨y, rfl⟩ := Int.eq_ofNat_of_zero_le (show 0 ≤ p by omega)
      have eS : oSize n sz ((x : Nat) : Int) = sz x := oSize_in ⟨by omega, by omega⟩
      rw [eS] at h
      rcases hon with rfl | rfl
      · refine oCi_mono ?_ (c4_att2b hA j n a g sz w x y hj hwf (by omega) (by omega) (by omega) (by omega) e0 e1 e2)
        rintro rr uu ⟨hr, h1, h2, hf⟩
        exact ⟨1, n, a, g, sz, va_up w x (oSet0 (w x) y), hr, (by rw [oAtt_ok hok, oDoS_2]; rfl), Or.inr rfl, hwf.mark0 (by omega) (by omega) (by omega), hag, ((hf j (by omega) (by omega)).trans e0), h1, h2, (fun q _ n1 n2 => hf q n1 n2)⟩
      · refine oCi_mono ?_ (c4_att2a hA j n a g sz w x y hj hwf (by omega) (by omega) e0 e1 e2)
        rintro rr uu ⟨hr, h1, h2, hf⟩
        exact ⟨1, n, a, g, sz, va_up w x (oSet1 (w x) y), hr, (by rw [oAtt_ok hok, oDoS_2]; rfl), Or.inr rfl, hwf.mark1 (by omega) (by omega), hag, ((hf j (by omega) (by omega)).trans e0), h1, h2, (fun q _ n1 n2 => hf q n1 n2)⟩
    · have h := oRef3_0.mp ((oRefA_3 n sz r p on).symm.trans hok)
      obtain ⟨x, rfl⟩ := Int.eq_ofNat_of_zero_le (show 0 ≤ r by omega)
      obtain ⟨y, rfl⟩ := Int.eq_ofNat_of_zero_le (show 0 ≤ p by omega)
      have eS : oSize n sz ((x : Nat) : Int) = sz x := oSize_in ⟨by omega, by omega⟩
      rw [eS] at h
      refine oCi_mono ?_ (c4_att3 hA j n a g sz w x y on hj hwf (by omega) (by omega) (by omega) e0 e1 e2)
      rintro rr uu ⟨hr, h1, h2, hf⟩
      exact ⟨1, n, a, g, va_up sz x y, va_up w x (oCutW (w x) y), hr, (by rw [oAtt_ok hok, oDoS_3]; rfl), Or.inr rfl, hwf.cut (by omega) (by omega) (by omega), hag, ((hf j (by omega) (by omega)).trans e0), h1, h2, (fun q _ n1 n2 => hf q n1 n2)⟩
    · have h : 0 ≤ r ∧ r < (n : Int) := by have := (oRefA_4 n sz r p on).symm.trans hok; unfold oRef4 at this; split at this <;> first | assumption | exact absurd this (by decide)
      obtain ⟨x, rfl⟩ := Int.eq_ofNat_of_zero_le (show 0 ≤ r by omega)
      refine oCi_mono ?_ (c4_att4 hA j n a g sz w x p on hj hwf (by omega) hbp (by omega) e0 e1 e2)
      rintro rr uu ⟨hr, h1, h2, hf⟩
      exact ⟨1, n, a, g, sz, va_up w x (oRev (w x) (sz x)), hr, (by rw [oAtt_ok hok, oDoS_4]; rfl), Or.inr rfl, hwf.turn (by omega), hag, ((hf j (by omega) (by omega)).trans e0), h1, h2, (fun q _ n1 n2 => hf q n1 n2)⟩
    · have h := oRef5_0.mp ((oRefA_5 n sz r p on).symm.trans hok)
      obtain ⟨y, rfl⟩ := Int.eq_ofNat_of_zero_le (show 0 ≤ p by omega)
      rcases h with ⟨rfl, h⟩ | ⟨rfl, h⟩
      · refine oCi_mono ?_ (c4_att5a hA j n a g sz w y on hj hwf (by omega) (by omega) e0 e1 e2)
        rintro rr uu ⟨hr, h0, hf⟩
        exact ⟨1, n, y, g, sz, w, hr, (by rw [oAtt_ok hok, oDoS_50]; rfl), Or.inr rfl, hwf, ⟨by omega, hag.2⟩, h0, ((hf (j + 1) (by omega)).trans e1), ((hf (j + 2) (by omega)).trans e2), (fun q n0 _ _ => hf q n0)⟩
      · refine oCi_mono ?_ (c4_att5b hA j n a g sz w y on hj hwf (by omega) (by omega) e0 e1 e2)
        rintro rr uu ⟨hr, h0, hf⟩
        exact ⟨1, n, a, y, sz, w, hr, (by rw [oAtt_ok hok, oDoS_51]; rfl), Or.inr rfl, hwf, ⟨hag.1, by omega⟩, h0, ((hf (j + 1) (by omega)).trans e1), ((hf (j + 2) (by omega)).trans e2), (fun q n0 _ _ => hf q n0)⟩
  · rcases (show k = 1 ∨ k = 2 ∨ k = 3 ∨ k = 4 ∨ k = 5 by omega) with rfl | rfl | rfl | rfl | rfl
    · refine oCi_mono ?_ (c4_att1n hA j n a g sz w r p on hj hwf hbr hbp (by omega) (fun z => hok ((oRefA_1 n sz r p on).trans z)) e0 e1 e2)
      rintro rr uu ⟨hr, rfl⟩
      exact ⟨0, n, a, g, sz, w, hr, oAtt_no hok, Or.inl rfl, hwf, hag, e0, e1, e2, fun q _ _ _ => rfl⟩
    · refine oCi_mono ?_ (c4_att2n hA j n a g sz w r p on hj hwf hbr hbp (by omega) (fun z => hok ((oRefA_2 n sz r p on).trans z)) e0 e1 e2)
      rintro rr uu ⟨hr, rfl⟩
      exact ⟨0, n, a, g, sz, w, hr, oAtt_no hok, Or.inl rfl, hwf, hag, e0, e1, e2, fun q _ _ _ => rfl⟩
    · refine oCi_mono ?_ (c4_att3n hA j n a g sz w r p on hj hwf hbr hbp (by omega) (fun z => hok ((oRefA_3 n sz r p on).trans z)) e0 e1 e2)
      rintro rr uu ⟨hr, rfl⟩
      exact ⟨0, n, a, g, sz, w, hr, oAtt_no hok, Or.inl rfl, hwf, hag, e0, e1, e2, fun q _ _ _ => rfl⟩
    · refine oCi_mono ?_ (c4_att4n hA j n a g sz w r p on hj hwf hbr hbp (by omega) (fun z => hok ((oRefA_4 n sz r p on).trans z)) e0 e1 e2)
      rintro rr uu ⟨hr, rfl⟩
      exact ⟨0, n, a, g, sz, w, hr, oAtt_no hok, Or.inl rfl, hwf, hag, e0, e1, e2, fun q _ _ _ => rfl⟩
    · refine oCi_mono ?_ (c4_att5n hA j n a g sz w r p on hj hwf hbr hbp (by omega) (fun z => hok ((oRefA_5 n sz r p on).trans z)) e0 e1 e2)
      rintro rr uu ⟨hr, rfl⟩
      exact ⟨0, n, a, g, sz, w, hr, oAtt_no hok, Or.inl rfl, hwf, hag, e0, e1, e2, fun q _ _ _ => rfl⟩
theorem c4_refG {l : Launch} {D : va_G} {cT : Nat → ClassId} {N b0 : Nat} {ad : Nat → Nat} (hA : oAd b0 N ad) {σ : Nat → va_E} (j n a g : Nat) (sz w : Nat → Nat) (k r p on : Int) (hj : j + 2 < N) (hwf : oWf n sz w) (hk : 1 ≤ k ∧ k ≤ 5) (hbr : -2147483648 ≤ r ∧ r < 2147483648) (hbp : -2147483648 ≤ p ∧ p < 2147483648) (hon : on = 0 ∨ on = 1) (e0 : σ (j) = .inr (4, [.ref (ad (j + 1)), .ref (ad (j + 2)), .int (oI (((n : Nat) : Int))), .int (oI (((a : Nat) : Int))), .int (oI (((g : Nat) : Int)))])) (e1 : σ (j + 1) = oAN cT 4 sz) (e2 : σ (j + 2) = oAJ cT 4 w) :
    oCi l D cT N ad b0 yX4_refusal cX4_refusal 5 (some .int) 2 43 [.ref (ad (j)), .int (oI (k)), .int (oI (r)), .int (oI (p)), .int (oI (on))] σ (fun rr uu => rr = oI ((oRefA k n sz r p on)) ∧ uu = σ) := by
  rcases (show k = 1 ∨ k = 2 ∨ k = 3 ∨ k = 4 ∨ k = 5 by omega) with rfl | rfl | rfl | rfl | rfl
  · rw [oRefA_1]
    exact c4_ref1 hA j n a g sz w r p on hj hwf hbr hbp (by omega) e0 e1 e2
  · rw [oRefA_2]
    exact c4_ref2 hA j n a g sz w r p on hj hwf hbr hbp (by omega) e0 e1 e2
  · rw [oRefA_3]
    exact c4_ref3 hA j n a g sz w r p on hj hwf hbr hbp (by omega) e0 e1 e2
  · rw [oRefA_4]
    exact c4_ref4 hA j n a g sz w r p on hj hwf hbr hbp (by omega) e0 e1 e2
  · rw [oRefA_5]
    exact c4_ref5 hA j n a g sz w r p on hj hwf hbr hbp (by omega) e0 e1 e2
