/-! ===== layings, one by one ===== -/
theorem oSpr_tb {w d : Nat} : ∀ K : Nat, (oSpr w K).testBit d = true → d < K ∧ w &&& w / 2 ^ d ≠ 0
  | 0, h => by rw [show oSpr w 0 = 0 from rfl, Nat.zero_testBit] at h; cases h
  | K + 1, h => by
    by_cases hk : K = 0 ∨ w &&& w / 2 ^ K = 0
    · have e : oSpr w (K + 1) = oSpr w K := if_pos hk
      rw [e] at h
      have := oSpr_tb K h
      exact ⟨by omega, this.2⟩
    · have e : oSpr w (K + 1) = oSpr w K ||| 2 ^ K := if_neg hk
      by_cases hd : d = K
      · rw [hd]
        exact ⟨Nat.lt_succ_self _, fun q => hk (Or.inr q)⟩
      · rw [e, Nat.testBit_or, Nat.testBit_two_pow_of_ne (by omega), Bool.or_false] at h
        have := oSpr_tb K h
        exact ⟨by omega, this.2⟩
theorem oOrW_tb {n : Nat} {w : Nat → Nat} {left : Int} {d : Nat} : ∀ K : Nat, (oOrW n w left K).testBit d = true → ∃ r : Nat, r < K ∧ ((r : Nat) : Int) ≠ left ∧ (oSpr (oRow n w ((r : Nat) : Int)) 41).testBit d = true
  | 0, h => by rw [show oOrW n w left 0 = 0 from rfl, Nat.zero_testBit] at h; cases h
  | K + 1, h => by
    by_cases hk : ((K : Nat) : Int) = left
    · rw [oOrW_n hk] at h
      obtain ⟨r, h1, h2, h3⟩ := oOrW_tb K h
      exact ⟨r, by omega, h2, h3⟩
    · rw [oOrW_y hk, Nat.testBit_or] at h
      rcases Bool.or_eq_true_iff.mp h with q | q
      · obtain ⟨r, h1, h2, h3⟩ := oOrW_tb K q
        exact ⟨r, by omega, h2, h3⟩
      · exact ⟨K, Nat.lt_succ_self _, hk, q⟩
theorem oAnd_bits {w d : Nat} (h : w &&& w / 2 ^ d ≠ 0) : ∃ p, w.testBit p = true ∧ w.testBit (p + d) = true := by
  refine Classical.byContradiction (fun hn => h (Nat.eq_of_testBit_eq (fun i => ?_)))
  rw [Nat.zero_testBit, Nat.testBit_and, Nat.testBit_div_two_pow]
  by_cases a : w.testBit i = true
  · by_cases b : w.testBit (i + d) = true
    · exact absurd ⟨i, a, b⟩ hn
    · first
        | rw [Bool.eq_false_iff.mpr b, Bool.and_false]
        | rw [Nat.add_comm d i, Bool.eq_false_iff.mpr b, Bool.and_false]
  · rw [Bool.eq_false_iff.mpr a, Bool.false_and]
theorem fb_ct_past {f : Nat → Bool} {a : Nat} (h : ∀ k, a ≤ k → f k = false) : ∀ m : Nat, fb_ct f (a + m) = fb_ct f a
  | 0 => rfl
  | m + 1 => by
    have ih := fb_ct_past h m
    rw [show a + (m + 1) = a + m + 1 by omega, fb_ct_succ, if_neg (by rw [h (a + m) (by omega)]; decide), ih]
    rfl
theorem oBt_41 {w p : Nat} (hw : w < 2 ^ 41) : oBt w p 41 = oUp w p := (fb_ct_past (f := fun i => decide (p < i) && w.testBit i) (a := 41) (fun k hk => by
  rw [Nat.testBit_lt_two_pow (Nat.lt_of_lt_of_le hw (Nat.pow_le_pow_right (by decide) hk))]; exact Bool.and_false _) 23).symm
/-- the length of a span by its ruler and rank -/
def oBy (n : Nat) (w : Nat → Nat) (r k : Nat) : Int := (oHigh (oRow n w ((r : Nat) : Int)) k : Int) - (oLow (oRow n w ((r : Nat) : Int)) k : Int)
def oCk (n : Nat) (w : Nat → Nat) (r : Nat) : Nat := oSp (pcnt (oRow n w ((r : Nat) : Int)))
noncomputable def oD (sp a : Nat) (x : Int) : Int := if 0 ≤ x ∧ x ≤ 200 then oDist sp a x.toNat else -1
def oNo (n : Nat) (w : Nat → Nat) (D : Int → Int) (fr lt : Int) (r k : Nat) : Prop := ∀ r' k' : Nat, ((r' < r ∧ k' < oCk n w r') ∨ (r' = r ∧ k' < k)) → ¬ D (fr + oBy n w r' k') = lt ∧ ¬ D (fr - oBy n w r' k') = lt
def oNx (n : Nat) (w : Nat → Nat) (D : Int → Int) (fr lt : Int) (r k : Nat) (fw to : Int) : Prop :=
  r < n ∧ k < oCk n w r ∧ oNo n w D fr lt r k ∧ ((fw = 1 ∧ to = fr + oBy n w r k ∧ D to = lt) ∨ (fw = 0 ∧ to = fr - oBy n w r k ∧ D to = lt ∧ ¬ D (fr + oBy n w r k) = lt))
theorem oNx_one {n : Nat} {w : Nat → Nat} {D : Int → Int} {fr lt : Int} {r k r' k' : Nat} {fw to fw' to' : Int} (h : oNx n w D fr lt r k fw to) (h' : oNx n w D fr lt r' k' fw' to') : r = r' ∧ k = k' ∧ fw = fw' ∧ to = to' := by
  have aux : ∀ {r k r' k' : Nat} {fw to fw' to' : Int}, oNx n w D fr lt r k fw to → oNx n w D fr lt r' k' fw' to' → ¬ (r < r' ∨ (r = r' ∧ k < k')) := by
    intro r k r' k' fw to fw' to' h h' q
    have h3 := h'.2.2.1 r k (q.elim (fun z => Or.inl ⟨z, h.2.1⟩) Or.inr)
    rcases h.2.2.2 with ⟨_, e2, e3⟩ | ⟨_, e2, e3, _⟩
    · rw [e2] at e3; exact h3.1 e3
    · rw [e2] at e3; exact h3.2 e3
  have a1 := aux h h'
  have a2 := aux h' h
  have er : r = r' := by omega
  have ek : k = k' := by omega
  subst er
  subst ek
  refine ⟨rfl, rfl, ?_⟩
  rcases h.2.2.2 with ⟨b1, b2, b3⟩ | ⟨b1, b2, b3, b4⟩ <;> rcases h'.2.2.2 with ⟨c1, c2, c3⟩ | ⟨c1, c2, c3, c4⟩
  · exact ⟨by omega, by omega⟩
  · rw [b2] at b3; exact absurd b3 c4
  · rw [c2] at c3; exact absurd c3 b4
  · exact ⟨by omega, by omega⟩
theorem oDist_b0 {sp a : Nat} (ha : a ≤ 200) (x : Int) : -1 ≤ oD sp a x ∧ oD sp a x ≤ 200 := by
  unfold oD
  split
  · exact oDist_b ha _
  · omega
/-- from a length with v + 1 layings left, one leads to v -/
theorem oNx_ex {n sp a v : Nat} {w : Nat → Nat} {fr : Int} (hw : ∀ r : Int, oRow n w r < 2 ^ 41) (hsp : sp = oOrW n w (-1) 4) (ha : a ≤ 200) (h : oD sp a fr = ((v + 1 : Nat) : Int)) : ∃ r k : Nat, r < n ∧ k < oCk n w r ∧ (oD sp a (fr + oBy n w r k) = (v : Int) ∨ oD sp a (fr - oBy n w r k) = (v : Int)) := by
  have hf : 0 ≤ fr ∧ fr ≤ 200 := Classical.byContradiction (fun q => by unfold oD at h; rw [if_neg q] at h; omega)
  have h0 : oDist sp a fr.toNat = ((v + 1 : Nat) : Int) := by unfold oD at h; rw [if_pos hf] at h; exact h
  rcases oDist_or sp a fr.toNat with ⟨q, _⟩ | ⟨v2, e, hl⟩
  · omega
  · have ev : v2 = v + 1 := by omega
    subst ev
    obtain ⟨u, d, hu, hd1, hd40, hb, hud⟩ := oLs_down hl
    have hu200 : u ≤ 200 := oR_le ha hu.1
    have hDu : oD sp a ((u : Nat) : Int) = (v : Int) := by unfold oD; rw [if_pos (by omega)]; exact oDist_at hu
    rw [hsp] at hb
    obtain ⟨r, hr4, _, hr⟩ := oOrW_tb 4 hb
    obtain ⟨_, hne⟩ := oSpr_tb 41 hr
    obtain ⟨p, hp1, hp2⟩ := oAnd_bits hne
    have hrn : r < n := Classical.byContradiction (fun q => by rw [oRow_out (by omega), Nat.zero_testBit] at hp1; cases hp1)
    have hp40 : p + d ≤ 40 := Classical.byContradiction (fun q => by rw [Nat.testBit_lt_two_pow (Nat.lt_of_lt_of_le (hw _) (Nat.pow_le_pow_right (by decide) (by omega)))] at hp2; cases hp2)
    obtain ⟨e1, e2⟩ := oPair (w := oRow n w ((r : Nat) : Int)) (q := p + d) hp40 (by omega) hp1 hp2 rfl
    have hk : oRk (oRow n w ((r : Nat) : Int)) p + oBt (oRow n w ((r : Nat) : Int)) p (p + d) < oCk n w r := by
      show _ < oSp _
      rw [← oRk_41 (hw _)]
      have h1 := oBt_lt (w := oRow n w ((r : Nat) : Int)) (p := p) (q := p + d) (by omega) (by omega) hp2
      have h2 := oRk_mono (oRow n w ((r : Nat) : Int)) (a := p + 1) (b := 41) (by omega)
      rw [oRk_y hp1] at h2
      omega
    have hby : oBy n w r (oRk (oRow n w ((r : Nat) : Int)) p + oBt (oRow n w ((r : Nat) : Int)) p (p + d)) = (d : Int) := by
      unfold oBy
      rw [e1, e2]
      omega
    refine ⟨r, _, hrn, hk, ?_⟩
    rw [hby]
    rcases hud with q | q
    · exact Or.inr (by rw [show fr - (d : Int) = ((u : Nat) : Int) by omega]; exact hDu)
    · exact Or.inl (by rw [show fr + (d : Int) = ((u : Nat) : Int) by omega]; exact hDu)
