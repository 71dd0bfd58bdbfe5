/-! ===== spans of one row of marks ===== -/
def oPa (w d : Nat) : Nat := pcnt (w &&& w / 2 ^ d)
def oSp (m : Nat) : Nat := m * (m - 1) / 2
def oAllM (n : Nat) (w : Nat → Nat) (k : Nat) : Nat := fb_sm (fun r => pcnt (oRow n w ((r : Nat) : Int))) k
def oAllS (n : Nat) (w : Nat → Nat) (k : Nat) : Nat := fb_sm (fun r => oSp (pcnt (oRow n w ((r : Nat) : Int)))) k
def oAllP (n : Nat) (w : Nat → Nat) (d k : Nat) : Nat := fb_sm (fun r => oPa (oRow n w ((r : Nat) : Int)) d) k
theorem oSp_le {m : Nat} (h : m ≤ 64) : oSp m ≤ 2016 := by
  unfold oSp
  have h1 : m * (m - 1) ≤ 64 * 63 := Nat.mul_le_mul h (by omega)
  omega
theorem oAllM_le (n : Nat) (w : Nat → Nat) : ∀ k : Nat, oAllM n w k ≤ 64 * k
  | 0 => Nat.zero_le _
  | k + 1 => by
    have h1 := oAllM_le n w k
    have h2 := pcnt_le (oRow n w ((k : Nat) : Int))
    show oAllM n w k + pcnt (oRow n w ((k : Nat) : Int)) ≤ _
    omega
theorem oAllS_le (n : Nat) (w : Nat → Nat) : ∀ k : Nat, oAllS n w k ≤ 2016 * k
  | 0 => Nat.zero_le _
  | k + 1 => by
    have h1 := oAllS_le n w k
    have h2 := oSp_le (pcnt_le (oRow n w ((k : Nat) : Int)))
    show oAllS n w k + oSp (pcnt (oRow n w ((k : Nat) : Int))) ≤ _
    omega
theorem oAllP_le (n : Nat) (w : Nat → Nat) (d : Nat) : ∀ k : Nat, oAllP n w d k ≤ 64 * k
  | 0 => Nat.zero_le _
  | k + 1 => by
    have h1 := oAllP_le n w d k
    have h2 := pcnt_le (oRow n w ((k : Nat) : Int) &&& oRow n w ((k : Nat) : Int) / 2 ^ d)
    show oAllP n w d k + pcnt (oRow n w ((k : Nat) : Int) &&& oRow n w ((k : Nat) : Int) / 2 ^ d) ≤ _
    omega
theorem oAllM_s (n : Nat) (w : Nat → Nat) (k : Nat) : oAllM n w (k + 1) = oAllM n w k + pcnt (oRow n w ((k : Nat) : Int)) := rfl
theorem oAllS_s (n : Nat) (w : Nat → Nat) (k : Nat) : oAllS n w (k + 1) = oAllS n w k + oSp (pcnt (oRow n w ((k : Nat) : Int))) := rfl
theorem oAllP_s (n : Nat) (w : Nat → Nat) (d k : Nat) : oAllP n w d (k + 1) = oAllP n w d k + oPa (oRow n w ((k : Nat) : Int)) d := rfl
def oSpr (w : Nat) : Nat → Nat
  | 0 => 0
  | k + 1 => if k = 0 ∨ w &&& w / 2 ^ k = 0 then oSpr w k else oSpr w k ||| 2 ^ k
theorem oSpr_n {w k : Nat} (h : w &&& w / 2 ^ k = 0) : oSpr w (k + 1) = oSpr w k := if_pos (Or.inr h)
theorem oSpr_y {w k : Nat} (h0 : 1 ≤ k) (h : w &&& w / 2 ^ k ≠ 0) : oSpr w (k + 1) = oSpr w k ||| 2 ^ k := if_neg (by rintro (q | q); omega; exact h q)
theorem oSpr_lt (w : Nat) : ∀ k : Nat, oSpr w k < 2 ^ k
  | 0 => by show 0 < 1; decide
  | k + 1 => by
    have ih := oSpr_lt w k
    have h2 : 2 ^ k < 2 ^ (k + 1) := Nat.pow_lt_pow_right (by decide) (Nat.lt_succ_self k)
    unfold oSpr
    split
    · omega
    · exact Nat.or_lt_two_pow (by omega) h2
theorem oSpr_41 (w : Nat) : oSpr w 41 < 2 ^ 64 := Nat.lt_of_lt_of_le (oSpr_lt w 41) (by decide)
def oOrW (n : Nat) (w : Nat → Nat) (left : Int) : Nat → Nat
  | 0 => 0
  | r + 1 => if ((r : Nat) : Int) = left then oOrW n w left r else oOrW n w left r ||| oSpr (oRow n w ((r : Nat) : Int)) 41
theorem oOrW_n {n : Nat} {w : Nat → Nat} {left : Int} {r : Nat} (h : ((r : Nat) : Int) = left) : oOrW n w left (r + 1) = oOrW n w left r := if_pos h
theorem oOrW_y {n : Nat} {w : Nat → Nat} {left : Int} {r : Nat} (h : ((r : Nat) : Int) ≠ left) : oOrW n w left (r + 1) = oOrW n w left r ||| oSpr (oRow n w ((r : Nat) : Int)) 41 := if_neg h
theorem oOrW_lt (n : Nat) (w : Nat → Nat) (left : Int) : ∀ r : Nat, oOrW n w left r < 2 ^ 41
  | 0 => by show 0 < _; decide
  | r + 1 => by
    have ih := oOrW_lt n w left r
    unfold oOrW
    split
    · exact ih
    · exact Nat.or_lt_two_pow ih (oSpr_lt _ 41)
theorem oOrW_64 (n : Nat) (w : Nat → Nat) (left : Int) (r : Nat) : oOrW n w left r < 2 ^ 64 := Nat.lt_of_lt_of_le (oOrW_lt n w left r) (by decide)
def oInner (w s : Nat) : Nat := w &&& 18446744073709551614 &&& ((1 * 2 ^ s) ^^^ 18446744073709551615)
def oLowest (w : Nat) : Int := if fa_first (fun k => w.testBit k) 64 < 64 then ((fa_first (fun k => w.testBit k) 64 : Nat) : Int) else -1
theorem fa_at {p : Nat → Bool} {n k : Nat} (hk : k < n) (h : p k = true) (h2 : ∀ j, j < k → p j = false) : fa_first p n = k := by
  rcases Nat.lt_trichotomy (fa_first p n) k with a | a | a
  · have := fa_first_yes p n (by omega)
    rw [h2 _ a] at this
    cases this
  · exact a
  · have := fa_first_no p n k a
    rw [h] at this
    cases this
theorem fa_none {p : Nat → Bool} {n : Nat} (h2 : ∀ j, j < n → p j = false) : fa_first p n = n := by
  have h := fa_first_le p n
  rcases Nat.lt_or_ge (fa_first p n) n with a | a
  · have := fa_first_yes p n a
    rw [h2 _ a] at this
    cases this
  · omega
theorem oLowest_at {w p : Nat} (hp : p < 64) (h : w.testBit p = true) (h2 : ∀ q, q < p → w.testBit q = false) : oLowest w = ((p : Nat) : Int) := by
  unfold oLowest
  rw [fa_at hp h h2, if_pos hp]
theorem oLowest_no {w : Nat} (h2 : ∀ q, q < 64 → w.testBit q = false) : oLowest w = -1 := by
  unfold oLowest
  rw [fa_none h2, if_neg (by decide)]
def oRevA (w s : Nat) : Nat → Nat
  | 0 => 0
  | p + 1 => if w.testBit p = true then oRevA w s p ||| 2 ^ (s - p) else oRevA w s p
theorem oRevA_y {w s p : Nat} (h : w.testBit p = true) : oRevA w s (p + 1) = oRevA w s p ||| 2 ^ (s - p) := if_pos h
theorem oRevA_n {w s p : Nat} (h : ¬ w.testBit p = true) : oRevA w s (p + 1) = oRevA w s p := if_neg h
def oRev (w s : Nat) : Nat := oRevA w s (s + 1)
def oCom (w : Nat) : Nat → Nat × Nat
  | 0 => (0, 0)
  | k + 1 => if (oCom w k).2 < oPa w (k + 1) then (k + 1, oPa w (k + 1)) else oCom w k
theorem oCom_y {w k : Nat} (h : (oCom w k).2 < oPa w (k + 1)) : oCom w (k + 1) = (k + 1, oPa w (k + 1)) := if_pos h
theorem oCom_n {w k : Nat} (h : ¬ (oCom w k).2 < oPa w (k + 1)) : oCom w (k + 1) = oCom w k := if_neg h
def oMiss (w : Nat) : Nat := 1 + fa_first (fun k => !w.testBit (k + 1)) 40
theorem oMiss_at {w d : Nat} (h0 : 1 ≤ d) (hd : d ≤ 40) (h : ¬ w.testBit d = true) (h2 : ∀ q, 1 ≤ q → q < d → w.testBit q = true) : oMiss w = d := by
  unfold oMiss
  rw [fa_at (k := d - 1) (by omega) (by rw [show d - 1 + 1 = d by omega]; simpa using h) (fun j hj => by rw [h2 (j + 1) (by omega) (by omega)]; rfl)]
  omega
theorem oMiss_no {w : Nat} (h2 : ∀ q, 1 ≤ q → q < 41 → w.testBit q = true) : oMiss w = 41 := by
  unfold oMiss
  rw [fa_none (fun j hj => by rw [h2 (j + 1) (by omega) (by omega)]; rfl)]
def oDivAll (d w : Nat) : Prop := ∀ k : Nat, 1 ≤ k → k ≤ 40 → w.testBit k = true → k % d = 0
def oGc (w : Nat) : Nat → Nat
  | 0 => 0
  | k + 1 => if w.testBit (k + 1) = true then Nat.gcd (oGc w k) (k + 1) else oGc w k
theorem oGc_dvd (w : Nat) : ∀ k j : Nat, 1 ≤ j → j ≤ k → w.testBit j = true → oGc w k ∣ j
  | 0, j, h1, h2, _ => by omega
  | k + 1, j, h1, h2, hj => by
    unfold oGc
    rcases Nat.lt_or_ge k j with a | a
    · have e : j = k + 1 := by omega
      subst e
      rw [if_pos hj]
      exact Nat.gcd_dvd_right _ _
    · split
      · exact Nat.dvd_trans (Nat.gcd_dvd_left _ _) (oGc_dvd w k j h1 a hj)
      · exact oGc_dvd w k j h1 a hj
theorem oGc_big (w d : Nat) : ∀ k : Nat, (∀ j : Nat, 1 ≤ j → j ≤ k → w.testBit j = true → d ∣ j) → d ∣ oGc w k
  | 0, _ => Nat.dvd_zero d
  | k + 1, h => by
    have ih := oGc_big w d k (fun j h1 h2 => h j h1 (by omega))
    unfold oGc
    split
    · exact Nat.dvd_gcd ih (h (k + 1) (by omega) (by omega) (by assumption))
    · exact ih
theorem oGc_eq {w d : Nat} (hd : 1 ≤ d) (h : oDivAll d w) (h2 : ∀ e : Nat, d < e → e ≤ 40 → ¬ oDivAll e w) (hw : ∃ k, 1 ≤ k ∧ k ≤ 40 ∧ w.testBit k = true) : oGc w 40 = d := by
  have a := oGc_big w d 40 (fun j h1 h2 h3 => Nat.dvd_of_mod_eq_zero (h j h1 h2 h3))
  obtain ⟨k, k1, k2, k3⟩ := hw
  have b := oGc_dvd w 40 k k1 k2 k3
  have c := Nat.le_of_dvd (by omega) b
  have g0 : 1 ≤ oGc w 40 := by
    rcases Nat.eq_zero_or_pos (oGc w 40) with q | q
    · rw [q] at b
      have := Nat.eq_zero_of_zero_dvd b
      omega
    · exact q
  have e := Nat.le_of_dvd g0 a
  rcases Nat.lt_or_ge d (oGc w 40) with q | q
  · exact absurd (fun j h1 h2 h3 => Nat.mod_eq_zero_of_dvd (oGc_dvd w 40 j h1 h2 h3)) (h2 _ q (by omega))
  · omega
/-! marks above a place, spans before a place, the k-th span -/
def oUp (w p : Nat) : Nat := fb_ct (fun q => decide (p < q) && w.testBit q) 64
def oUe (w p : Nat) : Nat := fb_ct (fun q => decide (p ≤ q) && w.testBit q) 64
def oRk (w : Nat) : Nat → Nat
  | 0 => 0
  | p + 1 => oRk w p + (if w.testBit p = true then oUp w p else 0)
theorem oUe_0 (w : Nat) : oUe w 0 = pcnt w := fb_ct_cong (fun k _ => by simp)
theorem oUe_s (w p : Nat) : oUe w (p + 1) = oUp w p := fb_ct_cong (fun k _ => by rw [show decide (p + 1 ≤ k) = decide (p < k) from rfl])
theorem oUe_at {w p : Nat} (hp : p < 64) (h : w.testBit p = true) : oUe w p = oUp w p + 1 := by
  have e := fb_ct_upd (fun q => decide (p < q) && w.testBit q) true hp
  have e2 : (fun k => if k = p then true else decide (p < k) && w.testBit k) = fun q => decide (p ≤ q) && w.testBit q := by
    funext k
    by_cases hk : k = p
    · subst hk
      simp [h]
    · rw [if_neg hk]
      congr 1
      exact decide_eq_decide.mpr (by omega)
  rw [e2] at e
  have e3 : (decide (p < p) && w.testBit p) = false := by simp
  simp only [e3] at e
  show fb_ct (fun q => decide (p ≤ q) && w.testBit q) 64 = fb_ct (fun q => decide (p < q) && w.testBit q) 64 + 1
  simpa using e
theorem oUe_not {w p : Nat} (h : ¬ w.testBit p = true) : oUe w p = oUp w p := fb_ct_cong (fun k _ => by
  by_cases hk : k = p
  · subst hk
    simp [h]
  · congr 1
    exact decide_eq_decide.mpr (by omega))
theorem oRk_y {w p : Nat} (h : w.testBit p = true) : oRk w (p + 1) = oRk w p + oUp w p := by show oRk w p + _ = _; rw [if_pos h]
theorem oRk_n {w p : Nat} (h : ¬ w.testBit p = true) : oRk w (p + 1) = oRk w p := by show oRk w p + _ = _; rw [if_neg h]; rfl
theorem oRk_mono (w : Nat) {a : Nat} : ∀ {b : Nat}, a ≤ b → oRk w a ≤ oRk w b := by
  intro b h
  induction h with
  | refl => exact Nat.le_refl _
  | step _ ih => exact Nat.le_trans ih (Nat.le_add_right _ _)
theorem oUp_le (w p : Nat) : oUp w p ≤ 64 := fb_ct_le _ _
theorem oRk_le (w : Nat) : ∀ p : Nat, oRk w p ≤ 64 * p
  | 0 => Nat.le_refl _
  | p + 1 => by
    have ih := oRk_le w p
    have h := oUp_le w p
    show oRk w p + (if w.testBit p = true then oUp w p else 0) ≤ _
    split <;> omega
def oLow (w k : Nat) : Nat := fa_first (fun p => decide (k < oRk w (p + 1))) 41
theorem oLow_at {w k p : Nat} (hp : p ≤ 40) (h1 : oRk w p ≤ k) (h2 : k < oRk w (p + 1)) : oLow w k = p :=
  fa_at (by omega) (decide_eq_true h2) (fun j hj => decide_eq_false (by have := oRk_mono w (show j + 1 ≤ p by omega); omega))
/-- marks strictly between -/
def oBt (w p q : Nat) : Nat := fb_ct (fun i => decide (p < i) && w.testBit i) q
theorem oBt_s (w p q : Nat) : oBt w p (q + 1) = oBt w p q + (if p < q ∧ w.testBit q = true then 1 else 0) := by
  show fb_ct _ q + _ = _
  by_cases h : p < q ∧ w.testBit q = true
  · simp [oBt, h.1, h.2]
  · rw [if_neg h]
    by_cases h1 : p < q
    · have h2 : w.testBit q = false := by
        cases hq : w.testBit q
        · rfl
        · exact absurd ⟨h1, hq⟩ h
      simp [oBt, h2]
    · simp [oBt, h1]
theorem oBt_0 (w p : Nat) : oBt w p (p + 1) = 0 := fb_ct_zero.mpr (fun k hk => by simp [show ¬ p < k by omega])
theorem oBt_lt {w p q : Nat} (hq : q < 64) (hpq : p < q) (h : w.testBit q = true) : oBt w p q < oUp w p := by
  have e : oBt w p (q + 1) = oBt w p q + 1 := by rw [oBt_s, if_pos ⟨hpq, h⟩]
  have m : oBt w p (q + 1) ≤ oUp w p := fb_ct_mono _ (by omega)
  omega
theorem oBt_le (w p q : Nat) : oBt w p q ≤ q := fb_ct_le _ _
def oHigh (w k : Nat) : Nat := fa_first (fun q => decide (oLow w k < q) && w.testBit q && decide (oRk w (oLow w k) + oBt w (oLow w k) q = k)) 41
theorem oPair {w k p q : Nat} (hq : q ≤ 40) (hpq : p < q) (bp : w.testBit p = true) (bq : w.testBit q = true) (h : oRk w p + oBt w p q = k) : oLow w k = p ∧ oHigh w k = q := by
  have l := oBt_lt (by omega) hpq bq
  have e : oLow w k = p := oLow_at (by omega) (by omega) (by rw [oRk_y bp]; omega)
  refine ⟨e, ?_⟩
  unfold oHigh
  rw [e]
  refine fa_at (by omega) (by simp [hpq, bq, h]) (fun j hj => ?_)
  by_cases h1 : p < j
  · by_cases h2 : w.testBit j = true
    · have e2 : oBt w p (j + 1) = oBt w p j + 1 := by rw [oBt_s, if_pos ⟨h1, h2⟩]
      have m : oBt w p (j + 1) ≤ oBt w p q := fb_ct_mono _ (by omega)
      have : ¬ oRk w p + oBt w p j = k := by omega
      simp [this]
    · simp [h2]
  · simp [h1]
/-- the marks above p, up to 40, are those between p and 41 -/
theorem oUp_41 {w : Nat} (hw : w < 2 ^ 41) (p : Nat) : oUp w p = oBt w p 41 := by
  show fb_ct _ (41 + 23) = fb_ct _ 41
  rw [fb_ct_split]
  have z : fb_ct (fun k => decide (p < 41 + k) && w.testBit (41 + k)) 23 = 0 := fb_ct_zero.mpr (fun k _ => by
    rw [Nat.testBit_lt_two_pow (Nat.lt_of_lt_of_le hw (Nat.pow_le_pow_right (by decide) (by omega)))]
    simp)
  omega
theorem oGc_0 : oGc 0 40 = 0 := by
  have h : ∀ k : Nat, oGc 0 k = 0 := by
    intro k
    induction k with
    | zero => rfl
    | succ k ih =>
      unfold oGc
      rw [if_neg (by rw [Nat.zero_testBit]; decide)]
      exact ih
  exact h 40
theorem oBit_some {w : Nat} (h : w ≠ 0) (hb : ∀ k : Nat, w.testBit k = true → 1 ≤ k ∧ k ≤ 40) : ∃ k, 1 ≤ k ∧ k ≤ 40 ∧ w.testBit k = true := by
  obtain ⟨k, hk⟩ := Nat.exists_testBit_of_ne_zero h
  exact ⟨k, (hb k hk).1, (hb k hk).2, hk⟩
theorem o_mm1 (m : Nat) : ((m : Nat) : Int) * (((m : Nat) : Int) - 1) = ((m * (m - 1) : Nat) : Int) := by
  cases m with
  | zero => rfl
  | succ m =>
    rw [Nat.add_sub_cancel, Int.natCast_mul, show (((m + 1 : Nat) : Int) - 1) = ((m : Nat) : Int) by omega]
theorem o_mmb {m : Nat} (h : m ≤ 64) : 0 ≤ ((m * (m - 1) : Nat) : Int) ∧ ((m * (m - 1) : Nat) : Int) < 2147483648 := by
  have h1 : m * (m - 1) ≤ 64 * 63 := Nat.mul_le_mul h (by omega)
  omega
theorem o_gm1 {n : Nat} {w : Nat → Nat} {r : Int} {lo hg le2 k : Nat} (hw41 : ∀ r : Int, oRow n w r < 2 ^ 41) (h2 : le2 + oRk (oRow n w r) lo + (if (oRow n w r).testBit lo = true then oBt (oRow n w r) lo hg else 0) = k) (h : hg = 41) : le2 + oRk (oRow n w r) (lo + 1) = k := by
  show le2 + (oRk (oRow n w r) lo + _) = k
  rw [oUp_41 (hw41 r), ← h]
  omega
theorem o_gm2 {w lo hg le2 k : Nat} (h2 : le2 + oRk w lo + (if w.testBit lo = true then oBt w lo hg else 0) = k) (h : ¬ w.testBit lo = true) : le2 + oRk w (lo + 1) = k := by
  rw [oRk_n h]
  rw [if_neg h] at h2
  omega
