/-! ===== what the actions do to a row ===== -/
theorem va_up_s {α : Type} (f : Nat → α) (k : Nat) (v : α) : va_up f k v k = v := if_pos rfl
theorem va_up_n {α : Type} (f : Nat → α) {k j : Nat} (v : α) (h : j ≠ k) : va_up f k v j = f j := if_neg h
theorem o_up_self {α : Type} (f : Nat → α) {k : Nat} {v : α} (h : v = f k) : va_up f k v = f := by
  funext q
  by_cases e : q = k
  · subst e
    rw [va_up_s, h]
  · rw [va_up_n _ _ e]
def oSet1 (w p : Nat) : Nat := w ||| 2 ^ p
def oSet0 (w p : Nat) : Nat := w &&& (2 ^ p ^^^ 18446744073709551615)
def oCutW (w s : Nat) : Nat := w &&& (2 ^ s - 1) ||| 2 ^ s
theorem oSet1_tb (w p i : Nat) : (oSet1 w p).testBit i = (w.testBit i || decide (p = i)) := by unfold oSet1; rw [Nat.testBit_or, Nat.testBit_two_pow]
theorem oM64_tb {i : Nat} (h : i < 64) : (18446744073709551615 : Nat).testBit i = true := by
  rw [show (18446744073709551615 : Nat) = 2 ^ 64 - 1 from rfl, Nat.testBit_two_pow_sub_one]
  exact decide_eq_true h
theorem oSet0_tb {w p i : Nat} (hw : w < 2 ^ 64) : (oSet0 w p).testBit i = (w.testBit i && !decide (p = i)) := by
  unfold oSet0
  rw [Nat.testBit_and, Nat.testBit_xor, Nat.testBit_two_pow]
  rcases Nat.lt_or_ge i 64 with h | h
  · rw [oM64_tb h]
    cases decide (p = i) <;> rfl
  · rw [Nat.testBit_lt_two_pow (Nat.lt_of_lt_of_le hw (Nat.pow_le_pow_right (by decide) h))]
    rfl
theorem oCutW_tb (w s i : Nat) : (oCutW w s).testBit i = ((w.testBit i && decide (i < s)) || decide (s = i)) := by
  unfold oCutW
  rw [Nat.testBit_or, Nat.testBit_and, Nat.testBit_two_pow_sub_one, Nat.testBit_two_pow]
theorem oRevA_tb (w s i : Nat) : ∀ p : Nat, p ≤ s + 1 → (oRevA w s p).testBit i = (decide (i ≤ s ∧ s - i < p) && w.testBit (s - i))
  | 0, _ => by
    show (0 : Nat).testBit i = _
    rw [Nat.zero_testBit, decide_eq_false (by omega)]
    rfl
  | p + 1, h => by
    have ih := oRevA_tb w s i p (by omega)
    by_cases hp : w.testBit p = true
    · rw [oRevA_y hp, Nat.testBit_or, ih, Nat.testBit_two_pow]
      by_cases e : s - p = i
      · have e2 : s - i = p := by omega
        rw [decide_eq_true e, e2, hp, decide_eq_true (show i ≤ s ∧ p < p + 1 by omega), Bool.or_true]
        rfl
      · rw [decide_eq_false e, Bool.or_false]
        congr 1
        exact decide_eq_decide.mpr (by omega)
    · rw [oRevA_n hp, ih]
      by_cases e : s - i = p
      · rw [e, Bool.eq_false_iff.mpr hp, Bool.and_false, Bool.and_false]
      · congr 1
        exact decide_eq_decide.mpr (by omega)
theorem oRev_tb (w s i : Nat) : (oRev w s).testBit i = (decide (i ≤ s) && w.testBit (s - i)) := by
  unfold oRev
  rw [oRevA_tb w s i (s + 1) (Nat.le_refl _)]
  congr 1
  exact decide_eq_decide.mpr (by omega)
theorem oInner_tb {w s i : Nat} (hw : w < 2 ^ 41) (hs : s ≤ 40) : (oInner w s).testBit i = (w.testBit i && (!decide (i = 0) && !decide (s = i))) := by
  unfold oInner
  rw [Nat.one_mul, Nat.testBit_and, Nat.testBit_and, Nat.testBit_xor, Nat.testBit_two_pow]
  rcases Nat.lt_or_ge i 64 with h | h
  · rw [oM64_tb h, show (18446744073709551614 : Nat) = 2 * (2 ^ 63 - 1) from rfl]
    cases i with
    | zero =>
      have e : (2 * (2 ^ 63 - 1) : Nat).testBit 0 = false := by decide
      rw [e]
      cases w.testBit 0 <;> rfl
    | succ i =>
      have e : (2 * (2 ^ 63 - 1) : Nat).testBit (i + 1) = true := by
        rw [Nat.testBit_succ, Nat.mul_div_cancel_left _ (by decide), Nat.testBit_two_pow_sub_one]
        exact decide_eq_true (by omega)
      rw [e, decide_eq_false (show ¬ i + 1 = 0 by omega)]
      cases w.testBit (i + 1) <;> cases decide (s = i + 1) <;> rfl
  · rw [Nat.testBit_lt_two_pow (Nat.lt_of_lt_of_le hw (Nat.pow_le_pow_right (by decide) (by omega)))]
    rfl
/-- a number is below 2^k if its bits from k on are 0 -/
theorem o_lt_of_bits {w k : Nat} (h : ∀ i, k ≤ i → w.testBit i = false) : w < 2 ^ k := Nat.lt_pow_two_of_testBit w h
theorem o_bits_of_lt {w k i : Nat} (h : w < 2 ^ k) (hi : k ≤ i) : w.testBit i = false := Nat.testBit_lt_two_pow (Nat.lt_of_lt_of_le h (Nat.pow_le_pow_right (by decide) hi))
theorem oWf.congr {n : Nat} {sz w sz' w' : Nat → Nat} (h : oWf n sz w) (e : ∀ r : Nat, r < n → sz' r = sz r ∧ w' r = w r) : oWf n sz' w' :=
  ⟨h.1, fun r hr => by rw [(e r hr).1, (e r hr).2]; exact h.2 r hr⟩
theorem oWf.add {n : Nat} {sz w : Nat → Nat} (h : oWf n sz w) (hn : n < 4) {x : Nat} (h2 : 2 ≤ x) (h40 : x ≤ 40) : oWf (n + 1) (va_up sz n x) (va_up w n (1 ||| 2 ^ x)) := by
  refine ⟨by omega, fun r hr => ?_⟩
  by_cases e : r = n
  · subst e
    rw [va_up_s, va_up_s]
    refine ⟨h2, h40, ?_, ?_, ?_⟩
    · exact Nat.or_lt_two_pow (Nat.lt_of_lt_of_le (by decide : 1 < 2 ^ 1) (Nat.pow_le_pow_right (by decide) (by omega))) (Nat.pow_lt_pow_right (by decide) (by omega))
    · rw [Nat.testBit_or]
      rfl
    · rw [Nat.testBit_or, Nat.testBit_two_pow_self, Bool.or_true]
  · rw [va_up_n _ _ e, va_up_n _ _ e]
    exact h.2 r (by omega)
theorem oWf.row1 {n : Nat} {sz w : Nat → Nat} (h : oWf n sz w) {r v : Nat} (hr : r < n) (h1 : v < 2 ^ (sz r + 1)) (h2 : v.testBit 0 = true) (h3 : v.testBit (sz r) = true) : oWf n sz (va_up w r v) := by
  refine ⟨h.1, fun q hq => ?_⟩
  by_cases e : q = r
  · subst e
    rw [va_up_s]
    exact ⟨(h.2 q hq).1, (h.2 q hq).2.1, h1, h2, h3⟩
  · rw [va_up_n _ _ e]
    exact h.2 q hq
theorem oWf.mark1 {n : Nat} {sz w : Nat → Nat} (h : oWf n sz w) {r p : Nat} (hr : r < n) (hp : p ≤ sz r) : oWf n sz (va_up w r (oSet1 (w r) p)) := by
  have k := h.2 r hr
  refine h.row1 hr (o_lt_of_bits fun i hi => ?_) ?_ ?_
  · rw [oSet1_tb, o_bits_of_lt k.2.2.1 hi, decide_eq_false (by omega)]
    rfl
  · rw [oSet1_tb, k.2.2.2.1]
    rfl
  · rw [oSet1_tb, k.2.2.2.2]
    rfl
theorem oWf.mark0 {n : Nat} {sz w : Nat → Nat} (h : oWf n sz w) {r p : Nat} (hr : r < n) (h0 : p ≠ 0) (hp : p ≠ sz r) : oWf n sz (va_up w r (oSet0 (w r) p)) := by
  have k := h.2 r hr
  have k64 : w r < 2 ^ 64 := Nat.lt_of_lt_of_le (h.row hr) (by decide)
  refine h.row1 hr (o_lt_of_bits fun i hi => ?_) ?_ ?_
  · rw [oSet0_tb k64, o_bits_of_lt k.2.2.1 hi]
    rfl
  · rw [oSet0_tb k64, k.2.2.2.1, decide_eq_false h0]
    rfl
  · rw [oSet0_tb k64, k.2.2.2.2, decide_eq_false hp]
    rfl
theorem oWf.cut {n : Nat} {sz w : Nat → Nat} (h : oWf n sz w) {r x : Nat} (hr : r < n) (h2 : 2 ≤ x) (hx : x ≤ sz r) : oWf n (va_up sz r x) (va_up w r (oCutW (w r) x)) := by
  refine ⟨h.1, fun q hq => ?_⟩
  by_cases e : q = r
  · subst e
    have k := h.2 q hq
    rw [va_up_s, va_up_s]
    refine ⟨h2, by omega, o_lt_of_bits fun i hi => ?_, ?_, ?_⟩
    · rw [oCutW_tb, decide_eq_false (show ¬ i < x by omega), decide_eq_false (show ¬ x = i by omega), Bool.and_false]
      rfl
    · rw [oCutW_tb, k.2.2.2.1, decide_eq_true (show 0 < x by omega)]
      rfl
    · rw [oCutW_tb, decide_eq_true (rfl : x = x), Bool.or_true]
  · rw [va_up_n _ _ e, va_up_n _ _ e]
    exact h.2 q hq
theorem oWf.turn {n : Nat} {sz w : Nat → Nat} (h : oWf n sz w) {r : Nat} (hr : r < n) : oWf n sz (va_up w r (oRev (w r) (sz r))) := by
  have k := h.2 r hr
  refine h.row1 hr (o_lt_of_bits fun i hi => ?_) ?_ ?_
  · rw [oRev_tb, decide_eq_false (by omega)]
    rfl
  · rw [oRev_tb, decide_eq_true (Nat.zero_le _), Nat.sub_zero, k.2.2.2.2]
    rfl
  · rw [oRev_tb, decide_eq_true (Nat.le_refl _), Nat.sub_self, k.2.2.2.1]
    rfl
/-! the refusals, action by action: 0 none, 1 not there, 2 out of range, 3 not now -/
def oRef1 (n : Nat) (a : Int) : Int := if a < 2 ∨ 40 < a then 2 else if 4 ≤ n then 3 else 0
def oRef2 (n : Nat) (sz : Nat → Nat) (a b on : Int) : Int := if ¬ ((0 ≤ a ∧ a < (n : Int)) ∧ 0 ≤ b ∧ b ≤ (oSize n sz a : Int)) then 1 else if on = 0 ∧ (b = 0 ∨ b = (oSize n sz a : Int)) then 3 else 0
def oRef3 (n : Nat) (sz : Nat → Nat) (a b : Int) : Int := if ¬ (0 ≤ a ∧ a < (n : Int)) then 1 else if b < 2 ∨ (oSize n sz a : Int) < b then 2 else 0
def oRef4 (n : Nat) (a : Int) : Int := if 0 ≤ a ∧ a < (n : Int) then 0 else 1
def oRef5 (a b : Int) : Int := if (a = 0 ∧ 1 ≤ b ∧ b ≤ 6) ∨ (a = 1 ∧ 10 ≤ b ∧ b ≤ 150) then 0 else 2
theorem oRef1_b (n : Nat) (a : Int) : 0 ≤ oRef1 n a ∧ oRef1 n a ≤ 3 := by unfold oRef1; split <;> (try split) <;> omega
theorem oRef2_b (n : Nat) (sz : Nat → Nat) (a b on : Int) : 0 ≤ oRef2 n sz a b on ∧ oRef2 n sz a b on ≤ 3 := by unfold oRef2; split <;> (try split) <;> omega
theorem oRef3_b (n : Nat) (sz : Nat → Nat) (a b : Int) : 0 ≤ oRef3 n sz a b ∧ oRef3 n sz a b ≤ 3 := by unfold oRef3; split <;> (try split) <;> omega
theorem oRef4_b (n : Nat) (a : Int) : 0 ≤ oRef4 n a ∧ oRef4 n a ≤ 3 := by unfold oRef4; split <;> omega
theorem oRef5_b (a b : Int) : 0 ≤ oRef5 a b ∧ oRef5 a b ≤ 3 := by unfold oRef5; split <;> omega
theorem oRef1_0 {n : Nat} {a : Int} : oRef1 n a = 0 ↔ 2 ≤ a ∧ a ≤ 40 ∧ n < 4 := by unfold oRef1; split <;> (try split) <;> omega
theorem oRef2_0 {n : Nat} {sz : Nat → Nat} {a b on : Int} : oRef2 n sz a b on = 0 ↔ ((0 ≤ a ∧ a < (n : Int)) ∧ 0 ≤ b ∧ b ≤ (oSize n sz a : Int)) ∧ ¬ (on = 0 ∧ (b = 0 ∨ b = (oSize n sz a : Int))) := by unfold oRef2; split <;> (try split) <;> omega
theorem oRef3_0 {n : Nat} {sz : Nat → Nat} {a b : Int} : oRef3 n sz a b = 0 ↔ (0 ≤ a ∧ a < (n : Int)) ∧ 2 ≤ b ∧ b ≤ (oSize n sz a : Int) := by unfold oRef3; split <;> (try split) <;> omega
theorem oRef4_0 {n : Nat} {a : Int} : oRef4 n a = 0 ↔ 0 ≤ a ∧ a < (n : Int) := by unfold oRef4; split <;> omega
theorem oRef5_0 {a b : Int} : oRef5 a b = 0 ↔ (a = 0 ∧ 1 ≤ b ∧ b ≤ 6) ∨ (a = 1 ∧ 10 ≤ b ∧ b ≤ 150) := by unfold oRef5; split <;> omega
def oTurnR (w s : Nat) : Int := if oInner w s = 0 then (s : Int) else oLowest (oInner w s)
theorem o_inner_64 (w s : Nat) : oInner w s < 2 ^ 64 := Nat.lt_of_le_of_lt (Nat.le_trans Nat.and_le_left Nat.and_le_right) (by decide)
def oMem (ad : Nat → Nat) : Nat → Option Nat := fun i => if i < 14 then some (ad (3 * i + 15)) else none
theorem oMem_in {ad : Nat → Nat} {i : Nat} (h : i < 14) : oMem ad i = some (ad (3 * i + 15)) := if_pos h
