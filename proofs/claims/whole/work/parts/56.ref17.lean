theorem oOrW_iff {n : Nat} {w : Nat → Nat} {left : Int} {d K : Nat} : (oOrW n w left K).testBit d = true ↔ ∃ r : Nat, r < K ∧ ((r : Nat) : Int) ≠ left ∧ (oSpr (oRow n w ((r : Nat) : Int)) 41).testBit d = true :=
  ⟨oOrW_tb K, fun ⟨_, h1, h2, h3⟩ => oOrW_tb2 h2 h3 K h1⟩
theorem oOrW_up {n r v : Nat} {w : Nat → Nat} {ri : Int} (hr : r < n) (hn : n ≤ 4) (e : ri = ((r : Nat) : Int)) : oOrW n (va_up w r v) (-1) 4 = oOrW n w ri 4 ||| oSpr v 41 := by
  subst e
  refine Nat.eq_of_testBit_eq (fun i => Bool.eq_iff_iff.mpr ?_)
  rw [Nat.testBit_or, Bool.or_eq_true, oOrW_iff, oOrW_iff]
  constructor
  · rintro ⟨q, q1, _, q3⟩
    by_cases h : q = r
    · subst h
      rw [oRow_in (by omega), Int.toNat_natCast, va_up_s] at q3
      exact Or.inr q3
    · refine Or.inl ⟨q, q1, by omega, ?_⟩
      by_cases hq : q < n
      · rw [oRow_in (by omega), Int.toNat_natCast, va_up_n _ _ h] at q3
        rw [oRow_in (by omega), Int.toNat_natCast]
        exact q3
      · rw [oRow_out (by omega)] at q3
        rw [oRow_out (by omega)]
        exact q3
  · rintro (⟨q, q1, q2, q3⟩ | q)
    · refine ⟨q, q1, by omega, ?_⟩
      by_cases hq : q < n
      · rw [oRow_in (by omega), Int.toNat_natCast] at q3
        rw [oRow_in (by omega), Int.toNat_natCast, va_up_n _ _ (by omega)]
        exact q3
      · rw [oRow_out (by omega)] at q3
        rw [oRow_out (by omega)]
        exact q3
    · exact ⟨r, by omega, by omega, by rw [oRow_in (by omega), Int.toNat_natCast, va_up_s]; exact q⟩
theorem oBm_flat {n a g s : Nat} {sz w : Nat → Nat} {r : Int} (hs : oSize n sz r = s) (hb : (oRow n w r).testBit s = true) : ∀ d : Nat, oBm n a g sz w r (s + d) = oBm n a g sz w r s
  | 0 => rfl
  | d + 1 => by
    rw [show s + (d + 1) = s + d + 1 by omega, oBm_n (fun q => ?_), oBm_flat hs hb d]
    have h1 := q.1.1
    rw [hs] at h1
    have e : s + d = s := by omega
    rw [e] at q
    exact q.1.2 hb
theorem oNd_flat {n a g s : Nat} {sz w : Nat → Nat} {r : Int} (hs : oSize n sz r = s + 1) (hw : oRow n w r < 2 ^ (s + 2)) : ∀ d : Nat, oNd n a g sz w r (s + d) = oNd n a g sz w r s
  | 0 => rfl
  | d + 1 => by
    rw [show s + (d + 1) = s + d + 1 by omega, oNd_n (fun q => ?_), oNd_flat hs hw d]
    have h := oNdB_iff.mp q
    rw [hs] at h
    by_cases e : d = 0
    · exact h.2.1 (by omega)
    · rw [Nat.testBit_lt_two_pow (Nat.lt_of_lt_of_le hw (Nat.pow_le_pow_right (by decide) (by omega)))] at h
      cases h.1
/-! the k-th bit -/
def oKth (x k : Nat) : Nat := fa_first (fun i => x.testBit i && decide (fb_ct (fun j => x.testBit j) i = k)) 64
theorem oKth_at {x k p : Nat} (hp : p < 64) (hb : x.testBit p = true) (hc : fb_ct (fun j => x.testBit j) p = k) : oKth x k = p := by
  refine fa_at hp (by rw [hb, decide_eq_true hc]; rfl) (fun j hj => ?_)
  by_cases h : x.testBit j = true
  · by_cases h2 : fb_ct (fun j => x.testBit j) j = k
    · have := fb_ct_kth_one (p := fun j => x.testBit j) h hb (by rw [h2, hc])
      omega
    · rw [decide_eq_false h2, Bool.and_false]
  · rw [Bool.eq_false_iff.mpr h, Bool.false_and]
theorem oKth_ex {x k : Nat} (h : k < pcnt x) : x.testBit (oKth x k) = true ∧ fb_ct (fun j => x.testBit j) (oKth x k) = k ∧ oKth x k < 64 := by
  obtain ⟨i, h1, h2, h3⟩ := fb_ct_kth h
  rw [oKth_at h1 h2 h3]
  exact ⟨h2, h3, h1⟩
theorem oCt_lt {x i : Nat} (hi : i < 64) (h : x.testBit i = true) : fb_ct (fun j => x.testBit j) i < pcnt x := by
  have h1 : fb_ct (fun j => x.testBit j) (i + 1) = fb_ct (fun j => x.testBit j) i + 1 := by rw [fb_ct_succ, if_pos h]
  have h2 : fb_ct (fun j => x.testBit j) (i + 1) ≤ pcnt x := fb_ct_mono _ (by omega)
  omega
theorem oBit41 {x i : Nat} (hx : x < 2 ^ 41) (h : x.testBit i = true) : i ≤ 40 := Classical.byContradiction (fun q => by
  rw [Nat.testBit_lt_two_pow (Nat.lt_of_lt_of_le hx (Nat.pow_le_pow_right (by decide) (by omega)))] at h; cases h)
def oMt (x y : Nat) (d : Int) : Prop := (∀ i : Nat, x.testBit i = true → ∃ j : Nat, (i : Int) = (j : Int) + d ∧ y.testBit j = true) ∧ (∀ j : Nat, y.testBit j = true → ∃ i : Nat, (i : Int) = (j : Int) + d ∧ x.testBit i = true)
theorem oMt_of {x y : Nat} {d : Int} (hx : x < 2 ^ 41) (hy : y < 2 ^ 41) (hp : pcnt x = pcnt y) (h : ∀ k : Nat, k < pcnt x → ((oKth x k : Nat) : Int) - ((oKth y k : Nat) : Int) = d) : oMt x y d := by
  refine ⟨fun i hi => ?_, fun j hj => ?_⟩
  · have h1 := oCt_lt (by have := oBit41 hx hi; omega) hi
    have h2 := h _ h1
    rw [oKth_at (by have := oBit41 hx hi; omega) hi rfl] at h2
    exact ⟨oKth y (fb_ct (fun j => x.testBit j) i), by omega, (oKth_ex (x := y) (by rw [← hp]; exact h1)).1⟩
  · have h1 := oCt_lt (by have := oBit41 hy hj; omega) hj
    have h2 := h _ (by rw [hp]; exact h1)
    rw [oKth_at (x := y) (by have := oBit41 hy hj; omega) hj rfl] at h2
    exact ⟨oKth x (fb_ct (fun k => y.testBit k) j), by omega, (oKth_ex (x := x) (by rw [hp]; exact h1)).1⟩
theorem oMt_bit {x y i j : Nat} {d : Int} (h : oMt x y d) (e : (i : Int) = (j : Int) + d) : x.testBit i = y.testBit j := by
  refine Bool.eq_iff_iff.mpr ⟨fun q => ?_, fun q => ?_⟩
  · obtain ⟨j2, e2, b⟩ := h.1 i q
    rw [show j = j2 by omega]
    exact b
  · obtain ⟨i2, e2, b⟩ := h.2 j q
    rw [show i = i2 by omega]
    exact b
theorem oMt_ct {x y i j : Nat} {d : Int} (h : oMt x y d) (e : (i : Int) = (j : Int) + d) : fb_ct (fun k => x.testBit k) i = fb_ct (fun k => y.testBit k) j := by
  rcases (show 0 ≤ d ∨ d < 0 by omega) with hd | hd
  · obtain ⟨D, hD⟩ := Int.eq_ofNat_of_zero_le hd
    rw [show i = D + j by omega, fb_ct_split]
    have z : fb_ct (fun k => x.testBit k) D = 0 := fb_ct_zero.mpr (fun k hk => Bool.eq_false_iff.mpr (fun q => by
      obtain ⟨j2, e2, _⟩ := h.1 k q
      omega))
    rw [z, Nat.zero_add]
    exact fb_ct_cong (fun k _ => oMt_bit h (by omega))
  · obtain ⟨E, hE⟩ := Int.eq_ofNat_of_zero_le (show 0 ≤ -d by omega)
    rw [show j = E + i by omega, fb_ct_split]
    have z : fb_ct (fun k => y.testBit k) E = 0 := fb_ct_zero.mpr (fun k hk => Bool.eq_false_iff.mpr (fun q => by
      obtain ⟨i2, e2, _⟩ := h.2 k q
      omega))
    rw [z, Nat.zero_add]
    exact fb_ct_cong (fun k _ => oMt_bit h (by omega))
theorem oMt_all {x y k : Nat} {d : Int} (h : oMt x y d) (hy : y < 2 ^ 41) (hk : k < pcnt x) : ((oKth x k : Nat) : Int) - ((oKth y k : Nat) : Int) = d := by
  obtain ⟨b1, b2, b3⟩ := oKth_ex hk
  obtain ⟨j, e, bj⟩ := h.1 _ b1
  have c := oMt_ct h e
  rw [b2] at c
  rw [oKth_at (x := y) (k := k) (p := j) (by have := oBit41 hy bj; omega) bj c.symm]
  omega
theorem oMt_shf {x y : Nat} {d : Int} (h : oMt x y d) (hx : x < 2 ^ 41) : oShf y d = x := by
  refine Nat.eq_of_testBit_eq (fun i => ?_)
  rcases (show 0 ≤ d ∨ d < 0 by omega) with hd | hd
  · rw [oShf_p hd, oShl_tb]
    by_cases c : d.toNat ≤ i
    · rw [decide_eq_true c, Bool.true_and, ← oMt_bit h (i := i) (j := i - d.toNat) (by omega)]
      by_cases b : x.testBit i = true
      · rw [b, decide_eq_true (by have := oBit41 hx b; omega)]; rfl
      · rw [Bool.eq_false_iff.mpr b, Bool.and_false]
    · rw [decide_eq_false c, Bool.false_and, Bool.and_false]
      exact (Bool.eq_false_iff.mpr (fun q => by obtain ⟨j, e, _⟩ := h.1 i q; omega)).symm
  · rw [oShf_n hd, Nat.testBit_div_two_pow]
    first
      | exact (oMt_bit h (by omega)).symm
      | (rw [Nat.add_comm]; exact (oMt_bit h (by omega)).symm)
theorem oShf_mt {x y : Nat} {d : Int} (h : oShf y d = x) (hx : x < 2 ^ 41) (hy : y < 2 ^ 41) (hp : pcnt x = pcnt y) (hm : 0 < pcnt x) (hd : d = ((oKth x 0 : Nat) : Int) - ((oKth y 0 : Nat) : Int)) : oMt x y d := by
  have hx0 := oKth_ex hm
  have hy0 := oKth_ex (x := y) (k := 0) (by rw [← hp]; exact hm)
  have bx := oBit41 hx hx0.1
  have b_y := oBit41 hy hy0.1
  rcases (show 0 ≤ d ∨ d < 0 by omega) with h0 | h0
  · obtain ⟨D, hD⟩ := Int.eq_ofNat_of_zero_le h0
    rw [oShf_p h0, show d.toNat = D by omega] at h
    have bit : ∀ i : Nat, x.testBit i = (decide (i < 64) && (decide (D ≤ i) && y.testBit (i - D))) := fun i => by rw [← h, oShl_tb]
    have cnt : pcnt x = fb_ct (fun k => y.testBit k) (64 - D) := by
      have e1 := fb_ct_split (fun k => x.testBit k) D (64 - D)
      rw [show D + (64 - D) = 64 by omega] at e1
      have z : fb_ct (fun k => x.testBit k) D = 0 := fb_ct_zero.mpr (fun k hk => by rw [bit, decide_eq_false (by omega : ¬ D ≤ k), Bool.false_and, Bool.and_false])
      unfold pcnt
      rw [e1, z, Nat.zero_add]
      exact fb_ct_cong (fun k hk => by rw [bit, decide_eq_true (by omega : D + k < 64), decide_eq_true (by omega : D ≤ D + k), Bool.true_and, Bool.true_and, show D + k - D = k by omega])
    have e2 := fb_ct_split (fun k => y.testBit k) (64 - D) D
    rw [show 64 - D + D = 64 by omega] at e2
    have z2 : fb_ct (fun k => y.testBit (64 - D + k)) D = 0 := by
      have : fb_ct (fun k => y.testBit k) 64 = pcnt y := rfl
      omega
    refine ⟨fun i hi => ?_, fun j hj => ?_⟩
    · rw [bit] at hi
      simp only [Bool.and_eq_true, decide_eq_true_eq] at hi
      exact ⟨i - D, by omega, hi.2.2⟩
    · have hj40 := oBit41 hy hj
      have lt : j + D < 64 := Classical.byContradiction (fun q => by
        have := fb_ct_zero.mp z2 (j - (64 - D)) (by omega)
        rw [show 64 - D + (j - (64 - D)) = j by omega, hj] at this
        cases this)
      exact ⟨j + D, by omega, by rw [bit, decide_eq_true lt, decide_eq_true (by omega : D ≤ j + D), Bool.true_and, Bool.true_and, show j + D - D = j by omega]; exact hj⟩
  · obtain ⟨E, hE⟩ := Int.eq_ofNat_of_zero_le (show 0 ≤ -d by omega)
    rw [oShf_n h0, show (-d).toNat = E by omega] at h
    have bit : ∀ i : Nat, x.testBit i = y.testBit (E + i) := fun i => by
      rw [← h, Nat.testBit_div_two_pow]
      first
        | rfl
        | rw [Nat.add_comm]
    refine ⟨fun i hi => ⟨E + i, by omega, by rw [← bit]; exact hi⟩, fun j hj => ?_⟩
    have hj40 := oBit41 hy hj
    have ge : oKth y 0 ≤ j := Classical.byContradiction (fun q => by
      have h3 := fb_ct_zero.mp hy0.2.1 j (by omega)
      rw [hj] at h3
      cases h3)
    exact ⟨j - E, by omega, by rw [bit, show E + (j - E) = j by omega]; exact hj⟩
theorem oLowest_k {x : Nat} (h : 0 < pcnt x) : oLowest x = ((oKth x 0 : Nat) : Int) := by
  obtain ⟨h1, h2, h3⟩ := oKth_ex h
  exact oLowest_at h3 h1 (fun q hq => fb_ct_zero.mp h2 q hq)
theorem pcnt_pos {x : Nat} (h : 0 < pcnt x) : ¬ x = 0 := fun q => by rw [q] at h; exact absurd h (by decide)
theorem oTwn_yes {x y : Nat} {d : Int} (hx : x < 2 ^ 41) (hy : y < 2 ^ 41) (hp : pcnt x = pcnt y) (hm : 0 < pcnt x) (h : ∀ k : Nat, k < pcnt x → ((oKth x k : Nat) : Int) - ((oKth y k : Nat) : Int) = d) : oTwn x y = d + 100 := by
  have e : oLowest x - oLowest y = d := by rw [oLowest_k hm, oLowest_k (by rw [← hp]; exact hm)]; exact h 0 hm
  unfold oTwn
  rw [if_neg (fun q => q.elim (pcnt_pos hm) (fun z => z hp)), e, if_pos (oMt_shf (oMt_of hx hy hp h) hx)]
theorem oTwn_no {x y k : Nat} (hx : x < 2 ^ 41) (hy : y < 2 ^ 41) (hp : pcnt x = pcnt y) (hm : 0 < pcnt x) (hk : k < pcnt x) (h : ¬ ((oKth x k : Nat) : Int) - ((oKth y k : Nat) : Int) = ((oKth x 0 : Nat) : Int) - ((oKth y 0 : Nat) : Int)) : oTwn x y = -1 := by
  have e : oLowest x - oLowest y = ((oKth x 0 : Nat) : Int) - ((oKth y 0 : Nat) : Int) := by rw [oLowest_k hm, oLowest_k (by rw [← hp]; exact hm)]
  unfold oTwn
  rw [if_neg (fun q => q.elim (pcnt_pos hm) (fun z => z hp)), e, if_neg (fun q => h (oMt_all (oShf_mt q hx hy hp hm rfl) hy hk))]
theorem oTwn_z {x y : Nat} (h : pcnt x = 0 ∨ ¬ pcnt x = pcnt y) (hx : x < 2 ^ 41) : oTwn x y = -1 := by
  unfold oTwn
  rw [if_pos (h.elim (fun q => Or.inl (pcnt_0 (Nat.lt_of_lt_of_le hx (by decide)) q)) Or.inr)]
theorem fb_ct_rev : ∀ (n : Nat) (f : Nat → Bool), fb_ct (fun i => f (n - i)) (n + 1) = fb_ct f (n + 1)
  | 0, f => rfl
  | n + 1, f => by
    have s1 := fb_ct_split (fun i => f (n + 1 - i)) 1 (n + 1)
    have s2 : fb_ct (fun k => f (n + 1 - (1 + k))) (n + 1) = fb_ct (fun i => f (n - i)) (n + 1) := fb_ct_cong (fun k hk => by rw [show n + 1 - (1 + k) = n - k by omega])
    have s3 : fb_ct (fun i => f (n + 1 - i)) 1 = (if f (n + 1) = true then 1 else 0) := by
      show 0 + (if f (n + 1 - 0) = true then 1 else 0) = _
      rw [Nat.zero_add, Nat.sub_zero]
    rw [show n + 1 + 1 = 1 + (n + 1) by omega, s1, s2, s3, fb_ct_rev n f, show 1 + (n + 1) = n + 1 + 1 by omega, fb_ct_succ f (n + 1)]
    omega
theorem pcnt_s {x s : Nat} (hx : x < 2 ^ (s + 1)) (hs : s ≤ 40) : pcnt x = fb_ct (fun i => x.testBit i) (s + 1) := by
  have h := fb_ct_past (f := fun i => x.testBit i) (a := s + 1) (fun k hk => Nat.testBit_lt_two_pow (Nat.lt_of_lt_of_le hx (Nat.pow_le_pow_right (by decide) hk))) (64 - (s + 1))
  rw [show s + 1 + (64 - (s + 1)) = 64 by omega] at h
  exact h
theorem oRev_lt {x s : Nat} : oRev x s < 2 ^ (s + 1) := o_lt_of_bits (fun i hi => by rw [oRev_tb, decide_eq_false (by omega), Bool.false_and])
theorem pcnt_rev {x s : Nat} (hx : x < 2 ^ (s + 1)) (hs : s ≤ 40) : pcnt (oRev x s) = pcnt x := by
  rw [pcnt_s oRev_lt hs, pcnt_s hx hs, ← fb_ct_rev s (fun i => x.testBit i)]
  exact fb_ct_cong (fun k hk => by rw [oRev_tb, decide_eq_true (by omega), Bool.true_and])
theorem oInner_lt {x s : Nat} (hx : x < 2 ^ (s + 1)) : oInner x s < 2 ^ (s + 1) := Nat.lt_of_le_of_lt (Nat.le_trans Nat.and_le_left Nat.and_le_left) hx
theorem pcnt_inner {x s : Nat} (hx : x < 2 ^ 41) (hs : s ≤ 40) (h1 : 1 ≤ s) (b0 : x.testBit 0 = true) (bs : x.testBit s = true) : pcnt (oInner x s) + 2 = pcnt x := by
  have e1 := fb_ct_upd (fun k => x.testBit k) false (i := 0) (n := 64) (by decide)
  have e2 := fb_ct_upd (fun k => if k = 0 then false else x.testBit k) false (i := s) (n := 64) (by omega)
  rw [if_pos b0] at e1
  rw [if_pos (show (if s = 0 then false else x.testBit s) = true by rw [if_neg (by omega)]; exact bs)] at e2
  have e3 : pcnt (oInner x s) = fb_ct (fun k => if k = s then false else if k = 0 then false else x.testBit k) 64 := fb_ct_cong (fun k hk => by
    rw [oInner_tb hx hs]
    by_cases c : k = s
    · rw [if_pos c, decide_eq_true c.symm]; simp
    · rw [if_neg c, decide_eq_false (show ¬ s = k from fun q => c q.symm)]
      by_cases c2 : k = 0
      · rw [if_pos c2, decide_eq_true c2]; simp
      · rw [if_neg c2, decide_eq_false c2]; simp)
  have e4 : pcnt x = fb_ct (fun k => x.testBit k) 64 := rfl
  rw [if_neg (by decide : ¬ (false = true))] at e1 e2
  omega
theorem oInner_b {x s p : Nat} (hx : x < 2 ^ 41) (hs : s ≤ 40) (h1 : 1 ≤ p) (h2 : p < s) : bz (oInner x s) p = bz x p := bz_eq (by rw [oInner_tb hx hs, decide_eq_false (by omega : ¬ p = 0), decide_eq_false (by omega : ¬ s = p)]; simp)
theorem oInner_0 {x s : Nat} (hx : x < 2 ^ 41) (hs : s ≤ 40) : (oInner x s).testBit 0 = false := by rw [oInner_tb hx hs]; simp
theorem oInner_s {x s : Nat} (hx : x < 2 ^ 41) (hs : s ≤ 40) : (oInner x s).testBit s = false := by rw [oInner_tb hx hs]; simp
theorem pcnt_s0 {x s : Nat} (hx : x < 2 ^ (s + 1)) (hs : s ≤ 40) (h : x.testBit s = false) : fb_ct (fun i => x.testBit i) s = pcnt x := by
  rw [pcnt_s hx hs, fb_ct_succ, if_neg (by rw [h]; decide)]
  rfl
def oTyv (w s : Nat) (on : Int) : Nat := if on = 1 then oRev (oInner w s) s else oInner w s
theorem oTyv_f {w s : Nat} {on : Int} (hon : on = 0 ∨ on = 1) (hw : w < 2 ^ (s + 1)) (hs : s ≤ 40) (h1 : 1 ≤ s) : oTyv w s on < 2 ^ (s + 1) ∧ pcnt (oTyv w s on) = pcnt (oInner w s) ∧ (∀ p : Nat, 1 ≤ p → p < s → bz (oTyv w s on) p = (if on = 0 then bz w p else bz w (s - p))) ∧ (oTyv w s on).testBit 0 = false ∧ fb_ct (fun i => (oTyv w s on).testBit i) s = pcnt (oInner w s) := by
  have hw41 : w < 2 ^ 41 := Nat.lt_of_lt_of_le hw (Nat.pow_le_pow_right (by decide) (by omega))
  have hi := oInner_lt hw
  rcases hon with e | e
  · have e1 : oTyv w s on = oInner w s := if_neg (by omega)
    rw [e1]
    exact ⟨hi, rfl, fun p p1 p2 => by rw [if_pos e]; exact oInner_b hw41 hs p1 p2, oInner_0 hw41 hs, pcnt_s0 hi hs (oInner_s hw41 hs)⟩
  · have e1 : oTyv w s on = oRev (oInner w s) s := if_pos e
    rw [e1]
    refine ⟨oRev_lt, pcnt_rev hi hs, fun p p1 p2 => ?_, ?_, ?_⟩
    · rw [if_neg (by omega), ← oInner_b hw41 hs (show 1 ≤ s - p by omega) (by omega)]
      unfold bz
      rw [oRev_tb, decide_eq_true (by omega), Bool.true_and]
    · rw [oRev_tb, decide_eq_true (by omega), Bool.true_and, Nat.sub_zero, oInner_s hw41 hs]
    · rw [pcnt_s0 oRev_lt hs (by rw [oRev_tb, decide_eq_true (by omega), Bool.true_and, Nat.sub_self, oInner_0 hw41 hs]), pcnt_rev hi hs]
