/-! ===== the text: T its signs, z how many ===== -/
def oSg (T : Nat → Int) (z : Nat) (x : Int) : Int := if 0 ≤ x ∧ x < (z : Int) then T x.toNat else 0
theorem oSg_in {T : Nat → Int} {z : Nat} {x : Int} (h : 0 ≤ x ∧ x < (z : Int)) : oSg T z x = T x.toNat := if_pos h
theorem oSg_out {T : Nat → Int} {z : Nat} {x : Int} (h : ¬ (0 ≤ x ∧ x < (z : Int))) : oSg T z x = 0 := if_neg h
theorem oSg_b {T : Nat → Int} {z : Nat} (h : ∀ i : Nat, i < z → 0 ≤ T i ∧ T i ≤ 255) (x : Int) : 0 ≤ oSg T z x ∧ oSg T z x ≤ 255 := by
  unfold oSg
  split
  · exact h _ (by omega)
  · omega
/-- a digit, or something below 0 -/
def oDg (T : Nat → Int) (z i : Nat) : Int := if i < z then T i - 48 else -1
def oBad (T : Nat → Int) (z lo hi n p v : Nat) : Prop := oDg T z p < 0 ∨ 9 < oDg T z p ∨ (hi : Int) < (v : Int) + oDg T z p * ((10 ^ n : Nat) : Int) ∨ (v : Int) + oDg T z p * ((10 ^ n : Nat) : Int) + ((10 ^ n : Nat) : Int) - 1 < (lo : Int)
/-- a number of n digits more, from p on, v being read: where it is wrong (-1: nowhere), where it ends, what it is -/
noncomputable def oNm (T : Nat → Int) (z lo hi : Nat) : Nat → Nat → Nat → Int × Nat × Nat
  | 0, p, v => (-1, p, v)
  | n + 1, p, v => @ite _ (oBad T z lo hi n p v) (Classical.propDecidable _) ((p : Int), p, v) (oNm T z lo hi n (p + 1) (v + (oDg T z p).toNat * 10 ^ n))
theorem oNm_bad {T : Nat → Int} {z lo hi n p v : Nat} (h : oBad T z lo hi n p v) : oNm T z lo hi (n + 1) p v = ((p : Int), p, v) := if_pos h
theorem oNm_good {T : Nat → Int} {z lo hi n p v : Nat} (h : ¬ oBad T z lo hi n p v) : oNm T z lo hi (n + 1) p v = oNm T z lo hi n (p + 1) (v + (oDg T z p).toNat * 10 ^ n) := if_neg h
theorem oNm_at {T : Nat → Int} {z lo hi : Nat} : ∀ {n p v : Nat}, v ≤ hi → (n = 0 → lo ≤ v) → (oNm T z lo hi n p v).1 = -1 → (oNm T z lo hi n p v).2.1 = p + n ∧ lo ≤ (oNm T z lo hi n p v).2.2 ∧ (oNm T z lo hi n p v).2.2 ≤ hi ∧ (1 ≤ n → p + n ≤ z)
  | 0, p, v, h1, h2, _ => ⟨rfl, h2 rfl, h1, fun h => by omega⟩
  | n + 1, p, v, h1, h2, h => by
    by_cases hb : oBad T z lo hi n p v
    · rw [oNm_bad hb] at h
      exact absurd h (by show ¬ ((p : Nat) : Int) = -1; omega)
    · rw [oNm_good hb] at h ⊢
      unfold oBad at hb
      have hz : p < z := by
        by_cases e : p < z
        · exact e
        · have : oDg T z p = -1 := if_neg e
          omega
      obtain ⟨d, hd⟩ := Int.eq_ofNat_of_zero_le (show 0 ≤ oDg T z p by omega)
      rw [hd] at hb h ⊢
      rw [show ((d : Nat) : Int).toNat = d from rfl] at h ⊢
      have e1 : ((d : Nat) : Int) * ((10 ^ n : Nat) : Int) = ((d * 10 ^ n : Nat) : Int) := (Int.natCast_mul _ _).symm
      rw [e1] at hb
      have hi2 : v + d * 10 ^ n ≤ hi := by omega
      have k := oNm_at (p := p + 1) hi2 (fun e => by subst e; rw [Nat.pow_zero] at hb ⊢; omega) h
      refine ⟨by omega, k.2.1, k.2.2.1, fun _ => ?_⟩
      by_cases e : n = 0
      · omega
      · have := k.2.2.2 (by omega)
        omega
theorem oNm_f {T : Nat → Int} {z lo hi : Nat} : ∀ {n p v : Nat}, (oNm T z lo hi n p v).1 = -1 ∨ ((p : Int) ≤ (oNm T z lo hi n p v).1 ∧ (oNm T z lo hi n p v).1 < ((p + n : Nat) : Int) ∧ (oNm T z lo hi n p v).1 = ((oNm T z lo hi n p v).2.1 : Int))
  | 0, p, v => Or.inl rfl
  | n + 1, p, v => by
    by_cases hb : oBad T z lo hi n p v
    · rw [oNm_bad hb]
      refine Or.inr ⟨Int.le_refl _, ?_, rfl⟩
      show (p : Int) < _
      omega
    · rw [oNm_good hb]
      rcases oNm_f (T := T) (z := z) (lo := lo) (hi := hi) (n := n) (p := p + 1) (v := v + (oDg T z p).toNat * 10 ^ n) with h | ⟨h1, h2, h3⟩
      · exact Or.inl h
      · exact Or.inr ⟨by omega, by omega, h3⟩
theorem oNm_vb {T : Nat → Int} {z lo hi : Nat} : ∀ {n p v : Nat}, v ≤ hi → (oNm T z lo hi n p v).2.2 ≤ hi
  | 0, p, v, h => h
  | n + 1, p, v, h => by
    by_cases hb : oBad T z lo hi n p v
    · rw [oNm_bad hb]
      exact h
    · rw [oNm_good hb]
      refine oNm_vb ?_
      unfold oBad at hb
      obtain ⟨d, hd⟩ := Int.eq_ofNat_of_zero_le (show 0 ≤ oDg T z p by omega)
      rw [hd] at hb ⊢
      have e1 : ((d : Nat) : Int) * ((10 ^ n : Nat) : Int) = ((d * 10 ^ n : Nat) : Int) := (Int.natCast_mul _ _).symm
      rw [e1] at hb
      rw [show ((d : Nat) : Int).toNat = d from rfl]
      omega
/-- the command at p: where it is wrong, where it ends, its action and what that is given -/
noncomputable def oCm (T : Nat → Int) (z p : Nat) : Int × Nat × Nat × Nat × Nat :=
  if T p = 114 then ((oNm T z 2 40 2 (p + 1) 0).1, (oNm T z 2 40 2 (p + 1) 0).2.1, 1, (oNm T z 2 40 2 (p + 1) 0).2.2, 0)
  else if T p = 109 ∨ T p = 120 then
    (if (oNm T z 0 3 1 (p + 1) 0).1 ≠ -1 then ((oNm T z 0 3 1 (p + 1) 0).1, (oNm T z 0 3 1 (p + 1) 0).2.1, 2, (oNm T z 0 3 1 (p + 1) 0).2.2, 0)
     else ((oNm T z 0 40 2 (oNm T z 0 3 1 (p + 1) 0).2.1 0).1, (oNm T z 0 40 2 (oNm T z 0 3 1 (p + 1) 0).2.1 0).2.1, 2, (oNm T z 0 3 1 (p + 1) 0).2.2, (oNm T z 0 40 2 (oNm T z 0 3 1 (p + 1) 0).2.1 0).2.2))
  else if T p = 99 then
    (if (oNm T z 0 3 1 (p + 1) 0).1 ≠ -1 then ((oNm T z 0 3 1 (p + 1) 0).1, (oNm T z 0 3 1 (p + 1) 0).2.1, 3, (oNm T z 0 3 1 (p + 1) 0).2.2, 0)
     else ((oNm T z 2 40 2 (oNm T z 0 3 1 (p + 1) 0).2.1 0).1, (oNm T z 2 40 2 (oNm T z 0 3 1 (p + 1) 0).2.1 0).2.1, 3, (oNm T z 0 3 1 (p + 1) 0).2.2, (oNm T z 2 40 2 (oNm T z 0 3 1 (p + 1) 0).2.1 0).2.2))
  else if T p = 116 then ((oNm T z 0 3 1 (p + 1) 0).1, (oNm T z 0 3 1 (p + 1) 0).2.1, 4, (oNm T z 0 3 1 (p + 1) 0).2.2, 0)
  else if T p = 115 then ((oNm T z 1 6 1 (p + 1) 0).1, (oNm T z 1 6 1 (p + 1) 0).2.1, 5, 0, (oNm T z 1 6 1 (p + 1) 0).2.2)
  else if T p = 103 then ((oNm T z 10 150 3 (p + 1) 0).1, (oNm T z 10 150 3 (p + 1) 0).2.1, 5, 1, (oNm T z 10 150 3 (p + 1) 0).2.2)
  else ((p : Int), p, 0, 0, 0)
/-- what a good command is -/
theorem oCm_ok {T : Nat → Int} {z p : Nat} (h : (oCm T z p).1 = -1) : p + 1 < (oCm T z p).2.1 ∧ (oCm T z p).2.1 ≤ z ∧
    (((oCm T z p).2.2.1 = 1 ∧ 2 ≤ (oCm T z p).2.2.2.1 ∧ (oCm T z p).2.2.2.1 ≤ 40 ∧ (oCm T z p).2.2.2.2 = 0) ∨ ((oCm T z p).2.2.1 = 2 ∧ (oCm T z p).2.2.2.1 ≤ 3 ∧ (oCm T z p).2.2.2.2 ≤ 40) ∨ ((oCm T z p).2.2.1 = 3 ∧ (oCm T z p).2.2.2.1 ≤ 3 ∧ 2 ≤ (oCm T z p).2.2.2.2 ∧ (oCm T z p).2.2.2.2 ≤ 40) ∨ ((oCm T z p).2.2.1 = 4 ∧ (oCm T z p).2.2.2.1 ≤ 3 ∧ (oCm T z p).2.2.2.2 = 0) ∨
     ((oCm T z p).2.2.1 = 5 ∧ (oCm T z p).2.2.2.1 = 0 ∧ 1 ≤ (oCm T z p).2.2.2.2 ∧ (oCm T z p).2.2.2.2 ≤ 6) ∨ ((oCm T z p).2.2.1 = 5 ∧ (oCm T z p).2.2.2.1 = 1 ∧ 10 ≤ (oCm T z p).2.2.2.2 ∧ (oCm T z p).2.2.2.2 ≤ 150)) := by
  revert h
  unfold oCm
  split
  · intro h
    have k := oNm_at (Nat.zero_le 40) (fun e => by omega) h
    refine ⟨?_, ?_, Or.inl ⟨rfl, k.2.1, k.2.2.1, rfl⟩⟩
    · show _ < (oNm T z 2 40 2 (p + 1) 0).2.1
      omega
    · show (oNm T z 2 40 2 (p + 1) 0).2.1 ≤ _
      have := k.2.2.2 (by omega)
      omega
  · split
    · split
      · intro h
        exact absurd h (by assumption)
      · intro h
        have k0 := oNm_at (T := T) (z := z) (lo := 0) (hi := 3) (n := 1) (p := p + 1) (v := 0) (Nat.zero_le _) (fun e => by omega) (by omega)
        have k := oNm_at (Nat.zero_le 40) (fun e => by omega) h
        refine ⟨?_, ?_, Or.inr (Or.inl ⟨rfl, k0.2.2.1, k.2.2.1⟩)⟩
        · show _ < (oNm T z 0 40 2 (oNm T z 0 3 1 (p + 1) 0).2.1 0).2.1
          omega
        · show (oNm T z 0 40 2 (oNm T z 0 3 1 (p + 1) 0).2.1 0).2.1 ≤ _
          have := k.2.2.2 (by omega)
          omega
    · split
      · split
        · intro h
          exact absurd h (by assumption)
        · intro h
          have k0 := oNm_at (T := T) (z := z) (lo := 0) (hi := 3) (n := 1) (p := p + 1) (v := 0) (Nat.zero_le _) (fun e => by omega) (by omega)
          have k := oNm_at (Nat.zero_le 40) (fun e => by omega) h
          refine ⟨?_, ?_, Or.inr (Or.inr (Or.inl ⟨rfl, k0.2.2.1, k.2.1, k.2.2.1⟩))⟩
          · show _ < (oNm T z 2 40 2 (oNm T z 0 3 1 (p + 1) 0).2.1 0).2.1
            omega
          · show (oNm T z 2 40 2 (oNm T z 0 3 1 (p + 1) 0).2.1 0).2.1 ≤ _
            have := k.2.2.2 (by omega)
            omega
      · split
        · intro h
          have k := oNm_at (Nat.zero_le 3) (fun e => by omega) h
          refine ⟨?_, ?_, Or.inr (Or.inr (Or.inr (Or.inl ⟨rfl, k.2.2.1, rfl⟩)))⟩
          · show _ < (oNm T z 0 3 1 (p + 1) 0).2.1
            omega
          · show (oNm T z 0 3 1 (p + 1) 0).2.1 ≤ _
            have := k.2.2.2 (by omega)
            omega
        · split
          · intro h
            have k := oNm_at (Nat.zero_le 6) (fun e => by omega) h
            refine ⟨?_, ?_, Or.inr (Or.inr (Or.inr (Or.inr (Or.inl ⟨rfl, rfl, k.2.1, k.2.2.1⟩))))⟩
            · show _ < (oNm T z 1 6 1 (p + 1) 0).2.1
              omega
            · show (oNm T z 1 6 1 (p + 1) 0).2.1 ≤ _
              have := k.2.2.2 (by omega)
              omega
          · split
            · intro h
              have k := oNm_at (Nat.zero_le 150) (fun e => by omega) h
              refine ⟨?_, ?_, Or.inr (Or.inr (Or.inr (Or.inr (Or.inr ⟨rfl, rfl, k.2.1, k.2.2.1⟩))))⟩
              · show _ < (oNm T z 10 150 3 (p + 1) 0).2.1
                omega
              · show (oNm T z 10 150 3 (p + 1) 0).2.1 ≤ _
                have := k.2.2.2 (by omega)
                omega
            · intro h
              exact absurd h (by show ¬ ((p : Nat) : Int) = -1; omega)
noncomputable def oScan (T : Nat → Int) (z : Nat) : Nat → Nat → Int
  | 0, _ => -1
  | n + 1, p => if z ≤ p then -1 else @ite _ ((oCm T z p).1 = -1) (Classical.propDecidable _) (oScan T z n (oCm T z p).2.1) (oCm T z p).1
theorem oScan_end {T : Nat → Int} {z n p : Nat} (h : z ≤ p) : oScan T z n p = -1 := by
  cases n with
  | zero => rfl
  | succ n => exact if_pos h
theorem oScan_go {T : Nat → Int} {z n p : Nat} (h : ¬ z ≤ p) (h2 : (oCm T z p).1 = -1) : oScan T z (n + 1) p = oScan T z n (oCm T z p).2.1 := (if_neg h).trans (if_pos h2)
theorem oScan_bad {T : Nat → Int} {z n p : Nat} (h : ¬ z ≤ p) (h2 : ¬ (oCm T z p).1 = -1) : oScan T z (n + 1) p = (oCm T z p).1 := (if_neg h).trans (if_neg h2)
noncomputable def oErr (T : Nat → Int) (z : Nat) : Int := if z = 0 ∨ T 0 ≠ 75 then 0 else oScan T z 120 1
theorem m_nch {x : Int} (h : 0 ≤ x ∧ x < 65536) : narrow .char (.int (oI x)) = .int (oI x) := by
  obtain ⟨n, rfl⟩ := Int.eq_ofNat_of_zero_le h.1
  rw [oI_nat]
  exact (pk_charN (by omega)).1
theorem oNm_dg {T : Nat → Int} {z p : Nat} {d : Int} (hd : oSg T z ((p : Nat) : Int) - 48 = d) : (0 ≤ d → oDg T z p = d) ∧ (d < 0 → oDg T z p < 0) := by
  unfold oDg
  by_cases h : p < z
  · rw [oSg_in ⟨by omega, by omega⟩, show ((p : Nat) : Int).toNat = p from rfl] at hd
    rw [if_pos h, hd]
    exact ⟨fun _ => rfl, id⟩
  · rw [oSg_out (by omega)] at hd
    rw [if_neg h]
    exact ⟨fun _ => by omega, fun _ => by omega⟩
theorem oNm_g {T : Nat → Int} {z lo hi dn i p v u : Nat} {d nx : Int} (hi2 : i < dn) (hu : u = 10 ^ (dn - (i + 1))) (hd : oSg T z ((p : Nat) : Int) - 48 = d) (hnx : (v : Int) + d * (u : Int) = nx) (h0 : 0 ≤ d) (h9 : d ≤ 9) (h1 : nx ≤ (hi : Int)) (h2 : (lo : Int) ≤ nx + (u : Int) - 1) :
    oNm T z lo hi (dn - i) p v = oNm T z lo hi (dn - (i + 1)) (p + 1) nx.toNat := by
  have e := (oNm_dg hd).1 h0
  rw [show dn - i = (dn - (i + 1)) + 1 by omega, oNm_good, e]
  · subst hu
    obtain ⟨k, rfl⟩ := Int.eq_ofNat_of_zero_le h0
    congr 1
    rw [show ((k : Nat) : Int).toNat = k from rfl, ← hnx, ← Int.natCast_mul, ← Int.natCast_add]
    rfl
  · unfold oBad
    rw [e]
    subst hu
    rw [hnx]
    omega
theorem oNm_b {T : Nat → Int} {z lo hi dn i p v u : Nat} {d nx : Int} (hi2 : i < dn) (hu : u = 10 ^ (dn - (i + 1))) (hd : oSg T z ((p : Nat) : Int) - 48 = d) (hnx : (v : Int) + d * (u : Int) = nx) (h : d < 0 ∨ 9 < d ∨ (hi : Int) < nx ∨ nx + (u : Int) - 1 < (lo : Int)) :
    oNm T z lo hi (dn - i) p v = (((p : Nat) : Int), p, v) := by
  rw [show dn - i = (dn - (i + 1)) + 1 by omega, oNm_bad]
  unfold oBad
  by_cases h0 : 0 ≤ d
  · rw [(oNm_dg hd).1 h0]
    subst hu
    rw [hnx]
    rcases h with h | h | h | h
    · exact Or.inl h
    · exact Or.inr (Or.inl h)
    · exact Or.inr (Or.inr (Or.inl h))
    · exact Or.inr (Or.inr (Or.inr h))
  · exact Or.inl ((oNm_dg hd).2 (by omega))
/-! one command's end, letter by letter -/
def oRc (T : Nat → Int) (z p : Nat) (f : Int) (p2 ac x y : Nat) : Prop := (oCm T z p).1 = f ∧ (f = -1 → oCm T z p = (-1, p2, ac, x, y))
theorem oRc_of {T : Nat → Int} {z p : Nat} {f : Int} {p2 ac x y : Nat} (h : oCm T z p = (f, p2, ac, x, y)) : oRc T z p f p2 ac x y := ⟨by rw [h], fun e => by rw [h, e]⟩
theorem oRc_r {T : Nat → Int} {z p : Nat} {f : Int} {p2 v : Nat} (h : T p = 114) (hR : oNm T z 2 40 2 (p + 1) 0 = (f, p2, v)) : oRc T z p f p2 1 v 0 := oRc_of (by unfold oCm; rw [if_pos h, hR])
theorem oRc_m0 {T : Nat → Int} {z p : Nat} {f : Int} {p2 v y : Nat} (h : T p = 109 ∨ T p = 120) (hR : oNm T z 0 3 1 (p + 1) 0 = (f, p2, v)) (hf : ¬ f = -1) : oRc T z p f p2 2 v y := ⟨by unfold oCm; rw [if_neg (by omega), if_pos h, hR, if_pos hf], fun e => absurd e hf⟩
theorem oRc_m1 {T : Nat → Int} {z p : Nat} {f f1 : Int} {p1 p2 v y : Nat} (h : T p = 109 ∨ T p = 120) (hR : oNm T z 0 3 1 (p + 1) 0 = (f1, p1, v)) (hf : f1 = -1) (hQ : oNm T z 0 40 2 p1 0 = (f, p2, y)) : oRc T z p f p2 2 v y := oRc_of (by unfold oCm; rw [if_neg (by omega), if_pos h, hR, if_neg (fun q => q hf), hQ])
theorem oRc_c0 {T : Nat → Int} {z p : Nat} {f : Int} {p2 v y : Nat} (h : T p = 99) (hR : oNm T z 0 3 1 (p + 1) 0 = (f, p2, v)) (hf : ¬ f = -1) : oRc T z p f p2 3 v y := ⟨by unfold oCm; rw [if_neg (by omega), if_neg (by omega), if_pos h, hR, if_pos hf], fun e => absurd e hf⟩
theorem oRc_c1 {T : Nat → Int} {z p : Nat} {f f1 : Int} {p1 p2 v y : Nat} (h : T p = 99) (hR : oNm T z 0 3 1 (p + 1) 0 = (f1, p1, v)) (hf : f1 = -1) (hQ : oNm T z 2 40 2 p1 0 = (f, p2, y)) : oRc T z p f p2 3 v y := oRc_of (by unfold oCm; rw [if_neg (by omega), if_neg (by omega), if_pos h, hR, if_neg (fun q => q hf), hQ])
theorem oRc_t {T : Nat → Int} {z p : Nat} {f : Int} {p2 v : Nat} (h : T p = 116) (hR : oNm T z 0 3 1 (p + 1) 0 = (f, p2, v)) : oRc T z p f p2 4 v 0 := oRc_of (by unfold oCm; rw [if_neg (by omega), if_neg (by omega), if_neg (by omega), if_pos h, hR])
theorem oRc_s {T : Nat → Int} {z p : Nat} {f : Int} {p2 v : Nat} (h : T p = 115) (hR : oNm T z 1 6 1 (p + 1) 0 = (f, p2, v)) : oRc T z p f p2 5 0 v := oRc_of (by unfold oCm; rw [if_neg (by omega), if_neg (by omega), if_neg (by omega), if_neg (by omega), if_pos h, hR])
theorem oRc_g {T : Nat → Int} {z p : Nat} {f : Int} {p2 v : Nat} (h : T p = 103) (hR : oNm T z 10 150 3 (p + 1) 0 = (f, p2, v)) : oRc T z p f p2 5 1 v := oRc_of (by unfold oCm; rw [if_neg (by omega), if_neg (by omega), if_neg (by omega), if_neg (by omega), if_neg (by omega), if_pos h, hR])
theorem oRc_d {T : Nat → Int} {z p p2 ac x y : Nat} (h : T p ≠ 114 ∧ T p ≠ 109 ∧ T p ≠ 120 ∧ T p ≠ 99 ∧ T p ≠ 116 ∧ T p ≠ 115 ∧ T p ≠ 103) : oRc T z p ((p : Nat) : Int) p2 ac x y := ⟨by unfold oCm; rw [if_neg h.1, if_neg (by omega), if_neg h.2.2.2.1, if_neg h.2.2.2.2.1, if_neg h.2.2.2.2.2.1, if_neg h.2.2.2.2.2.2], fun e => by omega⟩
