/-! ===== sets of lengths as four words ===== -/
theorem oR_fix {sp a k : Nat} (h : ∀ t : Nat, oR sp a (k + 1) t → oR sp a k t) : ∀ (m t : Nat), oR sp a m t → oR sp a k t
  | 0, t, q => oR_mono (Nat.zero_le k) q
  | m + 1, t, q => by
    refine h t ?_
    rcases q with q | ⟨q0, d, d1, d2, d3, q⟩
    · exact Or.inl (oR_fix h m t q)
    · refine Or.inr ⟨q0, d, d1, d2, d3, ?_⟩
      rcases q with ⟨q1, q2⟩ | q
      · exact Or.inl ⟨q1, oR_fix h m _ q2⟩
      · exact Or.inr (oR_fix h m _ q)
def oXw (sp k : Nat) (w : Nat → Nat) : Prop := ∀ i : Nat, i < 4 → w i < 2 ^ 64 ∧ ∀ b : Nat, b < 64 → ((w i).testBit b = true ↔ oR sp 0 k (64 * i + b))
def oWd (w : Nat → Nat) (x : Int) : Nat := if 0 ≤ x ∧ x < 4 then w x.toNat else 0
theorem oWd_in {w : Nat → Nat} {x : Int} (h : 0 ≤ x ∧ x < 4) : oWd w x = w x.toNat := if_pos h
theorem oWd_out {w : Nat → Nat} {x : Int} (h : ¬ (0 ≤ x ∧ x < 4)) : oWd w x = 0 := if_neg h
theorem oWd_64 {sp k : Nat} {w : Nat → Nat} (h : oXw sp k w) (x : Int) : oWd w x < 2 ^ 64 := by
  unfold oWd
  split
  · exact (h x.toNat (by omega)).1
  · decide
theorem oWd_tb {sp k : Nat} {w : Nat → Nat} (h : oXw sp k w) {x : Int} (hx : -1 ≤ x) {b : Nat} (hb : b < 64) : (oWd w x).testBit b = true ↔ 0 ≤ x ∧ oR sp 0 k (64 * x.toNat + b) := by
  by_cases e : 0 ≤ x ∧ x < 4
  · rw [oWd_in e, (h x.toNat (by omega)).2 b hb]
    exact ⟨fun q => ⟨e.1, q⟩, fun q => q.2⟩
  · rw [oWd_out e, Nat.zero_testBit]
    refine ⟨fun q => absurd q (by decide), fun q => ?_⟩
    have := oR_le (Nat.zero_le 200) q.2
    omega
theorem oXw_0 (sp : Nat) {w : Nat → Nat} (h : ∀ i : Nat, i < 4 → w i = if i = 0 then 1 else 0) : oXw sp 0 w := by
  intro i hi
  rw [h i hi]
  by_cases e : i = 0
  · rw [if_pos e]
    refine ⟨by decide, fun b hb => ?_⟩
    show _ ↔ 64 * i + b = 0
    rw [show (1 : Nat) = 2 ^ 0 from rfl, Nat.testBit_two_pow, decide_eq_true_iff]
    omega
  · rw [if_neg e]
    refine ⟨by decide, fun b hb => ?_⟩
    show _ ↔ 64 * i + b = 0
    rw [Nat.zero_testBit]
    exact ⟨fun q => absurd q (by decide), fun q => by omega⟩
def oShl (x d : Nat) : Nat := x * 2 ^ d % 2 ^ 64
theorem oShl_lt (x d : Nat) : oShl x d < 2 ^ 64 := Nat.mod_lt _ (Nat.pow_pos (by decide))
theorem oShl_tb (x d b : Nat) : (oShl x d).testBit b = (decide (b < 64) && (decide (d ≤ b) && x.testBit (b - d))) := by
  unfold oShl
  rw [Nat.testBit_mod_two_pow, Nat.mul_comm, Nat.testBit_two_pow_mul]
def oFw (w : Nat → Nat) (d : Nat) (i : Nat) : Nat := oShl (oWd w ((i : Nat) : Int)) d ||| oWd w (((i : Nat) : Int) - 1) / 2 ^ (64 - d)
def oBk (w : Nat → Nat) (d : Nat) (i : Nat) : Nat := oWd w ((i : Nat) : Int) / 2 ^ d ||| oShl (oWd w (((i : Nat) : Int) + 1)) (64 - d)
theorem oDiv_64 {x : Nat} (h : x < 2 ^ 64) (d : Nat) : x / 2 ^ d < 2 ^ 64 := Nat.lt_of_le_of_lt (Nat.div_le_self _ _) h
theorem oFw_64 {sp k : Nat} {w : Nat → Nat} (h : oXw sp k w) (d i : Nat) : oFw w d i < 2 ^ 64 := Nat.or_lt_two_pow (oShl_lt _ _) (oDiv_64 (oWd_64 h _) _)
theorem oBk_64 {sp k : Nat} {w : Nat → Nat} (h : oXw sp k w) (d i : Nat) : oBk w d i < 2 ^ 64 := Nat.or_lt_two_pow (oDiv_64 (oWd_64 h _) _) (oShl_lt _ _)
theorem oFw_tb {sp k : Nat} {w : Nat → Nat} (h : oXw sp k w) {d i b : Nat} (hd : 1 ≤ d ∧ d ≤ 40) (hb : b < 64) (hi : i < 4) : (oFw w d i).testBit b = true ↔ d ≤ 64 * i + b ∧ oR sp 0 k (64 * i + b - d) := by
  unfold oFw
  rw [Nat.testBit_or, oShl_tb, Nat.testBit_div_two_pow, decide_eq_true hb, Bool.true_and, Bool.or_eq_true, Bool.and_eq_true, decide_eq_true_iff]
  constructor
  · rintro (⟨q1, q2⟩ | q)
    · rw [oWd_tb h (by omega) (by omega)] at q2
      refine ⟨by omega, ?_⟩
      rw [show 64 * i + b - d = 64 * ((i : Nat) : Int).toNat + (b - d) by omega]
      exact q2.2
    · by_cases e : 64 - d + b < 64
      · rw [Nat.add_comm b, oWd_tb h (by omega) e] at q
        refine ⟨by omega, ?_⟩
        rw [show 64 * i + b - d = 64 * (((i : Nat) : Int) - 1).toNat + (64 - d + b) by omega]
        exact q.2
      · rw [o_bits_of_lt (oWd_64 h _) (by omega)] at q
        cases q
  · rintro ⟨q1, q2⟩
    by_cases e : d ≤ b
    · left
      refine ⟨e, ?_⟩
      rw [oWd_tb h (by omega) (by omega)]
      refine ⟨by omega, ?_⟩
      rw [show 64 * ((i : Nat) : Int).toNat + (b - d) = 64 * i + b - d by omega]
      exact q2
    · right
      rw [Nat.add_comm b, oWd_tb h (by omega) (by omega)]
      refine ⟨by omega, ?_⟩
      rw [show 64 * (((i : Nat) : Int) - 1).toNat + (64 - d + b) = 64 * i + b - d by omega]
      exact q2
theorem oBk_tb {sp k : Nat} {w : Nat → Nat} (h : oXw sp k w) {d i b : Nat} (hd : 1 ≤ d ∧ d ≤ 40) (hb : b < 64) (hi : i < 4) : (oBk w d i).testBit b = true ↔ oR sp 0 k (64 * i + b + d) := by
  unfold oBk
  rw [Nat.testBit_or, oShl_tb, Nat.testBit_div_two_pow, decide_eq_true hb, Bool.true_and, Bool.or_eq_true, Bool.and_eq_true, decide_eq_true_iff]
  constructor
  · rintro (q | ⟨q1, q2⟩)
    · by_cases e : d + b < 64
      · rw [Nat.add_comm b, oWd_tb h (by omega) e] at q
        rw [show 64 * i + b + d = 64 * ((i : Nat) : Int).toNat + (d + b) by omega]
        exact q.2
      · rw [o_bits_of_lt (oWd_64 h _) (by omega)] at q
        cases q
    · rw [oWd_tb h (by omega) (by omega)] at q2
      rw [show 64 * i + b + d = 64 * (((i : Nat) : Int) + 1).toNat + (b - (64 - d)) by omega]
      exact q2.2
  · intro q
    by_cases e : d + b < 64
    · left
      rw [Nat.add_comm b, oWd_tb h (by omega) e]
      refine ⟨by omega, ?_⟩
      rw [show 64 * ((i : Nat) : Int).toNat + (d + b) = 64 * i + b + d by omega]
      exact q
    · right
      refine ⟨by omega, ?_⟩
      rw [oWd_tb h (by omega) (by omega)]
      refine ⟨by omega, ?_⟩
      rw [show 64 * (((i : Nat) : Int) + 1).toNat + (b - (64 - d)) = 64 * i + b + d by omega]
      exact q
def oGw (sp k d : Nat) (w : Nat → Nat) : Prop := ∀ i : Nat, i < 4 → w i < 2 ^ 64 ∧ ∀ b : Nat, b < 64 → ((w i).testBit b = true ↔ (oR sp 0 k (64 * i + b) ∨ ∃ x : Nat, 1 ≤ x ∧ x < d ∧ x ≤ 40 ∧ sp.testBit x = true ∧ ((x ≤ 64 * i + b ∧ oR sp 0 k (64 * i + b - x)) ∨ oR sp 0 k (64 * i + b + x))))
theorem oGw_1 {sp k : Nat} {w gr : Nat → Nat} (h : oXw sp k w) (hg : ∀ i : Nat, i < 4 → gr i = oWd w ((i : Nat) : Int)) : oGw sp k 1 gr := by
  intro i hi
  rw [hg i hi, oWd_in ⟨by omega, by omega⟩, show ((i : Nat) : Int).toNat = i from rfl]
  refine ⟨(h i hi).1, fun b hb => ?_⟩
  rw [(h i hi).2 b hb]
  exact ⟨Or.inl, fun q => q.elim id (fun ⟨x, x1, x2, _⟩ => by omega)⟩
theorem oGw_no {sp k d : Nat} {gr : Nat → Nat} (h : oGw sp k d gr) (hd : ¬ sp.testBit d = true) : oGw sp k (d + 1) gr := by
  intro i hi
  refine ⟨(h i hi).1, fun b hb => ?_⟩
  rw [(h i hi).2 b hb]
  constructor
  · rintro (q | ⟨x, x1, x2, x3⟩)
    · exact Or.inl q
    · exact Or.inr ⟨x, x1, by omega, x3⟩
  · rintro (q | ⟨x, x1, x2, x3, x4, x5⟩)
    · exact Or.inl q
    · by_cases e : x = d
      · rw [e] at x4
        exact absurd x4 hd
      · exact Or.inr ⟨x, x1, by omega, x3, x4, x5⟩
theorem oGw_yes {sp k d : Nat} {w gr gr2 : Nat → Nat} (hX : oXw sp k w) (h : oGw sp k d gr) (h1 : 1 ≤ d ∧ d ≤ 40) (hd : sp.testBit d = true) (hg : ∀ i : Nat, i < 4 → gr2 i = gr i ||| (oFw w d i ||| oBk w d i)) : oGw sp k (d + 1) gr2 := by
  intro i hi
  rw [hg i hi]
  refine ⟨Nat.or_lt_two_pow (h i hi).1 (Nat.or_lt_two_pow (oFw_64 hX d i) (oBk_64 hX d i)), fun b hb => ?_⟩
  rw [Nat.testBit_or, Nat.testBit_or, Bool.or_eq_true, Bool.or_eq_true, (h i hi).2 b hb, oFw_tb hX h1 hb hi, oBk_tb hX h1 hb hi]
  constructor
  · rintro ((q | ⟨x, x1, x2, x3⟩) | q)
    · exact Or.inl q
    · exact Or.inr ⟨x, x1, by omega, x3⟩
    · exact Or.inr ⟨d, h1.1, by omega, h1.2, hd, q⟩
  · rintro (q | ⟨x, x1, x2, x3, x4, x5⟩)
    · exact Or.inl (Or.inl q)
    · by_cases e : x = d
      · rw [e] at x5
        exact Or.inr x5
      · exact Or.inl (Or.inr ⟨x, x1, by omega, x3, x4, x5⟩)
theorem oXw_next {sp k : Nat} {gr w2 : Nat → Nat} (h : oGw sp k 41 gr) (hw : ∀ i : Nat, i < 4 → w2 i = if i = 3 then gr i &&& 511 else gr i) : oXw sp (k + 1) w2 := by
  have key : ∀ t : Nat, t ≤ 200 → ((oR sp 0 k t ∨ ∃ x : Nat, 1 ≤ x ∧ x < 41 ∧ x ≤ 40 ∧ sp.testBit x = true ∧ ((x ≤ t ∧ oR sp 0 k (t - x)) ∨ oR sp 0 k (t + x))) ↔ oR sp 0 (k + 1) t) := by
    intro t ht
    constructor
    · rintro (q | ⟨x, x1, x2, x3, x4, x5⟩)
      · exact Or.inl q
      · exact Or.inr ⟨ht, x, x1, x3, x4, x5⟩
    · rintro (q | ⟨q0, x, x1, x3, x4, x5⟩)
      · exact Or.inl q
      · exact Or.inr ⟨x, x1, by omega, x3, x4, x5⟩
  intro i hi
  rw [hw i hi]
  by_cases e : i = 3
  · rw [if_pos e]
    refine ⟨Nat.lt_of_le_of_lt Nat.and_le_left (h i hi).1, fun b hb => ?_⟩
    rw [show (511 : Nat) = 2 ^ 9 - 1 from rfl, Nat.testBit_and, Nat.testBit_two_pow_sub_one, Bool.and_eq_true, decide_eq_true_iff, (h i hi).2 b hb]
    by_cases e2 : b < 9
    · rw [key (64 * i + b) (by omega)]
      exact ⟨fun q => q.1, fun q => ⟨q, e2⟩⟩
    · refine ⟨fun q => absurd q.2 e2, fun q => ?_⟩
      have := oR_le (Nat.zero_le 200) q
      omega
  · rw [if_neg e]
    refine ⟨(h i hi).1, fun b hb => ?_⟩
    rw [(h i hi).2 b hb]
    exact key _ (by omega)
theorem oXw_same {sp k m : Nat} {w w2 : Nat → Nat} (h : oXw sp k w) (h2 : oXw sp m w2) (e : ∀ i : Nat, i < 4 → w2 i = w i) (t : Nat) (q : oR sp 0 m t) : oR sp 0 k t := by
  have ht := oR_le (Nat.zero_le 200) q
  have a := (h2 (t / 64) (by omega)).2 (t % 64) (by omega)
  have b := (h (t / 64) (by omega)).2 (t % 64) (by omega)
  rw [e (t / 64) (by omega)] at a
  rw [show 64 * (t / 64) + t % 64 = t by omega] at a b
  exact b.mp (a.mpr q)
theorem oXw_iff {sp k m : Nat} {w : Nat → Nat} (h : oXw sp k w) (e : ∀ t : Nat, oR sp 0 m t ↔ oR sp 0 k t) : oXw sp m w := fun i hi => ⟨(h i hi).1, fun b hb => by rw [(h i hi).2 b hb, e]⟩
theorem oR_none {sp t : Nat} (h : ∀ k : Nat, k < 201 → ¬ oR sp 0 k t) : oDist sp 0 t = -1 := by
  rcases oDist_or sp 0 t with ⟨e, -⟩ | ⟨v, -, q⟩
  · exact e
  · have := oLs_le (Nat.zero_le 200) q
    exact absurd q.1 (h v (by omega))
/-- laid, by at most k layings -/
noncomputable def oLd (sp k t : Nat) : Bool := decide (0 ≤ oDist sp 0 t ∧ oDist sp 0 t ≤ (k : Int))
theorem oLd_iff {sp k t : Nat} : oLd sp k t = true ↔ oR sp 0 k t := by
  unfold oLd
  rw [decide_eq_true_iff]
  exact oR_dist.symm
theorem oLd_0 (sp k : Nat) : oLd sp k 0 = true := oLd_iff.mpr (oR_mono (Nat.zero_le k) rfl)
noncomputable def oGp (sp k t : Nat) : Bool := !oLd sp k t && oLd sp k (t - 1)
noncomputable def oCnt (sp k g : Nat) : Nat := fb_ct (fun i => oLd sp k (i + 1)) g
noncomputable def oGaps (sp k g : Nat) : Nat := fb_ct (fun i => oGp sp k (i + 1)) g
theorem oCnt_le (sp k g : Nat) : oCnt sp k g ≤ g := fb_ct_le _ _
theorem oGaps_le (sp k g : Nat) : oGaps sp k g ≤ g := fb_ct_le _ _
theorem oCnt_y {sp k g : Nat} (h : oLd sp k (g + 1) = true) : oCnt sp k (g + 1) = oCnt sp k g + 1 := by unfold oCnt; rw [fb_ct_succ, if_pos h]
theorem oCnt_n {sp k g : Nat} (h : ¬ oLd sp k (g + 1) = true) : oCnt sp k (g + 1) = oCnt sp k g := by unfold oCnt; rw [fb_ct_succ, if_neg h]; rfl
theorem oGaps_y {sp k g : Nat} (h : oGp sp k (g + 1) = true) : oGaps sp k (g + 1) = oGaps sp k g + 1 := by unfold oGaps; rw [fb_ct_succ, if_pos h]
theorem oGaps_n {sp k g : Nat} (h : ¬ oGp sp k (g + 1) = true) : oGaps sp k (g + 1) = oGaps sp k g := by unfold oGaps; rw [fb_ct_succ, if_neg h]; rfl
/-- where the j-th gap begins; -1 if there is none -/
noncomputable def oGs (sp k g j : Nat) : Int := if fa_first (fun i => oGp sp k (i + 1) && decide (oGaps sp k i = j)) g < g then ((fa_first (fun i => oGp sp k (i + 1) && decide (oGaps sp k i = j)) g + 1 : Nat) : Int) else -1
theorem oGs_at {sp k g j i : Nat} (hi : i < g) (h : oGp sp k (i + 1) = true) (h2 : oGaps sp k i = j) : oGs sp k g j = ((i + 1 : Nat) : Int) := by
  have e : fa_first (fun i => oGp sp k (i + 1) && decide (oGaps sp k i = j)) g = i := by
    refine fa_at hi (by simp [h, h2]) (fun q hq => ?_)
    by_cases z : oGp sp k (q + 1) = true
    · have e1 := oGaps_y z
      have e2 : oGaps sp k (q + 1) ≤ oGaps sp k i := fb_ct_mono _ (by omega)
      have : ¬ oGaps sp k q = j := by omega
      simp [this]
    · simp [z]
  unfold oGs
  rw [e, if_pos hi]
theorem oGs_no {sp k g j : Nat} (h : oGaps sp k g ≤ j) : oGs sp k g j = -1 := by
  have e : fa_first (fun i => oGp sp k (i + 1) && decide (oGaps sp k i = j)) g = g := by
    refine fa_none (fun q hq => ?_)
    by_cases z : oGp sp k (q + 1) = true
    · have e1 := oGaps_y z
      have e2 : oGaps sp k (q + 1) ≤ oGaps sp k g := fb_ct_mono _ (by omega)
      have : ¬ oGaps sp k q = j := by omega
      simp [this]
    · simp [z]
  unfold oGs
  rw [e, if_neg (Nat.lt_irrefl _)]
/-- how long the gap is that begins at s -/
noncomputable def oGl (sp k g s : Nat) : Nat := fa_first (fun i => oLd sp k (s + i)) (g + 1 - s)
section OROWS3
variable {p : Program} {l : Launch} {e : Env} {R : Room} {s : State} {m : MethodId} {args : Array Value} {below : List Frame} {meth : Method} {c : Code} {H : Heap} {locs : List Loc} {cells slots : Nat} {Q : State → Prop}
variable {pc : Nat} {ls : Array Slot} {rest : List Value}
theorem m_topM {a : Nat} (t : Nat) (h : a % 2 ^ 64 = t) (k : W p l e R s m args below meth c H locs cells slots Q (F0 m pc ls (.long (lN t) :: rest))) : W p l e R s m args below meth c H locs cells slots Q (F0 m pc ls (.long (lN a) :: rest)) := by
  subst h
  rw [wb_mod a]
  exact k
end OROWS3
def oTk (gr : Nat → Nat) (q : Nat) : Nat := if q = 3 then gr q &&& 511 else gr q
theorem oTk_64 {gr : Nat → Nat} (h : ∀ i : Nat, i < 4 → gr i < 2 ^ 64) {q : Nat} (hq : q < 4) : oTk gr q < 2 ^ 64 := by
  unfold oTk
  split
  · exact Nat.lt_of_le_of_lt Nat.and_le_left (h q hq)
  · exact h q hq
/-- one word taken over -/
theorem oTk_s {w w2 gr : Nat → Nat} {i v : Nat} (hv : v = oTk gr i) (h : ∀ q : Nat, q < 4 → w2 q = if q < i then oTk gr q else w q) : ∀ q : Nat, q < 4 → va_up w2 i v q = if q < i + 1 then oTk gr q else w q := by
  intro q hq
  by_cases e : q = i
  · rw [e, va_up_s, if_pos (by omega), hv]
  · rw [va_up_n _ _ e, h q hq]
    by_cases e2 : q < i
    · rw [if_pos e2, if_pos (by omega)]
    · rw [if_neg e2, if_neg (by omega)]
theorem oTk_k {w w2 gr : Nat → Nat} {i v : Nat} (hi : i < 4) (hv : v = w2 i) (h : ∀ q : Nat, q < 4 → w2 q = if q < i then oTk gr q else w q) (hk : ∀ q : Nat, q < i → w2 q = w q) : ∀ q : Nat, q < i + 1 → va_up w2 i v q = w q := by
  intro q hq
  by_cases e : q = i
  · rw [e, va_up_s, hv, h i hi, if_neg (Nat.lt_irrefl _)]
  · rw [va_up_n _ _ e]
    exact hk q (by omega)
theorem oMv_s {w gr gr2 : Nat → Nat} {d i v : Nat} (hi : i < 4) (hv : v = gr2 i ||| (oFw w d i ||| oBk w d i)) (h : ∀ q : Nat, q < 4 → gr2 q = if q < i then gr q ||| (oFw w d q ||| oBk w d q) else gr q) : ∀ q : Nat, q < 4 → va_up gr2 i v q = if q < i + 1 then gr q ||| (oFw w d q ||| oBk w d q) else gr q := by
  intro q hq
  by_cases e : q = i
  · rw [e, va_up_s, if_pos (by omega), hv, h i hi, if_neg (Nat.lt_irrefl _)]
  · rw [va_up_n _ _ e, h q hq]
    by_cases e2 : q < i
    · rw [if_pos e2, if_pos (by omega)]
    · rw [if_neg e2, if_neg (by omega)]
theorem oLd_w {sp k : Nat} {w : Nat → Nat} (h : oXw sp k w) {x : Nat} (hx : x ≤ 200) : (oWd w (((x : Nat) : Int) / 64)).testBit (((x : Nat) : Int) % 64).toNat = true ↔ oLd sp k x = true := by
  rw [oWd_tb h (by omega) (by omega), oLd_iff, show 64 * (((x : Nat) : Int) / 64).toNat + (((x : Nat) : Int) % 64).toNat = x by omega]
  exact ⟨fun q => q.2, fun q => ⟨by omega, q⟩⟩
theorem oGp_iff {sp k i : Nat} : oGp sp k (i + 1) = true ↔ ¬ oLd sp k (i + 1) = true ∧ oLd sp k i = true := by
  unfold oGp
  rw [Nat.add_sub_cancel]
  cases oLd sp k (i + 1) <;> cases oLd sp k i <;> simp
theorem oGl_at {sp k g s j : Nat} (hj : j < g + 1 - s) (h : oLd sp k (s + j) = true) (h2 : ∀ q : Nat, q < j → ¬ oLd sp k (s + q) = true) : oGl sp k g s = j := fa_at hj h (fun q hq => Bool.eq_false_iff.mpr (h2 q hq))
theorem oGl_no {sp k g s j : Nat} (hj : g + 1 - s = j) (h2 : ∀ q : Nat, q < j → ¬ oLd sp k (s + q) = true) : oGl sp k g s = j := by
  subst hj
  exact fa_none (fun q hq => Bool.eq_false_iff.mpr (h2 q hq))
