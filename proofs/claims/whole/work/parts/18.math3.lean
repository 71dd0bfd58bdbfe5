/-! ===== drawers: more things than places ===== -/
theorem fb_holes : ∀ (m n : Nat) (f : Nat → Nat), (∀ i, i < n → f i < m) → (∀ i j, i < j → j < n → f i ≠ f j) → n ≤ m := by
  intro m
  induction m with
  | zero =>
    intro n f h1 _
    rcases Nat.eq_zero_or_pos n with h | h
    · omega
    · exact absurd (h1 0 h) (Nat.not_lt_zero _)
  | succ m ih =>
    intro n f h1 h2
    by_cases hx : ∃ i, i < n ∧ f i = m
    · obtain ⟨a, ha, hfa⟩ := hx
      have hg := ih (n - 1) (fun i => if i < a then f i else f (i + 1)) (by
        intro i hi
        by_cases q : i < a
        · simp only [if_pos q]
          have b1 := h1 i (by omega)
          have b2 := h2 i a q ha
          omega
        · simp only [if_neg q]
          have b1 := h1 (i + 1) (by omega)
          have b2 := h2 a (i + 1) (by omega) (by omega)
          omega) (by
        intro i j hij hj
        by_cases q : i < a
        · by_cases r : j < a
          · simp only [if_pos q, if_pos r]
            exact h2 i j hij (by omega)
          · simp only [if_pos q, if_neg r]
            exact h2 i (j + 1) (by omega) (by omega)
        · have r : ¬ j < a := by omega
          simp only [if_neg q, if_neg r]
          exact h2 (i + 1) (j + 1) (by omega) (by omega))
      omega
    · have hg := ih n f (fun i hi => by
        have b1 := h1 i hi
        have b2 : f i ≠ m := fun e => hx ⟨i, hi, e⟩
        omega) h2
      omega
/-- two of them in one place -/
theorem fb_twice {m n : Nat} {f : Nat → Nat} (h : ∀ i, i < n → f i < m) (hm : m < n) : ∃ i j, i < j ∧ j < n ∧ f i = f j := by
  refine Classical.byContradiction fun hx => ?_
  have := fb_holes m n f h (fun i j hij hj e => hx ⟨i, j, hij, hj, e⟩)
  omega
/-- as many as places, none twice: each place is taken -/
theorem fb_onto {n : Nat} {f : Nat → Nat} (h : ∀ i, i < n → f i < n) (h2 : ∀ i j, i < j → j < n → f i ≠ f j) {y : Nat} (hy : y < n) : ∃ i, i < n ∧ f i = y := by
  refine Classical.byContradiction fun hx => ?_
  have hne : ∀ i, i < n → f i ≠ y := fun i hi e => hx ⟨i, hi, e⟩
  have := fb_holes (n - 1) n (fun i => if f i < y then f i else f i - 1) (by
    intro i hi
    have b1 := h i hi
    have b2 := hne i hi
    by_cases q : f i < y
    · simp only [if_pos q]; omega
    · simp only [if_neg q]; omega) (by
    intro i j hij hj
    have b1 := hne i (by omega)
    have b2 := hne j hj
    have b3 := h2 i j hij hj
    by_cases q : f i < y
    · by_cases r : f j < y
      · simp only [if_pos q, if_pos r]; exact b3
      · simp only [if_pos q, if_neg r]; omega
    · by_cases r : f j < y
      · simp only [if_neg q, if_pos r]; omega
      · simp only [if_neg q, if_neg r]; omega)
  omega
/-! ===== lengths that layings lead to: after at most k of them from a ===== -/
def oR (sp a : Nat) : Nat → Nat → Prop
  | 0, t => t = a
  | k + 1, t => oR sp a k t ∨ (t ≤ 200 ∧ ∃ d : Nat, 1 ≤ d ∧ d ≤ 40 ∧ sp.testBit d = true ∧ ((d ≤ t ∧ oR sp a k (t - d)) ∨ oR sp a k (t + d)))
theorem oR_le {sp a : Nat} (ha : a ≤ 200) : ∀ {k t : Nat}, oR sp a k t → t ≤ 200
  | 0, t, h => by rw [show t = a from h]; exact ha
  | k + 1, t, h => h.elim (fun q => oR_le ha q) (fun q => q.1)
theorem oR_mono {sp a : Nat} {k : Nat} : ∀ {m t : Nat}, k ≤ m → oR sp a k t → oR sp a m t := by
  intro m t h
  induction h with
  | refl => exact id
  | step _ ih => exact fun q => Or.inl (ih q)
def oLs (sp a v t : Nat) : Prop := oR sp a v t ∧ ∀ k : Nat, k < v → ¬ oR sp a k t
noncomputable def oDist (sp a t : Nat) : Int := @dite Int (∃ k, oR sp a k t) (Classical.propDecidable _) (fun h => ((Classical.choose (pk_least (fun k => oR sp a k t) h) : Nat) : Int)) (fun _ => -1)
theorem oDist_or (sp a t : Nat) : (oDist sp a t = -1 ∧ ∀ k, ¬ oR sp a k t) ∨ ∃ v : Nat, oDist sp a t = (v : Int) ∧ oLs sp a v t := by
  unfold oDist
  by_cases h : ∃ k, oR sp a k t
  · right
    refine ⟨Classical.choose (pk_least (fun k => oR sp a k t) h), ?_, Classical.choose_spec (pk_least (fun k => oR sp a k t) h)⟩
    rw [dif_pos h]
  · left
    rw [dif_neg h]
    exact ⟨rfl, fun k hk => h ⟨k, hk⟩⟩
theorem oLs_one {sp a v v2 t : Nat} (h : oLs sp a v t) (h2 : oLs sp a v2 t) : v = v2 := by
  rcases Nat.lt_trichotomy v v2 with q | q | q
  · exact absurd h.1 (h2.2 v q)
  · exact q
  · exact absurd h2.1 (h.2 v2 q)
theorem oDist_at {sp a v t : Nat} (h : oLs sp a v t) : oDist sp a t = (v : Int) := by
  rcases oDist_or sp a t with ⟨-, q⟩ | ⟨v2, e, q⟩
  · exact absurd h.1 (q v)
  · rw [e, oLs_one h q]
theorem oDist_no {sp a t : Nat} (h : ∀ k, ¬ oR sp a k t) : oDist sp a t = -1 := by
  rcases oDist_or sp a t with ⟨q, -⟩ | ⟨v2, -, q⟩
  · exact q
  · exact absurd q.1 (h v2)
theorem oR_dist {sp a k t : Nat} : oR sp a k t ↔ 0 ≤ oDist sp a t ∧ oDist sp a t ≤ (k : Int) := by
  rcases oDist_or sp a t with ⟨e, q⟩ | ⟨v, e, q⟩
  · rw [e]
    exact ⟨fun h => absurd h (q k), fun h => by omega⟩
  · rw [e]
    constructor
    · intro h
      refine ⟨by omega, ?_⟩
      rcases Nat.lt_or_ge k v with z | z
      · exact absurd h (q.2 k z)
      · omega
    · intro h
      exact oR_mono (by omega) q.1
/-- below a length at v layings there is one at v - 1 -/
theorem oLs_down {sp a v t : Nat} (h : oLs sp a (v + 1) t) : ∃ u d : Nat, oLs sp a v u ∧ 1 ≤ d ∧ d ≤ 40 ∧ sp.testBit d = true ∧ (t = u + d ∨ u = t + d) := by
  obtain ⟨h1, h2⟩ := h
  rcases h1 with q | ⟨hl, d, d1, d2, d3, q⟩
  · exact absurd q (h2 v (Nat.lt_succ_self v))
  · have key : ∀ u : Nat, oR sp a v u → (t = u + d ∨ u = t + d) → oLs sp a v u := by
      intro u hu htu
      refine ⟨hu, fun k hk hku => ?_⟩
      refine h2 (k + 1) (by omega) (Or.inr ⟨hl, d, d1, d2, d3, ?_⟩)
      rcases htu with e | e
      · left
        refine ⟨by omega, ?_⟩
        rw [show t - d = u by omega]
        exact hku
      · right
        rw [← e]
        exact hku
    rcases q with ⟨q1, q2⟩ | q
    · exact ⟨t - d, d, key _ q2 (Or.inl (by omega)), d1, d2, d3, Or.inl (by omega)⟩
    · exact ⟨t + d, d, key _ q (Or.inr rfl), d1, d2, d3, Or.inr rfl⟩
theorem oLs_all {sp a : Nat} : ∀ (v t : Nat), oLs sp a v t → ∀ m : Nat, m ≤ v → ∃ u, oLs sp a m u
  | 0, t, h, m, hm => ⟨t, by rw [show m = 0 by omega]; exact h⟩
  | v + 1, t, h, m, hm => by
    by_cases e : m = v + 1
    · exact ⟨t, by rw [e]; exact h⟩
    · obtain ⟨u, d, hu, -⟩ := oLs_down h
      exact oLs_all v u hu m (by omega)
theorem oLs_le {sp a v t : Nat} (ha : a ≤ 200) (h : oLs sp a v t) : v ≤ 200 := by
  have hc := oLs_all v t h
  have hf : ∀ i, i < v + 1 → (fun i => if h : i ≤ v then Classical.choose (hc i h) else 0) i < 201 := by
    intro i hi
    have hi2 : i ≤ v := by omega
    simp only [dif_pos hi2]
    have := oR_le ha (Classical.choose_spec (hc i hi2)).1
    omega
  have := fb_holes 201 (v + 1) _ hf (fun i j hij hj e => by
    have hi2 : i ≤ v := by omega
    have hj2 : j ≤ v := by omega
    simp only [dif_pos hi2, dif_pos hj2] at e
    have a1 := Classical.choose_spec (hc i hi2)
    have a2 := Classical.choose_spec (hc j hj2)
    rw [e] at a1
    have := oLs_one a1 a2
    omega)
  omega
theorem oDist_b {sp a : Nat} (ha : a ≤ 200) (t : Nat) : -1 ≤ oDist sp a t ∧ oDist sp a t ≤ 200 := by
  rcases oDist_or sp a t with ⟨e, -⟩ | ⟨v, e, q⟩
  · rw [e]; omega
  · have := oLs_le ha q
    rw [e]; omega
theorem oDist_self (sp a : Nat) : oDist sp a a = 0 := oDist_at ⟨rfl, fun k h => absurd h (Nat.not_lt_zero k)⟩
/-! the walk length by length -/
def oBq (sp a ld : Nat) (S Ln : Nat → Int) : Prop :=
  1 ≤ ld ∧ Ln 0 = (a : Int) ∧ S a = 0 ∧ (∀ t : Nat, t ≤ 200 → S t ≠ -1 → ∃ q : Nat, q < ld ∧ Ln q = (t : Int)) ∧ (∀ q : Nat, q < ld → ∃ t : Nat, t ≤ 200 ∧ Ln q = (t : Int) ∧ 0 ≤ S t ∧ S t ≤ (q : Int) ∧ oR sp a (S t).toNat t) ∧
  (∀ q q2 : Nat, q < ld → q2 < ld → Ln q = Ln q2 → q = q2) ∧ (∀ q q2 : Nat, q ≤ q2 → q2 < ld → S (Ln q).toNat ≤ S (Ln q2).toNat)
/-- the lengths next to the q-th, by spans below d, have been seen -/
def oSeen (sp d : Nat) (S Ln : Nat → Int) (q : Nat) : Prop := ∀ x t : Nat, 1 ≤ x → x < d → x ≤ 40 → sp.testBit x = true → t ≤ 200 → ((t : Int) = Ln q + (x : Int) ∨ (t : Int) = Ln q - (x : Int)) → S t ≠ -1 ∧ S t ≤ S (Ln q).toNat + 1
def oBI (sp a i ld : Nat) (S Ln : Nat → Int) : Prop := oBq sp a ld S Ln ∧ (∀ q : Nat, q < i → oSeen sp 41 S Ln q)
theorem oBq_ld {sp a ld : Nat} {S Ln : Nat → Int} (h : oBq sp a ld S Ln) : ld ≤ 201 := by
  refine fb_holes 201 ld (fun q => (Ln q).toNat) (fun q hq => ?_) (fun q q2 hq hq2 e => ?_)
  · obtain ⟨t, h1, h2, -⟩ := h.2.2.2.2.1 q hq
    show (Ln q).toNat < 201
    rw [h2]
    omega
  · obtain ⟨t, h1, h2, -⟩ := h.2.2.2.2.1 q (by omega)
    obtain ⟨t2, h3, h4, -⟩ := h.2.2.2.2.1 q2 hq2
    have e2 : (Ln q).toNat = (Ln q2).toNat := e
    have := h.2.2.2.2.2.1 q q2 (by omega) hq2 (by rw [h2, h4] at e2 ⊢; omega)
    omega
/-- one more: a length t that was not seen, next to the i-th -/
theorem oBq_push {sp a ld i : Nat} {S Ln : Nat → Int} (h : oBq sp a ld S Ln) (hi : i < ld) (hlev : ∀ q : Nat, q < ld → S (Ln q).toNat ≤ S (Ln i).toNat + 1) {t x : Nat} (ht : t ≤ 200) (hS : S t = -1) (hx : 1 ≤ x ∧ x ≤ 40) (hsp : sp.testBit x = true) (htx : (t : Int) = Ln i + (x : Int) ∨ (t : Int) = Ln i - (x : Int)) :
    oBq sp a (ld + 1) (va_up S t (S (Ln i).toNat + 1)) (va_up Ln ld (t : Int)) ∧ (∀ q : Nat, q < ld + 1 → (va_up S t (S (Ln i).toNat + 1)) ((va_up Ln ld (t : Int)) q).toNat ≤ S (Ln i).toNat + 1) := by
  obtain ⟨k1, k2, k3, k4, k5, k6, k7⟩ := h
  have hta : t ≠ a := fun e => by rw [e, k3] at hS; omega
  have old : ∀ q : Nat, q < ld → ∃ u : Nat, u ≤ 200 ∧ Ln q = (u : Int) ∧ u ≠ t ∧ 0 ≤ S u ∧ S u ≤ (q : Int) ∧ oR sp a (S u).toNat u := by
    intro q hq
    obtain ⟨u, u1, u2, u3, u4, u5⟩ := k5 q hq
    exact ⟨u, u1, u2, fun e => by rw [e] at u3; omega, u3, u4, u5⟩
  have valS : ∀ q : Nat, q < ld → (va_up S t (S (Ln i).toNat + 1)) ((va_up Ln ld (t : Int)) q).toNat = S (Ln q).toNat := by
    intro q hq
    obtain ⟨u, u1, u2, u3, -⟩ := old q hq
    rw [va_up_n Ln _ (show q ≠ ld by omega), u2, show ((u : Nat) : Int).toNat = u from rfl, va_up_n S _ u3]
  have newS : (va_up S t (S (Ln i).toNat + 1)) ((va_up Ln ld (t : Int)) ld).toNat = S (Ln i).toNat + 1 := by
    rw [va_up_s, show ((t : Nat) : Int).toNat = t from rfl, va_up_s]
  obtain ⟨ui, i1, i2, i3, i4, i5, i6⟩ := old i hi
  have eui : (Ln i).toNat = ui := by rw [i2]; rfl
  refine ⟨⟨by omega, ?_, ?_, ?_, ?_, ?_, ?_⟩, ?_⟩
  · rw [va_up_n _ _ (by omega)]; exact k2
  · rw [va_up_n _ _ (fun e => hta e.symm)]; exact k3
  · intro u hu hne
    by_cases e : u = t
    · exact ⟨ld, by omega, by rw [va_up_s, e]⟩
    · rw [va_up_n _ _ e] at hne
      obtain ⟨q, q1, q2⟩ := k4 u hu hne
      exact ⟨q, by omega, by rw [va_up_n _ _ (by omega)]; exact q2⟩
  · intro q hq
    by_cases e : q = ld
    · subst e
      refine ⟨t, ht, va_up_s _ _ _, ?_⟩
      rw [va_up_s, eui]
      refine ⟨by omega, by omega, ?_⟩
      rw [show (S ui + 1).toNat = (S ui).toNat + 1 by omega]
      refine Or.inr ⟨ht, x, hx.1, hx.2, hsp, ?_⟩
      rw [i2] at htx
      rcases htx with z | z
      · left
        refine ⟨by omega, ?_⟩
        rw [show t - x = ui by omega]
        exact i6
      · right
        rw [show t + x = ui by omega]
        exact i6
    · obtain ⟨u, u1, u2, u3, u4, u5, u6⟩ := old q (by omega)
      exact ⟨u, u1, by rw [va_up_n _ _ e]; exact u2, by rw [va_up_n _ _ u3]; exact ⟨u4, u5, u6⟩⟩
  · intro q q2 hq hq2 e
    have key : ∀ q : Nat, q < ld → Ln q ≠ (t : Int) := by
      intro q hq z
      obtain ⟨u, -, u2, u3, -⟩ := old q hq
      rw [u2] at z
      omega
    by_cases e1 : q = ld <;> by_cases e2 : q2 = ld
    · omega
    · rw [e1, va_up_s, va_up_n _ _ e2] at e
      exact absurd e.symm (key q2 (by omega))
    · rw [e2, va_up_s, va_up_n _ _ e1] at e
      exact absurd e (key q (by omega))
    · rw [va_up_n _ _ e1, va_up_n _ _ e2] at e
      exact k6 q q2 (by omega) (by omega) e
  · intro q q2 hq hq2
    by_cases e2 : q2 = ld
    · subst e2
      rw [newS]
      by_cases e1 : q = q2
      · rw [e1, newS]; exact Int.le_refl _
      · rw [valS q (by omega)]
        exact hlev q (by omega)
    · rw [valS q2 (by omega), valS q (by omega)]
      exact k7 q q2 hq (by omega)
  · intro q hq
    by_cases e : q = ld
    · rw [e, newS]; exact Int.le_refl _
    · rw [valS q (by omega)]
      exact hlev q (by omega)
/-- what was seen stays seen -/
theorem oSeen_push {sp d ld q t : Nat} {S Ln : Nat → Int} {z : Int} (hq : q < ld) (hS : S t = -1) (hqt : Ln q ≠ (t : Int) ∧ 0 ≤ Ln q) (h : oSeen sp d S Ln q) : oSeen sp d (va_up S t z) (va_up Ln ld (t : Int)) q := by
  intro x u h1 h2 h3 h4 h5 h6
  rw [va_up_n Ln _ (show q ≠ ld by omega)] at h6 ⊢
  obtain ⟨a1, a2⟩ := h x u h1 h2 h3 h4 h5 h6
  have e : u ≠ t := fun e => a1 (by rw [e]; exact hS)
  have e2 : (Ln q).toNat ≠ t := by omega
  rw [va_up_n S _ e, va_up_n S _ e2]
  exact ⟨a1, a2⟩
