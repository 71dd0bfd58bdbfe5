/-! ===== the walk's loops ===== -/
def oBG (sp a i ld : Nat) (S Ln : Nat → Int) : Prop := oBq sp a ld S Ln ∧ (∀ q : Nat, q < i → oSeen sp 41 S Ln q) ∧ (i < ld → ∀ q : Nat, q < ld → S (Ln q).toNat ≤ S (Ln i).toNat + 1)
def oBJ (sp a i d ld : Nat) (S Ln : Nat → Int) : Prop := oBq sp a ld S Ln ∧ i < ld ∧ (∀ q : Nat, q < i → oSeen sp 41 S Ln q) ∧ oSeen sp d S Ln i ∧ (∀ q : Nat, q < ld → S (Ln q).toNat ≤ S (Ln i).toNat + 1)
theorem oBG_end {sp a i ld : Nat} {S Ln : Nat → Int} (h : oBG sp a i ld S Ln) (hi : ld ≤ i) {t : Nat} (ht : t ≤ 200) : S t = oDist sp a t := by
  obtain ⟨⟨k1, k2, k3, k4, k5, k6, k7⟩, hs, -⟩ := h
  have cl : ∀ (k u : Nat), u ≤ 200 → oR sp a k u → S u ≠ -1 ∧ S u ≤ (k : Int) := by
    intro k
    induction k with
    | zero =>
      intro u hu h
      rw [show u = a from h, k3]
      omega
    | succ k ih =>
      intro u hu h
      rcases h with h | ⟨-, d, d1, d2, d3, h⟩
      · have := ih u hu h
        exact ⟨this.1, by omega⟩
      · have step : ∀ x : Nat, x ≤ 200 → oR sp a k x → ((u : Int) = (x : Int) + (d : Int) ∨ (u : Int) = (x : Int) - (d : Int)) → S u ≠ -1 ∧ S u ≤ ((k + 1 : Nat) : Int) := by
          intro x hx hr hux
          have b := ih x hx hr
          obtain ⟨q, q1, q2⟩ := k4 x hx b.1
          have c := hs q (by omega) d u d1 (by omega) d2 d3 hu (by rw [q2]; exact hux)
          rw [q2, show ((x : Nat) : Int).toNat = x from rfl] at c
          exact ⟨c.1, by omega⟩
        have ha : a ≤ 200 := by
          obtain ⟨z, z1, z2, -⟩ := k5 0 (by omega)
          rw [k2] at z2
          omega
        rcases h with ⟨h1, h2⟩ | h
        · exact step (u - d) (by omega) h2 (by omega)
        · exact step (u + d) (oR_le ha h) h (by omega)
  by_cases e : S t = -1
  · rw [e]
    exact (oDist_no (fun k hk => (cl k t ht hk).1 e)).symm
  · obtain ⟨q, q1, q2⟩ := k4 t ht e
    obtain ⟨u, u1, u2, u3, u4, u5⟩ := k5 q q1
    have eu : u = t := by rw [u2] at q2; omega
    subst eu
    rw [oDist_at (v := (S u).toNat) ⟨u5, fun k hk hr => by have := (cl k u ht hr).2; omega⟩]
    omega
theorem oBG_start {sp a : Nat} {S Ln : Nat → Int} (ha : a ≤ 200) (hS : ∀ t : Nat, t ≤ 200 → S t = -1) : oBG sp a 0 1 (va_up S a 0) (va_up Ln 0 (a : Int)) := by
  have e0 : va_up Ln 0 ((a : Nat) : Int) 0 = (a : Int) := va_up_s _ _ _
  refine ⟨⟨Nat.le_refl 1, e0, va_up_s _ _ _, ?_, ?_, ?_, ?_⟩, fun q h => absurd h (Nat.not_lt_zero _), ?_⟩
  · intro t ht h
    by_cases e : t = a
    · exact ⟨0, by omega, by rw [e0, e]⟩
    · rw [va_up_n _ _ e, hS t ht] at h
      exact absurd rfl h
  · intro q hq
    rw [show q = 0 by omega]
    refine ⟨a, ha, e0, ?_⟩
    rw [va_up_s]
    exact ⟨Int.le_refl _, by omega, rfl⟩
  · intro q q2 hq hq2 _
    omega
  · intro q q2 hq hq2
    rw [show q = 0 by omega, show q2 = 0 by omega]
    exact Int.le_refl _
  · intro _ q hq
    rw [show q = 0 by omega]
    omega
theorem oBG_in {sp a i ld : Nat} {S Ln : Nat → Int} (h : oBG sp a i ld S Ln) (hi : i < ld) : oBJ sp a i 1 ld S Ln := ⟨h.1, hi, h.2.1, fun x t h1 h2 => by omega, h.2.2 hi⟩
theorem oBJ_no {sp a i d ld : Nat} {S Ln : Nat → Int} (h : oBJ sp a i d ld S Ln) (hd : ¬ sp.testBit d = true) : oBJ sp a i (d + 1) ld S Ln := by
  refine ⟨h.1, h.2.1, h.2.2.1, fun x t h1 h2 h3 h4 h5 h6 => ?_, h.2.2.2.2⟩
  by_cases e : x = d
  · rw [e] at h4
    exact absurd h4 hd
  · exact h.2.2.2.1 x t h1 (by omega) h3 h4 h5 h6
theorem oBJ_end {sp a i ld : Nat} {S Ln : Nat → Int} (h : oBJ sp a i 41 ld S Ln) : oBG sp a (i + 1) ld S Ln := by
  refine ⟨h.1, fun q hq => ?_, fun hi q hq => ?_⟩
  · by_cases e : q = i
    · rw [e]
      exact h.2.2.2.1
    · exact h.2.2.1 q (by omega)
  · have a1 := h.2.2.2.2 q hq
    have a2 := h.1.2.2.2.2.2.2 i (i + 1) (by omega) hi
    omega
def oVis (S Ln : Nat → Int) (ld : Nat) (x z : Int) (S2 Ln2 : Nat → Int) (ld2 : Nat) : Prop :=
  (0 ≤ x ∧ x ≤ 200 ∧ S x.toNat = -1 ∧ S2 = va_up S x.toNat z ∧ Ln2 = va_up Ln ld x ∧ ld2 = ld + 1) ∨ (¬ (0 ≤ x ∧ x ≤ 200 ∧ S x.toNat = -1) ∧ S2 = S ∧ Ln2 = Ln ∧ ld2 = ld)
theorem oBJ_b {sp a i d ld : Nat} {S Ln : Nat → Int} (h : oBJ sp a i d ld S Ln) : 0 ≤ Ln i ∧ Ln i ≤ 200 ∧ 0 ≤ S (Ln i).toNat ∧ S (Ln i).toNat ≤ 200 ∧ ld ≤ 201 := by
  have hl := oBq_ld h.1
  obtain ⟨t, t1, t2, t3, t4, -⟩ := h.1.2.2.2.2.1 i h.2.1
  have := h.2.1
  rw [t2, show ((t : Nat) : Int).toNat = t from rfl]
  omega
theorem oBJ_cap {sp a i d ld : Nat} {S Ln : Nat → Int} (h : oBJ sp a i d ld S Ln) (h1 : 1 ≤ d ∧ d ≤ 40) (hd : sp.testBit d = true) {x : Int} (hx : x = Ln i + (d : Int) ∨ x = Ln i - (d : Int)) (g0 : 0 ≤ x) (g1 : x ≤ 200) (g2 : S x.toNat = -1) : ld < 201 := by
  have p := (oBq_push h.1 h.2.1 h.2.2.2.2 (t := x.toNat) (x := d) (by omega) g2 h1 hd (by omega)).1
  have := oBq_ld p
  omega
theorem oBJ_vis {sp a i d ld : Nat} {S Ln : Nat → Int} (h : oBJ sp a i d ld S Ln) (h1 : 1 ≤ d ∧ d ≤ 40) (hd : sp.testBit d = true) {x z : Int} (hx : x = Ln i + (d : Int) ∨ x = Ln i - (d : Int)) (hz : z = S (Ln i).toNat + 1) {S2 Ln2 : Nat → Int} {ld2 : Nat} (hv : oVis S Ln ld x z S2 Ln2 ld2) :
    oBJ sp a i d ld2 S2 Ln2 ∧ Ln2 i = Ln i ∧ S2 (Ln i).toNat = S (Ln i).toNat ∧ (∀ t : Nat, t ≤ 200 → (t : Int) = x → S2 t ≠ -1 ∧ S2 t ≤ S2 (Ln2 i).toNat + 1) ∧ (∀ t : Nat, S t ≠ -1 → S2 t = S t) := by
  have hb := oBJ_b h
  rcases hv with ⟨g0, g1, g2, rfl, rfl, rfl⟩ | ⟨g, rfl, rfl, rfl⟩
  · obtain ⟨t, rfl⟩ := Int.eq_ofNat_of_zero_le g0
    have et : ((t : Nat) : Int).toNat = t := rfl
    rw [et] at g2 ⊢
    subst hz
    have p := oBq_push h.1 h.2.1 h.2.2.2.2 (t := t) (x := d) (by omega) g2 h1 hd hx
    have ld1 : i ≠ ld := by have := h.2.1; omega
    have eL : va_up Ln ld ((t : Nat) : Int) i = Ln i := va_up_n _ _ ld1
    have ne : (Ln i).toNat ≠ t := fun e => by rw [e] at hb; omega
    have eS : va_up S t (S (Ln i).toNat + 1) (Ln i).toNat = S (Ln i).toNat := va_up_n _ _ ne
    have neq : ∀ q : Nat, q < ld → Ln q ≠ (t : Int) ∧ 0 ≤ Ln q := by
      intro q hq
      obtain ⟨u, u1, u2, u3, -⟩ := h.1.2.2.2.2.1 q hq
      rw [u2]
      refine ⟨fun e => ?_, by omega⟩
      have : u = t := by omega
      rw [this] at u3
      omega
    refine ⟨⟨p.1, by have := h.2.1; omega, fun q hq => oSeen_push (by have := h.2.1; omega) g2 (neq q (by have := h.2.1; omega)) (h.2.2.1 q hq), oSeen_push h.2.1 g2 (neq i h.2.1) h.2.2.2.1, ?_⟩, eL, eS, ?_, ?_⟩
    · intro q hq
      rw [eL, eS]
      exact p.2 q hq
    · intro u hu e
      have : u = t := by omega
      rw [this, va_up_s, eL, eS]
      omega
    · intro u hu
      exact va_up_n _ _ (fun e => hu (by rw [e]; exact g2))
  · refine ⟨h, rfl, rfl, fun t ht e => ?_, fun _ _ => rfl⟩
    have g3 : S2 t ≠ -1 := fun z => g ⟨by omega, by omega, by rw [← e, show ((t : Nat) : Int).toNat = t from rfl]; exact z⟩
    obtain ⟨q, q1, q2⟩ := h.1.2.2.2.1 t ht g3
    have := h.2.2.2.2 q q1
    rw [q2, show ((t : Nat) : Int).toNat = t from rfl] at this
    exact ⟨g3, this⟩
theorem oBJ_yes {sp a i d ld : Nat} {S Ln : Nat → Int} (h : oBJ sp a i d ld S Ln) (h1 : 1 ≤ d ∧ d ≤ 40) (hd : sp.testBit d = true) {fr nx : Int} (hfr : Ln i = fr) (hnx : nx = S fr.toNat + 1) {S2 Ln2 S3 Ln3 : Nat → Int} {ld2 ld3 : Nat} (hv : oVis S Ln ld (fr + (d : Int)) nx S2 Ln2 ld2) (hv2 : oVis S2 Ln2 ld2 (fr - (d : Int)) nx S3 Ln3 ld3) :
    oBJ sp a i (d + 1) ld3 S3 Ln3 ∧ Ln3 i = fr ∧ S3 fr.toNat + 1 = nx := by
  subst hfr
  obtain ⟨a1, a2, a3, a4, a5⟩ := oBJ_vis h h1 hd (Or.inl rfl) hnx hv
  have hnx2 : nx = S2 (Ln2 i).toNat + 1 := by rw [a2, a3]; exact hnx
  obtain ⟨b1, b2, b3, b4, b5⟩ := oBJ_vis a1 h1 hd (Or.inr (by rw [a2])) hnx2 hv2
  refine ⟨⟨b1.1, b1.2.1, b1.2.2.1, fun x t g1 g2 g3 g4 g5 g6 => ?_, b1.2.2.2.2⟩, by rw [b2, a2], by rw [a2] at b3; rw [b3, a3, hnx]⟩
  by_cases e : x = d
  · rw [e] at g6
    rcases g6 with g | g
    · have c := a4 t g5 (by rw [g, b2, a2])
      have c2 := b5 t c.1
      rw [c2]
      refine ⟨c.1, ?_⟩
      rw [b2, b3]
      exact c.2
    · exact b4 t g5 (by rw [g, b2, a2])
  · exact b1.2.2.2.1 x t g1 (by omega) g3 g4 g5 g6
def oSt (S : Nat → Int) (x : Int) : Int := if 0 ≤ x ∧ x ≤ 200 then S x.toNat else -1
theorem oSt_in {S : Nat → Int} {x : Int} (h : 0 ≤ x ∧ x ≤ 200) : oSt S x = S x.toNat := if_pos h
theorem oSt_out {S : Nat → Int} {x : Int} (h : ¬ (0 ≤ x ∧ x ≤ 200)) : oSt S x = -1 := if_neg h
theorem oBJ_cap2 {sp a i d ld : Nat} {S Ln : Nat → Int} (h : oBJ sp a i d ld S Ln) (h1 : 1 ≤ d ∧ d ≤ 40) (hd : sp.testBit d = true) {fr nx x1 x2 : Int} (hfr : Ln i = fr) (hnx : nx = S fr.toNat + 1) (e1 : x1 = fr + (d : Int)) (e2 : x2 = fr - (d : Int)) {S2 Ln2 : Nat → Int} {ld2 : Nat} (hv : oVis S Ln ld x1 nx S2 Ln2 ld2) : 0 ≤ x2 → x2 ≤ 200 → S2 x2.toNat = -1 → ld2 < 201 := by
  subst hfr
  subst e1
  intro g0 g1 g2
  obtain ⟨a1, a2, -⟩ := oBJ_vis h h1 hd (Or.inl rfl) hnx hv
  exact oBJ_cap a1 h1 hd (x := x2) (Or.inr (by rw [a2]; exact e2)) g0 g1 g2
theorem oBJ_yes2 {sp a i d ld : Nat} {S Ln : Nat → Int} (h : oBJ sp a i d ld S Ln) (h1 : 1 ≤ d ∧ d ≤ 40) (hd : sp.testBit d = true) {fr nx x1 x2 : Int} (hfr : Ln i = fr) (hnx : nx = S fr.toNat + 1) (e1 : x1 = fr + (d : Int)) (e2 : x2 = fr - (d : Int)) {S2 Ln2 S3 Ln3 : Nat → Int} {ld2 ld3 : Nat} (hv : oVis S Ln ld x1 nx S2 Ln2 ld2) (hv2 : oVis S2 Ln2 ld2 x2 nx S3 Ln3 ld3) :
    oBJ sp a i (d + 1) ld3 S3 Ln3 ∧ Ln3 i = fr ∧ S3 fr.toNat + 1 = nx := by
  subst e1
  subst e2
  exact oBJ_yes h h1 hd hfr hnx hv hv2
theorem oVis_start {a sp ld : Nat} {S0 Ln0 S1 L1 : Nat → Int} (ha : a ≤ 200) (h : oVis (fun q => if q < 201 then -1 else S0 q) Ln0 0 ((a : Nat) : Int) 0 S1 L1 ld) : oBG sp a 0 ld S1 L1 := by
  rcases h with ⟨_, _, _, e1, e2, e3⟩ | ⟨g, _⟩
  · rw [e1, e2, e3]
    exact oBG_start ha (fun t ht => if_pos (by omega))
  · exact absurd ⟨by omega, by omega, if_pos (show a < 201 by omega)⟩ g
theorem oBq_b {sp a ld : Nat} {S Ln : Nat → Int} (h : oBq sp a ld S Ln) : ∀ t : Nat, t ≤ 200 → -2147483648 ≤ S t ∧ S t < 2147483648 := by
  intro t ht
  have hl := oBq_ld h
  by_cases e : S t = -1
  · omega
  · obtain ⟨q, q1, q2⟩ := h.2.2.2.1 t ht e
    obtain ⟨u, u1, u2, u3, u4, -⟩ := h.2.2.2.2.1 q q1
    have : u = t := by omega
    subst this
    omega
