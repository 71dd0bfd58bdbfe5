theorem oBt_end {w p s : Nat} (hw : w < 2 ^ (s + 1)) (hs : s ≤ 40) : oBt w p (s + 1) = oUp w p := by
  have h := fb_ct_past (f := fun i => decide (p < i) && w.testBit i) (a := s + 1) (fun k hk => by
    rw [Nat.testBit_lt_two_pow (Nat.lt_of_lt_of_le hw (Nat.pow_le_pow_right (by decide) hk))]; exact Bool.and_false _) (64 - (s + 1))
  rw [show s + 1 + (64 - (s + 1)) = 64 by omega] at h
  exact h.symm
theorem oRk_bz {w p s : Nat} (hw : w < 2 ^ (s + 1)) (hs : s ≤ 40) : oRk w (p + 1) = oRk w p + bz w p * oBt w p (s + 1) := by
  rw [oBt_end hw hs]
  by_cases h : w.testBit p = true
  · rw [oRk_y h, bz_1.mpr h, Nat.one_mul]
  · rw [oRk_n h, bz_0.mpr (Bool.eq_false_iff.mpr h), Nat.zero_mul]; rfl
theorem oRk_end {w s : Nat} (hw : w < 2 ^ (s + 1)) (hs : s ≤ 40) : oRk w (s + 1) = oSp (pcnt w) := by
  have h1 := oRk_sum (w := w) (s + 1) (by omega)
  have h2 : oUe w (s + 1) = 0 := by
    unfold oUe
    refine fb_ct_zero.mpr (fun k _ => ?_)
    by_cases h : s + 1 ≤ k
    · rw [Nat.testBit_lt_two_pow (Nat.lt_of_lt_of_le hw (Nat.pow_le_pow_right (by decide) h))]; exact Bool.and_false _
    · rw [decide_eq_false h]; rfl
  rw [h2, show oSp 0 = 0 from rfl] at h1
  exact h1
theorem oBz_st {w p q : Nat} (h : p < q) : bz w p * oBt w p (q + 1) = bz w p * oBt w p q + bz w p * bz w q := by
  rw [oBt_s, Nat.mul_add]
  by_cases b : w.testBit q = true
  · rw [if_pos ⟨h, b⟩, bz_1.mpr b]
  · rw [if_neg (fun z => b z.2), bz_0.mpr (Bool.eq_false_iff.mpr b)]
theorem oBz_s0 {w p : Nat} : 0 = bz w p * oBt w p (p + 1) := by rw [oBt_0]; rfl
theorem oBz_11 {w p q : Nat} (h : bz w p * bz w q = 1) : w.testBit p = true ∧ w.testBit q = true := by
  have h1 := bz_le w p
  have h2 := bz_le w q
  have : bz w p = 1 := by rcases Nat.eq_zero_or_pos (bz w p) with e | e; (rw [e] at h; omega); omega
  rw [this] at h
  exact ⟨bz_1.mp this, bz_1.mp (by omega)⟩
theorem oBz_n1 {w p q : Nat} (h : ¬ ((bz w p * bz w q : Nat) : Int) = 1) : bz w p * bz w q = 0 := by
  have h1 : bz w p * bz w q ≤ 1 := Nat.mul_le_mul (bz_le w p) (bz_le w q)
  omega
theorem oSpr_tb2 {w d : Nat} (h1 : 1 ≤ d) (hne : w &&& w / 2 ^ d ≠ 0) : ∀ K : Nat, d < K → (oSpr w K).testBit d = true
  | 0, h => absurd h (Nat.not_lt_zero _)
  | K + 1, h => by
    by_cases e : d = K
    · subst e
      rw [oSpr_y h1 hne, Nat.testBit_or, Nat.testBit_two_pow, decide_eq_true rfl, Bool.or_true]
    · have ih := oSpr_tb2 h1 hne K (by omega)
      by_cases hk : K = 0 ∨ w &&& w / 2 ^ K = 0
      · rw [show oSpr w (K + 1) = oSpr w K from if_pos hk]; exact ih
      · rw [show oSpr w (K + 1) = oSpr w K ||| 2 ^ K from if_neg hk, Nat.testBit_or, ih]; rfl
theorem oOrW_tb2 {n : Nat} {w : Nat → Nat} {left : Int} {d r : Nat} (hr : ((r : Nat) : Int) ≠ left) (h : (oSpr (oRow n w ((r : Nat) : Int)) 41).testBit d = true) : ∀ K : Nat, r < K → (oOrW n w left K).testBit d = true
  | 0, k => absurd k (Nat.not_lt_zero _)
  | K + 1, k => by
    by_cases e : r = K
    · subst e
      rw [oOrW_y hr, Nat.testBit_or, h, Bool.or_true]
    · have ih := oOrW_tb2 hr h K (by omega)
      by_cases hk : ((K : Nat) : Int) = left
      · rw [oOrW_n hk]; exact ih
      · rw [oOrW_y hk, Nat.testBit_or, ih]; rfl
theorem oPa_pos {w d : Nat} (hw : w < 2 ^ 41) : 0 < oPa w d ↔ w &&& w / 2 ^ d ≠ 0 := by
  refine ⟨fun h q => ?_, fun h => ?_⟩
  · unfold oPa at h
    rw [q] at h
    exact absurd h (by decide)
  · rcases Nat.eq_zero_or_pos (oPa w d) with e | e
    · exact absurd (pcnt_0 (Nat.lt_of_le_of_lt Nat.and_le_left (Nat.lt_of_lt_of_le hw (by decide))) e) h
    · exact e
theorem oAllP_ex {n d : Nat} {w : Nat → Nat} : ∀ K : Nat, 0 < oAllP n w d K → ∃ r : Nat, r < K ∧ 0 < oPa (oRow n w ((r : Nat) : Int)) d
  | 0, h => absurd h (Nat.not_lt_zero _)
  | K + 1, h => by
    rw [oAllP_s] at h
    by_cases e : 0 < oAllP n w d K
    · obtain ⟨r, h1, h2⟩ := oAllP_ex K e
      exact ⟨r, by omega, h2⟩
    · exact ⟨K, Nat.lt_succ_self _, by omega⟩
theorem oAllP_in {n d r : Nat} {w : Nat → Nat} (h : 0 < oPa (oRow n w ((r : Nat) : Int)) d) : ∀ K : Nat, r < K → 0 < oAllP n w d K
  | 0, k => absurd k (Nat.not_lt_zero _)
  | K + 1, k => by
    rw [oAllP_s]
    by_cases e : r = K
    · subst e; omega
    · have := oAllP_in h K (by omega)
      omega
theorem oAllP_bit {n k : Nat} {sz w : Nat → Nat} (hwf : oWf n sz w) (h1 : 1 ≤ k) : 0 < oAllP n w k n ↔ (oOrW n w (-1) 4).testBit k = true := by
  have hn := hwf.1
  refine ⟨fun h => ?_, fun h => ?_⟩
  · obtain ⟨r, hr, hp⟩ := oAllP_ex n h
    have hne := (oPa_pos (oRow_lt hwf _)).mp hp
    have hk : k < 41 := Classical.byContradiction (fun q => hne (by
      rw [Nat.div_eq_of_lt (Nat.lt_of_lt_of_le (oRow_lt hwf _) (Nat.pow_le_pow_right (by decide) (by omega))), Nat.and_zero]))
    exact oOrW_tb2 (by omega) (oSpr_tb2 h1 hne 41 hk) 4 (by omega)
  · obtain ⟨r, hr4, _, hr⟩ := oOrW_tb 4 h
    obtain ⟨_, hne⟩ := oSpr_tb 41 hr
    have hrn : r < n := Classical.byContradiction (fun q => hne (by rw [oRow_out (by omega), Nat.zero_and]))
    exact oAllP_in ((oPa_pos (oRow_lt hwf _)).mpr hne) n hrn
def oSq (s : Nat → Nat) (sp : Nat) : Prop := (∀ k : Nat, 1 ≤ k → k ≤ 40 → (0 < s k ↔ sp.testBit k = true)) ∧ s 0 = 0 ∧ ∀ k : Nat, k ≤ 40 → s k ≤ 1000
theorem oAllP_le256 {n d : Nat} {w : Nat → Nat} (hn : n ≤ 4) : oAllP n w d n ≤ 256 := Nat.le_trans (oAllP_le n w d n) (by omega)
theorem oSq_of {n : Nat} {sz w s : Nat → Nat} (hwf : oWf n sz w) (h : ∀ d : Nat, 1 ≤ d → d ≤ 40 → s d = oAllP n w d n) (h0 : s 0 = 0) : oSq s (oOrW n w (-1) 4) := by
  refine ⟨fun k h1 h2 => by rw [h k h1 h2]; exact oAllP_bit hwf h1, h0, fun k hk => ?_⟩
  rcases Nat.eq_zero_or_pos k with e | e
  · rw [e, h0]; omega
  · rw [h k e hk]
    have := oAllP_le256 (d := k) (w := w) hwf.1
    omega
theorem oGc_y {w k : Nat} (h : w.testBit (k + 1) = true) : oGc w (k + 1) = Nat.gcd (oGc w k) (k + 1) := if_pos h
theorem oGc_n {w k : Nat} (h : ¬ w.testBit (k + 1) = true) : oGc w (k + 1) = oGc w k := if_neg h
theorem oGcd_s (d x : Nat) : Nat.gcd x (d % x) = Nat.gcd d x := by rw [Nat.gcd_comm d x, Nat.gcd_rec x d, Nat.gcd_comm]
/-! the walk of the reference: from -40 to 40 -/
def oBK (sp a i : Nat) (b : Int) (ld : Nat) (S Ln : Nat → Int) : Prop := oBq sp a ld S Ln ∧ i < ld ∧ (∀ q : Nat, q < i → oSeen sp 41 S Ln q) ∧ (∀ (y : Int) (t : Nat), -40 ≤ y → y < b → y ≤ 40 → y ≠ 0 → sp.testBit y.natAbs = true → t ≤ 200 → (t : Int) = Ln i + y → S t ≠ -1 ∧ S t ≤ S (Ln i).toNat + 1) ∧ (∀ q : Nat, q < ld → S (Ln q).toNat ≤ S (Ln i).toNat + 1)
theorem oBK_in {sp a i ld : Nat} {S Ln : Nat → Int} (h : oBG sp a i ld S Ln) (hi : i < ld) : oBK sp a i (-40) ld S Ln := ⟨h.1, hi, h.2.1, fun y t h1 h2 => by omega, h.2.2 hi⟩
theorem oBK_end {sp a i ld : Nat} {S Ln : Nat → Int} (h : oBK sp a i 41 ld S Ln) : oBG sp a (i + 1) ld S Ln := by
  refine oBJ_end ⟨h.1, h.2.1, h.2.2.1, fun x t h1 h2 h3 h4 h5 h6 => ?_, h.2.2.2.2⟩
  rcases h6 with h6 | h6
  · exact h.2.2.2.1 (x : Int) t (by omega) (by omega) (by omega) (by omega) (by rw [Int.natAbs_natCast]; exact h4) h5 h6
  · exact h.2.2.2.1 (-(x : Int)) t (by omega) (by omega) (by omega) (by omega) (by rw [Int.natAbs_neg, Int.natAbs_natCast]; exact h4) h5 (by omega)
theorem oBK_b {sp a i ld : Nat} {b : Int} {S Ln : Nat → Int} (h : oBK sp a i b ld S Ln) : 0 ≤ Ln i ∧ Ln i ≤ 200 ∧ 0 ≤ S (Ln i).toNat ∧ S (Ln i).toNat ≤ 200 ∧ ld ≤ 201 := oBJ_b (d := 1) ⟨h.1, h.2.1, h.2.2.1, fun x t h1 h2 => by omega, h.2.2.2.2⟩
theorem oBK_no {sp a i ld : Nat} {b : Int} {S Ln : Nat → Int} (h : oBK sp a i b ld S Ln) (hn : b ≠ 0 → sp.testBit b.natAbs = true → 0 ≤ Ln i + b → Ln i + b ≤ 200 → S (Ln i + b).toNat ≠ -1) : oBK sp a i (b + 1) ld S Ln := by
  refine ⟨h.1, h.2.1, h.2.2.1, fun y t h1 h2 h3 h4 h5 h6 h7 => ?_, h.2.2.2.2⟩
  by_cases e : y = b
  · subst e
    have hs := hn h4 h5 (by omega) (by omega)
    rw [show (Ln i + y).toNat = t by omega] at hs
    refine ⟨hs, ?_⟩
    obtain ⟨q, q1, q2⟩ := h.1.2.2.2.1 t h6 hs
    have := h.2.2.2.2 q q1
    rw [q2, show ((t : Nat) : Int).toNat = t from rfl] at this
    exact this
  · exact h.2.2.2.1 y t h1 (by omega) h3 h4 h5 h6 h7
theorem oBK_yes {sp a i ld : Nat} {b fr nx : Int} {S Ln : Nat → Int} (h : oBK sp a i b ld S Ln) (hb : -40 ≤ b ∧ b ≤ 40) (hb0 : b ≠ 0) (hsp : sp.testBit b.natAbs = true) (hfr : Ln i = fr) (hnx : S fr.toNat = nx) (g0 : 0 ≤ fr + b) (g1 : fr + b ≤ 200) (hS : S (fr + b).toNat = -1) :
    (oBK sp a i (b + 1) (ld + 1) (va_up S (fr + b).toNat (nx + 1)) (va_up Ln ld (fr + b)) ∧ va_up Ln ld (fr + b) i = fr ∧ va_up S (fr + b).toNat (nx + 1) fr.toNat = nx) ∧ ld < 201 := by
  obtain ⟨t, ht⟩ : ∃ t : Nat, fr + b = (t : Int) := ⟨(fr + b).toNat, by omega⟩
  have ett : (fr + b).toNat = t := by omega
  rw [ett] at hS ⊢
  rw [ht]
  have hi := h.2.1
  obtain ⟨p1, p2⟩ := oBq_push h.1 hi h.2.2.2.2 (t := t) (x := b.natAbs) (by omega) hS ⟨by omega, by omega⟩ hsp (by rw [hfr]; omega)
  rw [hfr, hnx] at p1 p2
  have hld := oBq_ld p1
  have old : ∀ q : Nat, q < ld → Ln q ≠ (t : Int) ∧ 0 ≤ Ln q := by
    intro q hq
    obtain ⟨u, u1, u2, u3, _⟩ := h.1.2.2.2.2.1 q hq
    rw [u2]
    refine ⟨fun e => ?_, by omega⟩
    rw [show u = t by omega, hS] at u3
    omega
  have oi := old i hi
  rw [hfr] at oi
  have e1 : va_up Ln ld ((t : Nat) : Int) i = fr := by rw [va_up_n _ _ (by omega)]; exact hfr
  have e2 : va_up S t (nx + 1) fr.toNat = nx := by rw [va_up_n _ _ (by omega)]; exact hnx
  refine ⟨⟨⟨p1, by omega, fun q hq => oSeen_push (by omega) hS (old q (by omega)) (h.2.2.1 q hq), fun y z h1 h2 h3 h4 h5 h6 h7 => ?_, ?_⟩, e1, e2⟩, by omega⟩
  · rw [e1] at h7 ⊢
    rw [e2]
    by_cases e : z = t
    · subst e
      rw [va_up_s]
      have hnn : 0 ≤ nx := by have := (oBK_b h).2.2.1; rw [hfr, hnx] at this; exact this
      omega
    · rw [va_up_n _ _ e]
      have := h.2.2.2.1 y z h1 (by omega) h3 h4 h5 h6 (by rw [hfr]; exact h7)
      rw [hfr, hnx] at this
      exact this
  · intro q hq
    rw [e1, e2]
    exact p2 q hq
set_option maxHeartbeats 4000000 in
set_option maxRecDepth 100000 in
theorem c6_lowOf {l : Launch} {D : va_G} {cT : Nat → ClassId} {N b0 : Nat} {ad : Nat → Nat} (hA : oAd b0 N ad) {σ : Nat → va_E} (j n a g : Nat) (f : Nat → Int) (sz w : Nat → Nat) (r k : Nat) (hj : j < N) (hwf : oWf n sz w) (hp : oRS f n a g sz w) (hr : r < n) (hk31 : k ≤ 2147483647) (hk : oEq2 (k < oSp (pcnt (w r)))) (ef : σ (j) = oAI cT 171 f) :
    oCi l D cT N ad b0 yX6_lowOf cX6_lowOf 7 (some .int) 1 21 [.ref (ad (j)), .int (oI (((r : Nat) : Int))), .int (oI (((k : Nat) : Int)))] σ (fun rr uu => rr = oI (((oLow (w r) k : Nat) : Int)) ∧ uu = σ) := by
  refine m_start (cc := cX6_lowOf) (by decide) (Nat.le_of_ble_eq_true rfl) rfl ?_
  intro Pp Ee Ss Mm Bb Me Cc Ar ls hx hb hml hown hlk hrt hts hK hH hl
  have hown : Ss.vm.findClass RX6 = some Mm.cls := hown
  have hn := hwf.1
  have hsz : ∀ r : Nat, r < n → 2 ≤ sz r ∧ sz r ≤ 40 := fun r h => ⟨(hwf.2 r h).1, (hwf.2 r h).2.1⟩
  have hs9 := hsz r hr
  have hwr := (hwf.2 r hr).2.2.1
  have hl : lv_has ls 7 [(0, .ref (ad (j))), (1, .int (oI (((r : Nat) : Int)))), (2, .int (oI (((k : Nat) : Int))))] := hl
  refine lv_iload_n hx hb dX6_lowOf_0 rfl (lv_at hl 2 rfl) ?_
  refine lv_istore_n (lv' := [(3, .int (oI (((k : Nat) : Int)))), (0, .ref (ad (j))), (1, .int (oI (((r : Nat) : Int)))), (2, .int (oI (((k : Nat) : Int))))]) hx hb dX6_lowOf_1 rfl hl (by decide) rfl (fun ls hl => ?_)
  refine m_iconst 0 hx hb dX6_lowOf_2 rfl ?_
  refine lv_istore (lv' := [(4, .int (oI (0))), (3, .int (oI (((k : Nat) : Int)))), (0, .ref (ad (j))), (1, .int (oI (((r : Nat) : Int)))), (2, .int (oI (((k : Nat) : Int))))]) hx hb dX6_lowOf_3 hl (by decide) rfl (fun ls hl => ?_)
  have L5 : ∀ (fu : Nat) (le : Nat) (p : Nat), (43 - p < fu) → (p ≤ sz r + 1) → (le + oRk (w r) p = k) → ∀ (H : Heap) (locs : List Loc), oH b0 D N ad Ss.heap σ H locs → ∀ ls : Array Slot, lv_has ls 7 [(0, .ref (ad (j))), (1, .int (oI (((r : Nat) : Int)))), (3, .int (oI (((le : Nat) : Int)))), (4, .int (oI (((p : Nat) : Int))))] → W Pp l Ee { frames := 1, cells := 0, slots := 0, locals := 21 } Ss Mm Ar Bb Me Cc H locs 0 0 (MQ Bb (va_Qi (fun rr uu => rr = oI (((oLow (w r) k : Nat) : Int)) ∧ uu = σ) (oV D N ad) (fun q => b0 ≤ q)) Ar Ss 0 0 (fun q => b0 ≤ q)) (F0 Mm 5 ls []) := by
    intro fu5
    induction fu5 with
    | zero =>
      intro le p hm5
      exact absurd hm5 (Nat.not_lt_zero _)
    | succ fu5 ih5 =>
      intro le p hm5 hpp hc H locs hH ls hl
      refine lv_iload hx hb dX6_lowOf_5 (lv_at hl 3 rfl) ?_
      refine lv_aload_n hx hb dX6_lowOf_7 rfl (lv_at hl 0 rfl) ?_
      refine lv_iload_n hx hb dX6_lowOf_8 rfl (lv_at hl 1 rfl) ?_
      refine m_pSi hx hb hml hown hts hK hH hl (rest := [.int (oI (((p : Nat) : Int)))]) cw_X6_54 rfl (c6_length hA j n a g f sz w r (by first | assumption | omega) (by first | assumption | omega) (by first | assumption | omega) (by first | assumption | omega) ef) ⟨Nat.le_of_ble_eq_true rfl, Nat.le_of_ble_eq_true rfl⟩ ⟨Nat.le_of_ble_eq_true rfl, Nat.le_of_ble_eq_true rfl⟩ rfl rfl (Nat.le_of_ble_eq_true rfl) dX6_lowOf_9 (fun H locs hH => ?_)
      refine m_icmp_gt 82 hx hb dX6_lowOf_12 (by decide) (by omega) (by omega) (fun h_1 => ?_) (fun h_1 => ?_)
      · exact absurd (show k < oSp (pcnt (w r)) from hk) (by rw [← oRk_end hwr hs9.2, ← show p = sz r + 1 by omega]; omega)
      · refine m_iconst 0 hx hb dX6_lowOf_15 rfl ?_
        refine lv_istore (lv' := [(5, .int (oI (0))), (0, .ref (ad (j))), (1, .int (oI (((r : Nat) : Int)))), (3, .int (oI (((le : Nat) : Int)))), (4, .int (oI (((p : Nat) : Int))))]) hx hb dX6_lowOf_16 hl (by decide) rfl (fun ls hl => ?_)
        refine lv_iload hx hb dX6_lowOf_18 (lv_at hl 4 rfl) ?_
        refine m_iconst 1 hx hb dX6_lowOf_20 rfl ?_
        refine m_iadd (((p : Nat) : Int) + 1) hx hb dX6_lowOf_21 (by omega) ?_
        refine lv_istore (lv' := [(6, .int (oI (((p : Nat) : Int) + 1))), (5, .int (oI (0))), (0, .ref (ad (j))), (1, .int (oI (((r : Nat) : Int)))), (3, .int (oI (((le : Nat) : Int)))), (4, .int (oI (((p : Nat) : Int))))]) hx hb dX6_lowOf_22 hl (by decide) rfl (fun ls hl => ?_)
        have L24 : ∀ (fu : Nat) (ab : Nat) (q : Nat), (43 - q < fu) → (p < q ∧ q ≤ sz r + 1) → (ab = bz (w r) p * oBt (w r) p q) → (ab ≤ q) → ∀ (H : Heap) (locs : List Loc), oH b0 D N ad Ss.heap σ H locs → ∀ ls : Array Slot, lv_has ls 7 [(0, .ref (ad (j))), (1, .int (oI (((r : Nat) : Int)))), (3, .int (oI (((le : Nat) : Int)))), (4, .int (oI (((p : Nat) : Int)))), (5, .int (oI (((ab : Nat) : Int)))), (6, .int (oI (((q : Nat) : Int))))] → W Pp l Ee { frames := 1, cells := 0, slots := 0, locals := 21 } Ss Mm Ar Bb Me Cc H locs 0 0 (MQ Bb (va_Qi (fun rr uu => rr = oI (((oLow (w r) k : Nat) : Int)) ∧ uu = σ) (oV D N ad) (fun q => b0 ≤ q)) Ar Ss 0 0 (fun q => b0 ≤ q)) (F0 Mm 24 ls []) := by
          intro fu24
          induction fu24 with
          | zero =>
            intro ab q hm24
            exact absurd hm24 (Nat.not_lt_zero _)
          | succ fu24 ih24 =>
            intro ab q hm24 hq hab hab2 H locs hH ls hl
            refine lv_iload hx hb dX6_lowOf_24 (lv_at hl 5 rfl) ?_
            refine lv_aload_n hx hb dX6_lowOf_26 rfl (lv_at hl 0 rfl) ?_
            refine lv_iload_n hx hb dX6_lowOf_27 rfl (lv_at hl 1 rfl) ?_
            refine m_pSi hx hb hml hown hts hK hH hl (rest := [.int (oI (((q : Nat) : Int)))]) cw_X6_54 rfl (c6_length hA j n a g f sz w r (by first | assumption | omega) (by first | assumption | omega) (by first | assumption | omega) (by first | assumption | omega) ef) ⟨Nat.le_of_ble_eq_true rfl, Nat.le_of_ble_eq_true rfl⟩ ⟨Nat.le_of_ble_eq_true rfl, Nat.le_of_ble_eq_true rfl⟩ rfl rfl (Nat.le_of_ble_eq_true rfl) dX6_lowOf_28 (fun H locs hH => ?_)
            refine m_icmp_gt 62 hx hb dX6_lowOf_31 (by decide) (by omega) (by omega) (fun h_2 => ?_) (fun h_2 => ?_)
            · refine lv_iload_n hx hb dX6_lowOf_62 rfl (lv_at hl 2 rfl) ?_
              refine lv_iload hx hb dX6_lowOf_63 (lv_at hl 4 rfl) ?_
              refine m_icmp_ge 71 hx hb dX6_lowOf_65 (by decide) (by omega) (by omega) (fun h_3 => ?_) (fun h_3 => ?_)
              · refine lv_iload_n hx hb dX6_lowOf_71 rfl (lv_at hl 2 rfl) ?_
                refine lv_iload hx hb dX6_lowOf_72 (lv_at hl 4 rfl) ?_
                refine m_isub (-((ab : Nat) : Int) + ((le : Nat) : Int)) hx hb dX6_lowOf_74 (by omega) ?_
                refine m_topI (((le - ab : Nat) : Int)) (by omega) ?_
                refine lv_istore_n (lv' := [(3, .int (oI (((le - ab : Nat) : Int)))), (0, .ref (ad (j))), (1, .int (oI (((r : Nat) : Int)))), (4, .int (oI (((p : Nat) : Int)))), (5, .int (oI (((ab : Nat) : Int)))), (6, .int (oI (((q : Nat) : Int))))]) hx hb dX6_lowOf_75 rfl hl (by decide) rfl (fun ls hl => ?_)
                refine m_iinc (((p : Nat) : Int) + 1) [(4, .int (oI (((p : Nat) : Int) + 1))), (3, .int (oI (((le - ab : Nat) : Int)))), (0, .ref (ad (j))), (1, .int (oI (((r : Nat) : Int)))), (5, .int (oI (((ab : Nat) : Int)))), (6, .int (oI (((q : Nat) : Int))))] hx hb dX6_lowOf_76 hl (j := 3) rfl (by omega) (by decide) rfl (fun ls hl => ?_)
                refine lv_goto (tgt := 5) hx hb dX6_lowOf_79 (by decide) ?_
                exact ih5 (le - ab) (p + 1) (by omega) (by first | assumption | omega) (by rw [oRk_bz hwr hs9.2, ← show q = sz r + 1 by omega, ← hab]; omega) _ _ hH ls (lv_sub hl [2, 3, 1, 0] rfl)
              · refine lv_iload hx hb dX6_lowOf_68 (lv_at hl 3 rfl) ?_
                exact m_iret hx hb hlk hrt hH (m_ni _) dX6_lowOf_70 ⟨congrArg oI (by rw [oLow_at (w := w r) (k := k) (p := p) (by omega) (by omega) (by rw [oRk_bz hwr hs9.2, ← show q = sz r + 1 by omega, ← hab]; omega)]), rfl⟩
            · refine lv_iload hx hb dX6_lowOf_34 (lv_at hl 4 rfl) ?_
              refine lv_aload_n hx hb dX6_lowOf_36 rfl (lv_at hl 0 rfl) ?_
              refine lv_iload_n hx hb dX6_lowOf_37 rfl (lv_at hl 1 rfl) ?_
              refine lv_iload hx hb dX6_lowOf_38 (lv_at hl 3 rfl) ?_
              refine m_pSi hx hb hml hown hts hK hH hl (rest := [.ref (ad (j)), .int (oI (((ab : Nat) : Int)))]) cw_X6_64 rfl (c6_at hA r p (by first | assumption | omega) (by first | assumption | omega) ) ⟨Nat.le_of_ble_eq_true rfl, Nat.le_of_ble_eq_true rfl⟩ ⟨Nat.le_of_ble_eq_true rfl, Nat.le_of_ble_eq_true rfl⟩ rfl rfl (Nat.le_of_ble_eq_true rfl) dX6_lowOf_40 (fun H locs hH => ?_)
              refine m_iald hx hb hK hH (k := j) (by omega) ef (42 * r + 4 + p) (by omega) (by omega) (by decide) dX6_lowOf_43 ?_
              refine m_topI (((bz (w r) p : Nat) : Int)) ((hp.2.2.2 r hr).2 p (by omega)) ?_
              have hb1 := bz_le (w r) p
              refine lv_aload_n hx hb dX6_lowOf_44 rfl (lv_at hl 0 rfl) ?_
              refine lv_iload_n hx hb dX6_lowOf_45 rfl (lv_at hl 1 rfl) ?_
              refine lv_iload hx hb dX6_lowOf_46 (lv_at hl 5 rfl) ?_
              refine m_pSi hx hb hml hown hts hK hH hl (rest := [.ref (ad (j)), .int (oI (((bz (w r) p : Nat) : Int))), .int (oI (((ab : Nat) : Int)))]) cw_X6_64 rfl (c6_at hA r q (by first | assumption | omega) (by first | assumption | omega) ) ⟨Nat.le_of_ble_eq_true rfl, Nat.le_of_ble_eq_true rfl⟩ ⟨Nat.le_of_ble_eq_true rfl, Nat.le_of_ble_eq_true rfl⟩ rfl rfl (Nat.le_of_ble_eq_true rfl) dX6_lowOf_48 (fun H locs hH => ?_)
              refine m_iald hx hb hK hH (k := j) (by omega) ef (42 * r + 4 + q) (by omega) (by omega) (by decide) dX6_lowOf_51 ?_
              refine m_topI (((bz (w r) q : Nat) : Int)) ((hp.2.2.2 r hr).2 q (by omega)) ?_
              have hb2 := bz_le (w r) q
              have hbb : bz (w r) p * bz (w r) q ≤ 1 := Nat.mul_le_mul hb1 hb2
              refine m_imul ((((bz (w r) p) * (bz (w r) q) : Nat) : Int)) hx hb dX6_lowOf_52 (by first | rfl | omega | (push_cast; rfl)) ?_
              refine m_iadd ((((bz (w r) p) * (bz (w r) q) : Nat) : Int) + ((ab : Nat) : Int)) hx hb dX6_lowOf_53 (by omega) ?_
              refine lv_istore (lv' := [(5, .int (oI ((((bz (w r) p) * (bz (w r) q) : Nat) : Int) + ((ab : Nat) : Int)))), (0, .ref (ad (j))), (1, .int (oI (((r : Nat) : Int)))), (3, .int (oI (((le : Nat) : Int)))), (4, .int (oI (((p : Nat) : Int)))), (6, .int (oI (((q : Nat) : Int))))]) hx hb dX6_lowOf_54 hl (by decide) rfl (fun ls hl => ?_)
              refine m_iinc (((q : Nat) : Int) + 1) [(6, .int (oI (((q : Nat) : Int) + 1))), (5, .int (oI ((((bz (w r) p) * (bz (w r) q) : Nat) : Int) + ((ab : Nat) : Int)))), (0, .ref (ad (j))), (1, .int (oI (((r : Nat) : Int)))), (3, .int (oI (((le : Nat) : Int)))), (4, .int (oI (((p : Nat) : Int))))] hx hb dX6_lowOf_56 hl (j := 5) rfl (by omega) (by decide) rfl (fun ls hl => ?_)
              refine lv_goto (tgt := 24) hx hb dX6_lowOf_59 (by decide) ?_
              exact ih24 (((bz (w r) p) * (bz (w r) q)) + ab) (q + 1) (by omega) (by first | assumption | omega) (by rw [oBz_st hq.1, ← hab]; omega) (by first | assumption | omega) _ _ hH ls (lv_sub hl [2, 3, 4, 5, 1, 0] rfl)
        exact L24 _ 0 (p + 1) (Nat.lt_succ_self _) (by first | assumption | omega) (oBz_s0) (by first | assumption | omega) _ _ hH ls (lv_sub hl [2, 3, 4, 5, 1, 0] rfl)
  exact L5 _ k 0 (Nat.lt_succ_self _) (by first | assumption | omega) (rfl) _ _ hH ls (lv_sub hl [2, 3, 1, 0] rfl)
set_option maxHeartbeats 4000000 in
set_option maxRecDepth 100000 in
theorem c6_highOf {l : Launch} {D : va_G} {cT : Nat → ClassId} {N b0 : Nat} {ad : Nat → Nat} (hA : oAd b0 N ad) {σ : Nat → va_E} (j n a g : Nat) (f : Nat → Int) (sz w : Nat → Nat) (r k : Nat) (hj : j < N) (hwf : oWf n sz w) (hp : oRS f n a g sz w) (hr : r < n) (hk31 : k ≤ 2147483647) (hk : oEq2 (k < oSp (pcnt (w r)))) (ef : σ (j) = oAI cT 171 f) :
    oCi l D cT N ad b0 yX6_highOf cX6_highOf 6 (some .int) 1 21 [.ref (ad (j)), .int (oI (((r : Nat) : Int))), .int (oI (((k : Nat) : Int)))] σ (fun rr uu => rr = oI (((oHigh (w r) k : Nat) : Int)) ∧ uu = σ) := by
  refine m_start (cc := cX6_highOf) (by decide) (Nat.le_of_ble_eq_true rfl) rfl ?_
  intro Pp Ee Ss Mm Bb Me Cc Ar ls hx hb hml hown hlk hrt hts hK hH hl
  have hown : Ss.vm.findClass RX6 = some Mm.cls := hown
  have hn := hwf.1
  have hsz : ∀ r : Nat, r < n → 2 ≤ sz r ∧ sz r ≤ 40 := fun r h => ⟨(hwf.2 r h).1, (hwf.2 r h).2.1⟩
  have hs9 := hsz r hr
  have hwr := (hwf.2 r hr).2.2.1
  have hl : lv_has ls 6 [(0, .ref (ad (j))), (1, .int (oI (((r : Nat) : Int)))), (2, .int (oI (((k : Nat) : Int))))] := hl
  refine lv_iload_n hx hb dX6_highOf_0 rfl (lv_at hl 2 rfl) ?_
  refine lv_istore_n (lv' := [(3, .int (oI (((k : Nat) : Int)))), (0, .ref (ad (j))), (1, .int (oI (((r : Nat) : Int)))), (2, .int (oI (((k : Nat) : Int))))]) hx hb dX6_highOf_1 rfl hl (by decide) rfl (fun ls hl => ?_)
  refine m_iconst 0 hx hb dX6_highOf_2 rfl ?_
  refine lv_istore (lv' := [(4, .int (oI (0))), (3, .int (oI (((k : Nat) : Int)))), (0, .ref (ad (j))), (1, .int (oI (((r : Nat) : Int)))), (2, .int (oI (((k : Nat) : Int))))]) hx hb dX6_highOf_3 hl (by decide) rfl (fun ls hl => ?_)
  have L5 : ∀ (fu : Nat) (le : Nat) (p : Nat), (43 - p < fu) → (p ≤ sz r + 1) → (le + oRk (w r) p = k) → ∀ (H : Heap) (locs : List Loc), oH b0 D N ad Ss.heap σ H locs → ∀ ls : Array Slot, lv_has ls 6 [(0, .ref (ad (j))), (1, .int (oI (((r : Nat) : Int)))), (3, .int (oI (((le : Nat) : Int)))), (4, .int (oI (((p : Nat) : Int))))] → W Pp l Ee { frames := 1, cells := 0, slots := 0, locals := 21 } Ss Mm Ar Bb Me Cc H locs 0 0 (MQ Bb (va_Qi (fun rr uu => rr = oI (((oHigh (w r) k : Nat) : Int)) ∧ uu = σ) (oV D N ad) (fun q => b0 ≤ q)) Ar Ss 0 0 (fun q => b0 ≤ q)) (F0 Mm 5 ls []) := by
    intro fu5
    induction fu5 with
    | zero =>
      intro le p hm5
      exact absurd hm5 (Nat.not_lt_zero _)
    | succ fu5 ih5 =>
      intro le p hm5 hpp hc H locs hH ls hl
      refine lv_iload hx hb dX6_highOf_5 (lv_at hl 3 rfl) ?_
      refine lv_aload_n hx hb dX6_highOf_7 rfl (lv_at hl 0 rfl) ?_
      refine lv_iload_n hx hb dX6_highOf_8 rfl (lv_at hl 1 rfl) ?_
      refine m_pSi hx hb hml hown hts hK hH hl (rest := [.int (oI (((p : Nat) : Int)))]) cw_X6_54 rfl (c6_length hA j n a g f sz w r (by first | assumption | omega) (by first | assumption | omega) (by first | assumption | omega) (by first | assumption | omega) ef) ⟨Nat.le_of_ble_eq_true rfl, Nat.le_of_ble_eq_true rfl⟩ ⟨Nat.le_of_ble_eq_true rfl, Nat.le_of_ble_eq_true rfl⟩ rfl rfl (Nat.le_of_ble_eq_true rfl) dX6_highOf_9 (fun H locs hH => ?_)
      refine m_icmp_gt 74 hx hb dX6_highOf_12 (by decide) (by omega) (by omega) (fun h_1 => ?_) (fun h_1 => ?_)
      · exact absurd (show k < oSp (pcnt (w r)) from hk) (by rw [← oRk_end hwr hs9.2, ← show p = sz r + 1 by omega]; omega)
      · refine lv_iload hx hb dX6_highOf_15 (lv_at hl 3 rfl) ?_
        refine m_iconst 1 hx hb dX6_highOf_17 rfl ?_
        refine m_iadd (((p : Nat) : Int) + 1) hx hb dX6_highOf_18 (by omega) ?_
        refine lv_istore (lv' := [(5, .int (oI (((p : Nat) : Int) + 1))), (0, .ref (ad (j))), (1, .int (oI (((r : Nat) : Int)))), (3, .int (oI (((le : Nat) : Int)))), (4, .int (oI (((p : Nat) : Int))))]) hx hb dX6_highOf_19 hl (by decide) rfl (fun ls hl => ?_)
        have L21 : ∀ (fu : Nat) (le : Nat) (q : Nat), (43 - q < fu) → (p < q ∧ q ≤ sz r + 1) → (le + (oRk (w r) p + bz (w r) p * oBt (w r) p q) = k) → ∀ (H : Heap) (locs : List Loc), oH b0 D N ad Ss.heap σ H locs → ∀ ls : Array Slot, lv_has ls 6 [(0, .ref (ad (j))), (1, .int (oI (((r : Nat) : Int)))), (3, .int (oI (((le : Nat) : Int)))), (4, .int (oI (((p : Nat) : Int)))), (5, .int (oI (((q : Nat) : Int))))] → W Pp l Ee { frames := 1, cells := 0, slots := 0, locals := 21 } Ss Mm Ar Bb Me Cc H locs 0 0 (MQ Bb (va_Qi (fun rr uu => rr = oI (((oHigh (w r) k : Nat) : Int)) ∧ uu = σ) (oV D N ad) (fun q => b0 ≤ q)) Ar Ss 0 0 (fun q => b0 ≤ q)) (F0 Mm 21 ls []) := by
          intro fu21
          induction fu21 with
          | zero =>
            intro le q hm21
            exact absurd hm21 (Nat.not_lt_zero _)
          | succ fu21 ih21 =>
            intro le q hm21 hq hc2 H locs hH ls hl
            refine lv_iload hx hb dX6_highOf_21 (lv_at hl 4 rfl) ?_
            refine lv_aload_n hx hb dX6_highOf_23 rfl (lv_at hl 0 rfl) ?_
            refine lv_iload_n hx hb dX6_highOf_24 rfl (lv_at hl 1 rfl) ?_
            refine m_pSi hx hb hml hown hts hK hH hl (rest := [.int (oI (((q : Nat) : Int)))]) cw_X6_54 rfl (c6_length hA j n a g f sz w r (by first | assumption | omega) (by first | assumption | omega) (by first | assumption | omega) (by first | assumption | omega) ef) ⟨Nat.le_of_ble_eq_true rfl, Nat.le_of_ble_eq_true rfl⟩ ⟨Nat.le_of_ble_eq_true rfl, Nat.le_of_ble_eq_true rfl⟩ rfl rfl (Nat.le_of_ble_eq_true rfl) dX6_highOf_25 (fun H locs hH => ?_)
            refine m_icmp_gt 68 hx hb dX6_highOf_28 (by decide) (by omega) (by omega) (fun h_2 => ?_) (fun h_2 => ?_)
            · refine m_iinc (((p : Nat) : Int) + 1) [(4, .int (oI (((p : Nat) : Int) + 1))), (0, .ref (ad (j))), (1, .int (oI (((r : Nat) : Int)))), (3, .int (oI (((le : Nat) : Int)))), (5, .int (oI (((q : Nat) : Int))))] hx hb dX6_highOf_68 hl (j := 3) rfl (by omega) (by decide) rfl (fun ls hl => ?_)
              refine lv_goto (tgt := 5) hx hb dX6_highOf_71 (by decide) ?_
              exact ih5 le (p + 1) (by omega) (by first | assumption | omega) (by rw [oRk_bz hwr hs9.2, ← show q = sz r + 1 by omega]; omega) _ _ hH ls (lv_sub hl [1, 2, 3, 0] rfl)
            · refine lv_aload_n hx hb dX6_highOf_31 rfl (lv_at hl 0 rfl) ?_
              refine lv_iload_n hx hb dX6_highOf_32 rfl (lv_at hl 1 rfl) ?_
              refine lv_iload hx hb dX6_highOf_33 (lv_at hl 3 rfl) ?_
              refine m_pSi hx hb hml hown hts hK hH hl (rest := [.ref (ad (j))]) cw_X6_64 rfl (c6_at hA r p (by first | assumption | omega) (by first | assumption | omega) ) ⟨Nat.le_of_ble_eq_true rfl, Nat.le_of_ble_eq_true rfl⟩ ⟨Nat.le_of_ble_eq_true rfl, Nat.le_of_ble_eq_true rfl⟩ rfl rfl (Nat.le_of_ble_eq_true rfl) dX6_highOf_35 (fun H locs hH => ?_)
              refine m_iald hx hb hK hH (k := j) (by omega) ef (42 * r + 4 + p) (by omega) (by omega) (by decide) dX6_highOf_38 ?_
              refine m_topI (((bz (w r) p : Nat) : Int)) ((hp.2.2.2 r hr).2 p (by omega)) ?_
              have hb1 := bz_le (w r) p
              refine lv_aload_n hx hb dX6_highOf_39 rfl (lv_at hl 0 rfl) ?_
              refine lv_iload_n hx hb dX6_highOf_40 rfl (lv_at hl 1 rfl) ?_
              refine lv_iload hx hb dX6_highOf_41 (lv_at hl 4 rfl) ?_
              refine m_pSi hx hb hml hown hts hK hH hl (rest := [.ref (ad (j)), .int (oI (((bz (w r) p : Nat) : Int)))]) cw_X6_64 rfl (c6_at hA r q (by first | assumption | omega) (by first | assumption | omega) ) ⟨Nat.le_of_ble_eq_true rfl, Nat.le_of_ble_eq_true rfl⟩ ⟨Nat.le_of_ble_eq_true rfl, Nat.le_of_ble_eq_true rfl⟩ rfl rfl (Nat.le_of_ble_eq_true rfl) dX6_highOf_43 (fun H locs hH => ?_)
              refine m_iald hx hb hK hH (k := j) (by omega) ef (42 * r + 4 + q) (by omega) (by omega) (by decide) dX6_highOf_46 ?_
              refine m_topI (((bz (w r) q : Nat) : Int)) ((hp.2.2.2 r hr).2 q (by omega)) ?_
              have hb2 := bz_le (w r) q
              have hbb : bz (w r) p * bz (w r) q ≤ 1 := Nat.mul_le_mul hb1 hb2
              refine m_imul ((((bz (w r) p) * (bz (w r) q) : Nat) : Int)) hx hb dX6_highOf_47 (by first | rfl | omega | (push_cast; rfl)) ?_
              refine m_iconst 1 hx hb dX6_highOf_48 rfl ?_
              refine m_icmp_ne 62 hx hb dX6_highOf_49 (by decide) (by omega) (by omega) (fun h11 => ?_) (fun h11 => ?_)
              · refine m_iinc (((q : Nat) : Int) + 1) [(5, .int (oI (((q : Nat) : Int) + 1))), (0, .ref (ad (j))), (1, .int (oI (((r : Nat) : Int)))), (3, .int (oI (((le : Nat) : Int)))), (4, .int (oI (((p : Nat) : Int))))] hx hb dX6_highOf_62 hl (j := 4) rfl (by omega) (by decide) rfl (fun ls hl => ?_)
                refine lv_goto (tgt := 21) hx hb dX6_highOf_65 (by decide) ?_
                exact ih21 le (q + 1) (by omega) (by first | assumption | omega) (by rw [oBz_st hq.1, oBz_n1 h11]; omega) _ _ hH ls (lv_sub hl [1, 2, 3, 4, 0] rfl)
              · refine lv_iload_n hx hb dX6_highOf_52 rfl (lv_at hl 2 rfl) ?_
                refine m_if_ne 59 hx hb dX6_highOf_53 (by decide) (by omega) (fun h_4 => ?_) (fun h_4 => ?_)
                · refine m_iinc (((le - 1 : Nat) : Int)) [(3, .int (oI (((le - 1 : Nat) : Int)))), (0, .ref (ad (j))), (1, .int (oI (((r : Nat) : Int)))), (4, .int (oI (((p : Nat) : Int)))), (5, .int (oI (((q : Nat) : Int))))] hx hb dX6_highOf_59 hl (j := 2) rfl (by omega) (by decide) rfl (fun ls hl => ?_)
                  refine m_iinc (((q : Nat) : Int) + 1) [(5, .int (oI (((q : Nat) : Int) + 1))), (3, .int (oI (((le - 1 : Nat) : Int)))), (0, .ref (ad (j))), (1, .int (oI (((r : Nat) : Int)))), (4, .int (oI (((p : Nat) : Int))))] hx hb dX6_highOf_62 hl (j := 4) rfl (by omega) (by decide) rfl (fun ls hl => ?_)
                  refine lv_goto (tgt := 21) hx hb dX6_highOf_65 (by decide) ?_
                  exact ih21 (le - 1) (q + 1) (by omega) (by first | assumption | omega) (by rw [oBz_st hq.1]; omega) _ _ hH ls (lv_sub hl [2, 3, 1, 4, 0] rfl)
                · refine lv_iload hx hb dX6_highOf_56 (lv_at hl 4 rfl) ?_
                  exact m_iret hx hb hlk hrt hH (m_ni _) dX6_highOf_58 ⟨congrArg oI (by have h12 := oBz_11 (w := w r) (p := p) (q := q) (by omega); rw [(oPair (w := w r) (k := k) (p := p) (q := q) (by omega) hq.1 h12.1 h12.2 (by rw [bz_1.mpr h12.1] at hc2; omega)).2]), rfl⟩
        exact L21 _ le (p + 1) (Nat.lt_succ_self _) (by first | assumption | omega) (by rw [← oBz_s0]; omega) _ _ hH ls (lv_sub hl [1, 2, 3, 4, 0] rfl)
  exact L5 _ k 0 (Nat.lt_succ_self _) (by first | assumption | omega) (rfl) _ _ hH ls (lv_sub hl [2, 3, 1, 0] rfl)
set_option maxHeartbeats 4000000 in
set_option maxRecDepth 100000 in
theorem c6_divisor {l : Launch} {D : va_G} {cT : Nat → ClassId} {N b0 : Nat} {ad : Nat → Nat} (hA : oAd b0 N ad) {σ : Nat → va_E} (si ac6 spo ou6 : Nat) (rf : Int) (s : Nat → Nat) (sp : Nat) (hN : 76 ≤ N) (hsq : oSq s sp) (eM6 : σ (65) = .inr (6, [.int (oI (rf)), .ref (ad (66)), .int (oI (((si : Nat) : Int))), .ref (ad (67)), .ref (ad (68)), .ref (ad (69)), .int (oI (((ac6 : Nat) : Int))), .ref (ad (70)), .ref (ad (71)), .ref (ad (72)), .ref (ad (73)), .ref (ad (74)), .int (oI (((spo : Nat) : Int))), .int (oI (((ou6 : Nat) : Int)))])) (e72 : σ (72) = oAN cT 41 s) :
    oCi l D cT N ad b0 yX6_divisor cX6_divisor 5 (some .int) 0 0 [.ref (ad (65))] σ (fun rr uu => rr = oI (((oGc sp 40 : Nat) : Int)) ∧ uu = σ) := by
  refine m_start (cc := cX6_divisor) (by decide) (Nat.le_of_ble_eq_true rfl) rfl ?_
  intro Pp Ee Ss Mm Bb Me Cc Ar ls hx hb hml hown hlk hrt hts hK hH hl
  have hown : Ss.vm.findClass RX6 = some Mm.cls := hown
  have hl : lv_has ls 5 [(0, .ref (ad (65)))] := hl
  refine m_iconst 0 hx hb dX6_divisor_0 rfl ?_
  refine lv_istore_n (lv' := [(1, .int (oI (0))), (0, .ref (ad (65)))]) hx hb dX6_divisor_1 rfl hl (by decide) rfl (fun ls hl => ?_)
  refine m_iconst 1 hx hb dX6_divisor_2 rfl ?_
  refine lv_istore_n (lv' := [(2, .int (oI (1))), (1, .int (oI (0))), (0, .ref (ad (65)))]) hx hb dX6_divisor_3 rfl hl (by decide) rfl (fun ls hl => ?_)
  have L4 : ∀ (fu : Nat) (d : Nat) (i : Nat), (41 - i < fu) → (i ≤ 40) → (d = oGc sp i) → (d ≤ i) → ∀ (H : Heap) (locs : List Loc), oH b0 D N ad Ss.heap σ H locs → ∀ ls : Array Slot, lv_has ls 5 [(0, .ref (ad (65))), (1, .int (oI (((d : Nat) : Int)))), (2, .int (oI (((i : Nat) : Int) + 1)))] → W Pp l Ee { frames := 0, cells := 0, slots := 0, locals := 0 } Ss Mm Ar Bb Me Cc H locs 0 0 (MQ Bb (va_Qi (fun rr uu => rr = oI (((oGc sp 40 : Nat) : Int)) ∧ uu = σ) (oV D N ad) (fun q => b0 ≤ q)) Ar Ss 0 0 (fun q => b0 ≤ q)) (F0 Mm 4 ls []) := by
    intro fu4
    induction fu4 with
    | zero =>
      intro d i hm4
      exact absurd hm4 (Nat.not_lt_zero _)
    | succ fu4 ih4 =>
      intro d i hm4 hi hd hd2 H locs hH ls hl
      refine lv_iload_n hx hb dX6_divisor_4 rfl (lv_at hl 2 rfl) ?_
      refine m_bipush 40 hx hb dX6_divisor_5 (by decide) ?_
      refine m_icmp_gt 48 hx hb dX6_divisor_7 (by decide) (by omega) (by omega) (fun h_1 => ?_) (fun h_1 => ?_)
      · refine lv_iload_n hx hb dX6_divisor_48 rfl (lv_at hl 1 rfl) ?_
        exact m_iret hx hb hlk hrt hH (m_ni _) dX6_divisor_49 ⟨congrArg oI (by rw [hd, show i = 40 by omega]), rfl⟩
      · refine lv_aload_n hx hb dX6_divisor_10 rfl (lv_at hl 0 rfl) ?_
        refine gf_X6_spans hx hb hts hown hK hH (k := 65) (by omega) eM6 dX6_divisor_11 ?_
        refine lv_iload_n hx hb dX6_divisor_14 rfl (lv_at hl 2 rfl) ?_
        refine m_iald hx hb hK hH (k := 72) (by omega) e72 (i + 1) (by omega) (by omega) (by decide) dX6_divisor_15 ?_
        have hsb := hsq.2.2 (i + 1) (by omega)
        have hsi := hsq.1 (i + 1) (by omega) (by omega)
        refine m_if_le 23 hx hb dX6_divisor_16 (by decide) (by omega) (fun hsz0 => ?_) (fun hsz0 => ?_)
        · refine m_iconst 0 hx hb dX6_divisor_23 rfl ?_
          refine lv_istore_n (lv' := [(3, .int (oI (0))), (0, .ref (ad (65))), (1, .int (oI (((d : Nat) : Int)))), (2, .int (oI (((i : Nat) : Int) + 1)))]) hx hb dX6_divisor_24 rfl hl (by decide) rfl (fun ls hl => ?_)
          have L25 : ∀ (fu : Nat) (d : Nat) (x : Nat), (x < fu) → (Nat.gcd d x = oGc sp (i + 1)) → (d ≤ 40 ∧ x ≤ 40) → ∀ (H : Heap) (locs : List Loc), oH b0 D N ad Ss.heap σ H locs → ∀ ls : Array Slot, lv_has ls 5 [(0, .ref (ad (65))), (1, .int (oI (((d : Nat) : Int)))), (2, .int (oI (((i : Nat) : Int) + 1))), (3, .int (oI (((x : Nat) : Int))))] → W Pp l Ee { frames := 0, cells := 0, slots := 0, locals := 0 } Ss Mm Ar Bb Me Cc H locs 0 0 (MQ Bb (va_Qi (fun rr uu => rr = oI (((oGc sp 40 : Nat) : Int)) ∧ uu = σ) (oV D N ad) (fun q => b0 ≤ q)) Ar Ss 0 0 (fun q => b0 ≤ q)) (F0 Mm 25 ls []) := by
            intro fu25
            induction fu25 with
            | zero =>
              intro d x hm25
              exact absurd hm25 (Nat.not_lt_zero _)
            | succ fu25 ih25 =>
              intro d x hm25 hg hdx H locs hH ls hl
              refine lv_iload_n hx hb dX6_divisor_25 rfl (lv_at hl 3 rfl) ?_
              refine m_if_eq 42 hx hb dX6_divisor_26 (by decide) (by omega) (fun hx0 => ?_) (fun hx0 => ?_)
              · have hg2 : d = oGc sp (i + 1) := by rw [show x = 0 by omega, Nat.gcd_zero_right] at hg; exact hg
                refine m_iinc (((i : Nat) : Int) + 2) [(2, .int (oI (((i : Nat) : Int) + 2))), (0, .ref (ad (65))), (1, .int (oI (((d : Nat) : Int)))), (3, .int (oI (((x : Nat) : Int))))] hx hb dX6_divisor_42 hl (j := 2) rfl (by omega) (by decide) rfl (fun ls hl => ?_)
                refine lv_goto (tgt := 4) hx hb dX6_divisor_45 (by decide) ?_
                exact ih4 d (i + 1) (by omega) (by first | assumption | omega) (hg2) (by rw [hg2]; exact oGc_le sp _) _ _ hH ls (lv_sub hl [1, 2, 0] rfl)
              · refine lv_iload_n hx hb dX6_divisor_29 rfl (lv_at hl 1 rfl) ?_
                refine lv_iload_n hx hb dX6_divisor_30 rfl (lv_at hl 3 rfl) ?_
                refine m_irem (((d % x : Nat) : Int)) hx hb dX6_divisor_31 (by omega) (by omega) (by first | rfl | omega) ?_
                have hml9 : d % x < x := Nat.mod_lt d (by omega)
                refine lv_istore (lv' := [(4, .int (oI (((d % x : Nat) : Int)))), (0, .ref (ad (65))), (1, .int (oI (((d : Nat) : Int)))), (2, .int (oI (((i : Nat) : Int) + 1))), (3, .int (oI (((x : Nat) : Int))))]) hx hb dX6_divisor_32 hl (by decide) rfl (fun ls hl => ?_)
                refine lv_iload_n hx hb dX6_divisor_34 rfl (lv_at hl 4 rfl) ?_
                refine lv_istore_n (lv' := [(1, .int (oI (((x : Nat) : Int)))), (4, .int (oI (((d % x : Nat) : Int)))), (0, .ref (ad (65))), (2, .int (oI (((i : Nat) : Int) + 1))), (3, .int (oI (((x : Nat) : Int))))]) hx hb dX6_divisor_35 rfl hl (by decide) rfl (fun ls hl => ?_)
                refine lv_iload hx hb dX6_divisor_36 (lv_at hl 1 rfl) ?_
                refine lv_istore_n (lv' := [(3, .int (oI (((d % x : Nat) : Int)))), (1, .int (oI (((x : Nat) : Int)))), (4, .int (oI (((d % x : Nat) : Int)))), (0, .ref (ad (65))), (2, .int (oI (((i : Nat) : Int) + 1)))]) hx hb dX6_divisor_38 rfl hl (by decide) rfl (fun ls hl => ?_)
                refine lv_goto (tgt := 25) hx hb dX6_divisor_39 (by decide) ?_
                exact ih25 x (d % x) (by omega) (by rw [oGcd_s]; exact hg) (by first | assumption | omega) _ _ hH ls (lv_sub hl [3, 1, 4, 0] rfl)
          exact L25 _ d 0 (Nat.lt_succ_self _) (by first | (rw [Nat.gcd_zero_right, hd, oGc_n (fun q => by have := hsi.mpr q; omega)]) | (rw [hd, oGc_y (hsi.mp (by omega))])) (by first | assumption | omega) _ _ hH ls (lv_sub hl [1, 2, 3, 0] rfl)
        · refine lv_iload_n hx hb dX6_divisor_19 rfl (lv_at hl 2 rfl) ?_
          refine lv_goto (tgt := 24) hx hb dX6_divisor_20 (by decide) ?_
          refine lv_istore_n (lv' := [(3, .int (oI (((i : Nat) : Int) + 1))), (0, .ref (ad (65))), (1, .int (oI (((d : Nat) : Int)))), (2, .int (oI (((i : Nat) : Int) + 1)))]) hx hb dX6_divisor_24 rfl hl (by decide) rfl (fun ls hl => ?_)
          have L25 : ∀ (fu : Nat) (d : Nat) (x : Nat), (x < fu) → (Nat.gcd d x = oGc sp (i + 1)) → (d ≤ 40 ∧ x ≤ 40) → ∀ (H : Heap) (locs : List Loc), oH b0 D N ad Ss.heap σ H locs → ∀ ls : Array Slot, lv_has ls 5 [(0, .ref (ad (65))), (1, .int (oI (((d : Nat) : Int)))), (2, .int (oI (((i : Nat) : Int) + 1))), (3, .int (oI (((x : Nat) : Int))))] → W Pp l Ee { frames := 0, cells := 0, slots := 0, locals := 0 } Ss Mm Ar Bb Me Cc H locs 0 0 (MQ Bb (va_Qi (fun rr uu => rr = oI (((oGc sp 40 : Nat) : Int)) ∧ uu = σ) (oV D N ad) (fun q => b0 ≤ q)) Ar Ss 0 0 (fun q => b0 ≤ q)) (F0 Mm 25 ls []) := by
            intro fu25
            induction fu25 with
            | zero =>
              intro d x hm25
              exact absurd hm25 (Nat.not_lt_zero _)
            | succ fu25 ih25 =>
              intro d x hm25 hg hdx H locs hH ls hl
              refine lv_iload_n hx hb dX6_divisor_25 rfl (lv_at hl 3 rfl) ?_
              refine m_if_eq 42 hx hb dX6_divisor_26 (by decide) (by omega) (fun hx0 => ?_) (fun hx0 => ?_)
              · have hg2 : d = oGc sp (i + 1) := by rw [show x = 0 by omega, Nat.gcd_zero_right] at hg; exact hg
                refine m_iinc (((i : Nat) : Int) + 2) [(2, .int (oI (((i : Nat) : Int) + 2))), (0, .ref (ad (65))), (1, .int (oI (((d : Nat) : Int)))), (3, .int (oI (((x : Nat) : Int))))] hx hb dX6_divisor_42 hl (j := 2) rfl (by omega) (by decide) rfl (fun ls hl => ?_)
                refine lv_goto (tgt := 4) hx hb dX6_divisor_45 (by decide) ?_
                exact ih4 d (i + 1) (by omega) (by first | assumption | omega) (hg2) (by rw [hg2]; exact oGc_le sp _) _ _ hH ls (lv_sub hl [1, 2, 0] rfl)
              · refine lv_iload_n hx hb dX6_divisor_29 rfl (lv_at hl 1 rfl) ?_
                refine lv_iload_n hx hb dX6_divisor_30 rfl (lv_at hl 3 rfl) ?_
                refine m_irem (((d % x : Nat) : Int)) hx hb dX6_divisor_31 (by omega) (by omega) (by first | rfl | omega) ?_
                have hml9 : d % x < x := Nat.mod_lt d (by omega)
                refine lv_istore (lv' := [(4, .int (oI (((d % x : Nat) : Int)))), (0, .ref (ad (65))), (1, .int (oI (((d : Nat) : Int)))), (2, .int (oI (((i : Nat) : Int) + 1))), (3, .int (oI (((x : Nat) : Int))))]) hx hb dX6_divisor_32 hl (by decide) rfl (fun ls hl => ?_)
                refine lv_iload_n hx hb dX6_divisor_34 rfl (lv_at hl 4 rfl) ?_
                refine lv_istore_n (lv' := [(1, .int (oI (((x : Nat) : Int)))), (4, .int (oI (((d % x : Nat) : Int)))), (0, .ref (ad (65))), (2, .int (oI (((i : Nat) : Int) + 1))), (3, .int (oI (((x : Nat) : Int))))]) hx hb dX6_divisor_35 rfl hl (by decide) rfl (fun ls hl => ?_)
                refine lv_iload hx hb dX6_divisor_36 (lv_at hl 1 rfl) ?_
                refine lv_istore_n (lv' := [(3, .int (oI (((d % x : Nat) : Int)))), (1, .int (oI (((x : Nat) : Int)))), (4, .int (oI (((d % x : Nat) : Int)))), (0, .ref (ad (65))), (2, .int (oI (((i : Nat) : Int) + 1)))]) hx hb dX6_divisor_38 rfl hl (by decide) rfl (fun ls hl => ?_)
                refine lv_goto (tgt := 25) hx hb dX6_divisor_39 (by decide) ?_
                exact ih25 x (d % x) (by omega) (by rw [oGcd_s]; exact hg) (by first | assumption | omega) _ _ hH ls (lv_sub hl [3, 1, 4, 0] rfl)
          exact L25 _ d (i + 1) (Nat.lt_succ_self _) (by first | (rw [Nat.gcd_zero_right, hd, oGc_n (fun q => by have := hsi.mpr q; omega)]) | (rw [hd, oGc_y (hsi.mp (by omega))])) (by first | assumption | omega) _ _ hH ls (lv_sub hl [1, 2, 3, 0] rfl)
  exact L4 _ 0 0 (Nat.lt_succ_self _) (by first | assumption | omega) (rfl) (by first | assumption | omega) _ _ hH ls (lv_sub hl [2, 1, 0] rfl)
set_option maxHeartbeats 4000000 in
set_option maxRecDepth 100000 in
theorem c6_findFar {l : Launch} {D : va_G} {cT : Nat → ClassId} {N b0 : Nat} {ad : Nat → Nat} (hA : oAd b0 N ad) {σ : Nat → va_E} (si ac6 spo ou6 : Nat) (rf : Int) (a0 sp : Nat) (s : Nat → Nat) (F R : Nat → Int) (hN : 76 ≤ N) (ha : a0 ≤ 200) (hsq : oSq s sp) (eM6 : σ (65) = .inr (6, [.int (oI (rf)), .ref (ad (66)), .int (oI (((si : Nat) : Int))), .ref (ad (67)), .ref (ad (68)), .ref (ad (69)), .int (oI (((ac6 : Nat) : Int))), .ref (ad (70)), .ref (ad (71)), .ref (ad (72)), .ref (ad (73)), .ref (ad (74)), .int (oI (((spo : Nat) : Int))), .int (oI (((ou6 : Nat) : Int)))])) (e72 : σ (72) = oAN cT 41 s) (e73 : σ (73) = oAI cT 201 F) (e74 : σ (74) = oAI cT 201 R) :
    oCv l D cT N ad b0 yX6_findFar cX6_findFar 7 none 1 25 [.ref (ad (65)), .int (oI (((a0 : Nat) : Int)))] σ (fun uu => ∃ F2 : Nat → Int, ∃ R2 : Nat → Int, (∀ t : Nat, t ≤ 200 → F2 t = oDist sp a0 t) ∧ uu (73) = oAI cT 201 F2 ∧ uu (74) = oAI cT 201 R2 ∧ (∀ q : Nat, q ≠ 73 → q ≠ 74 → uu q = σ q)) := by
  refine m_start (cc := cX6_findFar) (by decide) (Nat.le_of_ble_eq_true rfl) rfl ?_
  intro Pp Ee Ss Mm Bb Me Cc Ar ls hx hb hml hown hlk hrt hts hK hH hl
  have hown : Ss.vm.findClass RX6 = some Mm.cls := hown
  have hl : lv_has ls 7 [(0, .ref (ad (65))), (1, .int (oI (((a0 : Nat) : Int))))] := hl
  have hf : ∀ q : Nat, q ≠ 73 → q ≠ 74 → σ q = σ q := fun q _ _ => rfl
  refine m_iconst 0 hx hb dX6_findFar_0 rfl ?_
  refine lv_istore_n (lv' := [(2, .int (oI (0))), (0, .ref (ad (65))), (1, .int (oI (((a0 : Nat) : Int))))]) hx hb dX6_findFar_1 rfl hl (by decide) rfl (fun ls hl => ?_)
  have L2 : ∀ (fu : Nat) (i : Nat) (F1 : Nat → Int), (202 - i < fu) → (i ≤ 201) → (∀ t : Nat, t < i → F1 t = -1) → ∀ σL2 : Nat → va_E, σL2 (73) = oAI cT 201 F1 → (∀ q : Nat, q ≠ 73 → σL2 q = σ q) → ∀ (H : Heap) (locs : List Loc), oH b0 D N ad Ss.heap σL2 H locs → ∀ ls : Array Slot, lv_has ls 7 [(0, .ref (ad (65))), (1, .int (oI (((a0 : Nat) : Int)))), (2, .int (oI (((i : Nat) : Int))))] → W Pp l Ee { frames := 1, cells := 0, slots := 0, locals := 25 } Ss Mm Ar Bb Me Cc H locs 0 0 (MQ Bb (va_Qv (fun uu => ∃ F2 : Nat → Int, ∃ R2 : Nat → Int, (∀ t : Nat, t ≤ 200 → F2 t = oDist sp a0 t) ∧ uu (73) = oAI cT 201 F2 ∧ uu (74) = oAI cT 201 R2 ∧ (∀ q : Nat, q ≠ 73 → q ≠ 74 → uu q = σ q)) (oV D N ad) (fun q => b0 ≤ q)) Ar Ss 0 0 (fun q => b0 ≤ q)) (F0 Mm 2 ls []) := by
    intro fu2
    induction fu2 with
    | zero =>
      intro i F1 hm2
      exact absurd hm2 (Nat.not_lt_zero _)
    | succ fu2 ih2 =>
      intro i F1 hm2 hi hz σL2 e73 hL2 H locs hH ls hl
      have eM6 : σL2 (65) = .inr (6, [.int (oI (rf)), .ref (ad (66)), .int (oI (((si : Nat) : Int))), .ref (ad (67)), .ref (ad (68)), .ref (ad (69)), .int (oI (((ac6 : Nat) : Int))), .ref (ad (70)), .ref (ad (71)), .ref (ad (72)), .ref (ad (73)), .ref (ad (74)), .int (oI (((spo : Nat) : Int))), .int (oI (((ou6 : Nat) : Int)))]) := (hL2 _ (by decide)).trans eM6
      have e72 : σL2 (72) = oAN cT 41 s := (hL2 _ (by decide)).trans e72
      have e74 : σL2 (74) = oAI cT 201 R := (hL2 _ (by decide)).trans e74
      have hf : ∀ q : Nat, q ≠ 73 → q ≠ 74 → σL2 q = σ q := fun q n0 n1 => (hL2 q n0).trans (hf q n0 n1)
      refine lv_iload_n hx hb dX6_findFar_2 rfl (lv_at hl 2 rfl) ?_
      refine m_sipush 200 hx hb dX6_findFar_3 (by decide) ?_
      refine m_icmp_gt 22 hx hb dX6_findFar_6 (by decide) (by omega) (by omega) (fun h_1 => ?_) (fun h_1 => ?_)
      · refine lv_aload_n hx hb dX6_findFar_22 rfl (lv_at hl 0 rfl) ?_
        refine gf_X6_far hx hb hts hown hK hH (k := 65) (by omega) eM6 dX6_findFar_23 ?_
        refine lv_iload_n hx hb dX6_findFar_26 rfl (lv_at hl 1 rfl) ?_
        refine m_iconst 0 hx hb dX6_findFar_27 rfl ?_
        refine m_iast hx hb hK hH hA (k := 73) (by omega) e73 (a0) (by omega) (by omega) (by decide) dX6_findFar_28 (fun H locs σ_2 e73 hq_3 hH => ?_)
        have eM6 : σ_2 (65) = .inr (6, [.int (oI (rf)), .ref (ad (66)), .int (oI (((si : Nat) : Int))), .ref (ad (67)), .ref (ad (68)), .ref (ad (69)), .int (oI (((ac6 : Nat) : Int))), .ref (ad (70)), .ref (ad (71)), .ref (ad (72)), .ref (ad (73)), .ref (ad (74)), .int (oI (((spo : Nat) : Int))), .int (oI (((ou6 : Nat) : Int)))]) := (hq_3 _ (by decide)).trans eM6
        have e72 : σ_2 (72) = oAN cT 41 s := (hq_3 _ (by decide)).trans e72
        have e74 : σ_2 (74) = oAI cT 201 R := (hq_3 _ (by decide)).trans e74
        have hf : ∀ q : Nat, q ≠ 73 → q ≠ 74 → σ_2 q = σ q := fun q n0 n1 => (hq_3 q n0).trans (hf q n0 n1)
        have hL2 : ∀ q : Nat, q ≠ 73 → σ_2 q = σ q := fun q n0 => (hq_3 q n0).trans (hL2 q n0)
        refine lv_aload_n hx hb dX6_findFar_29 rfl (lv_at hl 0 rfl) ?_
        refine gf_X6_row hx hb hts hown hK hH (k := 65) (by omega) eM6 dX6_findFar_30 ?_
        refine m_iconst 0 hx hb dX6_findFar_33 rfl ?_
        refine lv_iload_n hx hb dX6_findFar_34 rfl (lv_at hl 1 rfl) ?_
        refine m_iast hx hb hK hH hA (k := 74) (by omega) e74 (0) (by omega) (by omega) (by decide) dX6_findFar_35 (fun H locs σ_4 e74 hq_5 hH => ?_)
        have eM6 : σ_4 (65) = .inr (6, [.int (oI (rf)), .ref (ad (66)), .int (oI (((si : Nat) : Int))), .ref (ad (67)), .ref (ad (68)), .ref (ad (69)), .int (oI (((ac6 : Nat) : Int))), .ref (ad (70)), .ref (ad (71)), .ref (ad (72)), .ref (ad (73)), .ref (ad (74)), .int (oI (((spo : Nat) : Int))), .int (oI (((ou6 : Nat) : Int)))]) := (hq_5 _ (by decide)).trans eM6
        have e72 : σ_4 (72) = oAN cT 41 s := (hq_5 _ (by decide)).trans e72
        have e73 : σ_4 (73) = oAI cT 201 (va_up F1 a0 0) := (hq_5 _ (by decide)).trans e73
        have hf : ∀ q : Nat, q ≠ 73 → q ≠ 74 → σ_4 q = σ q := fun q n0 n1 => (hq_5 q n1).trans (hf q n0 n1)
        refine m_iconst 1 hx hb dX6_findFar_36 rfl ?_
        refine lv_istore_n (lv' := [(2, .int (oI (1))), (0, .ref (ad (65))), (1, .int (oI (((a0 : Nat) : Int))))]) hx hb dX6_findFar_37 rfl hl (by decide) rfl (fun ls hl => ?_)
        refine m_iconst 0 hx hb dX6_findFar_38 rfl ?_
        refine lv_istore_n (lv' := [(3, .int (oI (0))), (2, .int (oI (1))), (0, .ref (ad (65))), (1, .int (oI (((a0 : Nat) : Int))))]) hx hb dX6_findFar_39 rfl hl (by decide) rfl (fun ls hl => ?_)
        have L40 : ∀ (fu : Nat) (i : Nat) (ld : Nat) (S : Nat → Int) (Ln : Nat → Int), (202 - i < fu) → (i ≤ ld) → (oBG sp a0 i ld S Ln) → ∀ σL40 : Nat → va_E, σL40 (73) = oAI cT 201 S → σL40 (74) = oAI cT 201 Ln → (∀ q : Nat, q ≠ 73 → q ≠ 74 → σL40 q = σ_4 q) → ∀ (H : Heap) (locs : List Loc), oH b0 D N ad Ss.heap σL40 H locs → ∀ ls : Array Slot, lv_has ls 7 [(0, .ref (ad (65))), (2, .int (oI (((ld : Nat) : Int)))), (3, .int (oI (((i : Nat) : Int))))] → W Pp l Ee { frames := 1, cells := 0, slots := 0, locals := 25 } Ss Mm Ar Bb Me Cc H locs 0 0 (MQ Bb (va_Qv (fun uu => ∃ F2 : Nat → Int, ∃ R2 : Nat → Int, (∀ t : Nat, t ≤ 200 → F2 t = oDist sp a0 t) ∧ uu (73) = oAI cT 201 F2 ∧ uu (74) = oAI cT 201 R2 ∧ (∀ q : Nat, q ≠ 73 → q ≠ 74 → uu q = σ q)) (oV D N ad) (fun q => b0 ≤ q)) Ar Ss 0 0 (fun q => b0 ≤ q)) (F0 Mm 40 ls []) := by
          intro fu40
          induction fu40 with
          | zero =>
            intro i ld S Ln hm40
            exact absurd hm40 (Nat.not_lt_zero _)
          | succ fu40 ih40 =>
            intro i ld S Ln hm40 hi hG σL40 e73 e74 hL40 H locs hH ls hl
            have eM6 : σL40 (65) = .inr (6, [.int (oI (rf)), .ref (ad (66)), .int (oI (((si : Nat) : Int))), .ref (ad (67)), .ref (ad (68)), .ref (ad (69)), .int (oI (((ac6 : Nat) : Int))), .ref (ad (70)), .ref (ad (71)), .ref (ad (72)), .ref (ad (73)), .ref (ad (74)), .int (oI (((spo : Nat) : Int))), .int (oI (((ou6 : Nat) : Int)))]) := (hL40 _ (by decide) (by decide)).trans eM6
            have e72 : σL40 (72) = oAN cT 41 s := (hL40 _ (by decide) (by decide)).trans e72
            have hf : ∀ q : Nat, q ≠ 73 → q ≠ 74 → σL40 q = σ q := fun q n0 n1 => (hL40 q n0 n1).trans (hf q n0 n1)
            have hld := oBq_ld hG.1
            refine lv_iload_n hx hb dX6_findFar_40 rfl (lv_at hl 2 rfl) ?_
            refine lv_iload_n hx hb dX6_findFar_41 rfl (lv_at hl 1 rfl) ?_
            refine m_icmp_ge 167 hx hb dX6_findFar_42 (by decide) (by omega) (by omega) (fun h_6 => ?_) (fun h_6 => ?_)
            · exact m_vret hx hb hlk hrt hH dX6_findFar_167 ⟨S, Ln, (fun t ht => oBG_end hG (by omega) ht), e73, e74, hf⟩
            · refine m_bipush (-40) hx hb dX6_findFar_45 (by decide) ?_
              refine lv_istore (lv' := [(4, .int (oI ((-40)))), (0, .ref (ad (65))), (2, .int (oI (((ld : Nat) : Int)))), (3, .int (oI (((i : Nat) : Int))))]) hx hb dX6_findFar_47 hl (by decide) rfl (fun ls hl => ?_)
              obtain ⟨fr, hfr⟩ : ∃ z : Int, Ln i = z := ⟨_, rfl⟩
              obtain ⟨nx0, hnx⟩ : ∃ z : Int, S fr.toNat = z := ⟨_, rfl⟩
              have L49 : ∀ (fu : Nat) (bb : Int) (ld : Nat) (S : Nat → Int) (Ln : Nat → Int), ((41 - bb).toNat < fu) → (-40 ≤ bb ∧ bb ≤ 41) → (oBK sp a0 i bb ld S Ln) → (Ln i = fr) → (S fr.toNat = nx0) → ∀ σL49 : Nat → va_E, σL49 (73) = oAI cT 201 S → σL49 (74) = oAI cT 201 Ln → (∀ q : Nat, q ≠ 73 → q ≠ 74 → σL49 q = σL40 q) → ∀ (H : Heap) (locs : List Loc), oH b0 D N ad Ss.heap σL49 H locs → ∀ ls : Array Slot, lv_has ls 7 [(0, .ref (ad (65))), (2, .int (oI (((ld : Nat) : Int)))), (3, .int (oI (((i : Nat) : Int)))), (4, .int (oI (bb)))] → W Pp l Ee { frames := 1, cells := 0, slots := 0, locals := 25 } Ss Mm Ar Bb Me Cc H locs 0 0 (MQ Bb (va_Qv (fun uu => ∃ F2 : Nat → Int, ∃ R2 : Nat → Int, (∀ t : Nat, t ≤ 200 → F2 t = oDist sp a0 t) ∧ uu (73) = oAI cT 201 F2 ∧ uu (74) = oAI cT 201 R2 ∧ (∀ q : Nat, q ≠ 73 → q ≠ 74 → uu q = σ q)) (oV D N ad) (fun q => b0 ≤ q)) Ar Ss 0 0 (fun q => b0 ≤ q)) (F0 Mm 49 ls []) := by
                intro fu49
                induction fu49 with
                | zero =>
                  intro bb ld S Ln hm49
                  exact absurd hm49 (Nat.not_lt_zero _)
                | succ fu49 ih49 =>
                  intro bb ld S Ln hm49 hb40 hKk hfr hnx σL49 e73 e74 hL49 H locs hH ls hl
                  have eM6 : σL49 (65) = .inr (6, [.int (oI (rf)), .ref (ad (66)), .int (oI (((si : Nat) : Int))), .ref (ad (67)), .ref (ad (68)), .ref (ad (69)), .int (oI (((ac6 : Nat) : Int))), .ref (ad (70)), .ref (ad (71)), .ref (ad (72)), .ref (ad (73)), .ref (ad (74)), .int (oI (((spo : Nat) : Int))), .int (oI (((ou6 : Nat) : Int)))]) := (hL49 _ (by decide) (by decide)).trans eM6
                  have e72 : σL49 (72) = oAN cT 41 s := (hL49 _ (by decide) (by decide)).trans e72
                  have hf : ∀ q : Nat, q ≠ 73 → q ≠ 74 → σL49 q = σ q := fun q n0 n1 => (hL49 q n0 n1).trans (hf q n0 n1)
                  have hL40 : ∀ q : Nat, q ≠ 73 → q ≠ 74 → σL49 q = σ_4 q := fun q n0 n1 => (hL49 q n0 n1).trans (hL40 q n0 n1)
                  have hil := hKk.2.1
                  have hbk := oBK_b hKk
                  rw [hfr, hnx] at hbk
                  refine lv_iload hx hb dX6_findFar_49 (lv_at hl 3 rfl) ?_
                  refine m_bipush 40 hx hb dX6_findFar_51 (by decide) ?_
                  refine m_icmp_gt 161 hx hb dX6_findFar_53 (by decide) (by omega) (by omega) (fun h_7 => ?_) (fun h_7 => ?_)
                  · refine m_iinc (((i : Nat) : Int) + 1) [(3, .int (oI (((i : Nat) : Int) + 1))), (0, .ref (ad (65))), (2, .int (oI (((ld : Nat) : Int)))), (4, .int (oI (bb)))] hx hb dX6_findFar_161 hl (j := 2) rfl (by omega) (by decide) rfl (fun ls hl => ?_)
                    refine lv_goto (tgt := 40) hx hb dX6_findFar_164 (by decide) ?_
                    exact ih40 (i + 1) ld S Ln (by omega) (by first | assumption | omega) (by rw [show bb = 41 by omega] at hKk; exact oBK_end hKk) _ e73 e74 (hL40) _ _ hH ls (lv_sub hl [1, 2, 0] rfl)
                  · refine lv_aload_n hx hb dX6_findFar_56 rfl (lv_at hl 0 rfl) ?_
                    refine gf_X6_row hx hb hts hown hK hH (k := 65) (by omega) eM6 dX6_findFar_57 ?_
                    refine lv_iload_n hx hb dX6_findFar_60 rfl (lv_at hl 2 rfl) ?_
                    refine m_iald hx hb hK hH (k := 74) (by omega) e74 (i) (by omega) (by omega) (by decide) dX6_findFar_61 ?_
                    refine m_topI (fr) (hfr) ?_
                    refine lv_iload hx hb dX6_findFar_62 (lv_at hl 3 rfl) ?_
                    refine m_iadd (bb + fr) hx hb dX6_findFar_64 (by omega) ?_
                    refine lv_istore (lv' := [(5, .int (oI (bb + fr))), (0, .ref (ad (65))), (2, .int (oI (((ld : Nat) : Int)))), (3, .int (oI (((i : Nat) : Int)))), (4, .int (oI (bb)))]) hx hb dX6_findFar_65 hl (by decide) rfl (fun ls hl => ?_)
                    refine lv_iload hx hb dX6_findFar_67 (lv_at hl 0 rfl) ?_
                    refine m_i2l hx hb dX6_findFar_69 (by omega) ?_
                    refine m_lconst 0 hx hb dX6_findFar_70 rfl ?_
                    refine lv_ldc2 (v := 200) hx hb hown (hts _ kl_X6_78) dX6_findFar_71 ?_
                    refine m_J2L 200 (by decide +kernel) ?_
                    refine m_pSb hx hb hml hown hts hK hH hl (rest := []) cw_X6_46 rfl (c6_in hA (bb + fr) 0 200 (by first | assumption | omega) (by first | assumption | omega) (by first | assumption | omega) ) ⟨Nat.le_of_ble_eq_true rfl, Nat.le_of_ble_eq_true rfl⟩ ⟨Nat.le_of_ble_eq_true rfl, Nat.le_of_ble_eq_true rfl⟩ rfl rfl (Nat.le_of_ble_eq_true rfl) dX6_findFar_74 (fun h_8 H locs hH => ?_) (fun h_8 H locs hH => ?_)
                    · refine m_if_eq 116 hx hb dX6_findFar_77 (by decide) (by omega) (fun h_9 => absurd h_9 (by omega)) (fun h_9 => ?_)
                      refine lv_aload_n hx hb dX6_findFar_80 rfl (lv_at hl 1 rfl) ?_
                      refine gf_X6_spans hx hb hts hown hK hH (k := 65) (by omega) eM6 dX6_findFar_81 ?_
                      refine lv_iload hx hb dX6_findFar_84 (lv_at hl 4 rfl) ?_
                      refine m_if_ge 95 hx hb dX6_findFar_86 (by decide) (by omega) (fun h_10 => ?_) (fun h_10 => ?_)
                      · refine lv_iload hx hb dX6_findFar_95 (lv_at hl 4 rfl) ?_
                        refine m_iald hx hb hK hH (k := 72) (by omega) e72 (bb.toNat) (by omega) (by omega) (by decide) dX6_findFar_97 ?_
                        refine m_topI (((s bb.natAbs : Nat) : Int)) (by rw [show bb.toNat = bb.natAbs by omega]) ?_
                        have hsb := hsq.2.2 bb.natAbs (by omega)
                        have hs0 := hsq.2.1
                        refine m_if_le 116 hx hb dX6_findFar_98 (by decide) (by omega) (fun hsp0 => ?_) (fun hsp0 => ?_)
                        · refine m_iconst 0 hx hb dX6_findFar_116 rfl ?_
                          refine lv_istore (lv' := [(6, .int (oI (0))), (5, .int (oI (bb + fr))), (0, .ref (ad (65))), (2, .int (oI (((ld : Nat) : Int)))), (3, .int (oI (((i : Nat) : Int)))), (4, .int (oI (bb)))]) hx hb dX6_findFar_117 hl (by decide) rfl (fun ls hl => ?_)
                          refine lv_iload hx hb dX6_findFar_119 (lv_at hl 0 rfl) ?_
                          refine m_if_eq 155 hx hb dX6_findFar_121 (by decide) (by omega) (fun h_12 => ?_) (fun h_12 => absurd h_12 (by omega))
                          refine m_iinc (bb + 1) [(4, .int (oI (bb + 1))), (6, .int (oI (0))), (5, .int (oI (bb + fr))), (0, .ref (ad (65))), (2, .int (oI (((ld : Nat) : Int)))), (3, .int (oI (((i : Nat) : Int))))] hx hb dX6_findFar_155 hl (j := 5) rfl (by omega) (by decide) rfl (fun ls hl => ?_)
                          refine lv_goto (tgt := 49) hx hb dX6_findFar_158 (by decide) ?_
                          exact ih49 (bb + 1) ld S Ln (by omega) (by first | assumption | omega) (oBK_no hKk (fun q1 q2 q3 q4 => absurd ((hsq.1 bb.natAbs (by omega) (by omega)).mpr q2) (by omega))) (by first | assumption | omega) (by first | assumption | omega) _ e73 e74 (hL49) _ _ hH ls (lv_sub hl [3, 4, 5, 0] rfl)
                        · have hb00 : bb ≠ 0 := fun q => by rw [q] at hsp0; have : s (0 : Int).natAbs = 0 := hs0; omega
                          refine lv_aload_n hx hb dX6_findFar_101 rfl (lv_at hl 1 rfl) ?_
                          refine gf_X6_far hx hb hts hown hK hH (k := 65) (by omega) eM6 dX6_findFar_102 ?_
                          refine lv_iload hx hb dX6_findFar_105 (lv_at hl 0 rfl) ?_
                          refine m_iald hx hb hK hH (k := 73) (by omega) e73 ((fr + bb).toNat) (by omega) (by omega) (by decide) dX6_findFar_107 ?_
                          have hsb2 := oBq_b hKk.1 (fr + bb).toNat (by omega)
                          refine m_iconst (-1) hx hb dX6_findFar_108 rfl ?_
                          refine m_icmp_ne 116 hx hb dX6_findFar_109 (by decide) (by omega) (by omega) (fun hne => ?_) (fun hne => ?_)
                          · refine m_iconst 0 hx hb dX6_findFar_116 rfl ?_
                            refine lv_istore (lv' := [(6, .int (oI (0))), (5, .int (oI (bb + fr))), (0, .ref (ad (65))), (2, .int (oI (((ld : Nat) : Int)))), (3, .int (oI (((i : Nat) : Int)))), (4, .int (oI (bb)))]) hx hb dX6_findFar_117 hl (by decide) rfl (fun ls hl => ?_)
                            refine lv_iload hx hb dX6_findFar_119 (lv_at hl 0 rfl) ?_
                            refine m_if_eq 155 hx hb dX6_findFar_121 (by decide) (by omega) (fun h_14 => ?_) (fun h_14 => absurd h_14 (by omega))
                            refine m_iinc (bb + 1) [(4, .int (oI (bb + 1))), (6, .int (oI (0))), (5, .int (oI (bb + fr))), (0, .ref (ad (65))), (2, .int (oI (((ld : Nat) : Int)))), (3, .int (oI (((i : Nat) : Int))))] hx hb dX6_findFar_155 hl (j := 5) rfl (by omega) (by decide) rfl (fun ls hl => ?_)
                            refine lv_goto (tgt := 49) hx hb dX6_findFar_158 (by decide) ?_
                            exact ih49 (bb + 1) ld S Ln (by omega) (by first | assumption | omega) (oBK_no hKk (fun q1 q2 q3 q4 => by rw [hfr]; exact hne)) (by first | assumption | omega) (by first | assumption | omega) _ e73 e74 (hL49) _ _ hH ls (lv_sub hl [3, 4, 5, 0] rfl)
                          · have hY9 := oBK_yes hKk (by omega) hb00 ((hsq.1 bb.natAbs (by omega) (by omega)).mp (by omega)) hfr hnx (by omega) (by omega) hne
                            have hY := hY9.1
                            refine m_iconst 1 hx hb dX6_findFar_112 rfl ?_
                            refine lv_goto (tgt := 117) hx hb dX6_findFar_113 (by decide) ?_
                            refine lv_istore (lv' := [(6, .int (oI (1))), (5, .int (oI (bb + fr))), (0, .ref (ad (65))), (2, .int (oI (((ld : Nat) : Int)))), (3, .int (oI (((i : Nat) : Int)))), (4, .int (oI (bb)))]) hx hb dX6_findFar_117 hl (by decide) rfl (fun ls hl => ?_)
                            refine lv_iload hx hb dX6_findFar_119 (lv_at hl 0 rfl) ?_
                            refine m_if_eq 155 hx hb dX6_findFar_121 (by decide) (by omega) (fun h_15 => absurd h_15 (by omega)) (fun h_15 => ?_)
                            refine lv_aload_n hx hb dX6_findFar_124 rfl (lv_at hl 2 rfl) ?_
                            refine gf_X6_far hx hb hts hown hK hH (k := 65) (by omega) eM6 dX6_findFar_125 ?_
                            refine lv_iload hx hb dX6_findFar_128 (lv_at hl 1 rfl) ?_
                            refine lv_aload_n hx hb dX6_findFar_130 rfl (lv_at hl 2 rfl) ?_
                            refine gf_X6_far hx hb hts hown hK hH (k := 65) (by omega) eM6 dX6_findFar_131 ?_
                            refine lv_aload_n hx hb dX6_findFar_134 rfl (lv_at hl 2 rfl) ?_
                            refine gf_X6_row hx hb hts hown hK hH (k := 65) (by omega) eM6 dX6_findFar_135 ?_
                            refine lv_iload_n hx hb dX6_findFar_138 rfl (lv_at hl 4 rfl) ?_
                            refine m_iald hx hb hK hH (k := 74) (by omega) e74 (i) (by omega) (by omega) (by decide) dX6_findFar_139 ?_
                            refine m_topI (fr) (hfr) ?_
                            refine m_iald hx hb hK hH (k := 73) (by omega) e73 (fr.toNat) (by omega) (by omega) (by decide) dX6_findFar_140 ?_
                            refine m_topI (nx0) (hnx) ?_
                            refine m_iconst 1 hx hb dX6_findFar_141 rfl ?_
                            refine m_iadd (nx0 + 1) hx hb dX6_findFar_142 (by omega) ?_
                            refine m_iast hx hb hK hH hA (k := 73) (by omega) e73 ((fr + bb).toNat) (by omega) (by omega) (by decide) dX6_findFar_143 (fun H locs σ_16 e73 hq_17 hH => ?_)
                            have eM6 : σ_16 (65) = .inr (6, [.int (oI (rf)), .ref (ad (66)), .int (oI (((si : Nat) : Int))), .ref (ad (67)), .ref (ad (68)), .ref (ad (69)), .int (oI (((ac6 : Nat) : Int))), .ref (ad (70)), .ref (ad (71)), .ref (ad (72)), .ref (ad (73)), .ref (ad (74)), .int (oI (((spo : Nat) : Int))), .int (oI (((ou6 : Nat) : Int)))]) := (hq_17 _ (by decide)).trans eM6
                            have e72 : σ_16 (72) = oAN cT 41 s := (hq_17 _ (by decide)).trans e72
                            have e74 : σ_16 (74) = oAI cT 201 Ln := (hq_17 _ (by decide)).trans e74
                            have hf : ∀ q : Nat, q ≠ 73 → q ≠ 74 → σ_16 q = σ q := fun q n0 n1 => (hq_17 q n0).trans (hf q n0 n1)
                            have hL40 : ∀ q : Nat, q ≠ 73 → q ≠ 74 → σ_16 q = σ_4 q := fun q n0 n1 => (hq_17 q n0).trans (hL40 q n0 n1)
                            have hL49 : ∀ q : Nat, q ≠ 73 → q ≠ 74 → σ_16 q = σL40 q := fun q n0 n1 => (hq_17 q n0).trans (hL49 q n0 n1)
                            refine lv_aload_n hx hb dX6_findFar_144 rfl (lv_at hl 2 rfl) ?_
                            refine gf_X6_row hx hb hts hown hK hH (k := 65) (by omega) eM6 dX6_findFar_145 ?_
                            refine lv_iload_n hx hb dX6_findFar_148 rfl (lv_at hl 3 rfl) ?_
                            refine lv_iload hx hb dX6_findFar_149 (lv_at hl 1 rfl) ?_
                            refine m_iast hx hb hK hH hA (k := 74) (by omega) e74 (ld) (by omega) (by have := hY9.2; omega) (by decide) dX6_findFar_151 (fun H locs σ_18 e74 hq_19 hH => ?_)
                            have eM6 : σ_18 (65) = .inr (6, [.int (oI (rf)), .ref (ad (66)), .int (oI (((si : Nat) : Int))), .ref (ad (67)), .ref (ad (68)), .ref (ad (69)), .int (oI (((ac6 : Nat) : Int))), .ref (ad (70)), .ref (ad (71)), .ref (ad (72)), .ref (ad (73)), .ref (ad (74)), .int (oI (((spo : Nat) : Int))), .int (oI (((ou6 : Nat) : Int)))]) := (hq_19 _ (by decide)).trans eM6
                            have e72 : σ_18 (72) = oAN cT 41 s := (hq_19 _ (by decide)).trans e72
                            have e73 : σ_18 (73) = oAI cT 201 (va_up S ((fr + bb).toNat) (nx0 + 1)) := (hq_19 _ (by decide)).trans e73
                            have hf : ∀ q : Nat, q ≠ 73 → q ≠ 74 → σ_18 q = σ q := fun q n0 n1 => (hq_19 q n1).trans (hf q n0 n1)
                            have hL40 : ∀ q : Nat, q ≠ 73 → q ≠ 74 → σ_18 q = σ_4 q := fun q n0 n1 => (hq_19 q n1).trans (hL40 q n0 n1)
                            have hL49 : ∀ q : Nat, q ≠ 73 → q ≠ 74 → σ_18 q = σL40 q := fun q n0 n1 => (hq_19 q n1).trans (hL49 q n0 n1)
                            refine m_iinc (((ld : Nat) : Int) + 1) [(2, .int (oI (((ld : Nat) : Int) + 1))), (6, .int (oI (1))), (5, .int (oI (bb + fr))), (0, .ref (ad (65))), (3, .int (oI (((i : Nat) : Int)))), (4, .int (oI (bb)))] hx hb dX6_findFar_152 hl (j := 3) rfl (by omega) (by decide) rfl (fun ls hl => ?_)
                            refine m_iinc (bb + 1) [(4, .int (oI (bb + 1))), (2, .int (oI (((ld : Nat) : Int) + 1))), (6, .int (oI (1))), (5, .int (oI (bb + fr))), (0, .ref (ad (65))), (3, .int (oI (((i : Nat) : Int))))] hx hb dX6_findFar_155 hl (j := 5) rfl (by omega) (by decide) rfl (fun ls hl => ?_)
                            refine lv_goto (tgt := 49) hx hb dX6_findFar_158 (by decide) ?_
                            exact ih49 (bb + 1) (ld + 1) (va_up S ((fr + bb).toNat) (nx0 + 1)) (va_up Ln ld (bb + fr)) (by omega) (by first | assumption | omega) (by rw [Int.add_comm bb fr]; exact hY.1) (by rw [Int.add_comm bb fr]; exact hY.2.1) (hY.2.2) _ e73 e74 (hL49) _ _ hH ls (lv_sub hl [4, 1, 5, 0] rfl)
                      · refine lv_iload hx hb dX6_findFar_89 (lv_at hl 4 rfl) ?_
                        refine m_ineg (-bb) hx hb dX6_findFar_91 (by omega) ?_
                        refine lv_goto (tgt := 97) hx hb dX6_findFar_92 (by decide) ?_
                        refine m_iald hx hb hK hH (k := 72) (by omega) e72 ((-bb).toNat) (by omega) (by omega) (by decide) dX6_findFar_97 ?_
                        refine m_topI (((s bb.natAbs : Nat) : Int)) (by rw [show (-bb).toNat = bb.natAbs by omega]) ?_
                        have hsb := hsq.2.2 bb.natAbs (by omega)
                        have hs0 := hsq.2.1
                        refine m_if_le 116 hx hb dX6_findFar_98 (by decide) (by omega) (fun hsp0 => ?_) (fun hsp0 => ?_)
                        · refine m_iconst 0 hx hb dX6_findFar_116 rfl ?_
                          refine lv_istore (lv' := [(6, .int (oI (0))), (5, .int (oI (bb + fr))), (0, .ref (ad (65))), (2, .int (oI (((ld : Nat) : Int)))), (3, .int (oI (((i : Nat) : Int)))), (4, .int (oI (bb)))]) hx hb dX6_findFar_117 hl (by decide) rfl (fun ls hl => ?_)
                          refine lv_iload hx hb dX6_findFar_119 (lv_at hl 0 rfl) ?_
                          refine m_if_eq 155 hx hb dX6_findFar_121 (by decide) (by omega) (fun h_21 => ?_) (fun h_21 => absurd h_21 (by omega))
                          refine m_iinc (bb + 1) [(4, .int (oI (bb + 1))), (6, .int (oI (0))), (5, .int (oI (bb + fr))), (0, .ref (ad (65))), (2, .int (oI (((ld : Nat) : Int)))), (3, .int (oI (((i : Nat) : Int))))] hx hb dX6_findFar_155 hl (j := 5) rfl (by omega) (by decide) rfl (fun ls hl => ?_)
                          refine lv_goto (tgt := 49) hx hb dX6_findFar_158 (by decide) ?_
                          exact ih49 (bb + 1) ld S Ln (by omega) (by first | assumption | omega) (oBK_no hKk (fun q1 q2 q3 q4 => absurd ((hsq.1 bb.natAbs (by omega) (by omega)).mpr q2) (by omega))) (by first | assumption | omega) (by first | assumption | omega) _ e73 e74 (hL49) _ _ hH ls (lv_sub hl [3, 4, 5, 0] rfl)
                        · have hb00 : bb ≠ 0 := fun q => by rw [q] at hsp0; have : s (0 : Int).natAbs = 0 := hs0; omega
                          refine lv_aload_n hx hb dX6_findFar_101 rfl (lv_at hl 1 rfl) ?_
                          refine gf_X6_far hx hb hts hown hK hH (k := 65) (by omega) eM6 dX6_findFar_102 ?_
                          refine lv_iload hx hb dX6_findFar_105 (lv_at hl 0 rfl) ?_
                          refine m_iald hx hb hK hH (k := 73) (by omega) e73 ((fr + bb).toNat) (by omega) (by omega) (by decide) dX6_findFar_107 ?_
                          have hsb2 := oBq_b hKk.1 (fr + bb).toNat (by omega)
                          refine m_iconst (-1) hx hb dX6_findFar_108 rfl ?_
                          refine m_icmp_ne 116 hx hb dX6_findFar_109 (by decide) (by omega) (by omega) (fun hne => ?_) (fun hne => ?_)
                          · refine m_iconst 0 hx hb dX6_findFar_116 rfl ?_
                            refine lv_istore (lv' := [(6, .int (oI (0))), (5, .int (oI (bb + fr))), (0, .ref (ad (65))), (2, .int (oI (((ld : Nat) : Int)))), (3, .int (oI (((i : Nat) : Int)))), (4, .int (oI (bb)))]) hx hb dX6_findFar_117 hl (by decide) rfl (fun ls hl => ?_)
                            refine lv_iload hx hb dX6_findFar_119 (lv_at hl 0 rfl) ?_
                            refine m_if_eq 155 hx hb dX6_findFar_121 (by decide) (by omega) (fun h_23 => ?_) (fun h_23 => absurd h_23 (by omega))
                            refine m_iinc (bb + 1) [(4, .int (oI (bb + 1))), (6, .int (oI (0))), (5, .int (oI (bb + fr))), (0, .ref (ad (65))), (2, .int (oI (((ld : Nat) : Int)))), (3, .int (oI (((i : Nat) : Int))))] hx hb dX6_findFar_155 hl (j := 5) rfl (by omega) (by decide) rfl (fun ls hl => ?_)
                            refine lv_goto (tgt := 49) hx hb dX6_findFar_158 (by decide) ?_
                            exact ih49 (bb + 1) ld S Ln (by omega) (by first | assumption | omega) (oBK_no hKk (fun q1 q2 q3 q4 => by rw [hfr]; exact hne)) (by first | assumption | omega) (by first | assumption | omega) _ e73 e74 (hL49) _ _ hH ls (lv_sub hl [3, 4, 5, 0] rfl)
                          · have hY9 := oBK_yes hKk (by omega) hb00 ((hsq.1 bb.natAbs (by omega) (by omega)).mp (by omega)) hfr hnx (by omega) (by omega) hne
                            have hY := hY9.1
                            refine m_iconst 1 hx hb dX6_findFar_112 rfl ?_
                            refine lv_goto (tgt := 117) hx hb dX6_findFar_113 (by decide) ?_
                            refine lv_istore (lv' := [(6, .int (oI (1))), (5, .int (oI (bb + fr))), (0, .ref (ad (65))), (2, .int (oI (((ld : Nat) : Int)))), (3, .int (oI (((i : Nat) : Int)))), (4, .int (oI (bb)))]) hx hb dX6_findFar_117 hl (by decide) rfl (fun ls hl => ?_)
                            refine lv_iload hx hb dX6_findFar_119 (lv_at hl 0 rfl) ?_
                            refine m_if_eq 155 hx hb dX6_findFar_121 (by decide) (by omega) (fun h_24 => absurd h_24 (by omega)) (fun h_24 => ?_)
                            refine lv_aload_n hx hb dX6_findFar_124 rfl (lv_at hl 2 rfl) ?_
                            refine gf_X6_far hx hb hts hown hK hH (k := 65) (by omega) eM6 dX6_findFar_125 ?_
                            refine lv_iload hx hb dX6_findFar_128 (lv_at hl 1 rfl) ?_
                            refine lv_aload_n hx hb dX6_findFar_130 rfl (lv_at hl 2 rfl) ?_
                            refine gf_X6_far hx hb hts hown hK hH (k := 65) (by omega) eM6 dX6_findFar_131 ?_
                            refine lv_aload_n hx hb dX6_findFar_134 rfl (lv_at hl 2 rfl) ?_
                            refine gf_X6_row hx hb hts hown hK hH (k := 65) (by omega) eM6 dX6_findFar_135 ?_
                            refine lv_iload_n hx hb dX6_findFar_138 rfl (lv_at hl 4 rfl) ?_
                            refine m_iald hx hb hK hH (k := 74) (by omega) e74 (i) (by omega) (by omega) (by decide) dX6_findFar_139 ?_
                            refine m_topI (fr) (hfr) ?_
                            refine m_iald hx hb hK hH (k := 73) (by omega) e73 (fr.toNat) (by omega) (by omega) (by decide) dX6_findFar_140 ?_
                            refine m_topI (nx0) (hnx) ?_
                            refine m_iconst 1 hx hb dX6_findFar_141 rfl ?_
                            refine m_iadd (nx0 + 1) hx hb dX6_findFar_142 (by omega) ?_
                            refine m_iast hx hb hK hH hA (k := 73) (by omega) e73 ((fr + bb).toNat) (by omega) (by omega) (by decide) dX6_findFar_143 (fun H locs σ_25 e73 hq_26 hH => ?_)
                            have eM6 : σ_25 (65) = .inr (6, [.int (oI (rf)), .ref (ad (66)), .int (oI (((si : Nat) : Int))), .ref (ad (67)), .ref (ad (68)), .ref (ad (69)), .int (oI (((ac6 : Nat) : Int))), .ref (ad (70)), .ref (ad (71)), .ref (ad (72)), .ref (ad (73)), .ref (ad (74)), .int (oI (((spo : Nat) : Int))), .int (oI (((ou6 : Nat) : Int)))]) := (hq_26 _ (by decide)).trans eM6
                            have e72 : σ_25 (72) = oAN cT 41 s := (hq_26 _ (by decide)).trans e72
                            have e74 : σ_25 (74) = oAI cT 201 Ln := (hq_26 _ (by decide)).trans e74
                            have hf : ∀ q : Nat, q ≠ 73 → q ≠ 74 → σ_25 q = σ q := fun q n0 n1 => (hq_26 q n0).trans (hf q n0 n1)
                            have hL40 : ∀ q : Nat, q ≠ 73 → q ≠ 74 → σ_25 q = σ_4 q := fun q n0 n1 => (hq_26 q n0).trans (hL40 q n0 n1)
                            have hL49 : ∀ q : Nat, q ≠ 73 → q ≠ 74 → σ_25 q = σL40 q := fun q n0 n1 => (hq_26 q n0).trans (hL49 q n0 n1)
                            refine lv_aload_n hx hb dX6_findFar_144 rfl (lv_at hl 2 rfl) ?_
                            refine gf_X6_row hx hb hts hown hK hH (k := 65) (by omega) eM6 dX6_findFar_145 ?_
                            refine lv_iload_n hx hb dX6_findFar_148 rfl (lv_at hl 3 rfl) ?_
                            refine lv_iload hx hb dX6_findFar_149 (lv_at hl 1 rfl) ?_
                            refine m_iast hx hb hK hH hA (k := 74) (by omega) e74 (ld) (by omega) (by have := hY9.2; omega) (by decide) dX6_findFar_151 (fun H locs σ_27 e74 hq_28 hH => ?_)
                            have eM6 : σ_27 (65) = .inr (6, [.int (oI (rf)), .ref (ad (66)), .int (oI (((si : Nat) : Int))), .ref (ad (67)), .ref (ad (68)), .ref (ad (69)), .int (oI (((ac6 : Nat) : Int))), .ref (ad (70)), .ref (ad (71)), .ref (ad (72)), .ref (ad (73)), .ref (ad (74)), .int (oI (((spo : Nat) : Int))), .int (oI (((ou6 : Nat) : Int)))]) := (hq_28 _ (by decide)).trans eM6
                            have e72 : σ_27 (72) = oAN cT 41 s := (hq_28 _ (by decide)).trans e72
                            have e73 : σ_27 (73) = oAI cT 201 (va_up S ((fr + bb).toNat) (nx0 + 1)) := (hq_28 _ (by decide)).trans e73
                            have hf : ∀ q : Nat, q ≠ 73 → q ≠ 74 → σ_27 q = σ q := fun q n0 n1 => (hq_28 q n1).trans (hf q n0 n1)
                            have hL40 : ∀ q : Nat, q ≠ 73 → q ≠ 74 → σ_27 q = σ_4 q := fun q n0 n1 => (hq_28 q n1).trans (hL40 q n0 n1)
                            have hL49 : ∀ q : Nat, q ≠ 73 → q ≠ 74 → σ_27 q = σL40 q := fun q n0 n1 => (hq_28 q n1).trans (hL49 q n0 n1)
                            refine m_iinc (((ld : Nat) : Int) + 1) [(2, .int (oI (((ld : Nat) : Int) + 1))), (6, .int (oI (1))), (5, .int (oI (bb + fr))), (0, .ref (ad (65))), (3, .int (oI (((i : Nat) : Int)))), (4, .int (oI (bb)))] hx hb dX6_findFar_152 hl (j := 3) rfl (by omega) (by decide) rfl (fun ls hl => ?_)
                            refine m_iinc (bb + 1) [(4, .int (oI (bb + 1))), (2, .int (oI (((ld : Nat) : Int) + 1))), (6, .int (oI (1))), (5, .int (oI (bb + fr))), (0, .ref (ad (65))), (3, .int (oI (((i : Nat) : Int))))] hx hb dX6_findFar_155 hl (j := 5) rfl (by omega) (by decide) rfl (fun ls hl => ?_)
                            refine lv_goto (tgt := 49) hx hb dX6_findFar_158 (by decide) ?_
                            exact ih49 (bb + 1) (ld + 1) (va_up S ((fr + bb).toNat) (nx0 + 1)) (va_up Ln ld (bb + fr)) (by omega) (by first | assumption | omega) (by rw [Int.add_comm bb fr]; exact hY.1) (by rw [Int.add_comm bb fr]; exact hY.2.1) (hY.2.2) _ e73 e74 (hL49) _ _ hH ls (lv_sub hl [4, 1, 5, 0] rfl)
                    · refine m_if_eq 116 hx hb dX6_findFar_77 (by decide) (by omega) (fun h_29 => ?_) (fun h_29 => absurd h_29 (by omega))
                      refine m_iconst 0 hx hb dX6_findFar_116 rfl ?_
                      refine lv_istore (lv' := [(6, .int (oI (0))), (5, .int (oI (bb + fr))), (0, .ref (ad (65))), (2, .int (oI (((ld : Nat) : Int)))), (3, .int (oI (((i : Nat) : Int)))), (4, .int (oI (bb)))]) hx hb dX6_findFar_117 hl (by decide) rfl (fun ls hl => ?_)
                      refine lv_iload hx hb dX6_findFar_119 (lv_at hl 0 rfl) ?_
                      refine m_if_eq 155 hx hb dX6_findFar_121 (by decide) (by omega) (fun h_30 => ?_) (fun h_30 => absurd h_30 (by omega))
                      refine m_iinc (bb + 1) [(4, .int (oI (bb + 1))), (6, .int (oI (0))), (5, .int (oI (bb + fr))), (0, .ref (ad (65))), (2, .int (oI (((ld : Nat) : Int)))), (3, .int (oI (((i : Nat) : Int))))] hx hb dX6_findFar_155 hl (j := 5) rfl (by omega) (by decide) rfl (fun ls hl => ?_)
                      refine lv_goto (tgt := 49) hx hb dX6_findFar_158 (by decide) ?_
                      exact ih49 (bb + 1) ld S Ln (by omega) (by first | assumption | omega) (oBK_no hKk (fun q1 q2 q3 q4 => by rw [hfr] at q3 q4; omega)) (by first | assumption | omega) (by first | assumption | omega) _ e73 e74 (hL49) _ _ hH ls (lv_sub hl [3, 4, 5, 0] rfl)
              exact L49 _ (-40) ld S Ln (Nat.lt_succ_self _) (by first | assumption | omega) (oBK_in hG (by omega)) (hfr) (hnx) _ e73 e74 (fun q _ _ => rfl) _ _ hH ls (lv_sub hl [1, 2, 3, 0] rfl)
        exact L40 _ 0 1 (va_up F1 a0 0) (va_up R 0 ((a0 : Nat) : Int)) (Nat.lt_succ_self _) (by first | assumption | omega) (oBG_start ha (fun t ht => hz t (by omega))) _ e73 e74 (fun q _ _ => rfl) _ _ hH ls (lv_sub hl [2, 1, 0] rfl)
      · refine lv_aload_n hx hb dX6_findFar_9 rfl (lv_at hl 0 rfl) ?_
        refine gf_X6_far hx hb hts hown hK hH (k := 65) (by omega) eM6 dX6_findFar_10 ?_
        refine lv_iload_n hx hb dX6_findFar_13 rfl (lv_at hl 2 rfl) ?_
        refine m_iconst (-1) hx hb dX6_findFar_14 rfl ?_
        refine m_iast hx hb hK hH hA (k := 73) (by omega) e73 (i) (by omega) (by omega) (by decide) dX6_findFar_15 (fun H locs σ_31 e73 hq_32 hH => ?_)
        have eM6 : σ_31 (65) = .inr (6, [.int (oI (rf)), .ref (ad (66)), .int (oI (((si : Nat) : Int))), .ref (ad (67)), .ref (ad (68)), .ref (ad (69)), .int (oI (((ac6 : Nat) : Int))), .ref (ad (70)), .ref (ad (71)), .ref (ad (72)), .ref (ad (73)), .ref (ad (74)), .int (oI (((spo : Nat) : Int))), .int (oI (((ou6 : Nat) : Int)))]) := (hq_32 _ (by decide)).trans eM6
        have e72 : σ_31 (72) = oAN cT 41 s := (hq_32 _ (by decide)).trans e72
        have e74 : σ_31 (74) = oAI cT 201 R := (hq_32 _ (by decide)).trans e74
        have hf : ∀ q : Nat, q ≠ 73 → q ≠ 74 → σ_31 q = σ q := fun q n0 n1 => (hq_32 q n0).trans (hf q n0 n1)
        have hL2 : ∀ q : Nat, q ≠ 73 → σ_31 q = σ q := fun q n0 => (hq_32 q n0).trans (hL2 q n0)
        refine m_iinc (((i : Nat) : Int) + 1) [(2, .int (oI (((i : Nat) : Int) + 1))), (0, .ref (ad (65))), (1, .int (oI (((a0 : Nat) : Int))))] hx hb dX6_findFar_16 hl (j := 2) rfl (by omega) (by decide) rfl (fun ls hl => ?_)
        refine lv_goto (tgt := 2) hx hb dX6_findFar_19 (by decide) ?_
        exact ih2 (i + 1) (va_up F1 i (-1)) (by omega) (by first | assumption | omega) (fun k h => by
        by_cases e : k = i
        · rw [e, va_up_s]
        · rw [va_up_n _ _ e]; exact hz k (by omega)) _ e73 (hL2) _ _ hH ls (lv_sub hl [1, 2, 0] rfl)
  exact L2 _ 0 F (Nat.lt_succ_self _) (by first | assumption | omega) (fun k h => absurd h (Nat.not_lt_zero _)) _ e73 (fun q _ => rfl) _ _ hH ls (lv_sub hl [1, 2, 0] rfl)
