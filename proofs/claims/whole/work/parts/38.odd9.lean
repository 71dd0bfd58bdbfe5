theorem oRk_next {w lo kc : Nat} (hw : w < 2 ^ 41) (h : kc = oRk w lo + (if w.testBit lo = true then oBt w lo 41 else 0)) : kc = oRk w (lo + 1) := by
  by_cases b : w.testBit lo = true
  · rw [if_pos b, oBt_41 hw] at h
    rw [oRk_y b]; exact h
  · rw [if_neg b] at h
    rw [oRk_n b]; exact h
theorem oRk_next2 {w lo kc hj : Nat} (b : ¬ w.testBit lo = true) (h : kc = oRk w lo + (if w.testBit lo = true then oBt w lo hj else 0)) : kc = oRk w (lo + 1) := by
  rw [if_neg b] at h
  rw [oRk_n b]; exact h
theorem oBt_go {w lo hj kc : Nat} (bl : w.testBit lo = true) (bh : w.testBit hj = true) (hl : lo < hj) (h : kc = oRk w lo + (if w.testBit lo = true then oBt w lo hj else 0)) : kc + 1 = oRk w lo + (if w.testBit lo = true then oBt w lo (hj + 1) else 0) := by
  rw [if_pos bl] at h ⊢
  rw [oBt_s, if_pos ⟨hl, bh⟩]
  omega
theorem oBt_stay {w lo hj kc : Nat} (bh : ¬ w.testBit hj = true) (h : kc = oRk w lo + (if w.testBit lo = true then oBt w lo hj else 0)) : kc = oRk w lo + (if w.testBit lo = true then oBt w lo (hj + 1) else 0) := by
  by_cases bl : w.testBit lo = true
  · rw [if_pos bl] at h ⊢
    rw [oBt_s, if_neg (fun q => bh q.2)]
    exact h
  · rw [if_neg bl] at h ⊢
    exact h
theorem oPk {n ri lo hj kc : Nat} {w : Nat → Nat} (hw : ∀ r : Int, oRow n w r < 2 ^ 41) (bl : (oRow n w ((ri : Nat) : Int)).testBit lo = true) (bh : (oRow n w ((ri : Nat) : Int)).testBit hj = true) (hl : lo < hj) (h40 : hj ≤ 40) (h : kc = oRk (oRow n w ((ri : Nat) : Int)) lo + (if (oRow n w ((ri : Nat) : Int)).testBit lo = true then oBt (oRow n w ((ri : Nat) : Int)) lo hj else 0)) : oBy n w ri kc = (hj : Int) - (lo : Int) ∧ oEq2 (kc < oCk n w ri) := by
  rw [if_pos bl] at h
  obtain ⟨e1, e2⟩ := oPair (w := oRow n w ((ri : Nat) : Int)) (k := kc) h40 hl bl bh h.symm
  refine ⟨by unfold oBy; rw [e1, e2], ?_⟩
  show _ < oSp _
  rw [← oRk_41 (hw _)]
  have h1 := oBt_lt (w := oRow n w ((ri : Nat) : Int)) (p := lo) (q := hj) (by omega) hl bh
  have h2 := oRk_mono (oRow n w ((ri : Nat) : Int)) (a := lo + 1) (b := 41) (by omega)
  rw [oRk_y bl] at h2
  omega
theorem oNo_0 {n : Nat} {w : Nat → Nat} {D : Int → Int} {fr lt : Int} : oNo n w D fr lt 0 0 := fun r k q => by omega
theorem oNo_k {n r k : Nat} {w : Nat → Nat} {D : Int → Int} {fr lt : Int} (h : oNo n w D fr lt r k) (h1 : ¬ D (fr + oBy n w r k) = lt) (h2 : ¬ D (fr - oBy n w r k) = lt) : oNo n w D fr lt r (k + 1) := by
  intro r' k' q
  by_cases e : r' = r ∧ k' = k
  · obtain ⟨rfl, rfl⟩ := e
    exact ⟨h1, h2⟩
  · exact h r' k' (q.elim Or.inl (fun z => Or.inr ⟨z.1, by omega⟩))
theorem oNo_r {n r kk : Nat} {w : Nat → Nat} {D : Int → Int} {fr lt : Int} (hw : ∀ r : Int, oRow n w r < 2 ^ 41) (h : oNo n w D fr lt r kk) (hk : kk = oRk (oRow n w ((r : Nat) : Int)) 41) : oNo n w D fr lt (r + 1) 0 := by
  intro r' k' q
  refine h r' k' (q.elim (fun z => ?_) (fun z => absurd z.2 (Nat.not_lt_zero _)))
  by_cases e : r' = r
  · subst e
    exact Or.inr ⟨rfl, by rw [hk, oRk_41 (hw _)]; exact z.2⟩
  · exact Or.inl ⟨by omega, z.2⟩
theorem oNo_all {n r : Nat} {w : Nat → Nat} {D : Int → Int} {fr lt : Int} (h : oNo n w D fr lt r 0) (hr : n ≤ r) : ¬ ∃ r k : Nat, r < n ∧ k < oCk n w r ∧ (D (fr + oBy n w r k) = lt ∨ D (fr - oBy n w r k) = lt) := by
  rintro ⟨r', k', h1, h2, h3⟩
  have h4 := h r' k' (Or.inl ⟨by omega, h2⟩)
  exact h3.elim h4.1 h4.2
theorem oD_in {sp a : Nat} {x : Int} (h : 0 ≤ oD sp a x) : 0 ≤ x ∧ x ≤ 200 := Classical.byContradiction (fun q => by unfold oD at h; rw [if_neg q] at h; omega)
set_option maxHeartbeats 8000000 in
set_option maxRecDepth 100000 in
theorem c5_layNext {l : Launch} {D : va_G} {cT : Nat → ClassId} {N b0 : Nat} {ad : Nat → Nat} (hA : oAd b0 N ad) {σ : Nat → va_E} (lt : Int) (n a g : Nat) (sz w : Nat → Nat) (ld sp aa : Nat) (S Ln : Nat → Int) (lr lk : Nat) (lf le : Int) (ff sf : Int) (hN : 76 ≤ N) (hwf : oWf n sz w) (hS : ∀ x : Int, oSt S x = oD sp aa x) (haa : aa ≤ 200) (hlt : 0 ≤ lt ∧ lt ≤ 200) (hle : 0 ≤ le ∧ le ≤ 200) (hex : ∃ r k : Nat, r < n ∧ k < oCk n w r ∧ ((oD sp aa) (le + oBy n w r k) = lt ∨ (oD sp aa) (le - oBy n w r k) = lt)) (eO : σ (0) = .inr (5, [.ref (ad (1)), .ref (ad (4)), .ref (ad (7)), .ref (ad (10)), .int (oI (ff)), .int (oI (sf)), .ref (ad (13)), .ref (ad (57)), .ref (ad (59)), .ref (ad (64))])) (e0 : σ (1) = .inr (4, [.ref (ad (2)), .ref (ad (3)), .int (oI (((n : Nat) : Int))), .int (oI (((a : Nat) : Int))), .int (oI (((g : Nat) : Int)))])) (e1 : σ (2) = oAN cT 4 sz) (e2 : σ (3) = oAJ cT 4 w) (e59 : σ (59) = .inr (3, [.ref (ad (60)), .ref (ad (61)), .int (oI (((ld : Nat) : Int))), .ref (ad (62)), .ref (ad (63))])) (e60 : σ (60) = oAI cT 201 S) (e61 : σ (61) = oAI cT 201 Ln) (e64 : σ (64) = .inr (1, [.int (oI (((lr : Nat) : Int))), .int (oI (((lk : Nat) : Int))), .int (oI (lf)), .int (oI (le))])) :
    oCv l D cT N ad b0 yX5_layNext cX5_layNext 7 none 2 44 [.ref (ad (0)), .int (oI (lt))] σ (fun uu => ∃ r2 : Nat, ∃ k2 : Nat, ∃ fd : Int, ∃ ed : Int, (oNx n w (oD sp aa) le lt r2 k2 fd ed) ∧ (0 ≤ ed ∧ ed ≤ 200) ∧ (fd = 0 ∨ fd = 1) ∧ uu (64) = .inr (1, [.int (oI (((r2 : Nat) : Int))), .int (oI (((k2 : Nat) : Int))), .int (oI (fd)), .int (oI (ed))]) ∧ (∀ q : Nat, q ≠ 64 → uu q = σ q)) := by
  refine m_start (cc := cX5_layNext) (by decide) (Nat.le_of_ble_eq_true rfl) rfl ?_
  intro Pp Ee Ss Mm Bb Me Cc Ar ls hx hb hml hown hlk hrt hts hK hH hl
  have hown : Ss.vm.findClass RX5 = some Mm.cls := hown
  have hn := hwf.1
  have hsz := oSize_le hwf
  have hw64 := oRow_64 hwf
  have hw41 := oRow_lt hwf
  have hl : lv_has ls 7 [(0, .ref (ad (0))), (1, .int (oI (lt)))] := hl
  have hf : ∀ q : Nat, q ≠ 64 → σ q = σ q := fun q _ => rfl
  refine lv_aload_n hx hb dX5_layNext_0 rfl (lv_at hl 0 rfl) ?_
  refine gf_X5_laid hx hb hts hown hK hH (k := 0) (by omega) eO dX5_layNext_1 ?_
  refine m_pVi hx hb hml hown hts hK hH hl (rest := []) cw_X5_292 (c1_end hA lr lk lf le (by first | assumption | omega) (by first | assumption | omega) e64) ⟨Nat.le_of_ble_eq_true rfl, Nat.le_of_ble_eq_true rfl⟩ ⟨Nat.le_of_ble_eq_true rfl, Nat.le_of_ble_eq_true rfl⟩ rfl (k := 64) (by omega) e64 rfl rfl (Nat.le_of_ble_eq_true rfl) dX5_layNext_4 (fun H locs hH => ?_)
  refine lv_istore_n (lv' := [(2, .int (oI (le))), (0, .ref (ad (0))), (1, .int (oI (lt)))]) hx hb dX5_layNext_7 rfl hl (by decide) rfl (fun ls hl => ?_)
  refine m_iconst 0 hx hb dX5_layNext_8 rfl ?_
  refine lv_istore_n (lv' := [(3, .int (oI (0))), (2, .int (oI (le))), (0, .ref (ad (0))), (1, .int (oI (lt)))]) hx hb dX5_layNext_9 rfl hl (by decide) rfl (fun ls hl => ?_)
  have L10 : ∀ (fu : Nat) (ri : Nat), (5 - ri < fu) → (ri ≤ n) → (oNo n w (oD sp aa) le lt ri 0) → ∀ (H : Heap) (locs : List Loc), oH b0 D N ad Ss.heap σ H locs → ∀ ls : Array Slot, lv_has ls 7 [(0, .ref (ad (0))), (1, .int (oI (lt))), (2, .int (oI (le))), (3, .int (oI (((ri : Nat) : Int))))] → W Pp l Ee { frames := 2, cells := 0, slots := 0, locals := 44 } Ss Mm Ar Bb Me Cc H locs 0 0 (MQ Bb (va_Qv (fun uu => ∃ r2 : Nat, ∃ k2 : Nat, ∃ fd : Int, ∃ ed : Int, (oNx n w (oD sp aa) le lt r2 k2 fd ed) ∧ (0 ≤ ed ∧ ed ≤ 200) ∧ (fd = 0 ∨ fd = 1) ∧ uu (64) = .inr (1, [.int (oI (((r2 : Nat) : Int))), .int (oI (((k2 : Nat) : Int))), .int (oI (fd)), .int (oI (ed))]) ∧ (∀ q : Nat, q ≠ 64 → uu q = σ q)) (oV D N ad) (fun q => b0 ≤ q)) Ar Ss 0 0 (fun q => b0 ≤ q)) (F0 Mm 10 ls []) := by
    intro fu10
    induction fu10 with
    | zero =>
      intro ri hm10
      exact absurd hm10 (Nat.not_lt_zero _)
    | succ fu10 ih10 =>
      intro ri hm10 hri hno H locs hH ls hl
      refine lv_iload_n hx hb dX5_layNext_10 rfl (lv_at hl 3 rfl) ?_
      refine lv_aload_n hx hb dX5_layNext_11 rfl (lv_at hl 0 rfl) ?_
      refine gf_X5_present hx hb hts hown hK hH (k := 0) (by omega) eO dX5_layNext_12 ?_
      refine m_pVi hx hb hml hown hts hK hH hl (rest := [.int (oI (((ri : Nat) : Int)))]) cw_X5_98 (c4_rulers hA 1 n a g sz w (by first | assumption | omega) e0 e1 e2) ⟨Nat.le_of_ble_eq_true rfl, Nat.le_of_ble_eq_true rfl⟩ ⟨Nat.le_of_ble_eq_true rfl, Nat.le_of_ble_eq_true rfl⟩ rfl (k := 1) (by omega) e0 rfl rfl (Nat.le_of_ble_eq_true rfl) dX5_layNext_15 (fun H locs hH => ?_)
      refine m_icmp_ge 176 hx hb dX5_layNext_18 (by decide) (by omega) (by omega) (fun h_1 => ?_) (fun h_1 => ?_)
      · exact absurd hex (oNo_all hno (by omega))
      · refine lv_iload_n hx hb dX5_layNext_21 rfl (lv_at hl 3 rfl) ?_
        refine m_iconst 4 hx hb dX5_layNext_22 rfl ?_
        refine m_icmp_ge 176 hx hb dX5_layNext_23 (by decide) (by omega) (by omega) (fun h_2 => absurd h_2 (by omega)) (fun h_2 => ?_)
        refine m_iconst 0 hx hb dX5_layNext_26 rfl ?_
        refine lv_istore (lv' := [(4, .int (oI (0))), (0, .ref (ad (0))), (1, .int (oI (lt))), (2, .int (oI (le))), (3, .int (oI (((ri : Nat) : Int))))]) hx hb dX5_layNext_27 hl (by decide) rfl (fun ls hl => ?_)
        refine m_iconst 0 hx hb dX5_layNext_29 rfl ?_
        refine lv_istore (lv' := [(5, .int (oI (0))), (4, .int (oI (0))), (0, .ref (ad (0))), (1, .int (oI (lt))), (2, .int (oI (le))), (3, .int (oI (((ri : Nat) : Int))))]) hx hb dX5_layNext_30 hl (by decide) rfl (fun ls hl => ?_)
        have L32 : ∀ (fu : Nat) (kk : Nat) (lo : Nat), (42 - lo < fu) → (lo ≤ 41) → (kk = oRk (oRow n w ((ri : Nat) : Int)) lo) → (kk ≤ 4000) → (oNo n w (oD sp aa) le lt ri kk) → ∀ (H : Heap) (locs : List Loc), oH b0 D N ad Ss.heap σ H locs → ∀ ls : Array Slot, lv_has ls 7 [(0, .ref (ad (0))), (1, .int (oI (lt))), (2, .int (oI (le))), (3, .int (oI (((ri : Nat) : Int)))), (4, .int (oI (((kk : Nat) : Int)))), (5, .int (oI (((lo : Nat) : Int))))] → W Pp l Ee { frames := 2, cells := 0, slots := 0, locals := 44 } Ss Mm Ar Bb Me Cc H locs 0 0 (MQ Bb (va_Qv (fun uu => ∃ r2 : Nat, ∃ k2 : Nat, ∃ fd : Int, ∃ ed : Int, (oNx n w (oD sp aa) le lt r2 k2 fd ed) ∧ (0 ≤ ed ∧ ed ≤ 200) ∧ (fd = 0 ∨ fd = 1) ∧ uu (64) = .inr (1, [.int (oI (((r2 : Nat) : Int))), .int (oI (((k2 : Nat) : Int))), .int (oI (fd)), .int (oI (ed))]) ∧ (∀ q : Nat, q ≠ 64 → uu q = σ q)) (oV D N ad) (fun q => b0 ≤ q)) Ar Ss 0 0 (fun q => b0 ≤ q)) (F0 Mm 32 ls []) := by
          intro fu32
          induction fu32 with
          | zero =>
            intro kk lo hm32
            exact absurd hm32 (Nat.not_lt_zero _)
          | succ fu32 ih32 =>
            intro kk lo hm32 hlo hkk hkb hno2 H locs hH ls hl
            refine lv_iload hx hb dX5_layNext_32 (lv_at hl 5 rfl) ?_
            refine m_bipush 40 hx hb dX5_layNext_34 (by decide) ?_
            refine m_icmp_gt 170 hx hb dX5_layNext_36 (by decide) (by omega) (by omega) (fun h_3 => ?_) (fun h_3 => ?_)
            · refine m_iinc (((ri : Nat) : Int) + 1) [(3, .int (oI (((ri : Nat) : Int) + 1))), (0, .ref (ad (0))), (1, .int (oI (lt))), (2, .int (oI (le))), (4, .int (oI (((kk : Nat) : Int)))), (5, .int (oI (((lo : Nat) : Int))))] hx hb dX5_layNext_170 hl (j := 3) rfl (by omega) (by decide) rfl (fun ls hl => ?_)
              refine lv_goto (tgt := 10) hx hb dX5_layNext_173 (by decide) ?_
              exact ih10 (ri + 1) (by omega) (by first | assumption | omega) (oNo_r hw41 hno2 (by rw [hkk, show lo = 41 by omega])) _ _ hH ls (lv_sub hl [1, 2, 3, 0] rfl)
            · refine lv_iload hx hb dX5_layNext_39 (lv_at hl 5 rfl) ?_
              refine m_iconst 1 hx hb dX5_layNext_41 rfl ?_
              refine m_iadd (((lo : Nat) : Int) + 1) hx hb dX5_layNext_42 (by omega) ?_
              refine lv_istore (lv' := [(6, .int (oI (((lo : Nat) : Int) + 1))), (0, .ref (ad (0))), (1, .int (oI (lt))), (2, .int (oI (le))), (3, .int (oI (((ri : Nat) : Int)))), (4, .int (oI (((kk : Nat) : Int)))), (5, .int (oI (((lo : Nat) : Int))))]) hx hb dX5_layNext_43 hl (by decide) rfl (fun ls hl => ?_)
              have L45 : ∀ (fu : Nat) (kc : Nat) (hj : Nat), (42 - hj < fu) → (lo < hj ∧ hj ≤ 41) → (kc = oRk (oRow n w ((ri : Nat) : Int)) lo + (if (oRow n w ((ri : Nat) : Int)).testBit lo = true then oBt (oRow n w ((ri : Nat) : Int)) lo hj else 0)) → (kc ≤ 4000 + hj) → (oNo n w (oD sp aa) le lt ri kc) → ∀ (H : Heap) (locs : List Loc), oH b0 D N ad Ss.heap σ H locs → ∀ ls : Array Slot, lv_has ls 7 [(0, .ref (ad (0))), (1, .int (oI (lt))), (2, .int (oI (le))), (3, .int (oI (((ri : Nat) : Int)))), (4, .int (oI (((kc : Nat) : Int)))), (5, .int (oI (((lo : Nat) : Int)))), (6, .int (oI (((hj : Nat) : Int))))] → W Pp l Ee { frames := 2, cells := 0, slots := 0, locals := 44 } Ss Mm Ar Bb Me Cc H locs 0 0 (MQ Bb (va_Qv (fun uu => ∃ r2 : Nat, ∃ k2 : Nat, ∃ fd : Int, ∃ ed : Int, (oNx n w (oD sp aa) le lt r2 k2 fd ed) ∧ (0 ≤ ed ∧ ed ≤ 200) ∧ (fd = 0 ∨ fd = 1) ∧ uu (64) = .inr (1, [.int (oI (((r2 : Nat) : Int))), .int (oI (((k2 : Nat) : Int))), .int (oI (fd)), .int (oI (ed))]) ∧ (∀ q : Nat, q ≠ 64 → uu q = σ q)) (oV D N ad) (fun q => b0 ≤ q)) Ar Ss 0 0 (fun q => b0 ≤ q)) (F0 Mm 45 ls []) := by
                intro fu45
                induction fu45 with
                | zero =>
                  intro kc hj hm45
                  exact absurd hm45 (Nat.not_lt_zero _)
                | succ fu45 ih45 =>
                  intro kc hj hm45 hhj hk3 hcb hno3 H locs hH ls hl
                  refine lv_iload hx hb dX5_layNext_45 (lv_at hl 6 rfl) ?_
                  refine m_bipush 40 hx hb dX5_layNext_47 (by decide) ?_
                  refine m_icmp_gt 164 hx hb dX5_layNext_49 (by decide) (by omega) (by omega) (fun h_4 => ?_) (fun h_4 => ?_)
                  · refine m_iinc (((lo : Nat) : Int) + 1) [(5, .int (oI (((lo : Nat) : Int) + 1))), (0, .ref (ad (0))), (1, .int (oI (lt))), (2, .int (oI (le))), (3, .int (oI (((ri : Nat) : Int)))), (4, .int (oI (((kc : Nat) : Int)))), (6, .int (oI (((hj : Nat) : Int))))] hx hb dX5_layNext_164 hl (j := 5) rfl (by omega) (by decide) rfl (fun ls hl => ?_)
                    refine lv_goto (tgt := 32) hx hb dX5_layNext_167 (by decide) ?_
                    exact ih32 kc (lo + 1) (by omega) (by first | assumption | omega) (oRk_next (hw41 _) (by rw [show hj = 41 by omega] at hk3; exact hk3)) (by have := oRk_le (oRow n w ((ri : Nat) : Int)) (lo + 1); have e9 : kc = oRk (oRow n w ((ri : Nat) : Int)) (lo + 1) := oRk_next (hw41 _) (by rw [show hj = 41 by omega] at hk3; exact hk3); omega) (hno3) _ _ hH ls (lv_sub hl [1, 2, 3, 4, 5, 0] rfl)
                  · refine lv_aload_n hx hb dX5_layNext_52 rfl (lv_at hl 0 rfl) ?_
                    refine gf_X5_present hx hb hts hown hK hH (k := 0) (by omega) eO dX5_layNext_53 ?_
                    refine lv_iload_n hx hb dX5_layNext_56 rfl (lv_at hl 3 rfl) ?_
                    refine lv_iload hx hb dX5_layNext_57 (lv_at hl 5 rfl) ?_
                    refine m_pVb hx hb hml hown hts hK hH hl (rest := []) cw_X5_170 (c4_hasMark hA 1 n a g sz w ((ri : Nat) : Int) ((lo : Nat) : Int) (by first | assumption | omega) (by first | assumption | omega) (by first | assumption | omega) (by first | assumption | omega) (by first | assumption | omega) e0 e1 e2) ⟨Nat.le_of_ble_eq_true rfl, Nat.le_of_ble_eq_true rfl⟩ ⟨Nat.le_of_ble_eq_true rfl, Nat.le_of_ble_eq_true rfl⟩ rfl (k := 1) (by omega) e0 rfl rfl (Nat.le_of_ble_eq_true rfl) dX5_layNext_59 (fun hM H locs hH => ?_) (fun hM H locs hH => ?_)
                    · refine m_if_eq 164 hx hb dX5_layNext_62 (by decide) (by omega) (fun h_5 => absurd h_5 (by omega)) (fun h_5 => ?_)
                      refine lv_aload_n hx hb dX5_layNext_65 rfl (lv_at hl 0 rfl) ?_
                      refine gf_X5_present hx hb hts hown hK hH (k := 0) (by omega) eO dX5_layNext_66 ?_
                      refine lv_iload_n hx hb dX5_layNext_69 rfl (lv_at hl 3 rfl) ?_
                      refine lv_iload hx hb dX5_layNext_70 (lv_at hl 6 rfl) ?_
                      refine m_pVb hx hb hml hown hts hK hH hl (rest := []) cw_X5_170 (c4_hasMark hA 1 n a g sz w ((ri : Nat) : Int) ((hj : Nat) : Int) (by first | assumption | omega) (by first | assumption | omega) (by first | assumption | omega) (by first | assumption | omega) (by first | assumption | omega) e0 e1 e2) ⟨Nat.le_of_ble_eq_true rfl, Nat.le_of_ble_eq_true rfl⟩ ⟨Nat.le_of_ble_eq_true rfl, Nat.le_of_ble_eq_true rfl⟩ rfl (k := 1) (by omega) e0 rfl rfl (Nat.le_of_ble_eq_true rfl) dX5_layNext_72 (fun hM2 H locs hH => ?_) (fun hM2 H locs hH => ?_)
                      · refine m_if_ne 81 hx hb dX5_layNext_75 (by decide) (by omega) (fun h_6 => ?_) (fun h_6 => absurd h_6 (by omega))
                        obtain ⟨hby, hck⟩ := oPk hw41 hM.2.2 hM2.2.2 hhj.1 (by omega) hk3
                        obtain ⟨q1, hq1⟩ : ∃ y : Int, oD sp aa (le + oBy n w ri kc) = y := ⟨_, rfl⟩
                        have hq1b : -1 ≤ q1 ∧ q1 ≤ 200 := by rw [← hq1]; exact oDist_b0 haa _
                        obtain ⟨q2, hq2⟩ : ∃ y : Int, oD sp aa (le - oBy n w ri kc) = y := ⟨_, rfl⟩
                        have hq2b : -1 ≤ q2 ∧ q2 ≤ 200 := by rw [← hq2]; exact oDist_b0 haa _
                        refine lv_aload_n hx hb dX5_layNext_81 rfl (lv_at hl 0 rfl) ?_
                        refine gf_X5_reach hx hb hts hown hK hH (k := 0) (by omega) eO dX5_layNext_82 ?_
                        refine lv_iload_n hx hb dX5_layNext_85 rfl (lv_at hl 2 rfl) ?_
                        refine lv_iload hx hb dX5_layNext_86 (lv_at hl 6 rfl) ?_
                        refine m_iadd (((hj : Nat) : Int) + le) hx hb dX5_layNext_88 (by omega) ?_
                        refine lv_iload hx hb dX5_layNext_89 (lv_at hl 5 rfl) ?_
                        refine m_isub (((hj : Nat) : Int) + le - ((lo : Nat) : Int)) hx hb dX5_layNext_91 (by omega) ?_
                        refine m_pVi hx hb hml hown hts hK hH hl (rest := []) cw_X5_245 (c3_stepsTo hA (((hj : Nat) : Int) + le - ((lo : Nat) : Int)) S Ln ld (by first | assumption | omega) (by first | assumption | omega) e59 e60 e61) ⟨Nat.le_of_ble_eq_true rfl, Nat.le_of_ble_eq_true rfl⟩ ⟨Nat.le_of_ble_eq_true rfl, Nat.le_of_ble_eq_true rfl⟩ rfl (k := 59) (by omega) e59 rfl rfl (Nat.le_of_ble_eq_true rfl) dX5_layNext_92 (fun H locs hH => ?_)
                        refine m_topI (q1) (by rw [hS, show ((hj : Nat) : Int) + le - ((lo : Nat) : Int) = le + oBy n w ri kc by rw [hby]; omega]; exact hq1) ?_
                        refine lv_iload_n hx hb dX5_layNext_95 rfl (lv_at hl 1 rfl) ?_
                        refine m_icmp_ne 118 hx hb dX5_layNext_96 (by decide) (by omega) (by omega) (fun h_7 => ?_) (fun h_7 => ?_)
                        · refine lv_aload_n hx hb dX5_layNext_118 rfl (lv_at hl 0 rfl) ?_
                          refine gf_X5_reach hx hb hts hown hK hH (k := 0) (by omega) eO dX5_layNext_119 ?_
                          refine lv_iload_n hx hb dX5_layNext_122 rfl (lv_at hl 2 rfl) ?_
                          refine lv_iload hx hb dX5_layNext_123 (lv_at hl 5 rfl) ?_
                          refine m_iadd (le + ((lo : Nat) : Int)) hx hb dX5_layNext_125 (by omega) ?_
                          refine lv_iload hx hb dX5_layNext_126 (lv_at hl 6 rfl) ?_
                          refine m_isub (-((hj : Nat) : Int) + le + ((lo : Nat) : Int)) hx hb dX5_layNext_128 (by omega) ?_
                          refine m_pVi hx hb hml hown hts hK hH hl (rest := []) cw_X5_245 (c3_stepsTo hA (-((hj : Nat) : Int) + le + ((lo : Nat) : Int)) S Ln ld (by first | assumption | omega) (by first | assumption | omega) e59 e60 e61) ⟨Nat.le_of_ble_eq_true rfl, Nat.le_of_ble_eq_true rfl⟩ ⟨Nat.le_of_ble_eq_true rfl, Nat.le_of_ble_eq_true rfl⟩ rfl (k := 59) (by omega) e59 rfl rfl (Nat.le_of_ble_eq_true rfl) dX5_layNext_129 (fun H locs hH => ?_)
                          refine m_topI (q2) (by rw [hS, show -((hj : Nat) : Int) + le + ((lo : Nat) : Int) = le - oBy n w ri kc by rw [hby]; omega]; exact hq2) ?_
                          refine lv_iload_n hx hb dX5_layNext_132 rfl (lv_at hl 1 rfl) ?_
                          refine m_icmp_ne 155 hx hb dX5_layNext_133 (by decide) (by omega) (by omega) (fun h_8 => ?_) (fun h_8 => ?_)
                          · refine m_iinc (((kc : Nat) : Int) + 1) [(4, .int (oI (((kc : Nat) : Int) + 1))), (0, .ref (ad (0))), (1, .int (oI (lt))), (2, .int (oI (le))), (3, .int (oI (((ri : Nat) : Int)))), (5, .int (oI (((lo : Nat) : Int)))), (6, .int (oI (((hj : Nat) : Int))))] hx hb dX5_layNext_155 hl (j := 4) rfl (by omega) (by decide) rfl (fun ls hl => ?_)
                            refine m_iinc (((hj : Nat) : Int) + 1) [(6, .int (oI (((hj : Nat) : Int) + 1))), (4, .int (oI (((kc : Nat) : Int) + 1))), (0, .ref (ad (0))), (1, .int (oI (lt))), (2, .int (oI (le))), (3, .int (oI (((ri : Nat) : Int)))), (5, .int (oI (((lo : Nat) : Int))))] hx hb dX5_layNext_158 hl (j := 6) rfl (by omega) (by decide) rfl (fun ls hl => ?_)
                            refine lv_goto (tgt := 45) hx hb dX5_layNext_161 (by decide) ?_
                            exact ih45 (kc + 1) (hj + 1) (by omega) (by first | assumption | omega) (oBt_go hM.2.2 hM2.2.2 hhj.1 hk3) (by first | assumption | omega) (oNo_k hno3 (by rw [hq1]; omega) (by rw [hq2]; omega)) _ _ hH ls (lv_sub hl [2, 3, 4, 5, 1, 6, 0] rfl)
                          · refine lv_aload_n hx hb dX5_layNext_136 rfl (lv_at hl 0 rfl) ?_
                            refine gf_X5_laid hx hb hts hown hK hH (k := 0) (by omega) eO dX5_layNext_137 ?_
                            refine lv_iload_n hx hb dX5_layNext_140 rfl (lv_at hl 3 rfl) ?_
                            refine lv_iload hx hb dX5_layNext_141 (lv_at hl 4 rfl) ?_
                            refine m_iconst 0 hx hb dX5_layNext_143 rfl ?_
                            refine lv_iload_n hx hb dX5_layNext_144 rfl (lv_at hl 2 rfl) ?_
                            refine lv_iload hx hb dX5_layNext_145 (lv_at hl 5 rfl) ?_
                            refine m_iadd (le + ((lo : Nat) : Int)) hx hb dX5_layNext_147 (by omega) ?_
                            refine lv_iload hx hb dX5_layNext_148 (lv_at hl 6 rfl) ?_
                            refine m_isub (-((hj : Nat) : Int) + le + ((lo : Nat) : Int)) hx hb dX5_layNext_150 (by omega) ?_
                            refine m_callVv hx hb hml hown hts hK hH hl (rest := []) cw_X5_295 (c1_note hA ri kc 0 (-((hj : Nat) : Int) + le + ((lo : Nat) : Int)) lr lk lf le (by first | assumption | omega) (by first | assumption | omega) (by first | assumption | omega) e64) ⟨Nat.le_of_ble_eq_true rfl, Nat.le_of_ble_eq_true rfl⟩ ⟨Nat.le_of_ble_eq_true rfl, Nat.le_of_ble_eq_true rfl⟩ rfl (k := 64) (by omega) e64 rfl rfl (Nat.le_of_ble_eq_true rfl) dX5_layNext_151 (fun σ_9 H locs hp_10 hH => ?_)
                            obtain ⟨e64, hq_11⟩ := hp_10
                            have eO : σ_9 (0) = .inr (5, [.ref (ad (1)), .ref (ad (4)), .ref (ad (7)), .ref (ad (10)), .int (oI (ff)), .int (oI (sf)), .ref (ad (13)), .ref (ad (57)), .ref (ad (59)), .ref (ad (64))]) := (hq_11 _ (by decide)).trans eO
                            have e0 : σ_9 (1) = .inr (4, [.ref (ad (2)), .ref (ad (3)), .int (oI (((n : Nat) : Int))), .int (oI (((a : Nat) : Int))), .int (oI (((g : Nat) : Int)))]) := (hq_11 _ (by decide)).trans e0
                            have e1 : σ_9 (2) = oAN cT 4 sz := (hq_11 _ (by decide)).trans e1
                            have e2 : σ_9 (3) = oAJ cT 4 w := (hq_11 _ (by decide)).trans e2
                            have e59 : σ_9 (59) = .inr (3, [.ref (ad (60)), .ref (ad (61)), .int (oI (((ld : Nat) : Int))), .ref (ad (62)), .ref (ad (63))]) := (hq_11 _ (by decide)).trans e59
                            have e60 : σ_9 (60) = oAI cT 201 S := (hq_11 _ (by decide)).trans e60
                            have e61 : σ_9 (61) = oAI cT 201 Ln := (hq_11 _ (by decide)).trans e61
                            have hf : ∀ q : Nat, q ≠ 64 → σ_9 q = σ q := fun q n0 => (hq_11 q n0).trans (hf q n0)
                            exact m_vret hx hb hlk hrt hH dX5_layNext_154 ⟨ri, kc, 0, (-((hj : Nat) : Int) + le + ((lo : Nat) : Int)), ⟨by omega, hck, hno3, Or.inr ⟨rfl, by rw [hby]; omega, by rw [show -((hj : Nat) : Int) + le + ((lo : Nat) : Int) = le - oBy n w ri kc by rw [hby]; omega, hq2]; omega, by rw [hq1]; omega⟩⟩, (oD_in (sp := sp) (a := aa) (by rw [show -((hj : Nat) : Int) + le + ((lo : Nat) : Int) = le - oBy n w ri kc by rw [hby]; omega, hq2]; omega)), (by first | assumption | omega), e64, hf⟩
                        · refine lv_aload_n hx hb dX5_layNext_99 rfl (lv_at hl 0 rfl) ?_
                          refine gf_X5_laid hx hb hts hown hK hH (k := 0) (by omega) eO dX5_layNext_100 ?_
                          refine lv_iload_n hx hb dX5_layNext_103 rfl (lv_at hl 3 rfl) ?_
                          refine lv_iload hx hb dX5_layNext_104 (lv_at hl 4 rfl) ?_
                          refine m_iconst 1 hx hb dX5_layNext_106 rfl ?_
                          refine lv_iload_n hx hb dX5_layNext_107 rfl (lv_at hl 2 rfl) ?_
                          refine lv_iload hx hb dX5_layNext_108 (lv_at hl 6 rfl) ?_
                          refine m_iadd (((hj : Nat) : Int) + le) hx hb dX5_layNext_110 (by omega) ?_
                          refine lv_iload hx hb dX5_layNext_111 (lv_at hl 5 rfl) ?_
                          refine m_isub (((hj : Nat) : Int) + le - ((lo : Nat) : Int)) hx hb dX5_layNext_113 (by omega) ?_
                          refine m_callVv hx hb hml hown hts hK hH hl (rest := []) cw_X5_295 (c1_note hA ri kc 1 (((hj : Nat) : Int) + le - ((lo : Nat) : Int)) lr lk lf le (by first | assumption | omega) (by first | assumption | omega) (by first | assumption | omega) e64) ⟨Nat.le_of_ble_eq_true rfl, Nat.le_of_ble_eq_true rfl⟩ ⟨Nat.le_of_ble_eq_true rfl, Nat.le_of_ble_eq_true rfl⟩ rfl (k := 64) (by omega) e64 rfl rfl (Nat.le_of_ble_eq_true rfl) dX5_layNext_114 (fun σ_13 H locs hp_14 hH => ?_)
                          obtain ⟨e64, hq_15⟩ := hp_14
                          have eO : σ_13 (0) = .inr (5, [.ref (ad (1)), .ref (ad (4)), .ref (ad (7)), .ref (ad (10)), .int (oI (ff)), .int (oI (sf)), .ref (ad (13)), .ref (ad (57)), .ref (ad (59)), .ref (ad (64))]) := (hq_15 _ (by decide)).trans eO
                          have e0 : σ_13 (1) = .inr (4, [.ref (ad (2)), .ref (ad (3)), .int (oI (((n : Nat) : Int))), .int (oI (((a : Nat) : Int))), .int (oI (((g : Nat) : Int)))]) := (hq_15 _ (by decide)).trans e0
                          have e1 : σ_13 (2) = oAN cT 4 sz := (hq_15 _ (by decide)).trans e1
                          have e2 : σ_13 (3) = oAJ cT 4 w := (hq_15 _ (by decide)).trans e2
                          have e59 : σ_13 (59) = .inr (3, [.ref (ad (60)), .ref (ad (61)), .int (oI (((ld : Nat) : Int))), .ref (ad (62)), .ref (ad (63))]) := (hq_15 _ (by decide)).trans e59
                          have e60 : σ_13 (60) = oAI cT 201 S := (hq_15 _ (by decide)).trans e60
                          have e61 : σ_13 (61) = oAI cT 201 Ln := (hq_15 _ (by decide)).trans e61
                          have hf : ∀ q : Nat, q ≠ 64 → σ_13 q = σ q := fun q n0 => (hq_15 q n0).trans (hf q n0)
                          exact m_vret hx hb hlk hrt hH dX5_layNext_117 ⟨ri, kc, 1, (((hj : Nat) : Int) + le - ((lo : Nat) : Int)), ⟨by omega, hck, hno3, Or.inl ⟨rfl, by rw [hby]; omega, by rw [show ((hj : Nat) : Int) + le - ((lo : Nat) : Int) = le + oBy n w ri kc by rw [hby]; omega, hq1]; omega⟩⟩, (oD_in (sp := sp) (a := aa) (by rw [show ((hj : Nat) : Int) + le - ((lo : Nat) : Int) = le + oBy n w ri kc by rw [hby]; omega, hq1]; omega)), (by first | assumption | omega), e64, hf⟩
                      · refine m_if_ne 81 hx hb dX5_layNext_75 (by decide) (by omega) (fun h_17 => absurd h_17 (by omega)) (fun h_17 => ?_)
                        refine lv_goto (tgt := 158) hx hb dX5_layNext_78 (by decide) ?_
                        refine m_iinc (((hj : Nat) : Int) + 1) [(6, .int (oI (((hj : Nat) : Int) + 1))), (0, .ref (ad (0))), (1, .int (oI (lt))), (2, .int (oI (le))), (3, .int (oI (((ri : Nat) : Int)))), (4, .int (oI (((kc : Nat) : Int)))), (5, .int (oI (((lo : Nat) : Int))))] hx hb dX5_layNext_158 hl (j := 6) rfl (by omega) (by decide) rfl (fun ls hl => ?_)
                        refine lv_goto (tgt := 45) hx hb dX5_layNext_161 (by decide) ?_
                        exact ih45 kc (hj + 1) (by omega) (by first | assumption | omega) (oBt_stay (fun q => hM2 ⟨by omega, by omega, q⟩) hk3) (by first | assumption | omega) (hno3) _ _ hH ls (lv_sub hl [1, 2, 3, 4, 5, 6, 0] rfl)
                    · refine m_if_eq 164 hx hb dX5_layNext_62 (by decide) (by omega) (fun h_18 => ?_) (fun h_18 => absurd h_18 (by omega))
                      refine m_iinc (((lo : Nat) : Int) + 1) [(5, .int (oI (((lo : Nat) : Int) + 1))), (0, .ref (ad (0))), (1, .int (oI (lt))), (2, .int (oI (le))), (3, .int (oI (((ri : Nat) : Int)))), (4, .int (oI (((kc : Nat) : Int)))), (6, .int (oI (((hj : Nat) : Int))))] hx hb dX5_layNext_164 hl (j := 5) rfl (by omega) (by decide) rfl (fun ls hl => ?_)
                      refine lv_goto (tgt := 32) hx hb dX5_layNext_167 (by decide) ?_
                      exact ih32 kc (lo + 1) (by omega) (by first | assumption | omega) (oRk_next2 (fun q => hM ⟨by omega, by omega, q⟩) hk3) (by have := oRk_le (oRow n w ((ri : Nat) : Int)) (lo + 1); have e9 : kc = oRk (oRow n w ((ri : Nat) : Int)) (lo + 1) := oRk_next2 (fun q => hM ⟨by omega, by omega, q⟩) hk3; omega) (hno3) _ _ hH ls (lv_sub hl [1, 2, 3, 4, 5, 0] rfl)
              exact L45 _ kk (lo + 1) (Nat.lt_succ_self _) (by first | assumption | omega) (by rw [oBt_0, hkk]; split <;> rfl) (by first | assumption | omega) (hno2) _ _ hH ls (lv_sub hl [1, 2, 3, 4, 5, 6, 0] rfl)
        exact L32 _ 0 0 (Nat.lt_succ_self _) (by first | assumption | omega) (rfl) (by first | assumption | omega) (hno) _ _ hH ls (lv_sub hl [2, 3, 4, 5, 1, 0] rfl)
  exact L10 _ 0 (Nat.lt_succ_self _) (by first | assumption | omega) (oNo_0) _ _ hH ls (lv_sub hl [2, 3, 1, 0] rfl)
