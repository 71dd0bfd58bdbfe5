section OXP
variable {p : Program} {l : Launch} {e : Env} {R : Room} {s : State} {m : MethodId} {args : Array Value} {below : List Frame} {meth : Method} {c : Code} {H : Heap} {locs : List Loc} {cells slots : Nat} {Q : State → Prop}
variable {cc : ByteArray} {pc : Nat} {ls : Array Slot} {rest : List Value}
theorem m_lmulN {a b : Nat} (t : Nat) (hx : p.tables.exec = Jvm.exec) (hb : c.code = cc) (hdg : decode cc pc = .ok (.lmul, 1)) (h : a * b = t) (k : W p l e R s m args below meth c H locs cells slots Q (F0 m (pc + 1) ls (.long (lN t) :: rest))) : W p l e R s m args below meth c H locs cells slots Q (F0 m pc ls (.long (lN b) :: .long (lN a) :: rest)) := by
  subst h
  exact lv_lmul hx hb hdg (by rw [lN_mul]; exact k)
end OXP
theorem lN_mod (n : Nat) : lN n = lN (n % 2 ^ 64) := wb_inj (by rw [wb_tb, wb_tb]; exact BitVec.eq_of_toNat_eq (by simp))
noncomputable def oScr : List Nat → Nat → Nat → Nat → Nat → (Nat → Nat) → (Nat → Nat) → Int
  | [], _, _, _, _, _, _ => -1
  | x :: xs, i, n, a, g, sz, w => if (oGrp x n a g sz w).1 = 0 then (i : Int) else oScr xs (i + 1) (oGrp x n a g sz w).2.1 (oGrp x n a g sz w).2.2.1 (oGrp x n a g sz w).2.2.2.1 (oGrp x n a g sz w).2.2.2.2.1 (oGrp x n a g sz w).2.2.2.2.2
theorem oScr_no {x i n a g n1 a1 g1 : Nat} {sz w sz1 w1 : Nat → Nat} {rt : Int} {xs : List Nat} (h : oGrp x n a g sz w = (rt, n1, a1, g1, sz1, w1)) (h0 : rt = 0) : oScr (x :: xs) i n a g sz w = (i : Int) := if_pos (by rw [h]; exact h0)
theorem oScr_go {x i n a g n1 a1 g1 : Nat} {sz w sz1 w1 : Nat → Nat} {rt : Int} {xs : List Nat} (h : oGrp x n a g sz w = (rt, n1, a1, g1, sz1, w1)) (h0 : ¬ rt = 0) : oScr (x :: xs) i n a g sz w = oScr xs (i + 1) n1 a1 g1 sz1 w1 := (if_neg (by rw [h]; exact h0)).trans (by rw [h])
def oGl3 (n sc : Nat) : List Nat := if n = 1 then [sc % 1000000] else if n = 2 then [sc / 1000000 % 1000000, sc % 1000000] else [sc / 1000000000000 % 1000000, sc / 1000000 % 1000000, sc % 1000000]
noncomputable def oSim (x n a g : Nat) (sz w : Nat → Nat) : Nat → Nat × Nat × Nat × Nat × (Nat → Nat) × (Nat → Nat)
  | 0 => (x, n, a, g, sz, w)
  | k + 1 => (((oSim x n a g sz w k).1 * 6364136223846793005 + 1442695040888963407) % 2 ^ 64,
     (oAtt (oTuA (((oSim x n a g sz w k).1 * 6364136223846793005 + 1442695040888963407) % 2 ^ 64 / 2 ^ 33)).1 (oTuA (((oSim x n a g sz w k).1 * 6364136223846793005 + 1442695040888963407) % 2 ^ 64 / 2 ^ 33)).2.1 (oTuA (((oSim x n a g sz w k).1 * 6364136223846793005 + 1442695040888963407) % 2 ^ 64 / 2 ^ 33)).2.2.1 (oTuA (((oSim x n a g sz w k).1 * 6364136223846793005 + 1442695040888963407) % 2 ^ 64 / 2 ^ 33)).2.2.2
       (oSim x n a g sz w k).2.1 (oSim x n a g sz w k).2.2.1 (oSim x n a g sz w k).2.2.2.1 (oSim x n a g sz w k).2.2.2.2.1 (oSim x n a g sz w k).2.2.2.2.2).2)
theorem oSim_s {x n a g k y n1 a1 g1 n2 a2 g2 z : Nat} {sz w sz1 w1 sz2 w2 : Nat → Nat} (h : oSim x n a g sz w k = (y, n1, a1, g1, sz1, w1)) (hz : (y * 6364136223846793005 + 1442695040888963407) % 2 ^ 64 = z)
    (h2 : ∃ rt : Int, oAtt (oTuA (z / 2 ^ 33)).1 (oTuA (z / 2 ^ 33)).2.1 (oTuA (z / 2 ^ 33)).2.2.1 (oTuA (z / 2 ^ 33)).2.2.2 n1 a1 g1 sz1 w1 = (rt, n2, a2, g2, sz2, w2)) : oSim x n a g sz w (k + 1) = (z, n2, a2, g2, sz2, w2) := by
  obtain ⟨rt, h2⟩ := h2
  subst hz
  show (_, _) = _
  rw [h]
  dsimp only
  rw [h2]
set_option maxHeartbeats 4000000 in
set_option maxRecDepth 100000 in
theorem c5_bestMark {l : Launch} {D : va_G} {cT : Nat → ClassId} {N b0 : Nat} {ad : Nat → Nat} (hA : oAd b0 N ad) {σ : Nat → va_E} (r x : Int) (n a g : Nat) (sz w : Nat → Nat) (ld : Nat) (wr gr : Nat → Nat) (ff sf : Int) (hl0 : l.stackTraces = false) (hN : 76 ≤ N) (hwf : oWf n sz w) (hag : oAg a g) (hbr : -2147483648 ≤ r ∧ r < 2147483648) (hbx : -2147483648 ≤ x ∧ x < 2147483648) (eO : σ (0) = .inr (5, [.ref (ad (1)), .ref (ad (4)), .ref (ad (7)), .ref (ad (10)), .int (oI (ff)), .int (oI (sf)), .ref (ad (13)), .ref (ad (57)), .ref (ad (59)), .ref (ad (64))])) (e0 : σ (1) = .inr (4, [.ref (ad (2)), .ref (ad (3)), .int (oI (((n : Nat) : Int))), .int (oI (((a : Nat) : Int))), .int (oI (((g : Nat) : Int)))])) (e1 : σ (2) = oAN cT 4 sz) (e2 : σ (3) = oAJ cT 4 w) (e59 : σ (59) = .inr (3, [.ref (ad (60)), .ref (ad (61)), .int (oI (((ld : Nat) : Int))), .ref (ad (62)), .ref (ad (63))])) (e62 : σ (62) = oAJ cT 4 wr) (e63 : σ (63) = oAJ cT 4 gr) :
    oXi l D cT N ad b0 yX5_bestMark cX5_bestMark 11 (some .int) 7 116 2 [.ref (ad (0)), .int (oI (r)), .int (oI (x))] σ (fun rr uu => ∃ w2 : Nat → Nat, ∃ gr2 : Nat → Nat, rr = oI ((if x = 0 then (oBm n a g sz w r 41).1 else (oBm n a g sz w r 41).2)) ∧ ((0 ≤ r ∧ r < (n : Int))) ∧ (x = 0 ∨ x = 1) ∧ uu (62) = oAJ cT 4 w2 ∧ uu (63) = oAJ cT 4 gr2 ∧ (∀ q : Nat, q ≠ 62 → q ≠ 63 → uu q = σ q)) (fun E uu => ((E = oIO ∧ ¬ (0 ≤ r ∧ r < (n : Int))) ∨ (E = oIA ∧ (0 ≤ r ∧ r < (n : Int)) ∧ ¬ (x = 0 ∨ x = 1))) ∧ uu = σ) := by
  refine m_startX (cc := cX5_bestMark) (by decide) (Nat.le_of_ble_eq_true rfl) rfl ?_
  intro Pp Ee Ss Mm Bb Me Cc Ar ls hx hb hml hown hlk hrt hts hK hH hl hXT hnt
  have hown : Ss.vm.findClass RX5 = some Mm.cls := hown
  have hn := hwf.1
  have hsz := oSize_le hwf
  have hw64 := oRow_64 hwf
  have hw41 := oRow_lt hwf
  have hsr := hsz r
  have ho64 := oOrW_64 n w r 4
  have hg150 := hag.2
  have hl : lv_has ls 11 [(0, .ref (ad (0))), (1, .int (oI (r))), (2, .int (oI (x)))] := hl
  have hf : ∀ q : Nat, q ≠ 62 → q ≠ 63 → σ q = σ q := fun q _ _ => rfl
  refine lv_aload_n hx hb dX5_bestMark_0 rfl (lv_at hl 0 rfl) ?_
  refine lv_iload_n hx hb dX5_bestMark_1 rfl (lv_at hl 1 rfl) ?_
  refine m_xVv hx hb hml hown hts hK hXT hH hl hlk hnt (rest := []) cw_X5_134 (c5_checkRuler hA r n a g sz w ff sf (by first | assumption | omega) (by first | assumption | omega) (by first | assumption | omega) (by first | assumption | omega) eO e0 e1 e2) ⟨Nat.le_of_ble_eq_true rfl, Nat.le_of_ble_eq_true rfl⟩ ⟨Nat.le_of_ble_eq_true rfl, Nat.le_of_ble_eq_true rfl⟩ ⟨Nat.le_of_ble_eq_true rfl, Nat.le_of_ble_eq_true rfl⟩ rfl (k := 0) (by omega) eO rfl rfl (Nat.le_of_ble_eq_true rfl) dX5_bestMark_2 (fun E u h => ⟨Or.inl ⟨h.1, h.2.1⟩, h.2.2⟩) (fun σ_1 H locs hp_2 hH => ?_)
  obtain ⟨hru, hu⟩ := hp_2
  have hu := hu.symm
  subst hu
  refine lv_iload_n hx hb dX5_bestMark_5 rfl (lv_at hl 2 rfl) ?_
  refine m_if_eq 24 hx hb dX5_bestMark_6 (by decide) (by omega) (fun h_4 => ?_) (fun h_4 => ?_)
  · refine lv_aload_n hx hb dX5_bestMark_24 rfl (lv_at hl 0 rfl) ?_
    refine gf_X5_present hx hb hts hown hK hH (k := 0) (by omega) eO dX5_bestMark_25 ?_
    refine lv_iload_n hx hb dX5_bestMark_28 rfl (lv_at hl 1 rfl) ?_
    refine m_pVn hx hb hml hown hts hK hH hl (rest := []) cw_X5_255 (c4_spreadWithout hA 1 n a g sz w r (by first | assumption | omega) (by first | assumption | omega) (by first | assumption | omega) e0 e1 e2) ⟨Nat.le_of_ble_eq_true rfl, Nat.le_of_ble_eq_true rfl⟩ ⟨Nat.le_of_ble_eq_true rfl, Nat.le_of_ble_eq_true rfl⟩ rfl (k := 1) (by omega) e0 rfl rfl (Nat.le_of_ble_eq_true rfl) dX5_bestMark_29 (fun H locs hH => ?_)
    refine lv_lstore_n (lv' := [(3, .long (lN (oOrW n w r 4))), (0, .ref (ad (0))), (1, .int (oI (r))), (2, .int (oI (x)))]) hx hb dX5_bestMark_32 rfl hl (by decide) rfl (fun ls hl => ?_)
    refine m_iconst (-1) hx hb dX5_bestMark_33 rfl ?_
    refine lv_istore (lv' := [(5, .int (oI ((-1)))), (3, .long (lN (oOrW n w r 4))), (0, .ref (ad (0))), (1, .int (oI (r))), (2, .int (oI (x)))]) hx hb dX5_bestMark_34 hl (by decide) rfl (fun ls hl => ?_)
    refine m_iconst (-1) hx hb dX5_bestMark_36 rfl ?_
    refine lv_istore (lv' := [(6, .int (oI ((-1)))), (5, .int (oI ((-1)))), (3, .long (lN (oOrW n w r 4))), (0, .ref (ad (0))), (1, .int (oI (r))), (2, .int (oI (x)))]) hx hb dX5_bestMark_37 hl (by decide) rfl (fun ls hl => ?_)
    refine m_iconst 0 hx hb dX5_bestMark_39 rfl ?_
    refine lv_istore (lv' := [(7, .int (oI (0))), (6, .int (oI ((-1)))), (5, .int (oI ((-1)))), (3, .long (lN (oOrW n w r 4))), (0, .ref (ad (0))), (1, .int (oI (r))), (2, .int (oI (x)))]) hx hb dX5_bestMark_40 hl (by decide) rfl (fun ls hl => ?_)
    have L42 : ∀ (fu : Nat) (i : Nat) (be : Int) (mo : Int) (w4 : Nat → Nat) (g4 : Nat → Nat), (42 - i < fu) → (i ≤ 41) → (-1 ≤ be ∧ be ≤ 40 ∧ -1 ≤ mo ∧ mo ≤ 150) → (oBm n a g sz w r i = (be, mo)) → ∀ σL42 : Nat → va_E, σL42 (62) = oAJ cT 4 w4 → σL42 (63) = oAJ cT 4 g4 → (∀ q : Nat, q ≠ 62 → q ≠ 63 → σL42 q = σ q) → ∀ (H : Heap) (locs : List Loc), oH b0 D N ad Ss.heap σL42 H locs → ∀ ls : Array Slot, lv_has ls 11 [(0, .ref (ad (0))), (1, .int (oI (r))), (2, .int (oI (x))), (3, .long (lN (oOrW n w r 4))), (5, .int (oI (be))), (6, .int (oI (mo))), (7, .int (oI (((i : Nat) : Int))))] → W Pp l Ee { frames := 7, cells := 2, slots := 6 * 2, locals := 116 } Ss Mm Ar Bb Me Cc H locs (0 + 1) (0 + 6 * 1) (vx_MQ Bb (va_Qi (fun rr uu => ∃ w2 : Nat → Nat, ∃ gr2 : Nat → Nat, rr = oI ((if x = 0 then (oBm n a g sz w r 41).1 else (oBm n a g sz w r 41).2)) ∧ ((0 ≤ r ∧ r < (n : Int))) ∧ (x = 0 ∨ x = 1) ∧ uu (62) = oAJ cT 4 w2 ∧ uu (63) = oAJ cT 4 gr2 ∧ (∀ q : Nat, q ≠ 62 → q ≠ 63 → uu q = σ q)) (oV D N ad) (fun q => b0 ≤ q)) (oXC b0 D N ad (fun E uu => ((E = oIO ∧ ¬ (0 ≤ r ∧ r < (n : Int))) ∨ (E = oIA ∧ (0 ≤ r ∧ r < (n : Int)) ∧ ¬ (x = 0 ∨ x = 1))) ∧ uu = σ)) Ar Ss 2 (6 * 2) (fun q => b0 ≤ q)) (F0 Mm 42 ls []) := by
      intro fu42
      induction fu42 with
      | zero =>
        intro i be mo w4 g4 hm42
        exact absurd hm42 (Nat.not_lt_zero _)
      | succ fu42 ih42 =>
        intro i be mo w4 g4 hm42 hi hb2 hc σL42 e62 e63 hL42 H locs hH ls hl
        have eO : σL42 (0) = .inr (5, [.ref (ad (1)), .ref (ad (4)), .ref (ad (7)), .ref (ad (10)), .int (oI (ff)), .int (oI (sf)), .ref (ad (13)), .ref (ad (57)), .ref (ad (59)), .ref (ad (64))]) := (hL42 _ (by decide) (by decide)).trans eO
        have e0 : σL42 (1) = .inr (4, [.ref (ad (2)), .ref (ad (3)), .int (oI (((n : Nat) : Int))), .int (oI (((a : Nat) : Int))), .int (oI (((g : Nat) : Int)))]) := (hL42 _ (by decide) (by decide)).trans e0
        have e1 : σL42 (2) = oAN cT 4 sz := (hL42 _ (by decide) (by decide)).trans e1
        have e2 : σL42 (3) = oAJ cT 4 w := (hL42 _ (by decide) (by decide)).trans e2
        have e59 : σL42 (59) = .inr (3, [.ref (ad (60)), .ref (ad (61)), .int (oI (((ld : Nat) : Int))), .ref (ad (62)), .ref (ad (63))]) := (hL42 _ (by decide) (by decide)).trans e59
        have hf : ∀ q : Nat, q ≠ 62 → q ≠ 63 → σL42 q = σ q := fun q n0 n1 => (hL42 q n0 n1).trans (hf q n0 n1)
        refine lv_iload hx hb dX5_bestMark_42 (lv_at hl 6 rfl) ?_
        refine m_bipush 40 hx hb dX5_bestMark_44 (by decide) ?_
        refine m_icmp_gt 124 hx hb dX5_bestMark_46 (by decide) (by omega) (by omega) (fun h_5 => ?_) (fun h_5 => ?_)
        · refine lv_iload_n hx hb dX5_bestMark_124 rfl (lv_at hl 2 rfl) ?_
          refine m_if_ne 133 hx hb dX5_bestMark_125 (by decide) (by omega) (fun h_6 => ?_) (fun h_6 => ?_)
          · refine lv_iload hx hb dX5_bestMark_133 (lv_at hl 5 rfl) ?_
            exact m_iretX hx hb hlk hrt hH ⟨Nat.le_of_ble_eq_true rfl, Nat.le_of_ble_eq_true rfl⟩ (m_ni _) dX5_bestMark_135 ⟨w4, g4, congrArg oI (by rw [show i = 41 by omega] at hc; rw [hc]; dsimp only; split <;> omega), hru, (by first | assumption | omega), e62, e63, hf⟩
          · refine lv_iload hx hb dX5_bestMark_128 (lv_at hl 4 rfl) ?_
            refine lv_goto (tgt := 135) hx hb dX5_bestMark_130 (by decide) ?_
            exact m_iretX hx hb hlk hrt hH ⟨Nat.le_of_ble_eq_true rfl, Nat.le_of_ble_eq_true rfl⟩ (m_ni _) dX5_bestMark_135 ⟨w4, g4, congrArg oI (by rw [show i = 41 by omega] at hc; rw [hc]; dsimp only; split <;> omega), hru, (by first | assumption | omega), e62, e63, hf⟩
        · refine lv_aload_n hx hb dX5_bestMark_49 rfl (lv_at hl 0 rfl) ?_
          refine gf_X5_present hx hb hts hown hK hH (k := 0) (by omega) eO dX5_bestMark_50 ?_
          refine lv_iload_n hx hb dX5_bestMark_53 rfl (lv_at hl 1 rfl) ?_
          refine lv_iload hx hb dX5_bestMark_54 (lv_at hl 6 rfl) ?_
          refine m_pVb hx hb hml hown hts hK hH hl (rest := []) cw_X5_161 (c4_hasPlace hA 1 n a g sz w r ((i : Nat) : Int) (by first | assumption | omega) (by first | assumption | omega) (by first | assumption | omega) (by first | assumption | omega) (by first | assumption | omega) e0 e1 e2) ⟨Nat.le_of_ble_eq_true rfl, Nat.le_of_ble_eq_true rfl⟩ ⟨Nat.le_of_ble_eq_true rfl, Nat.le_of_ble_eq_true rfl⟩ rfl (k := 1) (by omega) e0 rfl rfl (Nat.le_of_ble_eq_true rfl) dX5_bestMark_56 (fun hP H locs hH => ?_) (fun hP H locs hH => ?_)
          · refine m_if_eq 118 hx hb dX5_bestMark_59 (by decide) (by omega) (fun h_7 => absurd h_7 (by omega)) (fun h_7 => ?_)
            refine lv_aload_n hx hb dX5_bestMark_62 rfl (lv_at hl 0 rfl) ?_
            refine gf_X5_present hx hb hts hown hK hH (k := 0) (by omega) eO dX5_bestMark_63 ?_
            refine lv_iload_n hx hb dX5_bestMark_66 rfl (lv_at hl 1 rfl) ?_
            refine lv_iload hx hb dX5_bestMark_67 (lv_at hl 6 rfl) ?_
            refine m_pVb hx hb hml hown hts hK hH hl (rest := []) cw_X5_170 (c4_hasMark hA 1 n a g sz w r ((i : Nat) : Int) (by first | assumption | omega) (by first | assumption | omega) (by first | assumption | omega) (by first | assumption | omega) (by first | assumption | omega) e0 e1 e2) ⟨Nat.le_of_ble_eq_true rfl, Nat.le_of_ble_eq_true rfl⟩ ⟨Nat.le_of_ble_eq_true rfl, Nat.le_of_ble_eq_true rfl⟩ rfl (k := 1) (by omega) e0 rfl rfl (Nat.le_of_ble_eq_true rfl) dX5_bestMark_69 (fun hM H locs hH => ?_) (fun hM H locs hH => ?_)
            · refine m_if_ne 118 hx hb dX5_bestMark_72 (by decide) (by omega) (fun h_8 => ?_) (fun h_8 => absurd h_8 (by omega))
              refine m_iinc (((i : Nat) : Int) + 1) [(7, .int (oI (((i : Nat) : Int) + 1))), (0, .ref (ad (0))), (1, .int (oI (r))), (2, .int (oI (x))), (3, .long (lN (oOrW n w r 4))), (5, .int (oI (be))), (6, .int (oI (mo)))] hx hb dX5_bestMark_118 hl (j := 6) rfl (by omega) (by decide) rfl (fun ls hl => ?_)
              refine lv_goto (tgt := 42) hx hb dX5_bestMark_121 (by decide) ?_
              exact ih42 (i + 1) be mo w4 g4 (by omega) (by first | assumption | omega) (by first | assumption | omega) (by rw [oBm_n (p := i) (fun q => q.1.2 hM.2.2)]; exact hc) _ e62 e63 (hL42) _ _ hH ls (lv_sub hl [1, 2, 3, 4, 5, 6, 0] rfl)
            · refine m_if_ne 118 hx hb dX5_bestMark_72 (by decide) (by omega) (fun h_9 => absurd h_9 (by omega)) (fun h_9 => ?_)
              refine lv_lload_n hx hb dX5_bestMark_75 rfl (lv_at hl 3 rfl) ?_
              refine lv_aload_n hx hb dX5_bestMark_76 rfl (lv_at hl 0 rfl) ?_
              refine gf_X5_present hx hb hts hown hK hH (k := 0) (by omega) eO dX5_bestMark_77 ?_
              refine lv_iload_n hx hb dX5_bestMark_80 rfl (lv_at hl 1 rfl) ?_
              refine m_pVn hx hb hml hown hts hK hH hl (rest := [.long (lN (oOrW n w r 4))]) cw_X5_147 (c4_row hA 1 n a g sz w r (by first | assumption | omega) (by first | assumption | omega) (by first | assumption | omega) e0 e1 e2) ⟨Nat.le_of_ble_eq_true rfl, Nat.le_of_ble_eq_true rfl⟩ ⟨Nat.le_of_ble_eq_true rfl, Nat.le_of_ble_eq_true rfl⟩ rfl (k := 1) (by omega) e0 rfl rfl (Nat.le_of_ble_eq_true rfl) dX5_bestMark_81 (fun H locs hH => ?_)
              refine m_lconstN 1 hx hb dX5_bestMark_84 rfl ?_
              refine lv_iload hx hb dX5_bestMark_85 (lv_at hl 6 rfl) ?_
              refine m_lshl (2 ^ i) hx hb dX5_bestMark_87 (by omega) (Nat.one_mul _) ?_
              refine m_lor ((oRow n w r) ||| (2 ^ i)) hx hb dX5_bestMark_88 (rfl) ?_
              refine m_pSn hx hb hml hown hts hK hH hl (rest := [.long (lN (oOrW n w r 4))]) cw_X5_151 rfl (c5_spreadOf hA ((oRow n w r) ||| (2 ^ i)) (Nat.or_lt_two_pow (hw64 r) (Nat.pow_lt_pow_right (by decide) (by omega))) ) ⟨Nat.le_of_ble_eq_true rfl, Nat.le_of_ble_eq_true rfl⟩ ⟨Nat.le_of_ble_eq_true rfl, Nat.le_of_ble_eq_true rfl⟩ rfl rfl (Nat.le_of_ble_eq_true rfl) dX5_bestMark_89 (fun H locs hH => ?_)
              refine m_lor ((oOrW n w r 4) ||| (oSpr ((oRow n w r) ||| (2 ^ i)) 41)) hx hb dX5_bestMark_92 (rfl) ?_
              refine lv_lstore (lv' := [(8, .long (lN ((oOrW n w r 4) ||| (oSpr ((oRow n w r) ||| (2 ^ i)) 41)))), (0, .ref (ad (0))), (1, .int (oI (r))), (2, .int (oI (x))), (3, .long (lN (oOrW n w r 4))), (5, .int (oI (be))), (6, .int (oI (mo))), (7, .int (oI (((i : Nat) : Int))))]) hx hb dX5_bestMark_93 hl (by decide) rfl (fun ls hl => ?_)
              refine lv_aload_n hx hb dX5_bestMark_95 rfl (lv_at hl 1 rfl) ?_
              refine lv_lload hx hb dX5_bestMark_96 (lv_at hl 0 rfl) ?_
              have hcx := oCnt_le (oOrW n w r 4 ||| oSpr (oRow n w r ||| 2 ^ i) 41) a g
              refine m_callVi hx hb hml hown hts hK hH hl (rest := []) cw_X5_258 (c5_laidBy hA ((oOrW n w r 4) ||| (oSpr ((oRow n w r) ||| (2 ^ i)) 41)) n a g sz w ld w4 g4 ff sf (by first | assumption | omega) (by first | assumption | omega) (Nat.or_lt_two_pow ho64 (oSpr_41 _)) eO e0 e1 e2 e59 e62 e63) ⟨Nat.le_of_ble_eq_true rfl, Nat.le_of_ble_eq_true rfl⟩ ⟨Nat.le_of_ble_eq_true rfl, Nat.le_of_ble_eq_true rfl⟩ rfl (k := 0) (by omega) eO rfl rfl (Nat.le_of_ble_eq_true rfl) dX5_bestMark_98 (fun r_13 σ_10 H locs hp_11 hH => ?_)
              obtain ⟨w5, g5, rfl, e62, e63, hq_12⟩ := hp_11
              have eO : σ_10 (0) = .inr (5, [.ref (ad (1)), .ref (ad (4)), .ref (ad (7)), .ref (ad (10)), .int (oI (ff)), .int (oI (sf)), .ref (ad (13)), .ref (ad (57)), .ref (ad (59)), .ref (ad (64))]) := (hq_12 _ (by decide) (by decide)).trans eO
              have e0 : σ_10 (1) = .inr (4, [.ref (ad (2)), .ref (ad (3)), .int (oI (((n : Nat) : Int))), .int (oI (((a : Nat) : Int))), .int (oI (((g : Nat) : Int)))]) := (hq_12 _ (by decide) (by decide)).trans e0
              have e1 : σ_10 (2) = oAN cT 4 sz := (hq_12 _ (by decide) (by decide)).trans e1
              have e2 : σ_10 (3) = oAJ cT 4 w := (hq_12 _ (by decide) (by decide)).trans e2
              have e59 : σ_10 (59) = .inr (3, [.ref (ad (60)), .ref (ad (61)), .int (oI (((ld : Nat) : Int))), .ref (ad (62)), .ref (ad (63))]) := (hq_12 _ (by decide) (by decide)).trans e59
              have hf : ∀ q : Nat, q ≠ 62 → q ≠ 63 → σ_10 q = σ q := fun q n0 n1 => (hq_12 q n0 n1).trans (hf q n0 n1)
              have hL42 : ∀ q : Nat, q ≠ 62 → q ≠ 63 → σ_10 q = σ q := fun q n0 n1 => (hq_12 q n0 n1).trans (hL42 q n0 n1)
              refine lv_istore (lv' := [(10, .int (oI (((oCnt ((oOrW n w r 4) ||| (oSpr ((oRow n w r) ||| (2 ^ i)) 41)) a g : Nat) : Int)))), (8, .long (lN ((oOrW n w r 4) ||| (oSpr ((oRow n w r) ||| (2 ^ i)) 41)))), (0, .ref (ad (0))), (1, .int (oI (r))), (2, .int (oI (x))), (3, .long (lN (oOrW n w r 4))), (5, .int (oI (be))), (6, .int (oI (mo))), (7, .int (oI (((i : Nat) : Int))))]) hx hb dX5_bestMark_101 hl (by decide) rfl (fun ls hl => ?_)
              refine lv_iload hx hb dX5_bestMark_103 (lv_at hl 0 rfl) ?_
              refine lv_iload hx hb dX5_bestMark_105 (lv_at hl 7 rfl) ?_
              refine m_icmp_le 118 hx hb dX5_bestMark_107 (by decide) (by omega) (by omega) (fun hcmp => ?_) (fun hcmp => ?_)
              · have hle : ¬ (mo < (oCnt (oOrW n w r 4 ||| oSpr (oRow n w r ||| 2 ^ i) 41) a g : Int)) := Int.not_lt.mpr hcmp
                refine m_iinc (((i : Nat) : Int) + 1) [(7, .int (oI (((i : Nat) : Int) + 1))), (10, .int (oI (((oCnt ((oOrW n w r 4) ||| (oSpr ((oRow n w r) ||| (2 ^ i)) 41)) a g : Nat) : Int)))), (8, .long (lN ((oOrW n w r 4) ||| (oSpr ((oRow n w r) ||| (2 ^ i)) 41)))), (0, .ref (ad (0))), (1, .int (oI (r))), (2, .int (oI (x))), (3, .long (lN (oOrW n w r 4))), (5, .int (oI (be))), (6, .int (oI (mo)))] hx hb dX5_bestMark_118 hl (j := 8) rfl (by omega) (by decide) rfl (fun ls hl => ?_)
                refine lv_goto (tgt := 42) hx hb dX5_bestMark_121 (by decide) ?_
                exact ih42 (i + 1) be mo w5 g5 (by omega) (by first | assumption | omega) (by first | assumption | omega) (by rw [oBm_n (p := i) (fun q => hle (by have q2 := q.2; rw [hc] at q2; exact q2))]; exact hc) _ e62 e63 (hL42) _ _ hH ls (lv_sub hl [3, 4, 5, 6, 7, 8, 0] rfl)
              · have hgt : mo < (oCnt (oOrW n w r 4 ||| oSpr (oRow n w r ||| 2 ^ i) 41) a g : Int) := hcmp
                refine lv_iload hx hb dX5_bestMark_110 (lv_at hl 0 rfl) ?_
                refine lv_istore (lv' := [(6, .int (oI (((oCnt ((oOrW n w r 4) ||| (oSpr ((oRow n w r) ||| (2 ^ i)) 41)) a g : Nat) : Int)))), (10, .int (oI (((oCnt ((oOrW n w r 4) ||| (oSpr ((oRow n w r) ||| (2 ^ i)) 41)) a g : Nat) : Int)))), (8, .long (lN ((oOrW n w r 4) ||| (oSpr ((oRow n w r) ||| (2 ^ i)) 41)))), (0, .ref (ad (0))), (1, .int (oI (r))), (2, .int (oI (x))), (3, .long (lN (oOrW n w r 4))), (5, .int (oI (be))), (7, .int (oI (((i : Nat) : Int))))]) hx hb dX5_bestMark_112 hl (by decide) rfl (fun ls hl => ?_)
                refine lv_iload hx hb dX5_bestMark_114 (lv_at hl 8 rfl) ?_
                refine lv_istore (lv' := [(5, .int (oI (((i : Nat) : Int)))), (6, .int (oI (((oCnt ((oOrW n w r 4) ||| (oSpr ((oRow n w r) ||| (2 ^ i)) 41)) a g : Nat) : Int)))), (10, .int (oI (((oCnt ((oOrW n w r 4) ||| (oSpr ((oRow n w r) ||| (2 ^ i)) 41)) a g : Nat) : Int)))), (8, .long (lN ((oOrW n w r 4) ||| (oSpr ((oRow n w r) ||| (2 ^ i)) 41)))), (0, .ref (ad (0))), (1, .int (oI (r))), (2, .int (oI (x))), (3, .long (lN (oOrW n w r 4))), (7, .int (oI (((i : Nat) : Int))))]) hx hb dX5_bestMark_116 hl (by decide) rfl (fun ls hl => ?_)
                refine m_iinc (((i : Nat) : Int) + 1) [(7, .int (oI (((i : Nat) : Int) + 1))), (5, .int (oI (((i : Nat) : Int)))), (6, .int (oI (((oCnt ((oOrW n w r 4) ||| (oSpr ((oRow n w r) ||| (2 ^ i)) 41)) a g : Nat) : Int)))), (10, .int (oI (((oCnt ((oOrW n w r 4) ||| (oSpr ((oRow n w r) ||| (2 ^ i)) 41)) a g : Nat) : Int)))), (8, .long (lN ((oOrW n w r 4) ||| (oSpr ((oRow n w r) ||| (2 ^ i)) 41)))), (0, .ref (ad (0))), (1, .int (oI (r))), (2, .int (oI (x))), (3, .long (lN (oOrW n w r 4)))] hx hb dX5_bestMark_118 hl (j := 8) rfl (by omega) (by decide) rfl (fun ls hl => ?_)
                refine lv_goto (tgt := 42) hx hb dX5_bestMark_121 (by decide) ?_
                exact ih42 (i + 1) ((i : Nat) : Int) ((oCnt ((oOrW n w r 4) ||| (oSpr ((oRow n w r) ||| (2 ^ i)) 41)) a g : Nat) : Int) w5 g5 (by omega) (by first | assumption | omega) (by first | assumption | omega) (by rw [oBm_y (p := i) ⟨⟨by omega, fun q => hM ⟨by omega, by omega, q⟩⟩, by rw [hc]; exact hgt⟩]) _ e62 e63 (hL42) _ _ hH ls (lv_sub hl [5, 6, 7, 8, 1, 2, 0] rfl)
          · refine m_if_eq 118 hx hb dX5_bestMark_59 (by decide) (by omega) (fun h_15 => ?_) (fun h_15 => absurd h_15 (by omega))
            refine m_iinc (((i : Nat) : Int) + 1) [(7, .int (oI (((i : Nat) : Int) + 1))), (0, .ref (ad (0))), (1, .int (oI (r))), (2, .int (oI (x))), (3, .long (lN (oOrW n w r 4))), (5, .int (oI (be))), (6, .int (oI (mo)))] hx hb dX5_bestMark_118 hl (j := 6) rfl (by omega) (by decide) rfl (fun ls hl => ?_)
            refine lv_goto (tgt := 42) hx hb dX5_bestMark_121 (by decide) ?_
            exact ih42 (i + 1) be mo w4 g4 (by omega) (by first | assumption | omega) (by first | assumption | omega) (by rw [oBm_n (p := i) (fun q => hP ⟨hru, by omega, q.1.1⟩)]; exact hc) _ e62 e63 (hL42) _ _ hH ls (lv_sub hl [1, 2, 3, 4, 5, 6, 0] rfl)
    exact L42 _ 0 (-1) (-1) wr gr (Nat.lt_succ_self _) (by first | assumption | omega) (by first | assumption | omega) (rfl) _ e62 e63 (fun q _ _ => rfl) _ _ hH ls (lv_sub hl [4, 5, 6, 3, 2, 1, 0] rfl)
  · refine lv_iload_n hx hb dX5_bestMark_9 rfl (lv_at hl 2 rfl) ?_
    refine m_iconst 1 hx hb dX5_bestMark_10 rfl ?_
    refine m_icmp_eq 24 hx hb dX5_bestMark_11 (by decide) (by omega) (by omega) (fun h_16 => ?_) (fun h_16 => ?_)
    · refine lv_aload_n hx hb dX5_bestMark_24 rfl (lv_at hl 0 rfl) ?_
      refine gf_X5_present hx hb hts hown hK hH (k := 0) (by omega) eO dX5_bestMark_25 ?_
      refine lv_iload_n hx hb dX5_bestMark_28 rfl (lv_at hl 1 rfl) ?_
      refine m_pVn hx hb hml hown hts hK hH hl (rest := []) cw_X5_255 (c4_spreadWithout hA 1 n a g sz w r (by first | assumption | omega) (by first | assumption | omega) (by first | assumption | omega) e0 e1 e2) ⟨Nat.le_of_ble_eq_true rfl, Nat.le_of_ble_eq_true rfl⟩ ⟨Nat.le_of_ble_eq_true rfl, Nat.le_of_ble_eq_true rfl⟩ rfl (k := 1) (by omega) e0 rfl rfl (Nat.le_of_ble_eq_true rfl) dX5_bestMark_29 (fun H locs hH => ?_)
      refine lv_lstore_n (lv' := [(3, .long (lN (oOrW n w r 4))), (0, .ref (ad (0))), (1, .int (oI (r))), (2, .int (oI (x)))]) hx hb dX5_bestMark_32 rfl hl (by decide) rfl (fun ls hl => ?_)
      refine m_iconst (-1) hx hb dX5_bestMark_33 rfl ?_
      refine lv_istore (lv' := [(5, .int (oI ((-1)))), (3, .long (lN (oOrW n w r 4))), (0, .ref (ad (0))), (1, .int (oI (r))), (2, .int (oI (x)))]) hx hb dX5_bestMark_34 hl (by decide) rfl (fun ls hl => ?_)
      refine m_iconst (-1) hx hb dX5_bestMark_36 rfl ?_
      refine lv_istore (lv' := [(6, .int (oI ((-1)))), (5, .int (oI ((-1)))), (3, .long (lN (oOrW n w r 4))), (0, .ref (ad (0))), (1, .int (oI (r))), (2, .int (oI (x)))]) hx hb dX5_bestMark_37 hl (by decide) rfl (fun ls hl => ?_)
      refine m_iconst 0 hx hb dX5_bestMark_39 rfl ?_
      refine lv_istore (lv' := [(7, .int (oI (0))), (6, .int (oI ((-1)))), (5, .int (oI ((-1)))), (3, .long (lN (oOrW n w r 4))), (0, .ref (ad (0))), (1, .int (oI (r))), (2, .int (oI (x)))]) hx hb dX5_bestMark_40 hl (by decide) rfl (fun ls hl => ?_)
      have L42 : ∀ (fu : Nat) (i : Nat) (be : Int) (mo : Int) (w4 : Nat → Nat) (g4 : Nat → Nat), (42 - i < fu) → (i ≤ 41) → (-1 ≤ be ∧ be ≤ 40 ∧ -1 ≤ mo ∧ mo ≤ 150) → (oBm n a g sz w r i = (be, mo)) → ∀ σL42 : Nat → va_E, σL42 (62) = oAJ cT 4 w4 → σL42 (63) = oAJ cT 4 g4 → (∀ q : Nat, q ≠ 62 → q ≠ 63 → σL42 q = σ q) → ∀ (H : Heap) (locs : List Loc), oH b0 D N ad Ss.heap σL42 H locs → ∀ ls : Array Slot, lv_has ls 11 [(0, .ref (ad (0))), (1, .int (oI (r))), (2, .int (oI (x))), (3, .long (lN (oOrW n w r 4))), (5, .int (oI (be))), (6, .int (oI (mo))), (7, .int (oI (((i : Nat) : Int))))] → W Pp l Ee { frames := 7, cells := 2, slots := 6 * 2, locals := 116 } Ss Mm Ar Bb Me Cc H locs (0 + 1) (0 + 6 * 1) (vx_MQ Bb (va_Qi (fun rr uu => ∃ w2 : Nat → Nat, ∃ gr2 : Nat → Nat, rr = oI ((if x = 0 then (oBm n a g sz w r 41).1 else (oBm n a g sz w r 41).2)) ∧ ((0 ≤ r ∧ r < (n : Int))) ∧ (x = 0 ∨ x = 1) ∧ uu (62) = oAJ cT 4 w2 ∧ uu (63) = oAJ cT 4 gr2 ∧ (∀ q : Nat, q ≠ 62 → q ≠ 63 → uu q = σ q)) (oV D N ad) (fun q => b0 ≤ q)) (oXC b0 D N ad (fun E uu => ((E = oIO ∧ ¬ (0 ≤ r ∧ r < (n : Int))) ∨ (E = oIA ∧ (0 ≤ r ∧ r < (n : Int)) ∧ ¬ (x = 0 ∨ x = 1))) ∧ uu = σ)) Ar Ss 2 (6 * 2) (fun q => b0 ≤ q)) (F0 Mm 42 ls []) := by
        intro fu42
        induction fu42 with
        | zero =>
          intro i be mo w4 g4 hm42
          exact absurd hm42 (Nat.not_lt_zero _)
        | succ fu42 ih42 =>
          intro i be mo w4 g4 hm42 hi hb2 hc σL42 e62 e63 hL42 H locs hH ls hl
          have eO : σL42 (0) = .inr (5, [.ref (ad (1)), .ref (ad (4)), .ref (ad (7)), .ref (ad (10)), .int (oI (ff)), .int (oI (sf)), .ref (ad (13)), .ref (ad (57)), .ref (ad (59)), .ref (ad (64))]) := (hL42 _ (by decide) (by decide)).trans eO
          have e0 : σL42 (1) = .inr (4, [.ref (ad (2)), .ref (ad (3)), .int (oI (((n : Nat) : Int))), .int (oI (((a : Nat) : Int))), .int (oI (((g : Nat) : Int)))]) := (hL42 _ (by decide) (by decide)).trans e0
          have e1 : σL42 (2) = oAN cT 4 sz := (hL42 _ (by decide) (by decide)).trans e1
          have e2 : σL42 (3) = oAJ cT 4 w := (hL42 _ (by decide) (by decide)).trans e2
          have e59 : σL42 (59) = .inr (3, [.ref (ad (60)), .ref (ad (61)), .int (oI (((ld : Nat) : Int))), .ref (ad (62)), .ref (ad (63))]) := (hL42 _ (by decide) (by decide)).trans e59
          have hf : ∀ q : Nat, q ≠ 62 → q ≠ 63 → σL42 q = σ q := fun q n0 n1 => (hL42 q n0 n1).trans (hf q n0 n1)
          refine lv_iload hx hb dX5_bestMark_42 (lv_at hl 6 rfl) ?_
          refine m_bipush 40 hx hb dX5_bestMark_44 (by decide) ?_
          refine m_icmp_gt 124 hx hb dX5_bestMark_46 (by decide) (by omega) (by omega) (fun h_17 => ?_) (fun h_17 => ?_)
          · refine lv_iload_n hx hb dX5_bestMark_124 rfl (lv_at hl 2 rfl) ?_
            refine m_if_ne 133 hx hb dX5_bestMark_125 (by decide) (by omega) (fun h_18 => ?_) (fun h_18 => ?_)
            · refine lv_iload hx hb dX5_bestMark_133 (lv_at hl 5 rfl) ?_
              exact m_iretX hx hb hlk hrt hH ⟨Nat.le_of_ble_eq_true rfl, Nat.le_of_ble_eq_true rfl⟩ (m_ni _) dX5_bestMark_135 ⟨w4, g4, congrArg oI (by rw [show i = 41 by omega] at hc; rw [hc]; dsimp only; split <;> omega), hru, (by first | assumption | omega), e62, e63, hf⟩
            · refine lv_iload hx hb dX5_bestMark_128 (lv_at hl 4 rfl) ?_
              refine lv_goto (tgt := 135) hx hb dX5_bestMark_130 (by decide) ?_
              exact m_iretX hx hb hlk hrt hH ⟨Nat.le_of_ble_eq_true rfl, Nat.le_of_ble_eq_true rfl⟩ (m_ni _) dX5_bestMark_135 ⟨w4, g4, congrArg oI (by rw [show i = 41 by omega] at hc; rw [hc]; dsimp only; split <;> omega), hru, (by first | assumption | omega), e62, e63, hf⟩
          · refine lv_aload_n hx hb dX5_bestMark_49 rfl (lv_at hl 0 rfl) ?_
            refine gf_X5_present hx hb hts hown hK hH (k := 0) (by omega) eO dX5_bestMark_50 ?_
            refine lv_iload_n hx hb dX5_bestMark_53 rfl (lv_at hl 1 rfl) ?_
            refine lv_iload hx hb dX5_bestMark_54 (lv_at hl 6 rfl) ?_
            refine m_pVb hx hb hml hown hts hK hH hl (rest := []) cw_X5_161 (c4_hasPlace hA 1 n a g sz w r ((i : Nat) : Int) (by first | assumption | omega) (by first | assumption | omega) (by first | assumption | omega) (by first | assumption | omega) (by first | assumption | omega) e0 e1 e2) ⟨Nat.le_of_ble_eq_true rfl, Nat.le_of_ble_eq_true rfl⟩ ⟨Nat.le_of_ble_eq_true rfl, Nat.le_of_ble_eq_true rfl⟩ rfl (k := 1) (by omega) e0 rfl rfl (Nat.le_of_ble_eq_true rfl) dX5_bestMark_56 (fun hP H locs hH => ?_) (fun hP H locs hH => ?_)
            · refine m_if_eq 118 hx hb dX5_bestMark_59 (by decide) (by omega) (fun h_19 => absurd h_19 (by omega)) (fun h_19 => ?_)
              refine lv_aload_n hx hb dX5_bestMark_62 rfl (lv_at hl 0 rfl) ?_
              refine gf_X5_present hx hb hts hown hK hH (k := 0) (by omega) eO dX5_bestMark_63 ?_
              refine lv_iload_n hx hb dX5_bestMark_66 rfl (lv_at hl 1 rfl) ?_
              refine lv_iload hx hb dX5_bestMark_67 (lv_at hl 6 rfl) ?_
              refine m_pVb hx hb hml hown hts hK hH hl (rest := []) cw_X5_170 (c4_hasMark hA 1 n a g sz w r ((i : Nat) : Int) (by first | assumption | omega) (by first | assumption | omega) (by first | assumption | omega) (by first | assumption | omega) (by first | assumption | omega) e0 e1 e2) ⟨Nat.le_of_ble_eq_true rfl, Nat.le_of_ble_eq_true rfl⟩ ⟨Nat.le_of_ble_eq_true rfl, Nat.le_of_ble_eq_true rfl⟩ rfl (k := 1) (by omega) e0 rfl rfl (Nat.le_of_ble_eq_true rfl) dX5_bestMark_69 (fun hM H locs hH => ?_) (fun hM H locs hH => ?_)
              · refine m_if_ne 118 hx hb dX5_bestMark_72 (by decide) (by omega) (fun h_20 => ?_) (fun h_20 => absurd h_20 (by omega))
                refine m_iinc (((i : Nat) : Int) + 1) [(7, .int (oI (((i : Nat) : Int) + 1))), (0, .ref (ad (0))), (1, .int (oI (r))), (2, .int (oI (x))), (3, .long (lN (oOrW n w r 4))), (5, .int (oI (be))), (6, .int (oI (mo)))] hx hb dX5_bestMark_118 hl (j := 6) rfl (by omega) (by decide) rfl (fun ls hl => ?_)
                refine lv_goto (tgt := 42) hx hb dX5_bestMark_121 (by decide) ?_
                exact ih42 (i + 1) be mo w4 g4 (by omega) (by first | assumption | omega) (by first | assumption | omega) (by rw [oBm_n (p := i) (fun q => q.1.2 hM.2.2)]; exact hc) _ e62 e63 (hL42) _ _ hH ls (lv_sub hl [1, 2, 3, 4, 5, 6, 0] rfl)
              · refine m_if_ne 118 hx hb dX5_bestMark_72 (by decide) (by omega) (fun h_21 => absurd h_21 (by omega)) (fun h_21 => ?_)
                refine lv_lload_n hx hb dX5_bestMark_75 rfl (lv_at hl 3 rfl) ?_
                refine lv_aload_n hx hb dX5_bestMark_76 rfl (lv_at hl 0 rfl) ?_
                refine gf_X5_present hx hb hts hown hK hH (k := 0) (by omega) eO dX5_bestMark_77 ?_
                refine lv_iload_n hx hb dX5_bestMark_80 rfl (lv_at hl 1 rfl) ?_
                refine m_pVn hx hb hml hown hts hK hH hl (rest := [.long (lN (oOrW n w r 4))]) cw_X5_147 (c4_row hA 1 n a g sz w r (by first | assumption | omega) (by first | assumption | omega) (by first | assumption | omega) e0 e1 e2) ⟨Nat.le_of_ble_eq_true rfl, Nat.le_of_ble_eq_true rfl⟩ ⟨Nat.le_of_ble_eq_true rfl, Nat.le_of_ble_eq_true rfl⟩ rfl (k := 1) (by omega) e0 rfl rfl (Nat.le_of_ble_eq_true rfl) dX5_bestMark_81 (fun H locs hH => ?_)
                refine m_lconstN 1 hx hb dX5_bestMark_84 rfl ?_
                refine lv_iload hx hb dX5_bestMark_85 (lv_at hl 6 rfl) ?_
                refine m_lshl (2 ^ i) hx hb dX5_bestMark_87 (by omega) (Nat.one_mul _) ?_
                refine m_lor ((oRow n w r) ||| (2 ^ i)) hx hb dX5_bestMark_88 (rfl) ?_
                refine m_pSn hx hb hml hown hts hK hH hl (rest := [.long (lN (oOrW n w r 4))]) cw_X5_151 rfl (c5_spreadOf hA ((oRow n w r) ||| (2 ^ i)) (Nat.or_lt_two_pow (hw64 r) (Nat.pow_lt_pow_right (by decide) (by omega))) ) ⟨Nat.le_of_ble_eq_true rfl, Nat.le_of_ble_eq_true rfl⟩ ⟨Nat.le_of_ble_eq_true rfl, Nat.le_of_ble_eq_true rfl⟩ rfl rfl (Nat.le_of_ble_eq_true rfl) dX5_bestMark_89 (fun H locs hH => ?_)
                refine m_lor ((oOrW n w r 4) ||| (oSpr ((oRow n w r) ||| (2 ^ i)) 41)) hx hb dX5_bestMark_92 (rfl) ?_
                refine lv_lstore (lv' := [(8, .long (lN ((oOrW n w r 4) ||| (oSpr ((oRow n w r) ||| (2 ^ i)) 41)))), (0, .ref (ad (0))), (1, .int (oI (r))), (2, .int (oI (x))), (3, .long (lN (oOrW n w r 4))), (5, .int (oI (be))), (6, .int (oI (mo))), (7, .int (oI (((i : Nat) : Int))))]) hx hb dX5_bestMark_93 hl (by decide) rfl (fun ls hl => ?_)
                refine lv_aload_n hx hb dX5_bestMark_95 rfl (lv_at hl 1 rfl) ?_
                refine lv_lload hx hb dX5_bestMark_96 (lv_at hl 0 rfl) ?_
                have hcx := oCnt_le (oOrW n w r 4 ||| oSpr (oRow n w r ||| 2 ^ i) 41) a g
                refine m_callVi hx hb hml hown hts hK hH hl (rest := []) cw_X5_258 (c5_laidBy hA ((oOrW n w r 4) ||| (oSpr ((oRow n w r) ||| (2 ^ i)) 41)) n a g sz w ld w4 g4 ff sf (by first | assumption | omega) (by first | assumption | omega) (Nat.or_lt_two_pow ho64 (oSpr_41 _)) eO e0 e1 e2 e59 e62 e63) ⟨Nat.le_of_ble_eq_true rfl, Nat.le_of_ble_eq_true rfl⟩ ⟨Nat.le_of_ble_eq_true rfl, Nat.le_of_ble_eq_true rfl⟩ rfl (k := 0) (by omega) eO rfl rfl (Nat.le_of_ble_eq_true rfl) dX5_bestMark_98 (fun r_25 σ_22 H locs hp_23 hH => ?_)
                obtain ⟨w5, g5, rfl, e62, e63, hq_24⟩ := hp_23
                have eO : σ_22 (0) = .inr (5, [.ref (ad (1)), .ref (ad (4)), .ref (ad (7)), .ref (ad (10)), .int (oI (ff)), .int (oI (sf)), .ref (ad (13)), .ref (ad (57)), .ref (ad (59)), .ref (ad (64))]) := (hq_24 _ (by decide) (by decide)).trans eO
                have e0 : σ_22 (1) = .inr (4, [.ref (ad (2)), .ref (ad (3)), .int (oI (((n : Nat) : Int))), .int (oI (((a : Nat) : Int))), .int (oI (((g : Nat) : Int)))]) := (hq_24 _ (by decide) (by decide)).trans e0
                have e1 : σ_22 (2) = oAN cT 4 sz := (hq_24 _ (by decide) (by decide)).trans e1
                have e2 : σ_22 (3) = oAJ cT 4 w := (hq_24 _ (by decide) (by decide)).trans e2
                have e59 : σ_22 (59) = .inr (3, [.ref (ad (60)), .ref (ad (61)), .int (oI (((ld : Nat) : Int))), .ref (ad (62)), .ref (ad (63))]) := (hq_24 _ (by decide) (by decide)).trans e59
                have hf : ∀ q : Nat, q ≠ 62 → q ≠ 63 → σ_22 q = σ q := fun q n0 n1 => (hq_24 q n0 n1).trans (hf q n0 n1)
                have hL42 : ∀ q : Nat, q ≠ 62 → q ≠ 63 → σ_22 q = σ q := fun q n0 n1 => (hq_24 q n0 n1).trans (hL42 q n0 n1)
                refine lv_istore (lv' := [(10, .int (oI (((oCnt ((oOrW n w r 4) ||| (oSpr ((oRow n w r) ||| (2 ^ i)) 41)) a g : Nat) : Int)))), (8, .long (lN ((oOrW n w r 4) ||| (oSpr ((oRow n w r) ||| (2 ^ i)) 41)))), (0, .ref (ad (0))), (1, .int (oI (r))), (2, .int (oI (x))), (3, .long (lN (oOrW n w r 4))), (5, .int (oI (be))), (6, .int (oI (mo))), (7, .int (oI (((i : Nat) : Int))))]) hx hb dX5_bestMark_101 hl (by decide) rfl (fun ls hl => ?_)
                refine lv_iload hx hb dX5_bestMark_103 (lv_at hl 0 rfl) ?_
                refine lv_iload hx hb dX5_bestMark_105 (lv_at hl 7 rfl) ?_
                refine m_icmp_le 118 hx hb dX5_bestMark_107 (by decide) (by omega) (by omega) (fun hcmp => ?_) (fun hcmp => ?_)
                · have hle : ¬ (mo < (oCnt (oOrW n w r 4 ||| oSpr (oRow n w r ||| 2 ^ i) 41) a g : Int)) := Int.not_lt.mpr hcmp
                  refine m_iinc (((i : Nat) : Int) + 1) [(7, .int (oI (((i : Nat) : Int) + 1))), (10, .int (oI (((oCnt ((oOrW n w r 4) ||| (oSpr ((oRow n w r) ||| (2 ^ i)) 41)) a g : Nat) : Int)))), (8, .long (lN ((oOrW n w r 4) ||| (oSpr ((oRow n w r) ||| (2 ^ i)) 41)))), (0, .ref (ad (0))), (1, .int (oI (r))), (2, .int (oI (x))), (3, .long (lN (oOrW n w r 4))), (5, .int (oI (be))), (6, .int (oI (mo)))] hx hb dX5_bestMark_118 hl (j := 8) rfl (by omega) (by decide) rfl (fun ls hl => ?_)
                  refine lv_goto (tgt := 42) hx hb dX5_bestMark_121 (by decide) ?_
                  exact ih42 (i + 1) be mo w5 g5 (by omega) (by first | assumption | omega) (by first | assumption | omega) (by rw [oBm_n (p := i) (fun q => hle (by have q2 := q.2; rw [hc] at q2; exact q2))]; exact hc) _ e62 e63 (hL42) _ _ hH ls (lv_sub hl [3, 4, 5, 6, 7, 8, 0] rfl)
                · have hgt : mo < (oCnt (oOrW n w r 4 ||| oSpr (oRow n w r ||| 2 ^ i) 41) a g : Int) := hcmp
                  refine lv_iload hx hb dX5_bestMark_110 (lv_at hl 0 rfl) ?_
                  refine lv_istore (lv' := [(6, .int (oI (((oCnt ((oOrW n w r 4) ||| (oSpr ((oRow n w r) ||| (2 ^ i)) 41)) a g : Nat) : Int)))), (10, .int (oI (((oCnt ((oOrW n w r 4) ||| (oSpr ((oRow n w r) ||| (2 ^ i)) 41)) a g : Nat) : Int)))), (8, .long (lN ((oOrW n w r 4) ||| (oSpr ((oRow n w r) ||| (2 ^ i)) 41)))), (0, .ref (ad (0))), (1, .int (oI (r))), (2, .int (oI (x))), (3, .long (lN (oOrW n w r 4))), (5, .int (oI (be))), (7, .int (oI (((i : Nat) : Int))))]) hx hb dX5_bestMark_112 hl (by decide) rfl (fun ls hl => ?_)
                  refine lv_iload hx hb dX5_bestMark_114 (lv_at hl 8 rfl) ?_
                  refine lv_istore (lv' := [(5, .int (oI (((i : Nat) : Int)))), (6, .int (oI (((oCnt ((oOrW n w r 4) ||| (oSpr ((oRow n w r) ||| (2 ^ i)) 41)) a g : Nat) : Int)))), (10, .int (oI (((oCnt ((oOrW n w r 4) ||| (oSpr ((oRow n w r) ||| (2 ^ i)) 41)) a g : Nat) : Int)))), (8, .long (lN ((oOrW n w r 4) ||| (oSpr ((oRow n w r) ||| (2 ^ i)) 41)))), (0, .ref (ad (0))), (1, .int (oI (r))), (2, .int (oI (x))), (3, .long (lN (oOrW n w r 4))), (7, .int (oI (((i : Nat) : Int))))]) hx hb dX5_bestMark_116 hl (by decide) rfl (fun ls hl => ?_)
                  refine m_iinc (((i : Nat) : Int) + 1) [(7, .int (oI (((i : Nat) : Int) + 1))), (5, .int (oI (((i : Nat) : Int)))), (6, .int (oI (((oCnt ((oOrW n w r 4) ||| (oSpr ((oRow n w r) ||| (2 ^ i)) 41)) a g : Nat) : Int)))), (10, .int (oI (((oCnt ((oOrW n w r 4) ||| (oSpr ((oRow n w r) ||| (2 ^ i)) 41)) a g : Nat) : Int)))), (8, .long (lN ((oOrW n w r 4) ||| (oSpr ((oRow n w r) ||| (2 ^ i)) 41)))), (0, .ref (ad (0))), (1, .int (oI (r))), (2, .int (oI (x))), (3, .long (lN (oOrW n w r 4)))] hx hb dX5_bestMark_118 hl (j := 8) rfl (by omega) (by decide) rfl (fun ls hl => ?_)
                  refine lv_goto (tgt := 42) hx hb dX5_bestMark_121 (by decide) ?_
                  exact ih42 (i + 1) ((i : Nat) : Int) ((oCnt ((oOrW n w r 4) ||| (oSpr ((oRow n w r) ||| (2 ^ i)) 41)) a g : Nat) : Int) w5 g5 (by omega) (by first | assumption | omega) (by first | assumption | omega) (by rw [oBm_y (p := i) ⟨⟨by omega, fun q => hM ⟨by omega, by omega, q⟩⟩, by rw [hc]; exact hgt⟩]) _ e62 e63 (hL42) _ _ hH ls (lv_sub hl [5, 6, 7, 8, 1, 2, 0] rfl)
            · refine m_if_eq 118 hx hb dX5_bestMark_59 (by decide) (by omega) (fun h_27 => ?_) (fun h_27 => absurd h_27 (by omega))
              refine m_iinc (((i : Nat) : Int) + 1) [(7, .int (oI (((i : Nat) : Int) + 1))), (0, .ref (ad (0))), (1, .int (oI (r))), (2, .int (oI (x))), (3, .long (lN (oOrW n w r 4))), (5, .int (oI (be))), (6, .int (oI (mo)))] hx hb dX5_bestMark_118 hl (j := 6) rfl (by omega) (by decide) rfl (fun ls hl => ?_)
              refine lv_goto (tgt := 42) hx hb dX5_bestMark_121 (by decide) ?_
              exact ih42 (i + 1) be mo w4 g4 (by omega) (by first | assumption | omega) (by first | assumption | omega) (by rw [oBm_n (p := i) (fun q => hP ⟨hru, by omega, q.1.1⟩)]; exact hc) _ e62 e63 (hL42) _ _ hH ls (lv_sub hl [1, 2, 3, 4, 5, 6, 0] rfl)
      exact L42 _ 0 (-1) (-1) wr gr (Nat.lt_succ_self _) (by first | assumption | omega) (by first | assumption | omega) (rfl) _ e62 e63 (fun q _ _ => rfl) _ _ hH ls (lv_sub hl [4, 5, 6, 3, 2, 1, 0] rfl)
    · exact m_throw (text := "no such number") hx hb hl0 hml hown hts hK hXT hH hl hlk hnt oth_0 (by decide) dX5_bestMark_14 dX5_bestMark_17 dX5_bestMark_18 dX5_bestMark_20 dX5_bestMark_23 ⟨Nat.le_of_ble_eq_true rfl, Nat.le_of_ble_eq_true rfl⟩ (Nat.le_of_ble_eq_true rfl) ⟨Nat.le_of_ble_eq_true rfl, Nat.le_of_ble_eq_true rfl⟩ ⟨Nat.le_of_ble_eq_true rfl, Nat.le_of_ble_eq_true rfl⟩ (⟨Or.inr ⟨rfl, hru, by omega⟩, rfl⟩)
