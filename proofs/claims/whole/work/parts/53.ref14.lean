theorem oMiss_of {w no : Nat} (hw : w < 2 ^ 41) (h1 : 1 ≤ no ∧ no ≤ 41) (hn1 : ∀ q : Nat, 1 ≤ q → q < no → 0 < oPa w q) (hn2 : no ≤ 40 → ¬ 0 < oPa w no) : oMiss (oSpr w 41) = no := by
  by_cases e : no ≤ 40
  · exact oMiss_at h1.1 e (fun q => hn2 e ((oSpr_pa hw h1.1 e).mpr q)) (fun q q1 q2 => (oSpr_pa hw q1 (by omega)).mp (hn1 q q1 q2))
  · rw [show no = 41 by omega]
    exact oMiss_no (fun q q1 q2 => (oSpr_pa hw q1 (by omega)).mp (hn1 q q1 (by omega)))
def oRem (f fd d2 : Nat → Int) (ac ac2 : Nat) : Prop := (ac < 14 ∧ ac2 = ac + 1 ∧ (∀ k : Nat, k < 171 * ac → d2 k = fd k) ∧ ∀ k : Nat, k < 171 → d2 (k + 171 * ac) = f k) ∨ (ac = 14 ∧ ac2 = 14 ∧ (∀ k : Nat, k < 2223 → d2 k = fd (k + 171)) ∧ ∀ k : Nat, k < 171 → d2 (k + 2223) = f k)
theorem oR_dvd {sp : Nat} : ∀ (k t : Nat), oR sp 0 k t → oGc sp 40 ∣ t
  | 0, t, h => by rw [show t = 0 from h]; exact Nat.dvd_zero _
  | k + 1, t, h => by
    rcases h with h | ⟨_, d, d1, d2, d3, h⟩
    · exact oR_dvd k t h
    · have hd := oGc_dvd sp 40 d d1 d2 d3
      rcases h with ⟨h1, h2⟩ | h
      · have := Nat.dvd_add (oR_dvd k _ h2) hd
        rw [show t - d + d = t by omega] at this
        exact this
      · have := Nat.dvd_sub (oR_dvd k _ h) hd
        rw [show t + d - d = t by omega] at this
        exact this
theorem oGc_pos {n : Nat} {sz w : Nat → Nat} (hwf : oWf n sz w) (hn : 1 ≤ n) : 1 ≤ oGc (oOrW n w (-1) 4) 40 := by
  have h0 := hwf.2 0 (by omega)
  have h1 : 0 < oPa (oRow n w ((0 : Nat) : Int)) (sz 0) := by
    rw [oRow_in (by omega)]
    exact oPa_end (hwf.row (by omega)) h0.2.2.2.1 h0.2.2.2.2
  have h2 := (oAllP_bit hwf (k := sz 0) (by omega)).mp (oAllP_in h1 n (by omega))
  have h3 := oGc_dvd (oOrW n w (-1) 4) 40 (sz 0) (by omega) (by omega) h2
  rcases Nat.eq_zero_or_pos (oGc (oOrW n w (-1) 4) 40) with e | e
  · rw [e] at h3
    have := Nat.eq_zero_of_zero_dvd h3
    omega
  · exact e
theorem oR_n0 {w : Nat → Nat} : ∀ (k t : Nat), oR (oOrW 0 w (-1) 4) 0 k t → t = 0
  | 0, t, h => h
  | k + 1, t, h => by
    rcases h with h | ⟨_, d, d1, d2, d3, h⟩
    · exact oR_n0 k t h
    · obtain ⟨r, _, _, hr⟩ := oOrW_tb 4 d3
      obtain ⟨_, hne⟩ := oSpr_tb 41 hr
      exact absurd (by rw [oRow_out (by omega), Nat.zero_and]) hne
theorem oWhy_0 {t n a : Nat} {w : Nat → Nat} {dz : Int} (hd : oDist (oOrW n w (-1) 4) 0 t = dz) (h : 0 ≤ dz ∧ dz ≤ (a : Int)) : oWhy t n a (oOrW n w (-1) 4) = 0 := by
  have hR : oR (oOrW n w (-1) 4) 0 a t := oR_dist.mpr (by rw [hd]; exact h)
  unfold oWhy
  by_cases e : t = 0
  · rw [if_pos e]
  · rw [if_neg e, if_neg (fun q => by subst q; exact e (oR_n0 a t hR)), if_neg (fun q => q.2 (Nat.mod_eq_zero_of_dvd (oR_dvd a t hR))), if_neg (by rw [hd]; omega), if_neg (by rw [hd]; omega)]
set_option maxHeartbeats 4000000 in
set_option maxRecDepth 100000 in
theorem c6_rulerOf {l : Launch} {D : va_G} {cT : Nat → ClassId} {N b0 : Nat} {ad : Nat → Nat} (hA : oAd b0 N ad) {σ : Nat → va_E} (r x : Int) (si ac6 spo ou6 : Nat) (rf : Int) (n a g : Nat) (f : Nat → Int) (sz w : Nat → Nat) (s : Nat → Nat) (hN : 76 ≤ N) (hwf : oWf n sz w) (hag : oAg a g) (hp : oRS f n a g sz w) (hbr : -2147483648 ≤ r ∧ r < 2147483648) (hbx : -2147483648 ≤ x ∧ x < 2147483648) (eM6 : σ (65) = .inr (6, [.int (oI (rf)), .ref (ad (66)), .int (oI (((si : Nat) : Int))), .ref (ad (67)), .ref (ad (68)), .ref (ad (69)), .int (oI (((ac6 : Nat) : Int))), .ref (ad (70)), .ref (ad (71)), .ref (ad (72)), .ref (ad (73)), .ref (ad (74)), .int (oI (((spo : Nat) : Int))), .int (oI (((ou6 : Nat) : Int)))])) (e67 : σ (67) = oAI cT 171 f) (e72 : σ (72) = oAN cT 41 s) :
    oCi l D cT N ad b0 yX6_rulerOf cX6_rulerOf 6 (some .int) 3 66 [.ref (ad (65)), .int (oI (r)), .int (oI (x))] σ (fun rr uu => ∃ v9 : Int, ∃ r9 : Int, ∃ s2 : Nat → Nat, rr = oI (v9) ∧ (((0 ≤ r ∧ r < (n : Int)) ∧ (0 ≤ x ∧ x ≤ 5) ∧ r9 = 0 ∧ v9 = ((oRul x (oRow n w r) (oSize n sz r) : Nat) : Int)) ∨ (r9 = 1 ∧ ¬ (0 ≤ r ∧ r < (n : Int))) ∨ (r9 = 2 ∧ (0 ≤ r ∧ r < (n : Int)) ∧ ¬ (0 ≤ x ∧ x ≤ 5))) ∧ uu (65) = .inr (6, [.int (oI (r9)), .ref (ad (66)), .int (oI (((si : Nat) : Int))), .ref (ad (67)), .ref (ad (68)), .ref (ad (69)), .int (oI (((ac6 : Nat) : Int))), .ref (ad (70)), .ref (ad (71)), .ref (ad (72)), .ref (ad (73)), .ref (ad (74)), .int (oI (((spo : Nat) : Int))), .int (oI (((ou6 : Nat) : Int)))]) ∧ uu (72) = oAN cT 41 s2 ∧ (∀ q : Nat, q ≠ 65 → q ≠ 72 → uu q = σ q)) := by
  refine m_start (cc := cX6_rulerOf) (by decide) (Nat.le_of_ble_eq_true rfl) rfl ?_
  intro Pp Ee Ss Mm Bb Me Cc Ar ls hx hb hml hown hlk hrt hts hK hH hl
  have hown : Ss.vm.findClass RX6 = some Mm.cls := hown
  have hn := hwf.1
  have hl : lv_has ls 6 [(0, .ref (ad (65))), (1, .int (oI (r))), (2, .int (oI (x)))] := hl
  have hf : ∀ q : Nat, q ≠ 65 → q ≠ 72 → σ q = σ q := fun q _ _ => rfl
  refine lv_aload_n hx hb dX6_rulerOf_0 rfl (lv_at hl 0 rfl) ?_
  refine lv_aload_n hx hb dX6_rulerOf_1 rfl (lv_at hl 0 rfl) ?_
  refine gf_X6_now hx hb hts hown hK hH (k := 65) (by omega) eM6 dX6_rulerOf_2 ?_
  refine lv_iload_n hx hb dX6_rulerOf_5 rfl (lv_at hl 1 rfl) ?_
  refine m_pSb hx hb hml hown hts hK hH hl (rest := [.ref (ad (65))]) cw_X6_50 rfl (c6_isRuler hA 67 n a g f sz w r (by first | assumption | omega) (by first | assumption | omega) (by first | assumption | omega) (by first | assumption | omega) e67) ⟨Nat.le_of_ble_eq_true rfl, Nat.le_of_ble_eq_true rfl⟩ ⟨Nat.le_of_ble_eq_true rfl, Nat.le_of_ble_eq_true rfl⟩ rfl rfl (Nat.le_of_ble_eq_true rfl) dX6_rulerOf_6 (fun hR H locs hH => ?_) (fun hR H locs hH => ?_)
  · have eS : oSize n sz r = sz r.toNat := oSize_in hR
    have eR : oRow n w r = w r.toNat := oRow_in hR
    have hs9 := hwf.2 r.toNat (by omega)
    have hw41 := hwf.row (r := r.toNat) (by omega)
    refine m_if_ne 16 hx hb dX6_rulerOf_9 (by decide) (by omega) (fun h_1 => ?_) (fun h_1 => absurd h_1 (by omega))
    refine lv_iload_n hx hb dX6_rulerOf_16 rfl (lv_at hl 2 rfl) ?_
    refine m_i2l hx hb dX6_rulerOf_17 (by omega) ?_
    refine m_lconst 0 hx hb dX6_rulerOf_18 rfl ?_
    refine lv_ldc2 (v := 5) hx hb hown (hts _ kl_X6_188) dX6_rulerOf_19 ?_
    refine m_J2L 5 (by decide +kernel) ?_
    refine m_pSb hx hb hml hown hts hK hH hl (rest := [.ref (ad (65))]) cw_X6_46 rfl (c6_in hA x 0 5 (by first | assumption | omega) (by first | assumption | omega) (by first | assumption | omega) ) ⟨Nat.le_of_ble_eq_true rfl, Nat.le_of_ble_eq_true rfl⟩ ⟨Nat.le_of_ble_eq_true rfl, Nat.le_of_ble_eq_true rfl⟩ rfl rfl (Nat.le_of_ble_eq_true rfl) dX6_rulerOf_22 (fun hx5 H locs hH => ?_) (fun hx5 H locs hH => ?_)
    · refine m_if_eq 32 hx hb dX6_rulerOf_25 (by decide) (by omega) (fun h_2 => absurd h_2 (by omega)) (fun h_2 => ?_)
      refine m_iconst 0 hx hb dX6_rulerOf_28 rfl ?_
      refine lv_goto (tgt := 33) hx hb dX6_rulerOf_29 (by decide) ?_
      refine m_callVi hx hb hml hown hts hK hH hl (rest := []) cw_X6_111 (c6_ref0 hA si ac6 spo ou6 rf (by first | assumption | omega) eM6) ⟨Nat.le_of_ble_eq_true rfl, Nat.le_of_ble_eq_true rfl⟩ ⟨Nat.le_of_ble_eq_true rfl, Nat.le_of_ble_eq_true rfl⟩ rfl (k := 65) (by omega) eM6 rfl rfl (Nat.le_of_ble_eq_true rfl) dX6_rulerOf_33 (fun r_6 σ_3 H locs hp_4 hH => ?_)
      obtain ⟨rfl, eM6, hq_5⟩ := hp_4
      have e67 : σ_3 (67) = oAI cT 171 f := (hq_5 _ (by decide)).trans e67
      have e72 : σ_3 (72) = oAN cT 41 s := (hq_5 _ (by decide)).trans e72
      have hf : ∀ q : Nat, q ≠ 65 → q ≠ 72 → σ_3 q = σ q := fun q n0 n1 => (hq_5 q n0).trans (hf q n0 n1)
      refine m_if_eq 41 hx hb dX6_rulerOf_36 (by decide) (by omega) (fun h_7 => ?_) (fun h_7 => absurd h_7 (by omega))
      refine lv_aload_n hx hb dX6_rulerOf_41 rfl (lv_at hl 0 rfl) ?_
      refine m_callVv hx hb hml hown hts hK hH hl (rest := []) cw_X6_71 (c6_noSpans hA si ac6 spo ou6 0 s (by first | assumption | omega) eM6 e72) ⟨Nat.le_of_ble_eq_true rfl, Nat.le_of_ble_eq_true rfl⟩ ⟨Nat.le_of_ble_eq_true rfl, Nat.le_of_ble_eq_true rfl⟩ rfl (k := 65) (by omega) eM6 rfl rfl (Nat.le_of_ble_eq_true rfl) dX6_rulerOf_42 (fun σ_8 H locs hp_9 hH => ?_)
      obtain ⟨s5, hs5, e72, hq_10⟩ := hp_9
      have eM6 : σ_8 (65) = .inr (6, [.int (oI (0)), .ref (ad (66)), .int (oI (((si : Nat) : Int))), .ref (ad (67)), .ref (ad (68)), .ref (ad (69)), .int (oI (((ac6 : Nat) : Int))), .ref (ad (70)), .ref (ad (71)), .ref (ad (72)), .ref (ad (73)), .ref (ad (74)), .int (oI (((spo : Nat) : Int))), .int (oI (((ou6 : Nat) : Int)))]) := (hq_10 _ (by decide)).trans eM6
      have e67 : σ_8 (67) = oAI cT 171 f := (hq_10 _ (by decide)).trans e67
      have hf : ∀ q : Nat, q ≠ 65 → q ≠ 72 → σ_8 q = σ q := fun q n0 n1 => (hq_10 q n1).trans (hf q n0 n1)
      refine lv_aload_n hx hb dX6_rulerOf_45 rfl (lv_at hl 0 rfl) ?_
      refine lv_aload_n hx hb dX6_rulerOf_46 rfl (lv_at hl 0 rfl) ?_
      refine gf_X6_now hx hb hts hown hK hH (k := 65) (by omega) eM6 dX6_rulerOf_47 ?_
      refine lv_iload_n hx hb dX6_rulerOf_50 rfl (lv_at hl 1 rfl) ?_
      refine m_topI (((r.toNat : Nat) : Int)) (by omega) ?_
      refine m_callVv hx hb hml hown hts hK hH hl (rest := []) cw_X6_74 (c6_addSpans hA si ac6 spo ou6 0 67 n a g f sz w s5 r.toNat (by first | assumption | omega) (by first | assumption | omega) (by first | assumption | omega) (by first | assumption | omega) (by first | assumption | omega) (fun d hd => by rw [hs5 d (by omega)]; omega) eM6 e67 e72) ⟨Nat.le_of_ble_eq_true rfl, Nat.le_of_ble_eq_true rfl⟩ ⟨Nat.le_of_ble_eq_true rfl, Nat.le_of_ble_eq_true rfl⟩ rfl (k := 65) (by omega) eM6 rfl rfl (Nat.le_of_ble_eq_true rfl) dX6_rulerOf_51 (fun σ_12 H locs hp_13 hH => ?_)
      obtain ⟨s6, hs6, hs60, e72, hq_14⟩ := hp_13
      have eM6 : σ_12 (65) = .inr (6, [.int (oI (0)), .ref (ad (66)), .int (oI (((si : Nat) : Int))), .ref (ad (67)), .ref (ad (68)), .ref (ad (69)), .int (oI (((ac6 : Nat) : Int))), .ref (ad (70)), .ref (ad (71)), .ref (ad (72)), .ref (ad (73)), .ref (ad (74)), .int (oI (((spo : Nat) : Int))), .int (oI (((ou6 : Nat) : Int)))]) := (hq_14 _ (by decide)).trans eM6
      have e67 : σ_12 (67) = oAI cT 171 f := (hq_14 _ (by decide)).trans e67
      have hf : ∀ q : Nat, q ≠ 65 → q ≠ 72 → σ_12 q = σ q := fun q n0 n1 => (hq_14 q n1).trans (hf q n0 n1)
      have hs7 : ∀ d : Nat, 1 ≤ d → d ≤ 40 → s6 d = oPa (w r.toNat) d := fun d h1 h2 => by rw [hs6 d h1 h2, hs5 d (by omega), Nat.zero_add]
      refine m_iconst 1 hx hb dX6_rulerOf_54 rfl ?_
      refine lv_istore_n (lv' := [(3, .int (oI (1))), (0, .ref (ad (65))), (1, .int (oI (r))), (2, .int (oI (x)))]) hx hb dX6_rulerOf_55 rfl hl (by decide) rfl (fun ls hl => ?_)
      refine m_iconst 1 hx hb dX6_rulerOf_56 rfl ?_
      refine lv_istore (lv' := [(4, .int (oI (1))), (3, .int (oI (1))), (0, .ref (ad (65))), (1, .int (oI (r))), (2, .int (oI (x)))]) hx hb dX6_rulerOf_57 hl (by decide) rfl (fun ls hl => ?_)
      refine m_iconst 1 hx hb dX6_rulerOf_59 rfl ?_
      refine lv_istore (lv' := [(5, .int (oI (1))), (4, .int (oI (1))), (3, .int (oI (1))), (0, .ref (ad (65))), (1, .int (oI (r))), (2, .int (oI (x)))]) hx hb dX6_rulerOf_60 hl (by decide) rfl (fun ls hl => ?_)
      have L62 : ∀ (fu : Nat) (i : Nat) (mo : Nat) (no : Nat), (41 - i < fu) → (i ≤ 40) → (mo = oMo (w r.toNat) i) → (i = 0 ∨ oPa (w r.toNat) (oMo (w r.toNat) i) = (oCom (w r.toNat) i).2) → (1 ≤ no ∧ no ≤ i + 1) → (∀ q : Nat, 1 ≤ q → q < no → 0 < oPa (w r.toNat) q) → (no ≤ i → ¬ 0 < oPa (w r.toNat) no) → ∀ (H : Heap) (locs : List Loc), oH b0 D N ad Ss.heap σ_12 H locs → ∀ ls : Array Slot, lv_has ls 6 [(0, .ref (ad (65))), (1, .int (oI (r))), (2, .int (oI (x))), (3, .int (oI (((mo : Nat) : Int)))), (4, .int (oI (((no : Nat) : Int)))), (5, .int (oI (((i : Nat) : Int) + 1)))] → W Pp l Ee { frames := 3, cells := 0, slots := 0, locals := 66 } Ss Mm Ar Bb Me Cc H locs 0 0 (MQ Bb (va_Qi (fun rr uu => ∃ v9 : Int, ∃ r9 : Int, ∃ s2 : Nat → Nat, rr = oI (v9) ∧ (((0 ≤ r ∧ r < (n : Int)) ∧ (0 ≤ x ∧ x ≤ 5) ∧ r9 = 0 ∧ v9 = ((oRul x (oRow n w r) (oSize n sz r) : Nat) : Int)) ∨ (r9 = 1 ∧ ¬ (0 ≤ r ∧ r < (n : Int))) ∨ (r9 = 2 ∧ (0 ≤ r ∧ r < (n : Int)) ∧ ¬ (0 ≤ x ∧ x ≤ 5))) ∧ uu (65) = .inr (6, [.int (oI (r9)), .ref (ad (66)), .int (oI (((si : Nat) : Int))), .ref (ad (67)), .ref (ad (68)), .ref (ad (69)), .int (oI (((ac6 : Nat) : Int))), .ref (ad (70)), .ref (ad (71)), .ref (ad (72)), .ref (ad (73)), .ref (ad (74)), .int (oI (((spo : Nat) : Int))), .int (oI (((ou6 : Nat) : Int)))]) ∧ uu (72) = oAN cT 41 s2 ∧ (∀ q : Nat, q ≠ 65 → q ≠ 72 → uu q = σ q)) (oV D N ad) (fun q => b0 ≤ q)) Ar Ss 0 0 (fun q => b0 ≤ q)) (F0 Mm 62 ls []) := by
        intro fu62
        induction fu62 with
        | zero =>
          intro i mo no hm62
          exact absurd hm62 (Nat.not_lt_zero _)
        | succ fu62 ih62 =>
          intro i mo no hm62 hi hmo hI hno hn1 hn2 H locs hH ls hl
          have hmb := oMo_b (w r.toNat) i
          refine lv_iload hx hb dX6_rulerOf_62 (lv_at hl 5 rfl) ?_
          refine m_bipush 40 hx hb dX6_rulerOf_64 (by decide) ?_
          refine m_icmp_gt 126 hx hb dX6_rulerOf_66 (by decide) (by omega) (by omega) (fun h_16 => ?_) (fun h_16 => ?_)
          · refine lv_iload_n hx hb dX6_rulerOf_126 rfl (lv_at hl 2 rfl) ?_
            rcases (show (x : Int) = 0 ∨ (x : Int) = 1 ∨ (x : Int) = 2 ∨ (x : Int) = 3 ∨ (x : Int) = 4 ∨ ((x : Int) < 0 ∨ 4 < (x : Int)) by omega) with hsw | hsw | hsw | hsw | hsw | hsw
            · refine m_tabIn 160 hx hb dX6_rulerOf_127 (by omega) (by omega) (by rw [hsw]; rfl) (by decide) ?_
              refine lv_aload_n hx hb dX6_rulerOf_160 rfl (lv_at hl 0 rfl) ?_
              refine gf_X6_now hx hb hts hown hK hH (k := 65) (by omega) eM6 dX6_rulerOf_161 ?_
              refine lv_iload_n hx hb dX6_rulerOf_164 rfl (lv_at hl 1 rfl) ?_
              refine m_topI (((r.toNat : Nat) : Int)) (by omega) ?_
              refine m_pSi hx hb hml hown hts hK hH hl (rest := []) cw_X6_54 rfl (c6_length hA 67 n a g f sz w r.toNat (by first | assumption | omega) (by first | assumption | omega) (by first | assumption | omega) (by first | assumption | omega) e67) ⟨Nat.le_of_ble_eq_true rfl, Nat.le_of_ble_eq_true rfl⟩ ⟨Nat.le_of_ble_eq_true rfl, Nat.le_of_ble_eq_true rfl⟩ rfl rfl (Nat.le_of_ble_eq_true rfl) dX6_rulerOf_165 (fun H locs hH => ?_)
              exact m_iret hx hb hlk hrt hH (m_ni _) dX6_rulerOf_168 ⟨((sz r.toNat : Nat) : Int), 0, s6, rfl, (Or.inl ⟨hR, hx5, rfl, by rw [hsw, eR, eS]; rfl⟩), eM6, e72, hf⟩
            · refine m_tabIn 169 hx hb dX6_rulerOf_127 (by omega) (by omega) (by rw [hsw]; rfl) (by decide) ?_
              refine lv_aload_n hx hb dX6_rulerOf_169 rfl (lv_at hl 0 rfl) ?_
              refine gf_X6_now hx hb hts hown hK hH (k := 65) (by omega) eM6 dX6_rulerOf_170 ?_
              refine lv_iload_n hx hb dX6_rulerOf_173 rfl (lv_at hl 1 rfl) ?_
              refine m_topI (((r.toNat : Nat) : Int)) (by omega) ?_
              refine m_pSi hx hb hml hown hts hK hH hl (rest := []) cw_X6_68 rfl (c6_marks hA 67 n a g f sz w r.toNat (by first | assumption | omega) (by first | assumption | omega) (by first | assumption | omega) (by first | assumption | omega) e67) ⟨Nat.le_of_ble_eq_true rfl, Nat.le_of_ble_eq_true rfl⟩ ⟨Nat.le_of_ble_eq_true rfl, Nat.le_of_ble_eq_true rfl⟩ rfl rfl (Nat.le_of_ble_eq_true rfl) dX6_rulerOf_174 (fun H locs hH => ?_)
              exact m_iret hx hb hlk hrt hH (m_ni _) dX6_rulerOf_177 ⟨((oPc (w r.toNat) (sz r.toNat + 1) : Nat) : Int), 0, s6, rfl, (Or.inl ⟨hR, hx5, rfl, by rw [hsw, eR, eS, oPc_pcnt hs9.2.2.1 (by omega)]; rfl⟩), eM6, e72, hf⟩
            · refine m_tabIn 178 hx hb dX6_rulerOf_127 (by omega) (by omega) (by rw [hsw]; rfl) (by decide) ?_
              refine lv_aload_n hx hb dX6_rulerOf_178 rfl (lv_at hl 0 rfl) ?_
              refine gf_X6_now hx hb hts hown hK hH (k := 65) (by omega) eM6 dX6_rulerOf_179 ?_
              refine lv_iload_n hx hb dX6_rulerOf_182 rfl (lv_at hl 1 rfl) ?_
              refine m_topI (((r.toNat : Nat) : Int)) (by omega) ?_
              refine m_pSi hx hb hml hown hts hK hH hl (rest := []) cw_X6_175 rfl (c6_spansOf hA 67 n a g f sz w r.toNat (by first | assumption | omega) (by first | assumption | omega) (by first | assumption | omega) (by first | assumption | omega) e67) ⟨Nat.le_of_ble_eq_true rfl, Nat.le_of_ble_eq_true rfl⟩ ⟨Nat.le_of_ble_eq_true rfl, Nat.le_of_ble_eq_true rfl⟩ rfl rfl (Nat.le_of_ble_eq_true rfl) dX6_rulerOf_183 (fun H locs hH => ?_)
              exact m_iret hx hb hlk hrt hH (m_ni _) dX6_rulerOf_186 ⟨((oSp (pcnt (w r.toNat)) : Nat) : Int), 0, s6, rfl, (Or.inl ⟨hR, hx5, rfl, by rw [hsw, eR, eS]; rfl⟩), eM6, e72, hf⟩
            · refine m_tabIn 187 hx hb dX6_rulerOf_127 (by omega) (by omega) (by rw [hsw]; rfl) (by decide) ?_
              refine lv_aload_n hx hb dX6_rulerOf_187 rfl (lv_at hl 0 rfl) ?_
              refine m_pVi hx hb hml hown hts hK hH hl (rest := []) cw_X6_178 (c6_unlike hA si ac6 spo ou6 0 s6 (by first | assumption | omega) (fun k hk => by
      rcases Nat.eq_zero_or_pos k with h | h
      · rw [h, hs60, hs5 0 (by omega)]; omega
      · rw [hs7 k h (by omega)]; have := oPa_le64 (w r.toNat) k; omega) eM6 e72) ⟨Nat.le_of_ble_eq_true rfl, Nat.le_of_ble_eq_true rfl⟩ ⟨Nat.le_of_ble_eq_true rfl, Nat.le_of_ble_eq_true rfl⟩ rfl (k := 65) (by omega) eM6 rfl rfl (Nat.le_of_ble_eq_true rfl) dX6_rulerOf_188 (fun H locs hH => ?_)
              exact m_iret hx hb hlk hrt hH (m_ni _) dX6_rulerOf_191 ⟨((oUn s6 40 : Nat) : Int), 0, s6, rfl, (Or.inl ⟨hR, hx5, rfl, by rw [hsw, eR, eS, oUn_p (fun k h1 h2 => by rw [hs7 k h1 h2]; exact oSpr_pa hw41 h1 h2) (oSpr_bits hw41)]; rfl⟩), eM6, e72, hf⟩
            · refine m_tabIn 192 hx hb dX6_rulerOf_127 (by omega) (by omega) (by rw [hsw]; rfl) (by decide) ?_
              refine lv_iload_n hx hb dX6_rulerOf_192 rfl (lv_at hl 3 rfl) ?_
              exact m_iret hx hb hlk hrt hH (m_ni _) dX6_rulerOf_193 ⟨((mo : Nat) : Int), 0, s6, rfl, (Or.inl ⟨hR, hx5, rfl, by rw [hsw, eR, eS, hmo, show i = 40 by omega, oMo_end hw41 hs9.2.2.2.1 hs9.2.2.2.2 (by omega) hs9.2.1]; rfl⟩), eM6, e72, hf⟩
            · refine m_tabOut 194 hx hb dX6_rulerOf_127 (by omega) hsw (by decide) ?_
              refine lv_iload hx hb dX6_rulerOf_194 (lv_at hl 4 rfl) ?_
              exact m_iret hx hb hlk hrt hH (m_ni _) dX6_rulerOf_196 ⟨((no : Nat) : Int), 0, s6, rfl, (Or.inl ⟨hR, hx5, rfl, by rw [eR, eS, ← oMiss_of hw41 (by omega) hn1 (fun q => hn2 (by omega))]; rcases hsw with h | h; omega; rw [show x = 5 by omega]; rfl⟩), eM6, e72, hf⟩
          · refine lv_aload_n hx hb dX6_rulerOf_69 rfl (lv_at hl 0 rfl) ?_
            refine gf_X6_spans hx hb hts hown hK hH (k := 65) (by omega) eM6 dX6_rulerOf_70 ?_
            refine lv_iload hx hb dX6_rulerOf_73 (lv_at hl 5 rfl) ?_
            refine m_iald hx hb hK hH (k := 72) (by omega) e72 (i + 1) (by omega) (by omega) (by decide) dX6_rulerOf_75 ?_
            refine m_topI (((oPa (w r.toNat) (i + 1) : Nat) : Int)) (by rw [hs7 (i + 1) (by omega) (by omega)]) ?_
            have hpa1 := oPa_le64 (w r.toNat) (i + 1)
            refine lv_aload_n hx hb dX6_rulerOf_76 rfl (lv_at hl 0 rfl) ?_
            refine gf_X6_spans hx hb hts hown hK hH (k := 65) (by omega) eM6 dX6_rulerOf_77 ?_
            refine lv_iload_n hx hb dX6_rulerOf_80 rfl (lv_at hl 3 rfl) ?_
            refine m_iald hx hb hK hH (k := 72) (by omega) e72 (mo) (by omega) (by omega) (by decide) dX6_rulerOf_81 ?_
            refine m_topI (((oPa (w r.toNat) mo : Nat) : Int)) (by rw [hs7 mo (by omega) (by omega)]) ?_
            have hpa2 := oPa_le64 (w r.toNat) mo
            refine m_icmp_le 90 hx hb dX6_rulerOf_82 (by decide) (by omega) (by omega) (fun h_17 => ?_) (fun h_17 => ?_)
            · have hM := oMo_n hI (by rw [← hmo]; omega)
              refine lv_iload_n hx hb dX6_rulerOf_90 rfl (lv_at hl 3 rfl) ?_
              refine lv_istore_n (lv' := [(3, .int (oI (((mo : Nat) : Int)))), (0, .ref (ad (65))), (1, .int (oI (r))), (2, .int (oI (x))), (4, .int (oI (((no : Nat) : Int)))), (5, .int (oI (((i : Nat) : Int) + 1)))]) hx hb dX6_rulerOf_91 rfl hl (by decide) rfl (fun ls hl => ?_)
              refine lv_aload_n hx hb dX6_rulerOf_92 rfl (lv_at hl 1 rfl) ?_
              refine gf_X6_spans hx hb hts hown hK hH (k := 65) (by omega) eM6 dX6_rulerOf_93 ?_
              refine lv_iload hx hb dX6_rulerOf_96 (lv_at hl 5 rfl) ?_
              refine m_iald hx hb hK hH (k := 72) (by omega) e72 (i + 1) (by omega) (by omega) (by decide) dX6_rulerOf_98 ?_
              refine m_topI (((oPa (w r.toNat) (i + 1) : Nat) : Int)) (by rw [hs7 (i + 1) (by omega) (by omega)]) ?_
              refine m_if_le 116 hx hb dX6_rulerOf_99 (by decide) (by omega) (fun h_18 => ?_) (fun h_18 => ?_)
              · refine lv_iload hx hb dX6_rulerOf_116 (lv_at hl 4 rfl) ?_
                refine lv_istore (lv' := [(4, .int (oI (((no : Nat) : Int)))), (3, .int (oI (((mo : Nat) : Int)))), (0, .ref (ad (65))), (1, .int (oI (r))), (2, .int (oI (x))), (5, .int (oI (((i : Nat) : Int) + 1)))]) hx hb dX6_rulerOf_118 hl (by decide) rfl (fun ls hl => ?_)
                refine m_iinc (((i : Nat) : Int) + 2) [(5, .int (oI (((i : Nat) : Int) + 2))), (4, .int (oI (((no : Nat) : Int)))), (3, .int (oI (((mo : Nat) : Int)))), (0, .ref (ad (65))), (1, .int (oI (r))), (2, .int (oI (x)))] hx hb dX6_rulerOf_120 hl (j := 5) rfl (by omega) (by decide) rfl (fun ls hl => ?_)
                refine lv_goto (tgt := 62) hx hb dX6_rulerOf_123 (by decide) ?_
                exact ih62 (i + 1) mo no (by omega) (by first | assumption | omega) (by rw [hM.1]; exact hmo) (Or.inr hM.2) (by first | assumption | omega) (by first | assumption | omega) (fun q => (Nat.lt_or_ge i no).elim (fun h => by rw [show no = i + 1 by omega]; omega) hn2) _ _ hH ls (lv_sub hl [3, 4, 5, 2, 1, 0] rfl)
              · refine lv_iload hx hb dX6_rulerOf_102 (lv_at hl 4 rfl) ?_
                refine lv_iload hx hb dX6_rulerOf_104 (lv_at hl 5 rfl) ?_
                refine m_icmp_ne 116 hx hb dX6_rulerOf_106 (by decide) (by omega) (by omega) (fun h_19 => ?_) (fun h_19 => ?_)
                · refine lv_iload hx hb dX6_rulerOf_116 (lv_at hl 4 rfl) ?_
                  refine lv_istore (lv' := [(4, .int (oI (((no : Nat) : Int)))), (3, .int (oI (((mo : Nat) : Int)))), (0, .ref (ad (65))), (1, .int (oI (r))), (2, .int (oI (x))), (5, .int (oI (((i : Nat) : Int) + 1)))]) hx hb dX6_rulerOf_118 hl (by decide) rfl (fun ls hl => ?_)
                  refine m_iinc (((i : Nat) : Int) + 2) [(5, .int (oI (((i : Nat) : Int) + 2))), (4, .int (oI (((no : Nat) : Int)))), (3, .int (oI (((mo : Nat) : Int)))), (0, .ref (ad (65))), (1, .int (oI (r))), (2, .int (oI (x)))] hx hb dX6_rulerOf_120 hl (j := 5) rfl (by omega) (by decide) rfl (fun ls hl => ?_)
                  refine lv_goto (tgt := 62) hx hb dX6_rulerOf_123 (by decide) ?_
                  exact ih62 (i + 1) mo no (by omega) (by first | assumption | omega) (by rw [hM.1]; exact hmo) (Or.inr hM.2) (by first | assumption | omega) (by first | assumption | omega) (fun q => hn2 (by omega)) _ _ hH ls (lv_sub hl [3, 4, 5, 2, 1, 0] rfl)
                · refine lv_iload hx hb dX6_rulerOf_109 (lv_at hl 5 rfl) ?_
                  refine m_iconst 1 hx hb dX6_rulerOf_111 rfl ?_
                  refine m_iadd (((i : Nat) : Int) + 2) hx hb dX6_rulerOf_112 (by omega) ?_
                  refine lv_goto (tgt := 118) hx hb dX6_rulerOf_113 (by decide) ?_
                  refine lv_istore (lv' := [(4, .int (oI (((i : Nat) : Int) + 2))), (3, .int (oI (((mo : Nat) : Int)))), (0, .ref (ad (65))), (1, .int (oI (r))), (2, .int (oI (x))), (5, .int (oI (((i : Nat) : Int) + 1)))]) hx hb dX6_rulerOf_118 hl (by decide) rfl (fun ls hl => ?_)
                  refine m_iinc (((i : Nat) : Int) + 2) [(5, .int (oI (((i : Nat) : Int) + 2))), (4, .int (oI (((i : Nat) : Int) + 2))), (3, .int (oI (((mo : Nat) : Int)))), (0, .ref (ad (65))), (1, .int (oI (r))), (2, .int (oI (x)))] hx hb dX6_rulerOf_120 hl (j := 5) rfl (by omega) (by decide) rfl (fun ls hl => ?_)
                  refine lv_goto (tgt := 62) hx hb dX6_rulerOf_123 (by decide) ?_
                  exact ih62 (i + 1) mo (i + 2) (by omega) (by first | assumption | omega) (by rw [hM.1]; exact hmo) (Or.inr hM.2) (by first | assumption | omega) (fun q h1 h2 => (Nat.lt_or_ge q (i + 1)).elim (fun h => hn1 q h1 (by omega)) (fun h => by rw [show q = i + 1 by omega]; omega)) (fun q => by omega) _ _ hH ls (lv_sub hl [3, 4, 5, 2, 1, 0] rfl)
            · have hM := oMo_y hI (by rw [← hmo]; omega)
              refine lv_iload hx hb dX6_rulerOf_85 (lv_at hl 5 rfl) ?_
              refine lv_goto (tgt := 91) hx hb dX6_rulerOf_87 (by decide) ?_
              refine lv_istore_n (lv' := [(3, .int (oI (((i : Nat) : Int) + 1))), (0, .ref (ad (65))), (1, .int (oI (r))), (2, .int (oI (x))), (4, .int (oI (((no : Nat) : Int)))), (5, .int (oI (((i : Nat) : Int) + 1)))]) hx hb dX6_rulerOf_91 rfl hl (by decide) rfl (fun ls hl => ?_)
              refine lv_aload_n hx hb dX6_rulerOf_92 rfl (lv_at hl 1 rfl) ?_
              refine gf_X6_spans hx hb hts hown hK hH (k := 65) (by omega) eM6 dX6_rulerOf_93 ?_
              refine lv_iload hx hb dX6_rulerOf_96 (lv_at hl 5 rfl) ?_
              refine m_iald hx hb hK hH (k := 72) (by omega) e72 (i + 1) (by omega) (by omega) (by decide) dX6_rulerOf_98 ?_
              refine m_topI (((oPa (w r.toNat) (i + 1) : Nat) : Int)) (by rw [hs7 (i + 1) (by omega) (by omega)]) ?_
              refine m_if_le 116 hx hb dX6_rulerOf_99 (by decide) (by omega) (fun h_20 => ?_) (fun h_20 => ?_)
              · refine lv_iload hx hb dX6_rulerOf_116 (lv_at hl 4 rfl) ?_
                refine lv_istore (lv' := [(4, .int (oI (((no : Nat) : Int)))), (3, .int (oI (((i : Nat) : Int) + 1))), (0, .ref (ad (65))), (1, .int (oI (r))), (2, .int (oI (x))), (5, .int (oI (((i : Nat) : Int) + 1)))]) hx hb dX6_rulerOf_118 hl (by decide) rfl (fun ls hl => ?_)
                refine m_iinc (((i : Nat) : Int) + 2) [(5, .int (oI (((i : Nat) : Int) + 2))), (4, .int (oI (((no : Nat) : Int)))), (3, .int (oI (((i : Nat) : Int) + 1))), (0, .ref (ad (65))), (1, .int (oI (r))), (2, .int (oI (x)))] hx hb dX6_rulerOf_120 hl (j := 5) rfl (by omega) (by decide) rfl (fun ls hl => ?_)
                refine lv_goto (tgt := 62) hx hb dX6_rulerOf_123 (by decide) ?_
                exact ih62 (i + 1) (i + 1) no (by omega) (by first | assumption | omega) (hM.1.symm) (Or.inr hM.2) (by first | assumption | omega) (by first | assumption | omega) (fun q => (Nat.lt_or_ge i no).elim (fun h => by rw [show no = i + 1 by omega]; omega) hn2) _ _ hH ls (lv_sub hl [3, 4, 5, 2, 1, 0] rfl)
              · refine lv_iload hx hb dX6_rulerOf_102 (lv_at hl 4 rfl) ?_
                refine lv_iload hx hb dX6_rulerOf_104 (lv_at hl 5 rfl) ?_
                refine m_icmp_ne 116 hx hb dX6_rulerOf_106 (by decide) (by omega) (by omega) (fun h_21 => ?_) (fun h_21 => ?_)
                · refine lv_iload hx hb dX6_rulerOf_116 (lv_at hl 4 rfl) ?_
                  refine lv_istore (lv' := [(4, .int (oI (((no : Nat) : Int)))), (3, .int (oI (((i : Nat) : Int) + 1))), (0, .ref (ad (65))), (1, .int (oI (r))), (2, .int (oI (x))), (5, .int (oI (((i : Nat) : Int) + 1)))]) hx hb dX6_rulerOf_118 hl (by decide) rfl (fun ls hl => ?_)
                  refine m_iinc (((i : Nat) : Int) + 2) [(5, .int (oI (((i : Nat) : Int) + 2))), (4, .int (oI (((no : Nat) : Int)))), (3, .int (oI (((i : Nat) : Int) + 1))), (0, .ref (ad (65))), (1, .int (oI (r))), (2, .int (oI (x)))] hx hb dX6_rulerOf_120 hl (j := 5) rfl (by omega) (by decide) rfl (fun ls hl => ?_)
                  refine lv_goto (tgt := 62) hx hb dX6_rulerOf_123 (by decide) ?_
                  exact ih62 (i + 1) (i + 1) no (by omega) (by first | assumption | omega) (hM.1.symm) (Or.inr hM.2) (by first | assumption | omega) (by first | assumption | omega) (fun q => hn2 (by omega)) _ _ hH ls (lv_sub hl [3, 4, 5, 2, 1, 0] rfl)
                · refine lv_iload hx hb dX6_rulerOf_109 (lv_at hl 5 rfl) ?_
                  refine m_iconst 1 hx hb dX6_rulerOf_111 rfl ?_
                  refine m_iadd (((i : Nat) : Int) + 2) hx hb dX6_rulerOf_112 (by omega) ?_
                  refine lv_goto (tgt := 118) hx hb dX6_rulerOf_113 (by decide) ?_
                  refine lv_istore (lv' := [(4, .int (oI (((i : Nat) : Int) + 2))), (3, .int (oI (((i : Nat) : Int) + 1))), (0, .ref (ad (65))), (1, .int (oI (r))), (2, .int (oI (x))), (5, .int (oI (((i : Nat) : Int) + 1)))]) hx hb dX6_rulerOf_118 hl (by decide) rfl (fun ls hl => ?_)
                  refine m_iinc (((i : Nat) : Int) + 2) [(5, .int (oI (((i : Nat) : Int) + 2))), (4, .int (oI (((i : Nat) : Int) + 2))), (3, .int (oI (((i : Nat) : Int) + 1))), (0, .ref (ad (65))), (1, .int (oI (r))), (2, .int (oI (x)))] hx hb dX6_rulerOf_120 hl (j := 5) rfl (by omega) (by decide) rfl (fun ls hl => ?_)
                  refine lv_goto (tgt := 62) hx hb dX6_rulerOf_123 (by decide) ?_
                  exact ih62 (i + 1) (i + 1) (i + 2) (by omega) (by first | assumption | omega) (hM.1.symm) (Or.inr hM.2) (by first | assumption | omega) (fun q h1 h2 => (Nat.lt_or_ge q (i + 1)).elim (fun h => hn1 q h1 (by omega)) (fun h => by rw [show q = i + 1 by omega]; omega)) (fun q => by omega) _ _ hH ls (lv_sub hl [3, 4, 5, 2, 1, 0] rfl)
      exact L62 _ 0 1 1 (Nat.lt_succ_self _) (by first | assumption | omega) (rfl) (Or.inl rfl) (by first | assumption | omega) (fun q h1 h2 => by omega) (fun q => by omega) _ _ hH ls (lv_sub hl [3, 4, 5, 2, 1, 0] rfl)
    · refine m_if_eq 32 hx hb dX6_rulerOf_25 (by decide) (by omega) (fun h_22 => ?_) (fun h_22 => absurd h_22 (by omega))
      refine m_iconst 2 hx hb dX6_rulerOf_32 rfl ?_
      refine m_callVi hx hb hml hown hts hK hH hl (rest := []) cw_X6_111 (c6_ref1 hA 2 si ac6 spo ou6 rf (by first | assumption | omega) (by first | assumption | omega) eM6) ⟨Nat.le_of_ble_eq_true rfl, Nat.le_of_ble_eq_true rfl⟩ ⟨Nat.le_of_ble_eq_true rfl, Nat.le_of_ble_eq_true rfl⟩ rfl (k := 65) (by omega) eM6 rfl rfl (Nat.le_of_ble_eq_true rfl) dX6_rulerOf_33 (fun r_26 σ_23 H locs hp_24 hH => ?_)
      obtain ⟨rfl, eM6, hq_25⟩ := hp_24
      have e67 : σ_23 (67) = oAI cT 171 f := (hq_25 _ (by decide)).trans e67
      have e72 : σ_23 (72) = oAN cT 41 s := (hq_25 _ (by decide)).trans e72
      have hf : ∀ q : Nat, q ≠ 65 → q ≠ 72 → σ_23 q = σ q := fun q n0 n1 => (hq_25 q n0).trans (hf q n0 n1)
      refine m_if_eq 41 hx hb dX6_rulerOf_36 (by decide) (by omega) (fun h_27 => absurd h_27 (by omega)) (fun h_27 => ?_)
      refine m_iconst 0 hx hb dX6_rulerOf_39 rfl ?_
      exact m_iret hx hb hlk hrt hH (m_ni _) dX6_rulerOf_40 ⟨0, 2, s, rfl, (Or.inr (Or.inr ⟨rfl, hR, hx5⟩)), eM6, e72, hf⟩
  · refine m_if_ne 16 hx hb dX6_rulerOf_9 (by decide) (by omega) (fun h_28 => absurd h_28 (by omega)) (fun h_28 => ?_)
    refine m_iconst 1 hx hb dX6_rulerOf_12 rfl ?_
    refine lv_goto (tgt := 33) hx hb dX6_rulerOf_13 (by decide) ?_
    refine m_callVi hx hb hml hown hts hK hH hl (rest := []) cw_X6_111 (c6_ref1 hA 1 si ac6 spo ou6 rf (by first | assumption | omega) (by first | assumption | omega) eM6) ⟨Nat.le_of_ble_eq_true rfl, Nat.le_of_ble_eq_true rfl⟩ ⟨Nat.le_of_ble_eq_true rfl, Nat.le_of_ble_eq_true rfl⟩ rfl (k := 65) (by omega) eM6 rfl rfl (Nat.le_of_ble_eq_true rfl) dX6_rulerOf_33 (fun r_32 σ_29 H locs hp_30 hH => ?_)
    obtain ⟨rfl, eM6, hq_31⟩ := hp_30
    have e67 : σ_29 (67) = oAI cT 171 f := (hq_31 _ (by decide)).trans e67
    have e72 : σ_29 (72) = oAN cT 41 s := (hq_31 _ (by decide)).trans e72
    have hf : ∀ q : Nat, q ≠ 65 → q ≠ 72 → σ_29 q = σ q := fun q n0 n1 => (hq_31 q n0).trans (hf q n0 n1)
    refine m_if_eq 41 hx hb dX6_rulerOf_36 (by decide) (by omega) (fun h_33 => absurd h_33 (by omega)) (fun h_33 => ?_)
    refine m_iconst 0 hx hb dX6_rulerOf_39 rfl ?_
    exact m_iret hx hb hlk hrt hH (m_ni _) dX6_rulerOf_40 ⟨0, 1, s, rfl, (Or.inr (Or.inl ⟨rfl, hR⟩)), eM6, e72, hf⟩
set_option maxHeartbeats 4000000 in
set_option maxRecDepth 100000 in
theorem c6_span {l : Launch} {D : va_G} {cT : Nat → ClassId} {N b0 : Nat} {ad : Nat → Nat} (hA : oAd b0 N ad) {σ : Nat → va_E} (r k x : Int) (si ac6 spo ou6 : Nat) (rf : Int) (n a g : Nat) (f : Nat → Int) (sz w : Nat → Nat) (s : Nat → Nat) (hN : 76 ≤ N) (hwf : oWf n sz w) (hag : oAg a g) (hp : oRS f n a g sz w) (hbr : -2147483648 ≤ r ∧ r < 2147483648) (hbk : -2147483648 ≤ k ∧ k < 2147483648) (hbx : -2147483648 ≤ x ∧ x < 2147483648) (eM6 : σ (65) = .inr (6, [.int (oI (rf)), .ref (ad (66)), .int (oI (((si : Nat) : Int))), .ref (ad (67)), .ref (ad (68)), .ref (ad (69)), .int (oI (((ac6 : Nat) : Int))), .ref (ad (70)), .ref (ad (71)), .ref (ad (72)), .ref (ad (73)), .ref (ad (74)), .int (oI (((spo : Nat) : Int))), .int (oI (((ou6 : Nat) : Int)))])) (e67 : σ (67) = oAI cT 171 f) (e72 : σ (72) = oAN cT 41 s) :
    oCi l D cT N ad b0 yX6_span cX6_span 7 (some .int) 3 67 [.ref (ad (65)), .int (oI (r)), .int (oI (k)), .int (oI (x))] σ (fun rr uu => ∃ v9 : Int, ∃ r9 : Int, ∃ s2 : Nat → Nat, rr = oI (v9) ∧ ((((0 ≤ r ∧ r < (n : Int)) ∧ 0 ≤ k ∧ k < ((oSp (pcnt (oRow n w r)) : Nat) : Int)) ∧ (0 ≤ x ∧ x ≤ 3) ∧ r9 = 0 ∧ v9 = oSpa x n w (oRow n w r) k.toNat) ∨ (r9 = 1 ∧ ¬ ((0 ≤ r ∧ r < (n : Int)) ∧ 0 ≤ k ∧ k < ((oSp (pcnt (oRow n w r)) : Nat) : Int))) ∨ (r9 = 2 ∧ ((0 ≤ r ∧ r < (n : Int)) ∧ 0 ≤ k ∧ k < ((oSp (pcnt (oRow n w r)) : Nat) : Int)) ∧ ¬ (0 ≤ x ∧ x ≤ 3))) ∧ uu (65) = .inr (6, [.int (oI (r9)), .ref (ad (66)), .int (oI (((si : Nat) : Int))), .ref (ad (67)), .ref (ad (68)), .ref (ad (69)), .int (oI (((ac6 : Nat) : Int))), .ref (ad (70)), .ref (ad (71)), .ref (ad (72)), .ref (ad (73)), .ref (ad (74)), .int (oI (((spo : Nat) : Int))), .int (oI (((ou6 : Nat) : Int)))]) ∧ uu (72) = oAN cT 41 s2 ∧ (∀ q : Nat, q ≠ 65 → q ≠ 72 → uu q = σ q)) := by
  refine m_start (cc := cX6_span) (by decide) (Nat.le_of_ble_eq_true rfl) rfl ?_
  intro Pp Ee Ss Mm Bb Me Cc Ar ls hx hb hml hown hlk hrt hts hK hH hl
  have hown : Ss.vm.findClass RX6 = some Mm.cls := hown
  have hn := hwf.1
  have hl : lv_has ls 7 [(0, .ref (ad (65))), (1, .int (oI (r))), (2, .int (oI (k))), (3, .int (oI (x)))] := hl
  have hf : ∀ q : Nat, q ≠ 65 → q ≠ 72 → σ q = σ q := fun q _ _ => rfl
  refine lv_aload_n hx hb dX6_span_0 rfl (lv_at hl 0 rfl) ?_
  refine gf_X6_now hx hb hts hown hK hH (k := 65) (by omega) eM6 dX6_span_1 ?_
  refine lv_iload_n hx hb dX6_span_4 rfl (lv_at hl 1 rfl) ?_
  refine m_pSb hx hb hml hown hts hK hH hl (rest := []) cw_X6_50 rfl (c6_isRuler hA 67 n a g f sz w r (by first | assumption | omega) (by first | assumption | omega) (by first | assumption | omega) (by first | assumption | omega) e67) ⟨Nat.le_of_ble_eq_true rfl, Nat.le_of_ble_eq_true rfl⟩ ⟨Nat.le_of_ble_eq_true rfl, Nat.le_of_ble_eq_true rfl⟩ rfl rfl (Nat.le_of_ble_eq_true rfl) dX6_span_5 (fun hR H locs hH => ?_) (fun hR H locs hH => ?_)
  · have eS : oSize n sz r = sz r.toNat := oSize_in hR
    have eR : oRow n w r = w r.toNat := oRow_in hR
    have hs9 := hwf.2 r.toNat (by omega)
    have hw41 := hwf.row (r := r.toNat) (by omega)
    obtain ⟨m9, hm9⟩ : ∃ y : Nat, oSp (pcnt (w r.toNat)) = y := ⟨_, rfl⟩
    have hm9b : m9 ≤ 2016 := by rw [← hm9]; exact oSp_le (pcnt_le _)
    have eK : oSp (pcnt (oRow n w r)) = m9 := by rw [eR]; exact hm9
    refine m_if_eq 35 hx hb dX6_span_8 (by decide) (by omega) (fun h_1 => absurd h_1 (by omega)) (fun h_1 => ?_)
    refine lv_iload_n hx hb dX6_span_11 rfl (lv_at hl 2 rfl) ?_
    refine m_i2l hx hb dX6_span_12 (by omega) ?_
    refine m_lconst 0 hx hb dX6_span_13 rfl ?_
    refine lv_aload_n hx hb dX6_span_14 rfl (lv_at hl 0 rfl) ?_
    refine gf_X6_now hx hb hts hown hK hH (k := 65) (by omega) eM6 dX6_span_15 ?_
    refine lv_iload_n hx hb dX6_span_18 rfl (lv_at hl 1 rfl) ?_
    refine m_topI (((r.toNat : Nat) : Int)) (by omega) ?_
    refine m_pSi hx hb hml hown hts hK hH hl (rest := [.long (oL (0)), .long (oL (k))]) cw_X6_175 rfl (c6_spansOf hA 67 n a g f sz w r.toNat (by first | assumption | omega) (by first | assumption | omega) (by first | assumption | omega) (by first | assumption | omega) e67) ⟨Nat.le_of_ble_eq_true rfl, Nat.le_of_ble_eq_true rfl⟩ ⟨Nat.le_of_ble_eq_true rfl, Nat.le_of_ble_eq_true rfl⟩ rfl rfl (Nat.le_of_ble_eq_true rfl) dX6_span_19 (fun H locs hH => ?_)
    refine m_topI (((m9 : Nat) : Int)) (by rw [hm9]) ?_
    refine m_iconst 1 hx hb dX6_span_22 rfl ?_
    refine m_isub (((m9 : Nat) : Int) - 1) hx hb dX6_span_23 (by omega) ?_
    refine m_i2l hx hb dX6_span_24 (by omega) ?_
    refine m_pSb hx hb hml hown hts hK hH hl (rest := []) cw_X6_46 rfl (c6_in hA k 0 (((m9 : Nat) : Int) - 1) (by first | assumption | omega) (by first | assumption | omega) (by first | assumption | omega) ) ⟨Nat.le_of_ble_eq_true rfl, Nat.le_of_ble_eq_true rfl⟩ ⟨Nat.le_of_ble_eq_true rfl, Nat.le_of_ble_eq_true rfl⟩ rfl rfl (Nat.le_of_ble_eq_true rfl) dX6_span_25 (fun hk9 H locs hH => ?_) (fun hk9 H locs hH => ?_)
    · refine m_if_eq 35 hx hb dX6_span_28 (by decide) (by omega) (fun h_2 => absurd h_2 (by omega)) (fun h_2 => ?_)
      refine m_iconst 1 hx hb dX6_span_31 rfl ?_
      refine lv_goto (tgt := 36) hx hb dX6_span_32 (by decide) ?_
      refine lv_istore (lv' := [(4, .int (oI (1))), (0, .ref (ad (65))), (1, .int (oI (r))), (2, .int (oI (k))), (3, .int (oI (x)))]) hx hb dX6_span_36 hl (by decide) rfl (fun ls hl => ?_)
      refine lv_aload_n hx hb dX6_span_38 rfl (lv_at hl 1 rfl) ?_
      refine lv_iload hx hb dX6_span_39 (lv_at hl 0 rfl) ?_
      refine m_if_ne 48 hx hb dX6_span_41 (by decide) (by omega) (fun h_3 => ?_) (fun h_3 => absurd h_3 (by omega))
      refine lv_iload_n hx hb dX6_span_48 rfl (lv_at hl 4 rfl) ?_
      refine m_i2l hx hb dX6_span_49 (by omega) ?_
      refine m_lconst 0 hx hb dX6_span_50 rfl ?_
      refine lv_ldc2 (v := 3) hx hb hown (hts _ kl_X6_190) dX6_span_51 ?_
      refine m_J2L 3 (by decide +kernel) ?_
      refine m_pSb hx hb hml hown hts hK hH hl (rest := [.ref (ad (65))]) cw_X6_46 rfl (c6_in hA x 0 3 (by first | assumption | omega) (by first | assumption | omega) (by first | assumption | omega) ) ⟨Nat.le_of_ble_eq_true rfl, Nat.le_of_ble_eq_true rfl⟩ ⟨Nat.le_of_ble_eq_true rfl, Nat.le_of_ble_eq_true rfl⟩ rfl rfl (Nat.le_of_ble_eq_true rfl) dX6_span_54 (fun hx3 H locs hH => ?_) (fun hx3 H locs hH => ?_)
      · refine m_if_eq 64 hx hb dX6_span_57 (by decide) (by omega) (fun h_4 => absurd h_4 (by omega)) (fun h_4 => ?_)
        refine m_iconst 0 hx hb dX6_span_60 rfl ?_
        refine lv_goto (tgt := 65) hx hb dX6_span_61 (by decide) ?_
        refine m_callVi hx hb hml hown hts hK hH hl (rest := []) cw_X6_111 (c6_ref0 hA si ac6 spo ou6 rf (by first | assumption | omega) eM6) ⟨Nat.le_of_ble_eq_true rfl, Nat.le_of_ble_eq_true rfl⟩ ⟨Nat.le_of_ble_eq_true rfl, Nat.le_of_ble_eq_true rfl⟩ rfl (k := 65) (by omega) eM6 rfl rfl (Nat.le_of_ble_eq_true rfl) dX6_span_65 (fun r_8 σ_5 H locs hp_6 hH => ?_)
        obtain ⟨rfl, eM6, hq_7⟩ := hp_6
        have e67 : σ_5 (67) = oAI cT 171 f := (hq_7 _ (by decide)).trans e67
        have e72 : σ_5 (72) = oAN cT 41 s := (hq_7 _ (by decide)).trans e72
        have hf : ∀ q : Nat, q ≠ 65 → q ≠ 72 → σ_5 q = σ q := fun q n0 n1 => (hq_7 q n0).trans (hf q n0 n1)
        refine m_if_eq 73 hx hb dX6_span_68 (by decide) (by omega) (fun h_9 => ?_) (fun h_9 => absurd h_9 (by omega))
        refine lv_aload_n hx hb dX6_span_73 rfl (lv_at hl 1 rfl) ?_
        refine gf_X6_now hx hb hts hown hK hH (k := 65) (by omega) eM6 dX6_span_74 ?_
        obtain ⟨lo9, hlo9⟩ : ∃ y : Nat, oEq (oLow (w r.toNat) k.toNat) y := ⟨_, Eq.refl _⟩
        obtain ⟨hi9, hhi9⟩ : ∃ y : Nat, oEq (oHigh (w r.toNat) k.toNat) y := ⟨_, Eq.refl _⟩
        have hlh := oLH_lt hw41 (k := k.toNat) (by rw [oRk_41 hw41, hm9]; omega)
        rw [show oLow (w r.toNat) k.toNat = lo9 from hlo9, show oHigh (w r.toNat) k.toNat = hi9 from hhi9] at hlh
        refine lv_iload_n hx hb dX6_span_77 rfl (lv_at hl 2 rfl) ?_
        refine m_topI (((r.toNat : Nat) : Int)) (by omega) ?_
        refine lv_iload_n hx hb dX6_span_78 rfl (lv_at hl 3 rfl) ?_
        refine m_topI (((k.toNat : Nat) : Int)) (by omega) ?_
        refine m_pSi hx hb hml hown hts hK hH hl (rest := []) cw_X6_192 rfl (c6_lowOf hA 67 n a g f sz w r.toNat k.toNat (by first | assumption | omega) (by first | assumption | omega) (by first | assumption | omega) (by first | assumption | omega) (by first | assumption | omega) (show k.toNat < oSp (pcnt (w r.toNat)) from by rw [hm9]; omega) e67) ⟨Nat.le_of_ble_eq_true rfl, Nat.le_of_ble_eq_true rfl⟩ ⟨Nat.le_of_ble_eq_true rfl, Nat.le_of_ble_eq_true rfl⟩ rfl rfl (Nat.le_of_ble_eq_true rfl) dX6_span_79 (fun H locs hH => ?_)
        refine m_topI (((lo9 : Nat) : Int)) (by rw [show oLow (w r.toNat) k.toNat = lo9 from hlo9]) ?_
        refine lv_istore (lv' := [(5, .int (oI (((lo9 : Nat) : Int)))), (4, .int (oI (1))), (0, .ref (ad (65))), (1, .int (oI (r))), (2, .int (oI (k))), (3, .int (oI (x)))]) hx hb dX6_span_82 hl (by decide) rfl (fun ls hl => ?_)
        refine lv_aload_n hx hb dX6_span_84 rfl (lv_at hl 2 rfl) ?_
        refine gf_X6_now hx hb hts hown hK hH (k := 65) (by omega) eM6 dX6_span_85 ?_
        refine lv_iload_n hx hb dX6_span_88 rfl (lv_at hl 3 rfl) ?_
        refine m_topI (((r.toNat : Nat) : Int)) (by omega) ?_
        refine lv_iload_n hx hb dX6_span_89 rfl (lv_at hl 4 rfl) ?_
        refine m_topI (((k.toNat : Nat) : Int)) (by omega) ?_
        refine m_pSi hx hb hml hown hts hK hH hl (rest := []) cw_X6_195 rfl (c6_highOf hA 67 n a g f sz w r.toNat k.toNat (by first | assumption | omega) (by first | assumption | omega) (by first | assumption | omega) (by first | assumption | omega) (by first | assumption | omega) (show k.toNat < oSp (pcnt (w r.toNat)) from by rw [hm9]; omega) e67) ⟨Nat.le_of_ble_eq_true rfl, Nat.le_of_ble_eq_true rfl⟩ ⟨Nat.le_of_ble_eq_true rfl, Nat.le_of_ble_eq_true rfl⟩ rfl rfl (Nat.le_of_ble_eq_true rfl) dX6_span_90 (fun H locs hH => ?_)
        refine m_topI (((hi9 : Nat) : Int)) (by rw [show oHigh (w r.toNat) k.toNat = hi9 from hhi9]) ?_
        refine lv_istore (lv' := [(6, .int (oI (((hi9 : Nat) : Int)))), (5, .int (oI (((lo9 : Nat) : Int)))), (4, .int (oI (1))), (0, .ref (ad (65))), (1, .int (oI (r))), (2, .int (oI (k))), (3, .int (oI (x)))]) hx hb dX6_span_93 hl (by decide) rfl (fun ls hl => ?_)
        refine lv_aload_n hx hb dX6_span_95 rfl (lv_at hl 3 rfl) ?_
        refine lv_aload_n hx hb dX6_span_96 rfl (lv_at hl 3 rfl) ?_
        refine gf_X6_now hx hb hts hown hK hH (k := 65) (by omega) eM6 dX6_span_97 ?_
        refine m_callVv hx hb hml hown hts hK hH hl (rest := []) cw_X6_80 (c6_findSpans hA si ac6 spo ou6 0 67 n a g f sz w s (by first | assumption | omega) (by first | assumption | omega) (by first | assumption | omega) (by first | assumption | omega) eM6 e67 e72) ⟨Nat.le_of_ble_eq_true rfl, Nat.le_of_ble_eq_true rfl⟩ ⟨Nat.le_of_ble_eq_true rfl, Nat.le_of_ble_eq_true rfl⟩ rfl (k := 65) (by omega) eM6 rfl rfl (Nat.le_of_ble_eq_true rfl) dX6_span_100 (fun σ_10 H locs hp_11 hH => ?_)
        obtain ⟨s5, hs5, hs50, e72, hq_12⟩ := hp_11
        have eM6 : σ_10 (65) = .inr (6, [.int (oI (0)), .ref (ad (66)), .int (oI (((si : Nat) : Int))), .ref (ad (67)), .ref (ad (68)), .ref (ad (69)), .int (oI (((ac6 : Nat) : Int))), .ref (ad (70)), .ref (ad (71)), .ref (ad (72)), .ref (ad (73)), .ref (ad (74)), .int (oI (((spo : Nat) : Int))), .int (oI (((ou6 : Nat) : Int)))]) := (hq_12 _ (by decide)).trans eM6
        have e67 : σ_10 (67) = oAI cT 171 f := (hq_12 _ (by decide)).trans e67
        have hf : ∀ q : Nat, q ≠ 65 → q ≠ 72 → σ_10 q = σ q := fun q n0 n1 => (hq_12 q n1).trans (hf q n0 n1)
        have hsq := oSq_of hwf hs5 hs50
        refine lv_iload_n hx hb dX6_span_103 rfl (lv_at hl 6 rfl) ?_
        refine m_if_ne 112 hx hb dX6_span_104 (by decide) (by omega) (fun h_14 => ?_) (fun h_14 => ?_)
        · refine lv_iload_n hx hb dX6_span_112 rfl (lv_at hl 6 rfl) ?_
          refine m_iconst 1 hx hb dX6_span_113 rfl ?_
          refine m_icmp_ne 122 hx hb dX6_span_114 (by decide) (by omega) (by omega) (fun h_15 => ?_) (fun h_15 => ?_)
          · refine lv_iload_n hx hb dX6_span_122 rfl (lv_at hl 6 rfl) ?_
            refine m_iconst 2 hx hb dX6_span_123 rfl ?_
            refine m_icmp_ne 135 hx hb dX6_span_124 (by decide) (by omega) (by omega) (fun h_16 => ?_) (fun h_16 => ?_)
            · refine lv_aload_n hx hb dX6_span_135 rfl (lv_at hl 3 rfl) ?_
              refine gf_X6_spans hx hb hts hown hK hH (k := 65) (by omega) eM6 dX6_span_136 ?_
              refine lv_iload hx hb dX6_span_139 (lv_at hl 0 rfl) ?_
              refine lv_iload hx hb dX6_span_141 (lv_at hl 1 rfl) ?_
              refine m_isub (((hi9 : Nat) : Int) - ((lo9 : Nat) : Int)) hx hb dX6_span_143 (by omega) ?_
              refine m_topI (((hi9 - lo9 : Nat) : Int)) (by omega) ?_
              have hsb := hsq.2.2 (hi9 - lo9) (by omega)
              refine m_iald hx hb hK hH (k := 72) (by omega) e72 (hi9 - lo9) (by omega) (by omega) (by decide) dX6_span_144 ?_
              exact m_iret hx hb hlk hrt hH (m_ni _) dX6_span_145 ⟨((s5 (hi9 - lo9) : Nat) : Int), 0, s5, rfl, (Or.inl ⟨⟨hR, by omega, by rw [eK]; omega⟩, hx3, rfl, by unfold oSpa; rw [if_neg (by omega), if_neg (by omega), if_neg (by omega), eR, show oLow (w r.toNat) k.toNat = lo9 from hlo9, show oHigh (w r.toNat) k.toNat = hi9 from hhi9, hs5 _ (by omega) (by omega), oAllP_4 hn]⟩), eM6, e72, hf⟩
            · refine lv_iload hx hb dX6_span_127 (lv_at hl 0 rfl) ?_
              refine lv_iload hx hb dX6_span_129 (lv_at hl 1 rfl) ?_
              refine m_isub (((hi9 : Nat) : Int) - ((lo9 : Nat) : Int)) hx hb dX6_span_131 (by omega) ?_
              refine lv_goto (tgt := 145) hx hb dX6_span_132 (by decide) ?_
              exact m_iret hx hb hlk hrt hH (m_ni _) dX6_span_145 ⟨(((hi9 : Nat) : Int) - ((lo9 : Nat) : Int)), 0, s5, congrArg oI (by omega), (Or.inl ⟨⟨hR, by omega, by rw [eK]; omega⟩, hx3, rfl, by unfold oSpa; rw [if_neg (by omega), if_neg (by omega), if_pos (by omega), eR, show oLow (w r.toNat) k.toNat = lo9 from hlo9, show oHigh (w r.toNat) k.toNat = hi9 from hhi9]⟩), eM6, e72, hf⟩
          · refine lv_iload hx hb dX6_span_117 (lv_at hl 0 rfl) ?_
            refine lv_goto (tgt := 145) hx hb dX6_span_119 (by decide) ?_
            exact m_iret hx hb hlk hrt hH (m_ni _) dX6_span_145 ⟨((hi9 : Nat) : Int), 0, s5, rfl, (Or.inl ⟨⟨hR, by omega, by rw [eK]; omega⟩, hx3, rfl, by unfold oSpa; rw [if_neg (by omega), if_pos (by omega), eR, show oHigh (w r.toNat) k.toNat = hi9 from hhi9]⟩), eM6, e72, hf⟩
        · refine lv_iload hx hb dX6_span_107 (lv_at hl 1 rfl) ?_
          refine lv_goto (tgt := 145) hx hb dX6_span_109 (by decide) ?_
          exact m_iret hx hb hlk hrt hH (m_ni _) dX6_span_145 ⟨((lo9 : Nat) : Int), 0, s5, rfl, (Or.inl ⟨⟨hR, by omega, by rw [eK]; omega⟩, hx3, rfl, by unfold oSpa; rw [if_pos (by omega), eR, show oLow (w r.toNat) k.toNat = lo9 from hlo9]⟩), eM6, e72, hf⟩
      · refine m_if_eq 64 hx hb dX6_span_57 (by decide) (by omega) (fun h_17 => ?_) (fun h_17 => absurd h_17 (by omega))
        refine m_iconst 2 hx hb dX6_span_64 rfl ?_
        refine m_callVi hx hb hml hown hts hK hH hl (rest := []) cw_X6_111 (c6_ref1 hA 2 si ac6 spo ou6 rf (by first | assumption | omega) (by first | assumption | omega) eM6) ⟨Nat.le_of_ble_eq_true rfl, Nat.le_of_ble_eq_true rfl⟩ ⟨Nat.le_of_ble_eq_true rfl, Nat.le_of_ble_eq_true rfl⟩ rfl (k := 65) (by omega) eM6 rfl rfl (Nat.le_of_ble_eq_true rfl) dX6_span_65 (fun r_21 σ_18 H locs hp_19 hH => ?_)
        obtain ⟨rfl, eM6, hq_20⟩ := hp_19
        have e67 : σ_18 (67) = oAI cT 171 f := (hq_20 _ (by decide)).trans e67
        have e72 : σ_18 (72) = oAN cT 41 s := (hq_20 _ (by decide)).trans e72
        have hf : ∀ q : Nat, q ≠ 65 → q ≠ 72 → σ_18 q = σ q := fun q n0 n1 => (hq_20 q n0).trans (hf q n0 n1)
        refine m_if_eq 73 hx hb dX6_span_68 (by decide) (by omega) (fun h_22 => absurd h_22 (by omega)) (fun h_22 => ?_)
        refine m_iconst 0 hx hb dX6_span_71 rfl ?_
        exact m_iret hx hb hlk hrt hH (m_ni _) dX6_span_72 ⟨0, 2, s, rfl, (Or.inr (Or.inr ⟨rfl, ⟨hR, by omega, by rw [eK]; omega⟩, hx3⟩)), eM6, e72, hf⟩
    · refine m_if_eq 35 hx hb dX6_span_28 (by decide) (by omega) (fun h_23 => ?_) (fun h_23 => absurd h_23 (by omega))
      refine m_iconst 0 hx hb dX6_span_35 rfl ?_
      refine lv_istore (lv' := [(4, .int (oI (0))), (0, .ref (ad (65))), (1, .int (oI (r))), (2, .int (oI (k))), (3, .int (oI (x)))]) hx hb dX6_span_36 hl (by decide) rfl (fun ls hl => ?_)
      refine lv_aload_n hx hb dX6_span_38 rfl (lv_at hl 1 rfl) ?_
      refine lv_iload hx hb dX6_span_39 (lv_at hl 0 rfl) ?_
      refine m_if_ne 48 hx hb dX6_span_41 (by decide) (by omega) (fun h_24 => absurd h_24 (by omega)) (fun h_24 => ?_)
      refine m_iconst 1 hx hb dX6_span_44 rfl ?_
      refine lv_goto (tgt := 65) hx hb dX6_span_45 (by decide) ?_
      refine m_callVi hx hb hml hown hts hK hH hl (rest := []) cw_X6_111 (c6_ref1 hA 1 si ac6 spo ou6 rf (by first | assumption | omega) (by first | assumption | omega) eM6) ⟨Nat.le_of_ble_eq_true rfl, Nat.le_of_ble_eq_true rfl⟩ ⟨Nat.le_of_ble_eq_true rfl, Nat.le_of_ble_eq_true rfl⟩ rfl (k := 65) (by omega) eM6 rfl rfl (Nat.le_of_ble_eq_true rfl) dX6_span_65 (fun r_28 σ_25 H locs hp_26 hH => ?_)
      obtain ⟨rfl, eM6, hq_27⟩ := hp_26
      have e67 : σ_25 (67) = oAI cT 171 f := (hq_27 _ (by decide)).trans e67
      have e72 : σ_25 (72) = oAN cT 41 s := (hq_27 _ (by decide)).trans e72
      have hf : ∀ q : Nat, q ≠ 65 → q ≠ 72 → σ_25 q = σ q := fun q n0 n1 => (hq_27 q n0).trans (hf q n0 n1)
      refine m_if_eq 73 hx hb dX6_span_68 (by decide) (by omega) (fun h_29 => absurd h_29 (by omega)) (fun h_29 => ?_)
      refine m_iconst 0 hx hb dX6_span_71 rfl ?_
      exact m_iret hx hb hlk hrt hH (m_ni _) dX6_span_72 ⟨0, 1, s, rfl, (Or.inr (Or.inl ⟨rfl, fun q => by rw [eK] at q; omega⟩)), eM6, e72, hf⟩
  · refine m_if_eq 35 hx hb dX6_span_8 (by decide) (by omega) (fun h_30 => ?_) (fun h_30 => absurd h_30 (by omega))
    refine m_iconst 0 hx hb dX6_span_35 rfl ?_
    refine lv_istore (lv' := [(4, .int (oI (0))), (0, .ref (ad (65))), (1, .int (oI (r))), (2, .int (oI (k))), (3, .int (oI (x)))]) hx hb dX6_span_36 hl (by decide) rfl (fun ls hl => ?_)
    refine lv_aload_n hx hb dX6_span_38 rfl (lv_at hl 1 rfl) ?_
    refine lv_iload hx hb dX6_span_39 (lv_at hl 0 rfl) ?_
    refine m_if_ne 48 hx hb dX6_span_41 (by decide) (by omega) (fun h_31 => absurd h_31 (by omega)) (fun h_31 => ?_)
    refine m_iconst 1 hx hb dX6_span_44 rfl ?_
    refine lv_goto (tgt := 65) hx hb dX6_span_45 (by decide) ?_
    refine m_callVi hx hb hml hown hts hK hH hl (rest := []) cw_X6_111 (c6_ref1 hA 1 si ac6 spo ou6 rf (by first | assumption | omega) (by first | assumption | omega) eM6) ⟨Nat.le_of_ble_eq_true rfl, Nat.le_of_ble_eq_true rfl⟩ ⟨Nat.le_of_ble_eq_true rfl, Nat.le_of_ble_eq_true rfl⟩ rfl (k := 65) (by omega) eM6 rfl rfl (Nat.le_of_ble_eq_true rfl) dX6_span_65 (fun r_35 σ_32 H locs hp_33 hH => ?_)
    obtain ⟨rfl, eM6, hq_34⟩ := hp_33
    have e67 : σ_32 (67) = oAI cT 171 f := (hq_34 _ (by decide)).trans e67
    have e72 : σ_32 (72) = oAN cT 41 s := (hq_34 _ (by decide)).trans e72
    have hf : ∀ q : Nat, q ≠ 65 → q ≠ 72 → σ_32 q = σ q := fun q n0 n1 => (hq_34 q n0).trans (hf q n0 n1)
    refine m_if_eq 73 hx hb dX6_span_68 (by decide) (by omega) (fun h_36 => absurd h_36 (by omega)) (fun h_36 => ?_)
    refine m_iconst 0 hx hb dX6_span_71 rfl ?_
    exact m_iret hx hb hlk hrt hH (m_ni _) dX6_span_72 ⟨0, 1, s, rfl, (Or.inr (Or.inl ⟨rfl, fun q => hR q.1⟩)), eM6, e72, hf⟩
set_option maxHeartbeats 4000000 in
set_option maxRecDepth 100000 in
theorem c6_gapFrom {l : Launch} {D : va_G} {cT : Nat → ClassId} {N b0 : Nat} {ad : Nat → Nat} (hA : oAd b0 N ad) {σ : Nat → va_E} (k : Nat) (si ac6 spo ou6 : Nat) (rf : Int) (n a g : Nat) (f : Nat → Int) (sz w : Nat → Nat) (s : Nat → Nat) (F R : Nat → Int) (hN : 76 ≤ N) (hwf : oWf n sz w) (hag : oAg a g) (hp : oRS f n a g sz w) (hk31 : k ≤ 2147483647) (eM6 : σ (65) = .inr (6, [.int (oI (rf)), .ref (ad (66)), .int (oI (((si : Nat) : Int))), .ref (ad (67)), .ref (ad (68)), .ref (ad (69)), .int (oI (((ac6 : Nat) : Int))), .ref (ad (70)), .ref (ad (71)), .ref (ad (72)), .ref (ad (73)), .ref (ad (74)), .int (oI (((spo : Nat) : Int))), .int (oI (((ou6 : Nat) : Int)))])) (e67 : σ (67) = oAI cT 171 f) (e72 : σ (72) = oAN cT 41 s) (e73 : σ (73) = oAI cT 201 F) (e74 : σ (74) = oAI cT 201 R) :
    oCi l D cT N ad b0 yX6_gapFrom cX6_gapFrom 4 (some .int) 4 90 [.ref (ad (65)), .int (oI (((k : Nat) : Int)))] σ (fun rr uu => ∃ s2 : Nat → Nat, ∃ F2 : Nat → Int, ∃ R2 : Nat → Int, rr = oI ((oGs (oOrW n w (-1) 4) a g k)) ∧ (∀ t : Nat, t ≤ 200 → F2 t = oDist (oOrW n w (-1) 4) 0 t) ∧ uu (72) = oAN cT 41 s2 ∧ uu (73) = oAI cT 201 F2 ∧ uu (74) = oAI cT 201 R2 ∧ (∀ q : Nat, q ≠ 72 → q ≠ 73 → q ≠ 74 → uu q = σ q)) := by
  refine m_start (cc := cX6_gapFrom) (by decide) (Nat.le_of_ble_eq_true rfl) rfl ?_
  intro Pp Ee Ss Mm Bb Me Cc Ar ls hx hb hml hown hlk hrt hts hK hH hl
  have hown : Ss.vm.findClass RX6 = some Mm.cls := hown
  have hl : lv_has ls 4 [(0, .ref (ad (65))), (1, .int (oI (((k : Nat) : Int))))] := hl
  have hf : ∀ q : Nat, q ≠ 72 → q ≠ 73 → q ≠ 74 → σ q = σ q := fun q _ _ _ => rfl
  refine lv_aload_n hx hb dX6_gapFrom_0 rfl (lv_at hl 0 rfl) ?_
  refine lv_aload_n hx hb dX6_gapFrom_1 rfl (lv_at hl 0 rfl) ?_
  refine gf_X6_now hx hb hts hown hK hH (k := 65) (by omega) eM6 dX6_gapFrom_2 ?_
  refine m_callVi hx hb hml hown hts hK hH hl (rest := []) cw_X6_91 (c6_laid hA si ac6 spo ou6 rf 67 n a g f sz w s F R (by first | assumption | omega) (by first | assumption | omega) (by first | assumption | omega) (by first | assumption | omega) (by first | assumption | omega) eM6 e67 e72 e73 e74) ⟨Nat.le_of_ble_eq_true rfl, Nat.le_of_ble_eq_true rfl⟩ ⟨Nat.le_of_ble_eq_true rfl, Nat.le_of_ble_eq_true rfl⟩ rfl (k := 65) (by omega) eM6 rfl rfl (Nat.le_of_ble_eq_true rfl) dX6_gapFrom_5 (fun r_4 σ_1 H locs hp_2 hH => ?_)
  obtain ⟨s5, F5, R5, rfl, hsq, hF5, e72, e73, e74, hq_3⟩ := hp_2
  have eM6 : σ_1 (65) = .inr (6, [.int (oI (rf)), .ref (ad (66)), .int (oI (((si : Nat) : Int))), .ref (ad (67)), .ref (ad (68)), .ref (ad (69)), .int (oI (((ac6 : Nat) : Int))), .ref (ad (70)), .ref (ad (71)), .ref (ad (72)), .ref (ad (73)), .ref (ad (74)), .int (oI (((spo : Nat) : Int))), .int (oI (((ou6 : Nat) : Int)))]) := (hq_3 _ (by decide) (by decide) (by decide)).trans eM6
  have e67 : σ_1 (67) = oAI cT 171 f := (hq_3 _ (by decide) (by decide) (by decide)).trans e67
  have hf : ∀ q : Nat, q ≠ 72 → q ≠ 73 → q ≠ 74 → σ_1 q = σ q := fun q n0 n1 n2 => (hq_3 q n0 n1 n2).trans (hf q n0 n1 n2)
  refine lv_pop hx hb dX6_gapFrom_8 rfl ?_
  refine lv_iload_n hx hb dX6_gapFrom_9 rfl (lv_at hl 1 rfl) ?_
  refine lv_istore_n (lv' := [(2, .int (oI (((k : Nat) : Int)))), (0, .ref (ad (65))), (1, .int (oI (((k : Nat) : Int))))]) hx hb dX6_gapFrom_10 rfl hl (by decide) rfl (fun ls hl => ?_)
  refine m_iconst 1 hx hb dX6_gapFrom_11 rfl ?_
  refine lv_istore_n (lv' := [(3, .int (oI (1))), (2, .int (oI (((k : Nat) : Int)))), (0, .ref (ad (65))), (1, .int (oI (((k : Nat) : Int))))]) hx hb dX6_gapFrom_12 rfl hl (by decide) rfl (fun ls hl => ?_)
  have L13 : ∀ (fu : Nat) (i : Nat) (le : Nat), (g + 1 - i < fu) → (i ≤ g) → (le + oGaps (oOrW n w (-1) 4) a i = k) → ∀ (H : Heap) (locs : List Loc), oH b0 D N ad Ss.heap σ_1 H locs → ∀ ls : Array Slot, lv_has ls 4 [(0, .ref (ad (65))), (2, .int (oI (((le : Nat) : Int)))), (3, .int (oI (((i : Nat) : Int) + 1)))] → W Pp l Ee { frames := 4, cells := 0, slots := 0, locals := 90 } Ss Mm Ar Bb Me Cc H locs 0 0 (MQ Bb (va_Qi (fun rr uu => ∃ s2 : Nat → Nat, ∃ F2 : Nat → Int, ∃ R2 : Nat → Int, rr = oI ((oGs (oOrW n w (-1) 4) a g k)) ∧ (∀ t : Nat, t ≤ 200 → F2 t = oDist (oOrW n w (-1) 4) 0 t) ∧ uu (72) = oAN cT 41 s2 ∧ uu (73) = oAI cT 201 F2 ∧ uu (74) = oAI cT 201 R2 ∧ (∀ q : Nat, q ≠ 72 → q ≠ 73 → q ≠ 74 → uu q = σ q)) (oV D N ad) (fun q => b0 ≤ q)) Ar Ss 0 0 (fun q => b0 ≤ q)) (F0 Mm 13 ls []) := by
    intro fu13
    induction fu13 with
    | zero =>
      intro i le hm13
      exact absurd hm13 (Nat.not_lt_zero _)
    | succ fu13 ih13 =>
      intro i le hm13 hi hc H locs hH ls hl
      have hag2 := hag.2
      have hag1 := hag.1
      refine lv_iload_n hx hb dX6_gapFrom_13 rfl (lv_at hl 2 rfl) ?_
      refine lv_aload_n hx hb dX6_gapFrom_14 rfl (lv_at hl 0 rfl) ?_
      refine gf_X6_now hx hb hts hown hK hH (k := 65) (by omega) eM6 dX6_gapFrom_15 ?_
      refine m_iconst 2 hx hb dX6_gapFrom_18 rfl ?_
      refine m_iald hx hb hK hH (k := 67) (by omega) e67 (2) (by omega) (by omega) (by decide) dX6_gapFrom_19 ?_
      refine m_topI (((g : Nat) : Int)) (hp.2.2.1) ?_
      refine m_icmp_gt 53 hx hb dX6_gapFrom_20 (by decide) (by omega) (by omega) (fun h_5 => ?_) (fun h_5 => ?_)
      · refine m_iconst (-1) hx hb dX6_gapFrom_53 rfl ?_
        exact m_iret hx hb hlk hrt hH (m_ni _) dX6_gapFrom_54 ⟨s5, F5, R5, congrArg oI (by rw [oGs_no (by rw [← show i = g by omega]; omega)]), hF5, e72, e73, e74, hf⟩
      · refine lv_aload_n hx hb dX6_gapFrom_23 rfl (lv_at hl 0 rfl) ?_
        refine gf_X6_now hx hb hts hown hK hH (k := 65) (by omega) eM6 dX6_gapFrom_24 ?_
        refine lv_aload_n hx hb dX6_gapFrom_27 rfl (lv_at hl 0 rfl) ?_
        refine gf_X6_far hx hb hts hown hK hH (k := 65) (by omega) eM6 dX6_gapFrom_28 ?_
        refine lv_iload_n hx hb dX6_gapFrom_31 rfl (lv_at hl 2 rfl) ?_
        refine m_pSb hx hb hml hown hts hK hH hl (rest := []) cw_X6_95 rfl (c6_begins hA 67 n a g f sz w F5 (oOrW n w (-1) 4) i (by first | assumption | omega) (by first | assumption | omega) (by first | assumption | omega) (by first | assumption | omega) (hF5) (by first | assumption | omega) e67 e73) ⟨Nat.le_of_ble_eq_true rfl, Nat.le_of_ble_eq_true rfl⟩ ⟨Nat.le_of_ble_eq_true rfl, Nat.le_of_ble_eq_true rfl⟩ rfl rfl (Nat.le_of_ble_eq_true rfl) dX6_gapFrom_32 (fun hz H locs hH => ?_) (fun hz H locs hH => ?_)
        · refine m_if_eq 47 hx hb dX6_gapFrom_35 (by decide) (by omega) (fun h_6 => absurd h_6 (by omega)) (fun h_6 => ?_)
          refine lv_iload_n hx hb dX6_gapFrom_38 rfl (lv_at hl 1 rfl) ?_
          refine m_if_ne 44 hx hb dX6_gapFrom_39 (by decide) (by omega) (fun h_7 => ?_) (fun h_7 => ?_)
          · refine m_iinc (((le - 1 : Nat) : Int)) [(2, .int (oI (((le - 1 : Nat) : Int)))), (0, .ref (ad (65))), (3, .int (oI (((i : Nat) : Int) + 1)))] hx hb dX6_gapFrom_44 hl (j := 1) rfl (by omega) (by decide) rfl (fun ls hl => ?_)
            refine m_iinc (((i : Nat) : Int) + 2) [(3, .int (oI (((i : Nat) : Int) + 2))), (2, .int (oI (((le - 1 : Nat) : Int)))), (0, .ref (ad (65)))] hx hb dX6_gapFrom_47 hl (j := 2) rfl (by omega) (by decide) rfl (fun ls hl => ?_)
            refine lv_goto (tgt := 13) hx hb dX6_gapFrom_50 (by decide) ?_
            exact ih13 (i + 1) (le - 1) (by omega) (by first | assumption | omega) (by rw [oGaps_y hz]; omega) _ _ hH ls (lv_sub hl [2, 1, 0] rfl)
          · refine lv_iload_n hx hb dX6_gapFrom_42 rfl (lv_at hl 2 rfl) ?_
            exact m_iret hx hb hlk hrt hH (m_ni _) dX6_gapFrom_43 ⟨s5, F5, R5, congrArg oI (by rw [oGs_at (i := i) (by omega) hz (by omega)]; rfl), hF5, e72, e73, e74, hf⟩
        · refine m_if_eq 47 hx hb dX6_gapFrom_35 (by decide) (by omega) (fun h_8 => ?_) (fun h_8 => absurd h_8 (by omega))
          refine m_iinc (((i : Nat) : Int) + 2) [(3, .int (oI (((i : Nat) : Int) + 2))), (0, .ref (ad (65))), (2, .int (oI (((le : Nat) : Int))))] hx hb dX6_gapFrom_47 hl (j := 2) rfl (by omega) (by decide) rfl (fun ls hl => ?_)
          refine lv_goto (tgt := 13) hx hb dX6_gapFrom_50 (by decide) ?_
          exact ih13 (i + 1) le (by omega) (by first | assumption | omega) (by rw [oGaps_n hz]; exact hc) _ _ hH ls (lv_sub hl [1, 2, 0] rfl)
  exact L13 _ 0 k (Nat.lt_succ_self _) (by first | assumption | omega) (rfl) _ _ hH ls (lv_sub hl [2, 1, 0] rfl)
set_option maxHeartbeats 4000000 in
set_option maxRecDepth 100000 in
theorem c6_gap {l : Launch} {D : va_G} {cT : Nat → ClassId} {N b0 : Nat} {ad : Nat → Nat} (hA : oAd b0 N ad) {σ : Nat → va_E} (k x : Int) (si ac6 spo ou6 : Nat) (rf : Int) (n a g : Nat) (f : Nat → Int) (sz w : Nat → Nat) (s : Nat → Nat) (F R : Nat → Int) (hN : 76 ≤ N) (hwf : oWf n sz w) (hag : oAg a g) (hp : oRS f n a g sz w) (hbk : -2147483648 ≤ k ∧ k < 2147483648) (hbx : -2147483648 ≤ x ∧ x < 2147483648) (eM6 : σ (65) = .inr (6, [.int (oI (rf)), .ref (ad (66)), .int (oI (((si : Nat) : Int))), .ref (ad (67)), .ref (ad (68)), .ref (ad (69)), .int (oI (((ac6 : Nat) : Int))), .ref (ad (70)), .ref (ad (71)), .ref (ad (72)), .ref (ad (73)), .ref (ad (74)), .int (oI (((spo : Nat) : Int))), .int (oI (((ou6 : Nat) : Int)))])) (e67 : σ (67) = oAI cT 171 f) (e72 : σ (72) = oAN cT 41 s) (e73 : σ (73) = oAI cT 201 F) (e74 : σ (74) = oAI cT 201 R) :
    oCi l D cT N ad b0 yX6_gap cX6_gap 5 (some .int) 5 113 [.ref (ad (65)), .int (oI (k)), .int (oI (x))] σ (fun rr uu => ∃ v9 : Int, ∃ r9 : Int, ∃ s2 : Nat → Nat, ∃ F2 : Nat → Int, ∃ R2 : Nat → Int, rr = oI (v9) ∧ (((0 ≤ k ∧ k < ((oGaps (oOrW n w (-1) 4) a g : Nat) : Int)) ∧ (x = 0 ∨ x = 1) ∧ r9 = 0 ∧ v9 = oGpa x (oOrW n w (-1) 4) a g k.toNat) ∨ (r9 = 1 ∧ ¬ (0 ≤ k ∧ k < ((oGaps (oOrW n w (-1) 4) a g : Nat) : Int))) ∨ (r9 = 2 ∧ (0 ≤ k ∧ k < ((oGaps (oOrW n w (-1) 4) a g : Nat) : Int)) ∧ ¬ (x = 0 ∨ x = 1))) ∧ uu (65) = .inr (6, [.int (oI (r9)), .ref (ad (66)), .int (oI (((si : Nat) : Int))), .ref (ad (67)), .ref (ad (68)), .ref (ad (69)), .int (oI (((ac6 : Nat) : Int))), .ref (ad (70)), .ref (ad (71)), .ref (ad (72)), .ref (ad (73)), .ref (ad (74)), .int (oI (((spo : Nat) : Int))), .int (oI (((ou6 : Nat) : Int)))]) ∧ uu (72) = oAN cT 41 s2 ∧ uu (73) = oAI cT 201 F2 ∧ uu (74) = oAI cT 201 R2 ∧ (∀ q : Nat, q ≠ 65 → q ≠ 72 → q ≠ 73 → q ≠ 74 → uu q = σ q)) := by
  refine m_start (cc := cX6_gap) (by decide) (Nat.le_of_ble_eq_true rfl) rfl ?_
  intro Pp Ee Ss Mm Bb Me Cc Ar ls hx hb hml hown hlk hrt hts hK hH hl
  have hown : Ss.vm.findClass RX6 = some Mm.cls := hown
  have hag1 := hag.1
  have hag2 := hag.2
  obtain ⟨G9, hG9⟩ : ∃ y : Nat, oGaps (oOrW n w (-1) 4) a g = y := ⟨_, rfl⟩
  have hl : lv_has ls 5 [(0, .ref (ad (65))), (1, .int (oI (k))), (2, .int (oI (x)))] := hl
  have hf : ∀ q : Nat, q ≠ 65 → q ≠ 72 → q ≠ 73 → q ≠ 74 → σ q = σ q := fun q _ _ _ _ => rfl
  refine lv_iload_n hx hb dX6_gap_0 rfl (lv_at hl 1 rfl) ?_
  refine m_if_ge 8 hx hb dX6_gap_1 (by decide) (by omega) (fun h_1 => ?_) (fun h_1 => ?_)
  · refine lv_aload_n hx hb dX6_gap_8 rfl (lv_at hl 0 rfl) ?_
    refine lv_iload_n hx hb dX6_gap_9 rfl (lv_at hl 1 rfl) ?_
    refine m_topI (((k.toNat : Nat) : Int)) (by omega) ?_
    obtain ⟨gs, hgs⟩ : ∃ z : Int, oGs (oOrW n w (-1) 4) a g k.toNat = z := ⟨_, rfl⟩
    have hgb : (k.toNat < G9 ∧ 1 ≤ gs ∧ gs ≤ (g : Int)) ∨ (¬ k.toNat < G9 ∧ gs = -1) := by
        by_cases h : k.toNat < oGaps (oOrW n w (-1) 4) a g
        · have h8 := oGs_in h; rw [hgs] at h8; rw [hG9] at h; omega
        · have h8 := oGs_no (sp := (oOrW n w (-1) 4)) (k := a) (g := g) (j := k.toNat) (by omega); rw [hgs] at h8; rw [hG9] at h; omega
    refine m_callVi hx hb hml hown hts hK hH hl (rest := []) cw_X6_198 (c6_gapFrom hA k.toNat si ac6 spo ou6 rf n a g f sz w s F R (by first | assumption | omega) (by first | assumption | omega) (by first | assumption | omega) (by first | assumption | omega) (by first | assumption | omega) eM6 e67 e72 e73 e74) ⟨Nat.le_of_ble_eq_true rfl, Nat.le_of_ble_eq_true rfl⟩ ⟨Nat.le_of_ble_eq_true rfl, Nat.le_of_ble_eq_true rfl⟩ rfl (k := 65) (by omega) eM6 rfl rfl (Nat.le_of_ble_eq_true rfl) dX6_gap_10 (fun r_5 σ_2 H locs hp_3 hH => ?_)
    obtain ⟨s5, F5, R5, rfl, hF5, e72, e73, e74, hq_4⟩ := hp_3
    have eM6 : σ_2 (65) = .inr (6, [.int (oI (rf)), .ref (ad (66)), .int (oI (((si : Nat) : Int))), .ref (ad (67)), .ref (ad (68)), .ref (ad (69)), .int (oI (((ac6 : Nat) : Int))), .ref (ad (70)), .ref (ad (71)), .ref (ad (72)), .ref (ad (73)), .ref (ad (74)), .int (oI (((spo : Nat) : Int))), .int (oI (((ou6 : Nat) : Int)))]) := (hq_4 _ (by decide) (by decide) (by decide)).trans eM6
    have e67 : σ_2 (67) = oAI cT 171 f := (hq_4 _ (by decide) (by decide) (by decide)).trans e67
    have hf : ∀ q : Nat, q ≠ 65 → q ≠ 72 → q ≠ 73 → q ≠ 74 → σ_2 q = σ q := fun q n0 n1 n2 n3 => (hq_4 q n1 n2 n3).trans (hf q n0 n1 n2 n3)
    refine m_topI (gs) (hgs) ?_
    refine lv_istore_n (lv' := [(3, .int (oI (gs))), (0, .ref (ad (65))), (1, .int (oI (k))), (2, .int (oI (x)))]) hx hb dX6_gap_13 rfl hl (by decide) rfl (fun ls hl => ?_)
    refine lv_aload_n hx hb dX6_gap_14 rfl (lv_at hl 1 rfl) ?_
    refine lv_iload_n hx hb dX6_gap_15 rfl (lv_at hl 0 rfl) ?_
    refine m_iconst (-1) hx hb dX6_gap_16 rfl ?_
    refine m_icmp_ne 24 hx hb dX6_gap_17 (by decide) (by omega) (by omega) (fun h_6 => ?_) (fun h_6 => ?_)
    · refine lv_iload_n hx hb dX6_gap_24 rfl (lv_at hl 3 rfl) ?_
      refine m_i2l hx hb dX6_gap_25 (by omega) ?_
      refine m_lconst 0 hx hb dX6_gap_26 rfl ?_
      refine m_lconst 1 hx hb dX6_gap_27 rfl ?_
      refine m_pSb hx hb hml hown hts hK hH hl (rest := [.ref (ad (65))]) cw_X6_46 rfl (c6_in hA x 0 1 (by first | assumption | omega) (by first | assumption | omega) (by first | assumption | omega) ) ⟨Nat.le_of_ble_eq_true rfl, Nat.le_of_ble_eq_true rfl⟩ ⟨Nat.le_of_ble_eq_true rfl, Nat.le_of_ble_eq_true rfl⟩ rfl rfl (Nat.le_of_ble_eq_true rfl) dX6_gap_28 (fun hx1 H locs hH => ?_) (fun hx1 H locs hH => ?_)
      · refine m_if_eq 38 hx hb dX6_gap_31 (by decide) (by omega) (fun h_7 => absurd h_7 (by omega)) (fun h_7 => ?_)
        refine m_iconst 0 hx hb dX6_gap_34 rfl ?_
        refine lv_goto (tgt := 39) hx hb dX6_gap_35 (by decide) ?_
        refine m_callVi hx hb hml hown hts hK hH hl (rest := []) cw_X6_111 (c6_ref0 hA si ac6 spo ou6 rf (by first | assumption | omega) eM6) ⟨Nat.le_of_ble_eq_true rfl, Nat.le_of_ble_eq_true rfl⟩ ⟨Nat.le_of_ble_eq_true rfl, Nat.le_of_ble_eq_true rfl⟩ rfl (k := 65) (by omega) eM6 rfl rfl (Nat.le_of_ble_eq_true rfl) dX6_gap_39 (fun r_11 σ_8 H locs hp_9 hH => ?_)
        obtain ⟨rfl, eM6, hq_10⟩ := hp_9
        have e67 : σ_8 (67) = oAI cT 171 f := (hq_10 _ (by decide)).trans e67
        have e72 : σ_8 (72) = oAN cT 41 s5 := (hq_10 _ (by decide)).trans e72
        have e73 : σ_8 (73) = oAI cT 201 F5 := (hq_10 _ (by decide)).trans e73
        have e74 : σ_8 (74) = oAI cT 201 R5 := (hq_10 _ (by decide)).trans e74
        have hf : ∀ q : Nat, q ≠ 65 → q ≠ 72 → q ≠ 73 → q ≠ 74 → σ_8 q = σ q := fun q n0 n1 n2 n3 => (hq_10 q n0).trans (hf q n0 n1 n2 n3)
        refine m_if_eq 47 hx hb dX6_gap_42 (by decide) (by omega) (fun h_12 => ?_) (fun h_12 => absurd h_12 (by omega))
        obtain ⟨t0, ht0⟩ : ∃ t : Nat, gs = (t : Int) := ⟨gs.toNat, by omega⟩
        refine lv_iload_n hx hb dX6_gap_47 rfl (lv_at hl 0 rfl) ?_
        refine m_topI (((t0 : Nat) : Int)) (ht0) ?_
        refine lv_istore (lv' := [(4, .int (oI (((t0 : Nat) : Int)))), (3, .int (oI (gs))), (0, .ref (ad (65))), (1, .int (oI (k))), (2, .int (oI (x)))]) hx hb dX6_gap_48 hl (by decide) rfl (fun ls hl => ?_)
        have L50 : ∀ (fu : Nat) (u9 : Nat), (g + 2 - u9 < fu) → (t0 + u9 ≤ g + 1) → (∀ i : Nat, i < u9 → ¬ oLd (oOrW n w (-1) 4) a (t0 + i) = true) → ∀ (H : Heap) (locs : List Loc), oH b0 D N ad Ss.heap σ_8 H locs → ∀ ls : Array Slot, lv_has ls 5 [(0, .ref (ad (65))), (2, .int (oI (x))), (3, .int (oI (gs))), (4, .int (oI (((t0 : Nat) : Int) + ((u9 : Nat) : Int))))] → W Pp l Ee { frames := 5, cells := 0, slots := 0, locals := 113 } Ss Mm Ar Bb Me Cc H locs 0 0 (MQ Bb (va_Qi (fun rr uu => ∃ v9 : Int, ∃ r9 : Int, ∃ s2 : Nat → Nat, ∃ F2 : Nat → Int, ∃ R2 : Nat → Int, rr = oI (v9) ∧ (((0 ≤ k ∧ k < ((oGaps (oOrW n w (-1) 4) a g : Nat) : Int)) ∧ (x = 0 ∨ x = 1) ∧ r9 = 0 ∧ v9 = oGpa x (oOrW n w (-1) 4) a g k.toNat) ∨ (r9 = 1 ∧ ¬ (0 ≤ k ∧ k < ((oGaps (oOrW n w (-1) 4) a g : Nat) : Int))) ∨ (r9 = 2 ∧ (0 ≤ k ∧ k < ((oGaps (oOrW n w (-1) 4) a g : Nat) : Int)) ∧ ¬ (x = 0 ∨ x = 1))) ∧ uu (65) = .inr (6, [.int (oI (r9)), .ref (ad (66)), .int (oI (((si : Nat) : Int))), .ref (ad (67)), .ref (ad (68)), .ref (ad (69)), .int (oI (((ac6 : Nat) : Int))), .ref (ad (70)), .ref (ad (71)), .ref (ad (72)), .ref (ad (73)), .ref (ad (74)), .int (oI (((spo : Nat) : Int))), .int (oI (((ou6 : Nat) : Int)))]) ∧ uu (72) = oAN cT 41 s2 ∧ uu (73) = oAI cT 201 F2 ∧ uu (74) = oAI cT 201 R2 ∧ (∀ q : Nat, q ≠ 65 → q ≠ 72 → q ≠ 73 → q ≠ 74 → uu q = σ q)) (oV D N ad) (fun q => b0 ≤ q)) Ar Ss 0 0 (fun q => b0 ≤ q)) (F0 Mm 50 ls []) := by
          intro fu50
          induction fu50 with
          | zero =>
            intro u9 hm50
            exact absurd hm50 (Nat.not_lt_zero _)
          | succ fu50 ih50 =>
            intro u9 hm50 hq hnl H locs hH ls hl
            refine lv_iload hx hb dX6_gap_50 (lv_at hl 3 rfl) ?_
            refine lv_aload_n hx hb dX6_gap_52 rfl (lv_at hl 0 rfl) ?_
            refine gf_X6_now hx hb hts hown hK hH (k := 65) (by omega) eM6 dX6_gap_53 ?_
            refine m_iconst 2 hx hb dX6_gap_56 rfl ?_
            refine m_iald hx hb hK hH (k := 67) (by omega) e67 (2) (by omega) (by omega) (by decide) dX6_gap_57 ?_
            refine m_topI (((g : Nat) : Int)) (hp.2.2.1) ?_
            refine m_icmp_gt 86 hx hb dX6_gap_58 (by decide) (by omega) (by omega) (fun h_13 => ?_) (fun h_13 => ?_)
            · refine lv_iload_n hx hb dX6_gap_86 rfl (lv_at hl 1 rfl) ?_
              refine m_if_ne 94 hx hb dX6_gap_87 (by decide) (by omega) (fun h_14 => ?_) (fun h_14 => ?_)
              · refine lv_iload hx hb dX6_gap_94 (lv_at hl 3 rfl) ?_
                refine lv_iload_n hx hb dX6_gap_96 rfl (lv_at hl 2 rfl) ?_
                refine m_isub (-gs + ((t0 : Nat) : Int) + ((u9 : Nat) : Int)) hx hb dX6_gap_97 (by omega) ?_
                exact m_iret hx hb hlk hrt hH (m_ni _) dX6_gap_98 ⟨((u9 : Nat) : Int), 0, s5, F5, R5, congrArg oI (by omega), (Or.inl ⟨⟨by omega, by rw [hG9]; omega⟩, by omega, rfl, by unfold oGpa; rw [if_neg (by omega), hgs, ht0, Int.toNat_natCast, oGl_no (j := u9) (by omega) hnl]⟩), eM6, e72, e73, e74, hf⟩
              · refine lv_iload_n hx hb dX6_gap_90 rfl (lv_at hl 2 rfl) ?_
                refine lv_goto (tgt := 98) hx hb dX6_gap_91 (by decide) ?_
                exact m_iret hx hb hlk hrt hH (m_ni _) dX6_gap_98 ⟨gs, 0, s5, F5, R5, rfl, (Or.inl ⟨⟨by omega, by rw [hG9]; omega⟩, by omega, rfl, by unfold oGpa; rw [if_pos (by omega), hgs]⟩), eM6, e72, e73, e74, hf⟩
            · refine lv_aload_n hx hb dX6_gap_61 rfl (lv_at hl 0 rfl) ?_
              refine gf_X6_far hx hb hts hown hK hH (k := 65) (by omega) eM6 dX6_gap_62 ?_
              refine lv_iload hx hb dX6_gap_65 (lv_at hl 3 rfl) ?_
              obtain ⟨dz, hdz⟩ : ∃ z : Int, oDist (oOrW n w (-1) 4) 0 (t0 + u9) = z := ⟨_, rfl⟩
              have hdb : -1 ≤ dz ∧ dz ≤ 200 := by rw [← hdz]; exact oDist_b (by omega) _
              refine m_iald hx hb hK hH (k := 73) (by omega) e73 (t0 + u9) (by omega) (by omega) (by decide) dX6_gap_67 ?_
              refine m_topI (dz) ((hF5 (t0 + u9) (by omega)).trans hdz) ?_
              refine lv_aload_n hx hb dX6_gap_68 rfl (lv_at hl 0 rfl) ?_
              refine gf_X6_now hx hb hts hown hK hH (k := 65) (by omega) eM6 dX6_gap_69 ?_
              refine m_iconst 1 hx hb dX6_gap_72 rfl ?_
              refine m_iald hx hb hK hH (k := 67) (by omega) e67 (1) (by omega) (by omega) (by decide) dX6_gap_73 ?_
              refine m_topI (((a : Nat) : Int)) (hp.2.1) ?_
              refine m_pSb hx hb hml hown hts hK hH hl (rest := []) cw_X6_87 rfl (c6_isLaid hA dz ((a : Nat) : Int) (by first | assumption | omega) (by first | assumption | omega) ) ⟨Nat.le_of_ble_eq_true rfl, Nat.le_of_ble_eq_true rfl⟩ ⟨Nat.le_of_ble_eq_true rfl, Nat.le_of_ble_eq_true rfl⟩ rfl rfl (Nat.le_of_ble_eq_true rfl) dX6_gap_74 (fun hz H locs hH => ?_) (fun hz H locs hH => ?_)
              · refine m_if_ne 86 hx hb dX6_gap_77 (by decide) (by omega) (fun h_15 => ?_) (fun h_15 => absurd h_15 (by omega))
                refine lv_iload_n hx hb dX6_gap_86 rfl (lv_at hl 1 rfl) ?_
                refine m_if_ne 94 hx hb dX6_gap_87 (by decide) (by omega) (fun h_16 => ?_) (fun h_16 => ?_)
                · refine lv_iload hx hb dX6_gap_94 (lv_at hl 3 rfl) ?_
                  refine lv_iload_n hx hb dX6_gap_96 rfl (lv_at hl 2 rfl) ?_
                  refine m_isub (-gs + ((t0 : Nat) : Int) + ((u9 : Nat) : Int)) hx hb dX6_gap_97 (by omega) ?_
                  exact m_iret hx hb hlk hrt hH (m_ni _) dX6_gap_98 ⟨((u9 : Nat) : Int), 0, s5, F5, R5, congrArg oI (by omega), (Or.inl ⟨⟨by omega, by rw [hG9]; omega⟩, by omega, rfl, by unfold oGpa; rw [if_neg (by omega), hgs, ht0, Int.toNat_natCast, oGl_at (j := u9) (by omega) (oLd_j.mpr (by rw [hdz]; exact hz)) hnl]⟩), eM6, e72, e73, e74, hf⟩
                · refine lv_iload_n hx hb dX6_gap_90 rfl (lv_at hl 2 rfl) ?_
                  refine lv_goto (tgt := 98) hx hb dX6_gap_91 (by decide) ?_
                  exact m_iret hx hb hlk hrt hH (m_ni _) dX6_gap_98 ⟨gs, 0, s5, F5, R5, rfl, (Or.inl ⟨⟨by omega, by rw [hG9]; omega⟩, by omega, rfl, by unfold oGpa; rw [if_pos (by omega), hgs]⟩), eM6, e72, e73, e74, hf⟩
              · refine m_if_ne 86 hx hb dX6_gap_77 (by decide) (by omega) (fun h_17 => absurd h_17 (by omega)) (fun h_17 => ?_)
                refine m_iinc (((t0 : Nat) : Int) + ((u9 : Nat) : Int) + 1) [(4, .int (oI (((t0 : Nat) : Int) + ((u9 : Nat) : Int) + 1))), (0, .ref (ad (65))), (2, .int (oI (x))), (3, .int (oI (gs)))] hx hb dX6_gap_80 hl (j := 3) rfl (by omega) (by decide) rfl (fun ls hl => ?_)
                refine lv_goto (tgt := 50) hx hb dX6_gap_83 (by decide) ?_
                exact ih50 (u9 + 1) (by omega) (by first | assumption | omega) (fun i h => (Nat.lt_or_ge i u9).elim (hnl i) (fun h2 => by rw [show t0 + i = t0 + u9 by omega]; exact fun q9 => hz (by have := oLd_j.mp q9; rw [hdz] at this; exact this))) _ _ hH ls (lv_sub hl [1, 2, 3, 0] rfl)
        exact L50 _ 0 (Nat.lt_succ_self _) (by first | assumption | omega) (fun i h => absurd h (Nat.not_lt_zero _)) _ _ hH ls (lv_sub hl [2, 4, 1, 0] rfl)
      · refine m_if_eq 38 hx hb dX6_gap_31 (by decide) (by omega) (fun h_18 => ?_) (fun h_18 => absurd h_18 (by omega))
        refine m_iconst 2 hx hb dX6_gap_38 rfl ?_
        refine m_callVi hx hb hml hown hts hK hH hl (rest := []) cw_X6_111 (c6_ref1 hA 2 si ac6 spo ou6 rf (by first | assumption | omega) (by first | assumption | omega) eM6) ⟨Nat.le_of_ble_eq_true rfl, Nat.le_of_ble_eq_true rfl⟩ ⟨Nat.le_of_ble_eq_true rfl, Nat.le_of_ble_eq_true rfl⟩ rfl (k := 65) (by omega) eM6 rfl rfl (Nat.le_of_ble_eq_true rfl) dX6_gap_39 (fun r_22 σ_19 H locs hp_20 hH => ?_)
        obtain ⟨rfl, eM6, hq_21⟩ := hp_20
        have e67 : σ_19 (67) = oAI cT 171 f := (hq_21 _ (by decide)).trans e67
        have e72 : σ_19 (72) = oAN cT 41 s5 := (hq_21 _ (by decide)).trans e72
        have e73 : σ_19 (73) = oAI cT 201 F5 := (hq_21 _ (by decide)).trans e73
        have e74 : σ_19 (74) = oAI cT 201 R5 := (hq_21 _ (by decide)).trans e74
        have hf : ∀ q : Nat, q ≠ 65 → q ≠ 72 → q ≠ 73 → q ≠ 74 → σ_19 q = σ q := fun q n0 n1 n2 n3 => (hq_21 q n0).trans (hf q n0 n1 n2 n3)
        refine m_if_eq 47 hx hb dX6_gap_42 (by decide) (by omega) (fun h_23 => absurd h_23 (by omega)) (fun h_23 => ?_)
        refine m_iconst 0 hx hb dX6_gap_45 rfl ?_
        exact m_iret hx hb hlk hrt hH (m_ni _) dX6_gap_46 ⟨0, 2, s5, F5, R5, rfl, (Or.inr (Or.inr ⟨rfl, ⟨by omega, by rw [hG9]; omega⟩, by omega⟩)), eM6, e72, e73, e74, hf⟩
    · refine m_iconst 1 hx hb dX6_gap_20 rfl ?_
      refine lv_goto (tgt := 39) hx hb dX6_gap_21 (by decide) ?_
      refine m_callVi hx hb hml hown hts hK hH hl (rest := []) cw_X6_111 (c6_ref1 hA 1 si ac6 spo ou6 rf (by first | assumption | omega) (by first | assumption | omega) eM6) ⟨Nat.le_of_ble_eq_true rfl, Nat.le_of_ble_eq_true rfl⟩ ⟨Nat.le_of_ble_eq_true rfl, Nat.le_of_ble_eq_true rfl⟩ rfl (k := 65) (by omega) eM6 rfl rfl (Nat.le_of_ble_eq_true rfl) dX6_gap_39 (fun r_27 σ_24 H locs hp_25 hH => ?_)
      obtain ⟨rfl, eM6, hq_26⟩ := hp_25
      have e67 : σ_24 (67) = oAI cT 171 f := (hq_26 _ (by decide)).trans e67
      have e72 : σ_24 (72) = oAN cT 41 s5 := (hq_26 _ (by decide)).trans e72
      have e73 : σ_24 (73) = oAI cT 201 F5 := (hq_26 _ (by decide)).trans e73
      have e74 : σ_24 (74) = oAI cT 201 R5 := (hq_26 _ (by decide)).trans e74
      have hf : ∀ q : Nat, q ≠ 65 → q ≠ 72 → q ≠ 73 → q ≠ 74 → σ_24 q = σ q := fun q n0 n1 n2 n3 => (hq_26 q n0).trans (hf q n0 n1 n2 n3)
      refine m_if_eq 47 hx hb dX6_gap_42 (by decide) (by omega) (fun h_28 => absurd h_28 (by omega)) (fun h_28 => ?_)
      refine m_iconst 0 hx hb dX6_gap_45 rfl ?_
      exact m_iret hx hb hlk hrt hH (m_ni _) dX6_gap_46 ⟨0, 1, s5, F5, R5, rfl, (Or.inr (Or.inl ⟨rfl, fun q => by rw [hG9] at q; omega⟩)), eM6, e72, e73, e74, hf⟩
  · refine m_iconst (-1) hx hb dX6_gap_4 rfl ?_
    refine lv_goto (tgt := 13) hx hb dX6_gap_5 (by decide) ?_
    refine lv_istore_n (lv' := [(3, .int (oI ((-1)))), (0, .ref (ad (65))), (1, .int (oI (k))), (2, .int (oI (x)))]) hx hb dX6_gap_13 rfl hl (by decide) rfl (fun ls hl => ?_)
    refine lv_aload_n hx hb dX6_gap_14 rfl (lv_at hl 1 rfl) ?_
    refine lv_iload_n hx hb dX6_gap_15 rfl (lv_at hl 0 rfl) ?_
    refine m_iconst (-1) hx hb dX6_gap_16 rfl ?_
    refine m_icmp_ne 24 hx hb dX6_gap_17 (by decide) (by omega) (by omega) (fun h_29 => absurd h_29 (by omega)) (fun h_29 => ?_)
    refine m_iconst 1 hx hb dX6_gap_20 rfl ?_
    refine lv_goto (tgt := 39) hx hb dX6_gap_21 (by decide) ?_
    refine m_callVi hx hb hml hown hts hK hH hl (rest := []) cw_X6_111 (c6_ref1 hA 1 si ac6 spo ou6 rf (by first | assumption | omega) (by first | assumption | omega) eM6) ⟨Nat.le_of_ble_eq_true rfl, Nat.le_of_ble_eq_true rfl⟩ ⟨Nat.le_of_ble_eq_true rfl, Nat.le_of_ble_eq_true rfl⟩ rfl (k := 65) (by omega) eM6 rfl rfl (Nat.le_of_ble_eq_true rfl) dX6_gap_39 (fun r_33 σ_30 H locs hp_31 hH => ?_)
    obtain ⟨rfl, eM6, hq_32⟩ := hp_31
    have e67 : σ_30 (67) = oAI cT 171 f := (hq_32 _ (by decide)).trans e67
    have e72 : σ_30 (72) = oAN cT 41 s := (hq_32 _ (by decide)).trans e72
    have e73 : σ_30 (73) = oAI cT 201 F := (hq_32 _ (by decide)).trans e73
    have e74 : σ_30 (74) = oAI cT 201 R := (hq_32 _ (by decide)).trans e74
    have hf : ∀ q : Nat, q ≠ 65 → q ≠ 72 → q ≠ 73 → q ≠ 74 → σ_30 q = σ q := fun q n0 n1 n2 n3 => (hq_32 q n0).trans (hf q n0 n1 n2 n3)
    refine m_if_eq 47 hx hb dX6_gap_42 (by decide) (by omega) (fun h_34 => absurd h_34 (by omega)) (fun h_34 => ?_)
    refine m_iconst 0 hx hb dX6_gap_45 rfl ?_
    exact m_iret hx hb hlk hrt hH (m_ni _) dX6_gap_46 ⟨0, 1, s, F, R, rfl, (Or.inr (Or.inl ⟨rfl, fun q => by omega⟩)), eM6, e72, e73, e74, hf⟩
set_option maxHeartbeats 4000000 in
set_option maxRecDepth 100000 in
theorem c6_layings {l : Launch} {D : va_G} {cT : Nat → ClassId} {N b0 : Nat} {ad : Nat → Nat} (hA : oAd b0 N ad) {σ : Nat → va_E} (si ac6 spo ou6 : Nat) (rf : Int) (n a g : Nat) (f : Nat → Int) (sz w : Nat → Nat) (s : Nat → Nat) (F R : Nat → Int) (hN : 76 ≤ N) (hwf : oWf n sz w) (hag : oAg a g) (hp : oRS f n a g sz w) (eM6 : σ (65) = .inr (6, [.int (oI (rf)), .ref (ad (66)), .int (oI (((si : Nat) : Int))), .ref (ad (67)), .ref (ad (68)), .ref (ad (69)), .int (oI (((ac6 : Nat) : Int))), .ref (ad (70)), .ref (ad (71)), .ref (ad (72)), .ref (ad (73)), .ref (ad (74)), .int (oI (((spo : Nat) : Int))), .int (oI (((ou6 : Nat) : Int)))])) (e67 : σ (67) = oAI cT 171 f) (e72 : σ (72) = oAN cT 41 s) (e73 : σ (73) = oAI cT 201 F) (e74 : σ (74) = oAI cT 201 R) :
    oCi l D cT N ad b0 yX6_layings cX6_layings 3 (some .int) 3 67 [.ref (ad (65))] σ (fun rr uu => ∃ s2 : Nat → Nat, ∃ F2 : Nat → Int, ∃ R2 : Nat → Int, rr = oI ((oLyA (oOrW n w (-1) 4) g)) ∧ uu (65) = .inr (6, [.int (oI (0)), .ref (ad (66)), .int (oI (((si : Nat) : Int))), .ref (ad (67)), .ref (ad (68)), .ref (ad (69)), .int (oI (((ac6 : Nat) : Int))), .ref (ad (70)), .ref (ad (71)), .ref (ad (72)), .ref (ad (73)), .ref (ad (74)), .int (oI (((spo : Nat) : Int))), .int (oI (((ou6 : Nat) : Int)))]) ∧ uu (72) = oAN cT 41 s2 ∧ uu (73) = oAI cT 201 F2 ∧ uu (74) = oAI cT 201 R2 ∧ (∀ q : Nat, q ≠ 65 → q ≠ 72 → q ≠ 73 → q ≠ 74 → uu q = σ q)) := by
  refine m_start (cc := cX6_layings) (by decide) (Nat.le_of_ble_eq_true rfl) rfl ?_
  intro Pp Ee Ss Mm Bb Me Cc Ar ls hx hb hml hown hlk hrt hts hK hH hl
  have hown : Ss.vm.findClass RX6 = some Mm.cls := hown
  have hag1 := hag.1
  have hag2 := hag.2
  have hl : lv_has ls 3 [(0, .ref (ad (65)))] := hl
  have hf : ∀ q : Nat, q ≠ 65 → q ≠ 72 → q ≠ 73 → q ≠ 74 → σ q = σ q := fun q _ _ _ _ => rfl
  refine lv_aload_n hx hb dX6_layings_0 rfl (lv_at hl 0 rfl) ?_
  refine m_iconst 0 hx hb dX6_layings_1 rfl ?_
  refine pf_X6_refusal hx hb hts hown hK hH hA (k := 65) (by omega) eM6 dX6_layings_2 (fun H locs σ_1 eM6 hq_2 hH => ?_)
  have e67 : σ_1 (67) = oAI cT 171 f := (hq_2 _ (by decide)).trans e67
  have e72 : σ_1 (72) = oAN cT 41 s := (hq_2 _ (by decide)).trans e72
  have e73 : σ_1 (73) = oAI cT 201 F := (hq_2 _ (by decide)).trans e73
  have e74 : σ_1 (74) = oAI cT 201 R := (hq_2 _ (by decide)).trans e74
  have hf : ∀ q : Nat, q ≠ 65 → q ≠ 72 → q ≠ 73 → q ≠ 74 → σ_1 q = σ q := fun q n0 n1 n2 n3 => (hq_2 q n0).trans (hf q n0 n1 n2 n3)
  refine lv_aload_n hx hb dX6_layings_5 rfl (lv_at hl 0 rfl) ?_
  refine lv_aload_n hx hb dX6_layings_6 rfl (lv_at hl 0 rfl) ?_
  refine gf_X6_now hx hb hts hown hK hH (k := 65) (by omega) eM6 dX6_layings_7 ?_
  refine m_callVv hx hb hml hown hts hK hH hl (rest := []) cw_X6_80 (c6_findSpans hA si ac6 spo ou6 0 67 n a g f sz w s (by first | assumption | omega) (by first | assumption | omega) (by first | assumption | omega) (by first | assumption | omega) eM6 e67 e72) ⟨Nat.le_of_ble_eq_true rfl, Nat.le_of_ble_eq_true rfl⟩ ⟨Nat.le_of_ble_eq_true rfl, Nat.le_of_ble_eq_true rfl⟩ rfl (k := 65) (by omega) eM6 rfl rfl (Nat.le_of_ble_eq_true rfl) dX6_layings_10 (fun σ_3 H locs hp_4 hH => ?_)
  obtain ⟨s5, hs5, hs50, e72, hq_5⟩ := hp_4
  have eM6 : σ_3 (65) = .inr (6, [.int (oI (0)), .ref (ad (66)), .int (oI (((si : Nat) : Int))), .ref (ad (67)), .ref (ad (68)), .ref (ad (69)), .int (oI (((ac6 : Nat) : Int))), .ref (ad (70)), .ref (ad (71)), .ref (ad (72)), .ref (ad (73)), .ref (ad (74)), .int (oI (((spo : Nat) : Int))), .int (oI (((ou6 : Nat) : Int)))]) := (hq_5 _ (by decide)).trans eM6
  have e67 : σ_3 (67) = oAI cT 171 f := (hq_5 _ (by decide)).trans e67
  have e73 : σ_3 (73) = oAI cT 201 F := (hq_5 _ (by decide)).trans e73
  have e74 : σ_3 (74) = oAI cT 201 R := (hq_5 _ (by decide)).trans e74
  have hf : ∀ q : Nat, q ≠ 65 → q ≠ 72 → q ≠ 73 → q ≠ 74 → σ_3 q = σ q := fun q n0 n1 n2 n3 => (hq_5 q n1).trans (hf q n0 n1 n2 n3)
  have hsq := oSq_of hwf hs5 hs50
  refine lv_aload_n hx hb dX6_layings_13 rfl (lv_at hl 0 rfl) ?_
  refine m_iconst 0 hx hb dX6_layings_14 rfl ?_
  refine m_callVv hx hb hml hown hts hK hH hl (rest := []) cw_X6_83 (c6_findFar hA si ac6 spo ou6 0 0 (oOrW n w (-1) 4) s5 F R (by first | assumption | omega) (by first | assumption | omega) (by first | assumption | omega) eM6 e72 e73 e74) ⟨Nat.le_of_ble_eq_true rfl, Nat.le_of_ble_eq_true rfl⟩ ⟨Nat.le_of_ble_eq_true rfl, Nat.le_of_ble_eq_true rfl⟩ rfl (k := 65) (by omega) eM6 rfl rfl (Nat.le_of_ble_eq_true rfl) dX6_layings_15 (fun σ_7 H locs hp_8 hH => ?_)
  obtain ⟨F5, R5, hF5, e73, e74, hq_9⟩ := hp_8
  have eM6 : σ_7 (65) = .inr (6, [.int (oI (0)), .ref (ad (66)), .int (oI (((si : Nat) : Int))), .ref (ad (67)), .ref (ad (68)), .ref (ad (69)), .int (oI (((ac6 : Nat) : Int))), .ref (ad (70)), .ref (ad (71)), .ref (ad (72)), .ref (ad (73)), .ref (ad (74)), .int (oI (((spo : Nat) : Int))), .int (oI (((ou6 : Nat) : Int)))]) := (hq_9 _ (by decide) (by decide)).trans eM6
  have e67 : σ_7 (67) = oAI cT 171 f := (hq_9 _ (by decide) (by decide)).trans e67
  have e72 : σ_7 (72) = oAN cT 41 s5 := (hq_9 _ (by decide) (by decide)).trans e72
  have hf : ∀ q : Nat, q ≠ 65 → q ≠ 72 → q ≠ 73 → q ≠ 74 → σ_7 q = σ q := fun q n0 n1 n2 n3 => (hq_9 q n2 n3).trans (hf q n0 n1 n2 n3)
  refine m_iconst 0 hx hb dX6_layings_18 rfl ?_
  refine lv_istore_n (lv' := [(1, .int (oI (0))), (0, .ref (ad (65)))]) hx hb dX6_layings_19 rfl hl (by decide) rfl (fun ls hl => ?_)
  refine m_iconst 1 hx hb dX6_layings_20 rfl ?_
  refine lv_istore_n (lv' := [(2, .int (oI (1))), (1, .int (oI (0))), (0, .ref (ad (65)))]) hx hb dX6_layings_21 rfl hl (by decide) rfl (fun ls hl => ?_)
  have L22 : ∀ (fu : Nat) (i : Nat) (mo : Int), (g + 1 - i < fu) → (i ≤ g) → (mo = oLyA (oOrW n w (-1) 4) i) → (-1 ≤ mo ∧ mo ≤ 200) → ∀ (H : Heap) (locs : List Loc), oH b0 D N ad Ss.heap σ_7 H locs → ∀ ls : Array Slot, lv_has ls 3 [(0, .ref (ad (65))), (1, .int (oI (mo))), (2, .int (oI (((i : Nat) : Int) + 1)))] → W Pp l Ee { frames := 3, cells := 0, slots := 0, locals := 67 } Ss Mm Ar Bb Me Cc H locs 0 0 (MQ Bb (va_Qi (fun rr uu => ∃ s2 : Nat → Nat, ∃ F2 : Nat → Int, ∃ R2 : Nat → Int, rr = oI ((oLyA (oOrW n w (-1) 4) g)) ∧ uu (65) = .inr (6, [.int (oI (0)), .ref (ad (66)), .int (oI (((si : Nat) : Int))), .ref (ad (67)), .ref (ad (68)), .ref (ad (69)), .int (oI (((ac6 : Nat) : Int))), .ref (ad (70)), .ref (ad (71)), .ref (ad (72)), .ref (ad (73)), .ref (ad (74)), .int (oI (((spo : Nat) : Int))), .int (oI (((ou6 : Nat) : Int)))]) ∧ uu (72) = oAN cT 41 s2 ∧ uu (73) = oAI cT 201 F2 ∧ uu (74) = oAI cT 201 R2 ∧ (∀ q : Nat, q ≠ 65 → q ≠ 72 → q ≠ 73 → q ≠ 74 → uu q = σ q)) (oV D N ad) (fun q => b0 ≤ q)) Ar Ss 0 0 (fun q => b0 ≤ q)) (F0 Mm 22 ls []) := by
    intro fu22
    induction fu22 with
    | zero =>
      intro i mo hm22
      exact absurd hm22 (Nat.not_lt_zero _)
    | succ fu22 ih22 =>
      intro i mo hm22 hi hc hb9 H locs hH ls hl
      refine lv_iload_n hx hb dX6_layings_22 rfl (lv_at hl 2 rfl) ?_
      refine lv_aload_n hx hb dX6_layings_23 rfl (lv_at hl 0 rfl) ?_
      refine gf_X6_now hx hb hts hown hK hH (k := 65) (by omega) eM6 dX6_layings_24 ?_
      refine m_iconst 2 hx hb dX6_layings_27 rfl ?_
      refine m_iald hx hb hK hH (k := 67) (by omega) e67 (2) (by omega) (by omega) (by decide) dX6_layings_28 ?_
      refine m_topI (((g : Nat) : Int)) (hp.2.2.1) ?_
      refine m_icmp_gt 78 hx hb dX6_layings_29 (by decide) (by omega) (by omega) (fun h_11 => ?_) (fun h_11 => ?_)
      · refine lv_iload_n hx hb dX6_layings_78 rfl (lv_at hl 1 rfl) ?_
        exact m_iret hx hb hlk hrt hH (m_ni _) dX6_layings_79 ⟨s5, F5, R5, congrArg oI (by rw [hc, show i = g by omega]), eM6, e72, e73, e74, hf⟩
      · refine lv_iload_n hx hb dX6_layings_32 rfl (lv_at hl 1 rfl) ?_
        refine m_iconst (-1) hx hb dX6_layings_33 rfl ?_
        refine m_icmp_eq 78 hx hb dX6_layings_34 (by decide) (by omega) (by omega) (fun h_12 => ?_) (fun h_12 => ?_)
        · refine lv_iload_n hx hb dX6_layings_78 rfl (lv_at hl 1 rfl) ?_
          exact m_iret hx hb hlk hrt hH (m_ni _) dX6_layings_79 ⟨s5, F5, R5, congrArg oI (by have h8 := oLyA_neg (show oLyA (oOrW n w (-1) 4) i = -1 by omega) (g - i); rw [show i + (g - i) = g by omega] at h8; omega), eM6, e72, e73, e74, hf⟩
        · refine lv_aload_n hx hb dX6_layings_37 rfl (lv_at hl 0 rfl) ?_
          refine gf_X6_far hx hb hts hown hK hH (k := 65) (by omega) eM6 dX6_layings_38 ?_
          refine lv_iload_n hx hb dX6_layings_41 rfl (lv_at hl 2 rfl) ?_
          obtain ⟨dz, hdz⟩ : ∃ z : Int, oDist (oOrW n w (-1) 4) 0 (i + 1) = z := ⟨_, rfl⟩
          have hdb : -1 ≤ dz ∧ dz ≤ 200 := by rw [← hdz]; exact oDist_b (by omega) _
          refine m_iald hx hb hK hH (k := 73) (by omega) e73 (i + 1) (by omega) (by omega) (by decide) dX6_layings_42 ?_
          refine m_topI (dz) ((hF5 (i + 1) (by omega)).trans hdz) ?_
          refine m_iconst (-1) hx hb dX6_layings_43 rfl ?_
          refine m_icmp_ne 51 hx hb dX6_layings_44 (by decide) (by omega) (by omega) (fun h_13 => ?_) (fun h_13 => ?_)
          · refine lv_aload_n hx hb dX6_layings_51 rfl (lv_at hl 0 rfl) ?_
            refine gf_X6_far hx hb hts hown hK hH (k := 65) (by omega) eM6 dX6_layings_52 ?_
            refine lv_iload_n hx hb dX6_layings_55 rfl (lv_at hl 2 rfl) ?_
            refine m_iald hx hb hK hH (k := 73) (by omega) e73 (i + 1) (by omega) (by omega) (by decide) dX6_layings_56 ?_
            refine m_topI (dz) ((hF5 (i + 1) (by omega)).trans hdz) ?_
            refine lv_iload_n hx hb dX6_layings_57 rfl (lv_at hl 1 rfl) ?_
            refine m_icmp_le 70 hx hb dX6_layings_58 (by decide) (by omega) (by omega) (fun h_14 => ?_) (fun h_14 => ?_)
            · refine lv_iload_n hx hb dX6_layings_70 rfl (lv_at hl 1 rfl) ?_
              refine lv_istore_n (lv' := [(1, .int (oI (mo))), (0, .ref (ad (65))), (2, .int (oI (((i : Nat) : Int) + 1)))]) hx hb dX6_layings_71 rfl hl (by decide) rfl (fun ls hl => ?_)
              refine m_iinc (((i : Nat) : Int) + 2) [(2, .int (oI (((i : Nat) : Int) + 2))), (1, .int (oI (mo))), (0, .ref (ad (65)))] hx hb dX6_layings_72 hl (j := 2) rfl (by omega) (by decide) rfl (fun ls hl => ?_)
              refine lv_goto (tgt := 22) hx hb dX6_layings_75 (by decide) ?_
              exact ih22 (i + 1) mo (by omega) (by first | assumption | omega) (by rw [show oLyA (oOrW n w (-1) 4) (i + 1) = if oLyA (oOrW n w (-1) 4) i < oDist (oOrW n w (-1) 4) 0 (i + 1) then oDist (oOrW n w (-1) 4) 0 (i + 1) else oLyA (oOrW n w (-1) 4) i from if_neg (by rw [← hc, hdz]; omega), if_neg (by rw [← hc, hdz]; omega)]; exact hc) (by first | assumption | omega) _ _ hH ls (lv_sub hl [2, 1, 0] rfl)
            · refine lv_aload_n hx hb dX6_layings_61 rfl (lv_at hl 0 rfl) ?_
              refine gf_X6_far hx hb hts hown hK hH (k := 65) (by omega) eM6 dX6_layings_62 ?_
              refine lv_iload_n hx hb dX6_layings_65 rfl (lv_at hl 2 rfl) ?_
              refine m_iald hx hb hK hH (k := 73) (by omega) e73 (i + 1) (by omega) (by omega) (by decide) dX6_layings_66 ?_
              refine m_topI (dz) ((hF5 (i + 1) (by omega)).trans hdz) ?_
              refine lv_goto (tgt := 71) hx hb dX6_layings_67 (by decide) ?_
              refine lv_istore_n (lv' := [(1, .int (oI (dz))), (0, .ref (ad (65))), (2, .int (oI (((i : Nat) : Int) + 1)))]) hx hb dX6_layings_71 rfl hl (by decide) rfl (fun ls hl => ?_)
              refine m_iinc (((i : Nat) : Int) + 2) [(2, .int (oI (((i : Nat) : Int) + 2))), (1, .int (oI (dz))), (0, .ref (ad (65)))] hx hb dX6_layings_72 hl (j := 2) rfl (by omega) (by decide) rfl (fun ls hl => ?_)
              refine lv_goto (tgt := 22) hx hb dX6_layings_75 (by decide) ?_
              exact ih22 (i + 1) dz (by omega) (by first | assumption | omega) (by rw [show oLyA (oOrW n w (-1) 4) (i + 1) = if oLyA (oOrW n w (-1) 4) i < oDist (oOrW n w (-1) 4) 0 (i + 1) then oDist (oOrW n w (-1) 4) 0 (i + 1) else oLyA (oOrW n w (-1) 4) i from if_neg (by rw [← hc, hdz]; omega), if_pos (by rw [← hc, hdz]; omega), hdz]) (by first | assumption | omega) _ _ hH ls (lv_sub hl [2, 1, 0] rfl)
          · refine m_iconst (-1) hx hb dX6_layings_47 rfl ?_
            refine lv_goto (tgt := 71) hx hb dX6_layings_48 (by decide) ?_
            refine lv_istore_n (lv' := [(1, .int (oI ((-1)))), (0, .ref (ad (65))), (2, .int (oI (((i : Nat) : Int) + 1)))]) hx hb dX6_layings_71 rfl hl (by decide) rfl (fun ls hl => ?_)
            refine m_iinc (((i : Nat) : Int) + 2) [(2, .int (oI (((i : Nat) : Int) + 2))), (1, .int (oI ((-1)))), (0, .ref (ad (65)))] hx hb dX6_layings_72 hl (j := 2) rfl (by omega) (by decide) rfl (fun ls hl => ?_)
            refine lv_goto (tgt := 22) hx hb dX6_layings_75 (by decide) ?_
            exact ih22 (i + 1) (-1) (by omega) (by first | assumption | omega) (by rw [show oLyA (oOrW n w (-1) 4) (i + 1) = -1 from if_pos (Or.inr (by rw [hdz]; omega))]) (by first | assumption | omega) _ _ hH ls (lv_sub hl [2, 1, 0] rfl)
  exact L22 _ 0 0 (Nat.lt_succ_self _) (by first | assumption | omega) (rfl) (by first | assumption | omega) _ _ hH ls (lv_sub hl [2, 1, 0] rfl)
set_option maxHeartbeats 4000000 in
set_option maxRecDepth 100000 in
theorem c6_isReached {l : Launch} {D : va_G} {cT : Nat → ClassId} {N b0 : Nat} {ad : Nat → Nat} (hA : oAd b0 N ad) {σ : Nat → va_E} (t mo9 : Nat) (si ac6 spo ou6 : Nat) (rf : Int) (n a g : Nat) (f : Nat → Int) (sz w : Nat → Nat) (s : Nat → Nat) (F R : Nat → Int) (hN : 76 ≤ N) (hwf : oWf n sz w) (hag : oAg a g) (hp : oRS f n a g sz w) (ht : t ≤ 200) (hmo9 : mo9 ≤ 1000) (eM6 : σ (65) = .inr (6, [.int (oI (rf)), .ref (ad (66)), .int (oI (((si : Nat) : Int))), .ref (ad (67)), .ref (ad (68)), .ref (ad (69)), .int (oI (((ac6 : Nat) : Int))), .ref (ad (70)), .ref (ad (71)), .ref (ad (72)), .ref (ad (73)), .ref (ad (74)), .int (oI (((spo : Nat) : Int))), .int (oI (((ou6 : Nat) : Int)))])) (e68 : σ (68) = oAI cT 171 f) (e72 : σ (72) = oAN cT 41 s) (e73 : σ (73) = oAI cT 201 F) (e74 : σ (74) = oAI cT 201 R) :
    oCi l D cT N ad b0 yX6_isReached cX6_isReached 3 (some .boolean) 3 67 [.ref (ad (65)), .int (oI (((t : Nat) : Int))), .int (oI (((mo9 : Nat) : Int)))] σ (fun rr uu => ∃ s2 : Nat → Nat, ∃ F2 : Nat → Int, ∃ R2 : Nat → Int, rr = oI ((oLw (oOrW n w (-1) 4) t mo9)) ∧ uu (72) = oAN cT 41 s2 ∧ uu (73) = oAI cT 201 F2 ∧ uu (74) = oAI cT 201 R2 ∧ (∀ q : Nat, q ≠ 72 → q ≠ 73 → q ≠ 74 → uu q = σ q)) := by
  refine m_start (cc := cX6_isReached) (by decide) (Nat.le_of_ble_eq_true rfl) rfl ?_
  intro Pp Ee Ss Mm Bb Me Cc Ar ls hx hb hml hown hlk hrt hts hK hH hl
  have hown : Ss.vm.findClass RX6 = some Mm.cls := hown
  have hl : lv_has ls 3 [(0, .ref (ad (65))), (1, .int (oI (((t : Nat) : Int)))), (2, .int (oI (((mo9 : Nat) : Int))))] := hl
  have hf : ∀ q : Nat, q ≠ 72 → q ≠ 73 → q ≠ 74 → σ q = σ q := fun q _ _ _ => rfl
  refine lv_aload_n hx hb dX6_isReached_0 rfl (lv_at hl 0 rfl) ?_
  refine lv_aload_n hx hb dX6_isReached_1 rfl (lv_at hl 0 rfl) ?_
  refine gf_X6_trial hx hb hts hown hK hH (k := 65) (by omega) eM6 dX6_isReached_2 ?_
  refine m_callVv hx hb hml hown hts hK hH hl (rest := []) cw_X6_80 (c6_findSpans hA si ac6 spo ou6 rf 68 n a g f sz w s (by first | assumption | omega) (by first | assumption | omega) (by first | assumption | omega) (by first | assumption | omega) eM6 e68 e72) ⟨Nat.le_of_ble_eq_true rfl, Nat.le_of_ble_eq_true rfl⟩ ⟨Nat.le_of_ble_eq_true rfl, Nat.le_of_ble_eq_true rfl⟩ rfl (k := 65) (by omega) eM6 rfl rfl (Nat.le_of_ble_eq_true rfl) dX6_isReached_5 (fun σ_1 H locs hp_2 hH => ?_)
  obtain ⟨s5, hs5, hs50, e72, hq_3⟩ := hp_2
  have eM6 : σ_1 (65) = .inr (6, [.int (oI (rf)), .ref (ad (66)), .int (oI (((si : Nat) : Int))), .ref (ad (67)), .ref (ad (68)), .ref (ad (69)), .int (oI (((ac6 : Nat) : Int))), .ref (ad (70)), .ref (ad (71)), .ref (ad (72)), .ref (ad (73)), .ref (ad (74)), .int (oI (((spo : Nat) : Int))), .int (oI (((ou6 : Nat) : Int)))]) := (hq_3 _ (by decide)).trans eM6
  have e68 : σ_1 (68) = oAI cT 171 f := (hq_3 _ (by decide)).trans e68
  have e73 : σ_1 (73) = oAI cT 201 F := (hq_3 _ (by decide)).trans e73
  have e74 : σ_1 (74) = oAI cT 201 R := (hq_3 _ (by decide)).trans e74
  have hf : ∀ q : Nat, q ≠ 72 → q ≠ 73 → q ≠ 74 → σ_1 q = σ q := fun q n0 n1 n2 => (hq_3 q n0).trans (hf q n0 n1 n2)
  have hsq := oSq_of hwf hs5 hs50
  refine lv_aload_n hx hb dX6_isReached_8 rfl (lv_at hl 0 rfl) ?_
  refine m_iconst 0 hx hb dX6_isReached_9 rfl ?_
  refine m_callVv hx hb hml hown hts hK hH hl (rest := []) cw_X6_83 (c6_findFar hA si ac6 spo ou6 rf 0 (oOrW n w (-1) 4) s5 F R (by first | assumption | omega) (by first | assumption | omega) (by first | assumption | omega) eM6 e72 e73 e74) ⟨Nat.le_of_ble_eq_true rfl, Nat.le_of_ble_eq_true rfl⟩ ⟨Nat.le_of_ble_eq_true rfl, Nat.le_of_ble_eq_true rfl⟩ rfl (k := 65) (by omega) eM6 rfl rfl (Nat.le_of_ble_eq_true rfl) dX6_isReached_10 (fun σ_5 H locs hp_6 hH => ?_)
  obtain ⟨F5, R5, hF5, e73, e74, hq_7⟩ := hp_6
  have eM6 : σ_5 (65) = .inr (6, [.int (oI (rf)), .ref (ad (66)), .int (oI (((si : Nat) : Int))), .ref (ad (67)), .ref (ad (68)), .ref (ad (69)), .int (oI (((ac6 : Nat) : Int))), .ref (ad (70)), .ref (ad (71)), .ref (ad (72)), .ref (ad (73)), .ref (ad (74)), .int (oI (((spo : Nat) : Int))), .int (oI (((ou6 : Nat) : Int)))]) := (hq_7 _ (by decide) (by decide)).trans eM6
  have e68 : σ_5 (68) = oAI cT 171 f := (hq_7 _ (by decide) (by decide)).trans e68
  have e72 : σ_5 (72) = oAN cT 41 s5 := (hq_7 _ (by decide) (by decide)).trans e72
  have hf : ∀ q : Nat, q ≠ 72 → q ≠ 73 → q ≠ 74 → σ_5 q = σ q := fun q n0 n1 n2 => (hq_7 q n1 n2).trans (hf q n0 n1 n2)
  refine lv_aload_n hx hb dX6_isReached_13 rfl (lv_at hl 0 rfl) ?_
  refine gf_X6_far hx hb hts hown hK hH (k := 65) (by omega) eM6 dX6_isReached_14 ?_
  refine lv_iload_n hx hb dX6_isReached_17 rfl (lv_at hl 1 rfl) ?_
  obtain ⟨dz, hdz⟩ : ∃ z : Int, oDist (oOrW n w (-1) 4) 0 t = z := ⟨_, rfl⟩
  have hdb : -1 ≤ dz ∧ dz ≤ 200 := by rw [← hdz]; exact oDist_b (by omega) _
  refine m_iald hx hb hK hH (k := 73) (by omega) e73 (t) (by omega) (by omega) (by decide) dX6_isReached_18 ?_
  refine m_topI (dz) ((hF5 t ht).trans hdz) ?_
  refine lv_iload_n hx hb dX6_isReached_19 rfl (lv_at hl 2 rfl) ?_
  refine m_pSb hx hb hml hown hts hK hH hl (rest := []) cw_X6_87 rfl (c6_isLaid hA dz ((mo9 : Nat) : Int) (by first | assumption | omega) (by first | assumption | omega) ) ⟨Nat.le_of_ble_eq_true rfl, Nat.le_of_ble_eq_true rfl⟩ ⟨Nat.le_of_ble_eq_true rfl, Nat.le_of_ble_eq_true rfl⟩ rfl rfl (Nat.le_of_ble_eq_true rfl) dX6_isReached_20 (fun hz H locs hH => ?_) (fun hz H locs hH => ?_)
  · exact m_iret hx hb hlk hrt hH m_z1 dX6_isReached_23 ⟨s5, F5, R5, congrArg oI ((if_pos ⟨ht, by rw [hdz]; exact hz⟩).symm), e72, e73, e74, hf⟩
  · exact m_iret hx hb hlk hrt hH m_z0 dX6_isReached_23 ⟨s5, F5, R5, congrArg oI ((if_neg (fun q => hz (by have := q.2; rw [hdz] at this; exact this))).symm), e72, e73, e74, hf⟩
set_option maxHeartbeats 4000000 in
set_option maxRecDepth 100000 in
theorem c6_why {l : Launch} {D : va_G} {cT : Nat → ClassId} {N b0 : Nat} {ad : Nat → Nat} (hA : oAd b0 N ad) {σ : Nat → va_E} (t : Int) (si ac6 spo ou6 : Nat) (rf : Int) (n a g : Nat) (f : Nat → Int) (sz w : Nat → Nat) (s : Nat → Nat) (F R : Nat → Int) (hN : 76 ≤ N) (hwf : oWf n sz w) (hag : oAg a g) (hp : oRS f n a g sz w) (hbt : -2147483648 ≤ t ∧ t < 2147483648) (eM6 : σ (65) = .inr (6, [.int (oI (rf)), .ref (ad (66)), .int (oI (((si : Nat) : Int))), .ref (ad (67)), .ref (ad (68)), .ref (ad (69)), .int (oI (((ac6 : Nat) : Int))), .ref (ad (70)), .ref (ad (71)), .ref (ad (72)), .ref (ad (73)), .ref (ad (74)), .int (oI (((spo : Nat) : Int))), .int (oI (((ou6 : Nat) : Int)))])) (e67 : σ (67) = oAI cT 171 f) (e72 : σ (72) = oAN cT 41 s) (e73 : σ (73) = oAI cT 201 F) (e74 : σ (74) = oAI cT 201 R) :
    oCi l D cT N ad b0 yX6_why cX6_why 2 (some .int) 3 67 [.ref (ad (65)), .int (oI (t))] σ (fun rr uu => ∃ v9 : Int, ∃ r9 : Int, ∃ s2 : Nat → Nat, ∃ F2 : Nat → Int, ∃ R2 : Nat → Int, rr = oI (v9) ∧ (((0 ≤ t ∧ t ≤ 200) ∧ r9 = 0 ∧ v9 = oWhy t.toNat n a (oOrW n w (-1) 4)) ∨ (¬ (0 ≤ t ∧ t ≤ 200) ∧ r9 = 1)) ∧ uu (65) = .inr (6, [.int (oI (r9)), .ref (ad (66)), .int (oI (((si : Nat) : Int))), .ref (ad (67)), .ref (ad (68)), .ref (ad (69)), .int (oI (((ac6 : Nat) : Int))), .ref (ad (70)), .ref (ad (71)), .ref (ad (72)), .ref (ad (73)), .ref (ad (74)), .int (oI (((spo : Nat) : Int))), .int (oI (((ou6 : Nat) : Int)))]) ∧ uu (72) = oAN cT 41 s2 ∧ uu (73) = oAI cT 201 F2 ∧ uu (74) = oAI cT 201 R2 ∧ (∀ q : Nat, q ≠ 65 → q ≠ 72 → q ≠ 73 → q ≠ 74 → uu q = σ q)) := by
  refine m_start (cc := cX6_why) (by decide) (Nat.le_of_ble_eq_true rfl) rfl ?_
  intro Pp Ee Ss Mm Bb Me Cc Ar ls hx hb hml hown hlk hrt hts hK hH hl
  have hown : Ss.vm.findClass RX6 = some Mm.cls := hown
  have hag1 := hag.1
  have hn := hwf.1
  have hl : lv_has ls 2 [(0, .ref (ad (65))), (1, .int (oI (t)))] := hl
  have hf : ∀ q : Nat, q ≠ 65 → q ≠ 72 → q ≠ 73 → q ≠ 74 → σ q = σ q := fun q _ _ _ _ => rfl
  refine lv_aload_n hx hb dX6_why_0 rfl (lv_at hl 0 rfl) ?_
  refine lv_iload_n hx hb dX6_why_1 rfl (lv_at hl 1 rfl) ?_
  refine m_i2l hx hb dX6_why_2 (by omega) ?_
  refine m_lconst 0 hx hb dX6_why_3 rfl ?_
  refine lv_ldc2 (v := 200) hx hb hown (hts _ kl_X6_78) dX6_why_4 ?_
  refine m_J2L 200 (by decide +kernel) ?_
  refine m_pSb hx hb hml hown hts hK hH hl (rest := [.ref (ad (65))]) cw_X6_46 rfl (c6_in hA t 0 200 (by first | assumption | omega) (by first | assumption | omega) (by first | assumption | omega) ) ⟨Nat.le_of_ble_eq_true rfl, Nat.le_of_ble_eq_true rfl⟩ ⟨Nat.le_of_ble_eq_true rfl, Nat.le_of_ble_eq_true rfl⟩ rfl rfl (Nat.le_of_ble_eq_true rfl) dX6_why_7 (fun ht9 H locs hH => ?_) (fun ht9 H locs hH => ?_)
  · refine m_if_eq 17 hx hb dX6_why_10 (by decide) (by omega) (fun h_1 => absurd h_1 (by omega)) (fun h_1 => ?_)
    refine m_iconst 0 hx hb dX6_why_13 rfl ?_
    refine lv_goto (tgt := 18) hx hb dX6_why_14 (by decide) ?_
    refine m_callVi hx hb hml hown hts hK hH hl (rest := []) cw_X6_111 (c6_ref0 hA si ac6 spo ou6 rf (by first | assumption | omega) eM6) ⟨Nat.le_of_ble_eq_true rfl, Nat.le_of_ble_eq_true rfl⟩ ⟨Nat.le_of_ble_eq_true rfl, Nat.le_of_ble_eq_true rfl⟩ rfl (k := 65) (by omega) eM6 rfl rfl (Nat.le_of_ble_eq_true rfl) dX6_why_18 (fun r_5 σ_2 H locs hp_3 hH => ?_)
    obtain ⟨rfl, eM6, hq_4⟩ := hp_3
    have e67 : σ_2 (67) = oAI cT 171 f := (hq_4 _ (by decide)).trans e67
    have e72 : σ_2 (72) = oAN cT 41 s := (hq_4 _ (by decide)).trans e72
    have e73 : σ_2 (73) = oAI cT 201 F := (hq_4 _ (by decide)).trans e73
    have e74 : σ_2 (74) = oAI cT 201 R := (hq_4 _ (by decide)).trans e74
    have hf : ∀ q : Nat, q ≠ 65 → q ≠ 72 → q ≠ 73 → q ≠ 74 → σ_2 q = σ q := fun q n0 n1 n2 n3 => (hq_4 q n0).trans (hf q n0 n1 n2 n3)
    refine m_if_eq 26 hx hb dX6_why_21 (by decide) (by omega) (fun h_6 => ?_) (fun h_6 => absurd h_6 (by omega))
    refine lv_aload_n hx hb dX6_why_26 rfl (lv_at hl 0 rfl) ?_
    refine lv_aload_n hx hb dX6_why_27 rfl (lv_at hl 0 rfl) ?_
    refine gf_X6_now hx hb hts hown hK hH (k := 65) (by omega) eM6 dX6_why_28 ?_
    refine m_callVv hx hb hml hown hts hK hH hl (rest := []) cw_X6_80 (c6_findSpans hA si ac6 spo ou6 0 67 n a g f sz w s (by first | assumption | omega) (by first | assumption | omega) (by first | assumption | omega) (by first | assumption | omega) eM6 e67 e72) ⟨Nat.le_of_ble_eq_true rfl, Nat.le_of_ble_eq_true rfl⟩ ⟨Nat.le_of_ble_eq_true rfl, Nat.le_of_ble_eq_true rfl⟩ rfl (k := 65) (by omega) eM6 rfl rfl (Nat.le_of_ble_eq_true rfl) dX6_why_31 (fun σ_7 H locs hp_8 hH => ?_)
    obtain ⟨s5, hs5, hs50, e72, hq_9⟩ := hp_8
    have eM6 : σ_7 (65) = .inr (6, [.int (oI (0)), .ref (ad (66)), .int (oI (((si : Nat) : Int))), .ref (ad (67)), .ref (ad (68)), .ref (ad (69)), .int (oI (((ac6 : Nat) : Int))), .ref (ad (70)), .ref (ad (71)), .ref (ad (72)), .ref (ad (73)), .ref (ad (74)), .int (oI (((spo : Nat) : Int))), .int (oI (((ou6 : Nat) : Int)))]) := (hq_9 _ (by decide)).trans eM6
    have e67 : σ_7 (67) = oAI cT 171 f := (hq_9 _ (by decide)).trans e67
    have e73 : σ_7 (73) = oAI cT 201 F := (hq_9 _ (by decide)).trans e73
    have e74 : σ_7 (74) = oAI cT 201 R := (hq_9 _ (by decide)).trans e74
    have hf : ∀ q : Nat, q ≠ 65 → q ≠ 72 → q ≠ 73 → q ≠ 74 → σ_7 q = σ q := fun q n0 n1 n2 n3 => (hq_9 q n1).trans (hf q n0 n1 n2 n3)
    have hsq := oSq_of hwf hs5 hs50
    refine lv_aload_n hx hb dX6_why_34 rfl (lv_at hl 0 rfl) ?_
    refine m_iconst 0 hx hb dX6_why_35 rfl ?_
    refine m_callVv hx hb hml hown hts hK hH hl (rest := []) cw_X6_83 (c6_findFar hA si ac6 spo ou6 0 0 (oOrW n w (-1) 4) s5 F R (by first | assumption | omega) (by first | assumption | omega) (by first | assumption | omega) eM6 e72 e73 e74) ⟨Nat.le_of_ble_eq_true rfl, Nat.le_of_ble_eq_true rfl⟩ ⟨Nat.le_of_ble_eq_true rfl, Nat.le_of_ble_eq_true rfl⟩ rfl (k := 65) (by omega) eM6 rfl rfl (Nat.le_of_ble_eq_true rfl) dX6_why_36 (fun σ_11 H locs hp_12 hH => ?_)
    obtain ⟨F5, R5, hF5, e73, e74, hq_13⟩ := hp_12
    have eM6 : σ_11 (65) = .inr (6, [.int (oI (0)), .ref (ad (66)), .int (oI (((si : Nat) : Int))), .ref (ad (67)), .ref (ad (68)), .ref (ad (69)), .int (oI (((ac6 : Nat) : Int))), .ref (ad (70)), .ref (ad (71)), .ref (ad (72)), .ref (ad (73)), .ref (ad (74)), .int (oI (((spo : Nat) : Int))), .int (oI (((ou6 : Nat) : Int)))]) := (hq_13 _ (by decide) (by decide)).trans eM6
    have e67 : σ_11 (67) = oAI cT 171 f := (hq_13 _ (by decide) (by decide)).trans e67
    have e72 : σ_11 (72) = oAN cT 41 s5 := (hq_13 _ (by decide) (by decide)).trans e72
    have hf : ∀ q : Nat, q ≠ 65 → q ≠ 72 → q ≠ 73 → q ≠ 74 → σ_11 q = σ q := fun q n0 n1 n2 n3 => (hq_13 q n2 n3).trans (hf q n0 n1 n2 n3)
    refine lv_aload_n hx hb dX6_why_39 rfl (lv_at hl 0 rfl) ?_
    refine gf_X6_far hx hb hts hown hK hH (k := 65) (by omega) eM6 dX6_why_40 ?_
    refine lv_iload_n hx hb dX6_why_43 rfl (lv_at hl 1 rfl) ?_
    obtain ⟨dz, hdz⟩ : ∃ z : Int, oDist (oOrW n w (-1) 4) 0 t.toNat = z := ⟨_, rfl⟩
    have hdb : -1 ≤ dz ∧ dz ≤ 200 := by rw [← hdz]; exact oDist_b (by omega) _
    refine m_iald hx hb hK hH (k := 73) (by omega) e73 (t.toNat) (by omega) (by omega) (by decide) dX6_why_44 ?_
    refine m_topI (dz) ((hF5 t.toNat (by omega)).trans hdz) ?_
    refine lv_aload_n hx hb dX6_why_45 rfl (lv_at hl 0 rfl) ?_
    refine gf_X6_now hx hb hts hown hK hH (k := 65) (by omega) eM6 dX6_why_46 ?_
    refine m_iconst 1 hx hb dX6_why_49 rfl ?_
    refine m_iald hx hb hK hH (k := 67) (by omega) e67 (1) (by omega) (by omega) (by decide) dX6_why_50 ?_
    refine m_topI (((a : Nat) : Int)) (hp.2.1) ?_
    refine m_pSb hx hb hml hown hts hK hH hl (rest := []) cw_X6_87 rfl (c6_isLaid hA dz ((a : Nat) : Int) (by first | assumption | omega) (by first | assumption | omega) ) ⟨Nat.le_of_ble_eq_true rfl, Nat.le_of_ble_eq_true rfl⟩ ⟨Nat.le_of_ble_eq_true rfl, Nat.le_of_ble_eq_true rfl⟩ rfl rfl (Nat.le_of_ble_eq_true rfl) dX6_why_51 (fun hz H locs hH => ?_) (fun hz H locs hH => ?_)
    · refine m_if_eq 59 hx hb dX6_why_54 (by decide) (by omega) (fun h_15 => absurd h_15 (by omega)) (fun h_15 => ?_)
      refine m_iconst 0 hx hb dX6_why_57 rfl ?_
      exact m_iret hx hb hlk hrt hH (m_ni _) dX6_why_58 ⟨0, 0, s5, F5, R5, rfl, (Or.inl ⟨by omega, rfl, by rw [oWhy_0 hdz hz]⟩), eM6, e72, e73, e74, hf⟩
    · have ht0 : ¬ t.toNat = 0 := fun q => hz (by rw [q, oDist_self] at hdz; omega)
      refine m_if_eq 59 hx hb dX6_why_54 (by decide) (by omega) (fun h_16 => ?_) (fun h_16 => absurd h_16 (by omega))
      refine lv_aload_n hx hb dX6_why_59 rfl (lv_at hl 0 rfl) ?_
      refine gf_X6_now hx hb hts hown hK hH (k := 65) (by omega) eM6 dX6_why_60 ?_
      refine m_iconst 0 hx hb dX6_why_63 rfl ?_
      refine m_iald hx hb hK hH (k := 67) (by omega) e67 (0) (by omega) (by omega) (by decide) dX6_why_64 ?_
      refine m_topI (((n : Nat) : Int)) (hp.1) ?_
      refine m_if_ne 72 hx hb dX6_why_65 (by decide) (by omega) (fun h_17 => ?_) (fun h_17 => ?_)
      · have hgp := oGc_pos hwf (by omega)
        obtain ⟨G9, hG9⟩ : ∃ y : Nat, oGc (oOrW n w (-1) 4) 40 = y := ⟨_, rfl⟩
        have hG1 : 1 ≤ G9 := by rw [← hG9]; exact hgp
        have hG40 : G9 ≤ 40 := by rw [← hG9]; exact oGc_le _ 40
        refine lv_iload_n hx hb dX6_why_72 rfl (lv_at hl 1 rfl) ?_
        refine m_topI (((t.toNat : Nat) : Int)) (by omega) ?_
        refine lv_aload_n hx hb dX6_why_73 rfl (lv_at hl 0 rfl) ?_
        refine m_pVi hx hb hml hown hts hK hH hl (rest := [.int (oI (((t.toNat : Nat) : Int)))]) cw_X6_182 (c6_divisor hA si ac6 spo ou6 0 s5 (oOrW n w (-1) 4) (by first | assumption | omega) (by first | assumption | omega) eM6 e72) ⟨Nat.le_of_ble_eq_true rfl, Nat.le_of_ble_eq_true rfl⟩ ⟨Nat.le_of_ble_eq_true rfl, Nat.le_of_ble_eq_true rfl⟩ rfl (k := 65) (by omega) eM6 rfl rfl (Nat.le_of_ble_eq_true rfl) dX6_why_74 (fun H locs hH => ?_)
        refine m_topI (((G9 : Nat) : Int)) (by rw [hG9]) ?_
        refine m_irem (((t.toNat % G9 : Nat) : Int)) hx hb dX6_why_77 (by omega) (by omega) (by first | rfl | omega) ?_
        have hmlt : t.toNat % G9 < G9 := Nat.mod_lt _ hG1
        refine m_if_eq 85 hx hb dX6_why_78 (by decide) (by omega) (fun h_18 => ?_) (fun h_18 => ?_)
        · refine lv_aload_n hx hb dX6_why_85 rfl (lv_at hl 0 rfl) ?_
          refine gf_X6_far hx hb hts hown hK hH (k := 65) (by omega) eM6 dX6_why_86 ?_
          refine lv_iload_n hx hb dX6_why_89 rfl (lv_at hl 1 rfl) ?_
          refine m_iald hx hb hK hH (k := 73) (by omega) e73 (t.toNat) (by omega) (by omega) (by decide) dX6_why_90 ?_
          refine m_topI (dz) ((hF5 t.toNat (by omega)).trans hdz) ?_
          refine m_iconst (-1) hx hb dX6_why_91 rfl ?_
          refine m_icmp_eq 99 hx hb dX6_why_92 (by decide) (by omega) (by omega) (fun h_19 => ?_) (fun h_19 => ?_)
          · refine m_iconst 4 hx hb dX6_why_99 rfl ?_
            exact m_iret hx hb hlk hrt hH (m_ni _) dX6_why_100 ⟨4, 0, s5, F5, R5, rfl, (Or.inl ⟨by omega, rfl, by unfold oWhy; rw [if_neg ht0, if_neg (by omega), if_neg (by rw [hG9]; omega), if_pos (by rw [hdz]; omega)]⟩), eM6, e72, e73, e74, hf⟩
          · refine m_iconst 3 hx hb dX6_why_95 rfl ?_
            refine lv_goto (tgt := 100) hx hb dX6_why_96 (by decide) ?_
            exact m_iret hx hb hlk hrt hH (m_ni _) dX6_why_100 ⟨3, 0, s5, F5, R5, rfl, (Or.inl ⟨by omega, rfl, by unfold oWhy; rw [if_neg ht0, if_neg (by omega), if_neg (by rw [hG9]; omega), if_neg (by rw [hdz]; omega), if_pos (by rw [hdz]; omega)]⟩), eM6, e72, e73, e74, hf⟩
        · refine m_iconst 2 hx hb dX6_why_81 rfl ?_
          refine lv_goto (tgt := 100) hx hb dX6_why_82 (by decide) ?_
          exact m_iret hx hb hlk hrt hH (m_ni _) dX6_why_100 ⟨2, 0, s5, F5, R5, rfl, (Or.inl ⟨by omega, rfl, by unfold oWhy; rw [if_neg ht0, if_neg (by omega), if_pos (by rw [hG9]; omega)]⟩), eM6, e72, e73, e74, hf⟩
      · refine m_iconst 1 hx hb dX6_why_68 rfl ?_
        refine lv_goto (tgt := 100) hx hb dX6_why_69 (by decide) ?_
        exact m_iret hx hb hlk hrt hH (m_ni _) dX6_why_100 ⟨1, 0, s5, F5, R5, rfl, (Or.inl ⟨by omega, rfl, by unfold oWhy; rw [if_neg ht0, if_pos (by omega)]⟩), eM6, e72, e73, e74, hf⟩
  · refine m_if_eq 17 hx hb dX6_why_10 (by decide) (by omega) (fun h_20 => ?_) (fun h_20 => absurd h_20 (by omega))
    refine m_iconst 1 hx hb dX6_why_17 rfl ?_
    refine m_callVi hx hb hml hown hts hK hH hl (rest := []) cw_X6_111 (c6_ref1 hA 1 si ac6 spo ou6 rf (by first | assumption | omega) (by first | assumption | omega) eM6) ⟨Nat.le_of_ble_eq_true rfl, Nat.le_of_ble_eq_true rfl⟩ ⟨Nat.le_of_ble_eq_true rfl, Nat.le_of_ble_eq_true rfl⟩ rfl (k := 65) (by omega) eM6 rfl rfl (Nat.le_of_ble_eq_true rfl) dX6_why_18 (fun r_24 σ_21 H locs hp_22 hH => ?_)
    obtain ⟨rfl, eM6, hq_23⟩ := hp_22
    have e67 : σ_21 (67) = oAI cT 171 f := (hq_23 _ (by decide)).trans e67
    have e72 : σ_21 (72) = oAN cT 41 s := (hq_23 _ (by decide)).trans e72
    have e73 : σ_21 (73) = oAI cT 201 F := (hq_23 _ (by decide)).trans e73
    have e74 : σ_21 (74) = oAI cT 201 R := (hq_23 _ (by decide)).trans e74
    have hf : ∀ q : Nat, q ≠ 65 → q ≠ 72 → q ≠ 73 → q ≠ 74 → σ_21 q = σ q := fun q n0 n1 n2 n3 => (hq_23 q n0).trans (hf q n0 n1 n2 n3)
    refine m_if_eq 26 hx hb dX6_why_21 (by decide) (by omega) (fun h_25 => absurd h_25 (by omega)) (fun h_25 => ?_)
    refine m_iconst 0 hx hb dX6_why_24 rfl ?_
    exact m_iret hx hb hlk hrt hH (m_ni _) dX6_why_25 ⟨0, 1, s, F, R, rfl, (Or.inr ⟨by omega, rfl⟩), eM6, e72, e73, e74, hf⟩
