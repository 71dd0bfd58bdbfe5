theorem oD_nat {sp a x : Nat} (h : x ≤ 200) : oD sp a ((x : Nat) : Int) = oDist sp a x := by
  unfold oD
  rw [if_pos (by omega)]
  rfl
theorem oD_of {sp a : Nat} {x : Int} (h : 0 ≤ x ∧ x ≤ 200) : oD sp a x = oDist sp a x.toNat := if_pos h
theorem oD_out {sp a : Nat} {x : Int} (h : ¬ (0 ≤ x ∧ x ≤ 200)) : oD sp a x = -1 := if_neg h
theorem oLn_0 (r k : Nat) (f e : Int) : oLn 0 r k f e = ((r : Nat) : Int) := rfl
theorem oLn_1 (r k : Nat) (f e : Int) : oLn 1 r k f e = ((k : Nat) : Int) := rfl
theorem oLn_2 (r k : Nat) (f e : Int) : oLn 2 r k f e = f := rfl
theorem oLn_3 (r k : Nat) (f e : Int) : oLn 3 r k f e = e := rfl
theorem oLyR_one {n : Nat} {w : Nat → Nat} {D : Int → Int} {al : Int} : ∀ (i : Nat) {r k r2 k2 : Nat} {f e f2 e2 : Int}, oLyR n w D al i r k f e → oLyR n w D al i r2 k2 f2 e2 → e = e2 ∧ (1 ≤ i → r = r2 ∧ k = k2 ∧ f = f2)
  | 0, r, k, r2, k2, f, e, f2, e2, h, h2 => ⟨by rw [show e = 0 from h, show e2 = 0 from h2], fun q => by omega⟩
  | i + 1, r, k, r2, k2, f, e, f2, e2, h, h2 => by
    obtain ⟨r', k', f', e', a1, a2⟩ := h
    obtain ⟨r3, k3, f3, e3, b1, b2⟩ := h2
    obtain ⟨c1, _⟩ := oLyR_one i a1 b1
    subst c1
    obtain ⟨d1, d2, d3, d4⟩ := oNx_one a2 b2
    exact ⟨d4, fun _ => ⟨d1, d2, d3⟩⟩
set_option maxHeartbeats 4000000 in
set_option maxRecDepth 100000 in
theorem c6_nextLaying {l : Launch} {D : va_G} {cT : Nat → ClassId} {N b0 : Nat} {ad : Nat → Nat} (hA : oAd b0 N ad) {σ : Nat → va_E} (fr aa : Nat) (lt : Int) (si ac6 spo ou6 : Nat) (rf : Int) (n a g : Nat) (f : Nat → Int) (sz w : Nat → Nat) (F : Nat → Int) (hN : 76 ≤ N) (hwf : oWf n sz w) (hag : oAg a g) (hp : oRS f n a g sz w) (haa : aa ≤ 200) (hfr : fr ≤ 200) (hlt0 : 0 ≤ lt ∧ lt ≤ 200) (hF : ∀ t : Nat, t ≤ 200 → F t = oDist (oOrW n w (-1) 4) aa t) (hlt : oDist (oOrW n w (-1) 4) aa fr = lt + 1) (hex : ∃ r k : Nat, r < n ∧ k < oCk n w r ∧ ((oD (oOrW n w (-1) 4) aa) (((fr : Nat) : Int) + oBy n w r k) = lt ∨ (oD (oOrW n w (-1) 4) aa) (((fr : Nat) : Int) - oBy n w r k) = lt)) (eM6 : σ (65) = .inr (6, [.int (oI (rf)), .ref (ad (66)), .int (oI (((si : Nat) : Int))), .ref (ad (67)), .ref (ad (68)), .ref (ad (69)), .int (oI (((ac6 : Nat) : Int))), .ref (ad (70)), .ref (ad (71)), .ref (ad (72)), .ref (ad (73)), .ref (ad (74)), .int (oI (((spo : Nat) : Int))), .int (oI (((ou6 : Nat) : Int)))])) (e67 : σ (67) = oAI cT 171 f) (e73 : σ (73) = oAI cT 201 F) :
    oCi l D cT N ad b0 yX6_nextLaying cX6_nextLaying 5 (some .int) 3 66 [.ref (ad (65)), .int (oI (((fr : Nat) : Int)))] σ (fun rr uu => ∃ cd : Int, ∃ r2 : Nat, ∃ k2 : Nat, ∃ fd : Int, ∃ ed : Int, rr = oI (cd) ∧ (cd = 20000 * ((r2 : Nat) : Int) + 2 * ((k2 : Nat) : Int) + fd) ∧ (fd = 0 ∨ fd = 1) ∧ (r2 < n ∧ k2 ≤ 2016) ∧ (oEq2 (k2 < oSp (pcnt (w r2)))) ∧ (0 ≤ ed ∧ ed ≤ 200) ∧ (oNx n w (oD (oOrW n w (-1) 4) aa) ((fr : Nat) : Int) lt r2 k2 fd ed) ∧ (∀ q : Nat, uu q = σ q)) := by
  refine m_start (cc := cX6_nextLaying) (by decide) (Nat.le_of_ble_eq_true rfl) rfl ?_
  intro Pp Ee Ss Mm Bb Me Cc Ar ls hx hb hml hown hlk hrt hts hK hH hl
  have hown : Ss.vm.findClass RX6 = some Mm.cls := hown
  have hn := hwf.1
  have hw41 := oRow_lt hwf
  have hl : lv_has ls 5 [(0, .ref (ad (65))), (1, .int (oI (((fr : Nat) : Int))))] := hl
  refine m_iconst 0 hx hb dX6_nextLaying_0 rfl ?_
  refine lv_istore_n (lv' := [(2, .int (oI (0))), (0, .ref (ad (65))), (1, .int (oI (((fr : Nat) : Int))))]) hx hb dX6_nextLaying_1 rfl hl (by decide) rfl (fun ls hl => ?_)
  have L2 : ∀ (fu : Nat) (r : Nat), (5 - r < fu) → (r ≤ n) → (oNo n w (oD (oOrW n w (-1) 4) aa) ((fr : Nat) : Int) lt r 0) → ∀ (H : Heap) (locs : List Loc), oH b0 D N ad Ss.heap σ H locs → ∀ ls : Array Slot, lv_has ls 5 [(0, .ref (ad (65))), (1, .int (oI (((fr : Nat) : Int)))), (2, .int (oI (((r : Nat) : Int))))] → W Pp l Ee { frames := 3, cells := 0, slots := 0, locals := 66 } Ss Mm Ar Bb Me Cc H locs 0 0 (MQ Bb (va_Qi (fun rr uu => ∃ cd : Int, ∃ r2 : Nat, ∃ k2 : Nat, ∃ fd : Int, ∃ ed : Int, rr = oI (cd) ∧ (cd = 20000 * ((r2 : Nat) : Int) + 2 * ((k2 : Nat) : Int) + fd) ∧ (fd = 0 ∨ fd = 1) ∧ (r2 < n ∧ k2 ≤ 2016) ∧ (oEq2 (k2 < oSp (pcnt (w r2)))) ∧ (0 ≤ ed ∧ ed ≤ 200) ∧ (oNx n w (oD (oOrW n w (-1) 4) aa) ((fr : Nat) : Int) lt r2 k2 fd ed) ∧ (∀ q : Nat, uu q = σ q)) (oV D N ad) (fun q => b0 ≤ q)) Ar Ss 0 0 (fun q => b0 ≤ q)) (F0 Mm 2 ls []) := by
    intro fu2
    induction fu2 with
    | zero =>
      intro r hm2
      exact absurd hm2 (Nat.not_lt_zero _)
    | succ fu2 ih2 =>
      intro r hm2 hr hno H locs hH ls hl
      refine lv_iload_n hx hb dX6_nextLaying_2 rfl (lv_at hl 2 rfl) ?_
      refine lv_aload_n hx hb dX6_nextLaying_3 rfl (lv_at hl 0 rfl) ?_
      refine gf_X6_now hx hb hts hown hK hH (k := 65) (by omega) eM6 dX6_nextLaying_4 ?_
      refine m_iconst 0 hx hb dX6_nextLaying_7 rfl ?_
      refine m_iald hx hb hK hH (k := 67) (by omega) e67 (0) (by omega) (by omega) (by decide) dX6_nextLaying_8 ?_
      refine m_topI (((n : Nat) : Int)) (hp.1) ?_
      refine m_icmp_ge 151 hx hb dX6_nextLaying_9 (by decide) (by omega) (by omega) (fun h_1 => ?_) (fun h_1 => ?_)
      · exact absurd hex (oNo_all hno (by omega))
      · refine m_iconst 0 hx hb dX6_nextLaying_12 rfl ?_
        refine lv_istore_n (lv' := [(3, .int (oI (0))), (0, .ref (ad (65))), (1, .int (oI (((fr : Nat) : Int)))), (2, .int (oI (((r : Nat) : Int))))]) hx hb dX6_nextLaying_13 rfl hl (by decide) rfl (fun ls hl => ?_)
        have hs9 := hwf.2 r (by omega)
        obtain ⟨K9, hK9⟩ : ∃ y : Nat, oSp (pcnt (w r)) = y := ⟨_, rfl⟩
        have hKb : K9 ≤ 2016 := by rw [← hK9]; exact oSp_le (pcnt_le _)
        have eCk : oCk n w r = K9 := by unfold oCk; rw [oRow_in (by omega)]; exact hK9
        have L14 : ∀ (fu : Nat) (k : Nat), (3000 - k < fu) → (k ≤ K9) → (oNo n w (oD (oOrW n w (-1) 4) aa) ((fr : Nat) : Int) lt r k) → ∀ (H : Heap) (locs : List Loc), oH b0 D N ad Ss.heap σ H locs → ∀ ls : Array Slot, lv_has ls 5 [(0, .ref (ad (65))), (1, .int (oI (((fr : Nat) : Int)))), (2, .int (oI (((r : Nat) : Int)))), (3, .int (oI (((k : Nat) : Int))))] → W Pp l Ee { frames := 3, cells := 0, slots := 0, locals := 66 } Ss Mm Ar Bb Me Cc H locs 0 0 (MQ Bb (va_Qi (fun rr uu => ∃ cd : Int, ∃ r2 : Nat, ∃ k2 : Nat, ∃ fd : Int, ∃ ed : Int, rr = oI (cd) ∧ (cd = 20000 * ((r2 : Nat) : Int) + 2 * ((k2 : Nat) : Int) + fd) ∧ (fd = 0 ∨ fd = 1) ∧ (r2 < n ∧ k2 ≤ 2016) ∧ (oEq2 (k2 < oSp (pcnt (w r2)))) ∧ (0 ≤ ed ∧ ed ≤ 200) ∧ (oNx n w (oD (oOrW n w (-1) 4) aa) ((fr : Nat) : Int) lt r2 k2 fd ed) ∧ (∀ q : Nat, uu q = σ q)) (oV D N ad) (fun q => b0 ≤ q)) Ar Ss 0 0 (fun q => b0 ≤ q)) (F0 Mm 14 ls []) := by
          intro fu14
          induction fu14 with
          | zero =>
            intro k hm14
            exact absurd hm14 (Nat.not_lt_zero _)
          | succ fu14 ih14 =>
            intro k hm14 hkk hno H locs hH ls hl
            refine lv_iload_n hx hb dX6_nextLaying_14 rfl (lv_at hl 3 rfl) ?_
            refine lv_aload_n hx hb dX6_nextLaying_15 rfl (lv_at hl 0 rfl) ?_
            refine gf_X6_now hx hb hts hown hK hH (k := 65) (by omega) eM6 dX6_nextLaying_16 ?_
            refine lv_iload_n hx hb dX6_nextLaying_19 rfl (lv_at hl 2 rfl) ?_
            refine m_pSi hx hb hml hown hts hK hH hl (rest := [.int (oI (((k : Nat) : Int)))]) cw_X6_175 rfl (c6_spansOf hA 67 n a g f sz w r (by first | assumption | omega) (by first | assumption | omega) (by first | assumption | omega) (by first | assumption | omega) e67) ⟨Nat.le_of_ble_eq_true rfl, Nat.le_of_ble_eq_true rfl⟩ ⟨Nat.le_of_ble_eq_true rfl, Nat.le_of_ble_eq_true rfl⟩ rfl rfl (Nat.le_of_ble_eq_true rfl) dX6_nextLaying_20 (fun H locs hH => ?_)
            refine m_topI (((K9 : Nat) : Int)) (by rw [hK9]) ?_
            refine m_icmp_ge 145 hx hb dX6_nextLaying_23 (by decide) (by omega) (by omega) (fun h_2 => ?_) (fun h_2 => ?_)
            · refine m_iinc (((r : Nat) : Int) + 1) [(2, .int (oI (((r : Nat) : Int) + 1))), (0, .ref (ad (65))), (1, .int (oI (((fr : Nat) : Int)))), (3, .int (oI (((k : Nat) : Int))))] hx hb dX6_nextLaying_145 hl (j := 2) rfl (by omega) (by decide) rfl (fun ls hl => ?_)
              refine lv_goto (tgt := 2) hx hb dX6_nextLaying_148 (by decide) ?_
              exact ih2 (r + 1) (by omega) (by first | assumption | omega) (oNo_r hw41 hno (by rw [oRk_41 (hw41 _), show oSp (pcnt (oRow n w ((r : Nat) : Int))) = K9 from eCk]; omega)) _ _ hH ls (lv_sub hl [1, 2, 0] rfl)
            · obtain ⟨lo9, hlo9⟩ : ∃ y : Nat, oEq (oLow (w r) k) y := ⟨_, Eq.refl _⟩
              obtain ⟨hi9, hhi9⟩ : ∃ y : Nat, oEq (oHigh (w r) k) y := ⟨_, Eq.refl _⟩
              have hlh := oLH_lt (hwf.row (r := r) (by omega)) (k := k) (by rw [oRk_41 (hwf.row (by omega)), hK9]; omega)
              rw [show oLow (w r) k = lo9 from hlo9, show oHigh (w r) k = hi9 from hhi9] at hlh
              have eBy : oBy n w r k = ((hi9 : Nat) : Int) - ((lo9 : Nat) : Int) := by unfold oBy; rw [oRow_in (by omega), Int.toNat_natCast, show oLow (w r) k = lo9 from hlo9, show oHigh (w r) k = hi9 from hhi9]
              refine lv_aload_n hx hb dX6_nextLaying_26 rfl (lv_at hl 0 rfl) ?_
              refine gf_X6_now hx hb hts hown hK hH (k := 65) (by omega) eM6 dX6_nextLaying_27 ?_
              refine lv_iload_n hx hb dX6_nextLaying_30 rfl (lv_at hl 2 rfl) ?_
              refine lv_iload_n hx hb dX6_nextLaying_31 rfl (lv_at hl 3 rfl) ?_
              refine m_pSi hx hb hml hown hts hK hH hl (rest := []) cw_X6_195 rfl (c6_highOf hA 67 n a g f sz w r k (by first | assumption | omega) (by first | assumption | omega) (by first | assumption | omega) (by first | assumption | omega) (by first | assumption | omega) (show k < oSp (pcnt (w r)) from by rw [hK9]; omega) e67) ⟨Nat.le_of_ble_eq_true rfl, Nat.le_of_ble_eq_true rfl⟩ ⟨Nat.le_of_ble_eq_true rfl, Nat.le_of_ble_eq_true rfl⟩ rfl rfl (Nat.le_of_ble_eq_true rfl) dX6_nextLaying_32 (fun H locs hH => ?_)
              refine m_topI (((hi9 : Nat) : Int)) (by rw [show oHigh (w r) k = hi9 from hhi9]) ?_
              refine lv_aload_n hx hb dX6_nextLaying_35 rfl (lv_at hl 0 rfl) ?_
              refine gf_X6_now hx hb hts hown hK hH (k := 65) (by omega) eM6 dX6_nextLaying_36 ?_
              refine lv_iload_n hx hb dX6_nextLaying_39 rfl (lv_at hl 2 rfl) ?_
              refine lv_iload_n hx hb dX6_nextLaying_40 rfl (lv_at hl 3 rfl) ?_
              refine m_pSi hx hb hml hown hts hK hH hl (rest := [.int (oI (((hi9 : Nat) : Int)))]) cw_X6_192 rfl (c6_lowOf hA 67 n a g f sz w r k (by first | assumption | omega) (by first | assumption | omega) (by first | assumption | omega) (by first | assumption | omega) (by first | assumption | omega) (show k < oSp (pcnt (w r)) from by rw [hK9]; omega) e67) ⟨Nat.le_of_ble_eq_true rfl, Nat.le_of_ble_eq_true rfl⟩ ⟨Nat.le_of_ble_eq_true rfl, Nat.le_of_ble_eq_true rfl⟩ rfl rfl (Nat.le_of_ble_eq_true rfl) dX6_nextLaying_41 (fun H locs hH => ?_)
              refine m_topI (((lo9 : Nat) : Int)) (by rw [show oLow (w r) k = lo9 from hlo9]) ?_
              refine m_isub (((hi9 : Nat) : Int) - ((lo9 : Nat) : Int)) hx hb dX6_nextLaying_44 (by omega) ?_
              refine m_topI (((hi9 - lo9 : Nat) : Int)) (by omega) ?_
              have eBy2 : oBy n w r k = ((hi9 - lo9 : Nat) : Int) := by omega
              refine lv_istore (lv' := [(4, .int (oI (((hi9 - lo9 : Nat) : Int)))), (0, .ref (ad (65))), (1, .int (oI (((fr : Nat) : Int)))), (2, .int (oI (((r : Nat) : Int)))), (3, .int (oI (((k : Nat) : Int))))]) hx hb dX6_nextLaying_45 hl (by decide) rfl (fun ls hl => ?_)
              refine lv_iload_n hx hb dX6_nextLaying_47 rfl (lv_at hl 2 rfl) ?_
              refine lv_iload hx hb dX6_nextLaying_48 (lv_at hl 0 rfl) ?_
              refine m_iadd (((fr : Nat) : Int) + ((hi9 - lo9 : Nat) : Int)) hx hb dX6_nextLaying_50 (by omega) ?_
              refine m_i2l hx hb dX6_nextLaying_51 (by omega) ?_
              refine m_lconst 0 hx hb dX6_nextLaying_52 rfl ?_
              refine lv_ldc2 (v := 200) hx hb hown (hts _ kl_X6_78) dX6_nextLaying_53 ?_
              refine m_J2L 200 (by decide +kernel) ?_
              refine m_pSb hx hb hml hown hts hK hH hl (rest := []) cw_X6_46 rfl (c6_in hA (((fr : Nat) : Int) + ((hi9 - lo9 : Nat) : Int)) 0 200 (by first | assumption | omega) (by first | assumption | omega) (by first | assumption | omega) ) ⟨Nat.le_of_ble_eq_true rfl, Nat.le_of_ble_eq_true rfl⟩ ⟨Nat.le_of_ble_eq_true rfl, Nat.le_of_ble_eq_true rfl⟩ rfl rfl (Nat.le_of_ble_eq_true rfl) dX6_nextLaying_56 (fun hi1 H locs hH => ?_) (fun hi1 H locs hH => ?_)
              · refine m_if_eq 94 hx hb dX6_nextLaying_59 (by decide) (by omega) (fun h_3 => absurd h_3 (by omega)) (fun h_3 => ?_)
                refine lv_aload_n hx hb dX6_nextLaying_62 rfl (lv_at hl 1 rfl) ?_
                refine gf_X6_far hx hb hts hown hK hH (k := 65) (by omega) eM6 dX6_nextLaying_63 ?_
                refine lv_iload_n hx hb dX6_nextLaying_66 rfl (lv_at hl 2 rfl) ?_
                refine lv_iload hx hb dX6_nextLaying_67 (lv_at hl 0 rfl) ?_
                refine m_iadd (((fr : Nat) : Int) + ((hi9 - lo9 : Nat) : Int)) hx hb dX6_nextLaying_69 (by omega) ?_
                obtain ⟨d1, hd1⟩ : ∃ z : Int, oDist (oOrW n w (-1) 4) aa (fr + (hi9 - lo9)) = z := ⟨_, rfl⟩
                have hd1b : -1 ≤ d1 ∧ d1 ≤ 200 := by rw [← hd1]; exact oDist_b haa _
                have hd1D : (oD (oOrW n w (-1) 4) aa) (((fr : Nat) : Int) + oBy n w r k) = d1 := by rw [eBy2, ← Int.natCast_add, oD_nat (by omega)]; exact hd1
                refine m_iald hx hb hK hH (k := 73) (by omega) e73 (fr + (hi9 - lo9)) (by omega) (by omega) (by decide) dX6_nextLaying_70 ?_
                refine m_topI (d1) ((hF (fr + (hi9 - lo9)) (by omega)).trans hd1) ?_
                refine lv_aload_n hx hb dX6_nextLaying_71 rfl (lv_at hl 1 rfl) ?_
                refine gf_X6_far hx hb hts hown hK hH (k := 65) (by omega) eM6 dX6_nextLaying_72 ?_
                refine lv_iload_n hx hb dX6_nextLaying_75 rfl (lv_at hl 2 rfl) ?_
                refine m_iald hx hb hK hH (k := 73) (by omega) e73 (fr) (by omega) (by omega) (by decide) dX6_nextLaying_76 ?_
                refine m_topI (lt + 1) ((hF fr (by omega)).trans hlt) ?_
                refine m_iconst 1 hx hb dX6_nextLaying_77 rfl ?_
                refine m_isub (lt) hx hb dX6_nextLaying_78 (by omega) ?_
                refine m_icmp_ne 94 hx hb dX6_nextLaying_79 (by decide) (by omega) (by omega) (fun h_4 => ?_) (fun h_4 => ?_)
                · have hn1 : ¬ (oD (oOrW n w (-1) 4) aa) (((fr : Nat) : Int) + oBy n w r k) = lt := by rw [hd1D]; omega
                  refine lv_iload_n hx hb dX6_nextLaying_94 rfl (lv_at hl 2 rfl) ?_
                  refine lv_iload hx hb dX6_nextLaying_95 (lv_at hl 0 rfl) ?_
                  refine m_isub (((fr : Nat) : Int) - ((hi9 - lo9 : Nat) : Int)) hx hb dX6_nextLaying_97 (by omega) ?_
                  refine m_i2l hx hb dX6_nextLaying_98 (by omega) ?_
                  refine m_lconst 0 hx hb dX6_nextLaying_99 rfl ?_
                  refine lv_ldc2 (v := 200) hx hb hown (hts _ kl_X6_78) dX6_nextLaying_100 ?_
                  refine m_J2L 200 (by decide +kernel) ?_
                  refine m_pSb hx hb hml hown hts hK hH hl (rest := []) cw_X6_46 rfl (c6_in hA (((fr : Nat) : Int) - ((hi9 - lo9 : Nat) : Int)) 0 200 (by first | assumption | omega) (by first | assumption | omega) (by first | assumption | omega) ) ⟨Nat.le_of_ble_eq_true rfl, Nat.le_of_ble_eq_true rfl⟩ ⟨Nat.le_of_ble_eq_true rfl, Nat.le_of_ble_eq_true rfl⟩ rfl rfl (Nat.le_of_ble_eq_true rfl) dX6_nextLaying_103 (fun hi2 H locs hH => ?_) (fun hi2 H locs hH => ?_)
                  · refine m_if_eq 139 hx hb dX6_nextLaying_106 (by decide) (by omega) (fun h_5 => absurd h_5 (by omega)) (fun h_5 => ?_)
                    refine lv_aload_n hx hb dX6_nextLaying_109 rfl (lv_at hl 1 rfl) ?_
                    refine gf_X6_far hx hb hts hown hK hH (k := 65) (by omega) eM6 dX6_nextLaying_110 ?_
                    refine lv_iload_n hx hb dX6_nextLaying_113 rfl (lv_at hl 2 rfl) ?_
                    refine lv_iload hx hb dX6_nextLaying_114 (lv_at hl 0 rfl) ?_
                    refine m_isub (((fr : Nat) : Int) - ((hi9 - lo9 : Nat) : Int)) hx hb dX6_nextLaying_116 (by omega) ?_
                    obtain ⟨d2, hd2⟩ : ∃ z : Int, oDist (oOrW n w (-1) 4) aa (fr - (hi9 - lo9)) = z := ⟨_, rfl⟩
                    have hd2b : -1 ≤ d2 ∧ d2 ≤ 200 := by rw [← hd2]; exact oDist_b haa _
                    have hd2D : (oD (oOrW n w (-1) 4) aa) (((fr : Nat) : Int) - oBy n w r k) = d2 := by rw [eBy2, show ((fr : Nat) : Int) - ((hi9 - lo9 : Nat) : Int) = ((fr - (hi9 - lo9) : Nat) : Int) by omega, oD_nat (by omega)]; exact hd2
                    refine m_iald hx hb hK hH (k := 73) (by omega) e73 (fr - (hi9 - lo9)) (by omega) (by omega) (by decide) dX6_nextLaying_117 ?_
                    refine m_topI (d2) ((hF (fr - (hi9 - lo9)) (by omega)).trans hd2) ?_
                    refine lv_aload_n hx hb dX6_nextLaying_118 rfl (lv_at hl 1 rfl) ?_
                    refine gf_X6_far hx hb hts hown hK hH (k := 65) (by omega) eM6 dX6_nextLaying_119 ?_
                    refine lv_iload_n hx hb dX6_nextLaying_122 rfl (lv_at hl 2 rfl) ?_
                    refine m_iald hx hb hK hH (k := 73) (by omega) e73 (fr) (by omega) (by omega) (by decide) dX6_nextLaying_123 ?_
                    refine m_topI (lt + 1) ((hF fr (by omega)).trans hlt) ?_
                    refine m_iconst 1 hx hb dX6_nextLaying_124 rfl ?_
                    refine m_isub (lt) hx hb dX6_nextLaying_125 (by omega) ?_
                    refine m_icmp_ne 139 hx hb dX6_nextLaying_126 (by decide) (by omega) (by omega) (fun h_6 => ?_) (fun h_6 => ?_)
                    · have hn2 : ¬ (oD (oOrW n w (-1) 4) aa) (((fr : Nat) : Int) - oBy n w r k) = lt := by rw [hd2D]; omega
                      refine m_iinc (((k : Nat) : Int) + 1) [(3, .int (oI (((k : Nat) : Int) + 1))), (4, .int (oI (((hi9 - lo9 : Nat) : Int)))), (0, .ref (ad (65))), (1, .int (oI (((fr : Nat) : Int)))), (2, .int (oI (((r : Nat) : Int))))] hx hb dX6_nextLaying_139 hl (j := 4) rfl (by omega) (by decide) rfl (fun ls hl => ?_)
                      refine lv_goto (tgt := 14) hx hb dX6_nextLaying_142 (by decide) ?_
                      exact ih14 (k + 1) (by omega) (by first | assumption | omega) (oNo_k hno hn1 hn2) _ _ hH ls (lv_sub hl [2, 3, 4, 0] rfl)
                    · refine m_iconst 2 hx hb dX6_nextLaying_129 rfl ?_
                      refine m_sipush 10000 hx hb dX6_nextLaying_130 (by decide) ?_
                      refine lv_iload_n hx hb dX6_nextLaying_133 rfl (lv_at hl 3 rfl) ?_
                      refine m_imul (10000 * ((r : Nat) : Int)) hx hb dX6_nextLaying_134 (by omega) ?_
                      refine lv_iload_n hx hb dX6_nextLaying_135 rfl (lv_at hl 4 rfl) ?_
                      refine m_iadd (((k : Nat) : Int) + 10000 * ((r : Nat) : Int)) hx hb dX6_nextLaying_136 (by omega) ?_
                      refine m_imul (2 * ((k : Nat) : Int) + 20000 * ((r : Nat) : Int)) hx hb dX6_nextLaying_137 (by first | rfl | omega | (push_cast; rfl)) ?_
                      exact m_iret hx hb hlk hrt hH (m_ni _) dX6_nextLaying_138 ⟨(20000 * ((r : Nat) : Int) + 2 * ((k : Nat) : Int) + 0), r, k, 0, (((fr : Nat) : Int) - oBy n w r k), congrArg oI (by omega), rfl, (Or.inl rfl), (by omega), (show k < oSp (pcnt (w r)) from by rw [hK9]; omega), (by omega), ⟨by omega, by rw [eCk]; omega, hno, Or.inr ⟨rfl, rfl, by rw [hd2D]; omega, hn1⟩⟩, (fun q => rfl)⟩
                  · have hn2 : ¬ (oD (oOrW n w (-1) 4) aa) (((fr : Nat) : Int) - oBy n w r k) = lt := by rw [oD_out (by omega)]; omega
                    refine m_if_eq 139 hx hb dX6_nextLaying_106 (by decide) (by omega) (fun h_7 => ?_) (fun h_7 => absurd h_7 (by omega))
                    refine m_iinc (((k : Nat) : Int) + 1) [(3, .int (oI (((k : Nat) : Int) + 1))), (4, .int (oI (((hi9 - lo9 : Nat) : Int)))), (0, .ref (ad (65))), (1, .int (oI (((fr : Nat) : Int)))), (2, .int (oI (((r : Nat) : Int))))] hx hb dX6_nextLaying_139 hl (j := 4) rfl (by omega) (by decide) rfl (fun ls hl => ?_)
                    refine lv_goto (tgt := 14) hx hb dX6_nextLaying_142 (by decide) ?_
                    exact ih14 (k + 1) (by omega) (by first | assumption | omega) (oNo_k hno hn1 hn2) _ _ hH ls (lv_sub hl [2, 3, 4, 0] rfl)
                · refine m_iconst 2 hx hb dX6_nextLaying_82 rfl ?_
                  refine m_sipush 10000 hx hb dX6_nextLaying_83 (by decide) ?_
                  refine lv_iload_n hx hb dX6_nextLaying_86 rfl (lv_at hl 3 rfl) ?_
                  refine m_imul (10000 * ((r : Nat) : Int)) hx hb dX6_nextLaying_87 (by omega) ?_
                  refine lv_iload_n hx hb dX6_nextLaying_88 rfl (lv_at hl 4 rfl) ?_
                  refine m_iadd (((k : Nat) : Int) + 10000 * ((r : Nat) : Int)) hx hb dX6_nextLaying_89 (by omega) ?_
                  refine m_imul (2 * ((k : Nat) : Int) + 20000 * ((r : Nat) : Int)) hx hb dX6_nextLaying_90 (by first | rfl | omega | (push_cast; rfl)) ?_
                  refine m_iconst 1 hx hb dX6_nextLaying_91 rfl ?_
                  refine m_iadd (2 * ((k : Nat) : Int) + 20000 * ((r : Nat) : Int) + 1) hx hb dX6_nextLaying_92 (by omega) ?_
                  exact m_iret hx hb hlk hrt hH (m_ni _) dX6_nextLaying_93 ⟨(20000 * ((r : Nat) : Int) + 2 * ((k : Nat) : Int) + 1), r, k, 1, (((fr : Nat) : Int) + oBy n w r k), congrArg oI (by omega), rfl, (Or.inr rfl), (by omega), (show k < oSp (pcnt (w r)) from by rw [hK9]; omega), (by omega), ⟨by omega, by rw [eCk]; omega, hno, Or.inl ⟨rfl, rfl, by rw [hd1D]; omega⟩⟩, (fun q => rfl)⟩
              · have hn1 : ¬ (oD (oOrW n w (-1) 4) aa) (((fr : Nat) : Int) + oBy n w r k) = lt := by rw [oD_out (by omega)]; omega
                refine m_if_eq 94 hx hb dX6_nextLaying_59 (by decide) (by omega) (fun h_8 => ?_) (fun h_8 => absurd h_8 (by omega))
                refine lv_iload_n hx hb dX6_nextLaying_94 rfl (lv_at hl 2 rfl) ?_
                refine lv_iload hx hb dX6_nextLaying_95 (lv_at hl 0 rfl) ?_
                refine m_isub (((fr : Nat) : Int) - ((hi9 - lo9 : Nat) : Int)) hx hb dX6_nextLaying_97 (by omega) ?_
                refine m_i2l hx hb dX6_nextLaying_98 (by omega) ?_
                refine m_lconst 0 hx hb dX6_nextLaying_99 rfl ?_
                refine lv_ldc2 (v := 200) hx hb hown (hts _ kl_X6_78) dX6_nextLaying_100 ?_
                refine m_J2L 200 (by decide +kernel) ?_
                refine m_pSb hx hb hml hown hts hK hH hl (rest := []) cw_X6_46 rfl (c6_in hA (((fr : Nat) : Int) - ((hi9 - lo9 : Nat) : Int)) 0 200 (by first | assumption | omega) (by first | assumption | omega) (by first | assumption | omega) ) ⟨Nat.le_of_ble_eq_true rfl, Nat.le_of_ble_eq_true rfl⟩ ⟨Nat.le_of_ble_eq_true rfl, Nat.le_of_ble_eq_true rfl⟩ rfl rfl (Nat.le_of_ble_eq_true rfl) dX6_nextLaying_103 (fun hi2 H locs hH => ?_) (fun hi2 H locs hH => ?_)
                · refine m_if_eq 139 hx hb dX6_nextLaying_106 (by decide) (by omega) (fun h_9 => absurd h_9 (by omega)) (fun h_9 => ?_)
                  refine lv_aload_n hx hb dX6_nextLaying_109 rfl (lv_at hl 1 rfl) ?_
                  refine gf_X6_far hx hb hts hown hK hH (k := 65) (by omega) eM6 dX6_nextLaying_110 ?_
                  refine lv_iload_n hx hb dX6_nextLaying_113 rfl (lv_at hl 2 rfl) ?_
                  refine lv_iload hx hb dX6_nextLaying_114 (lv_at hl 0 rfl) ?_
                  refine m_isub (((fr : Nat) : Int) - ((hi9 - lo9 : Nat) : Int)) hx hb dX6_nextLaying_116 (by omega) ?_
                  obtain ⟨d2, hd2⟩ : ∃ z : Int, oDist (oOrW n w (-1) 4) aa (fr - (hi9 - lo9)) = z := ⟨_, rfl⟩
                  have hd2b : -1 ≤ d2 ∧ d2 ≤ 200 := by rw [← hd2]; exact oDist_b haa _
                  have hd2D : (oD (oOrW n w (-1) 4) aa) (((fr : Nat) : Int) - oBy n w r k) = d2 := by rw [eBy2, show ((fr : Nat) : Int) - ((hi9 - lo9 : Nat) : Int) = ((fr - (hi9 - lo9) : Nat) : Int) by omega, oD_nat (by omega)]; exact hd2
                  refine m_iald hx hb hK hH (k := 73) (by omega) e73 (fr - (hi9 - lo9)) (by omega) (by omega) (by decide) dX6_nextLaying_117 ?_
                  refine m_topI (d2) ((hF (fr - (hi9 - lo9)) (by omega)).trans hd2) ?_
                  refine lv_aload_n hx hb dX6_nextLaying_118 rfl (lv_at hl 1 rfl) ?_
                  refine gf_X6_far hx hb hts hown hK hH (k := 65) (by omega) eM6 dX6_nextLaying_119 ?_
                  refine lv_iload_n hx hb dX6_nextLaying_122 rfl (lv_at hl 2 rfl) ?_
                  refine m_iald hx hb hK hH (k := 73) (by omega) e73 (fr) (by omega) (by omega) (by decide) dX6_nextLaying_123 ?_
                  refine m_topI (lt + 1) ((hF fr (by omega)).trans hlt) ?_
                  refine m_iconst 1 hx hb dX6_nextLaying_124 rfl ?_
                  refine m_isub (lt) hx hb dX6_nextLaying_125 (by omega) ?_
                  refine m_icmp_ne 139 hx hb dX6_nextLaying_126 (by decide) (by omega) (by omega) (fun h_10 => ?_) (fun h_10 => ?_)
                  · have hn2 : ¬ (oD (oOrW n w (-1) 4) aa) (((fr : Nat) : Int) - oBy n w r k) = lt := by rw [hd2D]; omega
                    refine m_iinc (((k : Nat) : Int) + 1) [(3, .int (oI (((k : Nat) : Int) + 1))), (4, .int (oI (((hi9 - lo9 : Nat) : Int)))), (0, .ref (ad (65))), (1, .int (oI (((fr : Nat) : Int)))), (2, .int (oI (((r : Nat) : Int))))] hx hb dX6_nextLaying_139 hl (j := 4) rfl (by omega) (by decide) rfl (fun ls hl => ?_)
                    refine lv_goto (tgt := 14) hx hb dX6_nextLaying_142 (by decide) ?_
                    exact ih14 (k + 1) (by omega) (by first | assumption | omega) (oNo_k hno hn1 hn2) _ _ hH ls (lv_sub hl [2, 3, 4, 0] rfl)
                  · refine m_iconst 2 hx hb dX6_nextLaying_129 rfl ?_
                    refine m_sipush 10000 hx hb dX6_nextLaying_130 (by decide) ?_
                    refine lv_iload_n hx hb dX6_nextLaying_133 rfl (lv_at hl 3 rfl) ?_
                    refine m_imul (10000 * ((r : Nat) : Int)) hx hb dX6_nextLaying_134 (by omega) ?_
                    refine lv_iload_n hx hb dX6_nextLaying_135 rfl (lv_at hl 4 rfl) ?_
                    refine m_iadd (((k : Nat) : Int) + 10000 * ((r : Nat) : Int)) hx hb dX6_nextLaying_136 (by omega) ?_
                    refine m_imul (2 * ((k : Nat) : Int) + 20000 * ((r : Nat) : Int)) hx hb dX6_nextLaying_137 (by first | rfl | omega | (push_cast; rfl)) ?_
                    exact m_iret hx hb hlk hrt hH (m_ni _) dX6_nextLaying_138 ⟨(20000 * ((r : Nat) : Int) + 2 * ((k : Nat) : Int) + 0), r, k, 0, (((fr : Nat) : Int) - oBy n w r k), congrArg oI (by omega), rfl, (Or.inl rfl), (by omega), (show k < oSp (pcnt (w r)) from by rw [hK9]; omega), (by omega), ⟨by omega, by rw [eCk]; omega, hno, Or.inr ⟨rfl, rfl, by rw [hd2D]; omega, hn1⟩⟩, (fun q => rfl)⟩
                · have hn2 : ¬ (oD (oOrW n w (-1) 4) aa) (((fr : Nat) : Int) - oBy n w r k) = lt := by rw [oD_out (by omega)]; omega
                  refine m_if_eq 139 hx hb dX6_nextLaying_106 (by decide) (by omega) (fun h_11 => ?_) (fun h_11 => absurd h_11 (by omega))
                  refine m_iinc (((k : Nat) : Int) + 1) [(3, .int (oI (((k : Nat) : Int) + 1))), (4, .int (oI (((hi9 - lo9 : Nat) : Int)))), (0, .ref (ad (65))), (1, .int (oI (((fr : Nat) : Int)))), (2, .int (oI (((r : Nat) : Int))))] hx hb dX6_nextLaying_139 hl (j := 4) rfl (by omega) (by decide) rfl (fun ls hl => ?_)
                  refine lv_goto (tgt := 14) hx hb dX6_nextLaying_142 (by decide) ?_
                  exact ih14 (k + 1) (by omega) (by first | assumption | omega) (oNo_k hno hn1 hn2) _ _ hH ls (lv_sub hl [2, 3, 4, 0] rfl)
        exact L14 _ 0 (Nat.lt_succ_self _) (by first | assumption | omega) (hno) _ _ hH ls (lv_sub hl [1, 2, 3, 0] rfl)
  exact L2 _ 0 (Nat.lt_succ_self _) (by first | assumption | omega) (oNo_0) _ _ hH ls (lv_sub hl [1, 2, 0] rfl)
set_option maxHeartbeats 4000000 in
set_option maxRecDepth 100000 in
theorem c6_ends {l : Launch} {D : va_G} {cT : Nat → ClassId} {N b0 : Nat} {ad : Nat → Nat} (hA : oAd b0 N ad) {σ : Nat → va_E} (fr r2 k2 aa : Nat) (cd fd ed lt : Int) (si ac6 spo ou6 : Nat) (rf : Int) (n a g : Nat) (f : Nat → Int) (sz w : Nat → Nat) (hN : 76 ≤ N) (hwf : oWf n sz w) (hag : oAg a g) (hp : oRS f n a g sz w) (hfr : fr ≤ 200) (hcd : cd = 20000 * ((r2 : Nat) : Int) + 2 * ((k2 : Nat) : Int) + fd) (hfd : fd = 0 ∨ fd = 1) (hrk : r2 < n ∧ k2 ≤ 2016) (hk9 : oEq2 (k2 < oSp (pcnt (w r2)))) (hed : 0 ≤ ed ∧ ed ≤ 200) (hnx : oNx n w (oD (oOrW n w (-1) 4) aa) ((fr : Nat) : Int) lt r2 k2 fd ed) (eM6 : σ (65) = .inr (6, [.int (oI (rf)), .ref (ad (66)), .int (oI (((si : Nat) : Int))), .ref (ad (67)), .ref (ad (68)), .ref (ad (69)), .int (oI (((ac6 : Nat) : Int))), .ref (ad (70)), .ref (ad (71)), .ref (ad (72)), .ref (ad (73)), .ref (ad (74)), .int (oI (((spo : Nat) : Int))), .int (oI (((ou6 : Nat) : Int)))])) (e67 : σ (67) = oAI cT 171 f) :
    oCi l D cT N ad b0 yX6_ends cX6_ends 6 (some .int) 2 47 [.ref (ad (65)), .int (oI (((fr : Nat) : Int))), .int (oI (cd))] σ (fun rr uu => rr = oI (ed) ∧ uu = σ) := by
  refine m_start (cc := cX6_ends) (by decide) (Nat.le_of_ble_eq_true rfl) rfl ?_
  intro Pp Ee Ss Mm Bb Me Cc Ar ls hx hb hml hown hlk hrt hts hK hH hl
  have hown : Ss.vm.findClass RX6 = some Mm.cls := hown
  have hn := hwf.1
  have hl : lv_has ls 6 [(0, .ref (ad (65))), (1, .int (oI (((fr : Nat) : Int)))), (2, .int (oI (cd)))] := hl
  refine lv_iload_n hx hb dX6_ends_0 rfl (lv_at hl 2 rfl) ?_
  refine m_iconst 2 hx hb dX6_ends_1 rfl ?_
  refine m_idiv (((k2 : Nat) : Int) + 10000 * ((r2 : Nat) : Int)) hx hb dX6_ends_2 (by omega) (by omega) (by first | rfl | omega) ?_
  refine m_sipush 10000 hx hb dX6_ends_3 (by decide) ?_
  refine m_idiv (((r2 : Nat) : Int)) hx hb dX6_ends_6 (by omega) (by omega) (by first | rfl | omega) ?_
  refine lv_istore_n (lv' := [(3, .int (oI (((r2 : Nat) : Int)))), (0, .ref (ad (65))), (1, .int (oI (((fr : Nat) : Int)))), (2, .int (oI (cd)))]) hx hb dX6_ends_7 rfl hl (by decide) rfl (fun ls hl => ?_)
  refine lv_iload_n hx hb dX6_ends_8 rfl (lv_at hl 3 rfl) ?_
  refine m_iconst 2 hx hb dX6_ends_9 rfl ?_
  refine m_idiv (((k2 : Nat) : Int) + 10000 * ((r2 : Nat) : Int)) hx hb dX6_ends_10 (by omega) (by omega) (by first | rfl | omega) ?_
  refine m_sipush 10000 hx hb dX6_ends_11 (by decide) ?_
  refine m_irem (((k2 : Nat) : Int)) hx hb dX6_ends_14 (by omega) (by omega) (by first | rfl | omega) ?_
  refine lv_istore (lv' := [(4, .int (oI (((k2 : Nat) : Int)))), (3, .int (oI (((r2 : Nat) : Int)))), (0, .ref (ad (65))), (1, .int (oI (((fr : Nat) : Int)))), (2, .int (oI (cd)))]) hx hb dX6_ends_15 hl (by decide) rfl (fun ls hl => ?_)
  obtain ⟨lo9, hlo9⟩ : ∃ y : Nat, oEq (oLow (w r2) k2) y := ⟨_, Eq.refl _⟩
  obtain ⟨hi9, hhi9⟩ : ∃ y : Nat, oEq (oHigh (w r2) k2) y := ⟨_, Eq.refl _⟩
  have hwr := hwf.row (r := r2) (by omega)
  have hlh := oLH_lt hwr (k := k2) (by rw [oRk_41 hwr]; exact hk9)
  rw [show oLow (w r2) k2 = lo9 from hlo9, show oHigh (w r2) k2 = hi9 from hhi9] at hlh
  have eBy : oBy n w r2 k2 = ((hi9 : Nat) : Int) - ((lo9 : Nat) : Int) := by unfold oBy; rw [oRow_in (by omega), Int.toNat_natCast, show oLow (w r2) k2 = lo9 from hlo9, show oHigh (w r2) k2 = hi9 from hhi9]
  have he := hnx.2.2.2
  rw [eBy] at he
  refine lv_aload_n hx hb dX6_ends_17 rfl (lv_at hl 2 rfl) ?_
  refine gf_X6_now hx hb hts hown hK hH (k := 65) (by omega) eM6 dX6_ends_18 ?_
  refine lv_iload_n hx hb dX6_ends_21 rfl (lv_at hl 1 rfl) ?_
  refine lv_iload hx hb dX6_ends_22 (lv_at hl 0 rfl) ?_
  refine m_pSi hx hb hml hown hts hK hH hl (rest := []) cw_X6_195 rfl (c6_highOf hA 67 n a g f sz w r2 k2 (by first | assumption | omega) (by first | assumption | omega) (by first | assumption | omega) (by first | assumption | omega) (by first | assumption | omega) (hk9) e67) ⟨Nat.le_of_ble_eq_true rfl, Nat.le_of_ble_eq_true rfl⟩ ⟨Nat.le_of_ble_eq_true rfl, Nat.le_of_ble_eq_true rfl⟩ rfl rfl (Nat.le_of_ble_eq_true rfl) dX6_ends_24 (fun H locs hH => ?_)
  refine m_topI (((hi9 : Nat) : Int)) (by rw [show oHigh (w r2) k2 = hi9 from hhi9]) ?_
  refine lv_aload_n hx hb dX6_ends_27 rfl (lv_at hl 2 rfl) ?_
  refine gf_X6_now hx hb hts hown hK hH (k := 65) (by omega) eM6 dX6_ends_28 ?_
  refine lv_iload_n hx hb dX6_ends_31 rfl (lv_at hl 1 rfl) ?_
  refine lv_iload hx hb dX6_ends_32 (lv_at hl 0 rfl) ?_
  refine m_pSi hx hb hml hown hts hK hH hl (rest := [.int (oI (((hi9 : Nat) : Int)))]) cw_X6_192 rfl (c6_lowOf hA 67 n a g f sz w r2 k2 (by first | assumption | omega) (by first | assumption | omega) (by first | assumption | omega) (by first | assumption | omega) (by first | assumption | omega) (hk9) e67) ⟨Nat.le_of_ble_eq_true rfl, Nat.le_of_ble_eq_true rfl⟩ ⟨Nat.le_of_ble_eq_true rfl, Nat.le_of_ble_eq_true rfl⟩ rfl rfl (Nat.le_of_ble_eq_true rfl) dX6_ends_34 (fun H locs hH => ?_)
  refine m_topI (((lo9 : Nat) : Int)) (by rw [show oLow (w r2) k2 = lo9 from hlo9]) ?_
  refine m_isub (((hi9 : Nat) : Int) - ((lo9 : Nat) : Int)) hx hb dX6_ends_37 (by omega) ?_
  refine lv_istore (lv' := [(5, .int (oI (((hi9 : Nat) : Int) - ((lo9 : Nat) : Int)))), (4, .int (oI (((k2 : Nat) : Int)))), (3, .int (oI (((r2 : Nat) : Int)))), (0, .ref (ad (65))), (1, .int (oI (((fr : Nat) : Int)))), (2, .int (oI (cd)))]) hx hb dX6_ends_38 hl (by decide) rfl (fun ls hl => ?_)
  refine lv_iload_n hx hb dX6_ends_40 rfl (lv_at hl 5 rfl) ?_
  refine m_iconst 2 hx hb dX6_ends_41 rfl ?_
  refine m_irem (fd) hx hb dX6_ends_42 (by omega) (by omega) (by first | rfl | omega) ?_
  refine m_iconst 1 hx hb dX6_ends_43 rfl ?_
  refine m_icmp_ne 54 hx hb dX6_ends_44 (by decide) (by omega) (by omega) (fun h_1 => ?_) (fun h_1 => ?_)
  · refine lv_iload_n hx hb dX6_ends_54 rfl (lv_at hl 4 rfl) ?_
    refine lv_iload hx hb dX6_ends_55 (lv_at hl 0 rfl) ?_
    refine m_isub (((fr : Nat) : Int) - ((hi9 : Nat) : Int) + ((lo9 : Nat) : Int)) hx hb dX6_ends_57 (by omega) ?_
    exact m_iret hx hb hlk hrt hH (m_ni _) dX6_ends_58 ⟨congrArg oI (by omega), rfl⟩
  · refine lv_iload_n hx hb dX6_ends_47 rfl (lv_at hl 4 rfl) ?_
    refine lv_iload hx hb dX6_ends_48 (lv_at hl 0 rfl) ?_
    refine m_iadd (((fr : Nat) : Int) + ((hi9 : Nat) : Int) - ((lo9 : Nat) : Int)) hx hb dX6_ends_50 (by omega) ?_
    refine lv_goto (tgt := 58) hx hb dX6_ends_51 (by decide) ?_
    exact m_iret hx hb hlk hrt hH (m_ni _) dX6_ends_58 ⟨congrArg oI (by omega), rfl⟩
set_option maxHeartbeats 4000000 in
set_option maxRecDepth 100000 in
theorem c6_laying {l : Launch} {D : va_G} {cT : Nat → ClassId} {N b0 : Nat} {ad : Nat → Nat} (hA : oAd b0 N ad) {σ : Nat → va_E} (t k x : Int) (si ac6 spo ou6 : Nat) (rf : Int) (n a g : Nat) (f : Nat → Int) (sz w : Nat → Nat) (s : Nat → Nat) (F R : Nat → Int) (hN : 76 ≤ N) (hwf : oWf n sz w) (hag : oAg a g) (hp : oRS f n a g sz w) (hbt : -2147483648 ≤ t ∧ t < 2147483648) (hbk : -2147483648 ≤ k ∧ k < 2147483648) (hbx : -2147483648 ≤ x ∧ x < 2147483648) (eM6 : σ (65) = .inr (6, [.int (oI (rf)), .ref (ad (66)), .int (oI (((si : Nat) : Int))), .ref (ad (67)), .ref (ad (68)), .ref (ad (69)), .int (oI (((ac6 : Nat) : Int))), .ref (ad (70)), .ref (ad (71)), .ref (ad (72)), .ref (ad (73)), .ref (ad (74)), .int (oI (((spo : Nat) : Int))), .int (oI (((ou6 : Nat) : Int)))])) (e67 : σ (67) = oAI cT 171 f) (e72 : σ (72) = oAN cT 41 s) (e73 : σ (73) = oAI cT 201 F) (e74 : σ (74) = oAI cT 201 R) :
    oCi l D cT N ad b0 yX6_laying cX6_laying 6 (some .int) 4 90 [.ref (ad (65)), .int (oI (t)), .int (oI (k)), .int (oI (x))] σ (fun rr uu => ∃ v9 : Int, ∃ r9 : Int, ∃ s2 : Nat → Nat, ∃ F2 : Nat → Int, ∃ R2 : Nat → Int, rr = oI (v9) ∧ ((((0 ≤ t ∧ t ≤ 200) ∧ 0 ≤ k ∧ 0 ≤ x ∧ x ≤ 3) ∧ r9 = 0 ∧ (((oD (oOrW n w (-1) 4) t.toNat) 0 ≤ k ∧ v9 = -1) ∨ (k < (oD (oOrW n w (-1) 4) t.toNat) 0 ∧ ∃ (r2 k2 : Nat) (fd ed : Int), oLyR n w (oD (oOrW n w (-1) 4) t.toNat) ((oD (oOrW n w (-1) 4) t.toNat) 0) (k.toNat + 1) r2 k2 fd ed ∧ (fd = 0 ∨ fd = 1) ∧ v9 = oLn x r2 k2 fd ed))) ∨ (r9 = 1 ∧ ¬ ((0 ≤ t ∧ t ≤ 200) ∧ 0 ≤ k ∧ 0 ≤ x ∧ x ≤ 3))) ∧ uu (65) = .inr (6, [.int (oI (r9)), .ref (ad (66)), .int (oI (((si : Nat) : Int))), .ref (ad (67)), .ref (ad (68)), .ref (ad (69)), .int (oI (((ac6 : Nat) : Int))), .ref (ad (70)), .ref (ad (71)), .ref (ad (72)), .ref (ad (73)), .ref (ad (74)), .int (oI (((spo : Nat) : Int))), .int (oI (((ou6 : Nat) : Int)))]) ∧ uu (72) = oAN cT 41 s2 ∧ uu (73) = oAI cT 201 F2 ∧ uu (74) = oAI cT 201 R2 ∧ (∀ q : Nat, q ≠ 65 → q ≠ 72 → q ≠ 73 → q ≠ 74 → uu q = σ q)) := by
  refine m_start (cc := cX6_laying) (by decide) (Nat.le_of_ble_eq_true rfl) rfl ?_
  intro Pp Ee Ss Mm Bb Me Cc Ar ls hx hb hml hown hlk hrt hts hK hH hl
  have hown : Ss.vm.findClass RX6 = some Mm.cls := hown
  have hn := hwf.1
  have hw41 := oRow_lt hwf
  have hl : lv_has ls 6 [(0, .ref (ad (65))), (1, .int (oI (t))), (2, .int (oI (k))), (3, .int (oI (x)))] := hl
  have hf : ∀ q : Nat, q ≠ 65 → q ≠ 72 → q ≠ 73 → q ≠ 74 → σ q = σ q := fun q _ _ _ _ => rfl
  refine lv_aload_n hx hb dX6_laying_0 rfl (lv_at hl 0 rfl) ?_
  refine lv_iload_n hx hb dX6_laying_1 rfl (lv_at hl 1 rfl) ?_
  refine m_i2l hx hb dX6_laying_2 (by omega) ?_
  refine m_lconst 0 hx hb dX6_laying_3 rfl ?_
  refine lv_ldc2 (v := 200) hx hb hown (hts _ kl_X6_78) dX6_laying_4 ?_
  refine m_J2L 200 (by decide +kernel) ?_
  refine m_pSb hx hb hml hown hts hK hH hl (rest := [.ref (ad (65))]) cw_X6_46 rfl (c6_in hA t 0 200 (by first | assumption | omega) (by first | assumption | omega) (by first | assumption | omega) ) ⟨Nat.le_of_ble_eq_true rfl, Nat.le_of_ble_eq_true rfl⟩ ⟨Nat.le_of_ble_eq_true rfl, Nat.le_of_ble_eq_true rfl⟩ rfl rfl (Nat.le_of_ble_eq_true rfl) dX6_laying_7 (fun ht9 H locs hH => ?_) (fun ht9 H locs hH => ?_)
  · refine m_if_eq 33 hx hb dX6_laying_10 (by decide) (by omega) (fun h_1 => absurd h_1 (by omega)) (fun h_1 => ?_)
    refine lv_iload_n hx hb dX6_laying_13 rfl (lv_at hl 2 rfl) ?_
    refine m_if_lt 33 hx hb dX6_laying_14 (by decide) (by omega) (fun h_2 => ?_) (fun h_2 => ?_)
    · refine m_iconst 1 hx hb dX6_laying_33 rfl ?_
      refine m_callVi hx hb hml hown hts hK hH hl (rest := []) cw_X6_111 (c6_ref1 hA 1 si ac6 spo ou6 rf (by first | assumption | omega) (by first | assumption | omega) eM6) ⟨Nat.le_of_ble_eq_true rfl, Nat.le_of_ble_eq_true rfl⟩ ⟨Nat.le_of_ble_eq_true rfl, Nat.le_of_ble_eq_true rfl⟩ rfl (k := 65) (by omega) eM6 rfl rfl (Nat.le_of_ble_eq_true rfl) dX6_laying_34 (fun r_6 σ_3 H locs hp_4 hH => ?_)
      obtain ⟨rfl, eM6, hq_5⟩ := hp_4
      have e67 : σ_3 (67) = oAI cT 171 f := (hq_5 _ (by decide)).trans e67
      have e72 : σ_3 (72) = oAN cT 41 s := (hq_5 _ (by decide)).trans e72
      have e73 : σ_3 (73) = oAI cT 201 F := (hq_5 _ (by decide)).trans e73
      have e74 : σ_3 (74) = oAI cT 201 R := (hq_5 _ (by decide)).trans e74
      have hf : ∀ q : Nat, q ≠ 65 → q ≠ 72 → q ≠ 73 → q ≠ 74 → σ_3 q = σ q := fun q n0 n1 n2 n3 => (hq_5 q n0).trans (hf q n0 n1 n2 n3)
      refine m_if_eq 42 hx hb dX6_laying_37 (by decide) (by omega) (fun h_7 => absurd h_7 (by omega)) (fun h_7 => ?_)
      refine m_iconst 0 hx hb dX6_laying_40 rfl ?_
      exact m_iret hx hb hlk hrt hH (m_ni _) dX6_laying_41 ⟨0, 1, s, F, R, rfl, (Or.inr ⟨rfl, by omega⟩), eM6, e72, e73, e74, hf⟩
    · refine lv_iload_n hx hb dX6_laying_17 rfl (lv_at hl 3 rfl) ?_
      refine m_i2l hx hb dX6_laying_18 (by omega) ?_
      refine m_lconst 0 hx hb dX6_laying_19 rfl ?_
      refine lv_ldc2 (v := 3) hx hb hown (hts _ kl_X6_190) dX6_laying_20 ?_
      refine m_J2L 3 (by decide +kernel) ?_
      refine m_pSb hx hb hml hown hts hK hH hl (rest := [.ref (ad (65))]) cw_X6_46 rfl (c6_in hA x 0 3 (by first | assumption | omega) (by first | assumption | omega) (by first | assumption | omega) ) ⟨Nat.le_of_ble_eq_true rfl, Nat.le_of_ble_eq_true rfl⟩ ⟨Nat.le_of_ble_eq_true rfl, Nat.le_of_ble_eq_true rfl⟩ rfl rfl (Nat.le_of_ble_eq_true rfl) dX6_laying_23 (fun hx3 H locs hH => ?_) (fun hx3 H locs hH => ?_)
      · refine m_if_eq 33 hx hb dX6_laying_26 (by decide) (by omega) (fun h_8 => absurd h_8 (by omega)) (fun h_8 => ?_)
        refine m_iconst 0 hx hb dX6_laying_29 rfl ?_
        refine lv_goto (tgt := 34) hx hb dX6_laying_30 (by decide) ?_
        refine m_callVi hx hb hml hown hts hK hH hl (rest := []) cw_X6_111 (c6_ref0 hA si ac6 spo ou6 rf (by first | assumption | omega) eM6) ⟨Nat.le_of_ble_eq_true rfl, Nat.le_of_ble_eq_true rfl⟩ ⟨Nat.le_of_ble_eq_true rfl, Nat.le_of_ble_eq_true rfl⟩ rfl (k := 65) (by omega) eM6 rfl rfl (Nat.le_of_ble_eq_true rfl) dX6_laying_34 (fun r_12 σ_9 H locs hp_10 hH => ?_)
        obtain ⟨rfl, eM6, hq_11⟩ := hp_10
        have e67 : σ_9 (67) = oAI cT 171 f := (hq_11 _ (by decide)).trans e67
        have e72 : σ_9 (72) = oAN cT 41 s := (hq_11 _ (by decide)).trans e72
        have e73 : σ_9 (73) = oAI cT 201 F := (hq_11 _ (by decide)).trans e73
        have e74 : σ_9 (74) = oAI cT 201 R := (hq_11 _ (by decide)).trans e74
        have hf : ∀ q : Nat, q ≠ 65 → q ≠ 72 → q ≠ 73 → q ≠ 74 → σ_9 q = σ q := fun q n0 n1 n2 n3 => (hq_11 q n0).trans (hf q n0 n1 n2 n3)
        refine m_if_eq 42 hx hb dX6_laying_37 (by decide) (by omega) (fun h_13 => ?_) (fun h_13 => absurd h_13 (by omega))
        refine lv_aload_n hx hb dX6_laying_42 rfl (lv_at hl 0 rfl) ?_
        refine lv_aload_n hx hb dX6_laying_43 rfl (lv_at hl 0 rfl) ?_
        refine gf_X6_now hx hb hts hown hK hH (k := 65) (by omega) eM6 dX6_laying_44 ?_
        refine m_callVv hx hb hml hown hts hK hH hl (rest := []) cw_X6_80 (c6_findSpans hA si ac6 spo ou6 0 67 n a g f sz w s (by first | assumption | omega) (by first | assumption | omega) (by first | assumption | omega) (by first | assumption | omega) eM6 e67 e72) ⟨Nat.le_of_ble_eq_true rfl, Nat.le_of_ble_eq_true rfl⟩ ⟨Nat.le_of_ble_eq_true rfl, Nat.le_of_ble_eq_true rfl⟩ rfl (k := 65) (by omega) eM6 rfl rfl (Nat.le_of_ble_eq_true rfl) dX6_laying_47 (fun σ_14 H locs hp_15 hH => ?_)
        obtain ⟨s5, hs5, hs50, e72, hq_16⟩ := hp_15
        have eM6 : σ_14 (65) = .inr (6, [.int (oI (0)), .ref (ad (66)), .int (oI (((si : Nat) : Int))), .ref (ad (67)), .ref (ad (68)), .ref (ad (69)), .int (oI (((ac6 : Nat) : Int))), .ref (ad (70)), .ref (ad (71)), .ref (ad (72)), .ref (ad (73)), .ref (ad (74)), .int (oI (((spo : Nat) : Int))), .int (oI (((ou6 : Nat) : Int)))]) := (hq_16 _ (by decide)).trans eM6
        have e67 : σ_14 (67) = oAI cT 171 f := (hq_16 _ (by decide)).trans e67
        have e73 : σ_14 (73) = oAI cT 201 F := (hq_16 _ (by decide)).trans e73
        have e74 : σ_14 (74) = oAI cT 201 R := (hq_16 _ (by decide)).trans e74
        have hf : ∀ q : Nat, q ≠ 65 → q ≠ 72 → q ≠ 73 → q ≠ 74 → σ_14 q = σ q := fun q n0 n1 n2 n3 => (hq_16 q n1).trans (hf q n0 n1 n2 n3)
        have hsq := oSq_of hwf hs5 hs50
        refine lv_aload_n hx hb dX6_laying_50 rfl (lv_at hl 0 rfl) ?_
        refine lv_iload_n hx hb dX6_laying_51 rfl (lv_at hl 1 rfl) ?_
        refine m_topI (((t.toNat : Nat) : Int)) (by omega) ?_
        refine m_callVv hx hb hml hown hts hK hH hl (rest := []) cw_X6_83 (c6_findFar hA si ac6 spo ou6 0 t.toNat (oOrW n w (-1) 4) s5 F R (by first | assumption | omega) (by first | assumption | omega) (by first | assumption | omega) eM6 e72 e73 e74) ⟨Nat.le_of_ble_eq_true rfl, Nat.le_of_ble_eq_true rfl⟩ ⟨Nat.le_of_ble_eq_true rfl, Nat.le_of_ble_eq_true rfl⟩ rfl (k := 65) (by omega) eM6 rfl rfl (Nat.le_of_ble_eq_true rfl) dX6_laying_52 (fun σ_18 H locs hp_19 hH => ?_)
        obtain ⟨F5, R5, hF5, e73, e74, hq_20⟩ := hp_19
        have eM6 : σ_18 (65) = .inr (6, [.int (oI (0)), .ref (ad (66)), .int (oI (((si : Nat) : Int))), .ref (ad (67)), .ref (ad (68)), .ref (ad (69)), .int (oI (((ac6 : Nat) : Int))), .ref (ad (70)), .ref (ad (71)), .ref (ad (72)), .ref (ad (73)), .ref (ad (74)), .int (oI (((spo : Nat) : Int))), .int (oI (((ou6 : Nat) : Int)))]) := (hq_20 _ (by decide) (by decide)).trans eM6
        have e67 : σ_18 (67) = oAI cT 171 f := (hq_20 _ (by decide) (by decide)).trans e67
        have e72 : σ_18 (72) = oAN cT 41 s5 := (hq_20 _ (by decide) (by decide)).trans e72
        have hf : ∀ q : Nat, q ≠ 65 → q ≠ 72 → q ≠ 73 → q ≠ 74 → σ_18 q = σ q := fun q n0 n1 n2 n3 => (hq_20 q n2 n3).trans (hf q n0 n1 n2 n3)
        obtain ⟨al, hal⟩ : ∃ z : Int, oDist (oOrW n w (-1) 4) t.toNat 0 = z := ⟨_, rfl⟩
        have halb : -1 ≤ al ∧ al ≤ 200 := by rw [← hal]; exact oDist_b (by omega) _
        have oD0 : (oD (oOrW n w (-1) 4) t.toNat) 0 = oDist (oOrW n w (-1) 4) t.toNat 0 := oD_of (by omega)
        refine lv_iload_n hx hb dX6_laying_55 rfl (lv_at hl 2 rfl) ?_
        refine lv_aload_n hx hb dX6_laying_56 rfl (lv_at hl 0 rfl) ?_
        refine gf_X6_far hx hb hts hown hK hH (k := 65) (by omega) eM6 dX6_laying_57 ?_
        refine m_iconst 0 hx hb dX6_laying_60 rfl ?_
        refine m_iald hx hb hK hH (k := 73) (by omega) e73 (0) (by omega) (by omega) (by decide) dX6_laying_61 ?_
        refine m_topI (al) ((hF5 0 (by omega)).trans hal) ?_
        refine m_icmp_lt 67 hx hb dX6_laying_62 (by decide) (by omega) (by omega) (fun h_22 => ?_) (fun h_22 => ?_)
        · refine m_iconst 0 hx hb dX6_laying_67 rfl ?_
          refine lv_istore (lv' := [(4, .int (oI (0))), (0, .ref (ad (65))), (1, .int (oI (t))), (2, .int (oI (k))), (3, .int (oI (x)))]) hx hb dX6_laying_68 hl (by decide) rfl (fun ls hl => ?_)
          refine m_iconst 0 hx hb dX6_laying_70 rfl ?_
          refine lv_istore (lv' := [(5, .int (oI (0))), (4, .int (oI (0))), (0, .ref (ad (65))), (1, .int (oI (t))), (2, .int (oI (k))), (3, .int (oI (x)))]) hx hb dX6_laying_71 hl (by decide) rfl (fun ls hl => ?_)
          have L73 : ∀ (fu : Nat) (fr : Nat) (i : Nat), (202 - i < fu) → (((i : Nat) : Int) ≤ k) → (fr ≤ 200) → ((oD (oOrW n w (-1) 4) t.toNat) ((fr : Nat) : Int) = al - ((i : Nat) : Int)) → (∃ (r' k' : Nat) (f' : Int), oLyR n w (oD (oOrW n w (-1) 4) t.toNat) al i r' k' f' ((fr : Nat) : Int)) → ∀ σL73 : Nat → va_E, σL73 (73) = oAI cT 201 F5 → (∀ q : Nat, q ≠ 73 → σL73 q = σ_18 q) → ∀ (H : Heap) (locs : List Loc), oH b0 D N ad Ss.heap σL73 H locs → ∀ ls : Array Slot, lv_has ls 6 [(0, .ref (ad (65))), (2, .int (oI (k))), (3, .int (oI (x))), (4, .int (oI (((fr : Nat) : Int)))), (5, .int (oI (((i : Nat) : Int))))] → W Pp l Ee { frames := 4, cells := 0, slots := 0, locals := 90 } Ss Mm Ar Bb Me Cc H locs 0 0 (MQ Bb (va_Qi (fun rr uu => ∃ v9 : Int, ∃ r9 : Int, ∃ s2 : Nat → Nat, ∃ F2 : Nat → Int, ∃ R2 : Nat → Int, rr = oI (v9) ∧ ((((0 ≤ t ∧ t ≤ 200) ∧ 0 ≤ k ∧ 0 ≤ x ∧ x ≤ 3) ∧ r9 = 0 ∧ (((oD (oOrW n w (-1) 4) t.toNat) 0 ≤ k ∧ v9 = -1) ∨ (k < (oD (oOrW n w (-1) 4) t.toNat) 0 ∧ ∃ (r2 k2 : Nat) (fd ed : Int), oLyR n w (oD (oOrW n w (-1) 4) t.toNat) ((oD (oOrW n w (-1) 4) t.toNat) 0) (k.toNat + 1) r2 k2 fd ed ∧ (fd = 0 ∨ fd = 1) ∧ v9 = oLn x r2 k2 fd ed))) ∨ (r9 = 1 ∧ ¬ ((0 ≤ t ∧ t ≤ 200) ∧ 0 ≤ k ∧ 0 ≤ x ∧ x ≤ 3))) ∧ uu (65) = .inr (6, [.int (oI (r9)), .ref (ad (66)), .int (oI (((si : Nat) : Int))), .ref (ad (67)), .ref (ad (68)), .ref (ad (69)), .int (oI (((ac6 : Nat) : Int))), .ref (ad (70)), .ref (ad (71)), .ref (ad (72)), .ref (ad (73)), .ref (ad (74)), .int (oI (((spo : Nat) : Int))), .int (oI (((ou6 : Nat) : Int)))]) ∧ uu (72) = oAN cT 41 s2 ∧ uu (73) = oAI cT 201 F2 ∧ uu (74) = oAI cT 201 R2 ∧ (∀ q : Nat, q ≠ 65 → q ≠ 72 → q ≠ 73 → q ≠ 74 → uu q = σ q)) (oV D N ad) (fun q => b0 ≤ q)) Ar Ss 0 0 (fun q => b0 ≤ q)) (F0 Mm 73 ls []) := by
            intro fu73
            induction fu73 with
            | zero =>
              intro fr i hm73
              exact absurd hm73 (Nat.not_lt_zero _)
            | succ fu73 ih73 =>
              intro fr i hm73 hik hfr2 hD hly σL73 e73 hL73 H locs hH ls hl
              have eM6 : σL73 (65) = .inr (6, [.int (oI (0)), .ref (ad (66)), .int (oI (((si : Nat) : Int))), .ref (ad (67)), .ref (ad (68)), .ref (ad (69)), .int (oI (((ac6 : Nat) : Int))), .ref (ad (70)), .ref (ad (71)), .ref (ad (72)), .ref (ad (73)), .ref (ad (74)), .int (oI (((spo : Nat) : Int))), .int (oI (((ou6 : Nat) : Int)))]) := (hL73 _ (by decide)).trans eM6
              have e67 : σL73 (67) = oAI cT 171 f := (hL73 _ (by decide)).trans e67
              have e72 : σL73 (72) = oAN cT 41 s5 := (hL73 _ (by decide)).trans e72
              have e74 : σL73 (74) = oAI cT 201 R5 := (hL73 _ (by decide)).trans e74
              have hf : ∀ q : Nat, q ≠ 65 → q ≠ 72 → q ≠ 73 → q ≠ 74 → σL73 q = σ q := fun q n0 n1 n2 n3 => (hL73 q n2).trans (hf q n0 n1 n2 n3)
              refine lv_iload hx hb dX6_laying_73 (lv_at hl 4 rfl) ?_
              refine lv_iload_n hx hb dX6_laying_75 rfl (lv_at hl 1 rfl) ?_
              refine m_icmp_ge 99 hx hb dX6_laying_76 (by decide) (by omega) (by omega) (fun h_23 => ?_) (fun h_23 => ?_)
              · refine lv_aload_n hx hb dX6_laying_99 rfl (lv_at hl 0 rfl) ?_
                refine lv_iload hx hb dX6_laying_100 (lv_at hl 3 rfl) ?_
                obtain ⟨v9n, hv9n⟩ : ∃ v : Nat, al - ((i : Nat) : Int) = ((v + 1 : Nat) : Int) := ⟨(al - ((i : Nat) : Int) - 1).toNat, by omega⟩
                have hex9 := oNx_ex (n := n) (w := w) (sp := (oOrW n w (-1) 4)) (a := t.toNat) (v := v9n) (fr := ((fr : Nat) : Int)) hw41 rfl (by omega) (by rw [hD]; exact hv9n)
                refine m_callVi hx hb hml hown hts hK hH hl (rest := []) cw_X6_212 (c6_nextLaying hA fr t.toNat ((v9n : Nat) : Int) si ac6 spo ou6 0 n a g f sz w F5 (by first | assumption | omega) (by first | assumption | omega) (by first | assumption | omega) (by first | assumption | omega) (by first | assumption | omega) (by first | assumption | omega) (by first | assumption | omega) (hF5) (by rw [← oD_nat (sp := (oOrW n w (-1) 4)) (a := t.toNat) hfr2, hD]; omega) (hex9) eM6 e67 e73) ⟨Nat.le_of_ble_eq_true rfl, Nat.le_of_ble_eq_true rfl⟩ ⟨Nat.le_of_ble_eq_true rfl, Nat.le_of_ble_eq_true rfl⟩ rfl (k := 65) (by omega) eM6 rfl rfl (Nat.le_of_ble_eq_true rfl) dX6_laying_102 (fun r_27 σ_24 H locs hp_25 hH => ?_)
                obtain ⟨cd5, r5, k5, fd5, ed5, rfl, hcd5, hfd5, hrk5, hkk5, hed5, hnx5, hq_26⟩ := hp_25
                have eM6 : σ_24 (65) = .inr (6, [.int (oI (0)), .ref (ad (66)), .int (oI (((si : Nat) : Int))), .ref (ad (67)), .ref (ad (68)), .ref (ad (69)), .int (oI (((ac6 : Nat) : Int))), .ref (ad (70)), .ref (ad (71)), .ref (ad (72)), .ref (ad (73)), .ref (ad (74)), .int (oI (((spo : Nat) : Int))), .int (oI (((ou6 : Nat) : Int)))]) := (hq_26 _ ).trans eM6
                have e67 : σ_24 (67) = oAI cT 171 f := (hq_26 _ ).trans e67
                have e72 : σ_24 (72) = oAN cT 41 s5 := (hq_26 _ ).trans e72
                have e73 : σ_24 (73) = oAI cT 201 F5 := (hq_26 _ ).trans e73
                have e74 : σ_24 (74) = oAI cT 201 R5 := (hq_26 _ ).trans e74
                have hf : ∀ q : Nat, q ≠ 65 → q ≠ 72 → q ≠ 73 → q ≠ 74 → σ_24 q = σ q := fun q n0 n1 n2 n3 => (hq_26 q ).trans (hf q n0 n1 n2 n3)
                have hL73 : ∀ q : Nat, q ≠ 73 → σ_24 q = σ_18 q := fun q n0 => (hq_26 q ).trans (hL73 q n0)
                have hly9 : oLyR n w (oD (oOrW n w (-1) 4) t.toNat) ((oD (oOrW n w (-1) 4) t.toNat) 0) (i + 1) r5 k5 fd5 ed5 := by obtain ⟨r8, k8, f8, hly8⟩ := hly; rw [oD0, hal]; exact ⟨r8, k8, f8, _, hly8, by rw [show al - ((i : Nat) : Int) - 1 = ((v9n : Nat) : Int) by omega]; exact hnx5⟩
                refine lv_istore (lv' := [(5, .int (oI (cd5))), (0, .ref (ad (65))), (2, .int (oI (k))), (3, .int (oI (x))), (4, .int (oI (((fr : Nat) : Int))))]) hx hb dX6_laying_105 hl (by decide) rfl (fun ls hl => ?_)
                refine lv_iload_n hx hb dX6_laying_107 rfl (lv_at hl 3 rfl) ?_
                refine m_if_ne 122 hx hb dX6_laying_108 (by decide) (by omega) (fun h_28 => ?_) (fun h_28 => ?_)
                · refine lv_iload_n hx hb dX6_laying_122 rfl (lv_at hl 3 rfl) ?_
                  refine m_iconst 1 hx hb dX6_laying_123 rfl ?_
                  refine m_icmp_ne 138 hx hb dX6_laying_124 (by decide) (by omega) (by omega) (fun h_29 => ?_) (fun h_29 => ?_)
                  · refine lv_iload_n hx hb dX6_laying_138 rfl (lv_at hl 3 rfl) ?_
                    refine m_iconst 2 hx hb dX6_laying_139 rfl ?_
                    refine m_icmp_ne 150 hx hb dX6_laying_140 (by decide) (by omega) (by omega) (fun h_30 => ?_) (fun h_30 => ?_)
                    · refine lv_aload_n hx hb dX6_laying_150 rfl (lv_at hl 1 rfl) ?_
                      refine lv_iload hx hb dX6_laying_151 (lv_at hl 4 rfl) ?_
                      refine lv_iload hx hb dX6_laying_153 (lv_at hl 0 rfl) ?_
                      refine m_pVi hx hb hml hown hts hK hH hl (rest := []) cw_X6_215 (c6_ends hA fr r5 k5 t.toNat cd5 fd5 ed5 ((v9n : Nat) : Int) si ac6 spo ou6 0 n a g f sz w (by first | assumption | omega) (by first | assumption | omega) (by first | assumption | omega) (by first | assumption | omega) (by first | assumption | omega) (by first | assumption | omega) (by first | assumption | omega) (by first | assumption | omega) (hkk5) (by first | assumption | omega) (hnx5) eM6 e67) ⟨Nat.le_of_ble_eq_true rfl, Nat.le_of_ble_eq_true rfl⟩ ⟨Nat.le_of_ble_eq_true rfl, Nat.le_of_ble_eq_true rfl⟩ rfl (k := 65) (by omega) eM6 rfl rfl (Nat.le_of_ble_eq_true rfl) dX6_laying_155 (fun H locs hH => ?_)
                      exact m_iret hx hb hlk hrt hH (m_ni _) dX6_laying_158 ⟨ed5, 0, s5, F5, R5, rfl, (Or.inl ⟨⟨by omega, by omega, by omega, by omega⟩, rfl, Or.inr ⟨by rw [oD0, hal]; omega, r5, k5, fd5, ed5, by rw [show k.toNat = i by omega]; exact hly9, hfd5, by rw [show x = 3 by omega]; rfl⟩⟩), eM6, e72, e73, e74, hf⟩
                    · refine lv_iload hx hb dX6_laying_143 (lv_at hl 0 rfl) ?_
                      refine m_iconst 2 hx hb dX6_laying_145 rfl ?_
                      refine m_irem (fd5) hx hb dX6_laying_146 (by omega) (by omega) (by first | rfl | omega) ?_
                      refine lv_goto (tgt := 158) hx hb dX6_laying_147 (by decide) ?_
                      exact m_iret hx hb hlk hrt hH (m_ni _) dX6_laying_158 ⟨fd5, 0, s5, F5, R5, rfl, (Or.inl ⟨⟨by omega, by omega, by omega, by omega⟩, rfl, Or.inr ⟨by rw [oD0, hal]; omega, r5, k5, fd5, ed5, by rw [show k.toNat = i by omega]; exact hly9, hfd5, by rw [show x = 2 by omega]; rfl⟩⟩), eM6, e72, e73, e74, hf⟩
                  · refine lv_iload hx hb dX6_laying_127 (lv_at hl 0 rfl) ?_
                    refine m_iconst 2 hx hb dX6_laying_129 rfl ?_
                    refine m_idiv (((k5 : Nat) : Int) + 10000 * ((r5 : Nat) : Int)) hx hb dX6_laying_130 (by omega) (by omega) (by first | rfl | omega) ?_
                    refine m_sipush 10000 hx hb dX6_laying_131 (by decide) ?_
                    refine m_irem (((k5 : Nat) : Int)) hx hb dX6_laying_134 (by omega) (by omega) (by first | rfl | omega) ?_
                    refine lv_goto (tgt := 158) hx hb dX6_laying_135 (by decide) ?_
                    exact m_iret hx hb hlk hrt hH (m_ni _) dX6_laying_158 ⟨((k5 : Nat) : Int), 0, s5, F5, R5, rfl, (Or.inl ⟨⟨by omega, by omega, by omega, by omega⟩, rfl, Or.inr ⟨by rw [oD0, hal]; omega, r5, k5, fd5, ed5, by rw [show k.toNat = i by omega]; exact hly9, hfd5, by rw [show x = 1 by omega]; rfl⟩⟩), eM6, e72, e73, e74, hf⟩
                · refine lv_iload hx hb dX6_laying_111 (lv_at hl 0 rfl) ?_
                  refine m_iconst 2 hx hb dX6_laying_113 rfl ?_
                  refine m_idiv (((k5 : Nat) : Int) + 10000 * ((r5 : Nat) : Int)) hx hb dX6_laying_114 (by omega) (by omega) (by first | rfl | omega) ?_
                  refine m_sipush 10000 hx hb dX6_laying_115 (by decide) ?_
                  refine m_idiv (((r5 : Nat) : Int)) hx hb dX6_laying_118 (by omega) (by omega) (by first | rfl | omega) ?_
                  refine lv_goto (tgt := 158) hx hb dX6_laying_119 (by decide) ?_
                  exact m_iret hx hb hlk hrt hH (m_ni _) dX6_laying_158 ⟨((r5 : Nat) : Int), 0, s5, F5, R5, rfl, (Or.inl ⟨⟨by omega, by omega, by omega, by omega⟩, rfl, Or.inr ⟨by rw [oD0, hal]; omega, r5, k5, fd5, ed5, by rw [show k.toNat = i by omega]; exact hly9, hfd5, by rw [show x = 0 by omega]; rfl⟩⟩), eM6, e72, e73, e74, hf⟩
              · refine lv_aload_n hx hb dX6_laying_79 rfl (lv_at hl 0 rfl) ?_
                refine lv_iload hx hb dX6_laying_80 (lv_at hl 3 rfl) ?_
                refine lv_aload_n hx hb dX6_laying_82 rfl (lv_at hl 0 rfl) ?_
                refine lv_iload hx hb dX6_laying_83 (lv_at hl 3 rfl) ?_
                obtain ⟨v9n, hv9n⟩ : ∃ v : Nat, al - ((i : Nat) : Int) = ((v + 1 : Nat) : Int) := ⟨(al - ((i : Nat) : Int) - 1).toNat, by omega⟩
                have hex9 := oNx_ex (n := n) (w := w) (sp := (oOrW n w (-1) 4)) (a := t.toNat) (v := v9n) (fr := ((fr : Nat) : Int)) hw41 rfl (by omega) (by rw [hD]; exact hv9n)
                refine m_callVi hx hb hml hown hts hK hH hl (rest := [.int (oI (((fr : Nat) : Int))), .ref (ad (65))]) cw_X6_212 (c6_nextLaying hA fr t.toNat ((v9n : Nat) : Int) si ac6 spo ou6 0 n a g f sz w F5 (by first | assumption | omega) (by first | assumption | omega) (by first | assumption | omega) (by first | assumption | omega) (by first | assumption | omega) (by first | assumption | omega) (by first | assumption | omega) (hF5) (by rw [← oD_nat (sp := (oOrW n w (-1) 4)) (a := t.toNat) hfr2, hD]; omega) (hex9) eM6 e67 e73) ⟨Nat.le_of_ble_eq_true rfl, Nat.le_of_ble_eq_true rfl⟩ ⟨Nat.le_of_ble_eq_true rfl, Nat.le_of_ble_eq_true rfl⟩ rfl (k := 65) (by omega) eM6 rfl rfl (Nat.le_of_ble_eq_true rfl) dX6_laying_85 (fun r_34 σ_31 H locs hp_32 hH => ?_)
                obtain ⟨cd5, r5, k5, fd5, ed5, rfl, hcd5, hfd5, hrk5, hkk5, hed5, hnx5, hq_33⟩ := hp_32
                have eM6 : σ_31 (65) = .inr (6, [.int (oI (0)), .ref (ad (66)), .int (oI (((si : Nat) : Int))), .ref (ad (67)), .ref (ad (68)), .ref (ad (69)), .int (oI (((ac6 : Nat) : Int))), .ref (ad (70)), .ref (ad (71)), .ref (ad (72)), .ref (ad (73)), .ref (ad (74)), .int (oI (((spo : Nat) : Int))), .int (oI (((ou6 : Nat) : Int)))]) := (hq_33 _ ).trans eM6
                have e67 : σ_31 (67) = oAI cT 171 f := (hq_33 _ ).trans e67
                have e72 : σ_31 (72) = oAN cT 41 s5 := (hq_33 _ ).trans e72
                have e73 : σ_31 (73) = oAI cT 201 F5 := (hq_33 _ ).trans e73
                have e74 : σ_31 (74) = oAI cT 201 R5 := (hq_33 _ ).trans e74
                have hf : ∀ q : Nat, q ≠ 65 → q ≠ 72 → q ≠ 73 → q ≠ 74 → σ_31 q = σ q := fun q n0 n1 n2 n3 => (hq_33 q ).trans (hf q n0 n1 n2 n3)
                have hL73 : ∀ q : Nat, q ≠ 73 → σ_31 q = σ_18 q := fun q n0 => (hq_33 q ).trans (hL73 q n0)
                refine m_pVi hx hb hml hown hts hK hH hl (rest := []) cw_X6_215 (c6_ends hA fr r5 k5 t.toNat cd5 fd5 ed5 ((v9n : Nat) : Int) si ac6 spo ou6 0 n a g f sz w (by first | assumption | omega) (by first | assumption | omega) (by first | assumption | omega) (by first | assumption | omega) (by first | assumption | omega) (by first | assumption | omega) (by first | assumption | omega) (by first | assumption | omega) (hkk5) (by first | assumption | omega) (hnx5) eM6 e67) ⟨Nat.le_of_ble_eq_true rfl, Nat.le_of_ble_eq_true rfl⟩ ⟨Nat.le_of_ble_eq_true rfl, Nat.le_of_ble_eq_true rfl⟩ rfl (k := 65) (by omega) eM6 rfl rfl (Nat.le_of_ble_eq_true rfl) dX6_laying_88 (fun H locs hH => ?_)
                refine m_topI (((ed5.toNat : Nat) : Int)) (by omega) ?_
                refine lv_istore (lv' := [(4, .int (oI (((ed5.toNat : Nat) : Int)))), (0, .ref (ad (65))), (2, .int (oI (k))), (3, .int (oI (x))), (5, .int (oI (((i : Nat) : Int))))]) hx hb dX6_laying_91 hl (by decide) rfl (fun ls hl => ?_)
                refine m_iinc (((i : Nat) : Int) + 1) [(5, .int (oI (((i : Nat) : Int) + 1))), (4, .int (oI (((ed5.toNat : Nat) : Int)))), (0, .ref (ad (65))), (2, .int (oI (k))), (3, .int (oI (x)))] hx hb dX6_laying_93 hl (j := 4) rfl (by omega) (by decide) rfl (fun ls hl => ?_)
                refine lv_goto (tgt := 73) hx hb dX6_laying_96 (by decide) ?_
                exact ih73 ed5.toNat (i + 1) (by omega) (by first | assumption | omega) (by first | assumption | omega) (by rw [show ((ed5.toNat : Nat) : Int) = ed5 by omega, oNx_D hnx5]; omega) (⟨r5, k5, fd5, by rw [show ((ed5.toNat : Nat) : Int) = ed5 by omega]; obtain ⟨r8, k8, f8, hly8⟩ := hly; exact ⟨r8, k8, f8, _, hly8, by rw [show al - ((i : Nat) : Int) - 1 = ((v9n : Nat) : Int) by omega]; exact hnx5⟩⟩) _ e73 (hL73) _ _ hH ls (lv_sub hl [2, 3, 4, 1, 0] rfl)
          exact L73 _ 0 0 (Nat.lt_succ_self _) (by first | assumption | omega) (by first | assumption | omega) (by rw [show ((0 : Nat) : Int) = 0 from rfl, oD0, hal]; omega) (⟨0, 0, 0, rfl⟩) _ e73 (fun q _ => rfl) _ _ hH ls (lv_sub hl [2, 4, 5, 1, 0] rfl)
        · refine m_iconst (-1) hx hb dX6_laying_65 rfl ?_
          exact m_iret hx hb hlk hrt hH (m_ni _) dX6_laying_66 ⟨(-1), 0, s5, F5, R5, rfl, (Or.inl ⟨⟨by omega, by omega, by omega, by omega⟩, rfl, Or.inl ⟨by rw [oD0, hal]; omega, rfl⟩⟩), eM6, e72, e73, e74, hf⟩
      · refine m_if_eq 33 hx hb dX6_laying_26 (by decide) (by omega) (fun h_35 => ?_) (fun h_35 => absurd h_35 (by omega))
        refine m_iconst 1 hx hb dX6_laying_33 rfl ?_
        refine m_callVi hx hb hml hown hts hK hH hl (rest := []) cw_X6_111 (c6_ref1 hA 1 si ac6 spo ou6 rf (by first | assumption | omega) (by first | assumption | omega) eM6) ⟨Nat.le_of_ble_eq_true rfl, Nat.le_of_ble_eq_true rfl⟩ ⟨Nat.le_of_ble_eq_true rfl, Nat.le_of_ble_eq_true rfl⟩ rfl (k := 65) (by omega) eM6 rfl rfl (Nat.le_of_ble_eq_true rfl) dX6_laying_34 (fun r_39 σ_36 H locs hp_37 hH => ?_)
        obtain ⟨rfl, eM6, hq_38⟩ := hp_37
        have e67 : σ_36 (67) = oAI cT 171 f := (hq_38 _ (by decide)).trans e67
        have e72 : σ_36 (72) = oAN cT 41 s := (hq_38 _ (by decide)).trans e72
        have e73 : σ_36 (73) = oAI cT 201 F := (hq_38 _ (by decide)).trans e73
        have e74 : σ_36 (74) = oAI cT 201 R := (hq_38 _ (by decide)).trans e74
        have hf : ∀ q : Nat, q ≠ 65 → q ≠ 72 → q ≠ 73 → q ≠ 74 → σ_36 q = σ q := fun q n0 n1 n2 n3 => (hq_38 q n0).trans (hf q n0 n1 n2 n3)
        refine m_if_eq 42 hx hb dX6_laying_37 (by decide) (by omega) (fun h_40 => absurd h_40 (by omega)) (fun h_40 => ?_)
        refine m_iconst 0 hx hb dX6_laying_40 rfl ?_
        exact m_iret hx hb hlk hrt hH (m_ni _) dX6_laying_41 ⟨0, 1, s, F, R, rfl, (Or.inr ⟨rfl, by omega⟩), eM6, e72, e73, e74, hf⟩
  · refine m_if_eq 33 hx hb dX6_laying_10 (by decide) (by omega) (fun h_41 => ?_) (fun h_41 => absurd h_41 (by omega))
    refine m_iconst 1 hx hb dX6_laying_33 rfl ?_
    refine m_callVi hx hb hml hown hts hK hH hl (rest := []) cw_X6_111 (c6_ref1 hA 1 si ac6 spo ou6 rf (by first | assumption | omega) (by first | assumption | omega) eM6) ⟨Nat.le_of_ble_eq_true rfl, Nat.le_of_ble_eq_true rfl⟩ ⟨Nat.le_of_ble_eq_true rfl, Nat.le_of_ble_eq_true rfl⟩ rfl (k := 65) (by omega) eM6 rfl rfl (Nat.le_of_ble_eq_true rfl) dX6_laying_34 (fun r_45 σ_42 H locs hp_43 hH => ?_)
    obtain ⟨rfl, eM6, hq_44⟩ := hp_43
    have e67 : σ_42 (67) = oAI cT 171 f := (hq_44 _ (by decide)).trans e67
    have e72 : σ_42 (72) = oAN cT 41 s := (hq_44 _ (by decide)).trans e72
    have e73 : σ_42 (73) = oAI cT 201 F := (hq_44 _ (by decide)).trans e73
    have e74 : σ_42 (74) = oAI cT 201 R := (hq_44 _ (by decide)).trans e74
    have hf : ∀ q : Nat, q ≠ 65 → q ≠ 72 → q ≠ 73 → q ≠ 74 → σ_42 q = σ q := fun q n0 n1 n2 n3 => (hq_44 q n0).trans (hf q n0 n1 n2 n3)
    refine m_if_eq 42 hx hb dX6_laying_37 (by decide) (by omega) (fun h_46 => absurd h_46 (by omega)) (fun h_46 => ?_)
    refine m_iconst 0 hx hb dX6_laying_40 rfl ?_
    exact m_iret hx hb hlk hrt hH (m_ni _) dX6_laying_41 ⟨0, 1, s, F, R, rfl, (Or.inr ⟨rfl, by omega⟩), eM6, e72, e73, e74, hf⟩
