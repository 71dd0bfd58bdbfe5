theorem oErr_K {T : Nat → Int} {z : Nat} (hz : ¬ z = 0) (h : T 0 = 75) : oErr T z = oScan T z 120 1 := if_neg (by omega)
theorem oErr_0 {T : Nat → Int} {z : Nat} (h : z = 0 ∨ T 0 ≠ 75) : oErr T z = 0 := if_pos h
theorem oKz0 {kz : Nat → Int} : ∀ i : Nat, i < 2 → va_up (va_up kz 0 0) 1 0 i = 0 := by
  intro i hi
  rcases (show i = 0 ∨ i = 1 by omega) with h | h
  · rw [h, va_up_n _ _ (by omega), va_up_s]
  · rw [h, va_up_s]
set_option maxHeartbeats 4000000 in
set_option maxRecDepth 100000 in
theorem c6_readText {l : Launch} {D : va_G} {cT : Nat → ClassId} {N b0 : Nat} {ad : Nat → Nat} (hA : oAd b0 N ad) {σ : Nat → va_E} (si ac6 spo ou6 : Nat) (rf : Int) (T f : Nat → Int) (sz0 w0 : Nat → Nat) (hN : 76 ≤ N) (hT : ∀ i : Nat, i < si → 0 ≤ T i ∧ T i ≤ 255) (hsi : si ≤ 120) (eM6 : σ (65) = .inr (6, [.int (oI (rf)), .ref (ad (66)), .int (oI (((si : Nat) : Int))), .ref (ad (67)), .ref (ad (68)), .ref (ad (69)), .int (oI (((ac6 : Nat) : Int))), .ref (ad (70)), .ref (ad (71)), .ref (ad (72)), .ref (ad (73)), .ref (ad (74)), .int (oI (((spo : Nat) : Int))), .int (oI (((ou6 : Nat) : Int)))])) (e66 : σ (66) = oAI cT 120 T) (e68 : σ (68) = oAI cT 171 f) :
    oCi l D cT N ad b0 yX6_readText cX6_readText 2 (some .int) 6 139 [.ref (ad (65)), .ref (ad (68))] σ (fun rr uu => ∃ p2 : Nat, ∃ ou2 : Nat, ∃ g2 : Nat → Int, rr = oI ((oErr T si)) ∧ (oErr T si = -1 → ∃ (n1 a1 g1 : Nat) (sz1 w1 : Nat → Nat), oRunC T si 120 1 0 0 2 40 sz0 w0 = (ou2, n1, a1, g1, sz1, w1) ∧ oRS g2 n1 a1 g1 sz1 w1 ∧ oWf n1 sz1 w1 ∧ oAg a1 g1) ∧ (p2 ≤ 150) ∧ (ou2 ≤ 200) ∧ uu (65) = .inr (6, [.int (oI (rf)), .ref (ad (66)), .int (oI (((si : Nat) : Int))), .ref (ad (67)), .ref (ad (68)), .ref (ad (69)), .int (oI (((ac6 : Nat) : Int))), .ref (ad (70)), .ref (ad (71)), .ref (ad (72)), .ref (ad (73)), .ref (ad (74)), .int (oI (((p2 : Nat) : Int))), .int (oI (((ou2 : Nat) : Int)))]) ∧ uu (68) = oAI cT 171 g2 ∧ (∀ q : Nat, q ≠ 65 → q ≠ 68 → uu q = σ q)) := by
  refine m_start (cc := cX6_readText) (by decide) (Nat.le_of_ble_eq_true rfl) rfl ?_
  intro Pp Ee Ss Mm Bb Me Cc Ar ls hx hb hml hown hlk hrt hts hK hH hl
  have hown : Ss.vm.findClass RX6 = some Mm.cls := hown
  have heb : oEq2 (-1 ≤ oErr T si ∧ oErr T si ≤ 200) := oErr_b hsi
  have hl : lv_has ls 2 [(0, .ref (ad (65))), (1, .ref (ad (68)))] := hl
  have hf : ∀ q : Nat, q ≠ 65 → q ≠ 68 → σ q = σ q := fun q _ _ => rfl
  refine lv_aload_n hx hb dX6_readText_0 rfl (lv_at hl 1 rfl) ?_
  refine m_callSv hx hb hml hown hts hK hH hl (rest := []) cw_X6_38 rfl (c6_clear hA 68 f (by first | assumption | omega) e68) ⟨Nat.le_of_ble_eq_true rfl, Nat.le_of_ble_eq_true rfl⟩ ⟨Nat.le_of_ble_eq_true rfl, Nat.le_of_ble_eq_true rfl⟩ rfl rfl (Nat.le_of_ble_eq_true rfl) dX6_readText_1 (fun σ_1 H locs hp_2 hH => ?_)
  obtain ⟨f5, hz5, e68, hq_3⟩ := hp_2
  have eM6 : σ_1 (65) = .inr (6, [.int (oI (rf)), .ref (ad (66)), .int (oI (((si : Nat) : Int))), .ref (ad (67)), .ref (ad (68)), .ref (ad (69)), .int (oI (((ac6 : Nat) : Int))), .ref (ad (70)), .ref (ad (71)), .ref (ad (72)), .ref (ad (73)), .ref (ad (74)), .int (oI (((spo : Nat) : Int))), .int (oI (((ou6 : Nat) : Int)))]) := (hq_3 _ (by decide)).trans eM6
  have e66 : σ_1 (66) = oAI cT 120 T := (hq_3 _ (by decide)).trans e66
  have hf : ∀ q : Nat, q ≠ 65 → q ≠ 68 → σ_1 q = σ q := fun q n0 n1 => (hq_3 q n1).trans (hf q n0 n1)
  refine lv_aload_n hx hb dX6_readText_4 rfl (lv_at hl 0 rfl) ?_
  refine m_iconst 0 hx hb dX6_readText_5 rfl ?_
  refine pf_X6_out hx hb hts hown hK hH hA (k := 65) (by omega) eM6 dX6_readText_6 (fun H locs σ_5 eM6 hq_6 hH => ?_)
  have e66 : σ_5 (66) = oAI cT 120 T := (hq_6 _ (by decide)).trans e66
  have e68 : σ_5 (68) = oAI cT 171 f5 := (hq_6 _ (by decide)).trans e68
  have hf : ∀ q : Nat, q ≠ 65 → q ≠ 68 → σ_5 q = σ q := fun q n0 n1 => (hq_6 q n0).trans (hf q n0 n1)
  refine lv_aload_n hx hb dX6_readText_9 rfl (lv_at hl 0 rfl) ?_
  refine m_iconst 0 hx hb dX6_readText_10 rfl ?_
  refine pf_X6_spot hx hb hts hown hK hH hA (k := 65) (by omega) eM6 dX6_readText_11 (fun H locs σ_7 eM6 hq_8 hH => ?_)
  have e66 : σ_7 (66) = oAI cT 120 T := (hq_8 _ (by decide)).trans e66
  have e68 : σ_7 (68) = oAI cT 171 f5 := (hq_8 _ (by decide)).trans e68
  have hf : ∀ q : Nat, q ≠ 65 → q ≠ 68 → σ_7 q = σ q := fun q n0 n1 => (hq_8 q n0).trans (hf q n0 n1)
  refine lv_aload_n hx hb dX6_readText_14 rfl (lv_at hl 0 rfl) ?_
  refine gf_X6_size hx hb hts hown hK hH (k := 65) (by omega) eM6 dX6_readText_15 ?_
  refine m_if_eq 32 hx hb dX6_readText_18 (by decide) (by omega) (fun h_9 => ?_) (fun h_9 => ?_)
  · refine m_iconst 0 hx hb dX6_readText_32 rfl ?_
    exact m_iret hx hb hlk hrt hH (m_ni _) dX6_readText_33 ⟨0, 0, f5, congrArg oI ((oErr_0 (by omega)).symm), (fun q => absurd q (by rw [oErr_0 (by omega)]; decide)), (by first | assumption | omega), (by first | assumption | omega), eM6, e68, hf⟩
  · refine lv_aload_n hx hb dX6_readText_21 rfl (lv_at hl 0 rfl) ?_
    refine gf_X6_text hx hb hts hown hK hH (k := 65) (by omega) eM6 dX6_readText_22 ?_
    refine m_iconst 0 hx hb dX6_readText_25 rfl ?_
    refine m_iald hx hb hK hH (k := 66) (by omega) e66 (0) (by omega) (by omega) (by decide) dX6_readText_26 ?_
    have hT0 := hT 0 (by omega)
    refine m_bipush 75 hx hb dX6_readText_27 (by decide) ?_
    refine m_icmp_eq 34 hx hb dX6_readText_29 (by decide) (by omega) (by omega) (fun h_10 => ?_) (fun h_10 => ?_)
    · refine lv_aload_n hx hb dX6_readText_34 rfl (lv_at hl 0 rfl) ?_
      refine m_iconst 1 hx hb dX6_readText_35 rfl ?_
      refine pf_X6_spot hx hb hts hown hK hH hA (k := 65) (by omega) eM6 dX6_readText_36 (fun H locs σ_11 eM6 hq_12 hH => ?_)
      have e66 : σ_11 (66) = oAI cT 120 T := (hq_12 _ (by decide)).trans e66
      have e68 : σ_11 (68) = oAI cT 171 f5 := (hq_12 _ (by decide)).trans e68
      have hf : ∀ q : Nat, q ≠ 65 → q ≠ 68 → σ_11 q = σ q := fun q n0 n1 => (hq_12 q n0).trans (hf q n0 n1)
      have L39 : ∀ (fu : Nat) (p : Nat) (ou : Nat) (m : Nat) (n : Nat) (a : Nat) (g : Nat) (g3 : Nat → Int) (sz3 : Nat → Nat) (w3 : Nat → Nat), (122 - p < fu) → (1 ≤ p ∧ p ≤ 121) → (121 ≤ m + p) → (oErr T si = oScan T si m p) → (oRunC T si 120 1 0 0 2 40 sz0 w0 = oRunC T si m p ou n a g sz3 w3) → (oRS g3 n a g sz3 w3) → (oWf n sz3 w3) → (oAg a g) → (ou ≤ p) → ∀ σL39 : Nat → va_E, σL39 (65) = .inr (6, [.int (oI (rf)), .ref (ad (66)), .int (oI (((si : Nat) : Int))), .ref (ad (67)), .ref (ad (68)), .ref (ad (69)), .int (oI (((ac6 : Nat) : Int))), .ref (ad (70)), .ref (ad (71)), .ref (ad (72)), .ref (ad (73)), .ref (ad (74)), .int (oI (((p : Nat) : Int))), .int (oI (((ou : Nat) : Int)))]) → σL39 (68) = oAI cT 171 g3 → (∀ q : Nat, q ≠ 65 → q ≠ 68 → σL39 q = σ_11 q) → ∀ (H : Heap) (locs : List Loc), oH b0 D N ad Ss.heap σL39 H locs → ∀ ls : Array Slot, lv_has ls 2 [(0, .ref (ad (65))), (1, .ref (ad (68)))] → W Pp l Ee { frames := 6, cells := 0, slots := 0, locals := 139 } Ss Mm Ar Bb Me Cc H locs 0 0 (MQ Bb (va_Qi (fun rr uu => ∃ p2 : Nat, ∃ ou2 : Nat, ∃ g2 : Nat → Int, rr = oI ((oErr T si)) ∧ (oErr T si = -1 → ∃ (n1 a1 g1 : Nat) (sz1 w1 : Nat → Nat), oRunC T si 120 1 0 0 2 40 sz0 w0 = (ou2, n1, a1, g1, sz1, w1) ∧ oRS g2 n1 a1 g1 sz1 w1 ∧ oWf n1 sz1 w1 ∧ oAg a1 g1) ∧ (p2 ≤ 150) ∧ (ou2 ≤ 200) ∧ uu (65) = .inr (6, [.int (oI (rf)), .ref (ad (66)), .int (oI (((si : Nat) : Int))), .ref (ad (67)), .ref (ad (68)), .ref (ad (69)), .int (oI (((ac6 : Nat) : Int))), .ref (ad (70)), .ref (ad (71)), .ref (ad (72)), .ref (ad (73)), .ref (ad (74)), .int (oI (((p2 : Nat) : Int))), .int (oI (((ou2 : Nat) : Int)))]) ∧ uu (68) = oAI cT 171 g2 ∧ (∀ q : Nat, q ≠ 65 → q ≠ 68 → uu q = σ q)) (oV D N ad) (fun q => b0 ≤ q)) Ar Ss 0 0 (fun q => b0 ≤ q)) (F0 Mm 39 ls []) := by
        intro fu39
        induction fu39 with
        | zero =>
          intro p ou m n a g g3 sz3 w3 hm39
          exact absurd hm39 (Nat.not_lt_zero _)
        | succ fu39 ih39 =>
          intro p ou m n a g g3 sz3 w3 hm39 hpz hmp hE hRun hp3 hwf3 hag3 hou σL39 eM6 e68 hL39 H locs hH ls hl
          have e66 : σL39 (66) = oAI cT 120 T := (hL39 _ (by decide) (by decide)).trans e66
          have hf : ∀ q : Nat, q ≠ 65 → q ≠ 68 → σL39 q = σ q := fun q n0 n1 => (hL39 q n0 n1).trans (hf q n0 n1)
          refine lv_aload_n hx hb dX6_readText_39 rfl (lv_at hl 0 rfl) ?_
          refine gf_X6_spot hx hb hts hown hK hH (k := 65) (by omega) eM6 dX6_readText_40 ?_
          refine lv_aload_n hx hb dX6_readText_43 rfl (lv_at hl 0 rfl) ?_
          refine gf_X6_size hx hb hts hown hK hH (k := 65) (by omega) eM6 dX6_readText_44 ?_
          refine m_icmp_ge 63 hx hb dX6_readText_47 (by decide) (by omega) (by omega) (fun h_13 => ?_) (fun h_13 => ?_)
          · refine m_iconst (-1) hx hb dX6_readText_63 rfl ?_
            exact m_iret hx hb hlk hrt hH (m_ni _) dX6_readText_64 ⟨p, ou, g3, congrArg oI (by rw [hE, oScan_end (by omega)]), (fun _ => ⟨n, a, g, sz3, w3, by rw [hRun, oRunC_end (by omega)], hp3, hwf3, hag3⟩), (by first | assumption | omega), (by first | assumption | omega), eM6, e68, hf⟩
          · obtain ⟨m1, hm1⟩ : ∃ k : Nat, m = k + 1 := ⟨m - 1, by omega⟩
            refine lv_aload_n hx hb dX6_readText_50 rfl (lv_at hl 0 rfl) ?_
            refine lv_aload_n hx hb dX6_readText_51 rfl (lv_at hl 1 rfl) ?_
            refine m_callVi hx hb hml hown hts hK hH hl (rest := []) cw_X6_156 (c6_readCommand hA si ac6 p ou rf T n a g g3 sz3 w3 (by first | assumption | omega) (by first | assumption | omega) (by first | assumption | omega) (hwf3) (hag3) (hp3) (by first | assumption | omega) (by first | assumption | omega) eM6 e66 e68) ⟨Nat.le_of_ble_eq_true rfl, Nat.le_of_ble_eq_true rfl⟩ ⟨Nat.le_of_ble_eq_true rfl, Nat.le_of_ble_eq_true rfl⟩ rfl (k := 65) (by omega) eM6 rfl rfl (Nat.le_of_ble_eq_true rfl) dX6_readText_52 (fun r_17 σ_14 H locs hp_15 hH => ?_)
            obtain ⟨b5, p5, ou5, f6, rfl, hb5, hC5, f_18, f_19, eM6, e68, hq_16⟩ := hp_15
            have e66 : σ_14 (66) = oAI cT 120 T := (hq_16 _ (by decide) (by decide)).trans e66
            have hf : ∀ q : Nat, q ≠ 65 → q ≠ 68 → σ_14 q = σ q := fun q n0 n1 => (hq_16 q n0 n1).trans (hf q n0 n1)
            have hL39 : ∀ q : Nat, q ≠ 65 → q ≠ 68 → σ_14 q = σ_11 q := fun q n0 n1 => (hq_16 q n0 n1).trans (hL39 q n0 n1)
            refine m_if_ne 39 hx hb dX6_readText_55 (by decide) (by omega) (fun h_20 => ?_) (fun h_20 => ?_)
            · obtain ⟨-, ac, xx, yy, onx, rt, n5, a5, g5, s5, w5, k1, k2, k3, k4, k5, k6, k7⟩ := hC5.resolve_right (fun q => absurd q.1 (by omega))
              have kg := oRc_good k1 rfl
              exact ih39 p5 ou5 m1 n5 a5 g5 f6 s5 w5 (by omega) (by first | assumption | omega) (by first | assumption | omega) (by rw [hE, hm1, oScan_ok (by omega) k1 rfl]) (by rw [hRun, hm1, oRunC_s (by omega) k1 rfl k2 k3, k7]) (k4) (k5) (k6) (by first | assumption | omega) _ eM6 e68 (hL39) _ _ hH ls (lv_sub hl [0, 1] rfl)
            · obtain ⟨-, fo, ac, xx, yy, q2, k1, k2, k3⟩ := hC5.resolve_left (fun q => absurd q.1 (by omega))
              have herr : oErr T si = ((p5 : Nat) : Int) := by rw [hE, hm1, oScan_no (by omega) k2 k1, k3]
              refine lv_aload_n hx hb dX6_readText_58 rfl (lv_at hl 0 rfl) ?_
              refine gf_X6_spot hx hb hts hown hK hH (k := 65) (by omega) eM6 dX6_readText_59 ?_
              exact m_iret hx hb hlk hrt hH (m_ni _) dX6_readText_62 ⟨p5, ou5, f6, congrArg oI (herr.symm), (fun q => absurd q (by rw [herr]; omega)), (by first | assumption | omega), (by first | assumption | omega), eM6, e68, hf⟩
      exact L39 _ 1 0 120 0 2 40 f5 sz0 w0 (Nat.lt_succ_self _) (by first | assumption | omega) (by first | assumption | omega) (oErr_K (by omega) (by omega)) (rfl) (hz5 sz0 w0) (⟨by omega, fun r h => absurd h (Nat.not_lt_zero _)⟩) (⟨by omega, by omega⟩) (by first | assumption | omega) _ eM6 e68 (fun q _ _ => rfl) _ _ hH ls (lv_sub hl [0, 1] rfl)
    · refine m_iconst 0 hx hb dX6_readText_32 rfl ?_
      exact m_iret hx hb hlk hrt hH (m_ni _) dX6_readText_33 ⟨0, 0, f5, congrArg oI ((oErr_0 (by omega)).symm), (fun q => absurd q (by rw [oErr_0 (by omega)]; decide)), (by first | assumption | omega), (by first | assumption | omega), eM6, e68, hf⟩
set_option maxHeartbeats 4000000 in
set_option maxRecDepth 100000 in
theorem c6_errorPosition {l : Launch} {D : va_G} {cT : Nat → ClassId} {N b0 : Nat} {ad : Nat → Nat} (hA : oAd b0 N ad) {σ : Nat → va_E} (si ac6 spo ou6 : Nat) (rf : Int) (T f : Nat → Int) (hN : 76 ≤ N) (hT : ∀ i : Nat, i < si → 0 ≤ T i ∧ T i ≤ 255) (hsi : si ≤ 120) (eM6 : σ (65) = .inr (6, [.int (oI (rf)), .ref (ad (66)), .int (oI (((si : Nat) : Int))), .ref (ad (67)), .ref (ad (68)), .ref (ad (69)), .int (oI (((ac6 : Nat) : Int))), .ref (ad (70)), .ref (ad (71)), .ref (ad (72)), .ref (ad (73)), .ref (ad (74)), .int (oI (((spo : Nat) : Int))), .int (oI (((ou6 : Nat) : Int)))])) (e66 : σ (66) = oAI cT 120 T) (e68 : σ (68) = oAI cT 171 f) :
    oCi l D cT N ad b0 yX6_errorPosition cX6_errorPosition 1 (some .int) 7 160 [.ref (ad (65))] σ (fun rr uu => ∃ p2 : Nat, ∃ ou2 : Nat, ∃ g2 : Nat → Int, rr = oI ((oErr T si)) ∧ (p2 ≤ 150) ∧ (ou2 ≤ 200) ∧ uu (65) = .inr (6, [.int (oI (0)), .ref (ad (66)), .int (oI (((si : Nat) : Int))), .ref (ad (67)), .ref (ad (68)), .ref (ad (69)), .int (oI (((ac6 : Nat) : Int))), .ref (ad (70)), .ref (ad (71)), .ref (ad (72)), .ref (ad (73)), .ref (ad (74)), .int (oI (((p2 : Nat) : Int))), .int (oI (((ou2 : Nat) : Int)))]) ∧ uu (68) = oAI cT 171 g2 ∧ (∀ q : Nat, q ≠ 65 → q ≠ 68 → uu q = σ q)) := by
  refine m_start (cc := cX6_errorPosition) (by decide) (Nat.le_of_ble_eq_true rfl) rfl ?_
  intro Pp Ee Ss Mm Bb Me Cc Ar ls hx hb hml hown hlk hrt hts hK hH hl
  have hown : Ss.vm.findClass RX6 = some Mm.cls := hown
  have hl : lv_has ls 1 [(0, .ref (ad (65)))] := hl
  have hf : ∀ q : Nat, q ≠ 65 → q ≠ 68 → σ q = σ q := fun q _ _ => rfl
  refine lv_aload_n hx hb dX6_errorPosition_0 rfl (lv_at hl 0 rfl) ?_
  refine m_iconst 0 hx hb dX6_errorPosition_1 rfl ?_
  refine pf_X6_refusal hx hb hts hown hK hH hA (k := 65) (by omega) eM6 dX6_errorPosition_2 (fun H locs σ_1 eM6 hq_2 hH => ?_)
  have e66 : σ_1 (66) = oAI cT 120 T := (hq_2 _ (by decide)).trans e66
  have e68 : σ_1 (68) = oAI cT 171 f := (hq_2 _ (by decide)).trans e68
  have hf : ∀ q : Nat, q ≠ 65 → q ≠ 68 → σ_1 q = σ q := fun q n0 n1 => (hq_2 q n0).trans (hf q n0 n1)
  refine lv_aload_n hx hb dX6_errorPosition_5 rfl (lv_at hl 0 rfl) ?_
  refine lv_aload_n hx hb dX6_errorPosition_6 rfl (lv_at hl 0 rfl) ?_
  refine gf_X6_trial hx hb hts hown hK hH (k := 65) (by omega) eM6 dX6_errorPosition_7 ?_
  refine m_callVi hx hb hml hown hts hK hH hl (rest := []) cw_X6_160 (c6_readText hA si ac6 spo ou6 0 T f (fun _ => 0) (fun _ => 0) (by first | assumption | omega) (by first | assumption | omega) (by first | assumption | omega) eM6 e66 e68) ⟨Nat.le_of_ble_eq_true rfl, Nat.le_of_ble_eq_true rfl⟩ ⟨Nat.le_of_ble_eq_true rfl, Nat.le_of_ble_eq_true rfl⟩ rfl (k := 65) (by omega) eM6 rfl rfl (Nat.le_of_ble_eq_true rfl) dX6_errorPosition_10 (fun r_6 σ_3 H locs hp_4 hH => ?_)
  obtain ⟨p5, ou5, f5, rfl, hr0, f_7, f_8, eM6, e68, hq_5⟩ := hp_4
  have e66 : σ_3 (66) = oAI cT 120 T := (hq_5 _ (by decide) (by decide)).trans e66
  have hf : ∀ q : Nat, q ≠ 65 → q ≠ 68 → σ_3 q = σ q := fun q n0 n1 => (hq_5 q n0 n1).trans (hf q n0 n1)
  exact m_iret hx hb hlk hrt hH (m_ni _) dX6_errorPosition_13 ⟨p5, ou5, f5, rfl, (by first | assumption | omega), (by first | assumption | omega), eM6, e68, hf⟩
set_option maxHeartbeats 4000000 in
set_option maxRecDepth 100000 in
theorem c6_load {l : Launch} {D : va_G} {cT : Nat → ClassId} {N b0 : Nat} {ad : Nat → Nat} (hA : oAd b0 N ad) {σ : Nat → va_E} (si ac6 spo ou6 : Nat) (rf : Int) (T f f7 kz : Nat → Int) (sz0 w0 : Nat → Nat) (hN : 76 ≤ N) (hT : ∀ i : Nat, i < si → 0 ≤ T i ∧ T i ≤ 255) (hsi : si ≤ 120) (eM6 : σ (65) = .inr (6, [.int (oI (rf)), .ref (ad (66)), .int (oI (((si : Nat) : Int))), .ref (ad (67)), .ref (ad (68)), .ref (ad (69)), .int (oI (((ac6 : Nat) : Int))), .ref (ad (70)), .ref (ad (71)), .ref (ad (72)), .ref (ad (73)), .ref (ad (74)), .int (oI (((spo : Nat) : Int))), .int (oI (((ou6 : Nat) : Int)))])) (e66 : σ (66) = oAI cT 120 T) (e67 : σ (67) = oAI cT 171 f7) (e68 : σ (68) = oAI cT 171 f) (e71 : σ (71) = oAZ cT 2 kz) :
    oCi l D cT N ad b0 yX6_load cX6_load 1 (some .int) 7 160 [.ref (ad (65))] σ (fun rr uu => ∃ v9 : Int, ∃ r9 : Int, ∃ ac2 : Nat, ∃ p2 : Nat, ∃ ou2 : Nat, ∃ g2 : Nat → Int, ∃ g7 : Nat → Int, ∃ kz2 : Nat → Int, rr = oI (v9) ∧ ((oErr T si = -1 ∧ r9 = 0 ∧ v9 = (ou2 : Int) ∧ ac2 = 0 ∧ (∀ i : Nat, i < 2 → kz2 i = 0) ∧ ∃ (n1 a1 g1 : Nat) (sz1 w1 : Nat → Nat), oRunC T si 120 1 0 0 2 40 sz0 w0 = (ou2, n1, a1, g1, sz1, w1) ∧ oRS g7 n1 a1 g1 sz1 w1 ∧ oWf n1 sz1 w1 ∧ oAg a1 g1) ∨ (¬ oErr T si = -1 ∧ r9 = 1 ∧ ac2 = ac6 ∧ g7 = f7 ∧ kz2 = kz)) ∧ (p2 ≤ 150) ∧ (ou2 ≤ 200) ∧ uu (65) = .inr (6, [.int (oI (r9)), .ref (ad (66)), .int (oI (((si : Nat) : Int))), .ref (ad (67)), .ref (ad (68)), .ref (ad (69)), .int (oI (((ac2 : Nat) : Int))), .ref (ad (70)), .ref (ad (71)), .ref (ad (72)), .ref (ad (73)), .ref (ad (74)), .int (oI (((p2 : Nat) : Int))), .int (oI (((ou2 : Nat) : Int)))]) ∧ uu (67) = oAI cT 171 g7 ∧ uu (68) = oAI cT 171 g2 ∧ uu (71) = oAZ cT 2 kz2 ∧ (∀ q : Nat, q ≠ 65 → q ≠ 67 → q ≠ 68 → q ≠ 71 → uu q = σ q)) := by
  refine m_start (cc := cX6_load) (by decide) (Nat.le_of_ble_eq_true rfl) rfl ?_
  intro Pp Ee Ss Mm Bb Me Cc Ar ls hx hb hml hown hlk hrt hts hK hH hl
  have hown : Ss.vm.findClass RX6 = some Mm.cls := hown
  have heb : oEq2 (-1 ≤ oErr T si ∧ oErr T si ≤ 200) := oErr_b hsi
  have hl : lv_has ls 1 [(0, .ref (ad (65)))] := hl
  have hf : ∀ q : Nat, q ≠ 65 → q ≠ 67 → q ≠ 68 → q ≠ 71 → σ q = σ q := fun q _ _ _ _ => rfl
  refine lv_aload_n hx hb dX6_load_0 rfl (lv_at hl 0 rfl) ?_
  refine lv_aload_n hx hb dX6_load_1 rfl (lv_at hl 0 rfl) ?_
  refine lv_aload_n hx hb dX6_load_2 rfl (lv_at hl 0 rfl) ?_
  refine gf_X6_trial hx hb hts hown hK hH (k := 65) (by omega) eM6 dX6_load_3 ?_
  refine m_callVi hx hb hml hown hts hK hH hl (rest := [.ref (ad (65))]) cw_X6_160 (c6_readText hA si ac6 spo ou6 rf T f sz0 w0 (by first | assumption | omega) (by first | assumption | omega) (by first | assumption | omega) eM6 e66 e68) ⟨Nat.le_of_ble_eq_true rfl, Nat.le_of_ble_eq_true rfl⟩ ⟨Nat.le_of_ble_eq_true rfl, Nat.le_of_ble_eq_true rfl⟩ rfl (k := 65) (by omega) eM6 rfl rfl (Nat.le_of_ble_eq_true rfl) dX6_load_6 (fun r_4 σ_1 H locs hp_2 hH => ?_)
  obtain ⟨p5, ou5, f5, rfl, hr0, f_5, f_6, eM6, e68, hq_3⟩ := hp_2
  have e66 : σ_1 (66) = oAI cT 120 T := (hq_3 _ (by decide) (by decide)).trans e66
  have e67 : σ_1 (67) = oAI cT 171 f7 := (hq_3 _ (by decide) (by decide)).trans e67
  have e71 : σ_1 (71) = oAZ cT 2 kz := (hq_3 _ (by decide) (by decide)).trans e71
  have hf : ∀ q : Nat, q ≠ 65 → q ≠ 67 → q ≠ 68 → q ≠ 71 → σ_1 q = σ q := fun q n0 n1 n2 n3 => (hq_3 q n0 n2).trans (hf q n0 n1 n2 n3)
  obtain ⟨ez, hez⟩ : ∃ z : Int, oErr T si = z := ⟨_, rfl⟩
  have heb2 : -1 ≤ ez ∧ ez ≤ 200 := by rw [← hez]; exact heb
  rw [hez]
  refine m_iconst (-1) hx hb dX6_load_9 rfl ?_
  refine m_icmp_ne 17 hx hb dX6_load_10 (by decide) (by omega) (by omega) (fun h_7 => ?_) (fun h_7 => ?_)
  · refine m_iconst 1 hx hb dX6_load_17 rfl ?_
    refine m_callVi hx hb hml hown hts hK hH hl (rest := []) cw_X6_111 (c6_ref1 hA 1 si ac6 p5 ou5 rf (by first | assumption | omega) (by first | assumption | omega) eM6) ⟨Nat.le_of_ble_eq_true rfl, Nat.le_of_ble_eq_true rfl⟩ ⟨Nat.le_of_ble_eq_true rfl, Nat.le_of_ble_eq_true rfl⟩ rfl (k := 65) (by omega) eM6 rfl rfl (Nat.le_of_ble_eq_true rfl) dX6_load_18 (fun r_11 σ_8 H locs hp_9 hH => ?_)
    obtain ⟨rfl, eM6, hq_10⟩ := hp_9
    have e66 : σ_8 (66) = oAI cT 120 T := (hq_10 _ (by decide)).trans e66
    have e67 : σ_8 (67) = oAI cT 171 f7 := (hq_10 _ (by decide)).trans e67
    have e68 : σ_8 (68) = oAI cT 171 f5 := (hq_10 _ (by decide)).trans e68
    have e71 : σ_8 (71) = oAZ cT 2 kz := (hq_10 _ (by decide)).trans e71
    have hf : ∀ q : Nat, q ≠ 65 → q ≠ 67 → q ≠ 68 → q ≠ 71 → σ_8 q = σ q := fun q n0 n1 n2 n3 => (hq_10 q n0).trans (hf q n0 n1 n2 n3)
    refine m_if_eq 26 hx hb dX6_load_21 (by decide) (by omega) (fun h_12 => absurd h_12 (by omega)) (fun h_12 => ?_)
    refine m_iconst 0 hx hb dX6_load_24 rfl ?_
    exact m_iret hx hb hlk hrt hH (m_ni _) dX6_load_25 ⟨0, 1, ac6, p5, ou5, f5, f7, kz, rfl, (Or.inr ⟨by omega, rfl, rfl, rfl, rfl⟩), (by first | assumption | omega), (by first | assumption | omega), eM6, e67, e68, e71, hf⟩
  · refine m_iconst 0 hx hb dX6_load_13 rfl ?_
    refine lv_goto (tgt := 18) hx hb dX6_load_14 (by decide) ?_
    refine m_callVi hx hb hml hown hts hK hH hl (rest := []) cw_X6_111 (c6_ref0 hA si ac6 p5 ou5 rf (by first | assumption | omega) eM6) ⟨Nat.le_of_ble_eq_true rfl, Nat.le_of_ble_eq_true rfl⟩ ⟨Nat.le_of_ble_eq_true rfl, Nat.le_of_ble_eq_true rfl⟩ rfl (k := 65) (by omega) eM6 rfl rfl (Nat.le_of_ble_eq_true rfl) dX6_load_18 (fun r_16 σ_13 H locs hp_14 hH => ?_)
    obtain ⟨rfl, eM6, hq_15⟩ := hp_14
    have e66 : σ_13 (66) = oAI cT 120 T := (hq_15 _ (by decide)).trans e66
    have e67 : σ_13 (67) = oAI cT 171 f7 := (hq_15 _ (by decide)).trans e67
    have e68 : σ_13 (68) = oAI cT 171 f5 := (hq_15 _ (by decide)).trans e68
    have e71 : σ_13 (71) = oAZ cT 2 kz := (hq_15 _ (by decide)).trans e71
    have hf : ∀ q : Nat, q ≠ 65 → q ≠ 67 → q ≠ 68 → q ≠ 71 → σ_13 q = σ q := fun q n0 n1 n2 n3 => (hq_15 q n0).trans (hf q n0 n1 n2 n3)
    refine m_if_eq 26 hx hb dX6_load_21 (by decide) (by omega) (fun h_17 => ?_) (fun h_17 => absurd h_17 (by omega))
    refine lv_aload_n hx hb dX6_load_26 rfl (lv_at hl 0 rfl) ?_
    refine gf_X6_trial hx hb hts hown hK hH (k := 65) (by omega) eM6 dX6_load_27 ?_
    refine m_iconst 0 hx hb dX6_load_30 rfl ?_
    refine lv_aload_n hx hb dX6_load_31 rfl (lv_at hl 0 rfl) ?_
    refine gf_X6_now hx hb hts hown hK hH (k := 65) (by omega) eM6 dX6_load_32 ?_
    refine m_iconst 0 hx hb dX6_load_35 rfl ?_
    refine m_callSv hx hb hml hown hts hK hH hl (rest := []) cw_X6_163 rfl (c6_copy11 hA 68 67 0 0 f5 f7 (by first | assumption | omega) (by first | assumption | omega) (by first | assumption | omega) (by first | assumption | omega) (by first | assumption | omega) e68 e67) ⟨Nat.le_of_ble_eq_true rfl, Nat.le_of_ble_eq_true rfl⟩ ⟨Nat.le_of_ble_eq_true rfl, Nat.le_of_ble_eq_true rfl⟩ rfl rfl (Nat.le_of_ble_eq_true rfl) dX6_load_36 (fun σ_18 H locs hp_19 hH => ?_)
    obtain ⟨h7, hcp, f_22, e67, hq_20⟩ := hp_19
    have eM6 : σ_18 (65) = .inr (6, [.int (oI (0)), .ref (ad (66)), .int (oI (((si : Nat) : Int))), .ref (ad (67)), .ref (ad (68)), .ref (ad (69)), .int (oI (((ac6 : Nat) : Int))), .ref (ad (70)), .ref (ad (71)), .ref (ad (72)), .ref (ad (73)), .ref (ad (74)), .int (oI (((p5 : Nat) : Int))), .int (oI (((ou5 : Nat) : Int)))]) := (hq_20 _ (by decide)).trans eM6
    have e66 : σ_18 (66) = oAI cT 120 T := (hq_20 _ (by decide)).trans e66
    have e68 : σ_18 (68) = oAI cT 171 f5 := (hq_20 _ (by decide)).trans e68
    have e71 : σ_18 (71) = oAZ cT 2 kz := (hq_20 _ (by decide)).trans e71
    have hf : ∀ q : Nat, q ≠ 65 → q ≠ 67 → q ≠ 68 → q ≠ 71 → σ_18 q = σ q := fun q n0 n1 n2 n3 => (hq_20 q n1).trans (hf q n0 n1 n2 n3)
    refine lv_aload_n hx hb dX6_load_39 rfl (lv_at hl 0 rfl) ?_
    refine m_iconst 0 hx hb dX6_load_40 rfl ?_
    refine pf_X6_acts hx hb hts hown hK hH hA (k := 65) (by omega) eM6 dX6_load_41 (fun H locs σ_23 eM6 hq_24 hH => ?_)
    have e66 : σ_23 (66) = oAI cT 120 T := (hq_24 _ (by decide)).trans e66
    have e67 : σ_23 (67) = oAI cT 171 h7 := (hq_24 _ (by decide)).trans e67
    have e68 : σ_23 (68) = oAI cT 171 f5 := (hq_24 _ (by decide)).trans e68
    have e71 : σ_23 (71) = oAZ cT 2 kz := (hq_24 _ (by decide)).trans e71
    have hf : ∀ q : Nat, q ≠ 65 → q ≠ 67 → q ≠ 68 → q ≠ 71 → σ_23 q = σ q := fun q n0 n1 n2 n3 => (hq_24 q n0).trans (hf q n0 n1 n2 n3)
    refine lv_aload_n hx hb dX6_load_44 rfl (lv_at hl 0 rfl) ?_
    refine gf_X6_isKept hx hb hts hown hK hH (k := 65) (by omega) eM6 dX6_load_45 ?_
    refine m_iconst 0 hx hb dX6_load_48 rfl ?_
    refine m_iconst 0 hx hb dX6_load_49 rfl ?_
    refine m_zast hx hb hK hH hA (k := 71) (by omega) e71 (0) (by omega) (by omega) (by decide) m_nz0 dX6_load_50 (fun H locs σ_25 e71 hq_26 hH => ?_)
    have eM6 : σ_25 (65) = .inr (6, [.int (oI (0)), .ref (ad (66)), .int (oI (((si : Nat) : Int))), .ref (ad (67)), .ref (ad (68)), .ref (ad (69)), .int (oI (0)), .ref (ad (70)), .ref (ad (71)), .ref (ad (72)), .ref (ad (73)), .ref (ad (74)), .int (oI (((p5 : Nat) : Int))), .int (oI (((ou5 : Nat) : Int)))]) := (hq_26 _ (by decide)).trans eM6
    have e66 : σ_25 (66) = oAI cT 120 T := (hq_26 _ (by decide)).trans e66
    have e67 : σ_25 (67) = oAI cT 171 h7 := (hq_26 _ (by decide)).trans e67
    have e68 : σ_25 (68) = oAI cT 171 f5 := (hq_26 _ (by decide)).trans e68
    have hf : ∀ q : Nat, q ≠ 65 → q ≠ 67 → q ≠ 68 → q ≠ 71 → σ_25 q = σ q := fun q n0 n1 n2 n3 => (hq_26 q n3).trans (hf q n0 n1 n2 n3)
    refine lv_aload_n hx hb dX6_load_51 rfl (lv_at hl 0 rfl) ?_
    refine gf_X6_isKept hx hb hts hown hK hH (k := 65) (by omega) eM6 dX6_load_52 ?_
    refine m_iconst 1 hx hb dX6_load_55 rfl ?_
    refine m_iconst 0 hx hb dX6_load_56 rfl ?_
    refine m_zast hx hb hK hH hA (k := 71) (by omega) e71 (1) (by omega) (by omega) (by decide) m_nz0 dX6_load_57 (fun H locs σ_27 e71 hq_28 hH => ?_)
    have eM6 : σ_27 (65) = .inr (6, [.int (oI (0)), .ref (ad (66)), .int (oI (((si : Nat) : Int))), .ref (ad (67)), .ref (ad (68)), .ref (ad (69)), .int (oI (0)), .ref (ad (70)), .ref (ad (71)), .ref (ad (72)), .ref (ad (73)), .ref (ad (74)), .int (oI (((p5 : Nat) : Int))), .int (oI (((ou5 : Nat) : Int)))]) := (hq_28 _ (by decide)).trans eM6
    have e66 : σ_27 (66) = oAI cT 120 T := (hq_28 _ (by decide)).trans e66
    have e67 : σ_27 (67) = oAI cT 171 h7 := (hq_28 _ (by decide)).trans e67
    have e68 : σ_27 (68) = oAI cT 171 f5 := (hq_28 _ (by decide)).trans e68
    have hf : ∀ q : Nat, q ≠ 65 → q ≠ 67 → q ≠ 68 → q ≠ 71 → σ_27 q = σ q := fun q n0 n1 n2 n3 => (hq_28 q n3).trans (hf q n0 n1 n2 n3)
    obtain ⟨n1, a1, g1, s1, w1, j1, j2, j3, j4⟩ := hr0 (by rw [hez]; omega)
    refine lv_aload_n hx hb dX6_load_58 rfl (lv_at hl 0 rfl) ?_
    refine gf_X6_out hx hb hts hown hK hH (k := 65) (by omega) eM6 dX6_load_59 ?_
    exact m_iret hx hb hlk hrt hH (m_ni _) dX6_load_62 ⟨((ou5 : Nat) : Int), 0, 0, p5, ou5, f5, h7, (va_up (va_up kz 0 0) 1 0), rfl, (Or.inl ⟨by omega, rfl, rfl, rfl, oKz0, n1, a1, g1, s1, w1, j1, oRS_ext j2 j3.1 (fun k hk => hcp k hk), j3, j4⟩), (by first | assumption | omega), (by first | assumption | omega), eM6, e67, e68, e71, hf⟩
