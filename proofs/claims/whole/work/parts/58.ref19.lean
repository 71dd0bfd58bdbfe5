theorem oIteE {c : Prop} [Decidable c] {α : Type} {x y z : α} (h1 : c → x = z) (h2 : ¬ c → y = z) : (if c then x else y) = z := by
  by_cases h : c
  · rw [if_pos h]; exact h1 h
  · rw [if_neg h]; exact h2 h
theorem oAt5r {n a g : Nat} {r v on : Int} {sz w : Nat → Nat} (h : (r = 0 ∧ 1 ≤ v ∧ v ≤ 6) ∨ (r = 1 ∧ 10 ≤ v ∧ v ≤ 150)) : oAtt 5 r v on n a g sz w = (1, n, (if r = 0 then v.toNat else a), (if r = 0 then g else v.toNat), sz, w) := (oAtt_ok (by rw [oRefA_5]; exact oRef5_0.mpr h)).trans (by rw [oDoS_5r (by omega)])
theorem oGr1 {x n a g : Nat} {sz w : Nat → Nat} (h : oDv x 100000 = 1) : oGrp x n a g sz w = (if oMd (oDv x 100) 1000 = 0 then oAtt 1 (oMd x 100 : Nat) 0 0 n a g sz w else (0, n, a, g, sz, w)) := if_pos h
theorem oGr2 {x n a g : Nat} {sz w : Nat → Nat} (h : oDv x 100000 = 2) : oGrp x n a g sz w = (if oMd (oDv x 10) 10 = 0 ∧ oMd x 10 ≤ 1 then oAtt 2 (oMd (oDv x 10000) 10 : Nat) (oMd (oDv x 100) 100 : Nat) (if oMd x 10 = 1 then 1 else 0) n a g sz w else (0, n, a, g, sz, w)) := by unfold oGrp; rw [if_neg (by omega), if_pos h]
theorem oGr3 {x n a g : Nat} {sz w : Nat → Nat} (h : oDv x 100000 = 3) : oGrp x n a g sz w = (if oMd (oDv x 100) 100 = 0 then oAtt 3 (oMd (oDv x 10000) 10 : Nat) (oMd x 100 : Nat) 0 n a g sz w else (0, n, a, g, sz, w)) := by unfold oGrp; rw [if_neg (by omega), if_neg (by omega), if_pos h]
theorem oGr4 {x n a g : Nat} {sz w : Nat → Nat} (h : oDv x 100000 = 4) : oGrp x n a g sz w = (if oMd x 10000 = 0 then oAtt 4 (oMd (oDv x 10000) 10 : Nat) 0 0 n a g sz w else (0, n, a, g, sz, w)) := by unfold oGrp; rw [if_neg (by omega), if_neg (by omega), if_neg (by omega), if_pos h]
theorem oGr5 {x n a g : Nat} {sz w : Nat → Nat} (h : oDv x 100000 = 5) : oGrp x n a g sz w = (if oMd (oDv x 1000) 10 = 0 then oAtt 5 (oMd (oDv x 10000) 10 : Nat) (oMd x 1000 : Nat) 0 n a g sz w else (0, n, a, g, sz, w)) := by unfold oGrp; rw [if_neg (by omega), if_neg (by omega), if_neg (by omega), if_neg (by omega), if_pos h]
theorem oGr6 {x n a g : Nat} {sz w : Nat → Nat} (h : oDv x 100000 = 6) : oGrp x n a g sz w = (if oMd (oDv x 10000) 10 = 0 then oLw (oOrW n w (-1) 4) (oMd (oDv x 10) 1000) (oMd x 10) else 0, n, a, g, sz, w) := by unfold oGrp; rw [if_neg (by omega), if_neg (by omega), if_neg (by omega), if_neg (by omega), if_neg (by omega), if_pos h]
theorem oGr7 {x n a g : Nat} {sz w : Nat → Nat} (h : oDv x 100000 = 7) : oGrp x n a g sz w = (if oMd (oDv x 1000) 100 = 0 ∧ oMd x 1000 ≤ oCnt (oOrW n w (-1) 4) a g then 1 else 0, n, a, g, sz, w) := by unfold oGrp; rw [if_neg (by omega), if_neg (by omega), if_neg (by omega), if_neg (by omega), if_neg (by omega), if_neg (by omega), if_pos h]
theorem oGr8 {x n a g : Nat} {sz w : Nat → Nat} (h : oDv x 100000 = 8) : oGrp x n a g sz w = (if oMd (oDv x 10) 10 = 0 ∧ oMd x 10 ≤ 1 then oMk n sz w (oMd (oDv x 10000) 10 : Nat) (oMd (oDv x 100) 100 : Nat) (if oMd x 10 = 1 then 1 else 0) else 0, n, a, g, sz, w) := by unfold oGrp; rw [if_neg (by omega), if_neg (by omega), if_neg (by omega), if_neg (by omega), if_neg (by omega), if_neg (by omega), if_neg (by omega), if_pos h]
theorem oGr9 {x n a g : Nat} {sz w : Nat → Nat} (h : oDv x 100000 = 9) : oGrp x n a g sz w = (if oMd (oDv x 100) 1000 = 0 ∧ oGaps (oOrW n w (-1) 4) a g ≤ oMd x 100 then 1 else 0, n, a, g, sz, w) := by unfold oGrp; rw [if_neg (by omega), if_neg (by omega), if_neg (by omega), if_neg (by omega), if_neg (by omega), if_neg (by omega), if_neg (by omega), if_neg (by omega), if_pos h]
theorem oGr0 {x n a g : Nat} {sz w : Nat → Nat} (h : oDv x 100000 < 1 ∨ 9 < oDv x 100000) : oGrp x n a g sz w = (0, n, a, g, sz, w) := by unfold oGrp; rw [if_neg (by omega), if_neg (by omega), if_neg (by omega), if_neg (by omega), if_neg (by omega), if_neg (by omega), if_neg (by omega), if_neg (by omega), if_neg (by omega)]
def oGdP (x h5 d4 d3 d1 d0 t9 e9 th9 f9 u9 b1 b2 : Nat) : Prop := oDv x 100000 = h5 ∧ oMd (oDv x 100) 1000 = b1 ∧ oMd x 100 = e9 ∧ oMd (oDv x 10) 10 = d1 ∧ oMd x 10 = d0 ∧ oMd (oDv x 10000) 10 = d4 ∧ oMd (oDv x 100) 100 = t9 ∧ oMd x 10000 = f9 ∧ oMd (oDv x 1000) 10 = d3 ∧ oMd x 1000 = th9 ∧ oMd (oDv x 10) 1000 = u9 ∧ oMd (oDv x 1000) 100 = b2
theorem oGd {x h5 v5 d4 d3 d2 d1 d0 t9 e9 th9 f9 u9 b1 b2 : Nat} (hx : x = 100000 * h5 + v5) (hv : v5 = 10000 * d4 + 1000 * d3 + 100 * d2 + 10 * d1 + d0) (h : d4 ≤ 9 ∧ d3 ≤ 9 ∧ d2 ≤ 9 ∧ d1 ≤ 9 ∧ d0 ≤ 9) (ht : t9 = 10 * d3 + d2) (he : e9 = 10 * d1 + d0) (hth : th9 = 100 * d2 + 10 * d1 + d0) (hf : f9 = 1000 * d3 + 100 * d2 + 10 * d1 + d0) (hu : u9 = 100 * d3 + 10 * d2 + d1) (hb1 : b1 = 100 * d4 + 10 * d3 + d2) (hb2 : b2 = 10 * d4 + d3) : oGdP x h5 d4 d3 d1 d0 t9 e9 th9 f9 u9 b1 b2 := by
  unfold oGdP oMd oDv
  refine ⟨by omega, by omega, by omega, by omega, by omega, by omega, by omega, by omega, by omega, by omega, by omega, by omega⟩
theorem oDig {x : Nat} (h : x < 1000000) : ∃ h5 d4 d3 d2 d1 d0 : Nat, x = 100000 * h5 + 10000 * d4 + 1000 * d3 + 100 * d2 + 10 * d1 + d0 ∧ h5 ≤ 9 ∧ d4 ≤ 9 ∧ d3 ≤ 9 ∧ d2 ≤ 9 ∧ d1 ≤ 9 ∧ d0 ≤ 9 :=
  ⟨x / 100000, x / 10000 % 10, x / 1000 % 10, x / 100 % 10, x / 10 % 10, x % 10, by omega, by omega, by omega, by omega, by omega, by omega, by omega⟩
theorem oMk_1 {n : Nat} {sz w : Nat → Nat} {r p on : Int} (h : ((0 ≤ r ∧ r < (n : Int)) ∧ 0 ≤ p ∧ p ≤ (oSize n sz r : Int)) ∧ ((0 ≤ p ∧ p < 64 ∧ (oRow n w r).testBit p.toNat = true) ↔ on = 1)) : oMk n sz w r p on = 1 := if_pos h
theorem oMk_0 {n : Nat} {sz w : Nat → Nat} {r p on : Int} (h : ¬ (((0 ≤ r ∧ r < (n : Int)) ∧ 0 ≤ p ∧ p ≤ (oSize n sz r : Int)) ∧ ((0 ≤ p ∧ p < 64 ∧ (oRow n w r).testBit p.toNat = true) ↔ on = 1))) : oMk n sz w r p on = 0 := if_neg h
set_option maxHeartbeats 4000000 in
set_option maxRecDepth 100000 in
theorem c6_command {l : Launch} {D : va_G} {cT : Nat → ClassId} {N b0 : Nat} {ad : Nat → Nat} (hA : oAd b0 N ad) {σ : Nat → va_E} (x9 h5 v5 d4 d3 d2 d1 d0 : Nat) (si ac6 spo ou6 : Nat) (rf : Int) (n a g : Nat) (f : Nat → Int) (sz w : Nat → Nat) (s : Nat → Nat) (F R : Nat → Int) (hN : 76 ≤ N) (hwf : oWf n sz w) (hag : oAg a g) (hp : oRS f n a g sz w) (hx9 : x9 = 100000 * h5 + v5) (hv5 : v5 = 10000 * d4 + 1000 * d3 + 100 * d2 + 10 * d1 + d0) (hh5 : h5 ≤ 9) (hd9 : d4 ≤ 9 ∧ d3 ≤ 9 ∧ d2 ≤ 9 ∧ d1 ≤ 9 ∧ d0 ≤ 9) (eM6 : σ (65) = .inr (6, [.int (oI (rf)), .ref (ad (66)), .int (oI (((si : Nat) : Int))), .ref (ad (67)), .ref (ad (68)), .ref (ad (69)), .int (oI (((ac6 : Nat) : Int))), .ref (ad (70)), .ref (ad (71)), .ref (ad (72)), .ref (ad (73)), .ref (ad (74)), .int (oI (((spo : Nat) : Int))), .int (oI (((ou6 : Nat) : Int)))])) (e68 : σ (68) = oAI cT 171 f) (e72 : σ (72) = oAN cT 41 s) (e73 : σ (73) = oAI cT 201 F) (e74 : σ (74) = oAI cT 201 R) :
    oCi l D cT N ad b0 yX6_command cX6_command 9 (some .boolean) 5 113 [.ref (ad (65)), .int (oI (((h5 : Nat) : Int))), .int (oI (((v5 : Nat) : Int)))] σ (fun rr uu => ∃ rt : Int, ∃ n1 : Nat, ∃ a1 : Nat, ∃ g1 : Nat, ∃ sz1 : Nat → Nat, ∃ w1 : Nat → Nat, ∃ g8 : Nat → Int, ∃ s2 : Nat → Nat, ∃ F2 : Nat → Int, ∃ R2 : Nat → Int, rr = oI (rt) ∧ (rt = 0 ∨ rt = 1) ∧ (oGrp x9 n a g sz w = (rt, n1, a1, g1, sz1, w1)) ∧ (oRS g8 n1 a1 g1 sz1 w1) ∧ (oWf n1 sz1 w1) ∧ (oAg a1 g1) ∧ uu (68) = oAI cT 171 g8 ∧ uu (72) = oAN cT 41 s2 ∧ uu (73) = oAI cT 201 F2 ∧ uu (74) = oAI cT 201 R2 ∧ (∀ q : Nat, q ≠ 68 → q ≠ 72 → q ≠ 73 → q ≠ 74 → uu q = σ q)) := by
  refine m_start (cc := cX6_command) (by decide) (Nat.le_of_ble_eq_true rfl) rfl ?_
  intro Pp Ee Ss Mm Bb Me Cc Ar ls hx hb hml hown hlk hrt hts hK hH hl
  have hown : Ss.vm.findClass RX6 = some Mm.cls := hown
  have hn := hwf.1
  have hag1 := hag.1
  have hag2 := hag.2
  obtain ⟨t9, ht9⟩ : ∃ y : Nat, y = 10 * d3 + d2 := ⟨_, rfl⟩
  obtain ⟨e9, he9⟩ : ∃ y : Nat, y = 10 * d1 + d0 := ⟨_, rfl⟩
  obtain ⟨th9, hth9⟩ : ∃ y : Nat, y = 100 * d2 + 10 * d1 + d0 := ⟨_, rfl⟩
  obtain ⟨f9, hf9⟩ : ∃ y : Nat, y = 1000 * d3 + 100 * d2 + 10 * d1 + d0 := ⟨_, rfl⟩
  obtain ⟨u9, hu9⟩ : ∃ y : Nat, y = 100 * d3 + 10 * d2 + d1 := ⟨_, rfl⟩
  obtain ⟨b1, hb1⟩ : ∃ y : Nat, y = 100 * d4 + 10 * d3 + d2 := ⟨_, rfl⟩
  obtain ⟨b2, hb2⟩ : ∃ y : Nat, y = 10 * d4 + d3 := ⟨_, rfl⟩
  have hG : oGdP x9 h5 d4 d3 d1 d0 t9 e9 th9 f9 u9 b1 b2 := oGd hx9 hv5 hd9 ht9 he9 hth9 hf9 hu9 hb1 hb2
  have hl : lv_has ls 9 [(0, .ref (ad (65))), (1, .int (oI (((h5 : Nat) : Int)))), (2, .int (oI (((v5 : Nat) : Int))))] := hl
  have hf : ∀ q : Nat, q ≠ 68 → q ≠ 72 → q ≠ 73 → q ≠ 74 → σ q = σ q := fun q _ _ _ _ => rfl
  refine lv_iload_n hx hb dX6_command_0 rfl (lv_at hl 2 rfl) ?_
  refine m_sipush 10000 hx hb dX6_command_1 (by decide) ?_
  refine m_idiv (((d4 : Nat) : Int)) hx hb dX6_command_4 (by omega) (by omega) (by omega) ?_
  refine lv_istore_n (lv' := [(3, .int (oI (((d4 : Nat) : Int)))), (0, .ref (ad (65))), (1, .int (oI (((h5 : Nat) : Int)))), (2, .int (oI (((v5 : Nat) : Int))))]) hx hb dX6_command_5 rfl hl (by decide) rfl (fun ls hl => ?_)
  refine lv_iload_n hx hb dX6_command_6 rfl (lv_at hl 3 rfl) ?_
  refine m_bipush 100 hx hb dX6_command_7 (by decide) ?_
  refine m_idiv (((b1 : Nat) : Int)) hx hb dX6_command_9 (by omega) (by omega) (by omega) ?_
  refine m_bipush 100 hx hb dX6_command_10 (by decide) ?_
  refine m_irem (((t9 : Nat) : Int)) hx hb dX6_command_12 (by omega) (by omega) (by omega) ?_
  refine lv_istore (lv' := [(4, .int (oI (((t9 : Nat) : Int)))), (3, .int (oI (((d4 : Nat) : Int)))), (0, .ref (ad (65))), (1, .int (oI (((h5 : Nat) : Int)))), (2, .int (oI (((v5 : Nat) : Int))))]) hx hb dX6_command_13 hl (by decide) rfl (fun ls hl => ?_)
  refine lv_iload_n hx hb dX6_command_15 rfl (lv_at hl 4 rfl) ?_
  refine m_bipush 100 hx hb dX6_command_16 (by decide) ?_
  refine m_irem (((e9 : Nat) : Int)) hx hb dX6_command_18 (by omega) (by omega) (by omega) ?_
  refine lv_istore (lv' := [(5, .int (oI (((e9 : Nat) : Int)))), (4, .int (oI (((t9 : Nat) : Int)))), (3, .int (oI (((d4 : Nat) : Int)))), (0, .ref (ad (65))), (1, .int (oI (((h5 : Nat) : Int)))), (2, .int (oI (((v5 : Nat) : Int))))]) hx hb dX6_command_19 hl (by decide) rfl (fun ls hl => ?_)
  refine lv_iload_n hx hb dX6_command_21 rfl (lv_at hl 5 rfl) ?_
  refine m_sipush 1000 hx hb dX6_command_22 (by decide) ?_
  refine m_irem (((th9 : Nat) : Int)) hx hb dX6_command_25 (by omega) (by omega) (by omega) ?_
  refine lv_istore (lv' := [(6, .int (oI (((th9 : Nat) : Int)))), (5, .int (oI (((e9 : Nat) : Int)))), (4, .int (oI (((t9 : Nat) : Int)))), (3, .int (oI (((d4 : Nat) : Int)))), (0, .ref (ad (65))), (1, .int (oI (((h5 : Nat) : Int)))), (2, .int (oI (((v5 : Nat) : Int))))]) hx hb dX6_command_26 hl (by decide) rfl (fun ls hl => ?_)
  refine lv_iload_n hx hb dX6_command_28 rfl (lv_at hl 6 rfl) ?_
  refine m_sipush 10000 hx hb dX6_command_29 (by decide) ?_
  refine m_irem (((f9 : Nat) : Int)) hx hb dX6_command_32 (by omega) (by omega) (by omega) ?_
  refine lv_istore (lv' := [(7, .int (oI (((f9 : Nat) : Int)))), (6, .int (oI (((th9 : Nat) : Int)))), (5, .int (oI (((e9 : Nat) : Int)))), (4, .int (oI (((t9 : Nat) : Int)))), (3, .int (oI (((d4 : Nat) : Int)))), (0, .ref (ad (65))), (1, .int (oI (((h5 : Nat) : Int)))), (2, .int (oI (((v5 : Nat) : Int))))]) hx hb dX6_command_33 hl (by decide) rfl (fun ls hl => ?_)
  refine lv_iload_n hx hb dX6_command_35 rfl (lv_at hl 7 rfl) ?_
  refine m_bipush 10 hx hb dX6_command_36 (by decide) ?_
  refine m_irem (((d0 : Nat) : Int)) hx hb dX6_command_38 (by omega) (by omega) (by omega) ?_
  refine lv_istore (lv' := [(8, .int (oI (((d0 : Nat) : Int)))), (7, .int (oI (((f9 : Nat) : Int)))), (6, .int (oI (((th9 : Nat) : Int)))), (5, .int (oI (((e9 : Nat) : Int)))), (4, .int (oI (((t9 : Nat) : Int)))), (3, .int (oI (((d4 : Nat) : Int)))), (0, .ref (ad (65))), (1, .int (oI (((h5 : Nat) : Int)))), (2, .int (oI (((v5 : Nat) : Int))))]) hx hb dX6_command_39 hl (by decide) rfl (fun ls hl => ?_)
  refine lv_iload_n hx hb dX6_command_41 rfl (lv_at hl 7 rfl) ?_
  rcases (show (((h5 : Nat) : Int) : Int) = 1 ∨ (((h5 : Nat) : Int) : Int) = 2 ∨ (((h5 : Nat) : Int) : Int) = 3 ∨ (((h5 : Nat) : Int) : Int) = 4 ∨ (((h5 : Nat) : Int) : Int) = 5 ∨ (((h5 : Nat) : Int) : Int) = 6 ∨ (((h5 : Nat) : Int) : Int) = 7 ∨ (((h5 : Nat) : Int) : Int) = 8 ∨ (((h5 : Nat) : Int) : Int) = 9 ∨ ((((h5 : Nat) : Int) : Int) < 1 ∨ 9 < (((h5 : Nat) : Int) : Int)) by omega) with hsw | hsw | hsw | hsw | hsw | hsw | hsw | hsw | hsw | hsw
  · refine m_tabIn 92 hx hb dX6_command_42 (by omega) (by omega) (by rw [hsw]; rfl) (by decide) ?_
    refine lv_iload_n hx hb dX6_command_92 rfl (lv_at hl 8 rfl) ?_
    refine m_i2l hx hb dX6_command_93 (by omega) ?_
    refine lv_ldc2 (v := 2) hx hb hown (hts _ kl_X6_202) dX6_command_94 ?_
    refine m_J2L 2 (by decide +kernel) ?_
    refine lv_ldc2 (v := 40) hx hb hown (hts _ kl_X6_204) dX6_command_97 ?_
    refine m_J2L 40 (by decide +kernel) ?_
    refine m_pSb hx hb hml hown hts hK hH hl (rest := []) cw_X6_46 rfl (c6_in hA ((v5 : Nat) : Int) 2 40 (by first | assumption | omega) (by first | assumption | omega) (by first | assumption | omega) ) ⟨Nat.le_of_ble_eq_true rfl, Nat.le_of_ble_eq_true rfl⟩ ⟨Nat.le_of_ble_eq_true rfl, Nat.le_of_ble_eq_true rfl⟩ rfl rfl (Nat.le_of_ble_eq_true rfl) dX6_command_100 (fun hx1 H locs hH => ?_) (fun hx1 H locs hH => ?_)
    · refine m_if_eq 131 hx hb dX6_command_103 (by decide) (by omega) (fun h_1 => absurd h_1 (by omega)) (fun h_1 => ?_)
      refine lv_aload_n hx hb dX6_command_106 rfl (lv_at hl 6 rfl) ?_
      refine gf_X6_trial hx hb hts hown hK hH (k := 65) (by omega) eM6 dX6_command_107 ?_
      refine m_iconst 0 hx hb dX6_command_110 rfl ?_
      refine m_iald hx hb hK hH (k := 68) (by omega) e68 (0) (by omega) (by omega) (by decide) dX6_command_111 ?_
      refine m_topI (((n : Nat) : Int)) (hp.1) ?_
      refine m_iconst 4 hx hb dX6_command_112 rfl ?_
      refine m_icmp_ge 131 hx hb dX6_command_113 (by decide) (by omega) (by omega) (fun h_2 => ?_) (fun h_2 => ?_)
      · refine m_iconst 0 hx hb dX6_command_131 rfl ?_
        exact m_iret hx hb hlk hrt hH m_z0 dX6_command_132 ⟨0, n, a, g, sz, w, f, s, F, R, rfl, (Or.inl rfl), (by obtain ⟨G0, G1, G2, G3, G4, G5, G6, G7, G8, G9, G10, G11⟩ := hG; rw [oGr1 (by rw [G0]; clear G0 G1 G2 G3 G4 G5 G6 G7 G8 G9 G10 G11; omega), G1, G2]; exact oIteE (fun _ => oAt1_no (by omega)) (fun _ => rfl)), hp, hwf, hag, e68, e72, e73, e74, hf⟩
      · refine lv_aload_n hx hb dX6_command_116 rfl (lv_at hl 6 rfl) ?_
        refine gf_X6_trial hx hb hts hown hK hH (k := 65) (by omega) eM6 dX6_command_117 ?_
        refine lv_iload_n hx hb dX6_command_120 rfl (lv_at hl 8 rfl) ?_
        refine m_callSi hx hb hml hown hts hK hH hl (rest := []) cw_X6_139 rfl (c6_rulerOn hA 68 n a g f sz w v5 (by first | assumption | omega) (by first | assumption | omega) (by first | assumption | omega) (by first | assumption | omega) (by first | assumption | omega) e68) ⟨Nat.le_of_ble_eq_true rfl, Nat.le_of_ble_eq_true rfl⟩ ⟨Nat.le_of_ble_eq_true rfl, Nat.le_of_ble_eq_true rfl⟩ rfl rfl (Nat.le_of_ble_eq_true rfl) dX6_command_121 (fun r_6 σ_3 H locs hp_4 hH => ?_)
        obtain ⟨f5, rfl, hp5, e68, hq_5⟩ := hp_4
        have eM6 : σ_3 (65) = .inr (6, [.int (oI (rf)), .ref (ad (66)), .int (oI (((si : Nat) : Int))), .ref (ad (67)), .ref (ad (68)), .ref (ad (69)), .int (oI (((ac6 : Nat) : Int))), .ref (ad (70)), .ref (ad (71)), .ref (ad (72)), .ref (ad (73)), .ref (ad (74)), .int (oI (((spo : Nat) : Int))), .int (oI (((ou6 : Nat) : Int)))]) := (hq_5 _ (by decide)).trans eM6
        have e72 : σ_3 (72) = oAN cT 41 s := (hq_5 _ (by decide)).trans e72
        have e73 : σ_3 (73) = oAI cT 201 F := (hq_5 _ (by decide)).trans e73
        have e74 : σ_3 (74) = oAI cT 201 R := (hq_5 _ (by decide)).trans e74
        have hf : ∀ q : Nat, q ≠ 68 → q ≠ 72 → q ≠ 73 → q ≠ 74 → σ_3 q = σ q := fun q n0 n1 n2 n3 => (hq_5 q n0).trans (hf q n0 n1 n2 n3)
        refine m_if_lt 131 hx hb dX6_command_124 (by decide) (by omega) (fun h_7 => absurd h_7 (by omega)) (fun h_7 => ?_)
        refine m_iconst 1 hx hb dX6_command_127 rfl ?_
        refine lv_goto (tgt := 132) hx hb dX6_command_128 (by decide) ?_
        exact m_iret hx hb hlk hrt hH m_z1 dX6_command_132 ⟨1, (n + 1), a, g, _, _, f5, s, F, R, rfl, (Or.inr rfl), (by obtain ⟨G0, G1, G2, G3, G4, G5, G6, G7, G8, G9, G10, G11⟩ := hG; rw [oGr1 (by rw [G0]; clear G0 G1 G2 G3 G4 G5 G6 G7 G8 G9 G10 G11; omega), G1, if_pos (by omega), show oMd x9 100 = v5 by rw [G2]; omega]; exact oAt1_ok (by omega) (by omega) (by omega)), hp5, (hwf.add (by omega) (by omega) (by omega)), hag, e68, e72, e73, e74, hf⟩
    · refine m_if_eq 131 hx hb dX6_command_103 (by decide) (by omega) (fun h_8 => ?_) (fun h_8 => absurd h_8 (by omega))
      refine m_iconst 0 hx hb dX6_command_131 rfl ?_
      exact m_iret hx hb hlk hrt hH m_z0 dX6_command_132 ⟨0, n, a, g, sz, w, f, s, F, R, rfl, (Or.inl rfl), (by obtain ⟨G0, G1, G2, G3, G4, G5, G6, G7, G8, G9, G10, G11⟩ := hG; rw [oGr1 (by rw [G0]; clear G0 G1 G2 G3 G4 G5 G6 G7 G8 G9 G10 G11; omega), G1, G2]; exact oIteE (fun _ => oAt1_no (by omega)) (fun _ => rfl)), hp, hwf, hag, e68, e72, e73, e74, hf⟩
  · refine m_tabIn 133 hx hb dX6_command_42 (by omega) (by omega) (by rw [hsw]; rfl) (by decide) ?_
    refine lv_iload hx hb dX6_command_133 (lv_at hl 3 rfl) ?_
    refine m_iconst 2 hx hb dX6_command_135 rfl ?_
    refine m_icmp_ge 191 hx hb dX6_command_136 (by decide) (by omega) (by omega) (fun h_9 => ?_) (fun h_9 => ?_)
    · refine m_iconst 0 hx hb dX6_command_191 rfl ?_
      exact m_iret hx hb hlk hrt hH m_z0 dX6_command_192 ⟨0, n, a, g, sz, w, f, s, F, R, rfl, (Or.inl rfl), (by obtain ⟨G0, G1, G2, G3, G4, G5, G6, G7, G8, G9, G10, G11⟩ := hG; rw [oGr2 (by rw [G0]; clear G0 G1 G2 G3 G4 G5 G6 G7 G8 G9 G10 G11; omega), G3, G4, if_neg (by omega)]), hp, hwf, hag, e68, e72, e73, e74, hf⟩
    · refine lv_aload_n hx hb dX6_command_139 rfl (lv_at hl 6 rfl) ?_
      refine gf_X6_trial hx hb hts hown hK hH (k := 65) (by omega) eM6 dX6_command_140 ?_
      refine lv_iload_n hx hb dX6_command_143 rfl (lv_at hl 5 rfl) ?_
      refine lv_iload hx hb dX6_command_144 (lv_at hl 4 rfl) ?_
      refine lv_iload hx hb dX6_command_146 (lv_at hl 3 rfl) ?_
      refine m_iconst 1 hx hb dX6_command_148 rfl ?_
      refine m_icmp_ne 156 hx hb dX6_command_149 (by decide) (by omega) (by omega) (fun h_10 => ?_) (fun h_10 => ?_)
      · refine m_iconst 0 hx hb dX6_command_156 rfl ?_
        refine m_pSb hx hb hml hown hts hK hH hl (rest := []) cw_X6_127 rfl (c6_canMark hA 68 n a g f sz w ((d4 : Nat) : Int) ((t9 : Nat) : Int) 0 (by first | assumption | omega) (by first | assumption | omega) (by first | assumption | omega) (by first | assumption | omega) (by first | assumption | omega) (by first | assumption | omega) e68) ⟨Nat.le_of_ble_eq_true rfl, Nat.le_of_ble_eq_true rfl⟩ ⟨Nat.le_of_ble_eq_true rfl, Nat.le_of_ble_eq_true rfl⟩ rfl rfl (Nat.le_of_ble_eq_true rfl) dX6_command_157 (fun hC H locs hH => ?_) (fun hC H locs hH => ?_)
        · refine m_if_eq 191 hx hb dX6_command_160 (by decide) (by omega) (fun h_11 => absurd h_11 (by omega)) (fun h_11 => ?_)
          refine lv_aload_n hx hb dX6_command_163 rfl (lv_at hl 6 rfl) ?_
          refine gf_X6_trial hx hb hts hown hK hH (k := 65) (by omega) eM6 dX6_command_164 ?_
          refine lv_iload_n hx hb dX6_command_167 rfl (lv_at hl 5 rfl) ?_
          refine lv_iload hx hb dX6_command_168 (lv_at hl 4 rfl) ?_
          refine lv_iload hx hb dX6_command_170 (lv_at hl 3 rfl) ?_
          refine m_iconst 1 hx hb dX6_command_172 rfl ?_
          refine m_icmp_ne 180 hx hb dX6_command_173 (by decide) (by omega) (by omega) (fun h_12 => ?_) (fun h_12 => absurd h_12 (by omega))
          refine m_iconst 0 hx hb dX6_command_180 rfl ?_
          have eS : oSize n sz ((d4 : Nat) : Int) = sz d4 := oSize_in hC.1.1
          refine m_callSi hx hb hml hown hts hK hH hl (rest := []) cw_X6_131 rfl (c6_markOn hA 68 n a g f sz w d4 t9 0 (by first | assumption | omega) (by first | assumption | omega) (by first | assumption | omega) (by first | assumption | omega) (by first | assumption | omega) (by first | assumption | omega) (by first | assumption | omega) e68) ⟨Nat.le_of_ble_eq_true rfl, Nat.le_of_ble_eq_true rfl⟩ ⟨Nat.le_of_ble_eq_true rfl, Nat.le_of_ble_eq_true rfl⟩ rfl rfl (Nat.le_of_ble_eq_true rfl) dX6_command_181 (fun r_16 σ_13 H locs hp_14 hH => ?_)
          obtain ⟨f5, rfl, hp5, hwf5, e68, hq_15⟩ := hp_14
          have eM6 : σ_13 (65) = .inr (6, [.int (oI (rf)), .ref (ad (66)), .int (oI (((si : Nat) : Int))), .ref (ad (67)), .ref (ad (68)), .ref (ad (69)), .int (oI (((ac6 : Nat) : Int))), .ref (ad (70)), .ref (ad (71)), .ref (ad (72)), .ref (ad (73)), .ref (ad (74)), .int (oI (((spo : Nat) : Int))), .int (oI (((ou6 : Nat) : Int)))]) := (hq_15 _ (by decide)).trans eM6
          have e72 : σ_13 (72) = oAN cT 41 s := (hq_15 _ (by decide)).trans e72
          have e73 : σ_13 (73) = oAI cT 201 F := (hq_15 _ (by decide)).trans e73
          have e74 : σ_13 (74) = oAI cT 201 R := (hq_15 _ (by decide)).trans e74
          have hf : ∀ q : Nat, q ≠ 68 → q ≠ 72 → q ≠ 73 → q ≠ 74 → σ_13 q = σ q := fun q n0 n1 n2 n3 => (hq_15 q n0).trans (hf q n0 n1 n2 n3)
          have hs9 := hwf.2 d4 (by omega)
          have hpos := oPc1 (w := va_up w d4 (oDoW (w d4) ((t9 : Nat) : Int) 0) d4) (hwf5.2 d4 (by omega)).2.2.2.1
          rw [va_up_s] at hpos
          have hple := pcnt_le (oDoW (w d4) ((t9 : Nat) : Int) 0)
          refine m_if_le 191 hx hb dX6_command_184 (by decide) (by omega) (fun h_17 => absurd h_17 (by omega)) (fun h_17 => ?_)
          refine m_iconst 1 hx hb dX6_command_187 rfl ?_
          refine lv_goto (tgt := 192) hx hb dX6_command_188 (by decide) ?_
          exact m_iret hx hb hlk hrt hH m_z1 dX6_command_192 ⟨1, n, a, g, _, _, f5, s, F, R, rfl, (Or.inr rfl), (by obtain ⟨G0, G1, G2, G3, G4, G5, G6, G7, G8, G9, G10, G11⟩ := hG; rw [oGr2 (by rw [G0]; clear G0 G1 G2 G3 G4 G5 G6 G7 G8 G9 G10 G11; omega), G3, G4, if_pos (by omega), if_neg (by omega), G5, G6]; exact oAt2_ok hC), hp5, hwf5, hag, e68, e72, e73, e74, hf⟩
        · refine m_if_eq 191 hx hb dX6_command_160 (by decide) (by omega) (fun h_18 => ?_) (fun h_18 => absurd h_18 (by omega))
          refine m_iconst 0 hx hb dX6_command_191 rfl ?_
          exact m_iret hx hb hlk hrt hH m_z0 dX6_command_192 ⟨0, n, a, g, sz, w, f, s, F, R, rfl, (Or.inl rfl), (by obtain ⟨G0, G1, G2, G3, G4, G5, G6, G7, G8, G9, G10, G11⟩ := hG; rw [oGr2 (by rw [G0]; clear G0 G1 G2 G3 G4 G5 G6 G7 G8 G9 G10 G11; omega), G3, G4, if_pos (by omega), if_neg (by omega), G5, G6]; exact oAt2_no (by omega) hC), hp, hwf, hag, e68, e72, e73, e74, hf⟩
      · refine m_iconst 1 hx hb dX6_command_152 rfl ?_
        refine lv_goto (tgt := 157) hx hb dX6_command_153 (by decide) ?_
        refine m_pSb hx hb hml hown hts hK hH hl (rest := []) cw_X6_127 rfl (c6_canMark hA 68 n a g f sz w ((d4 : Nat) : Int) ((t9 : Nat) : Int) 1 (by first | assumption | omega) (by first | assumption | omega) (by first | assumption | omega) (by first | assumption | omega) (by first | assumption | omega) (by first | assumption | omega) e68) ⟨Nat.le_of_ble_eq_true rfl, Nat.le_of_ble_eq_true rfl⟩ ⟨Nat.le_of_ble_eq_true rfl, Nat.le_of_ble_eq_true rfl⟩ rfl rfl (Nat.le_of_ble_eq_true rfl) dX6_command_157 (fun hC H locs hH => ?_) (fun hC H locs hH => ?_)
        · refine m_if_eq 191 hx hb dX6_command_160 (by decide) (by omega) (fun h_19 => absurd h_19 (by omega)) (fun h_19 => ?_)
          refine lv_aload_n hx hb dX6_command_163 rfl (lv_at hl 6 rfl) ?_
          refine gf_X6_trial hx hb hts hown hK hH (k := 65) (by omega) eM6 dX6_command_164 ?_
          refine lv_iload_n hx hb dX6_command_167 rfl (lv_at hl 5 rfl) ?_
          refine lv_iload hx hb dX6_command_168 (lv_at hl 4 rfl) ?_
          refine lv_iload hx hb dX6_command_170 (lv_at hl 3 rfl) ?_
          refine m_iconst 1 hx hb dX6_command_172 rfl ?_
          refine m_icmp_ne 180 hx hb dX6_command_173 (by decide) (by omega) (by omega) (fun h_20 => absurd h_20 (by omega)) (fun h_20 => ?_)
          refine m_iconst 1 hx hb dX6_command_176 rfl ?_
          refine lv_goto (tgt := 181) hx hb dX6_command_177 (by decide) ?_
          have eS : oSize n sz ((d4 : Nat) : Int) = sz d4 := oSize_in hC.1.1
          refine m_callSi hx hb hml hown hts hK hH hl (rest := []) cw_X6_131 rfl (c6_markOn hA 68 n a g f sz w d4 t9 1 (by first | assumption | omega) (by first | assumption | omega) (by first | assumption | omega) (by first | assumption | omega) (by first | assumption | omega) (by first | assumption | omega) (by first | assumption | omega) e68) ⟨Nat.le_of_ble_eq_true rfl, Nat.le_of_ble_eq_true rfl⟩ ⟨Nat.le_of_ble_eq_true rfl, Nat.le_of_ble_eq_true rfl⟩ rfl rfl (Nat.le_of_ble_eq_true rfl) dX6_command_181 (fun r_24 σ_21 H locs hp_22 hH => ?_)
          obtain ⟨f5, rfl, hp5, hwf5, e68, hq_23⟩ := hp_22
          have eM6 : σ_21 (65) = .inr (6, [.int (oI (rf)), .ref (ad (66)), .int (oI (((si : Nat) : Int))), .ref (ad (67)), .ref (ad (68)), .ref (ad (69)), .int (oI (((ac6 : Nat) : Int))), .ref (ad (70)), .ref (ad (71)), .ref (ad (72)), .ref (ad (73)), .ref (ad (74)), .int (oI (((spo : Nat) : Int))), .int (oI (((ou6 : Nat) : Int)))]) := (hq_23 _ (by decide)).trans eM6
          have e72 : σ_21 (72) = oAN cT 41 s := (hq_23 _ (by decide)).trans e72
          have e73 : σ_21 (73) = oAI cT 201 F := (hq_23 _ (by decide)).trans e73
          have e74 : σ_21 (74) = oAI cT 201 R := (hq_23 _ (by decide)).trans e74
          have hf : ∀ q : Nat, q ≠ 68 → q ≠ 72 → q ≠ 73 → q ≠ 74 → σ_21 q = σ q := fun q n0 n1 n2 n3 => (hq_23 q n0).trans (hf q n0 n1 n2 n3)
          have hs9 := hwf.2 d4 (by omega)
          have hpos := oPc1 (w := va_up w d4 (oDoW (w d4) ((t9 : Nat) : Int) 1) d4) (hwf5.2 d4 (by omega)).2.2.2.1
          rw [va_up_s] at hpos
          have hple := pcnt_le (oDoW (w d4) ((t9 : Nat) : Int) 1)
          refine m_if_le 191 hx hb dX6_command_184 (by decide) (by omega) (fun h_25 => absurd h_25 (by omega)) (fun h_25 => ?_)
          refine m_iconst 1 hx hb dX6_command_187 rfl ?_
          refine lv_goto (tgt := 192) hx hb dX6_command_188 (by decide) ?_
          exact m_iret hx hb hlk hrt hH m_z1 dX6_command_192 ⟨1, n, a, g, _, _, f5, s, F, R, rfl, (Or.inr rfl), (by obtain ⟨G0, G1, G2, G3, G4, G5, G6, G7, G8, G9, G10, G11⟩ := hG; rw [oGr2 (by rw [G0]; clear G0 G1 G2 G3 G4 G5 G6 G7 G8 G9 G10 G11; omega), G3, G4, if_pos (by omega), if_pos (by omega), G5, G6]; exact oAt2_ok hC), hp5, hwf5, hag, e68, e72, e73, e74, hf⟩
        · refine m_if_eq 191 hx hb dX6_command_160 (by decide) (by omega) (fun h_26 => ?_) (fun h_26 => absurd h_26 (by omega))
          refine m_iconst 0 hx hb dX6_command_191 rfl ?_
          exact m_iret hx hb hlk hrt hH m_z0 dX6_command_192 ⟨0, n, a, g, sz, w, f, s, F, R, rfl, (Or.inl rfl), (by obtain ⟨G0, G1, G2, G3, G4, G5, G6, G7, G8, G9, G10, G11⟩ := hG; rw [oGr2 (by rw [G0]; clear G0 G1 G2 G3 G4 G5 G6 G7 G8 G9 G10 G11; omega), G3, G4, if_pos (by omega), if_pos (by omega), G5, G6]; exact oAt2_no (by omega) hC), hp, hwf, hag, e68, e72, e73, e74, hf⟩
  · refine m_tabIn 193 hx hb dX6_command_42 (by omega) (by omega) (by rw [hsw]; rfl) (by decide) ?_
    refine lv_iload hx hb dX6_command_193 (lv_at hl 1 rfl) ?_
    refine m_bipush 100 hx hb dX6_command_195 (by decide) ?_
    refine m_icmp_ge 249 hx hb dX6_command_197 (by decide) (by omega) (by omega) (fun h_27 => ?_) (fun h_27 => ?_)
    · refine m_iconst 0 hx hb dX6_command_249 rfl ?_
      exact m_iret hx hb hlk hrt hH m_z0 dX6_command_250 ⟨0, n, a, g, sz, w, f, s, F, R, rfl, (Or.inl rfl), (by obtain ⟨G0, G1, G2, G3, G4, G5, G6, G7, G8, G9, G10, G11⟩ := hG; rw [oGr3 (by rw [G0]; clear G0 G1 G2 G3 G4 G5 G6 G7 G8 G9 G10 G11; omega), G6, if_neg (by omega)]), hp, hwf, hag, e68, e72, e73, e74, hf⟩
    · refine lv_aload_n hx hb dX6_command_200 rfl (lv_at hl 6 rfl) ?_
      refine gf_X6_trial hx hb hts hown hK hH (k := 65) (by omega) eM6 dX6_command_201 ?_
      refine lv_iload_n hx hb dX6_command_204 rfl (lv_at hl 5 rfl) ?_
      refine m_pSb hx hb hml hown hts hK hH hl (rest := []) cw_X6_50 rfl (c6_isRuler hA 68 n a g f sz w ((d4 : Nat) : Int) (by first | assumption | omega) (by first | assumption | omega) (by first | assumption | omega) (by first | assumption | omega) e68) ⟨Nat.le_of_ble_eq_true rfl, Nat.le_of_ble_eq_true rfl⟩ ⟨Nat.le_of_ble_eq_true rfl, Nat.le_of_ble_eq_true rfl⟩ rfl rfl (Nat.le_of_ble_eq_true rfl) dX6_command_205 (fun hR H locs hH => ?_) (fun hR H locs hH => ?_)
      · have eS : oSize n sz ((d4 : Nat) : Int) = sz d4 := oSize_in hR
        have hs9 := hwf.2 d4 (by omega)
        refine m_if_eq 249 hx hb dX6_command_208 (by decide) (by omega) (fun h_28 => absurd h_28 (by omega)) (fun h_28 => ?_)
        refine lv_iload hx hb dX6_command_211 (lv_at hl 1 rfl) ?_
        refine m_i2l hx hb dX6_command_213 (by omega) ?_
        refine lv_ldc2 (v := 2) hx hb hown (hts _ kl_X6_202) dX6_command_214 ?_
        refine m_J2L 2 (by decide +kernel) ?_
        refine lv_aload_n hx hb dX6_command_217 rfl (lv_at hl 6 rfl) ?_
        refine gf_X6_trial hx hb hts hown hK hH (k := 65) (by omega) eM6 dX6_command_218 ?_
        refine lv_iload_n hx hb dX6_command_221 rfl (lv_at hl 5 rfl) ?_
        refine m_pSi hx hb hml hown hts hK hH hl (rest := [.long (oL (2)), .long (oL (((f9 : Nat) : Int)))]) cw_X6_54 rfl (c6_length hA 68 n a g f sz w d4 (by first | assumption | omega) (by first | assumption | omega) (by first | assumption | omega) (by first | assumption | omega) e68) ⟨Nat.le_of_ble_eq_true rfl, Nat.le_of_ble_eq_true rfl⟩ ⟨Nat.le_of_ble_eq_true rfl, Nat.le_of_ble_eq_true rfl⟩ rfl rfl (Nat.le_of_ble_eq_true rfl) dX6_command_222 (fun H locs hH => ?_)
        refine m_i2l hx hb dX6_command_225 (by omega) ?_
        refine m_pSb hx hb hml hown hts hK hH hl (rest := []) cw_X6_46 rfl (c6_in hA ((f9 : Nat) : Int) 2 ((sz d4 : Nat) : Int) (by first | assumption | omega) (by first | assumption | omega) (by first | assumption | omega) ) ⟨Nat.le_of_ble_eq_true rfl, Nat.le_of_ble_eq_true rfl⟩ ⟨Nat.le_of_ble_eq_true rfl, Nat.le_of_ble_eq_true rfl⟩ rfl rfl (Nat.le_of_ble_eq_true rfl) dX6_command_226 (fun hC3 H locs hH => ?_) (fun hC3 H locs hH => ?_)
        · refine m_if_eq 249 hx hb dX6_command_229 (by decide) (by omega) (fun h_29 => absurd h_29 (by omega)) (fun h_29 => ?_)
          refine lv_aload_n hx hb dX6_command_232 rfl (lv_at hl 6 rfl) ?_
          refine gf_X6_trial hx hb hts hown hK hH (k := 65) (by omega) eM6 dX6_command_233 ?_
          refine lv_iload_n hx hb dX6_command_236 rfl (lv_at hl 5 rfl) ?_
          refine lv_iload hx hb dX6_command_237 (lv_at hl 1 rfl) ?_
          refine m_callSi hx hb hml hown hts hK hH hl (rest := []) cw_X6_146 rfl (c6_cutOn hA 68 n a g f sz w d4 f9 (by first | assumption | omega) (by first | assumption | omega) (by first | assumption | omega) (by first | assumption | omega) (by first | assumption | omega) e68) ⟨Nat.le_of_ble_eq_true rfl, Nat.le_of_ble_eq_true rfl⟩ ⟨Nat.le_of_ble_eq_true rfl, Nat.le_of_ble_eq_true rfl⟩ rfl rfl (Nat.le_of_ble_eq_true rfl) dX6_command_239 (fun r_33 σ_30 H locs hp_31 hH => ?_)
          obtain ⟨f5, rfl, hp5, e68, hq_32⟩ := hp_31
          have eM6 : σ_30 (65) = .inr (6, [.int (oI (rf)), .ref (ad (66)), .int (oI (((si : Nat) : Int))), .ref (ad (67)), .ref (ad (68)), .ref (ad (69)), .int (oI (((ac6 : Nat) : Int))), .ref (ad (70)), .ref (ad (71)), .ref (ad (72)), .ref (ad (73)), .ref (ad (74)), .int (oI (((spo : Nat) : Int))), .int (oI (((ou6 : Nat) : Int)))]) := (hq_32 _ (by decide)).trans eM6
          have e72 : σ_30 (72) = oAN cT 41 s := (hq_32 _ (by decide)).trans e72
          have e73 : σ_30 (73) = oAI cT 201 F := (hq_32 _ (by decide)).trans e73
          have e74 : σ_30 (74) = oAI cT 201 R := (hq_32 _ (by decide)).trans e74
          have hf : ∀ q : Nat, q ≠ 68 → q ≠ 72 → q ≠ 73 → q ≠ 74 → σ_30 q = σ q := fun q n0 n1 n2 n3 => (hq_32 q n0).trans (hf q n0 n1 n2 n3)
          have hwf5 := hwf.cut (r := d4) (x := f9) (by omega) (by omega) (by omega)
          have hpos := oPc1 (hwf5.2 d4 (by omega)).2.2.2.1
          rw [va_up_s] at hpos
          have hple := pcnt_le (oCutW (w d4) (f9))
          refine m_if_le 249 hx hb dX6_command_242 (by decide) (by omega) (fun h_34 => absurd h_34 (by omega)) (fun h_34 => ?_)
          refine m_iconst 1 hx hb dX6_command_245 rfl ?_
          refine lv_goto (tgt := 250) hx hb dX6_command_246 (by decide) ?_
          exact m_iret hx hb hlk hrt hH m_z1 dX6_command_250 ⟨1, n, a, g, _, _, f5, s, F, R, rfl, (Or.inr rfl), (by obtain ⟨G0, G1, G2, G3, G4, G5, G6, G7, G8, G9, G10, G11⟩ := hG; rw [oGr3 (by rw [G0]; clear G0 G1 G2 G3 G4 G5 G6 G7 G8 G9 G10 G11; omega), G6, if_pos (by omega), G5, show oMd x9 100 = f9 by rw [G2]; omega]; exact oAt3_ok (by rw [eS]; omega)), hp5, hwf5, hag, e68, e72, e73, e74, hf⟩
        · refine m_if_eq 249 hx hb dX6_command_229 (by decide) (by omega) (fun h_35 => ?_) (fun h_35 => absurd h_35 (by omega))
          refine m_iconst 0 hx hb dX6_command_249 rfl ?_
          exact m_iret hx hb hlk hrt hH m_z0 dX6_command_250 ⟨0, n, a, g, sz, w, f, s, F, R, rfl, (Or.inl rfl), (by obtain ⟨G0, G1, G2, G3, G4, G5, G6, G7, G8, G9, G10, G11⟩ := hG; rw [oGr3 (by rw [G0]; clear G0 G1 G2 G3 G4 G5 G6 G7 G8 G9 G10 G11; omega), G6, if_pos (by omega), G5, show oMd x9 100 = f9 by rw [G2]; omega]; exact oAt3_no (by rw [eS]; omega)), hp, hwf, hag, e68, e72, e73, e74, hf⟩
      · refine m_if_eq 249 hx hb dX6_command_208 (by decide) (by omega) (fun h_36 => ?_) (fun h_36 => absurd h_36 (by omega))
        refine m_iconst 0 hx hb dX6_command_249 rfl ?_
        exact m_iret hx hb hlk hrt hH m_z0 dX6_command_250 ⟨0, n, a, g, sz, w, f, s, F, R, rfl, (Or.inl rfl), (by obtain ⟨G0, G1, G2, G3, G4, G5, G6, G7, G8, G9, G10, G11⟩ := hG; rw [oGr3 (by rw [G0]; clear G0 G1 G2 G3 G4 G5 G6 G7 G8 G9 G10 G11; omega), G6, if_pos (by omega), G5]; exact oAt3_no (fun q => hR q.1)), hp, hwf, hag, e68, e72, e73, e74, hf⟩
  · refine m_tabIn 251 hx hb dX6_command_42 (by omega) (by omega) (by rw [hsw]; rfl) (by decide) ?_
    refine lv_iload hx hb dX6_command_251 (lv_at hl 1 rfl) ?_
    refine m_if_ne 282 hx hb dX6_command_253 (by decide) (by omega) (fun h_37 => ?_) (fun h_37 => ?_)
    · refine m_iconst 0 hx hb dX6_command_282 rfl ?_
      exact m_iret hx hb hlk hrt hH m_z0 dX6_command_283 ⟨0, n, a, g, sz, w, f, s, F, R, rfl, (Or.inl rfl), (by obtain ⟨G0, G1, G2, G3, G4, G5, G6, G7, G8, G9, G10, G11⟩ := hG; rw [oGr4 (by rw [G0]; clear G0 G1 G2 G3 G4 G5 G6 G7 G8 G9 G10 G11; omega), G7, if_neg (by omega)]), hp, hwf, hag, e68, e72, e73, e74, hf⟩
    · refine lv_aload_n hx hb dX6_command_256 rfl (lv_at hl 6 rfl) ?_
      refine gf_X6_trial hx hb hts hown hK hH (k := 65) (by omega) eM6 dX6_command_257 ?_
      refine lv_iload_n hx hb dX6_command_260 rfl (lv_at hl 5 rfl) ?_
      refine m_pSb hx hb hml hown hts hK hH hl (rest := []) cw_X6_50 rfl (c6_isRuler hA 68 n a g f sz w ((d4 : Nat) : Int) (by first | assumption | omega) (by first | assumption | omega) (by first | assumption | omega) (by first | assumption | omega) e68) ⟨Nat.le_of_ble_eq_true rfl, Nat.le_of_ble_eq_true rfl⟩ ⟨Nat.le_of_ble_eq_true rfl, Nat.le_of_ble_eq_true rfl⟩ rfl rfl (Nat.le_of_ble_eq_true rfl) dX6_command_261 (fun hR H locs hH => ?_) (fun hR H locs hH => ?_)
      · refine m_if_eq 282 hx hb dX6_command_264 (by decide) (by omega) (fun h_38 => absurd h_38 (by omega)) (fun h_38 => ?_)
        refine lv_aload_n hx hb dX6_command_267 rfl (lv_at hl 6 rfl) ?_
        refine gf_X6_trial hx hb hts hown hK hH (k := 65) (by omega) eM6 dX6_command_268 ?_
        refine lv_iload_n hx hb dX6_command_271 rfl (lv_at hl 5 rfl) ?_
        refine m_callSi hx hb hml hown hts hK hH hl (rest := []) cw_X6_150 rfl (c6_turnOn hA 68 n a g f sz w d4 (by first | assumption | omega) (by first | assumption | omega) (by first | assumption | omega) (by first | assumption | omega) e68) ⟨Nat.le_of_ble_eq_true rfl, Nat.le_of_ble_eq_true rfl⟩ ⟨Nat.le_of_ble_eq_true rfl, Nat.le_of_ble_eq_true rfl⟩ rfl rfl (Nat.le_of_ble_eq_true rfl) dX6_command_272 (fun r_42 σ_39 H locs hp_40 hH => ?_)
        obtain ⟨f5, rfl, hp5, hpos, e68, hq_41⟩ := hp_40
        have eM6 : σ_39 (65) = .inr (6, [.int (oI (rf)), .ref (ad (66)), .int (oI (((si : Nat) : Int))), .ref (ad (67)), .ref (ad (68)), .ref (ad (69)), .int (oI (((ac6 : Nat) : Int))), .ref (ad (70)), .ref (ad (71)), .ref (ad (72)), .ref (ad (73)), .ref (ad (74)), .int (oI (((spo : Nat) : Int))), .int (oI (((ou6 : Nat) : Int)))]) := (hq_41 _ (by decide)).trans eM6
        have e72 : σ_39 (72) = oAN cT 41 s := (hq_41 _ (by decide)).trans e72
        have e73 : σ_39 (73) = oAI cT 201 F := (hq_41 _ (by decide)).trans e73
        have e74 : σ_39 (74) = oAI cT 201 R := (hq_41 _ (by decide)).trans e74
        have hf : ∀ q : Nat, q ≠ 68 → q ≠ 72 → q ≠ 73 → q ≠ 74 → σ_39 q = σ q := fun q n0 n1 n2 n3 => (hq_41 q n0).trans (hf q n0 n1 n2 n3)
        have hs9 := hwf.2 d4 (by omega)
        have hTb := oTurnR_b (w := oRev (w d4) (sz d4)) hs9.2.1
        refine m_if_le 282 hx hb dX6_command_275 (by decide) (by omega) (fun h_43 => absurd h_43 (by omega)) (fun h_43 => ?_)
        refine m_iconst 1 hx hb dX6_command_278 rfl ?_
        refine lv_goto (tgt := 283) hx hb dX6_command_279 (by decide) ?_
        exact m_iret hx hb hlk hrt hH m_z1 dX6_command_283 ⟨1, n, a, g, _, _, f5, s, F, R, rfl, (Or.inr rfl), (by obtain ⟨G0, G1, G2, G3, G4, G5, G6, G7, G8, G9, G10, G11⟩ := hG; rw [oGr4 (by rw [G0]; clear G0 G1 G2 G3 G4 G5 G6 G7 G8 G9 G10 G11; omega), G7, if_pos (by omega), G5]; exact oAt4_ok hR), hp5, (hwf.turn (by omega)), hag, e68, e72, e73, e74, hf⟩
      · refine m_if_eq 282 hx hb dX6_command_264 (by decide) (by omega) (fun h_44 => ?_) (fun h_44 => absurd h_44 (by omega))
        refine m_iconst 0 hx hb dX6_command_282 rfl ?_
        exact m_iret hx hb hlk hrt hH m_z0 dX6_command_283 ⟨0, n, a, g, sz, w, f, s, F, R, rfl, (Or.inl rfl), (by obtain ⟨G0, G1, G2, G3, G4, G5, G6, G7, G8, G9, G10, G11⟩ := hG; rw [oGr4 (by rw [G0]; clear G0 G1 G2 G3 G4 G5 G6 G7 G8 G9 G10 G11; omega), G7, if_pos (by omega), G5]; exact oAt4_no hR), hp, hwf, hag, e68, e72, e73, e74, hf⟩
  · refine m_tabIn 284 hx hb dX6_command_42 (by omega) (by omega) (by rw [hsw]; rfl) (by decide) ?_
    refine lv_iload hx hb dX6_command_284 (lv_at hl 1 rfl) ?_
    refine m_sipush 1000 hx hb dX6_command_286 (by decide) ?_
    refine m_icmp_ge 318 hx hb dX6_command_289 (by decide) (by omega) (by omega) (fun h_45 => ?_) (fun h_45 => ?_)
    · refine m_iconst 0 hx hb dX6_command_318 rfl ?_
      exact m_iret hx hb hlk hrt hH m_z0 dX6_command_319 ⟨0, n, a, g, sz, w, f, s, F, R, rfl, (Or.inl rfl), (by obtain ⟨G0, G1, G2, G3, G4, G5, G6, G7, G8, G9, G10, G11⟩ := hG; rw [oGr5 (by rw [G0]; clear G0 G1 G2 G3 G4 G5 G6 G7 G8 G9 G10 G11; omega), G8, if_neg (by omega)]), hp, hwf, hag, e68, e72, e73, e74, hf⟩
    · refine lv_iload_n hx hb dX6_command_292 rfl (lv_at hl 5 rfl) ?_
      refine lv_iload hx hb dX6_command_293 (lv_at hl 2 rfl) ?_
      refine m_pSb hx hb hml hown hts hK hH hl (rest := []) cw_X6_209 rfl (c6_isSetting hA ((d4 : Nat) : Int) ((th9 : Nat) : Int) (by first | assumption | omega) (by first | assumption | omega) ) ⟨Nat.le_of_ble_eq_true rfl, Nat.le_of_ble_eq_true rfl⟩ ⟨Nat.le_of_ble_eq_true rfl, Nat.le_of_ble_eq_true rfl⟩ rfl rfl (Nat.le_of_ble_eq_true rfl) dX6_command_295 (fun hS H locs hH => ?_) (fun hS H locs hH => ?_)
      · refine m_if_eq 318 hx hb dX6_command_298 (by decide) (by omega) (fun h_46 => absurd h_46 (by omega)) (fun h_46 => ?_)
        refine lv_aload_n hx hb dX6_command_301 rfl (lv_at hl 6 rfl) ?_
        refine gf_X6_trial hx hb hts hown hK hH (k := 65) (by omega) eM6 dX6_command_302 ?_
        refine lv_iload_n hx hb dX6_command_305 rfl (lv_at hl 5 rfl) ?_
        refine lv_iload hx hb dX6_command_306 (lv_at hl 2 rfl) ?_
        refine m_callSi hx hb hml hown hts hK hH hl (rest := []) cw_X6_153 rfl (c6_changeR hA 68 n a g f sz w ((d4 : Nat) : Int) th9 (by first | assumption | omega) (by first | assumption | omega) (by first | assumption | omega) (by first | assumption | omega) (by first | assumption | omega) e68) ⟨Nat.le_of_ble_eq_true rfl, Nat.le_of_ble_eq_true rfl⟩ ⟨Nat.le_of_ble_eq_true rfl, Nat.le_of_ble_eq_true rfl⟩ rfl rfl (Nat.le_of_ble_eq_true rfl) dX6_command_308 (fun r_50 σ_47 H locs hp_48 hH => ?_)
        obtain ⟨f5, rfl, hp5, e68, hq_49⟩ := hp_48
        have eM6 : σ_47 (65) = .inr (6, [.int (oI (rf)), .ref (ad (66)), .int (oI (((si : Nat) : Int))), .ref (ad (67)), .ref (ad (68)), .ref (ad (69)), .int (oI (((ac6 : Nat) : Int))), .ref (ad (70)), .ref (ad (71)), .ref (ad (72)), .ref (ad (73)), .ref (ad (74)), .int (oI (((spo : Nat) : Int))), .int (oI (((ou6 : Nat) : Int)))]) := (hq_49 _ (by decide)).trans eM6
        have e72 : σ_47 (72) = oAN cT 41 s := (hq_49 _ (by decide)).trans e72
        have e73 : σ_47 (73) = oAI cT 201 F := (hq_49 _ (by decide)).trans e73
        have e74 : σ_47 (74) = oAI cT 201 R := (hq_49 _ (by decide)).trans e74
        have hf : ∀ q : Nat, q ≠ 68 → q ≠ 72 → q ≠ 73 → q ≠ 74 → σ_47 q = σ q := fun q n0 n1 n2 n3 => (hq_49 q n0).trans (hf q n0 n1 n2 n3)
        have hcv : 1 ≤ (if ((d4 : Nat) : Int) = 0 then a else g) ∧ (if ((d4 : Nat) : Int) = 0 then a else g) ≤ 150 := by split <;> omega
        refine m_if_le 318 hx hb dX6_command_311 (by decide) (by omega) (fun h_51 => absurd h_51 (by omega)) (fun h_51 => ?_)
        refine m_iconst 1 hx hb dX6_command_314 rfl ?_
        refine lv_goto (tgt := 319) hx hb dX6_command_315 (by decide) ?_
        exact m_iret hx hb hlk hrt hH m_z1 dX6_command_319 ⟨1, n, _, _, sz, w, f5, s, F, R, rfl, (Or.inr rfl), (by obtain ⟨G0, G1, G2, G3, G4, G5, G6, G7, G8, G9, G10, G11⟩ := hG; rw [oGr5 (by rw [G0]; clear G0 G1 G2 G3 G4 G5 G6 G7 G8 G9 G10 G11; omega), G8, if_pos (by omega), G5, G9]; exact oAt5r hS), hp5, hwf, ⟨by split <;> omega, by split <;> omega⟩, e68, e72, e73, e74, hf⟩
      · refine m_if_eq 318 hx hb dX6_command_298 (by decide) (by omega) (fun h_52 => ?_) (fun h_52 => absurd h_52 (by omega))
        refine m_iconst 0 hx hb dX6_command_318 rfl ?_
        exact m_iret hx hb hlk hrt hH m_z0 dX6_command_319 ⟨0, n, a, g, sz, w, f, s, F, R, rfl, (Or.inl rfl), (by obtain ⟨G0, G1, G2, G3, G4, G5, G6, G7, G8, G9, G10, G11⟩ := hG; rw [oGr5 (by rw [G0]; clear G0 G1 G2 G3 G4 G5 G6 G7 G8 G9 G10 G11; omega), G8, if_pos (by omega), G5, G9]; exact oAt5_no hS), hp, hwf, hag, e68, e72, e73, e74, hf⟩
  · refine m_tabIn 320 hx hb dX6_command_42 (by omega) (by omega) (by rw [hsw]; rfl) (by decide) ?_
    refine lv_iload_n hx hb dX6_command_320 rfl (lv_at hl 5 rfl) ?_
    refine m_if_ne 353 hx hb dX6_command_321 (by decide) (by omega) (fun h_53 => ?_) (fun h_53 => ?_)
    · refine m_iconst 0 hx hb dX6_command_353 rfl ?_
      exact m_iret hx hb hlk hrt hH m_z0 dX6_command_354 ⟨0, n, a, g, sz, w, f, s, F, R, rfl, (Or.inl rfl), (by obtain ⟨G0, G1, G2, G3, G4, G5, G6, G7, G8, G9, G10, G11⟩ := hG; rw [oGr6 (by rw [G0]; clear G0 G1 G2 G3 G4 G5 G6 G7 G8 G9 G10 G11; omega), G5, if_neg (by omega)]), hp, hwf, hag, e68, e72, e73, e74, hf⟩
    · refine lv_iload hx hb dX6_command_324 (lv_at hl 1 rfl) ?_
      refine m_bipush 10 hx hb dX6_command_326 (by decide) ?_
      refine m_idiv (((u9 : Nat) : Int)) hx hb dX6_command_328 (by omega) (by omega) (by omega) ?_
      refine m_sipush 200 hx hb dX6_command_329 (by decide) ?_
      refine m_icmp_gt 353 hx hb dX6_command_332 (by decide) (by omega) (by omega) (fun h_54 => ?_) (fun h_54 => ?_)
      · refine m_iconst 0 hx hb dX6_command_353 rfl ?_
        exact m_iret hx hb hlk hrt hH m_z0 dX6_command_354 ⟨0, n, a, g, sz, w, f, s, F, R, rfl, (Or.inl rfl), (by obtain ⟨G0, G1, G2, G3, G4, G5, G6, G7, G8, G9, G10, G11⟩ := hG; rw [oGr6 (by rw [G0]; clear G0 G1 G2 G3 G4 G5 G6 G7 G8 G9 G10 G11; omega), G5, if_pos (by omega), G10, show oLw (oOrW n w (-1) 4) (u9) (oMd x9 10) = 0 from if_neg (by omega)]), hp, hwf, hag, e68, e72, e73, e74, hf⟩
      · refine lv_aload_n hx hb dX6_command_335 rfl (lv_at hl 6 rfl) ?_
        refine lv_iload hx hb dX6_command_336 (lv_at hl 1 rfl) ?_
        refine m_bipush 10 hx hb dX6_command_338 (by decide) ?_
        refine m_idiv (((u9 : Nat) : Int)) hx hb dX6_command_340 (by omega) (by omega) (by omega) ?_
        refine lv_iload hx hb dX6_command_341 (lv_at hl 0 rfl) ?_
        obtain ⟨q9, hq9⟩ : ∃ z : Int, oLw (oOrW n w (-1) 4) (u9) d0 = z := ⟨_, rfl⟩
        have hqb := oLw_b (oOrW n w (-1) 4) (u9) d0
        rw [hq9] at hqb
        refine m_callVi hx hb hml hown hts hK hH hl (rest := []) cw_X6_221 (c6_isReached hA u9 d0 si ac6 spo ou6 rf n a g f sz w s F R (by first | assumption | omega) (by first | assumption | omega) (by first | assumption | omega) (by first | assumption | omega) (by first | assumption | omega) (by first | assumption | omega) eM6 e68 e72 e73 e74) ⟨Nat.le_of_ble_eq_true rfl, Nat.le_of_ble_eq_true rfl⟩ ⟨Nat.le_of_ble_eq_true rfl, Nat.le_of_ble_eq_true rfl⟩ rfl (k := 65) (by omega) eM6 rfl rfl (Nat.le_of_ble_eq_true rfl) dX6_command_343 (fun r_58 σ_55 H locs hp_56 hH => ?_)
        obtain ⟨s6, F6, R6, rfl, e72, e73, e74, hq_57⟩ := hp_56
        have eM6 : σ_55 (65) = .inr (6, [.int (oI (rf)), .ref (ad (66)), .int (oI (((si : Nat) : Int))), .ref (ad (67)), .ref (ad (68)), .ref (ad (69)), .int (oI (((ac6 : Nat) : Int))), .ref (ad (70)), .ref (ad (71)), .ref (ad (72)), .ref (ad (73)), .ref (ad (74)), .int (oI (((spo : Nat) : Int))), .int (oI (((ou6 : Nat) : Int)))]) := (hq_57 _ (by decide) (by decide) (by decide)).trans eM6
        have e68 : σ_55 (68) = oAI cT 171 f := (hq_57 _ (by decide) (by decide) (by decide)).trans e68
        have hf : ∀ q : Nat, q ≠ 68 → q ≠ 72 → q ≠ 73 → q ≠ 74 → σ_55 q = σ q := fun q n0 n1 n2 n3 => (hq_57 q n1 n2 n3).trans (hf q n0 n1 n2 n3)
        refine m_topI (q9) (by rw [hq9]) ?_
        refine m_if_eq 353 hx hb dX6_command_346 (by decide) (by omega) (fun h_59 => ?_) (fun h_59 => ?_)
        · refine m_iconst 0 hx hb dX6_command_353 rfl ?_
          exact m_iret hx hb hlk hrt hH m_z0 dX6_command_354 ⟨0, n, a, g, sz, w, f, s6, F6, R6, rfl, (Or.inl rfl), (by obtain ⟨G0, G1, G2, G3, G4, G5, G6, G7, G8, G9, G10, G11⟩ := hG; rw [oGr6 (by rw [G0]; clear G0 G1 G2 G3 G4 G5 G6 G7 G8 G9 G10 G11; omega), G5, if_pos (by omega), G10, G4, hq9, show q9 = 0 by omega]), hp, hwf, hag, e68, e72, e73, e74, hf⟩
        · refine m_iconst 1 hx hb dX6_command_349 rfl ?_
          refine lv_goto (tgt := 354) hx hb dX6_command_350 (by decide) ?_
          exact m_iret hx hb hlk hrt hH m_z1 dX6_command_354 ⟨1, n, a, g, sz, w, f, s6, F6, R6, rfl, (Or.inr rfl), (by obtain ⟨G0, G1, G2, G3, G4, G5, G6, G7, G8, G9, G10, G11⟩ := hG; rw [oGr6 (by rw [G0]; clear G0 G1 G2 G3 G4 G5 G6 G7 G8 G9 G10 G11; omega), G5, if_pos (by omega), G10, G4, hq9, show q9 = 1 by omega]), hp, hwf, hag, e68, e72, e73, e74, hf⟩
  · refine m_tabIn 355 hx hb dX6_command_42 (by omega) (by omega) (by rw [hsw]; rfl) (by decide) ?_
    refine lv_iload_n hx hb dX6_command_355 rfl (lv_at hl 8 rfl) ?_
    refine m_sipush 1000 hx hb dX6_command_356 (by decide) ?_
    refine m_icmp_ge 378 hx hb dX6_command_359 (by decide) (by omega) (by omega) (fun h_60 => ?_) (fun h_60 => ?_)
    · refine m_iconst 0 hx hb dX6_command_378 rfl ?_
      exact m_iret hx hb hlk hrt hH m_z0 dX6_command_379 ⟨0, n, a, g, sz, w, f, s, F, R, rfl, (Or.inl rfl), (by obtain ⟨G0, G1, G2, G3, G4, G5, G6, G7, G8, G9, G10, G11⟩ := hG; rw [oGr7 (by rw [G0]; clear G0 G1 G2 G3 G4 G5 G6 G7 G8 G9 G10 G11; omega), G11, G9, if_neg (by omega)]), hp, hwf, hag, e68, e72, e73, e74, hf⟩
    · refine lv_aload_n hx hb dX6_command_362 rfl (lv_at hl 6 rfl) ?_
      refine lv_aload_n hx hb dX6_command_363 rfl (lv_at hl 6 rfl) ?_
      refine gf_X6_trial hx hb hts hown hK hH (k := 65) (by omega) eM6 dX6_command_364 ?_
      obtain ⟨c9, hc9⟩ : ∃ y : Nat, oCnt (oOrW n w (-1) 4) a g = y := ⟨_, rfl⟩
      have hc150 : c9 ≤ 150 := by rw [← hc9]; exact Nat.le_trans (oCnt_le _ _ _) hag.2.2
      refine m_callVi hx hb hml hown hts hK hH hl (rest := []) cw_X6_91 (c6_laid hA si ac6 spo ou6 rf 68 n a g f sz w s F R (by first | assumption | omega) (by first | assumption | omega) (by first | assumption | omega) (by first | assumption | omega) (by first | assumption | omega) eM6 e68 e72 e73 e74) ⟨Nat.le_of_ble_eq_true rfl, Nat.le_of_ble_eq_true rfl⟩ ⟨Nat.le_of_ble_eq_true rfl, Nat.le_of_ble_eq_true rfl⟩ rfl (k := 65) (by omega) eM6 rfl rfl (Nat.le_of_ble_eq_true rfl) dX6_command_367 (fun r_64 σ_61 H locs hp_62 hH => ?_)
      obtain ⟨s6, F6, R6, rfl, f_65, f_66, e72, e73, e74, hq_63⟩ := hp_62
      have eM6 : σ_61 (65) = .inr (6, [.int (oI (rf)), .ref (ad (66)), .int (oI (((si : Nat) : Int))), .ref (ad (67)), .ref (ad (68)), .ref (ad (69)), .int (oI (((ac6 : Nat) : Int))), .ref (ad (70)), .ref (ad (71)), .ref (ad (72)), .ref (ad (73)), .ref (ad (74)), .int (oI (((spo : Nat) : Int))), .int (oI (((ou6 : Nat) : Int)))]) := (hq_63 _ (by decide) (by decide) (by decide)).trans eM6
      have e68 : σ_61 (68) = oAI cT 171 f := (hq_63 _ (by decide) (by decide) (by decide)).trans e68
      have hf : ∀ q : Nat, q ≠ 68 → q ≠ 72 → q ≠ 73 → q ≠ 74 → σ_61 q = σ q := fun q n0 n1 n2 n3 => (hq_63 q n1 n2 n3).trans (hf q n0 n1 n2 n3)
      refine m_topI (((c9 : Nat) : Int)) (by rw [hc9]) ?_
      refine lv_iload_n hx hb dX6_command_370 rfl (lv_at hl 8 rfl) ?_
      refine m_icmp_lt 378 hx hb dX6_command_371 (by decide) (by omega) (by omega) (fun h_67 => ?_) (fun h_67 => ?_)
      · refine m_iconst 0 hx hb dX6_command_378 rfl ?_
        exact m_iret hx hb hlk hrt hH m_z0 dX6_command_379 ⟨0, n, a, g, sz, w, f, s6, F6, R6, rfl, (Or.inl rfl), (by obtain ⟨G0, G1, G2, G3, G4, G5, G6, G7, G8, G9, G10, G11⟩ := hG; rw [oGr7 (by rw [G0]; clear G0 G1 G2 G3 G4 G5 G6 G7 G8 G9 G10 G11; omega), G11, G9, hc9, if_neg (by omega)]), hp, hwf, hag, e68, e72, e73, e74, hf⟩
      · refine m_iconst 1 hx hb dX6_command_374 rfl ?_
        refine lv_goto (tgt := 379) hx hb dX6_command_375 (by decide) ?_
        exact m_iret hx hb hlk hrt hH m_z1 dX6_command_379 ⟨1, n, a, g, sz, w, f, s6, F6, R6, rfl, (Or.inr rfl), (by obtain ⟨G0, G1, G2, G3, G4, G5, G6, G7, G8, G9, G10, G11⟩ := hG; rw [oGr7 (by rw [G0]; clear G0 G1 G2 G3 G4 G5 G6 G7 G8 G9 G10 G11; omega), G11, G9, hc9, if_pos (by omega)]), hp, hwf, hag, e68, e72, e73, e74, hf⟩
  · refine m_tabIn 380 hx hb dX6_command_42 (by omega) (by omega) (by rw [hsw]; rfl) (by decide) ?_
    refine lv_iload hx hb dX6_command_380 (lv_at hl 3 rfl) ?_
    refine m_iconst 2 hx hb dX6_command_382 rfl ?_
    refine m_icmp_ge 419 hx hb dX6_command_383 (by decide) (by omega) (by omega) (fun h_68 => ?_) (fun h_68 => ?_)
    · refine m_iconst 0 hx hb dX6_command_419 rfl ?_
      exact m_iret hx hb hlk hrt hH m_z0 dX6_command_420 ⟨0, n, a, g, sz, w, f, s, F, R, rfl, (Or.inl rfl), (by obtain ⟨G0, G1, G2, G3, G4, G5, G6, G7, G8, G9, G10, G11⟩ := hG; rw [oGr8 (by rw [G0]; clear G0 G1 G2 G3 G4 G5 G6 G7 G8 G9 G10 G11; omega), G3, G4, if_neg (by omega)]), hp, hwf, hag, e68, e72, e73, e74, hf⟩
    · refine lv_aload_n hx hb dX6_command_386 rfl (lv_at hl 6 rfl) ?_
      refine gf_X6_trial hx hb hts hown hK hH (k := 65) (by omega) eM6 dX6_command_387 ?_
      refine lv_iload_n hx hb dX6_command_390 rfl (lv_at hl 5 rfl) ?_
      refine lv_iload hx hb dX6_command_391 (lv_at hl 4 rfl) ?_
      refine m_pSb hx hb hml hown hts hK hH hl (rest := []) cw_X6_99 rfl (c6_isPlace hA 68 n a g f sz w ((d4 : Nat) : Int) ((t9 : Nat) : Int) (by first | assumption | omega) (by first | assumption | omega) (by first | assumption | omega) (by first | assumption | omega) (by first | assumption | omega) e68) ⟨Nat.le_of_ble_eq_true rfl, Nat.le_of_ble_eq_true rfl⟩ ⟨Nat.le_of_ble_eq_true rfl, Nat.le_of_ble_eq_true rfl⟩ rfl rfl (Nat.le_of_ble_eq_true rfl) dX6_command_393 (fun hP H locs hH => ?_) (fun hP H locs hH => ?_)
      · have eS : oSize n sz ((d4 : Nat) : Int) = sz d4 := oSize_in hP.1
        have eR : oRow n w ((d4 : Nat) : Int) = w d4 := oRow_in hP.1
        have hs9 := hwf.2 d4 (by omega)
        refine m_if_eq 419 hx hb dX6_command_396 (by decide) (by omega) (fun h_69 => absurd h_69 (by omega)) (fun h_69 => ?_)
        refine lv_aload_n hx hb dX6_command_399 rfl (lv_at hl 6 rfl) ?_
        refine gf_X6_trial hx hb hts hown hK hH (k := 65) (by omega) eM6 dX6_command_400 ?_
        refine lv_iload_n hx hb dX6_command_403 rfl (lv_at hl 5 rfl) ?_
        refine lv_iload hx hb dX6_command_404 (lv_at hl 4 rfl) ?_
        refine m_pSi hx hb hml hown hts hK hH hl (rest := [.ref (ad (68))]) cw_X6_64 rfl (c6_at hA d4 t9 (by first | assumption | omega) (by first | assumption | omega) ) ⟨Nat.le_of_ble_eq_true rfl, Nat.le_of_ble_eq_true rfl⟩ ⟨Nat.le_of_ble_eq_true rfl, Nat.le_of_ble_eq_true rfl⟩ rfl rfl (Nat.le_of_ble_eq_true rfl) dX6_command_406 (fun H locs hH => ?_)
        refine m_iald hx hb hK hH (k := 68) (by omega) e68 (42 * d4 + 4 + (t9)) (by omega) (by omega) (by decide) dX6_command_409 ?_
        refine m_topI (((bz (w d4) (t9) : Nat) : Int)) ((hp.2.2.2 d4 (by omega)).2 (t9) (by omega)) ?_
        have hb1 := bz_le (w d4) (t9)
        refine lv_iload hx hb dX6_command_410 (lv_at hl 3 rfl) ?_
        refine m_icmp_ne 419 hx hb dX6_command_412 (by decide) (by omega) (by omega) (fun h_70 => ?_) (fun h_70 => ?_)
        · refine m_iconst 0 hx hb dX6_command_419 rfl ?_
          exact m_iret hx hb hlk hrt hH m_z0 dX6_command_420 ⟨0, n, a, g, sz, w, f, s, F, R, rfl, (Or.inl rfl), (by obtain ⟨G0, G1, G2, G3, G4, G5, G6, G7, G8, G9, G10, G11⟩ := hG; rw [oGr8 (by rw [G0]; clear G0 G1 G2 G3 G4 G5 G6 G7 G8 G9 G10 G11; omega), G3, G4, if_pos (by omega), G5, G6, oMk_0 (fun q0 => by
            have hbi : bz (w d4) (t9) = 1 ↔ (if d0 = 1 then (1 : Int) else 0) = 1 := ⟨fun z => q0.2.mp ⟨by omega, by omega, by rw [eR]; exact bz_1.mp z⟩, fun z => by have h7 := (q0.2.mpr z).2.2; rw [eR] at h7; exact bz_1.mpr h7⟩
            by_cases e : d0 = 1
            · rw [if_pos e] at hbi; have := hbi.mpr rfl; omega
            · rw [if_neg e] at hbi; have : ¬ bz (w d4) (t9) = 1 := fun z => absurd (hbi.mp z) (by decide); omega)]), hp, hwf, hag, e68, e72, e73, e74, hf⟩
        · refine m_iconst 1 hx hb dX6_command_415 rfl ?_
          refine lv_goto (tgt := 420) hx hb dX6_command_416 (by decide) ?_
          exact m_iret hx hb hlk hrt hH m_z1 dX6_command_420 ⟨1, n, a, g, sz, w, f, s, F, R, rfl, (Or.inr rfl), (by obtain ⟨G0, G1, G2, G3, G4, G5, G6, G7, G8, G9, G10, G11⟩ := hG; rw [oGr8 (by rw [G0]; clear G0 G1 G2 G3 G4 G5 G6 G7 G8 G9 G10 G11; omega), G3, G4, if_pos (by omega), G5, G6, oMk_1 ⟨hP, ⟨fun q => by
            have h7 := q.2.2; rw [eR] at h7; have := bz_1.mpr h7; rw [Int.toNat_natCast] at this; exact if_pos (by omega), fun q => ⟨by omega, by omega, by
            have e : d0 = 1 := Classical.byContradiction (fun z => by rw [if_neg z] at q; exact absurd q (by decide))
            rw [eR, Int.toNat_natCast]; exact bz_1.mp (by omega)⟩⟩⟩]), hp, hwf, hag, e68, e72, e73, e74, hf⟩
      · refine m_if_eq 419 hx hb dX6_command_396 (by decide) (by omega) (fun h_71 => ?_) (fun h_71 => absurd h_71 (by omega))
        refine m_iconst 0 hx hb dX6_command_419 rfl ?_
        exact m_iret hx hb hlk hrt hH m_z0 dX6_command_420 ⟨0, n, a, g, sz, w, f, s, F, R, rfl, (Or.inl rfl), (by obtain ⟨G0, G1, G2, G3, G4, G5, G6, G7, G8, G9, G10, G11⟩ := hG; rw [oGr8 (by rw [G0]; clear G0 G1 G2 G3 G4 G5 G6 G7 G8 G9 G10 G11; omega), G3, G4, if_pos (by omega), G5, G6, oMk_0 (fun q => hP q.1)]), hp, hwf, hag, e68, e72, e73, e74, hf⟩
  · refine m_tabIn 421 hx hb dX6_command_42 (by omega) (by omega) (by rw [hsw]; rfl) (by decide) ?_
    refine lv_iload_n hx hb dX6_command_421 rfl (lv_at hl 8 rfl) ?_
    refine m_bipush 100 hx hb dX6_command_422 (by decide) ?_
    refine m_icmp_ge 443 hx hb dX6_command_424 (by decide) (by omega) (by omega) (fun h_72 => ?_) (fun h_72 => ?_)
    · refine m_iconst 0 hx hb dX6_command_443 rfl ?_
      exact m_iret hx hb hlk hrt hH m_z0 dX6_command_444 ⟨0, n, a, g, sz, w, f, s, F, R, rfl, (Or.inl rfl), (by obtain ⟨G0, G1, G2, G3, G4, G5, G6, G7, G8, G9, G10, G11⟩ := hG; rw [oGr9 (by rw [G0]; clear G0 G1 G2 G3 G4 G5 G6 G7 G8 G9 G10 G11; omega), G1, G2, if_neg (by omega)]), hp, hwf, hag, e68, e72, e73, e74, hf⟩
    · refine lv_aload_n hx hb dX6_command_427 rfl (lv_at hl 6 rfl) ?_
      refine lv_aload_n hx hb dX6_command_428 rfl (lv_at hl 6 rfl) ?_
      refine gf_X6_trial hx hb hts hown hK hH (k := 65) (by omega) eM6 dX6_command_429 ?_
      obtain ⟨c9, hc9⟩ : ∃ y : Nat, oGaps (oOrW n w (-1) 4) a g = y := ⟨_, rfl⟩
      have hc150 : c9 ≤ 150 := by rw [← hc9]; exact Nat.le_trans (oGaps_le _ _ _) hag.2.2
      refine m_callVi hx hb hml hown hts hK hH hl (rest := []) cw_X6_185 (c6_gaps hA si ac6 spo ou6 rf 68 n a g f sz w s F R (by first | assumption | omega) (by first | assumption | omega) (by first | assumption | omega) (by first | assumption | omega) (by first | assumption | omega) eM6 e68 e72 e73 e74) ⟨Nat.le_of_ble_eq_true rfl, Nat.le_of_ble_eq_true rfl⟩ ⟨Nat.le_of_ble_eq_true rfl, Nat.le_of_ble_eq_true rfl⟩ rfl (k := 65) (by omega) eM6 rfl rfl (Nat.le_of_ble_eq_true rfl) dX6_command_432 (fun r_76 σ_73 H locs hp_74 hH => ?_)
      obtain ⟨s6, F6, R6, rfl, f_77, f_78, e72, e73, e74, hq_75⟩ := hp_74
      have eM6 : σ_73 (65) = .inr (6, [.int (oI (rf)), .ref (ad (66)), .int (oI (((si : Nat) : Int))), .ref (ad (67)), .ref (ad (68)), .ref (ad (69)), .int (oI (((ac6 : Nat) : Int))), .ref (ad (70)), .ref (ad (71)), .ref (ad (72)), .ref (ad (73)), .ref (ad (74)), .int (oI (((spo : Nat) : Int))), .int (oI (((ou6 : Nat) : Int)))]) := (hq_75 _ (by decide) (by decide) (by decide)).trans eM6
      have e68 : σ_73 (68) = oAI cT 171 f := (hq_75 _ (by decide) (by decide) (by decide)).trans e68
      have hf : ∀ q : Nat, q ≠ 68 → q ≠ 72 → q ≠ 73 → q ≠ 74 → σ_73 q = σ q := fun q n0 n1 n2 n3 => (hq_75 q n1 n2 n3).trans (hf q n0 n1 n2 n3)
      refine m_topI (((c9 : Nat) : Int)) (by rw [hc9]) ?_
      refine lv_iload_n hx hb dX6_command_435 rfl (lv_at hl 8 rfl) ?_
      refine m_icmp_gt 443 hx hb dX6_command_436 (by decide) (by omega) (by omega) (fun h_79 => ?_) (fun h_79 => ?_)
      · refine m_iconst 0 hx hb dX6_command_443 rfl ?_
        exact m_iret hx hb hlk hrt hH m_z0 dX6_command_444 ⟨0, n, a, g, sz, w, f, s6, F6, R6, rfl, (Or.inl rfl), (by obtain ⟨G0, G1, G2, G3, G4, G5, G6, G7, G8, G9, G10, G11⟩ := hG; rw [oGr9 (by rw [G0]; clear G0 G1 G2 G3 G4 G5 G6 G7 G8 G9 G10 G11; omega), G1, G2, hc9, if_neg (by omega)]), hp, hwf, hag, e68, e72, e73, e74, hf⟩
      · refine m_iconst 1 hx hb dX6_command_439 rfl ?_
        refine lv_goto (tgt := 444) hx hb dX6_command_440 (by decide) ?_
        exact m_iret hx hb hlk hrt hH m_z1 dX6_command_444 ⟨1, n, a, g, sz, w, f, s6, F6, R6, rfl, (Or.inr rfl), (by obtain ⟨G0, G1, G2, G3, G4, G5, G6, G7, G8, G9, G10, G11⟩ := hG; rw [oGr9 (by rw [G0]; clear G0 G1 G2 G3 G4 G5 G6 G7 G8 G9 G10 G11; omega), G1, G2, hc9, if_pos (by omega)]), hp, hwf, hag, e68, e72, e73, e74, hf⟩
  · refine m_tabOut 445 hx hb dX6_command_42 (by omega) hsw (by decide) ?_
    refine m_iconst 0 hx hb dX6_command_445 rfl ?_
    exact m_iret hx hb hlk hrt hH m_z0 dX6_command_446 ⟨0, n, a, g, sz, w, f, s, F, R, rfl, (Or.inl rfl), (by obtain ⟨G0, G1, G2, G3, G4, G5, G6, G7, G8, G9, G10, G11⟩ := hG; rw [oGr0 (by rw [G0]; clear G0 G1 G2 G3 G4 G5 G6 G7 G8 G9 G10 G11; omega)]), hp, hwf, hag, e68, e72, e73, e74, hf⟩
