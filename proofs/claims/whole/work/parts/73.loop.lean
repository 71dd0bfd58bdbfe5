def R_law : String := "OddRulersLaw"
def lw_P (b : Addr) (xs : List Int32) (args : Array Value) (s : State) : Prop := args = #[.ref b] ∧ s.IntsAt b xs ∧ xs.length ≤ 2048 ∧ (Jvm.Cond.and given_1 narrow_1).before args s = true
def lw_Q (_ : Array Value) (s : State) (o : Outcome) (t : State) : Prop := o = .returned (some (.int 1)) ∧ Framed s o t [] 601024 7293034
def lw_Z (below : List Frame) (a : Array Value) (s : State) : State → Prop := fun t => ∃ o, t.status = .running ∧ Ended t below o ∧ lw_Q a s o t
/-- the law's own end, with 1 on the stack, nothing written that was there before, its room as the claim has it -/
theorem lw_ret {p : Program} {l : Launch} {e : Env} {s : State} {m : MethodId} {below : List Frame} {meth : Method} {c : Code} {b : Nat} (hx : p.tables.exec = Jvm.exec) (hb : c.code = code) (hr : meth.sig.returnType = ret) (hlocks : meth.locks = false) {pc : Nat} {H : Heap} {ls : Array Slot} (hdg : decode code pc = .ok (.ireturn, 1)) : W p l e room_1 s m #[Value.ref b] below meth c H [] 601024 7293034 (lw_Z below #[Value.ref b] s) (F0 m pc ls [.int 1]) := by
  intro T hT X
  obtain ⟨fs, hret, hrun, hended, hW, hframe⟩ := X.leave (v := some (.int 1)) (hlocks := hlocks) (fun h => by rw [hr] at h; cases h)
  have hmeth' : T.vm.method? m = some meth := X.method'
  refine ⟨T.setFrames fs, ?_, .returned (some (.int 1)), hrun, hended, rfl, ⟨_, rfl⟩, hW, hframe⟩
  jvm_step X.here [X.here.top, hx, hb, hdg, hmeth', hr, ret, narrow_b1]
  (try refine ⟨rfl, ?_⟩); (try refine ⟨rfl, ?_⟩)
  first | (intro acts; rw [hret _ acts rfl rfl rfl]) | rw [hret _ _ rfl rfl rfl]
  exact Steps.refl _
/-- what holds at the law's entry: the machine, the code, the tables' words (any of lw_tbl by 'hts w (by decide +kernel)'), the script of L ints xs at the cell b, what the Statement gives of the start (any of its parts by flat_of_before) -/
def lw_At (p : Program) (s : State) (m : MethodId) (meth : Method) (c : Code) (b L : Nat) (xs : Nat → Int32) : Prop :=
  p.tables.exec = Jvm.exec ∧ c.code = code ∧ meth.sig.returnType = ret ∧ c.maxLocals = 7 ∧ s.vm.findClass R_law = some m.cls ∧ (∀ w ∈ lw_tbl, w.before #[Value.ref b] s = true) ∧ va_X b L xs s s.heap ∧ b < s.heap.size ∧ meth.locks = false ∧ (Jvm.Cond.and given_1 narrow_1).before #[Value.ref b] s = true
theorem o_and31 (x y : Int32) (hy : y = oI 31) : ∃ z : Int, x &&& y = oI z ∧ (0 ≤ z ∧ z ≤ 31) := by
  subst hy
  refine ⟨(((x.toBitVec &&& 31#32).toNat : Nat) : Int), ?_, by omega, ?_⟩
  · rw [oI_nat]
    refine Int32.toBitVec_inj.mp (BitVec.eq_of_toNat_eq ?_)
    show (x.toBitVec &&& 31#32).toNat = (x.toBitVec &&& 31#32).toNat % 2 ^ 32
    exact (Nat.mod_eq_of_lt (x.toBitVec &&& 31#32).isLt).symm
  · have : (x.toBitVec &&& 31#32).toNat ≤ 31 := by
      rw [BitVec.toNat_and]
      exact Nat.and_le_right
    omega
set_option maxHeartbeats 4000000 in
set_option maxRecDepth 100000 in
theorem law_loop {p : Program} {l : Launch} {e : Env} {s : State} {m : MethodId} {below : List Frame} {meth : Method} {c : Code} {b L : Nat} {xs : Nat → Int32} {D : va_G} {cT : Nat → ClassId} {ad : Nat → Nat} (hC : lwC p l s m c b L xs D cT ad) (hr : meth.sig.returnType = ret) (hlocks : meth.locks = false) :
    ∀ (n j : Nat), 4 * j ≤ L → L + 4 ≤ 4 * j + 4 * n → ∀ (σ : Nat → va_E) (H : Heap) (locs : List Loc), oRelW cT ad σ → oH s.heap.size D 76 ad s.heap σ H locs → ∀ (ls : Array Slot), lv_has ls 7 (lwB b ad (4 * j)) → W p l e room_1 s m #[Value.ref b] below meth c H locs (76 + 2 * j) (4466 + 12 * j) (lw_Z below #[Value.ref b] s) (F0 m 23 ls []) := by
  obtain ⟨hx, hb, hml, hown, hts, hX, hbl, hLL, hK, hT, hNc, hA, hl0⟩ := id hC
  intro n
  induction n with
  | zero =>
    intro j h1 h2
    exact absurd h2 (by omega)
  | succ n ih =>
    intro j h1 h2 σ H locs hR hH ls hl
    refine lv_iload hx hb dL_law_23 (lv_at hl 4 rfl) ?_
    refine lv_aload_n hx hb dL_law_25 rfl (lv_at hl 0 rfl) ?_
    refine va_slen hx hb hX hbl (Nat.not_le.mpr hbl) hH.2.1 dL_law_26 ?_
    refine m_i2I ((L : Nat) : Int) (by rw [oI_nat]; rfl) ?_
    refine m_iconst 4 hx hb dL_law_27 rfl ?_
    refine m_isub (((L : Nat) : Int) - 4) hx hb dL_law_28 rfl ?_
    refine m_icmp_gt 1765 hx hb dL_law_29 (by decide) (by omega) (by omega) (fun h => ?_) (fun h => ?_)
    · refine lv_iconst (v := 1) hx hb dL_law_1765 (by decide) ?_
      refine va_forget (fun q hq => hH.2.1.2.2 q hq) ?_
      refine W.widen (k := 601024) (n := 7293034) (by omega) (by omega) ?_
      exact lw_ret hx hb hr hlocks dL_law_1766
    · obtain ⟨v0, hv0⟩ : ∃ y : Int, (xs (4 * j)).toInt = y := ⟨_, rfl⟩
      refine lv_aload_n hx hb dL_law_32 rfl (lv_at hl 0 rfl) ?_
      refine lv_iload hx hb dL_law_33 (lv_at hl 4 rfl) ?_
      refine m_sld hx hb hX hbl hLL hH (4 * j) rfl (by omega) v0 hv0 dL_law_35 ?_
      refine m_bipush 31 hx hb dL_law_36 (by decide) ?_
      refine lv_iand hx hb dL_law_38 ?_
      obtain ⟨z, hz, hzb⟩ := o_and31 (oI v0) (oI 31) rfl
      rw [hz]
      have kk : ∀ (σ1 : Nat → va_E) (H1 : Heap) (locs1 : List Loc) (ls1 : Array Slot), oRelW cT ad σ1 → oH s.heap.size D 76 ad s.heap σ1 H1 locs1 → lv_has ls1 7 (lwB b ad (4 * j)) → W p l e room_1 s m #[Value.ref b] below meth c H1 locs1 (76 + 2 * j + 2) (4466 + 12 * j + 12) (lw_Z below #[Value.ref b] s) (F0 m 1759 ls1 []) := by
        intro σ1 H1 locs1 ls1 hR1 hH1 hl1
        refine m_iinc ((4 * (j + 1) : Nat) : Int) [(4, .int (oI ((4 * (j + 1) : Nat) : Int))), (0, .ref b), (1, .ref (ad 0)), (2, .ref (ad 65)), (3, .ref (ad 75))] hx hb dL_law_1759 hl1 (j := 4) rfl (by omega) (by decide) rfl (fun ls hl => ?_)
        refine lv_goto (tgt := 23) hx hb dL_law_1762 (by decide) ?_
        refine W.widen (k := 76 + 2 * (j + 1)) (n := 4466 + 12 * (j + 1)) (by omega) (by omega) ?_
        exact ih (j + 1) (by omega) (by omega) σ1 H1 locs1 hR1 hH1 ls (lv_sub hl [1, 2, 3, 4, 0] rfl)
      have hc : 76 + 2 * j + 2 ≤ 601024 ∧ 4466 + 12 * j + 12 ≤ 7293034 := ⟨by omega, by omega⟩
      have hi : 4 * j + 4 ≤ L := by omega
      by_cases h25 : z ≤ 25
      · rcases (show z = 0 ∨ z = 1 ∨ z = 2 ∨ z = 3 ∨ z = 4 ∨ z = 5 ∨ z = 6 ∨ z = 7 ∨ z = 8 ∨ z = 9 ∨ z = 10 ∨ z = 11 ∨ z = 12 ∨ z = 13 ∨ z = 14 ∨ z = 15 ∨ z = 16 ∨ z = 17 ∨ z = 18 ∨ z = 19 ∨ z = 20 ∨ z = 21 ∨ z = 22 ∨ z = 23 ∨ z = 24 ∨ z = 25 by omega) with rfl | rfl | rfl | rfl | rfl | rfl | rfl | rfl | rfl | rfl | rfl | rfl | rfl | rfl | rfl | rfl | rfl | rfl | rfl | rfl | rfl | rfl | rfl | rfl | rfl | rfl
        · refine m_tabIn 156 hx hb dL_law_39 (by decide) (by decide) rfl (by decide) ?_
          exact lc_0 hC hi hR hH hl hc kk
        · refine m_tabIn 212 hx hb dL_law_39 (by decide) (by decide) rfl (by decide) ?_
          exact lc_1 hC hi hR hH hl hc kk
        · refine m_tabIn 225 hx hb dL_law_39 (by decide) (by decide) rfl (by decide) ?_
          exact lc_2 hC hi hR hH hl hc kk
        · refine m_tabIn 238 hx hb dL_law_39 (by decide) (by decide) rfl (by decide) ?_
          exact lc_3 hC hi hR hH hl hc kk
        · refine m_tabIn 282 hx hb dL_law_39 (by decide) (by decide) rfl (by decide) ?_
          exact lc_4 hC hi hR hH hl hc kk
        · refine m_tabIn 338 hx hb dL_law_39 (by decide) (by decide) rfl (by decide) ?_
          exact lc_5 hC hi hR hH hl hc kk
        · refine m_tabIn 406 hx hb dL_law_39 (by decide) (by decide) rfl (by decide) ?_
          exact lc_6 hC hi hR hH hl hc kk
        · refine m_tabIn 474 hx hb dL_law_39 (by decide) (by decide) rfl (by decide) ?_
          exact lc_7 hC hi hR hH hl hc kk
        · refine m_tabIn 554 hx hb dL_law_39 (by decide) (by decide) rfl (by decide) ?_
          exact lc_8 hC hi hR hH hl hc kk
        · refine m_tabIn 622 hx hb dL_law_39 (by decide) (by decide) rfl (by decide) ?_
          exact lc_9 hC hi hR hH hl hc kk
        · refine m_tabIn 678 hx hb dL_law_39 (by decide) (by decide) rfl (by decide) ?_
          exact lc_10 hC hi hR hH hl hc kk
        · refine m_tabIn 774 hx hb dL_law_39 (by decide) (by decide) rfl (by decide) ?_
          exact lc_11 hC hi hR hH hl hc kk
        · refine m_tabIn 842 hx hb dL_law_39 (by decide) (by decide) rfl (by decide) ?_
          exact lc_12 hC hi hR hH hl hc kk
        · refine m_tabIn 898 hx hb dL_law_39 (by decide) (by decide) rfl (by decide) ?_
          exact lc_13 hC hi hR hH hl hc kk
        · refine m_tabIn 966 hx hb dL_law_39 (by decide) (by decide) rfl (by decide) ?_
          exact lc_14 hC hi hR hH hl hc kk
        · refine m_tabIn 1010 hx hb dL_law_39 (by decide) (by decide) rfl (by decide) ?_
          exact lc_15 hC hi hR hH hl hc kk
        · refine m_tabIn 1078 hx hb dL_law_39 (by decide) (by decide) rfl (by decide) ?_
          exact lc_16 hC hi hR hH hl hc kk
        · refine m_tabIn 1158 hx hb dL_law_39 (by decide) (by decide) rfl (by decide) ?_
          exact lc_17 hC hi hR hH hl hc kk
        · refine m_tabIn 1214 hx hb dL_law_39 (by decide) (by decide) rfl (by decide) ?_
          exact lc_18 hC hi hR hH hl hc kk
        · refine m_tabIn 1282 hx hb dL_law_39 (by decide) (by decide) rfl (by decide) ?_
          exact lc_19 hC hi hR hH hl hc kk
        · refine m_tabIn 1338 hx hb dL_law_39 (by decide) (by decide) rfl (by decide) ?_
          exact lc_20 hC hi hR hH hl hc kk
        · refine m_tabIn 1434 hx hb dL_law_39 (by decide) (by decide) rfl (by decide) ?_
          exact lc_21 hC hi hR hH hl hc kk
        · refine m_tabIn 1447 hx hb dL_law_39 (by decide) (by decide) rfl (by decide) ?_
          exact lc_22 hC hi hR hH hl hc kk
        · refine m_tabIn 1547 hx hb dL_law_39 (by decide) (by decide) rfl (by decide) ?_
          exact lc_23 hC hi hR hH hl hc kk
        · refine m_tabIn 1647 hx hb dL_law_39 (by decide) (by decide) rfl (by decide) ?_
          exact lc_24 hC hi hR hH hl hc kk
        · refine m_tabIn 1703 hx hb dL_law_39 (by decide) (by decide) rfl (by decide) ?_
          exact lc_25 hC hi hR hH hl hc kk
      · refine m_tabOut 1759 hx hb dL_law_39 (by omega) (Or.inr (by omega)) (by decide) ?_
        refine W.widen (k := 76 + 2 * j + 2) (n := 4466 + 12 * j + 12) (by omega) (by omega) ?_
        exact kk σ H locs ls hR hH hl
