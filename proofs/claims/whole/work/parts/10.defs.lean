/-! ===== the mathematics: rows of bits ===== -/
theorem o_tb (w i : Nat) : (w / 2 ^ i &&& 1 = 0) ↔ w.testBit i = false := by
  rw [Nat.testBit_eq_decide_div_mod_eq, Nat.and_one_is_mod]
  have := Nat.mod_two_eq_zero_or_one (w / 2 ^ i)
  simp only [decide_eq_false_iff_not]
  omega
theorem o_tb1 (w i : Nat) : ¬ (w / 2 ^ i &&& 1 = 0) ↔ w.testBit i = true := by
  rw [o_tb]
  cases w.testBit i <;> simp
theorem o_and1 (w : Nat) : w &&& 1 < 2 ^ 64 := by
  rw [Nat.and_one_is_mod]
  omega
def bz (w p : Nat) : Nat := (w.testBit p).toNat
theorem bz_le (w p : Nat) : bz w p ≤ 1 := by unfold bz; cases w.testBit p <;> decide
theorem bz_1 {w p : Nat} : bz w p = 1 ↔ w.testBit p = true := by unfold bz; cases w.testBit p <;> decide
theorem bz_0 {w p : Nat} : bz w p = 0 ↔ w.testBit p = false := by unfold bz; cases w.testBit p <;> decide
/-- how many bits of the first 64 are set -/
def pcnt (w : Nat) : Nat := fb_ct (fun k => w.testBit k) 64
/-- a ruler's size and row, where there is one -/
def oSize (n : Nat) (sz : Nat → Nat) (r : Int) : Nat := if 0 ≤ r ∧ r < (n : Int) then sz r.toNat else 0
def oRow (n : Nat) (w : Nat → Nat) (r : Int) : Nat := if 0 ≤ r ∧ r < (n : Int) then w r.toNat else 0
theorem oSize_in {n : Nat} {sz : Nat → Nat} {r : Int} (h : 0 ≤ r ∧ r < (n : Int)) : oSize n sz r = sz r.toNat := if_pos h
theorem oRow_in {n : Nat} {w : Nat → Nat} {r : Int} (h : 0 ≤ r ∧ r < (n : Int)) : oRow n w r = w r.toNat := if_pos h
theorem oSize_out {n : Nat} {sz : Nat → Nat} {r : Int} (h : ¬ (0 ≤ r ∧ r < (n : Int))) : oSize n sz r = 0 := if_neg h
theorem oRow_out {n : Nat} {w : Nat → Nat} {r : Int} (h : ¬ (0 ≤ r ∧ r < (n : Int))) : oRow n w r = 0 := if_neg h
/-- a state's rows and sizes are within their bounds: what the class keeps, of whatever is in its arrays -/
def oWf (n : Nat) (sz w : Nat → Nat) : Prop := n ≤ 4 ∧ ∀ r : Nat, r < n → 2 ≤ sz r ∧ sz r ≤ 40 ∧ w r < 2 ^ (sz r + 1) ∧ (w r).testBit 0 = true ∧ (w r).testBit (sz r) = true
theorem pow41 : (2 : Nat) ^ 41 = 2199023255552 := by decide
theorem pow64 : (2 : Nat) ^ 64 = 18446744073709551616 := by decide
theorem oWf.row {n : Nat} {sz w : Nat → Nat} (h : oWf n sz w) {r : Nat} (hr : r < n) : w r < 2 ^ 41 := by
  have h1 := h.2 r hr
  exact Nat.lt_of_lt_of_le h1.2.2.1 (Nat.pow_le_pow_right (by decide) (by omega))
theorem oRow_lt {n : Nat} {sz w : Nat → Nat} (h : oWf n sz w) (r : Int) : oRow n w r < 2 ^ 41 := by
  unfold oRow
  split
  · exact h.row (by omega)
  · decide
theorem oRow_64 {n : Nat} {sz w : Nat → Nat} (h : oWf n sz w) (r : Int) : oRow n w r < 2 ^ 64 := Nat.lt_of_lt_of_le (oRow_lt h r) (by decide)
theorem oSize_le {n : Nat} {sz w : Nat → Nat} (h : oWf n sz w) (r : Int) : oSize n sz r ≤ 40 := by
  unfold oSize
  split
  · exact (h.2 r.toNat (by omega)).2.1
  · omega
theorem pcnt_le (w : Nat) : pcnt w ≤ 64 := fb_ct_le _ _
/-- an int array of numbers that are not negative -/
abbrev oAN (cT : Nat → ClassId) (n : Nat) (f : Nat → Nat) : va_E := oAI cT n (fun k => ((f k : Nat) : Int))
theorem oAN_up (cT : Nat → ClassId) (n : Nat) (f : Nat → Nat) (j x : Nat) : oAI cT n (va_up (fun k => ((f k : Nat) : Int)) j ((x : Nat) : Int)) = oAN cT n (va_up f j x) := congrArg (oAI cT n) (by funext q; simp only [va_up]; split <;> rfl)
section OROWS2
variable {p : Program} {l : Launch} {e : Env} {R : Room} {s : State} {m : MethodId} {args : Array Value} {below : List Frame} {meth : Method} {c : Code} {H : Heap} {locs : List Loc} {cells slots : Nat} {Q : State → Prop}
variable {cc : ByteArray} {pc : Nat} {ls : Array Slot} {rest : List Value}
theorem m_laddN {a b : Nat} (t : Nat) (hx : p.tables.exec = Jvm.exec) (hb : c.code = cc) (hdg : decode cc pc = .ok (.ladd, 1)) (h : a + b = t) (k : W p l e R s m args below meth c H locs cells slots Q (F0 m (pc + 1) ls (.long (lN t) :: rest))) : W p l e R s m args below meth c H locs cells slots Q (F0 m pc ls (.long (lN b) :: .long (lN a) :: rest)) := by
  subst h
  exact lv_ladd hx hb hdg (by rw [lN_add]; exact k)
theorem m_l2iN {a : Nat} (hx : p.tables.exec = Jvm.exec) (hb : c.code = cc) (hdg : decode cc pc = .ok (.l2i, 1)) (k : W p l e R s m args below meth c H locs cells slots Q (F0 m (pc + 1) ls (.int (oI (a : Int)) :: rest))) : W p l e R s m args below meth c H locs cells slots Q (F0 m pc ls (.long (lN a) :: rest)) := lv_l2i hx hb hdg (by rw [lN_i, oI_nat]) k
theorem m_iand {a b : Nat} (t : Nat) (hx : p.tables.exec = Jvm.exec) (hb : c.code = cc) (hdg : decode cc pc = .ok (.iand, 1)) (h : a &&& b = t) (k : W p l e R s m args below meth c H locs cells slots Q (F0 m (pc + 1) ls (.int (oI (t : Int)) :: rest))) : W p l e R s m args below meth c H locs cells slots Q (F0 m pc ls (.int (oI (b : Int)) :: .int (oI (a : Int)) :: rest)) := by
  subst h
  refine lv_iand hx hb hdg ?_
  have e : oI (a : Int) &&& oI (b : Int) = oI ((a &&& b : Nat) : Int) := by
    rw [oI_nat, oI_nat, oI_nat]
    apply Int32.toBitVec_inj.1
    show BitVec.ofNat 32 a &&& BitVec.ofNat 32 b = BitVec.ofNat 32 (a &&& b)
    apply BitVec.eq_of_getLsbD_eq
    intro i hi
    simp [hi]
  rw [e]
  exact k
end OROWS2
theorem o_fill {α : Type} (x : α) (f : Nat → α) (i : Nat) : va_up (fun q => if q < i then x else f q) i x = fun q => if q < i + 1 then x else f q := by
  funext q
  simp only [va_up]
  by_cases h : q = i
  · rw [if_pos h, if_pos (by omega)]
  · rw [if_neg h]
    by_cases h2 : q < i
    · rw [if_pos h2, if_pos (by omega)]
    · rw [if_neg h2, if_neg (by omega)]
