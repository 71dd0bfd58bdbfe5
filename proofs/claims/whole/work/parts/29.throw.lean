/-! ===== exceptions: the words, the texts ===== -/
def oTx : List (Nat × String) := [(55, "no such character"), (66, "the text is full"), (79, "the text is not a case"), (132, "no such number"), (227, "no such ruler"), (167, "no such place"), (177, "no such span"), (189, "no such gap"), (221, "no such ruler or place"), (223, "out of range"), (225, "not in this state"), (205, "no state is remembered"), (281, "no such length"), (232, "no such way"), (299, "no such number of commands"), (303, "no such script"), (315, "no such number of turns"), (343, "no such save slot"), (341, "nothing has been saved")]
def oXd : List MethodName := [Bundle.initS "java/lang/RuntimeException", Bundle.initS "java/lang/Exception", Bundle.initS Bundle.tN]
def oXc : List String := ["java/lang/IllegalArgumentException", "java/lang/IllegalStateException", "java/lang/IndexOutOfBoundsException"]
/-- what a state has where a method may throw, beside oK -/
def oX (U : State) : Prop := (∀ q ∈ oTx, ∃ a : Nat, vk_R RX5 q.1 q.2 a U) ∧ (∀ y ∈ oXd, va_Nw (.declares y) U) ∧ ∀ C ∈ oXc, va_Nw (.castable C C) U
theorem oX.warm {s U : State} (hW : s.WarmedH U.vm) (h : oX s) : oX U := ⟨fun q hq => by obtain ⟨a, ha⟩ := h.1 q hq; exact ⟨a, ha.warm hW⟩, fun y hy => (h.2.1 y hy).warmD hW, fun C hC => (h.2.2 C hC).warmC hW⟩
theorem oX.calling {U : State} (g : JFrame) (mk : MethodId) (a : Array Value) (h : oX U) : oX (U.calling g mk a) := ⟨fun q hq => by obtain ⟨x, hx⟩ := h.1 q hq; exact ⟨x, vk_R.same rfl hx⟩, fun y hy => va_Nw.same rfl rfl (h.2.1 y hy), fun C hC => va_Nw.same rfl rfl (h.2.2 C hC)⟩
def oNm2 : List String := ["java/lang/RuntimeException", "java/lang/Exception"]
def oThC (ik ic : Nat) (cls : String) : Prop := Bundle.fit cls = true ∧ Cond.classLink RX5 ik cls ∈ wsL_law ∧ Cond.initialized cls ∈ wsL_law ∧ (∀ w ∈ vx_atS RX5 ic cls oNm2, w ∈ wsL_law ∨ (∃ y ∈ oXd, w = .declares y) ∨ ∃ C ∈ oXc, w = .castable C C)
theorem oth_f0 : (vx_atS RX5 57 "java/lang/IllegalArgumentException" oNm2).filter (fun w => !goodWord w) = [.declares (Bundle.initS "java/lang/RuntimeException"), .declares (Bundle.initS "java/lang/Exception"), .declares (Bundle.initS Bundle.tN), .castable "java/lang/IllegalArgumentException" "java/lang/IllegalArgumentException"] := by decide +kernel
theorem oth_0 : oThC 53 57 "java/lang/IllegalArgumentException" := by
  refine ⟨by decide +kernel, (o_in0 (List.mem_of_getElem? (i := 100) (by decide +kernel))), (o_in0 (List.mem_of_getElem? (i := 101) (by decide +kernel))), fun w hw => ?_⟩
  by_cases hg : goodWord w = true
  · exact Or.inl (show w ∈ wsL_law from List.mem_append_left _ (List.mem_append_left _ (List.mem_append_right _ (List.mem_filter.mpr ⟨hw, hg⟩))))
  · have h2 : w ∈ (vx_atS RX5 57 "java/lang/IllegalArgumentException" oNm2).filter (fun w => !goodWord w) := List.mem_filter.mpr ⟨hw, by simpa using hg⟩
    rw [oth_f0] at h2
    simp only [List.mem_cons, List.not_mem_nil, or_false] at h2
    rcases h2 with rfl | rfl | rfl | rfl
    · exact Or.inr (Or.inl ⟨_, List.mem_cons_self, rfl⟩)
    · exact Or.inr (Or.inl ⟨_, List.mem_cons_of_mem _ List.mem_cons_self, rfl⟩)
    · exact Or.inr (Or.inl ⟨_, List.mem_cons_of_mem _ (List.mem_cons_of_mem _ List.mem_cons_self), rfl⟩)
    · exact Or.inr (Or.inr ⟨_, List.mem_cons_self, rfl⟩)
theorem oth_f1 : (vx_atS RX5 68 "java/lang/IllegalStateException" oNm2).filter (fun w => !goodWord w) = [.declares (Bundle.initS "java/lang/RuntimeException"), .declares (Bundle.initS "java/lang/Exception"), .declares (Bundle.initS Bundle.tN), .castable "java/lang/IllegalStateException" "java/lang/IllegalStateException"] := by decide +kernel
theorem oth_1 : oThC 64 68 "java/lang/IllegalStateException" := by
  refine ⟨by decide +kernel, (o_in0 (List.mem_of_getElem? (i := 102) (by decide +kernel))), (o_in0 (List.mem_of_getElem? (i := 103) (by decide +kernel))), fun w hw => ?_⟩
  by_cases hg : goodWord w = true
  · exact Or.inl (show w ∈ wsL_law from List.mem_append_left _ (List.mem_append_right _ (List.mem_filter.mpr ⟨hw, hg⟩)))
  · have h2 : w ∈ (vx_atS RX5 68 "java/lang/IllegalStateException" oNm2).filter (fun w => !goodWord w) := List.mem_filter.mpr ⟨hw, by simpa using hg⟩
    rw [oth_f1] at h2
    simp only [List.mem_cons, List.not_mem_nil, or_false] at h2
    rcases h2 with rfl | rfl | rfl | rfl
    · exact Or.inr (Or.inl ⟨_, List.mem_cons_self, rfl⟩)
    · exact Or.inr (Or.inl ⟨_, List.mem_cons_of_mem _ List.mem_cons_self, rfl⟩)
    · exact Or.inr (Or.inl ⟨_, List.mem_cons_of_mem _ (List.mem_cons_of_mem _ List.mem_cons_self), rfl⟩)
    · exact Or.inr (Or.inr ⟨_, List.mem_cons_of_mem _ List.mem_cons_self, rfl⟩)
theorem oth_f2 : (vx_atS RX5 169 "java/lang/IndexOutOfBoundsException" oNm2).filter (fun w => !goodWord w) = [.declares (Bundle.initS "java/lang/RuntimeException"), .declares (Bundle.initS "java/lang/Exception"), .declares (Bundle.initS Bundle.tN), .castable "java/lang/IndexOutOfBoundsException" "java/lang/IndexOutOfBoundsException"] := by decide +kernel
theorem oth_2 : oThC 165 169 "java/lang/IndexOutOfBoundsException" := by
  refine ⟨by decide +kernel, (o_in0 (List.mem_of_getElem? (i := 521) (by decide +kernel))), (o_in0 (List.mem_of_getElem? (i := 522) (by decide +kernel))), fun w hw => ?_⟩
  by_cases hg : goodWord w = true
  · exact Or.inl (show w ∈ wsL_law from List.mem_append_right _ (List.mem_filter.mpr ⟨hw, hg⟩))
  · have h2 : w ∈ (vx_atS RX5 169 "java/lang/IndexOutOfBoundsException" oNm2).filter (fun w => !goodWord w) := List.mem_filter.mpr ⟨hw, by simpa using hg⟩
    rw [oth_f2] at h2
    simp only [List.mem_cons, List.not_mem_nil, or_false] at h2
    rcases h2 with rfl | rfl | rfl | rfl
    · exact Or.inr (Or.inl ⟨_, List.mem_cons_self, rfl⟩)
    · exact Or.inr (Or.inl ⟨_, List.mem_cons_of_mem _ List.mem_cons_self, rfl⟩)
    · exact Or.inr (Or.inl ⟨_, List.mem_cons_of_mem _ (List.mem_cons_of_mem _ List.mem_cons_self), rfl⟩)
    · exact Or.inr (Or.inr ⟨_, List.mem_cons_of_mem _ (List.mem_cons_of_mem _ List.mem_cons_self), rfl⟩)
def oXC (b0 : Nat) (D : va_G) (N : Nat) (ad : Nat → Nat) (px : String → (Nat → va_E) → Prop) : String → State → State → Prop := vx_X (fun _ : Nat → va_E => True) (fun E u t => px E u ∧ oV D N ad u t) (fun q => b0 ≤ q)
def oUX (b0 : Nat) (D : va_G) (cT : Nat → ClassId) (N : Nat) (ad : Nat → Nat) (σ : Nat → va_E) (U : State) : Prop := oU b0 D cT N ad σ U ∧ oX U
theorem oUX.blind {b0 : Nat} {D : va_G} {cT : Nat → ClassId} {N : Nat} {ad : Nat → Nat} {σ : Nat → va_E} {As : List Value} : FrameBlind (va_Pc As (oUX b0 D cT N ad σ)) := fun _ _ g mk q => ⟨q.1, ⟨q.2.1.1, q.2.1.2.1.calling g mk _, q.2.1.2.2⟩, q.2.2.calling g mk _⟩
abbrev oXi (l : Launch) (D : va_G) (cT : Nat → ClassId) (N : Nat) (ad : Nat → Nat) (b0 : Nat) (y : MethodName) (cc : ByteArray) (maxL : Nat) (ret : Option FieldType) (fr lo k : Nat) (As : List Value) (σ : Nat → va_E) (post : Int32 → (Nat → va_E) → Prop) (px : String → (Nat → va_E) → Prop) : Prop :=
  vx_Met l y (.code y cc maxL ret :: wsL_law) { frames := fr, cells := k, slots := 6 * k, locals := lo } (va_Pc As (oUX b0 D cT N ad σ)) (va_Qi post (oV D N ad) (fun q => b0 ≤ q)) (oXC b0 D N ad px) k (6 * k) (fun q => b0 ≤ q)
abbrev oXv (l : Launch) (D : va_G) (cT : Nat → ClassId) (N : Nat) (ad : Nat → Nat) (b0 : Nat) (y : MethodName) (cc : ByteArray) (maxL : Nat) (ret : Option FieldType) (fr lo k : Nat) (As : List Value) (σ : Nat → va_E) (post : (Nat → va_E) → Prop) (px : String → (Nat → va_E) → Prop) : Prop :=
  vx_Met l y (.code y cc maxL ret :: wsL_law) { frames := fr, cells := k, slots := 6 * k, locals := lo } (va_Pc As (oUX b0 D cT N ad σ)) (va_Qv post (oV D N ad) (fun q => b0 ≤ q)) (oXC b0 D N ad px) k (6 * k) (fun q => b0 ≤ q)
section OXROWS
variable {p : Program} {l : Launch} {e : Env} {R : Room} {s : State} {m : MethodId} {args : Array Value} {below : List Frame} {meth : Method} {c : Code} {H : Heap} {locs : List Loc} {cells slots : Nat} {Q : State → Prop}
variable {cc : ByteArray} {pc : Nat} {ls : Array Slot} {rest : List Value} {D : va_G} {cT : Nat → ClassId} {N b0 : Nat} {ad : Nat → Nat} {σ : Nat → va_E} {H0 : Heap} {mc ms : Nat} {Qc : Array Value → State → Outcome → State → Prop} {px : String → (Nat → va_E) → Prop}
theorem m_startX {y : MethodName} {maxL fr lo k : Nat} {ret : Option FieldType} {As : List Value} {XC : String → State → State → Prop} {lv : List (Nat × Value)}
    (hy : plainName y.cls = true) (hn : (lg_sl As).length ≤ maxL) (hlv : lv_args 0 As = lv)
    (body : ∀ (p : Program) (e : Env) (s : State) (m : MethodId) (below : List Frame) (meth : Method) (c : Code) (args : Array Value) (ls : Array Slot), p.tables.exec = Jvm.exec → c.code = cc → c.maxLocals = maxL → s.vm.findClass y.cls = some m.cls → meth.locks = false → meth.sig.returnType = ret → (∀ w ∈ wsL_law, w.before args s = true) → oK b0 D cT s → oH b0 D N ad s.heap σ s.heap [] → lv_has ls maxL lv → oX s → (∀ x ∈ c.exceptionTable.toList, False) →
      W p l e { frames := fr, cells := k, slots := 6 * k, locals := lo } s m args below meth c s.heap [] 0 0 (vx_MQ below Qc XC args s k (6 * k) (fun q => b0 ≤ q)) (F0 m 0 ls [])) :
    vx_Met l y (.code y cc maxL ret :: wsL_law) { frames := fr, cells := k, slots := 6 * k, locals := lo } (va_Pc As (oUX b0 D cT N ad σ)) Qc XC k (6 * k) (fun q => b0 ≤ q) := by
  refine vx_ofW (cc := cc) (maxL := maxL) (ret := ret) hy rfl ?_
  intro p e s m args below meth c s₁ B hml hnt hv
  obtain ⟨rfl, ⟨hb0, hK, hP⟩, hT⟩ := hv
  have hl := lv_entry As hn
  rw [hlv] at hl
  rw [lg_entry_eq]
  have hts := atoms_spec (ws := .code y cc maxL ret :: wsL_law) B.pre
  exact body p e s m below meth c As.toArray _ B.exec B.bytes hml (findClass_of_methodNamed B.named) B.notSynchronized B.returns (fun w h => hts w (List.mem_cons_of_mem _ h)) hK ⟨hP, va_S.rf, hb0⟩ hl hT hnt
theorem oXC.at {E : String} {t : State} (hH : oH b0 D N ad s.heap σ H locs) (h1 : H.size ≤ t.heap.size) (h2 : ∀ q : Nat, q < H.size → t.heap[q]? = H[q]?) (hp : px E σ) : oXC b0 D N ad px E s t := by
  refine ⟨σ, trivial, ⟨hp, ?_⟩, Nat.le_trans hH.2.1.1 h1, fun q h3 h4 => (h2 q (Nat.lt_of_lt_of_le h3 hH.2.1.1)).trans (hH.2.1.2.1 q h3 h4)⟩
  exact hH.1.kept (fun k q hk => h2 q.1 (hH.1 k q hk).lt)
theorem m_throw {nL : Nat} {lv : List (Nat × Value)} {cls text : String} {ik is ic : Nat} (hx : p.tables.exec = Jvm.exec) (hb : c.code = cc) (hl0 : l.stackTraces = false) (hml : c.maxLocals = nL) (hown : s.vm.findClass RX5 = some m.cls) (hts : ∀ w ∈ wsL_law, w.before args s = true) (hK : oK b0 D cT s) (hT : oX s) (hH : oH b0 D N ad s.heap σ H locs) (hl : lv_has ls nL lv) (hlk : meth.locks = false) (hnt : ∀ x ∈ c.exceptionTable.toList, False)
    (hq : oThC ik ic cls) (ht : (is, text) ∈ oTx) (d0 : decode cc pc = .ok (.new ik, 3)) (d3 : decode cc (pc + 3) = .ok (.dup, 1)) (d4 : decode cc (pc + 4) = .ok (.ldc is, 2)) (d6 : decode cc (pc + 6) = .ok (.invokespecial ic, 3)) (d9 : decode cc (pc + 9) = .ok (.athrow, 1))
    (hR : 6 ≤ R.frames ∧ 90 ≤ R.locals) (hrm : (rest.map fun v => v.category).sum ≤ 8) (hRc : cells + 1 ≤ R.cells ∧ slots + 6 ≤ R.slots) (hm : cells + 1 ≤ mc ∧ slots + 6 ≤ ms) (hp : px cls σ) :
    W p l e R s m args below meth c H locs cells slots (vx_MQ below Qc (oXC b0 D N ad px) args s mc ms (fun q => b0 ≤ q)) (F0 m pc ls rest) := by
  obtain ⟨q1, q2, q3, q4⟩ := hq
  obtain ⟨sa, hsa⟩ := hT.1 _ ht
  refine vx_throwS hx hb hl0 (own := RX5) (cls := cls) (text := text) (names := oNm2) (ik := ik) (is := is) (ic := ic) (sa := sa) (A := fun q => b0 ≤ q) hown q1 (by decide +kernel) (hts _ q2) (hts _ q3) hsa (fun w hw => ?_) (fun w hw => ?_) hK.2.2.1 hK.2.2.2.1 hH.2.1 (hl.1.trans hml.symm) d0 d3 d4 d6 d9 (fun x hx => (hnt x hx).elim) (by show 2 + 3 < _; omega) (by show _ + (13 * (2 + 1) + 43) ≤ _; omega) hRc.1 hRc.2 hlk (fun t _ h1 h2 => oXC.at hH h1 h2 hp) (fun z hz => hH.2.1.2.2 z hz) hm.1 hm.2
  · rcases q4 w hw with h | ⟨y, hy, rfl⟩ | ⟨C, hC, rfl⟩
    · exact hts w h
    · exact va_Nw.use rfl (hT.2.1 y hy)
    · exact va_Nw.use rfl (hT.2.2 C hC)
  · rcases List.mem_cons.mp hw with rfl | hw
    · rfl
    · rcases List.mem_cons.mp hw with rfl | hw
      · rfl
      · rcases q4 w hw with h | ⟨y, hy, rfl⟩ | ⟨C, hC, rfl⟩
        · unfold vx_ot; rw [wsL_law_good w h]; exact Bool.or_true _
        · rfl
        · rfl
theorem m_throwW {nL : Nat} {lv : List (Nat × Value)} {cls text : String} {ik is ic : Nat} (hx : p.tables.exec = Jvm.exec) (hb : c.code = cc) (hl0 : l.stackTraces = false) (hml : c.maxLocals = nL) (hown : s.vm.findClass RX5 = some m.cls) (hts : ∀ w ∈ wsL_law, w.before args s = true) (hK : oK b0 D cT s) (hT : oX s) (hH : oH b0 D N ad s.heap σ H locs) (hl : lv_has ls nL lv) (hlk : meth.locks = false) (hnt : ∀ x ∈ c.exceptionTable.toList, False)
    (hq : oThC ik ic cls) (ht : (is, text) ∈ oTx) (d0 : decode cc pc = .ok (.new ik, 3)) (d3 : decode cc (pc + 3) = .ok (.dup, 1)) (d4 : decode cc (pc + 4) = .ok (.ldc_w is, 3)) (d6 : decode cc (pc + 7) = .ok (.invokespecial ic, 3)) (d9 : decode cc (pc + 10) = .ok (.athrow, 1))
    (hR : 6 ≤ R.frames ∧ 90 ≤ R.locals) (hrm : (rest.map fun v => v.category).sum ≤ 8) (hRc : cells + 1 ≤ R.cells ∧ slots + 6 ≤ R.slots) (hm : cells + 1 ≤ mc ∧ slots + 6 ≤ ms) (hp : px cls σ) :
    W p l e R s m args below meth c H locs cells slots (vx_MQ below Qc (oXC b0 D N ad px) args s mc ms (fun q => b0 ≤ q)) (F0 m pc ls rest) := by
  obtain ⟨q1, q2, q3, q4⟩ := hq
  obtain ⟨sa, hsa⟩ := hT.1 _ ht
  refine vx_throwSW hx hb hl0 (own := RX5) (cls := cls) (text := text) (names := oNm2) (ik := ik) (is := is) (ic := ic) (sa := sa) (A := fun q => b0 ≤ q) hown q1 (by decide +kernel) (hts _ q2) (hts _ q3) hsa (fun w hw => ?_) (fun w hw => ?_) hK.2.2.1 hK.2.2.2.1 hH.2.1 (hl.1.trans hml.symm) d0 d3 d4 d6 d9 (fun x hx => (hnt x hx).elim) (by show 2 + 3 < _; omega) (by show _ + (13 * (2 + 1) + 43) ≤ _; omega) hRc.1 hRc.2 hlk (fun t _ h1 h2 => oXC.at hH h1 h2 hp) (fun z hz => hH.2.1.2.2 z hz) hm.1 hm.2
  · rcases q4 w hw with h | ⟨y, hy, rfl⟩ | ⟨C, hC, rfl⟩
    · exact hts w h
    · exact va_Nw.use rfl (hT.2.1 y hy)
    · exact va_Nw.use rfl (hT.2.2 C hC)
  · rcases List.mem_cons.mp hw with rfl | hw
    · rfl
    · rcases List.mem_cons.mp hw with rfl | hw
      · rfl
      · rcases q4 w hw with h | ⟨y, hy, rfl⟩ | ⟨C, hC, rfl⟩
        · unfold vx_ot; rw [wsL_law_good w h]; exact Bool.or_true _
        · rfl
        · rfl
theorem m_iretX {post : Int32 → (Nat → va_E) → Prop} {v : Int32} {ty : FieldType} (hx : p.tables.exec = Jvm.exec) (hb : c.code = cc) (hlk : meth.locks = false) (hr : meth.sig.returnType = some ty) (hH : oH b0 D N ad s.heap σ H locs) (hm : cells ≤ mc ∧ slots ≤ ms) (hn : narrow ty (.int v) = .int v) (hdg : decode cc pc = .ok (.ireturn, 1)) (hp : post v σ) :
    W p l e R s m args below meth c H locs cells slots (vx_MQ below (va_Qi post (oV D N ad) (fun q => b0 ≤ q)) (oXC b0 D N ad px) args s mc ms (fun q => b0 ≤ q)) (F0 m pc ls [.int v]) := vx_ret (W.widen hm.1 hm.2 (m_iret hx hb hlk hr hH hn hdg hp))
theorem m_vretX {post : (Nat → va_E) → Prop} (hx : p.tables.exec = Jvm.exec) (hb : c.code = cc) (hlk : meth.locks = false) (hr : meth.sig.returnType = none) (hH : oH b0 D N ad s.heap σ H locs) (hm : cells ≤ mc ∧ slots ≤ ms) (hdg : decode cc pc = .ok (.return_, 1)) (hp : post σ) :
    W p l e R s m args below meth c H locs cells slots (vx_MQ below (va_Qv post (oV D N ad) (fun q => b0 ≤ q)) (oXC b0 D N ad px) args s mc ms (fun q => b0 ≤ q)) (F0 m pc ls []) := vx_ret (W.widen hm.1 hm.2 (m_vret hx hb hlk hr hH hdg hp))
theorem oX_warm {As : List Value} (hK : oK b0 D cT s) (hT : oX s) (hH : oH b0 D N ad s.heap σ H locs) : ∀ U : State, U.heap = H → s.WarmedH U.vm → va_Pc As (oUX b0 D cT N ad σ) As.toArray U := fun U hU hW => ⟨rfl, ⟨by rw [hU]; exact Nat.le_trans hH.2.2 hH.2.1.1, hK.call hH.2.1 hU hW, by rw [hU]; exact hH.1⟩, hT.warm hW⟩
theorem m_xVi {y : MethodName} {bytes : ByteArray} {maxL nL fr lo n index kc : Nat} {ret : Option FieldType} {own : String} {As st : List Value} {lv : List (Nat × Value)} {post : Int32 → (Nat → va_E) → Prop} {py : String → (Nat → va_E) → Prop} {C : String} {T : u_T} {nf ci k : Nat} {fs : List Value} (hx : p.tables.exec = Jvm.exec) (hb : c.code = cc) (hml : c.maxLocals = nL) (hown : s.vm.findClass own = some m.cls) (hts : ∀ w ∈ wsL_law, w.before args s = true) (hK : oK b0 D cT s) (hT : oX s) (hH : oH b0 D N ad s.heap σ H locs) (hl : lv_has ls nL lv) (hlk : meth.locks = false) (hnt : ∀ x ∈ c.exceptionTable.toList, False) (cw : oCV own index C y bytes maxL ret n) (hM : vx_Met l y (.code y bytes maxL ret :: wsL_law) { frames := fr, cells := kc, slots := 6 * kc, locals := lo } (va_Pc (.ref (ad k) :: As) (oUX b0 D cT N ad σ)) (va_Qi post (oV D N ad) (fun q => b0 ≤ q)) (oXC b0 D N ad py) kc (6 * kc) (fun q => b0 ≤ q)) (hR : fr + 1 ≤ R.frames ∧ 8 + (maxL + 11) + lo ≤ R.locals) (hcr : cells + kc ≤ R.cells ∧ slots + 6 * kc ≤ R.slots) (hm : cells + kc ≤ mc ∧ slots + 6 * kc ≤ ms) (hn : As.length = n) (hk : k < N) (he : σ k = .inr (ci, fs)) (hc : vwCl[ci]? = some (C, T, nf)) (hst : st = As.reverse ++ .ref (ad k) :: rest) (hrm : (rest.map fun v => v.category).sum ≤ 8) (hdg : decode cc pc = .ok (.invokevirtual index, 3))
    (kx : ∀ (E : String) (σ1 : Nat → va_E), py E σ1 → px E σ1)
    (kk : ∀ (r : Int32) (σ1 : Nat → va_E) (H1 : Heap) (locs1 : List Loc), post r σ1 → oH b0 D N ad s.heap σ1 H1 locs1 → W p l e R s m args below meth c H1 locs1 (cells + kc) (slots + 6 * kc) (vx_MQ below Qc (oXC b0 D N ad px) args s mc ms (fun q => b0 ≤ q)) (F0 m (pc + 3) ls (.int r :: rest))) : W p l e R s m args below meth c H locs cells slots (vx_MQ below Qc (oXC b0 D N ad px) args s mc ms (fun q => b0 ≤ q)) (F0 m pc ls (st)) := by
  obtain ⟨⟨g1, g2, g3, g4, g5⟩, hd⟩ := cw
  have hG : GoodIn wsL_law (wsV own index C y (.code y bytes maxL ret :: wsL_law)) := by
    intro w hw
    rcases List.mem_append.mp hw with hw | hw
    · simp only [List.mem_cons, List.not_mem_nil, or_false] at hw
      rcases hw with rfl | rfl | rfl | rfl
      · exact ⟨g1, good_of_word (wsL_law_good _ g1)⟩
      · exact ⟨g2, good_of_word (wsL_law_good _ g2)⟩
      · exact ⟨g3, good_of_word (wsL_law_good _ g3)⟩
      · exact ⟨g4, good_of_word (wsL_law_good _ g4)⟩
    · exact o_good g5 w hw
  refine vx_calli (vx_runV (As := As) (rest := rest) ⟨hx, hb, hml, hown, hts⟩ hM (cwV n hts hG rfl rfl rfl hd hR) ⟨oUX.blind, va_recv hK.1 hH.1 hc (by rw [oW_get hk, he]), oX_warm hK hT hH⟩ rfl hn hl.1 hst (lv_room hrm) hdg hcr) hH.2.1 (fun q _ h => h) (fun q h => h) (fun q _ h => h) (fun E ce q9 u t H1 locs1 ht hvm hpu hB hz1 hk1 hS hce hcv hcl => ?_) (fun r u t H1 locs1 ht hvm hw hB hz1 hk1 hS => kk r u H1 locs1 hw ⟨by unfold oV at hB; rw [ht] at hB; exact hB, hS, hH.2.2⟩)
  refine vx_out (fun x hx => (hnt x hx).elim) hlk hce hcv hcl (fun t2 ht2 _ => ?_) (fun z hz => hS.2.2 z hz) hm.1 hm.2
  have hH1 : oH b0 D N ad s.heap u H1 locs1 := ⟨by have := hB.2; unfold oV at this; rw [ht] at this; exact this, hS, hH.2.2⟩
  exact oXC.at hH1 (by rw [ht2]; exact Nat.le_refl _) (fun q _ => by rw [ht2]) (kx E u hB.1)
theorem m_xVv {y : MethodName} {bytes : ByteArray} {maxL nL fr lo n index kc : Nat} {ret : Option FieldType} {own : String} {As st : List Value} {lv : List (Nat × Value)} {post : (Nat → va_E) → Prop} {py : String → (Nat → va_E) → Prop} {C : String} {T : u_T} {nf ci k : Nat} {fs : List Value} (hx : p.tables.exec = Jvm.exec) (hb : c.code = cc) (hml : c.maxLocals = nL) (hown : s.vm.findClass own = some m.cls) (hts : ∀ w ∈ wsL_law, w.before args s = true) (hK : oK b0 D cT s) (hT : oX s) (hH : oH b0 D N ad s.heap σ H locs) (hl : lv_has ls nL lv) (hlk : meth.locks = false) (hnt : ∀ x ∈ c.exceptionTable.toList, False) (cw : oCV own index C y bytes maxL ret n) (hM : vx_Met l y (.code y bytes maxL ret :: wsL_law) { frames := fr, cells := kc, slots := 6 * kc, locals := lo } (va_Pc (.ref (ad k) :: As) (oUX b0 D cT N ad σ)) (va_Qv post (oV D N ad) (fun q => b0 ≤ q)) (oXC b0 D N ad py) kc (6 * kc) (fun q => b0 ≤ q)) (hR : fr + 1 ≤ R.frames ∧ 8 + (maxL + 11) + lo ≤ R.locals) (hcr : cells + kc ≤ R.cells ∧ slots + 6 * kc ≤ R.slots) (hm : cells + kc ≤ mc ∧ slots + 6 * kc ≤ ms) (hn : As.length = n) (hk : k < N) (he : σ k = .inr (ci, fs)) (hc : vwCl[ci]? = some (C, T, nf)) (hst : st = As.reverse ++ .ref (ad k) :: rest) (hrm : (rest.map fun v => v.category).sum ≤ 8) (hdg : decode cc pc = .ok (.invokevirtual index, 3))
    (kx : ∀ (E : String) (σ1 : Nat → va_E), py E σ1 → px E σ1)
    (kk : ∀ (σ1 : Nat → va_E) (H1 : Heap) (locs1 : List Loc), post σ1 → oH b0 D N ad s.heap σ1 H1 locs1 → W p l e R s m args below meth c H1 locs1 (cells + kc) (slots + 6 * kc) (vx_MQ below Qc (oXC b0 D N ad px) args s mc ms (fun q => b0 ≤ q)) (F0 m (pc + 3) ls (rest))) : W p l e R s m args below meth c H locs cells slots (vx_MQ below Qc (oXC b0 D N ad px) args s mc ms (fun q => b0 ≤ q)) (F0 m pc ls (st)) := by
  obtain ⟨⟨g1, g2, g3, g4, g5⟩, hd⟩ := cw
  have hG : GoodIn wsL_law (wsV own index C y (.code y bytes maxL ret :: wsL_law)) := by
    intro w hw
    rcases List.mem_append.mp hw with hw | hw
    · simp only [List.mem_cons, List.not_mem_nil, or_false] at hw
      rcases hw with rfl | rfl | rfl | rfl
      · exact ⟨g1, good_of_word (wsL_law_good _ g1)⟩
      · exact ⟨g2, good_of_word (wsL_law_good _ g2)⟩
      · exact ⟨g3, good_of_word (wsL_law_good _ g3)⟩
      · exact ⟨g4, good_of_word (wsL_law_good _ g4)⟩
    · exact o_good g5 w hw
  refine vx_callv (vx_runV (As := As) (rest := rest) ⟨hx, hb, hml, hown, hts⟩ hM (cwV n hts hG rfl rfl rfl hd hR) ⟨oUX.blind, va_recv hK.1 hH.1 hc (by rw [oW_get hk, he]), oX_warm hK hT hH⟩ rfl hn hl.1 hst (lv_room hrm) hdg hcr) hH.2.1 (fun q _ h => h) (fun q h => h) (fun q _ h => h) (fun E ce q9 u t H1 locs1 ht hvm hpu hB hz1 hk1 hS hce hcv hcl => ?_) (fun u t H1 locs1 ht hvm hw hB hz1 hk1 hS => kk u H1 locs1 hw ⟨by unfold oV at hB; rw [ht] at hB; exact hB, hS, hH.2.2⟩)
  refine vx_out (fun x hx => (hnt x hx).elim) hlk hce hcv hcl (fun t2 ht2 _ => ?_) (fun z hz => hS.2.2 z hz) hm.1 hm.2
  have hH1 : oH b0 D N ad s.heap u H1 locs1 := ⟨by have := hB.2; unfold oV at this; rw [ht] at this; exact this, hS, hH.2.2⟩
  exact oXC.at hH1 (by rw [ht2]; exact Nat.le_refl _) (fun q _ => by rw [ht2]) (kx E u hB.1)
theorem m_xSi {y : MethodName} {bytes : ByteArray} {maxL nL fr lo n index kc : Nat} {ret : Option FieldType} {own : String} {As st : List Value} {lv : List (Nat × Value)} {post : Int32 → (Nat → va_E) → Prop} {py : String → (Nat → va_E) → Prop} (hx : p.tables.exec = Jvm.exec) (hb : c.code = cc) (hml : c.maxLocals = nL) (hown : s.vm.findClass own = some m.cls) (hts : ∀ w ∈ wsL_law, w.before args s = true) (hK : oK b0 D cT s) (hT : oX s) (hH : oH b0 D N ad s.heap σ H locs) (hl : lv_has ls nL lv) (hlk : meth.locks = false) (hnt : ∀ x ∈ c.exceptionTable.toList, False) (cw : oCS own index y bytes maxL ret n) (hM : vx_Met l y (.code y bytes maxL ret :: wsL_law) { frames := fr, cells := kc, slots := 6 * kc, locals := lo } (va_Pc (As) (oUX b0 D cT N ad σ)) (va_Qi post (oV D N ad) (fun q => b0 ≤ q)) (oXC b0 D N ad py) kc (6 * kc) (fun q => b0 ≤ q)) (hR : fr + 1 ≤ R.frames ∧ 8 + (maxL + 11) + lo ≤ R.locals) (hcr : cells + kc ≤ R.cells ∧ slots + 6 * kc ≤ R.slots) (hm : cells + kc ≤ mc ∧ slots + 6 * kc ≤ ms) (hyo : y.cls = own) (hn : As.length = n) (hst : st = As.reverse ++ rest) (hrm : (rest.map fun v => v.category).sum ≤ 8) (hdg : decode cc pc = .ok (.invokestatic index, 3))
    (kx : ∀ (E : String) (σ1 : Nat → va_E), py E σ1 → px E σ1)
    (kk : ∀ (r : Int32) (σ1 : Nat → va_E) (H1 : Heap) (locs1 : List Loc), post r σ1 → oH b0 D N ad s.heap σ1 H1 locs1 → W p l e R s m args below meth c H1 locs1 (cells + kc) (slots + 6 * kc) (vx_MQ below Qc (oXC b0 D N ad px) args s mc ms (fun q => b0 ≤ q)) (F0 m (pc + 3) ls (.int r :: rest))) : W p l e R s m args below meth c H locs cells slots (vx_MQ below Qc (oXC b0 D N ad px) args s mc ms (fun q => b0 ≤ q)) (F0 m pc ls (st)) := by
  obtain ⟨⟨g1, g2, g4, g5⟩, hd⟩ := cw
  have hG : GoodIn wsL_law (wsS own index y (.code y bytes maxL ret :: wsL_law)) := by
    intro w hw
    rcases List.mem_append.mp hw with hw | hw
    · simp only [List.mem_cons, List.not_mem_nil, or_false] at hw
      rcases hw with rfl | rfl | rfl
      · exact ⟨g1, good_of_word (wsL_law_good _ g1)⟩
      · exact ⟨g2, good_of_word (wsL_law_good _ g2)⟩
      · rw [hyo] at g4
        exact ⟨g4, good_of_word (wsL_law_good _ g4)⟩
    · exact o_good g5 w hw
  refine vx_calli (vx_runS (As := As) (rest := rest) ⟨hx, hb, hml, hown, hts⟩ hM (cwS n hts hG rfl rfl rfl ⟨hyo, hd⟩ hR) ⟨oUX.blind, oX_warm hK hT hH⟩ rfl hn hl.1 hst (lv_room hrm) hdg hcr) hH.2.1 (fun q _ h => h) (fun q h => h) (fun q _ h => h) (fun E ce q9 u t H1 locs1 ht hvm hpu hB hz1 hk1 hS hce hcv hcl => ?_) (fun r u t H1 locs1 ht hvm hw hB hz1 hk1 hS => kk r u H1 locs1 hw ⟨by unfold oV at hB; rw [ht] at hB; exact hB, hS, hH.2.2⟩)
  refine vx_out (fun x hx => (hnt x hx).elim) hlk hce hcv hcl (fun t2 ht2 _ => ?_) (fun z hz => hS.2.2 z hz) hm.1 hm.2
  have hH1 : oH b0 D N ad s.heap u H1 locs1 := ⟨by have := hB.2; unfold oV at this; rw [ht] at this; exact this, hS, hH.2.2⟩
  exact oXC.at hH1 (by rw [ht2]; exact Nat.le_refl _) (fun q _ => by rw [ht2]) (kx E u hB.1)
theorem m_xSv {y : MethodName} {bytes : ByteArray} {maxL nL fr lo n index kc : Nat} {ret : Option FieldType} {own : String} {As st : List Value} {lv : List (Nat × Value)} {post : (Nat → va_E) → Prop} {py : String → (Nat → va_E) → Prop} (hx : p.tables.exec = Jvm.exec) (hb : c.code = cc) (hml : c.maxLocals = nL) (hown : s.vm.findClass own = some m.cls) (hts : ∀ w ∈ wsL_law, w.before args s = true) (hK : oK b0 D cT s) (hT : oX s) (hH : oH b0 D N ad s.heap σ H locs) (hl : lv_has ls nL lv) (hlk : meth.locks = false) (hnt : ∀ x ∈ c.exceptionTable.toList, False) (cw : oCS own index y bytes maxL ret n) (hM : vx_Met l y (.code y bytes maxL ret :: wsL_law) { frames := fr, cells := kc, slots := 6 * kc, locals := lo } (va_Pc (As) (oUX b0 D cT N ad σ)) (va_Qv post (oV D N ad) (fun q => b0 ≤ q)) (oXC b0 D N ad py) kc (6 * kc) (fun q => b0 ≤ q)) (hR : fr + 1 ≤ R.frames ∧ 8 + (maxL + 11) + lo ≤ R.locals) (hcr : cells + kc ≤ R.cells ∧ slots + 6 * kc ≤ R.slots) (hm : cells + kc ≤ mc ∧ slots + 6 * kc ≤ ms) (hyo : y.cls = own) (hn : As.length = n) (hst : st = As.reverse ++ rest) (hrm : (rest.map fun v => v.category).sum ≤ 8) (hdg : decode cc pc = .ok (.invokestatic index, 3))
    (kx : ∀ (E : String) (σ1 : Nat → va_E), py E σ1 → px E σ1)
    (kk : ∀ (σ1 : Nat → va_E) (H1 : Heap) (locs1 : List Loc), post σ1 → oH b0 D N ad s.heap σ1 H1 locs1 → W p l e R s m args below meth c H1 locs1 (cells + kc) (slots + 6 * kc) (vx_MQ below Qc (oXC b0 D N ad px) args s mc ms (fun q => b0 ≤ q)) (F0 m (pc + 3) ls (rest))) : W p l e R s m args below meth c H locs cells slots (vx_MQ below Qc (oXC b0 D N ad px) args s mc ms (fun q => b0 ≤ q)) (F0 m pc ls (st)) := by
  obtain ⟨⟨g1, g2, g4, g5⟩, hd⟩ := cw
  have hG : GoodIn wsL_law (wsS own index y (.code y bytes maxL ret :: wsL_law)) := by
    intro w hw
    rcases List.mem_append.mp hw with hw | hw
    · simp only [List.mem_cons, List.not_mem_nil, or_false] at hw
      rcases hw with rfl | rfl | rfl
      · exact ⟨g1, good_of_word (wsL_law_good _ g1)⟩
      · exact ⟨g2, good_of_word (wsL_law_good _ g2)⟩
      · rw [hyo] at g4
        exact ⟨g4, good_of_word (wsL_law_good _ g4)⟩
    · exact o_good g5 w hw
  refine vx_callv (vx_runS (As := As) (rest := rest) ⟨hx, hb, hml, hown, hts⟩ hM (cwS n hts hG rfl rfl rfl ⟨hyo, hd⟩ hR) ⟨oUX.blind, oX_warm hK hT hH⟩ rfl hn hl.1 hst (lv_room hrm) hdg hcr) hH.2.1 (fun q _ h => h) (fun q h => h) (fun q _ h => h) (fun E ce q9 u t H1 locs1 ht hvm hpu hB hz1 hk1 hS hce hcv hcl => ?_) (fun u t H1 locs1 ht hvm hw hB hz1 hk1 hS => kk u H1 locs1 hw ⟨by unfold oV at hB; rw [ht] at hB; exact hB, hS, hH.2.2⟩)
  refine vx_out (fun x hx => (hnt x hx).elim) hlk hce hcv hcl (fun t2 ht2 _ => ?_) (fun z hz => hS.2.2 z hz) hm.1 hm.2
  have hH1 : oH b0 D N ad s.heap u H1 locs1 := ⟨by have := hB.2; unfold oV at this; rw [ht] at this; exact this, hS, hH.2.2⟩
  exact oXC.at hH1 (by rw [ht2]; exact Nat.le_refl _) (fun q _ => by rw [ht2]) (kx E u hB.1)
end OXROWS
