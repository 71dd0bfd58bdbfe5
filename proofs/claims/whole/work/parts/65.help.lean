/-! ===== the law's helpers: a call that may throw, caught ===== -/
def oNc (U : State) : Prop := ∀ a ∈ oXc, ∀ b ∈ oXc, a ≠ b → va_Nc a b U
theorem oNc.moved {u U : State} (hvm : u.vm.Alike U.vm) (h : oNc u) : oNc U := fun a ha b hb hab => va_Nc.moved hvm (h a ha b hb hab)
def oUL (b0 : Nat) (D : va_G) (cT : Nat → ClassId) (N : Nat) (ad : Nat → Nat) (σ : Nat → va_E) (U : State) : Prop := oUX b0 D cT N ad σ U ∧ oNc U
theorem oUL.blind {b0 : Nat} {D : va_G} {cT : Nat → ClassId} {N : Nat} {ad : Nat → Nat} {σ : Nat → va_E} {As : List Value} : FrameBlind (va_Pc As (oUL b0 D cT N ad σ)) := fun _ U g mk q => ⟨q.1, ⟨⟨q.2.1.1.1, q.2.1.1.2.1.calling g mk _, q.2.1.1.2.2⟩, q.2.1.2.calling g mk _⟩, oNc.moved (u := U) (Vm.Alike.refl U.vm) q.2.2⟩
abbrev oHi (l : Launch) (D : va_G) (cT : Nat → ClassId) (N : Nat) (ad : Nat → Nat) (b0 : Nat) (y : MethodName) (cc : ByteArray) (maxL : Nat) (hh : List (Nat × Nat × Nat × Nat)) (fr lo k : Nat) (As : List Value) (σ : Nat → va_E) (post : Int32 → (Nat → va_E) → Prop) : Prop :=
  Met l y (.codeWith y cc maxL (some .int) hh :: wsL_law) { frames := fr, cells := k, slots := 6 * k, locals := lo } (va_Pc As (oUL b0 D cT N ad σ)) (va_Qi post (oV D N ad) (fun q => b0 ≤ q)) k (6 * k) (fun q => b0 ≤ q)
/-- the row of a helper's table that takes E at pc -/
def oCat (hh : List (Nat × Nat × Nat × Nat)) (pc : Nat) (E : String) (h : Nat) : Prop := ∃ (pre : List ExceptionTableEntry) (x : ExceptionTableEntry) (suf : List ExceptionTableEntry), tableOf hh = pre ++ x :: suf ∧ (∀ z ∈ pre, z.catchType ≠ 0 ∧ ∃ nm ∈ oXc, E ≠ nm ∧ Cond.classLink RL z.catchType nm ∈ wsL_law) ∧ covers x pc = true ∧ x.catchType ≠ 0 ∧ Cond.classLink RL x.catchType E ∈ wsL_law ∧ x.handlerPc = h ∧ E ∈ oXc
/-- what a helper answers: 0 and the value, or the number of the exception -/
def oHp (cT : Nat → ClassId) (num : String → Int) (post : Int32 → (Nat → va_E) → Prop) (px : String → (Nat → va_E) → Prop) : Int32 → (Nat → va_E) → Prop := fun rr uu => (rr = oI 0 ∧ ∃ (v : Int) (u : Nat → va_E) (F : Nat → Int64), (-2147483648 ≤ v ∧ v < 2147483648) ∧ post (oI v) u ∧ uu 75 = oAL cT 1 F ∧ F 0 = oL v ∧ ∀ q : Nat, q ≠ 75 → uu q = u q) ∨ ∃ E : String, px E uu ∧ rr = oI (num E)
def oCSW (own : String) (index : Nat) (y : MethodName) (bytes : ByteArray) (maxL : Nat) (hh : List (Nat × Nat × Nat × Nat)) (n : Nat) : Prop :=
  (Cond.methodLink own index y ∈ wsL_law ∧ Cond.static y ∈ wsL_law ∧ Cond.initialized y.cls ∈ wsL_law ∧ Cond.codeWith y bytes maxL (some .int) hh ∈ wsL_law) ∧ y.cls ≠ "java/lang/invoke/MethodHandle" ∧ y.cls ≠ "java/lang/invoke/VarHandle" ∧ (parseMethodDescriptor y.desc).map (fun d => d.parameters.length) = some n
theorem oHw_13 : Cond.classLink RL 13 "java/lang/IllegalArgumentException" ∈ wsL_law := (o_in0 (List.mem_of_getElem? (i := 94) (by decide +kernel)))
theorem oHw_15 : Cond.classLink RL 15 "java/lang/IllegalStateException" ∈ wsL_law := (o_in0 (List.mem_of_getElem? (i := 95) (by decide +kernel)))
theorem oHw_28 : Cond.classLink RL 28 "java/lang/IndexOutOfBoundsException" ∈ wsL_law := (o_in0 (List.mem_of_getElem? (i := 512) (by decide +kernel)))
section OHELP
variable {p : Program} {l : Launch} {e : Env} {R : Room} {s : State} {m : MethodId} {args : Array Value} {below : List Frame} {meth : Method} {c : Code} {H : Heap} {locs : List Loc} {cells slots : Nat} {Q : State → Prop}
variable {cc : ByteArray} {pc : Nat} {ls : Array Slot} {rest : List Value} {D : va_G} {cT : Nat → ClassId} {N b0 : Nat} {ad : Nat → Nat} {σ : Nat → va_E} {H0 : Heap} {mc ms : Nat}
theorem m_startL {y : MethodName} {maxL fr lo k : Nat} {hh : List (Nat × Nat × Nat × Nat)} {As : List Value} {Qc : Array Value → State → Outcome → State → Prop} {lv : List (Nat × Value)}
    (hy : plainName y.cls = true) (hn : (lg_sl As).length ≤ maxL) (hlv : lv_args 0 As = lv)
    (body : ∀ (p : Program) (e : Env) (s : State) (m : MethodId) (below : List Frame) (meth : Method) (c : Code) (args : Array Value) (ls : Array Slot), p.tables.exec = Jvm.exec → c.code = cc → c.maxLocals = maxL → s.vm.findClass y.cls = some m.cls → meth.locks = false → meth.sig.returnType = some .int → (∀ w ∈ wsL_law, w.before args s = true) → oK b0 D cT s → oH b0 D N ad s.heap σ s.heap [] → lv_has ls maxL lv → oX s → oNc s → c.exceptionTable.toList = tableOf hh →
      W p l e { frames := fr, cells := k, slots := 6 * k, locals := lo } s m args below meth c s.heap [] 0 0 (MQ below Qc args s k (6 * k) (fun q => b0 ≤ q)) (F0 m 0 ls [])) :
    Met l y (.codeWith y cc maxL (some .int) hh :: wsL_law) { frames := fr, cells := k, slots := 6 * k, locals := lo } (va_Pc As (oUL b0 D cT N ad σ)) Qc k (6 * k) (fun q => b0 ≤ q) := by
  refine va_MetW (cc := cc) (maxL := maxL) (ret := some .int) (hh := hh) hy rfl ?_
  intro p e s m args below meth c s₁ B hml hv
  obtain ⟨rfl, ⟨⟨hb0, hK, hP⟩, hT⟩, hN⟩ := hv
  have hl := lv_entry As hn
  rw [hlv] at hl
  rw [lg_entry_eq]
  have hts := atoms_spec (ws := .codeWith y cc maxL (some .int) hh :: wsL_law) B.pre
  exact body p e s m below meth c As.toArray _ B.exec B.bytes hml (findClass_of_methodNamed B.named) B.notSynchronized B.returns (fun w h => hts w (List.mem_cons_of_mem _ h)) hK ⟨hP, va_S.rf, hb0⟩ hl hT hN (vx_table (x := y) B (hts _ List.mem_cons_self))
theorem m_hVi {y : MethodName} {bytes : ByteArray} {maxL nL fr lo n index kc : Nat} {ret : Option FieldType} {As st : List Value} {lv : List (Nat × Value)} {post : Int32 → (Nat → va_E) → Prop} {py : String → (Nat → va_E) → Prop} {C : String} {T : u_T} {nf ci k : Nat} {fs : List Value} {hh : List (Nat × Nat × Nat × Nat)} (hx : p.tables.exec = Jvm.exec) (hb : c.code = cc) (hml : c.maxLocals = nL) (hown : s.vm.findClass RL = some m.cls) (hts : ∀ w ∈ wsL_law, w.before args s = true) (hK : oK b0 D cT s) (hT : oX s) (hNc : oNc s) (hH : oH b0 D N ad s.heap σ H locs) (hl : lv_has ls nL lv) (hnt : c.exceptionTable.toList = tableOf hh) (cw : oCV RL index C y bytes maxL ret n) (hM : vx_Met l y (.code y bytes maxL ret :: wsL_law) { frames := fr, cells := kc, slots := 6 * kc, locals := lo } (va_Pc (.ref (ad k) :: As) (oUX b0 D cT N ad σ)) (va_Qi post (oV D N ad) (fun q => b0 ≤ q)) (oXC b0 D N ad py) kc (6 * kc) (fun q => b0 ≤ q)) (hR : fr + 1 ≤ R.frames ∧ 8 + (maxL + 11) + lo ≤ R.locals) (hcr : cells + kc ≤ R.cells ∧ slots + 6 * kc ≤ R.slots) (hn : As.length = n) (hk : k < N) (he : σ k = .inr (ci, fs)) (hc : vwCl[ci]? = some (C, T, nf)) (hst : st = As.reverse ++ .ref (ad k) :: rest) (hrm : (rest.map fun v => v.category).sum ≤ 8) (hdg : decode cc pc = .ok (.invokevirtual index, 3))
    (kx : ∀ (E : String) (σ1 : Nat → va_E), py E σ1 → ∃ h : Nat, oCat hh pc E h ∧ ∀ (q9 : Nat) (H1 : Heap) (locs1 : List Loc), oH b0 D N ad s.heap σ1 H1 locs1 → W p l e R s m args below meth c H1 locs1 (cells + kc) (slots + 6 * kc) Q (F0 m h ls [.ref q9]))
    (kk : ∀ (r : Int32) (σ1 : Nat → va_E) (H1 : Heap) (locs1 : List Loc), post r σ1 → oH b0 D N ad s.heap σ1 H1 locs1 → W p l e R s m args below meth c H1 locs1 (cells + kc) (slots + 6 * kc) Q (F0 m (pc + 3) ls (.int r :: rest))) : W p l e R s m args below meth c H locs cells slots Q (F0 m pc ls (st)) := by
  obtain ⟨⟨g1, g2, g3, g4, g5⟩, hd⟩ := cw
  have hG : GoodIn wsL_law (wsV RL index C y (.code y bytes maxL ret :: wsL_law)) := by
    intro w hw
    rcases List.mem_append.mp hw with hw | hw
    · simp only [List.mem_cons, List.not_mem_nil, or_false] at hw
      rcases hw with rfl | rfl | rfl | rfl
      · exact ⟨g1, good_of_word (wsL_law_good _ g1)⟩
      · exact ⟨g2, good_of_word (wsL_law_good _ g2)⟩
      · exact ⟨g3, good_of_word (wsL_law_good _ g3)⟩
      · exact ⟨g4, good_of_word (wsL_law_good _ g4)⟩
    · exact o_good g5 w hw
  refine vx_calli (vx_runV (As := As) (rest := rest) ⟨hx, hb, hml, hown, hts⟩ hM (cwV n hts hG rfl rfl rfl hd hR) ⟨oUX.blind, va_recv hK.1 hH.1 hc (by rw [oW_get hk, he]), oX_warm hK hT hH⟩ rfl hn hl.1 hst (lv_room hrm) hdg hcr) hH.2.1 (fun q _ h => h) (fun q h => h) (fun q _ h => h) (fun E ce q9 u t H1 locs1 ht hvm hpu hB hz1 hk1 hS hce hcv hcl => ?_) (fun r u t H1 locs1 ht hvm hw hB hz1 hk1 hS => kk r u H1 locs1 hw ⟨by unfold oV at hB; rw [ht] at hB; exact hB, hS, hH.2.2⟩)
  obtain ⟨h, ⟨pre, x, suf, h1, h2, h3, h4, h5, h6, h7⟩, kw⟩ := kx E u hB.1
  refine vx_catch (name := E) hown pre x suf (hnt.trans h1) (fun z hz => ?_) h3 h4 (hts _ h5) (va_Nw.use rfl (hT.2.2 E h7)) hce hcv hcl ?_
  · obtain ⟨a1, nm, a2, a3, a4⟩ := h2 z hz
    exact Or.inr ⟨a1, nm, hts _ a4, hNc E h7 nm a2 a3⟩
  · rw [h6]
    exact kw q9 H1 locs1 ⟨by have := hB.2; unfold oV at this; rw [ht] at this; exact this, hS, hH.2.2⟩
theorem m_iretL {post : Int32 → (Nat → va_E) → Prop} {v : Int32} (hx : p.tables.exec = Jvm.exec) (hb : c.code = cc) (hlk : meth.locks = false) (hr : meth.sig.returnType = some .int) (hH : oH b0 D N ad s.heap σ H locs) (hm : cells ≤ mc ∧ slots ≤ ms) (hdg : decode cc pc = .ok (.ireturn, 1)) (hp : post v σ) :
    W p l e R s m args below meth c H locs cells slots (MQ below (va_Qi post (oV D N ad) (fun q => b0 ≤ q)) args s mc ms (fun q => b0 ≤ q)) (F0 m pc ls [.int v]) := W.widen hm.1 hm.2 (m_iret hx hb hlk hr hH (m_ni v) hdg hp)
theorem o_goodW {y : MethodName} {bytes : ByteArray} {maxL : Nat} {ret : Option FieldType} {hh : List (Nat × Nat × Nat × Nat)} (h : Cond.codeWith y bytes maxL ret hh ∈ wsL_law) : GoodIn wsL_law (.codeWith y bytes maxL ret hh :: wsL_law) := by
  intro w hw
  rcases List.mem_cons.mp hw with rfl | hw
  · exact ⟨h, good_of_word (wsL_law_good _ h)⟩
  · exact ⟨hw, good_of_word (wsL_law_good _ hw)⟩
end OHELP
