/-! ===== a growing world: what constructors make ===== -/
def oGx (N : Nat) (ad ad1 : Nat → Nat) : Prop := ∀ i : Nat, i < N → ad1 i = ad i
theorem oW_push {N q : Nat} {e : va_E} {ad : Nat → Nat} {σ : Nat → va_E} : oW N ad σ ++ [(q, e)] = oW (N + 1) (va_up ad N q) (va_up σ N e) := by
  unfold oW
  rw [List.range_succ, List.map_append]
  congr 1
  · refine List.map_congr_left (fun k hk => ?_)
    have := List.mem_range.mp hk
    rw [va_up_n _ _ (by omega), va_up_n _ _ (by omega)]
  · show [(q, e)] = [(va_up ad N q N, va_up σ N e N)]
    rw [va_up_s, va_up_s]
theorem oAd_of_D {b0 N : Nat} {ad : Nat → Nat} {σ : Nat → va_E} (hD : va_D (fun q => b0 ≤ q) (oW N ad σ)) : oAd b0 N ad :=
  ⟨fun i j hi hj e => hD.1 i j _ _ (oW_get hi) (oW_get hj) e, fun k hk => hD.2 k _ (oW_get hk)⟩
theorem va_RA_one {U : State} {a b : ClassId} {ty : FieldType} (h1 : va_RA U a ty) (h2 : va_RA U b ty) : a = b := by
  cases ty <;> first
    | exact Option.some.inj (Eq.trans (Eq.symm h1) h2)
    | (obtain ⟨_, _, _, _, _, h1⟩ := h1; obtain ⟨_, _, _, _, _, h2⟩ := h2; exact Option.some.inj (h1.symm.trans h2))
def oUA (b0 : Nat) (D : va_G) (cT : Nat → ClassId) (N : Nat) (ad : Nat → Nat) (σ : Nat → va_E) (U : State) : Prop := oU b0 D cT N ad σ U ∧ va_AO RX4 U
theorem oUA.blind {b0 : Nat} {D : va_G} {cT : Nat → ClassId} {N : Nat} {ad : Nat → Nat} {σ : Nat → va_E} {As : List Value} : FrameBlind (va_Pc As (oUA b0 D cT N ad σ)) := fun _ U g mk q => ⟨q.1, ⟨q.2.1.1, q.2.1.2.1.calling g mk _, q.2.1.2.2⟩, va_AO.moved (u := U) (Vm.Alike.refl U.vm) q.2.2⟩
abbrev oCn (l : Launch) (D : va_G) (cT : Nat → ClassId) (N : Nat) (ad : Nat → Nat) (b0 : Nat) (y : MethodName) (cc : ByteArray) (maxL fr lo k sl : Nat) (As : List Value) (σ : Nat → va_E) (post : (Nat → Nat) × (Nat → va_E) → Prop) : Prop :=
  Met l y (.code y cc maxL none :: wsL_law) { frames := fr, cells := k, slots := sl, locals := lo } (va_Pc As (oUA b0 D cT N ad σ)) (va_Qv (fun u : (Nat → Nat) × (Nat → va_E) => oAd b0 (N + k) u.1 ∧ post u) (fun u t => oV D (N + k) u.1 u.2 t) (fun q => b0 ≤ q)) k sl (fun q => b0 ≤ q)
def oCI (own : String) (index : Nat) (y : MethodName) (bytes : ByteArray) (maxL : Nat) : Prop :=
  (Cond.methodLink own index y ∈ wsL_law ∧ Cond.instanceMethod y ∈ wsL_law ∧ Cond.initialized y.cls ∈ wsL_law ∧ Cond.code y bytes maxL none ∈ wsL_law) ∧ y.name = "<init>" ∧ y.cls ≠ "java/lang/invoke/MethodHandle" ∧ y.cls ≠ "java/lang/invoke/VarHandle" ∧ (parseMethodDescriptor y.desc).map (fun d => d.parameters.length) = some 0
def oCJ (y : MethodName) (bytes : ByteArray) (maxL : Nat) : Prop :=
  (Cond.instanceMethod y ∈ wsL_law ∧ Cond.initialized y.cls ∈ wsL_law ∧ Cond.code y bytes maxL none ∈ wsL_law) ∧ y.name = "<init>" ∧ y.cls ≠ "java/lang/invoke/MethodHandle" ∧ y.cls ≠ "java/lang/invoke/VarHandle" ∧ (parseMethodDescriptor y.desc).map (fun d => d.parameters.length) = some 0
section OGROW
variable {p : Program} {l : Launch} {e : Env} {R : Room} {s : State} {m : MethodId} {args : Array Value} {below : List Frame} {meth : Method} {c : Code} {H : Heap} {locs : List Loc} {cells slots : Nat} {Q : State → Prop}
variable {cc : ByteArray} {pc : Nat} {ls : Array Slot} {rest : List Value} {D : va_G} {cT : Nat → ClassId} {N b0 : Nat} {ad : Nat → Nat} {σ : Nat → va_E}
theorem m_startN {y : MethodName} {maxL fr lo k sl : Nat} {h0 : Nat} {Qc : Array Value → State → Outcome → State → Prop}
    (hy : plainName y.cls = true) (hn : 1 ≤ maxL) (hyn : y.name = "<init>")
    (body : ∀ (p : Program) (e : Env) (s : State) (m : MethodId) (below : List Frame) (meth : Method) (c : Code) (args : Array Value) (ls : Array Slot), p.tables.exec = Jvm.exec → c.code = cc → c.maxLocals = maxL → s.vm.findClass y.cls = some m.cls → meth.locks = false → meth.sig.returnType = none → (∀ w ∈ wsL_law, w.before args s = true) → oK b0 D cT s → oH b0 D N ad s.heap σ s.heap [] → lv_has ls maxL [(0, .ref h0)] → meth.name = "<init>" → va_AO RX4 s →
      W p l e { frames := fr, cells := k, slots := sl, locals := lo } s m args below meth c s.heap [] 0 0 (MQ below Qc args s k sl (fun q => b0 ≤ q)) (F0 m 0 ls [])) :
    Met l y (.code y cc maxL none :: wsL_law) { frames := fr, cells := k, slots := sl, locals := lo } (va_Pc [.ref h0] (oUA b0 D cT N ad σ)) Qc k sl (fun q => b0 ≤ q) := by
  refine Met.ofW (cc := cc) (maxL := maxL) (ret := none) hy rfl ?_
  intro p e s m args below meth c s₁ B hml hv
  obtain ⟨rfl, ⟨hb0, hK, hP⟩, hAO⟩ := hv
  have hl := lv_entry [.ref h0] (n := maxL) hn
  rw [show lv_args 0 [.ref h0] = [(0, .ref h0)] from rfl] at hl
  rw [lg_entry_eq]
  have hts := atoms_spec (ws := .code y cc maxL none :: wsL_law) B.pre
  exact body p e s m below meth c [Value.ref h0].toArray _ B.exec B.bytes hml (findClass_of_methodNamed B.named) B.notSynchronized B.returns (fun w h => hts w (List.mem_cons_of_mem _ h)) hK ⟨hP, va_S.rf, hb0⟩ hl ((name_of_methodNamed B.named B.method).1.trans hyn) hAO
theorem m_vretN {k sl : Nat} {post : (Nat → Nat) × (Nat → va_E) → Prop} {N0 : Nat} (hx : p.tables.exec = Jvm.exec) (hb : c.code = cc) (hlk : meth.locks = false) (hr : meth.sig.returnType = none) (hA : oAd b0 (N0 + k) ad) (hH : oH b0 D (N0 + k) ad s.heap σ H locs) (hm : cells ≤ k ∧ slots ≤ sl) (hdg : decode cc pc = .ok (.return_, 1)) (hp : post (ad, σ)) :
    W p l e R s m args below meth c H locs cells slots (MQ below (va_Qv (fun u : (Nat → Nat) × (Nat → va_E) => oAd b0 (N0 + k) u.1 ∧ post u) (fun u t => oV D (N0 + k) u.1 u.2 t) (fun q => b0 ≤ q)) args s k sl (fun q => b0 ≤ q)) (F0 m pc ls []) :=
  W.widen hm.1 hm.2 (W.vret hx hb hr (fun t ht _ => ⟨⟨(ad, σ), rfl, ⟨hA, hp⟩, by show va_P D vwCl (oW (N0 + k) ad σ) t.heap; rw [ht]; exact hH.1⟩, hH.2.1.F ht⟩) hH.2.1.2.2 hdg hlk)
theorem m_newO {own C : String} {T : u_T} {nf ci index : Nat} (hx : p.tables.exec = Jvm.exec) (hb : c.code = cc) (hts : ∀ w ∈ wsL_law, w.before args s = true) (hin : ∀ w ∈ u_ws C T nf, w ∈ wsL_law) (ty0 : Nat → FieldType) (hty : ∀ k, k < nf → parseFieldDescriptor (T k).2.2.1 = some (ty0 k)) (hown : s.vm.findClass own = some m.cls) (hcl : Cond.classLink own index C ∈ wsL_law) (hinst : Cond.instantiable C nf ∈ wsL_law) (hini : Cond.initialized C ∈ wsL_law) (hK : oK b0 D cT s) (hH : oH b0 D N ad s.heap σ H locs) (hA : oAd b0 N ad) (hc : vwCl[ci]? = some (C, T, nf)) {fs : List Value} (hfs : ∀ j, j < nf → defaultValue (ty0 j) = vp_V fs j) (hcells : cells + 1 ≤ R.cells) (hslots : slots + nf ≤ R.slots) (hdg : decode cc pc = .ok (.new index, 3))
    (kk : ∀ (H1 : Heap) (ad1 : Nat → Nat) (σ1 : Nat → va_E), oGx N ad ad1 → (∀ i : Nat, i < N → σ1 i = σ i) → σ1 N = .inr (ci, fs) → oAd b0 (N + 1) ad1 → oH b0 D (N + 1) ad1 s.heap σ1 H1 locs → W p l e R s m args below meth c H1 locs (cells + 1) (slots + nf) Q (F0 m (pc + 3) ls (.ref (ad1 N) :: rest))) : W p l e R s m args below meth c H locs cells slots Q (F0 m pc ls rest) := by
  refine va_new (ci := ci) (fs := fs) hx hb hts hin ty0 hty hown (hts _ hcl) (hts _ hinst) (hts _ hini) hK.1 hH.1 (hA.D σ) hH.2.1 (fun q h => Nat.le_trans hH.2.2 h) hc hfs hcells hslots hdg (fun q H1 hP hD hS => ?_)
  rw [oW_push] at hP hD
  have k1 := kk H1 (va_up ad N q) (va_up σ N (.inr (ci, fs))) (fun i h => va_up_n _ _ (by omega)) (fun i h => va_up_n _ _ (by omega)) (va_up_s _ _ _) (oAd_of_D hD) ⟨hP, hS, hH.2.2⟩
  rw [va_up_s] at k1
  exact k1
theorem m_newA {atype : ArrayType} {ty : FieldType} (i0 : Nat) {z : Int} {n : Nat} {a1 : vp_A} (hx : p.tables.exec = Jvm.exec) (hb : c.code = cc) (hts : ∀ w ∈ wsL_law, w.before args s = true) (hty : newarray.typeOf atype = ty) (hi : (oTy cT)[i0]? = some (cT i0, ty)) (harr : Cond.arrayClass ty ∈ wsL_law) (hK : oK b0 D cT s) (hH : oH b0 D N ad s.heap σ H locs) (hA : oAd b0 N ad) (ha : ∀ cA : ClassId, vp_cell cA a1 = arrV cA n (fun _ => defaultValue ty)) (hn : ¬ oI z < 0) (hN : (oI z).toNatClampNeg = n) (hbytes : n * componentBytes ty ≤ 536870912) (hcells : cells + 1 ≤ R.cells) (hslots : slots + n ≤ R.slots) (hdg : decode cc pc = .ok (.newarray atype, 2))
    (kk : ∀ (H1 : Heap) (ad1 : Nat → Nat) (σ1 : Nat → va_E), oGx N ad ad1 → (∀ i : Nat, i < N → σ1 i = σ i) → σ1 N = .inl (cT i0, a1) → oAd b0 (N + 1) ad1 → oH b0 D (N + 1) ad1 s.heap σ1 H1 locs → W p l e R s m args below meth c H1 locs (cells + 1) (slots + n) Q (F0 m (pc + 2) ls (.ref (ad1 N) :: rest))) : W p l e R s m args below meth c H locs cells slots Q (F0 m pc ls (.int (oI z) :: rest)) := by
  refine va_newa (atype := atype) hx hb (by rw [hty]; exact hts _ harr) hty hK.1 hH.1 (hA.D σ) hH.2.1 (fun q h => Nat.le_trans hH.2.2 h) ha hn hN hbytes hcells hslots hdg (fun q cA H1 hK1 hP hD hS => ?_)
  have e1 : cA = cT i0 := va_RA_one (hK1.2 (oTy cT).length (cA, ty) (by rw [List.getElem?_append_right (Nat.le_refl _)]; simp)).2 (hK.1.2 i0 _ hi).2
  subst e1
  rw [oW_push] at hP hD
  have k1 := kk H1 (va_up ad N q) (va_up σ N (.inl (cT i0, a1))) (fun i h => va_up_n _ _ (by omega)) (fun i h => va_up_n _ _ (by omega)) (va_up_s _ _ _) (oAd_of_D hD) ⟨hP, hS, hH.2.2⟩
  rw [va_up_s] at k1
  exact k1
theorem m_newS {own : String} {index n : Nat} {z : Int} (hx : p.tables.exec = Jvm.exec) (hb : c.code = cc) (hts : ∀ w ∈ wsL_law, w.before args s = true) (hown : s.vm.findClass own = some m.cls) (hcl : Cond.classLink own index RX4 ∈ wsL_law) (hAO : va_AO RX4 s) (hK : oK b0 D cT s) (hH : oH b0 D N ad s.heap σ H locs) (hA : oAd b0 N ad) (hn : ¬ oI z < 0) (hN : (oI z).toNatClampNeg = n) (hbytes : n * 4 ≤ 536870912) (hcells : cells + 1 ≤ R.cells) (hslots : slots + n ≤ R.slots) (hdg : decode cc pc = .ok (.anewarray index, 3))
    (kk : ∀ (H1 : Heap) (ad1 : Nat → Nat) (σ1 : Nat → va_E), oGx N ad ad1 → (∀ i : Nat, i < N → σ1 i = σ i) → σ1 N = oAO cT n (fun _ => none) → oAd b0 (N + 1) ad1 → oH b0 D (N + 1) ad1 s.heap σ1 H1 locs → W p l e R s m args below meth c H1 locs (cells + 1) (slots + n) Q (F0 m (pc + 3) ls (.ref (ad1 N) :: rest))) : W p l e R s m args below meth c H locs cells slots Q (F0 m pc ls (.int (oI z) :: rest)) := by
  refine va_newq (C := RX4) hx hb hown (hts _ hcl) hAO hK.1 hH.1 (hA.D σ) hH.2.1 (fun q h => Nat.le_trans hH.2.2 h) hn hN hbytes hcells hslots hdg (fun q cA H1 hK1 hP hD hS => ?_)
  have e1 : cA = cT 4 := va_RA_one (hK1.2 (oTy cT).length (cA, .object RX4) (by rw [List.getElem?_append_right (Nat.le_refl _)]; simp)).2 (hK.1.2 4 (cT 4, .object "OddRulers$State") rfl).2
  subst e1
  rw [oW_push] at hP hD
  have k1 := kk H1 (va_up ad N q) (va_up σ N _) (fun i h => va_up_n _ _ (by omega)) (fun i h => va_up_n _ _ (by omega)) (va_up_s _ _ _) (oAd_of_D hD) ⟨hP, hS, hH.2.2⟩
  rw [va_up_s] at k1
  exact k1
theorem m_init {y : MethodName} {bytes : ByteArray} {maxL nL fr lo index k sl j : Nat} {own : String} {lv : List (Nat × Value)} {post : (Nat → Nat) × (Nat → va_E) → Prop} (hx : p.tables.exec = Jvm.exec) (hb : c.code = cc) (hml : c.maxLocals = nL) (hown : s.vm.findClass own = some m.cls) (hts : ∀ w ∈ wsL_law, w.before args s = true) (hAO : va_AO RX4 s) (hK : oK b0 D cT s) (hH : oH b0 D N ad s.heap σ H locs) (hl : lv_has ls nL lv) (cw : oCI own index y bytes maxL) (hM : oCn l D cT N ad b0 y bytes maxL fr lo k sl [.ref (ad j)] σ post) (hR : fr + 1 ≤ R.frames ∧ 8 + (maxL + 11) + lo ≤ R.locals) (hcr : cells + k ≤ R.cells ∧ slots + sl ≤ R.slots) (hrm : (rest.map fun v => v.category).sum ≤ 8) (hdg : decode cc pc = .ok (.invokespecial index, 3))
    (kk : ∀ (ad1 : Nat → Nat) (σ1 : Nat → va_E) (H1 : Heap) (locs1 : List Loc), oAd b0 (N + k) ad1 → post (ad1, σ1) → oH b0 D (N + k) ad1 s.heap σ1 H1 locs1 → W p l e R s m args below meth c H1 locs1 (cells + k) (slots + sl) Q (F0 m (pc + 3) ls rest)) : W p l e R s m args below meth c H locs cells slots Q (F0 m pc ls (.ref (ad j) :: rest)) := by
  obtain ⟨⟨g1, g2, g3, g4⟩, hy1, hd⟩ := cw
  refine va_callv (va_runI (As := []) (rest := rest) ⟨hx, hb, hml, hown, hts⟩ hM (cwI 0 hts (o_good g4) rfl rfl rfl (hts _ g3) (hts _ g1) (hts _ g2) hy1 hd hR) ⟨oUA.blind, fun U hU hW => ⟨rfl, (o_warm (As := [.ref (ad j)]) hK hH U hU hW).2, va_AO.moved hW.alike hAO⟩⟩ rfl rfl hl.1 rfl (lv_room hrm) hdg hcr) hH.2.1 (fun q _ h => h) (fun q h => h) (fun u t H1 locs1 ht hvm hw hB hz1 hk1 hS => kk u.1 u.2 H1 locs1 hw.1 hw.2 ⟨by unfold oV at hB; rw [ht] at hB; exact hB, hS, hH.2.2⟩)
theorem m_initJ {y : MethodName} {bytes : ByteArray} {maxL nL fr lo index k sl j : Nat} {own host : String} {lv : List (Nat × Value)} {post : (Nat → Nat) × (Nat → va_E) → Prop} (hx : p.tables.exec = Jvm.exec) (hb : c.code = cc) (hml : c.maxLocals = nL) (hown : s.vm.findClass own = some m.cls) (hts : ∀ w ∈ wsL_law, w.before args s = true) (hAO : va_AO RX4 s) (hK : oK b0 D cT s) (hH : oH b0 D N ad s.heap σ H locs) (hl : lv_has ls nL lv) (cw : oCJ y bytes maxL) (hnl : va_Nw (.methodLinkNest own index y host) s) (hM : oCn l D cT N ad b0 y bytes maxL fr lo k sl [.ref (ad j)] σ post) (hR : fr + 1 ≤ R.frames ∧ 8 + (maxL + 11) + lo ≤ R.locals) (hcr : cells + k ≤ R.cells ∧ slots + sl ≤ R.slots) (hrm : (rest.map fun v => v.category).sum ≤ 8) (hdg : decode cc pc = .ok (.invokespecial index, 3))
    (kk : ∀ (ad1 : Nat → Nat) (σ1 : Nat → va_E) (H1 : Heap) (locs1 : List Loc), oAd b0 (N + k) ad1 → post (ad1, σ1) → oH b0 D (N + k) ad1 s.heap σ1 H1 locs1 → W p l e R s m args below meth c H1 locs1 (cells + k) (slots + sl) Q (F0 m (pc + 3) ls rest)) : W p l e R s m args below meth c H locs cells slots Q (F0 m pc ls (.ref (ad j) :: rest)) := by
  obtain ⟨⟨g2, g3, g4⟩, hy1, hd⟩ := cw
  refine va_callv (va_runIN (As := []) (rest := rest) ⟨hx, hb, hml, hown, hts⟩ hM ⟨va_cnB 0 hts (o_good g4) rfl rfl rfl hnl (hts _ g3) hd hR, hy1, hts _ g2⟩ ⟨oUA.blind, fun U hU hW => ⟨rfl, (o_warm (As := [.ref (ad j)]) hK hH U hU hW).2, va_AO.moved hW.alike hAO⟩⟩ rfl rfl hl.1 rfl (lv_room hrm) hdg hcr) hH.2.1 (fun q _ h => h) (fun q h => h) (fun u t H1 locs1 ht hvm hw hB hz1 hk1 hS => kk u.1 u.2 H1 locs1 hw.1 hw.2 ⟨by unfold oV at hB; rw [ht] at hB; exact hB, hS, hH.2.2⟩)
theorem m_aast {k q n : Nat} {f : Nat → Option Nat} {fs : List Value} {i : Int} (j : Nat) (hx : p.tables.exec = Jvm.exec) (hb : c.code = cc) (hK : oK b0 D cT s) (hH : oH b0 D N ad s.heap σ H locs) (hA : oAd b0 N ad) (hk : k < N) (he : σ k = oAO cT n f) (hq : q < N) (hv : σ q = .inr (4, fs)) (hj : i = (j : Int)) (hlt : j < n) (hn : n < 2147483648) (hdg : decode cc pc = .ok (.aastore, 1))
    (kk : ∀ (H1 : Heap) (locs1 : List Loc) (σ1 : Nat → va_E), σ1 k = oAO cT n (va_up f j (some (ad q))) → (∀ x : Nat, x ≠ k → σ1 x = σ x) → oH b0 D N ad s.heap σ1 H1 locs1 → W p l e R s m args below meth c H1 locs1 cells slots Q (F0 m (pc + 1) ls rest)) : W p l e R s m args below meth c H locs cells slots Q (F0 m pc ls (.ref (ad q) :: .int (oI i) :: .ref (ad k) :: rest)) := by
  subst hj
  have hin : vp_in (oI ((j : Nat) : Int)) n := by rw [oI_nat]; exact vp_in_nI hlt (by omega)
  have hcl : (oI ((j : Nat) : Int)).toNatClampNeg = j := by rw [oI_nat]; exact nI_clamp (by omega)
  refine va_astq (r := (RX4, TX4, 5)) hx hb hK.1 hH.1 (hA.D σ) hH.2.1 k 4 q 4 (by rw [oW_get hk, he]; rfl) rfl (by rw [oW_get hq, hv]) rfl hin hdg (fun H1 locs1 hP hD hS => ?_)
  rw [hcl] at hP
  rw [oW_set] at hP
  exact kk H1 locs1 (va_up σ k _) (va_up_s _ _ _) (fun x hx => va_up_n _ _ hx) ⟨hP, hS, hH.2.2⟩
end OGROW
