/-! ===== the program's cells and the reference's ===== -/
abbrev oDP : Type := (Nat) × (Nat) × (Nat) × (Nat → Nat) × (Nat → Nat) × (Nat) × (Nat) × (Nat) × (Nat → Nat) × (Nat → Nat) × (Nat) × (Nat) × (Nat) × (Nat → Nat) × (Nat → Nat) × (Int) × (Int) × (Nat) × (Nat) × (Nat → Nat) × (Nat → Nat) × (Nat → Nat) × (Nat → Nat → Nat) × (Nat → Nat → Nat) × (Nat → Int) × (Nat)
abbrev oDP.n (d : oDP) : Nat := d.1
abbrev oDP.a (d : oDP) : Nat := d.2.1
abbrev oDP.g (d : oDP) : Nat := d.2.2.1
abbrev oDP.sz (d : oDP) : Nat → Nat := d.2.2.2.1
abbrev oDP.w (d : oDP) : Nat → Nat := d.2.2.2.2.1
abbrev oDP.n7 (d : oDP) : Nat := d.2.2.2.2.2.1
abbrev oDP.a7 (d : oDP) : Nat := d.2.2.2.2.2.2.1
abbrev oDP.g7 (d : oDP) : Nat := d.2.2.2.2.2.2.2.1
abbrev oDP.sz7 (d : oDP) : Nat → Nat := d.2.2.2.2.2.2.2.2.1
abbrev oDP.w7 (d : oDP) : Nat → Nat := d.2.2.2.2.2.2.2.2.2.1
abbrev oDP.n8 (d : oDP) : Nat := d.2.2.2.2.2.2.2.2.2.2.1
abbrev oDP.a8 (d : oDP) : Nat := d.2.2.2.2.2.2.2.2.2.2.2.1
abbrev oDP.g8 (d : oDP) : Nat := d.2.2.2.2.2.2.2.2.2.2.2.2.1
abbrev oDP.sz8 (d : oDP) : Nat → Nat := d.2.2.2.2.2.2.2.2.2.2.2.2.2.1
abbrev oDP.w8 (d : oDP) : Nat → Nat := d.2.2.2.2.2.2.2.2.2.2.2.2.2.2.1
abbrev oDP.ff (d : oDP) : Int := d.2.2.2.2.2.2.2.2.2.2.2.2.2.2.2.1
abbrev oDP.sf (d : oDP) : Int := d.2.2.2.2.2.2.2.2.2.2.2.2.2.2.2.2.1
abbrev oDP.nx (d : oDP) : Nat := d.2.2.2.2.2.2.2.2.2.2.2.2.2.2.2.2.2.1
abbrev oDP.ms (d : oDP) : Nat := d.2.2.2.2.2.2.2.2.2.2.2.2.2.2.2.2.2.2.1
abbrev oDP.mn (d : oDP) : Nat → Nat := d.2.2.2.2.2.2.2.2.2.2.2.2.2.2.2.2.2.2.2.1
abbrev oDP.ma (d : oDP) : Nat → Nat := d.2.2.2.2.2.2.2.2.2.2.2.2.2.2.2.2.2.2.2.2.1
abbrev oDP.mg (d : oDP) : Nat → Nat := d.2.2.2.2.2.2.2.2.2.2.2.2.2.2.2.2.2.2.2.2.2.1
abbrev oDP.msz (d : oDP) : Nat → Nat → Nat := d.2.2.2.2.2.2.2.2.2.2.2.2.2.2.2.2.2.2.2.2.2.2.1
abbrev oDP.mw (d : oDP) : Nat → Nat → Nat := d.2.2.2.2.2.2.2.2.2.2.2.2.2.2.2.2.2.2.2.2.2.2.2.1
abbrev oDP.T (d : oDP) : Nat → Int := d.2.2.2.2.2.2.2.2.2.2.2.2.2.2.2.2.2.2.2.2.2.2.2.2.1
abbrev oDP.z (d : oDP) : Nat := d.2.2.2.2.2.2.2.2.2.2.2.2.2.2.2.2.2.2.2.2.2.2.2.2.2
abbrev oDM : Type := (Nat → Int) × (Nat → Int) × (Nat → Int) × (Nat → Int) × (Nat → Int)
abbrev oDM.f7 (d : oDM) : Nat → Int := d.1
abbrev oDM.T6 (d : oDM) : Nat → Int := d.2.1
abbrev oDM.fd (d : oDM) : Nat → Int := d.2.2.1
abbrev oDM.fk (d : oDM) : Nat → Int := d.2.2.2.1
abbrev oDM.kz (d : oDM) : Nat → Int := d.2.2.2.2
def zS (ad : Nat → Nat) (k : Nat) (e : va_E) : Prop := ∃ n a g : Nat, e = .inr (4, [.ref (ad (k + 1)), .ref (ad (k + 2)), .int (oI ((n : Nat) : Int)), .int (oI ((a : Nat) : Int)), .int (oI ((g : Nat) : Int))])
def zAN (cT : Nat → ClassId) (n : Nat) (e : va_E) : Prop := ∃ f : Nat → Nat, e = oAN cT n f
def zAJ (cT : Nat → ClassId) (n : Nat) (e : va_E) : Prop := ∃ f : Nat → Nat, e = oAJ cT n f
def zAI (cT : Nat → ClassId) (n : Nat) (e : va_E) : Prop := ∃ f : Nat → Int, e = oAI cT n f
def zT (ad : Nat → Nat) (z : Nat) (e : va_E) : Prop := ∃ (p ac x1 x2 : Nat) (f on : Int), p ≤ 150 ∧ (-2147483648 ≤ f ∧ f < 2147483648) ∧ e = .inr (0, [.ref (ad 58), .int (oI ((z : Nat) : Int)), .int (oI ((p : Nat) : Int)), .int (oI f), .int (oI ((ac : Nat) : Int)), .int (oI ((x1 : Nat) : Int)), .int (oI ((x2 : Nat) : Int)), .int (oI on)])
def zR (ad : Nat → Nat) (e : va_E) : Prop := ∃ ld : Nat, e = .inr (3, [.ref (ad 60), .ref (ad 61), .int (oI ((ld : Nat) : Int)), .ref (ad 62), .ref (ad 63)])
def zL (e : va_E) : Prop := ∃ (lr lk : Nat) (lf le : Int), (lf = 0 ∨ lf = 1) ∧ (-2147483648 ≤ le ∧ le < 2147483648) ∧ e = .inr (1, [.int (oI ((lr : Nat) : Int)), .int (oI ((lk : Nat) : Int)), .int (oI lf), .int (oI le)])
def zM (ad : Nat → Nat) (z ms : Nat) (rf : Int) (e : va_E) : Prop := ∃ spo ou6 : Nat, e = .inr (6, [.int (oI rf), .ref (ad 66), .int (oI ((z : Nat) : Int)), .ref (ad 67), .ref (ad 68), .ref (ad 69), .int (oI ((ms : Nat) : Int)), .ref (ad 70), .ref (ad 71), .ref (ad 72), .ref (ad 73), .ref (ad 74), .int (oI ((spo : Nat) : Int)), .int (oI ((ou6 : Nat) : Int))])
theorem zc {P : va_E → Prop} {a b : va_E} (e : a = b) (h : P b) : P a := by rw [e]; exact h
def oRP (cT : Nat → ClassId) (ad : Nat → Nat) (σ : Nat → va_E) (d : oDP) : Prop :=
  (σ 0 = .inr (5, [.ref (ad 1), .ref (ad 4), .ref (ad 7), .ref (ad 10), .int (oI d.ff), .int (oI d.sf), .ref (ad 13), .ref (ad 57), .ref (ad 59), .ref (ad 64)])) ∧ (σ 1 = .inr (4, [.ref (ad 2), .ref (ad 3), .int (oI ((d.n : Nat) : Int)), .int (oI ((d.a : Nat) : Int)), .int (oI ((d.g : Nat) : Int))])) ∧ (σ 2 = oAN cT 4 d.sz) ∧ (σ 3 = oAJ cT 4 d.w) ∧ (σ 7 = .inr (4, [.ref (ad 8), .ref (ad 9), .int (oI ((d.n7 : Nat) : Int)), .int (oI ((d.a7 : Nat) : Int)), .int (oI ((d.g7 : Nat) : Int))])) ∧ (σ 8 = oAN cT 4 d.sz7) ∧ (σ 9 = oAJ cT 4 d.w7) ∧ (σ 10 = .inr (4, [.ref (ad 11), .ref (ad 12), .int (oI ((d.n8 : Nat) : Int)), .int (oI ((d.a8 : Nat) : Int)), .int (oI ((d.g8 : Nat) : Int))])) ∧ (σ 11 = oAN cT 4 d.sz8) ∧ (σ 12 = oAJ cT 4 d.w8) ∧ (σ 13 = .inr (2, [.ref (ad 14), .int (oI ((d.nx : Nat) : Int)), .int (oI ((d.ms : Nat) : Int))])) ∧ (σ 14 = oAO cT 14 (oMem ad)) ∧ (∀ i : Nat, i < 14 → σ (3 * i + 15) = .inr (4, [.ref (ad (3 * i + 16)), .ref (ad (3 * i + 17)), .int (oI ((d.mn i : Nat) : Int)), .int (oI ((d.ma i : Nat) : Int)), .int (oI ((d.mg i : Nat) : Int))]) ∧ σ (3 * i + 16) = oAN cT 4 (d.msz i) ∧ σ (3 * i + 17) = oAJ cT 4 (d.mw i)) ∧ (zT ad d.z (σ 57)) ∧ (σ 58 = oAC cT 120 d.T) ∧ (zS ad 4 (σ 4)) ∧ (zAN cT 4 (σ 5)) ∧ (zAJ cT 4 (σ 6)) ∧ (zR ad (σ 59)) ∧ (zAI cT 201 (σ 60)) ∧ (zAI cT 201 (σ 61)) ∧ (zAJ cT 4 (σ 62)) ∧ (zAJ cT 4 (σ 63)) ∧ (zL (σ 64))
theorem oRP.eO {cT : Nat → ClassId} {ad : Nat → Nat} {σ : Nat → va_E} {d : oDP} (h : oRP cT ad σ d) : σ 0 = .inr (5, [.ref (ad 1), .ref (ad 4), .ref (ad 7), .ref (ad 10), .int (oI d.ff), .int (oI d.sf), .ref (ad 13), .ref (ad 57), .ref (ad 59), .ref (ad 64)]) := h.1
theorem oRP.e0 {cT : Nat → ClassId} {ad : Nat → Nat} {σ : Nat → va_E} {d : oDP} (h : oRP cT ad σ d) : σ 1 = .inr (4, [.ref (ad 2), .ref (ad 3), .int (oI ((d.n : Nat) : Int)), .int (oI ((d.a : Nat) : Int)), .int (oI ((d.g : Nat) : Int))]) := h.2.1
theorem oRP.e1 {cT : Nat → ClassId} {ad : Nat → Nat} {σ : Nat → va_E} {d : oDP} (h : oRP cT ad σ d) : σ 2 = oAN cT 4 d.sz := h.2.2.1
theorem oRP.e2 {cT : Nat → ClassId} {ad : Nat → Nat} {σ : Nat → va_E} {d : oDP} (h : oRP cT ad σ d) : σ 3 = oAJ cT 4 d.w := h.2.2.2.1
theorem oRP.f70 {cT : Nat → ClassId} {ad : Nat → Nat} {σ : Nat → va_E} {d : oDP} (h : oRP cT ad σ d) : σ 7 = .inr (4, [.ref (ad 8), .ref (ad 9), .int (oI ((d.n7 : Nat) : Int)), .int (oI ((d.a7 : Nat) : Int)), .int (oI ((d.g7 : Nat) : Int))]) := h.2.2.2.2.1
theorem oRP.f71 {cT : Nat → ClassId} {ad : Nat → Nat} {σ : Nat → va_E} {d : oDP} (h : oRP cT ad σ d) : σ 8 = oAN cT 4 d.sz7 := h.2.2.2.2.2.1
theorem oRP.f72 {cT : Nat → ClassId} {ad : Nat → Nat} {σ : Nat → va_E} {d : oDP} (h : oRP cT ad σ d) : σ 9 = oAJ cT 4 d.w7 := h.2.2.2.2.2.2.1
theorem oRP.f100 {cT : Nat → ClassId} {ad : Nat → Nat} {σ : Nat → va_E} {d : oDP} (h : oRP cT ad σ d) : σ 10 = .inr (4, [.ref (ad 11), .ref (ad 12), .int (oI ((d.n8 : Nat) : Int)), .int (oI ((d.a8 : Nat) : Int)), .int (oI ((d.g8 : Nat) : Int))]) := h.2.2.2.2.2.2.2.1
theorem oRP.f101 {cT : Nat → ClassId} {ad : Nat → Nat} {σ : Nat → va_E} {d : oDP} (h : oRP cT ad σ d) : σ 11 = oAN cT 4 d.sz8 := h.2.2.2.2.2.2.2.2.1
theorem oRP.f102 {cT : Nat → ClassId} {ad : Nat → Nat} {σ : Nat → va_E} {d : oDP} (h : oRP cT ad σ d) : σ 12 = oAJ cT 4 d.w8 := h.2.2.2.2.2.2.2.2.2.1
theorem oRP.eM {cT : Nat → ClassId} {ad : Nat → Nat} {σ : Nat → va_E} {d : oDP} (h : oRP cT ad σ d) : σ 13 = .inr (2, [.ref (ad 14), .int (oI ((d.nx : Nat) : Int)), .int (oI ((d.ms : Nat) : Int))]) := h.2.2.2.2.2.2.2.2.2.2.1
theorem oRP.eA {cT : Nat → ClassId} {ad : Nat → Nat} {σ : Nat → va_E} {d : oDP} (h : oRP cT ad σ d) : σ 14 = oAO cT 14 (oMem ad) := h.2.2.2.2.2.2.2.2.2.2.2.1
theorem oRP.hm {cT : Nat → ClassId} {ad : Nat → Nat} {σ : Nat → va_E} {d : oDP} (h : oRP cT ad σ d) : ∀ i : Nat, i < 14 → σ (3 * i + 15) = .inr (4, [.ref (ad (3 * i + 16)), .ref (ad (3 * i + 17)), .int (oI ((d.mn i : Nat) : Int)), .int (oI ((d.ma i : Nat) : Int)), .int (oI ((d.mg i : Nat) : Int))]) ∧ σ (3 * i + 16) = oAN cT 4 (d.msz i) ∧ σ (3 * i + 17) = oAJ cT 4 (d.mw i) := h.2.2.2.2.2.2.2.2.2.2.2.2.1
theorem oRP.z57 {cT : Nat → ClassId} {ad : Nat → Nat} {σ : Nat → va_E} {d : oDP} (h : oRP cT ad σ d) : zT ad d.z (σ 57) := h.2.2.2.2.2.2.2.2.2.2.2.2.2.1
theorem oRP.e58 {cT : Nat → ClassId} {ad : Nat → Nat} {σ : Nat → va_E} {d : oDP} (h : oRP cT ad σ d) : σ 58 = oAC cT 120 d.T := h.2.2.2.2.2.2.2.2.2.2.2.2.2.2.1
theorem oRP.z4 {cT : Nat → ClassId} {ad : Nat → Nat} {σ : Nat → va_E} {d : oDP} (h : oRP cT ad σ d) : zS ad 4 (σ 4) := h.2.2.2.2.2.2.2.2.2.2.2.2.2.2.2.1
theorem oRP.z5 {cT : Nat → ClassId} {ad : Nat → Nat} {σ : Nat → va_E} {d : oDP} (h : oRP cT ad σ d) : zAN cT 4 (σ 5) := h.2.2.2.2.2.2.2.2.2.2.2.2.2.2.2.2.1
theorem oRP.z6 {cT : Nat → ClassId} {ad : Nat → Nat} {σ : Nat → va_E} {d : oDP} (h : oRP cT ad σ d) : zAJ cT 4 (σ 6) := h.2.2.2.2.2.2.2.2.2.2.2.2.2.2.2.2.2.1
theorem oRP.z59 {cT : Nat → ClassId} {ad : Nat → Nat} {σ : Nat → va_E} {d : oDP} (h : oRP cT ad σ d) : zR ad (σ 59) := h.2.2.2.2.2.2.2.2.2.2.2.2.2.2.2.2.2.2.1
theorem oRP.z60 {cT : Nat → ClassId} {ad : Nat → Nat} {σ : Nat → va_E} {d : oDP} (h : oRP cT ad σ d) : zAI cT 201 (σ 60) := h.2.2.2.2.2.2.2.2.2.2.2.2.2.2.2.2.2.2.2.1
theorem oRP.z61 {cT : Nat → ClassId} {ad : Nat → Nat} {σ : Nat → va_E} {d : oDP} (h : oRP cT ad σ d) : zAI cT 201 (σ 61) := h.2.2.2.2.2.2.2.2.2.2.2.2.2.2.2.2.2.2.2.2.1
theorem oRP.z62 {cT : Nat → ClassId} {ad : Nat → Nat} {σ : Nat → va_E} {d : oDP} (h : oRP cT ad σ d) : zAJ cT 4 (σ 62) := h.2.2.2.2.2.2.2.2.2.2.2.2.2.2.2.2.2.2.2.2.2.1
theorem oRP.z63 {cT : Nat → ClassId} {ad : Nat → Nat} {σ : Nat → va_E} {d : oDP} (h : oRP cT ad σ d) : zAJ cT 4 (σ 63) := h.2.2.2.2.2.2.2.2.2.2.2.2.2.2.2.2.2.2.2.2.2.2.1
theorem oRP.z64 {cT : Nat → ClassId} {ad : Nat → Nat} {σ : Nat → va_E} {d : oDP} (h : oRP cT ad σ d) : zL (σ 64) := h.2.2.2.2.2.2.2.2.2.2.2.2.2.2.2.2.2.2.2.2.2.2.2
def oRM (cT : Nat → ClassId) (ad : Nat → Nat) (σ : Nat → va_E) (z ms : Nat) (d : oDM) : Prop :=
  (∃ rf : Int, zM ad z ms rf (σ 65)) ∧ (σ 66 = oAI cT 120 d.T6) ∧ (σ 67 = oAI cT 171 d.f7) ∧ (zAI cT 171 (σ 68)) ∧ (σ 69 = oAI cT 2394 d.fd) ∧ (σ 70 = oAI cT 342 d.fk) ∧ (σ 71 = oAZ cT 2 d.kz) ∧ (zAN cT 41 (σ 72)) ∧ (zAI cT 201 (σ 73)) ∧ (zAI cT 201 (σ 74))
theorem oRM.z65 {cT : Nat → ClassId} {ad : Nat → Nat} {σ : Nat → va_E} {z ms : Nat} {d : oDM} (h : oRM cT ad σ z ms d) : ∃ rf : Int, zM ad z ms rf (σ 65) := h.1
theorem oRM.e66 {cT : Nat → ClassId} {ad : Nat → Nat} {σ : Nat → va_E} {z ms : Nat} {d : oDM} (h : oRM cT ad σ z ms d) : σ 66 = oAI cT 120 d.T6 := h.2.1
theorem oRM.e67 {cT : Nat → ClassId} {ad : Nat → Nat} {σ : Nat → va_E} {z ms : Nat} {d : oDM} (h : oRM cT ad σ z ms d) : σ 67 = oAI cT 171 d.f7 := h.2.2.1
theorem oRM.z68 {cT : Nat → ClassId} {ad : Nat → Nat} {σ : Nat → va_E} {z ms : Nat} {d : oDM} (h : oRM cT ad σ z ms d) : zAI cT 171 (σ 68) := h.2.2.2.1
theorem oRM.e69 {cT : Nat → ClassId} {ad : Nat → Nat} {σ : Nat → va_E} {z ms : Nat} {d : oDM} (h : oRM cT ad σ z ms d) : σ 69 = oAI cT 2394 d.fd := h.2.2.2.2.1
theorem oRM.e70 {cT : Nat → ClassId} {ad : Nat → Nat} {σ : Nat → va_E} {z ms : Nat} {d : oDM} (h : oRM cT ad σ z ms d) : σ 70 = oAI cT 342 d.fk := h.2.2.2.2.2.1
theorem oRM.e71 {cT : Nat → ClassId} {ad : Nat → Nat} {σ : Nat → va_E} {z ms : Nat} {d : oDM} (h : oRM cT ad σ z ms d) : σ 71 = oAZ cT 2 d.kz := h.2.2.2.2.2.2.1
theorem oRM.z72 {cT : Nat → ClassId} {ad : Nat → Nat} {σ : Nat → va_E} {z ms : Nat} {d : oDM} (h : oRM cT ad σ z ms d) : zAN cT 41 (σ 72) := h.2.2.2.2.2.2.2.1
theorem oRM.z73 {cT : Nat → ClassId} {ad : Nat → Nat} {σ : Nat → va_E} {z ms : Nat} {d : oDM} (h : oRM cT ad σ z ms d) : zAI cT 201 (σ 73) := h.2.2.2.2.2.2.2.2.1
theorem oRM.z74 {cT : Nat → ClassId} {ad : Nat → Nat} {σ : Nat → va_E} {z ms : Nat} {d : oDM} (h : oRM cT ad σ z ms d) : zAI cT 201 (σ 74) := h.2.2.2.2.2.2.2.2.2
/-- a state of the program's and its picture in the reference -/
def oPi (f : Nat → Int) (n a g : Nat) (sz w : Nat → Nat) : Prop := oWf n sz w ∧ oAg a g ∧ oRS f n a g sz w
def oLk (d : oDP) (e : oDM) : Prop :=
  (oPi e.f7 d.n d.a d.g d.sz d.w) ∧ (d.nx < 14) ∧ (d.ms ≤ 14) ∧ (∀ i : Nat, i < 14 → d.mn i ≤ 4) ∧ (∀ i : Nat, i < d.ms → oPi (fun k => e.fd (k + 171 * i)) (d.mn ((d.nx + 14 - d.ms + i) % 14)) (d.ma ((d.nx + 14 - d.ms + i) % 14)) (d.mg ((d.nx + 14 - d.ms + i) % 14)) (d.msz ((d.nx + 14 - d.ms + i) % 14)) (d.mw ((d.nx + 14 - d.ms + i) % 14))) ∧ (d.z ≤ 120) ∧ (∀ i : Nat, i < d.z → 0 ≤ d.T i ∧ d.T i ≤ 255) ∧ (e.T6 = d.T) ∧ (d.n7 ≤ 4) ∧ (d.n8 ≤ 4) ∧ (e.kz 0 = d.ff ∧ (d.ff = 0 ∨ (d.ff = 1 ∧ oPi (fun k => e.fk (k + 171 * 0)) d.n7 d.a7 d.g7 d.sz7 d.w7))) ∧ (e.kz 1 = d.sf ∧ (d.sf = 0 ∨ (d.sf = 1 ∧ oPi (fun k => e.fk (k + 171 * 1)) d.n8 d.a8 d.g8 d.sz8 d.w8)))
theorem oLk.now {d : oDP} {e : oDM} (h : oLk d e) : oPi e.f7 d.n d.a d.g d.sz d.w := h.1
theorem oLk.hnx {d : oDP} {e : oDM} (h : oLk d e) : d.nx < 14 := h.2.1
theorem oLk.hms {d : oDP} {e : oDM} (h : oLk d e) : d.ms ≤ 14 := h.2.2.1
theorem oLk.mn4 {d : oDP} {e : oDM} (h : oLk d e) : ∀ i : Nat, i < 14 → d.mn i ≤ 4 := h.2.2.2.1
theorem oLk.mem {d : oDP} {e : oDM} (h : oLk d e) : ∀ i : Nat, i < d.ms → oPi (fun k => e.fd (k + 171 * i)) (d.mn ((d.nx + 14 - d.ms + i) % 14)) (d.ma ((d.nx + 14 - d.ms + i) % 14)) (d.mg ((d.nx + 14 - d.ms + i) % 14)) (d.msz ((d.nx + 14 - d.ms + i) % 14)) (d.mw ((d.nx + 14 - d.ms + i) % 14)) := h.2.2.2.2.1
theorem oLk.hz {d : oDP} {e : oDM} (h : oLk d e) : d.z ≤ 120 := h.2.2.2.2.2.1
theorem oLk.hT {d : oDP} {e : oDM} (h : oLk d e) : ∀ i : Nat, i < d.z → 0 ≤ d.T i ∧ d.T i ≤ 255 := h.2.2.2.2.2.2.1
theorem oLk.hTT {d : oDP} {e : oDM} (h : oLk d e) : e.T6 = d.T := h.2.2.2.2.2.2.2.1
theorem oLk.n74 {d : oDP} {e : oDM} (h : oLk d e) : d.n7 ≤ 4 := h.2.2.2.2.2.2.2.2.1
theorem oLk.n84 {d : oDP} {e : oDM} (h : oLk d e) : d.n8 ≤ 4 := h.2.2.2.2.2.2.2.2.2.1
theorem oLk.k0 {d : oDP} {e : oDM} (h : oLk d e) : e.kz 0 = d.ff ∧ (d.ff = 0 ∨ (d.ff = 1 ∧ oPi (fun k => e.fk (k + 171 * 0)) d.n7 d.a7 d.g7 d.sz7 d.w7)) := h.2.2.2.2.2.2.2.2.2.2.1
theorem oLk.k1 {d : oDP} {e : oDM} (h : oLk d e) : e.kz 1 = d.sf ∧ (d.sf = 0 ∨ (d.sf = 1 ∧ oPi (fun k => e.fk (k + 171 * 1)) d.n8 d.a8 d.g8 d.sz8 d.w8)) := h.2.2.2.2.2.2.2.2.2.2.2
section OREL
variable {cT : Nat → ClassId} {ad : Nat → Nat} {σ σ1 : Nat → va_E} {d : oDP} {d9 : oDM}
theorem oRP.congr (h : oRP cT ad σ d) (e : ∀ q : Nat, q < 65 → σ1 q = σ q) : oRP cT ad σ1 d :=
  ⟨(e 0 (by decide)).trans h.eO, (e 1 (by decide)).trans h.e0, (e 2 (by decide)).trans h.e1, (e 3 (by decide)).trans h.e2, (e 7 (by decide)).trans h.f70, (e 8 (by decide)).trans h.f71, (e 9 (by decide)).trans h.f72, (e 10 (by decide)).trans h.f100, (e 11 (by decide)).trans h.f101, (e 12 (by decide)).trans h.f102, (e 13 (by decide)).trans h.eM, (e 14 (by decide)).trans h.eA, fun i hi => ⟨(e _ (by omega)).trans (h.hm i hi).1, (e _ (by omega)).trans (h.hm i hi).2.1, (e _ (by omega)).trans (h.hm i hi).2.2⟩, zc (e 57 (by decide)) h.z57, (e 58 (by decide)).trans h.e58, zc (e 4 (by decide)) h.z4, zc (e 5 (by decide)) h.z5, zc (e 6 (by decide)) h.z6, zc (e 59 (by decide)) h.z59, zc (e 60 (by decide)) h.z60, zc (e 61 (by decide)) h.z61, zc (e 62 (by decide)) h.z62, zc (e 63 (by decide)) h.z63, zc (e 64 (by decide)) h.z64⟩
theorem oRP.scr (h : oRP cT ad σ d) (e : ∀ q : Nat, q ≠ 4 → q ≠ 5 → q ≠ 6 → q ≠ 59 → q ≠ 60 → q ≠ 61 → q ≠ 62 → q ≠ 63 → q ≠ 64 → σ1 q = σ q) (hz4 : zS ad 4 (σ1 4)) (hz5 : zAN cT 4 (σ1 5)) (hz6 : zAJ cT 4 (σ1 6)) (hz59 : zR ad (σ1 59)) (hz60 : zAI cT 201 (σ1 60)) (hz61 : zAI cT 201 (σ1 61)) (hz62 : zAJ cT 4 (σ1 62)) (hz63 : zAJ cT 4 (σ1 63)) (hz64 : zL (σ1 64)) : oRP cT ad σ1 d :=
  ⟨(e 0 (by omega) (by omega) (by omega) (by omega) (by omega) (by omega) (by omega) (by omega) (by omega)).trans h.eO, (e 1 (by omega) (by omega) (by omega) (by omega) (by omega) (by omega) (by omega) (by omega) (by omega)).trans h.e0, (e 2 (by omega) (by omega) (by omega) (by omega) (by omega) (by omega) (by omega) (by omega) (by omega)).trans h.e1, (e 3 (by omega) (by omega) (by omega) (by omega) (by omega) (by omega) (by omega) (by omega) (by omega)).trans h.e2, (e 7 (by omega) (by omega) (by omega) (by omega) (by omega) (by omega) (by omega) (by omega) (by omega)).trans h.f70, (e 8 (by omega) (by omega) (by omega) (by omega) (by omega) (by omega) (by omega) (by omega) (by omega)).trans h.f71, (e 9 (by omega) (by omega) (by omega) (by omega) (by omega) (by omega) (by omega) (by omega) (by omega)).trans h.f72, (e 10 (by omega) (by omega) (by omega) (by omega) (by omega) (by omega) (by omega) (by omega) (by omega)).trans h.f100, (e 11 (by omega) (by omega) (by omega) (by omega) (by omega) (by omega) (by omega) (by omega) (by omega)).trans h.f101, (e 12 (by omega) (by omega) (by omega) (by omega) (by omega) (by omega) (by omega) (by omega) (by omega)).trans h.f102, (e 13 (by omega) (by omega) (by omega) (by omega) (by omega) (by omega) (by omega) (by omega) (by omega)).trans h.eM, (e 14 (by omega) (by omega) (by omega) (by omega) (by omega) (by omega) (by omega) (by omega) (by omega)).trans h.eA, fun i hi => ⟨(e _ (by omega) (by omega) (by omega) (by omega) (by omega) (by omega) (by omega) (by omega) (by omega)).trans (h.hm i hi).1, (e _ (by omega) (by omega) (by omega) (by omega) (by omega) (by omega) (by omega) (by omega) (by omega)).trans (h.hm i hi).2.1, (e _ (by omega) (by omega) (by omega) (by omega) (by omega) (by omega) (by omega) (by omega) (by omega)).trans (h.hm i hi).2.2⟩, zc (e 57 (by omega) (by omega) (by omega) (by omega) (by omega) (by omega) (by omega) (by omega) (by omega)) h.z57, (e 58 (by omega) (by omega) (by omega) (by omega) (by omega) (by omega) (by omega) (by omega) (by omega)).trans h.e58, hz4, hz5, hz6, hz59, hz60, hz61, hz62, hz63, hz64⟩
theorem oRM.congr {z ms : Nat} (h : oRM cT ad σ z ms d9) (e : ∀ q : Nat, 65 ≤ q → q ≠ 75 → σ1 q = σ q) : oRM cT ad σ1 z ms d9 :=
  ⟨zc (P := fun e9 => ∃ rf : Int, zM ad z ms rf e9) (e 65 (by decide) (by decide)) h.z65, (e 66 (by decide) (by decide)).trans h.e66, (e 67 (by decide) (by decide)).trans h.e67, zc (e 68 (by decide) (by decide)) h.z68, (e 69 (by decide) (by decide)).trans h.e69, (e 70 (by decide) (by decide)).trans h.e70, (e 71 (by decide) (by decide)).trans h.e71, zc (e 72 (by decide) (by decide)) h.z72, zc (e 73 (by decide) (by decide)) h.z73, zc (e 74 (by decide) (by decide)) h.z74⟩
/-- both sides, and how they hang together -/
def oRelC (cT : Nat → ClassId) (ad : Nat → Nat) (σ : Nat → va_E) : Prop := ∃ (d : oDP) (d9 : oDM), oRP cT ad σ d ∧ oRM cT ad σ d.z d.ms d9 ∧ oLk d d9
def oFin (cT : Nat → ClassId) (ad : Nat → Nat) (u u2 : Nat → va_E) : Prop := ∀ v : Nat → va_E, (∀ q : Nat, q < 65 → v q = u q) → (∀ q : Nat, 65 ≤ q → q ≠ 75 → v q = u2 q) → oRelC cT ad v
theorem oFin.mk {u u2 : Nat → va_E} (hP : oRP cT ad u d) (hM : oRM cT ad u2 d.z d.ms d9) (hL : oLk d d9) : oFin cT ad u u2 := fun _ h1 h2 => ⟨d, d9, hP.congr h1, hM.congr h2, hL⟩
def oQ5 (l : Launch) (D : va_G) (cT : Nat → ClassId) (ad : Nat → Nat) (b0 : Nat) (σ : Nat → va_E) (y : MethodName) (cc : ByteArray) (maxL : Nat) (As : List Value) (Ok : Int32 → (Nat → va_E) → Prop) (Ex : String → (Nat → va_E) → Prop) : Prop :=
  ∃ (post : Int32 → (Nat → va_E) → Prop) (px : String → (Nat → va_E) → Prop) (FR LO kc : Nat), oXi l D cT 76 ad b0 y cc maxL (some .int) FR LO kc As σ post px ∧ (FR ≤ 8 ∧ LO ≤ 141 ∧ kc ≤ 2) ∧ (∀ (r : Int32) (u : Nat → va_E), post r u → (∀ q : Nat, 65 ≤ q → u q = σ q) ∧ Ok r u) ∧ ∀ (E : String) (u : Nat → va_E), px E u → (∀ q : Nat, 65 ≤ q → u q = σ q) ∧ Ex E u
def oQ6 (l : Launch) (D : va_G) (cT : Nat → ClassId) (ad : Nat → Nat) (b0 : Nat) (σ : Nat → va_E) (y : MethodName) (cc : ByteArray) (maxL : Nat) (As : List Value) (An : Int32 → Int → (Nat → va_E) → Prop) : Prop :=
  ∃ (post : Int32 → (Nat → va_E) → Prop) (FR LO : Nat), oCi l D cT 76 ad b0 y cc maxL (some .int) FR LO As σ post ∧ (FR ≤ 8 ∧ LO ≤ 160) ∧ ∀ (r : Int32) (u : Nat → va_E), post r u → (∀ q : Nat, (q < 65 ∨ q = 75) → u q = σ q) ∧ ∃ (rf : Int) (z ms : Nat), zM ad z ms rf (u 65) ∧ (0 ≤ rf ∧ rf ≤ 2) ∧ An r rf u
/-- one command on both sides -/
def oKX (l : Launch) (D : va_G) (cT : Nat → ClassId) (ad : Nat → Nat) (b0 : Nat) (σ : Nat → va_E) (y5 : MethodName) (c5 : ByteArray) (m5 : Nat) (As5 : List Value) (y6 : MethodName) (c6 : ByteArray) (m6 : Nat) (As6 : List Value) (e1 e2 : String) : Prop :=
  ∃ (Ok : Int32 → (Nat → va_E) → Prop) (Ex : String → (Nat → va_E) → Prop), oQ5 l D cT ad b0 σ y5 c5 m5 As5 Ok Ex ∧ (∀ (E : String) (u : Nat → va_E), Ex E u → E = e1 ∨ E = e2) ∧
    (∀ (r : Int32) (u0 u : Nat → va_E), Ok r u0 → (∀ q : Nat, 65 ≤ q → q ≠ 75 → u q = σ q) → oQ6 l D cT ad b0 u y6 c6 m6 As6 (fun r6 rf u2 => rf = 0 ∧ r6 = r ∧ oFin cT ad u0 u2)) ∧
    ∀ (E : String) (u0 u : Nat → va_E), Ex E u0 → (∀ q : Nat, 65 ≤ q → q ≠ 75 → u q = σ q) → oQ6 l D cT ad b0 u y6 c6 m6 As6 (fun r6 rf u2 => rf = oN1 e1 E ∧ oFin cT ad u0 u2)
theorem n1_1 {a : String} : (1 : Int) = oN1 a a := by unfold oN1; rw [if_pos rfl]
theorem n1_2 : (2 : Int) = oN1 oIO oIA := by unfold oN1; rw [if_neg (by decide)]
theorem n1_3 : (2 : Int) = oN1 oIO oIS := by unfold oN1; rw [if_neg (by decide)]
theorem n1_4 : (2 : Int) = oN1 oIA oIS := by unfold oN1; rw [if_neg (by decide)]
theorem oRS_f {f f2 : Nat → Int} {n a g : Nat} {sz w : Nat → Nat} (h : oRS f n a g sz w) (hn : n ≤ 4) (e : ∀ k : Nat, k < 171 → f2 k = f k) : oRS f2 n a g sz w :=
  ⟨(e 0 (by decide)).trans h.1, (e 1 (by decide)).trans h.2.1, (e 2 (by decide)).trans h.2.2.1, fun r hr => ⟨(e _ (by omega)).trans (h.2.2.2 r hr).1, fun p hp => (e _ (by omega)).trans ((h.2.2.2 r hr).2 p hp)⟩⟩
theorem oPi.f {f f2 : Nat → Int} {n a g : Nat} {sz w : Nat → Nat} (h : oPi f n a g sz w) (e : ∀ k : Nat, k < 171 → f2 k = f k) : oPi f2 n a g sz w := ⟨h.1, h.2.1, oRS_f h.2.2 h.1.1 e⟩
theorem oPi.eq {f : Nat → Int} {n a g : Nat} {sz w sz2 w2 : Nat → Nat} (h : oPi f n a g sz w) (e : ∀ r : Nat, r < n → sz2 r = sz r ∧ w2 r = w r) : oPi f n a g sz2 w2 := ⟨h.1.congr e, h.2.1, oRS_eq h.2.2 e⟩
end OREL
