/-! ===== Long.bitCount: how many bits are set ===== -/
theorem bc_and {k a b c e : Nat} (hb : b < 2 ^ k) (he : e < 2 ^ k) : (2 ^ k * a + b) &&& (2 ^ k * c + e) = 2 ^ k * (a &&& c) + (b &&& e) := by
  apply Nat.eq_of_testBit_eq
  intro i
  have h : b &&& e < 2 ^ k := Nat.lt_of_le_of_lt Nat.and_le_left hb
  rw [Nat.testBit_and, Nat.testBit_two_pow_mul_add _ hb, Nat.testBit_two_pow_mul_add _ he, Nat.testBit_two_pow_mul_add _ h]
  split
  · rw [Nat.testBit_and]
  · rw [Nat.testBit_and]
def bcM2 : Nat → Nat | 0 => 0 | n + 1 => 4 * bcM2 n + 1
def bcM4 : Nat → Nat | 0 => 0 | n + 1 => 16 * bcM4 n + 3
def bcM8 : Nat → Nat | 0 => 0 | n + 1 => 256 * bcM8 n + 15
def bcF2 : Nat → Nat → Nat | 0, _ => 0 | n + 1, x => 4 * bcF2 n (x / 4) + (x % 2 + x / 2 % 2)
def bcF4 : Nat → Nat → Nat | 0, _ => 0 | n + 1, x => 16 * bcF4 n (x / 16) + (x % 2 + x / 2 % 2 + (x / 4 % 2 + x / 8 % 2))
def bcF8 : Nat → Nat → Nat | 0, _ => 0 | n + 1, x => 256 * bcF8 n (x / 256) + (x % 2 + x / 2 % 2 + (x / 4 % 2 + x / 8 % 2) + (x / 16 % 2 + x / 32 % 2 + (x / 64 % 2 + x / 128 % 2)))
theorem bc_2 : ∀ (n x : Nat), x < 4 ^ n → (x / 2 &&& bcM2 n) ≤ x ∧ x - (x / 2 &&& bcM2 n) = bcF2 n x
  | 0, x, h => by simp only [Nat.pow_zero] at h; have : x = 0 := by omega
                  subst this; decide
  | n + 1, x, h => by
    rw [Nat.pow_succ] at h
    obtain ⟨h1, h2⟩ := bc_2 n (x / 4) (by omega)
    have e : (x / 2 &&& bcM2 (n + 1)) = 4 * (x / 4 / 2 &&& bcM2 n) + x / 2 % 2 := by
      have a := bc_and (k := 2) (a := x / 4 / 2) (b := x / 2 % 4) (c := bcM2 n) (e := 1) (by omega) (by decide)
      have b : x / 2 % 4 &&& 1 = x / 2 % 2 := by rw [Nat.and_one_is_mod]; omega
      rw [b] at a
      rw [show x / 2 = 2 ^ 2 * (x / 4 / 2) + x / 2 % 4 by omega, show bcM2 (n + 1) = 2 ^ 2 * bcM2 n + 1 from rfl, a]
      omega
    rw [e]
    refine ⟨by omega, ?_⟩
    show _ = 4 * bcF2 n (x / 4) + (x % 2 + x / 2 % 2)
    omega
theorem bc_4 : ∀ (n x : Nat), (bcF2 (2 * n) x &&& bcM4 n) + (bcF2 (2 * n) x / 4 &&& bcM4 n) = bcF4 n x
  | 0, x => rfl
  | n + 1, x => by
    have ih := bc_4 n (x / 16)
    have e : bcF2 (2 * (n + 1)) x = 16 * bcF2 (2 * n) (x / 16) + (4 * (x / 4 % 2 + x / 8 % 2) + (x % 2 + x / 2 % 2)) := by
      show 4 * (4 * bcF2 (2 * n) (x / 4 / 4) + (x / 4 % 2 + x / 4 / 2 % 2)) + (x % 2 + x / 2 % 2) = _
      rw [show x / 4 / 4 = x / 16 by omega, show x / 4 / 2 = x / 8 by omega]
      omega
    generalize bcF2 (2 * n) (x / 16) = y at ih e
    have a1 := bc_and (k := 4) (a := y) (b := 4 * (x / 4 % 2 + x / 8 % 2) + (x % 2 + x / 2 % 2)) (c := bcM4 n) (e := 3) (by omega) (by decide)
    have a2 := bc_and (k := 4) (a := y / 4) (b := 4 * (y % 4) + (x / 4 % 2 + x / 8 % 2)) (c := bcM4 n) (e := 3) (by omega) (by decide)
    have m3 : ∀ z : Nat, z &&& 3 = z % 4 := fun z => Nat.and_two_pow_sub_one_eq_mod z 2
    rw [m3] at a1 a2
    have a1' : (16 * y + (4 * (x / 4 % 2 + x / 8 % 2) + (x % 2 + x / 2 % 2))) &&& bcM4 (n + 1) = 16 * (y &&& bcM4 n) + (4 * (x / 4 % 2 + x / 8 % 2) + (x % 2 + x / 2 % 2)) % 4 := a1
    have a2' : (16 * (y / 4) + (4 * (y % 4) + (x / 4 % 2 + x / 8 % 2))) &&& bcM4 (n + 1) = 16 * (y / 4 &&& bcM4 n) + (4 * (y % 4) + (x / 4 % 2 + x / 8 % 2)) % 4 := a2
    rw [e, a1', show (16 * y + (4 * (x / 4 % 2 + x / 8 % 2) + (x % 2 + x / 2 % 2))) / 4 = 16 * (y / 4) + (4 * (y % 4) + (x / 4 % 2 + x / 8 % 2)) by omega, a2']
    show _ = 16 * bcF4 n (x / 16) + (x % 2 + x / 2 % 2 + (x / 4 % 2 + x / 8 % 2))
    omega
theorem bc_4m (n x : Nat) : bcF4 n x % 16 ≤ 4 := by
  cases n with
  | zero => exact Nat.zero_le _
  | succ n =>
    show (16 * bcF4 n (x / 16) + (x % 2 + x / 2 % 2 + (x / 4 % 2 + x / 8 % 2))) % 16 ≤ 4
    omega
theorem bc_8 : ∀ (n x : Nat), (bcF4 (2 * n) x + bcF4 (2 * n) x / 16 &&& bcM8 n) = bcF8 n x
  | 0, x => rfl
  | n + 1, x => by
    have ih := bc_8 n (x / 256)
    have hm := bc_4m (2 * n) (x / 256)
    have e : bcF4 (2 * (n + 1)) x = 256 * bcF4 (2 * n) (x / 256) + (16 * (x / 16 % 2 + x / 32 % 2 + (x / 64 % 2 + x / 128 % 2)) + (x % 2 + x / 2 % 2 + (x / 4 % 2 + x / 8 % 2))) := by
      show 16 * (16 * bcF4 (2 * n) (x / 16 / 16) + (x / 16 % 2 + x / 16 / 2 % 2 + (x / 16 / 4 % 2 + x / 16 / 8 % 2))) + (x % 2 + x / 2 % 2 + (x / 4 % 2 + x / 8 % 2)) = _
      rw [show x / 16 / 16 = x / 256 by omega, show x / 16 / 2 = x / 32 by omega, show x / 16 / 4 = x / 64 by omega, show x / 16 / 8 = x / 128 by omega]
      omega
    generalize bcF4 (2 * n) (x / 256) = y at ih e hm
    obtain ⟨c0, h0⟩ : ∃ c0, c0 = x % 2 + x / 2 % 2 + (x / 4 % 2 + x / 8 % 2) := ⟨_, rfl⟩
    obtain ⟨c1, h1⟩ : ∃ c1, c1 = x / 16 % 2 + x / 32 % 2 + (x / 64 % 2 + x / 128 % 2) := ⟨_, rfl⟩
    have b0 : c0 ≤ 4 := by omega
    have b1 : c1 ≤ 4 := by omega
    rw [e, ← h0, ← h1]
    show _ = 256 * bcF8 n (x / 256) + _
    rw [← h0, ← h1]
    have a1 := bc_and (k := 8) (a := y + y / 16) (b := 16 * (c1 + y % 16) + (c0 + c1)) (c := bcM8 n) (e := 15) (by omega) (by decide)
    rw [show (16 * (c1 + y % 16) + (c0 + c1)) &&& 15 = (16 * (c1 + y % 16) + (c0 + c1)) % 16 from Nat.and_two_pow_sub_one_eq_mod _ 4] at a1
    have a1' : (256 * (y + y / 16) + (16 * (c1 + y % 16) + (c0 + c1))) &&& bcM8 (n + 1) = 256 * (y + y / 16 &&& bcM8 n) + (16 * (c1 + y % 16) + (c0 + c1)) % 16 := a1
    rw [show 256 * y + (16 * c1 + c0) + (256 * y + (16 * c1 + c0)) / 16 = 256 * (y + y / 16) + (16 * (c1 + y % 16) + (c0 + c1)) by omega, a1', ih]
    omega
theorem bc_tb (x k : Nat) : (if x.testBit k = true then 1 else 0) = x / 2 ^ k % 2 := by
  rw [Nat.testBit_eq_decide_div_mod_eq]
  have := Nat.mod_two_eq_zero_or_one (x / 2 ^ k)
  rcases this with h | h <;> simp [h]
theorem bc_ct8 (x n : Nat) : fb_ct (fun k => x.testBit k) (8 + n) = (x % 2 + x / 2 % 2 + (x / 4 % 2 + x / 8 % 2) + (x / 16 % 2 + x / 32 % 2 + (x / 64 % 2 + x / 128 % 2))) + fb_ct (fun k => (x / 256).testBit k) n := by
  rw [fb_ct_split]
  have e : (fun k => x.testBit (8 + k)) = fun k => (x / 256).testBit k := by
    funext k
    rw [show (256 : Nat) = 2 ^ 8 from rfl, Nat.testBit_div_two_pow]
  rw [e]
  congr 1
  simp only [fb_ct, bc_tb]
  omega
theorem bc_F8 : ∀ (n x : Nat), ∃ l : List Nat, l.length = n ∧ (∀ b ∈ l, b ≤ 8) ∧ bcF8 n x = l.foldr (fun b r => 256 * r + b) 0 ∧ fb_ct (fun k => x.testBit k) (8 * n) = l.sum
  | 0, x => ⟨[], rfl, fun _ h => absurd h List.not_mem_nil, rfl, rfl⟩
  | n + 1, x => by
    obtain ⟨l, h1, h2, h3, h4⟩ := bc_F8 n (x / 256)
    refine ⟨(x % 2 + x / 2 % 2 + (x / 4 % 2 + x / 8 % 2) + (x / 16 % 2 + x / 32 % 2 + (x / 64 % 2 + x / 128 % 2))) :: l, by simp [h1], ?_, ?_, ?_⟩
    · intro b hb
      rcases List.mem_cons.mp hb with rfl | hb
      · omega
      · exact h2 b hb
    · show 256 * bcF8 n (x / 256) + _ = _
      rw [h3]
      rfl
    · rw [show 8 * (n + 1) = 8 + 8 * n by omega, bc_ct8, h4]
      simp
def bc1 (w : Nat) : Nat := w - (w / 2 ^ 1 &&& 6148914691236517205)
def bc2 (w : Nat) : Nat := (bc1 w &&& 3689348814741910323) + (bc1 w / 2 ^ 2 &&& 3689348814741910323)
def bc3 (w : Nat) : Nat := bc2 w + bc2 w / 2 ^ 4 &&& 1085102592571150095
def bc4 (w : Nat) : Nat := bc3 w + bc3 w / 2 ^ 8
def bc5 (w : Nat) : Nat := bc4 w + bc4 w / 2 ^ 16
def bc6 (w : Nat) : Nat := bc5 w + bc5 w / 2 ^ 32
theorem bc_le {w : Nat} (h : w < 2 ^ 64) : (w / 2 ^ 1 &&& 6148914691236517205) ≤ w := (bc_2 32 w h).1
theorem bc_1lt {w : Nat} (h : w < 2 ^ 64) : bc1 w < 2 ^ 64 := Nat.lt_of_le_of_lt (Nat.sub_le _ _) h
theorem bc_e2 {w : Nat} (h : w < 2 ^ 64) : bc2 w = bcF4 16 w := by
  have e1 : bc1 w = bcF2 32 w := (bc_2 32 w h).2
  unfold bc2
  rw [e1]
  exact bc_4 16 w
theorem bc_F4lt : ∀ n x : Nat, bcF4 n x < 16 ^ n
  | 0, x => by show 0 < 1; decide
  | n + 1, x => by
    have := bc_F4lt n (x / 16)
    show 16 * bcF4 n (x / 16) + (x % 2 + x / 2 % 2 + (x / 4 % 2 + x / 8 % 2)) < _
    rw [Nat.pow_succ]
    omega
theorem bc_2lt {w : Nat} (h : w < 2 ^ 64) : bc2 w < 2 ^ 64 := by rw [bc_e2 h]; exact bc_F4lt 16 w
theorem bc_e3 {w : Nat} (h : w < 2 ^ 64) : bc3 w = bcF8 8 w := by
  unfold bc3
  rw [bc_e2 h]
  exact bc_8 8 w
theorem bc_F8lt : ∀ n x : Nat, bcF8 n x ≤ 8 * bcM2 (4 * n) := by
  intro n
  induction n with
  | zero => intro x; exact Nat.zero_le _
  | succ n ih =>
    intro x
    have := ih (x / 256)
    show 256 * bcF8 n (x / 256) + _ ≤ 8 * (4 * (4 * (4 * (4 * bcM2 (4 * n) + 1) + 1) + 1) + 1)
    omega
theorem bc_all {w : Nat} (h : w < 2 ^ 64) : bc3 w < 2 ^ 60 ∧ bc4 w < 2 ^ 61 ∧ bc5 w < 2 ^ 62 ∧ bc6 w < 2 ^ 63 ∧ bc6 w % 128 = pcnt w := by
  obtain ⟨l, h1, h2, h3, h4⟩ := bc_F8 8 w
  rw [← bc_e3 h] at h3
  match l, h1 with
  | [b0, b1, b2, b3, b4, b5, b6, b7], _ =>
    have k0 := h2 b0 (by simp)
    have k1 := h2 b1 (by simp)
    have k2 := h2 b2 (by simp)
    have k3 := h2 b3 (by simp)
    have k4 := h2 b4 (by simp)
    have k5 := h2 b5 (by simp)
    have k6 := h2 b6 (by simp)
    have k7 := h2 b7 (by simp)
    have hp : pcnt w = b0 + (b1 + (b2 + (b3 + (b4 + (b5 + (b6 + (b7 + 0))))))) := h4
    have e3 : bc3 w = 256 * (256 * (256 * (256 * (256 * (256 * (256 * (256 * 0 + b7) + b6) + b5) + b4) + b3) + b2) + b1) + b0 := h3
    have e4 : bc4 w = 256 * (256 * (256 * (256 * (256 * (256 * (256 * b7 + (b6 + b7)) + (b5 + b6)) + (b4 + b5)) + (b3 + b4)) + (b2 + b3)) + (b1 + b2)) + (b0 + b1) := by
      unfold bc4
      rw [e3]
      omega
    have e5 : bc5 w = 256 * (256 * (256 * (256 * (256 * (256 * (256 * b7 + (b6 + b7)) + (b5 + b6 + b7)) + (b4 + b5 + (b6 + b7))) + (b3 + b4 + (b5 + b6))) + (b2 + b3 + (b4 + b5))) + (b1 + b2 + (b3 + b4))) + (b0 + b1 + (b2 + b3)) := by
      unfold bc5
      rw [e4]
      omega
    have e6 : bc6 w % 128 = (b0 + b1 + (b2 + b3)) + (b4 + b5 + (b6 + b7)) := by
      unfold bc6
      rw [e5]
      omega
    refine ⟨by rw [e3]; omega, by rw [e4]; omega, by rw [e5]; omega, ?_, by rw [e6, hp]; omega⟩
    unfold bc6
    rw [e5]
    omega
