/-! ===== Long.bitCount: how many bits are set ===== -/
theorem bc_and {k a b c e : Nat} (hb : b < 2 ^ k) (he : e < 2 ^ k) : (2 ^ k * a + b) &&& (2 ^ k * c + e) = 2 ^ k * (a &&& c) + (b &&& e) := by
  apply Nat.eq_of_testBit_eq
  intro i
  have h : b &&& e < 2 ^ k := Nat.lt_of_le_of_lt Nat.and_le_left hb
  rw [Nat.testBit_and, Nat.testBit_two_pow_mul_add _ hb, Nat.testBit_two_pow_mul_add _ he, Nat.testBit_two_pow_mul_add _ h]
  split
  · rw [Nat.testBit_and]
  · rw [Nat.testBit_and]
def bcM2 : Nat → Nat | 0 => 0 | n + 1 => 4 * bcM2 n + 1
def bcM4 : Nat → Nat | 0 => 0 | n + 1 => 16 * bcM4 n + 3
def bcM8 : Nat → Nat | 0 => 0 | n + 1 => 256 * bcM8 n + 15
def bcD (x : Nat) : Nat := x % 2 + x / 2 % 2
theorem bcD_le (x : Nat) : bcD x ≤ 2 := by unfold bcD; omega
def bcF2 : Nat → Nat → Nat | 0, _ => 0 | n + 1, x => 4 * bcF2 n (x / 4) + bcD x
def bcF4 : Nat → Nat → Nat | 0, _ => 0 | n + 1, x => 16 * bcF4 n (x / 16) + (bcD x + bcD (x / 4))
def bcF8 : Nat → Nat → Nat | 0, _ => 0 | n + 1, x => 256 * bcF8 n (x / 256) + ((bcD x + bcD (x / 4)) + (bcD (x / 16) + bcD (x / 64)))
theorem bc_m3 (a c b : Nat) (hb : b < 4) : (4 * a + b) &&& (4 * c + 1) = 4 * (a &&& c) + b % 2 := by
  have h := bc_and (k := 2) (a := a) (b := b) (c := c) (e := 1) hb (by decide)
  rw [Nat.and_one_is_mod] at h
  exact h
theorem bc_m15 (a c b : Nat) (hb : b < 16) : (16 * a + b) &&& (16 * c + 3) = 16 * (a &&& c) + b % 4 := by
  have h := bc_and (k := 4) (a := a) (b := b) (c := c) (e := 3) hb (by decide)
  rw [show b &&& 3 = b % 4 from Nat.and_two_pow_sub_one_eq_mod b 2] at h
  exact h
theorem bc_m255 (a c b : Nat) (hb : b < 256) : (256 * a + b) &&& (256 * c + 15) = 256 * (a &&& c) + b % 16 := by
  have h := bc_and (k := 8) (a := a) (b := b) (c := c) (e := 15) hb (by decide)
  rw [show b &&& 15 = b % 16 from Nat.and_two_pow_sub_one_eq_mod b 4] at h
  exact h
theorem bc_2 : ∀ (n x : Nat), x < 4 ^ n → (x / 2 &&& bcM2 n) ≤ x ∧ x - (x / 2 &&& bcM2 n) = bcF2 n x
  | 0, x, h => by
    rw [Nat.pow_zero] at h
    have h0 : x = 0 := by omega
    rw [h0]
    decide
  | n + 1, x, h => by
    rw [Nat.pow_succ] at h
    obtain ⟨h1, h2⟩ := bc_2 n (x / 4) (by omega)
    have e : (x / 2 &&& bcM2 (n + 1)) = 4 * (x / 4 / 2 &&& bcM2 n) + x / 2 % 2 := by
      have a := bc_m3 (x / 4 / 2) (bcM2 n) (x / 2 % 4) (by omega)
      rw [show 4 * (x / 4 / 2) + x / 2 % 4 = x / 2 by omega, show x / 2 % 4 % 2 = x / 2 % 2 by omega] at a
      exact a
    rw [e]
    generalize (x / 4 / 2 &&& bcM2 n) = g at h1 h2
    refine ⟨by omega, ?_⟩
    show _ = 4 * bcF2 n (x / 4) + bcD x
    unfold bcD
    rw [← h2]
    omega
theorem bc_div (x a b : Nat) : x / a / b = x / (a * b) := Nat.div_div_eq_div_mul x a b
theorem bc_4 : ∀ (n x : Nat), (bcF2 (2 * n) x &&& bcM4 n) + (bcF2 (2 * n) x / 4 &&& bcM4 n) = bcF4 n x
  | 0, x => by simp [bcF4, bcM4]
  | n + 1, x => by
    have ih := bc_4 n (x / 16)
    have e : bcF2 (2 * (n + 1)) x = 4 * (4 * bcF2 (2 * n) (x / 4 / 4) + bcD (x / 4)) + bcD x := rfl
    rw [bc_div, show 4 * 4 = 16 from rfl] at e
    have k0 := bcD_le x
    have k1 := bcD_le (x / 4)
    show _ = 16 * bcF4 n (x / 16) + (bcD x + bcD (x / 4))
    rw [e, ← ih]
    generalize bcD x = d0 at k0 ⊢
    generalize bcD (x / 4) = d1 at k1 ⊢
    generalize bcF2 (2 * n) (x / 16) = y
    have a1 := bc_m15 y (bcM4 n) (4 * d1 + d0) (by omega)
    have a2 := bc_m15 (y / 4) (bcM4 n) (4 * (y % 4) + d1) (by omega)
    rw [show 16 * y + (4 * d1 + d0) = 4 * (4 * y + d1) + d0 by omega] at a1
    rw [show 16 * (y / 4) + (4 * (y % 4) + d1) = (4 * (4 * y + d1) + d0) / 4 by omega] at a2
    rw [show (4 * d1 + d0) % 4 = d0 by omega] at a1
    rw [show (4 * (y % 4) + d1) % 4 = d1 by omega] at a2
    rw [show bcM4 (n + 1) = 16 * bcM4 n + 3 from rfl, a1, a2]
    omega
theorem bc_4m (n x : Nat) : bcF4 n x % 16 ≤ 4 := by
  cases n with
  | zero => exact Nat.zero_le _
  | succ n =>
    have k0 := bcD_le x
    have k1 := bcD_le (x / 4)
    show (16 * bcF4 n (x / 16) + (bcD x + bcD (x / 4))) % 16 ≤ 4
    omega
theorem bc_8 : ∀ (n x : Nat), (bcF4 (2 * n) x + bcF4 (2 * n) x / 16 &&& bcM8 n) = bcF8 n x
  | 0, x => by simp [bcF8, bcM8]
  | n + 1, x => by
    have ih := bc_8 n (x / 256)
    have hm := bc_4m (2 * n) (x / 256)
    have e : bcF4 (2 * (n + 1)) x = 16 * (16 * bcF4 (2 * n) (x / 16 / 16) + (bcD (x / 16) + bcD (x / 16 / 4))) + (bcD x + bcD (x / 4)) := rfl
    rw [bc_div, bc_div, show 16 * 16 = 256 from rfl, show 16 * 4 = 64 from rfl] at e
    have k0 := bcD_le x
    have k1 := bcD_le (x / 4)
    have k2 := bcD_le (x / 16)
    have k3 := bcD_le (x / 64)
    show _ = 256 * bcF8 n (x / 256) + ((bcD x + bcD (x / 4)) + (bcD (x / 16) + bcD (x / 64)))
    rw [e, ← ih]
    obtain ⟨c0, h0⟩ : ∃ c0, c0 = bcD x + bcD (x / 4) := ⟨_, rfl⟩
    obtain ⟨c1, h1⟩ : ∃ c1, c1 = bcD (x / 16) + bcD (x / 64) := ⟨_, rfl⟩
    have b0 : c0 ≤ 4 := by omega
    have b1 : c1 ≤ 4 := by omega
    rw [← h0, ← h1]
    clear h0 h1 k0 k1 k2 k3 e ih
    generalize bcF4 (2 * n) (x / 256) = y at hm ⊢
    have a1 := bc_m255 (y + y / 16) (bcM8 n) (16 * (c1 + y % 16) + (c0 + c1)) (by omega)
    rw [show 256 * (y + y / 16) + (16 * (c1 + y % 16) + (c0 + c1)) = 16 * (16 * y + c1) + c0 + (16 * (16 * y + c1) + c0) / 16 by omega, show (16 * (c1 + y % 16) + (c0 + c1)) % 16 = c0 + c1 by omega] at a1
    rw [show bcM8 (n + 1) = 256 * bcM8 n + 15 from rfl, a1]
theorem bc_tb (x k : Nat) : (if x.testBit k = true then 1 else 0) = x / 2 ^ k % 2 := by
  rw [Nat.testBit_eq_decide_div_mod_eq]
  have := Nat.mod_two_eq_zero_or_one (x / 2 ^ k)
  rcases this with h | h <;> simp [h]
theorem bc_ct2 (x n : Nat) : fb_ct (fun k => x.testBit k) (2 + n) = bcD x + fb_ct (fun k => (x / 4).testBit k) n := by
  rw [fb_ct_split]
  have e : (fun k => x.testBit (2 + k)) = fun k => (x / 4).testBit k := by
    funext k
    rw [show (4 : Nat) = 2 ^ 2 from rfl, Nat.testBit_div_two_pow, Nat.add_comm]
  rw [e]
  congr 1
  have h0 := bc_tb x 0
  have h1 := bc_tb x 1
  rw [Nat.pow_zero, Nat.div_one] at h0
  rw [Nat.pow_one] at h1
  show (0 + (if x.testBit 0 = true then 1 else 0)) + (if x.testBit 1 = true then 1 else 0) = bcD x
  rw [h0, h1]
  unfold bcD
  omega
theorem bc_ct8 (x n : Nat) : fb_ct (fun k => x.testBit k) (8 + n) = ((bcD x + bcD (x / 4)) + (bcD (x / 16) + bcD (x / 64))) + fb_ct (fun k => (x / 256).testBit k) n := by
  rw [show 8 + n = 2 + (2 + (2 + (2 + n))) by omega, bc_ct2, bc_ct2, bc_ct2, bc_ct2, bc_div, bc_div, bc_div, show 4 * 4 = 16 from rfl, show 16 * 4 = 64 from rfl, show 64 * 4 = 256 from rfl]
  omega
theorem bc_F8 : ∀ (n x : Nat), ∃ l : List Nat, l.length = n ∧ (∀ b ∈ l, b ≤ 8) ∧ bcF8 n x = l.foldr (fun b r => 256 * r + b) 0 ∧ fb_ct (fun k => x.testBit k) (8 * n) = l.sum
  | 0, x => ⟨[], rfl, fun _ h => absurd h List.not_mem_nil, rfl, rfl⟩
  | n + 1, x => by
    obtain ⟨l, h1, h2, h3, h4⟩ := bc_F8 n (x / 256)
    have k0 := bcD_le x
    have k1 := bcD_le (x / 4)
    have k2 := bcD_le (x / 16)
    have k3 := bcD_le (x / 64)
    refine ⟨((bcD x + bcD (x / 4)) + (bcD (x / 16) + bcD (x / 64))) :: l, by simp [h1], ?_, ?_, ?_⟩
    · intro b hb
      rcases List.mem_cons.mp hb with rfl | hb
      · omega
      · exact h2 b hb
    · show 256 * bcF8 n (x / 256) + _ = _
      rw [h3]
      rfl
    · rw [show 8 * (n + 1) = 8 + 8 * n by omega, bc_ct8, h4]
      simp
def bc1 (w : Nat) : Nat := w - (w / 2 ^ 1 &&& 6148914691236517205)
def bc2 (w : Nat) : Nat := (bc1 w &&& 3689348814741910323) + (bc1 w / 2 ^ 2 &&& 3689348814741910323)
def bc3 (w : Nat) : Nat := bc2 w + bc2 w / 2 ^ 4 &&& 1085102592571150095
def bc4 (w : Nat) : Nat := bc3 w + bc3 w / 2 ^ 8
def bc5 (w : Nat) : Nat := bc4 w + bc4 w / 2 ^ 16
def bc6 (w : Nat) : Nat := bc5 w + bc5 w / 2 ^ 32
theorem bc_m2 : bcM2 32 = 6148914691236517205 := by decide +kernel
theorem bc_m4 : bcM4 16 = 3689348814741910323 := by decide +kernel
theorem bc_m8 : bcM8 8 = 1085102592571150095 := by decide +kernel
theorem bc_p4 : (4 : Nat) ^ 32 = 2 ^ 64 := by decide +kernel
theorem bc_p16 : (16 : Nat) ^ 16 = 2 ^ 64 := by decide +kernel
theorem bc_2w {w : Nat} (h : w < 2 ^ 64) : (w / 2 ^ 1 &&& 6148914691236517205) ≤ w ∧ bc1 w = bcF2 32 w := by
  have k := bc_2 32 w (by rw [bc_p4]; exact h)
  unfold bc1
  rw [Nat.pow_one, ← bc_m2]
  exact k
theorem bc_le {w : Nat} (h : w < 2 ^ 64) : (w / 2 ^ 1 &&& 6148914691236517205) ≤ w := (bc_2w h).1
theorem bc_1lt {w : Nat} (h : w < 2 ^ 64) : bc1 w < 2 ^ 64 := Nat.lt_of_le_of_lt (Nat.sub_le _ _) h
theorem bc_e2 {w : Nat} (h : w < 2 ^ 64) : bc2 w = bcF4 16 w := by
  unfold bc2
  rw [(bc_2w h).2, ← bc_m4]
  exact bc_4 16 w
theorem bc_F4lt : ∀ n x : Nat, bcF4 n x < 16 ^ n
  | 0, x => by show 0 < 1; decide
  | n + 1, x => by
    have := bc_F4lt n (x / 16)
    have k0 := bcD_le x
    have k1 := bcD_le (x / 4)
    show 16 * bcF4 n (x / 16) + (bcD x + bcD (x / 4)) < _
    rw [Nat.pow_succ]
    omega
theorem bc_2lt {w : Nat} (h : w < 2 ^ 64) : bc2 w < 2 ^ 64 := by rw [bc_e2 h, ← bc_p16]; exact bc_F4lt 16 w
theorem bc_e3 {w : Nat} (h : w < 2 ^ 64) : bc3 w = bcF8 8 w := by
  unfold bc3
  rw [bc_e2 h, ← bc_m8]
  exact bc_8 8 w
theorem bc_h4 {b0 b1 b2 b3 b4 b5 b6 b7 z : Nat} (k0 : b0 ≤ 8) (k1 : b1 ≤ 8) (k2 : b2 ≤ 8) (k3 : b3 ≤ 8) (k4 : b4 ≤ 8) (k5 : b5 ≤ 8) (k6 : b6 ≤ 8) (k7 : b7 ≤ 8) (e : z = 256 * (256 * (256 * (256 * (256 * (256 * (256 * (256 * 0 + b7) + b6) + b5) + b4) + b3) + b2) + b1) + b0) :
    z + z / 2 ^ 8 = 256 * (256 * (256 * (256 * (256 * (256 * (256 * b7 + (b6 + b7)) + (b5 + b6)) + (b4 + b5)) + (b3 + b4)) + (b2 + b3)) + (b1 + b2)) + (b0 + b1) := by
  rw [e]
  omega
theorem bc_h5 {b0 b1 b2 b3 b4 b5 b6 b7 z : Nat} (k0 : b0 ≤ 8) (k1 : b1 ≤ 8) (k2 : b2 ≤ 8) (k3 : b3 ≤ 8) (k4 : b4 ≤ 8) (k5 : b5 ≤ 8) (k6 : b6 ≤ 8) (k7 : b7 ≤ 8) (e : z = 256 * (256 * (256 * (256 * (256 * (256 * (256 * b7 + (b6 + b7)) + (b5 + b6)) + (b4 + b5)) + (b3 + b4)) + (b2 + b3)) + (b1 + b2)) + (b0 + b1)) :
    z + z / 2 ^ 16 = 256 * (256 * (256 * (256 * (256 * (256 * (256 * b7 + (b6 + b7)) + (b5 + b6 + b7)) + (b4 + b5 + (b6 + b7))) + (b3 + b4 + (b5 + b6))) + (b2 + b3 + (b4 + b5))) + (b1 + b2 + (b3 + b4))) + (b0 + b1 + (b2 + b3)) := by
  rw [e]
  omega
theorem bc_h6 {b0 b1 b2 b3 b4 b5 b6 b7 z : Nat} (k0 : b0 ≤ 8) (k1 : b1 ≤ 8) (k2 : b2 ≤ 8) (k3 : b3 ≤ 8) (k4 : b4 ≤ 8) (k5 : b5 ≤ 8) (k6 : b6 ≤ 8) (k7 : b7 ≤ 8) (e : z = 256 * (256 * (256 * (256 * (256 * (256 * (256 * b7 + (b6 + b7)) + (b5 + b6 + b7)) + (b4 + b5 + (b6 + b7))) + (b3 + b4 + (b5 + b6))) + (b2 + b3 + (b4 + b5))) + (b1 + b2 + (b3 + b4))) + (b0 + b1 + (b2 + b3))) :
    ∃ A B : Nat, z + z / 2 ^ 32 = 128 * A + (b0 + b1 + (b2 + b3)) + (128 * B + (b4 + b5 + (b6 + b7))) ∧ z = 128 * A + (b0 + b1 + (b2 + b3)) ∧ z / 2 ^ 32 = 128 * B + (b4 + b5 + (b6 + b7)) := by
  obtain ⟨lo, hlo⟩ : ∃ lo, lo = 256 * (256 * (256 * (b3 + b4 + (b5 + b6)) + (b2 + b3 + (b4 + b5))) + (b1 + b2 + (b3 + b4))) + (b0 + b1 + (b2 + b3)) := ⟨_, rfl⟩
  obtain ⟨hi, hhi⟩ : ∃ hi, hi = 256 * (256 * (256 * b7 + (b6 + b7)) + (b5 + b6 + b7)) + (b4 + b5 + (b6 + b7)) := ⟨_, rfl⟩
  have l1 : lo < 4294967296 := by omega
  have ea : z = 4294967296 * hi + lo := by omega
  have eq : z / 2 ^ 32 = hi := by rw [ea, show (2 : Nat) ^ 32 = 4294967296 from rfl, Nat.mul_add_div (by decide), Nat.div_eq_of_lt l1, Nat.add_zero]
  have hz : z = 128 * (2 * (256 * (256 * (256 * (256 * (256 * (256 * b7 + (b6 + b7)) + (b5 + b6 + b7)) + (b4 + b5 + (b6 + b7))) + (b3 + b4 + (b5 + b6))) + (b2 + b3 + (b4 + b5))) + (b1 + b2 + (b3 + b4)))) + (b0 + b1 + (b2 + b3)) := by
    rw [e]
    omega
  have hh : hi = 128 * (2 * (256 * (256 * b7 + (b6 + b7)) + (b5 + b6 + b7))) + (b4 + b5 + (b6 + b7)) := by
    rw [hhi]
    omega
  exact ⟨_, _, by rw [eq, ← hz, ← hh], hz, by rw [eq]; exact hh⟩
theorem bc_h7 {A B s t z : Nat} (hs : s ≤ 32) (ht : t ≤ 32) (h : z = 128 * A + s + (128 * B + t)) : z % 128 = s + t := by omega
theorem bc_all {w : Nat} (h : w < 2 ^ 64) : bc3 w < 2 ^ 60 ∧ bc4 w < 2 ^ 61 ∧ bc5 w < 2 ^ 62 ∧ bc6 w % 128 = pcnt w := by
  obtain ⟨l, h1, h2, h3, h4⟩ := bc_F8 8 w
  rw [← bc_e3 h] at h3
  match l, h1 with
  | [b0, b1, b2, b3, b4, b5, b6, b7], _ =>
    have k0 := h2 b0 (by simp)
    have k1 := h2 b1 (by simp)
    have k2 := h2 b2 (by simp)
    have k3 := h2 b3 (by simp)
    have k4 := h2 b4 (by simp)
    have k5 := h2 b5 (by simp)
    have k6 := h2 b6 (by simp)
    have k7 := h2 b7 (by simp)
    have hp : pcnt w = b0 + (b1 + (b2 + (b3 + (b4 + (b5 + (b6 + (b7 + 0))))))) := h4
    clear h2 h4
    have e4 := bc_h4 k0 k1 k2 k3 k4 k5 k6 k7 h3
    have e5 := bc_h5 k0 k1 k2 k3 k4 k5 k6 k7 e4
    obtain ⟨A, B, e6, -, -⟩ := bc_h6 k0 k1 k2 k3 k4 k5 k6 k7 e5
    have z3 : bc3 w < 2 ^ 60 := by
      rw [h3]
      clear h3 e4 e5 e6 hp
      show _ < 1152921504606846976
      simp only [List.foldr]
      omega
    have z4 : bc3 w + bc3 w / 2 ^ 8 < 2 ^ 61 := by
      clear h3 e4 e5 e6 hp
      omega
    have z5 : bc3 w + bc3 w / 2 ^ 8 + (bc3 w + bc3 w / 2 ^ 8) / 2 ^ 16 < 2 ^ 62 := by
      clear h3 e4 e5 e6 hp
      omega
    refine ⟨z3, z4, z5, ?_⟩
    have z6 := bc_h7 (by omega) (by omega) e6
    rw [hp]
    exact z6.trans (by clear h3 e4 e5 e6 hp z6; omega)
