/-! ===== numbers: oI z, oL z are the machine's int and long of z ===== -/
def oI (z : Int) : Int32 := Int32.ofInt z
def oL (z : Int) : Int64 := Int64.ofInt z
theorem oI_toInt {z : Int} (h : -2147483648 ≤ z ∧ z < 2147483648) : (oI z).toInt = z := Int32.toInt_ofInt_of_le (by omega) (by omega)
theorem oL_toInt {z : Int} (h : -9223372036854775808 ≤ z ∧ z < 9223372036854775808) : (oL z).toInt = z := Int64.toInt_ofInt_of_le (by omega) (by omega)
theorem oI_self (x : Int32) : oI x.toInt = x := Int32.ofInt_toInt x
theorem oL_self (x : Int64) : oL x.toInt = x := Int64.ofInt_toInt x
theorem oI_rng (x : Int32) : -2147483648 ≤ x.toInt ∧ x.toInt < 2147483648 := ⟨by have := Int32.le_toInt x; omega, by have := Int32.toInt_lt x; omega⟩
theorem oL_rng (x : Int64) : -9223372036854775808 ≤ x.toInt ∧ x.toInt < 9223372036854775808 := ⟨by have := Int64.le_toInt x; omega, by have := Int64.toInt_lt x; omega⟩
theorem oI_inj {a b : Int} (ha : -2147483648 ≤ a ∧ a < 2147483648) (hb : -2147483648 ≤ b ∧ b < 2147483648) : oI a = oI b ↔ a = b := ⟨fun h => by rw [← oI_toInt ha, ← oI_toInt hb, h], fun h => by rw [h]⟩
theorem oL_inj {a b : Int} (ha : -9223372036854775808 ≤ a ∧ a < 9223372036854775808) (hb : -9223372036854775808 ≤ b ∧ b < 9223372036854775808) : oL a = oL b ↔ a = b := ⟨fun h => by rw [← oL_toInt ha, ← oL_toInt hb, h], fun h => by rw [h]⟩
theorem oI_lt {a b : Int} (ha : -2147483648 ≤ a ∧ a < 2147483648) (hb : -2147483648 ≤ b ∧ b < 2147483648) : oI a < oI b ↔ a < b := by rw [Int32.lt_iff_toInt_lt, oI_toInt ha, oI_toInt hb]
theorem oI_le {a b : Int} (ha : -2147483648 ≤ a ∧ a < 2147483648) (hb : -2147483648 ≤ b ∧ b < 2147483648) : oI a ≤ oI b ↔ a ≤ b := by rw [Int32.le_iff_toInt_le, oI_toInt ha, oI_toInt hb]
theorem oL_lt {a b : Int} (ha : -9223372036854775808 ≤ a ∧ a < 9223372036854775808) (hb : -9223372036854775808 ≤ b ∧ b < 9223372036854775808) : oL a < oL b ↔ a < b := by rw [Int64.lt_iff_toInt_lt, oL_toInt ha, oL_toInt hb]
theorem oI_add (a b : Int) : oI a + oI b = oI (a + b) := (Int32.ofInt_add a b).symm
theorem oI_sub (a b : Int) : oI a - oI b = oI (a - b) := (Int32.ofInt_sub a b).symm
theorem oI_mul (a b : Int) : oI a * oI b = oI (a * b) := (Int32.ofInt_mul a b).symm
theorem oI_neg (a : Int) : -oI a = oI (-a) := (Int32.ofInt_neg a).symm
theorem oL_add (a b : Int) : oL a + oL b = oL (a + b) := (Int64.ofInt_add a b).symm
theorem oL_sub (a b : Int) : oL a - oL b = oL (a - b) := (Int64.ofInt_sub a b).symm
theorem oL_mul (a b : Int) : oL a * oL b = oL (a * b) := (Int64.ofInt_mul a b).symm
theorem oI_nat (n : Nat) : oI (n : Int) = nI n := Int32.ofInt_eq_ofNat
theorem oL_nat (n : Nat) : oL (n : Int) = lN n := Int64.ofInt_eq_ofNat
theorem oI_clamp {n : Nat} (h : n < 2147483648) : (oI (n : Int)).toNatClampNeg = n := by rw [oI_nat]; exact nI_clamp (by omega)
theorem oI_in {n N : Nat} (h : n < N) (hN : N < 2147483648) : vp_in (oI (n : Int)) N := by rw [oI_nat]; exact vp_in_nI h (by omega)
theorem oI_i2l {a : Int} (h : -2147483648 ≤ a ∧ a < 2147483648) : (oI a).toInt64 = oL a := Int32.toInt64_ofInt (by have : Int32.minValue.toInt = -2147483648 := by decide
                                                                                                                   omega) (by have : Int32.maxValue.toInt = 2147483647 := by decide
                                                                                                                              omega)
theorem oL_l2i (a : Int) : (oL a).toInt32 = oI a := Int64.toInt32_ofInt
theorem oI_div {a b : Int} (ha : 0 ≤ a ∧ a < 2147483648) (hb : 0 < b ∧ b < 2147483648) : oI a / oI b = oI (a / b) := by
  obtain ⟨x, rfl⟩ := Int.eq_ofNat_of_zero_le ha.1
  obtain ⟨y, rfl⟩ := Int.eq_ofNat_of_zero_le (Int.le_of_lt hb.1)
  rw [oI_nat, oI_nat, pk_div (by omega) (by omega) (by omega), ← oI_nat]
  rfl
theorem oI_rem {a b : Int} (ha : 0 ≤ a ∧ a < 2147483648) (hb : 0 < b ∧ b < 2147483648) : oI a - oI a / oI b * oI b = oI (a % b) := by
  rw [oI_div ha hb, oI_mul, oI_sub]
  congr 1
  have := Int.mul_ediv_add_emod a b
  rw [Int.mul_comm] at this
  omega
theorem oL_div {a b : Int} (ha : 0 ≤ a ∧ a < 9223372036854775808) (hb : 0 < b ∧ b < 9223372036854775808) : oL a / oL b = oL (a / b) := by
  obtain ⟨x, rfl⟩ := Int.eq_ofNat_of_zero_le ha.1
  obtain ⟨y, rfl⟩ := Int.eq_ofNat_of_zero_le (Int.le_of_lt hb.1)
  rw [oL_nat, oL_nat, pk_lDiv (by omega) (by omega) (by omega), ← oL_nat]
  rfl
theorem oL_rem {a b : Int} (ha : 0 ≤ a ∧ a < 9223372036854775808) (hb : 0 < b ∧ b < 9223372036854775808) : oL a - oL a / oL b * oL b = oL (a % b) := by
  rw [oL_div ha hb, oL_mul, oL_sub]
  congr 1
  have := Int.mul_ediv_add_emod a b
  rw [Int.mul_comm] at this
  omega
/-! bits: lN w -/
/-! ===== lN n to 2^64: shifts, and, or, masks, one bit ===== -/
theorem wb_tb (n : Nat) : (lN n).toBitVec = BitVec.ofNat 64 n := rfl
theorem wb_inj {a b : Int64} (h : a.toBitVec = b.toBitVec) : a = b := Int64.toBitVec_inj.mp h
theorem wb_tn {n : Nat} (h : n < 2 ^ 64) : (lN n).toBitVec.toNat = n := by rw [wb_tb, BitVec.toNat_ofNat, Nat.mod_eq_of_lt h]
theorem wb_of (x : Int64) : ∃ n, n < 2 ^ 64 ∧ x = lN n := ⟨x.toBitVec.toNat, x.toBitVec.isLt, wb_inj (by rw [wb_tb]; simp)⟩
theorem wb_of32 (x : Int32) : ∃ n, n < 2 ^ 32 ∧ x = nI n := ⟨x.toBitVec.toNat, x.toBitVec.isLt, Int32.toBitVec_inj.mp (by show _ = BitVec.ofNat 32 _; simp)⟩
theorem wb_c : ∀ k, k < 64 → ((nI k).toInt64 &&& 63) = lN k := by decide +kernel
theorem wb_cu : ∀ k, k < 64 → ((nI k).toInt64.toUInt64 &&& Int64.toUInt64 63) = UInt64.ofNat k := by decide +kernel
theorem wb_sm : ∀ k, k < 64 → (BitVec.ofNat 64 k).smod 64 = BitVec.ofNat 64 k := by decide +kernel
theorem wb_pw {a b : Nat} (h : a ≤ b) : 2 ^ b = 2 ^ a * 2 ^ (b - a) := by rw [← Nat.pow_add]; congr 1; omega
theorem wb_lt2 {a b : Nat} (h : a < b) : 2 ^ a < 2 ^ b := Nat.pow_lt_pow_right (by decide) h
theorem wb_mod (n : Nat) : lN n = lN (n % 2 ^ 64) := wb_inj (by rw [wb_tb, wb_tb]; apply BitVec.eq_of_toNat_eq; rw [BitVec.toNat_ofNat, BitVec.toNat_ofNat, Nat.mod_mod])
theorem wb_shr {n k : Nat} (hn : n < 2 ^ 64) (hk : k < 64) : ((lN n).toUInt64 >>> ((nI k).toInt64.toUInt64 &&& Int64.toUInt64 63)).toInt64 = lN (n / 2 ^ k) := by
  rw [wb_cu k hk]
  apply wb_inj
  apply BitVec.eq_of_toNat_eq
  show ((lN n).toUInt64 >>> UInt64.ofNat k).toNat = (BitVec.ofNat 64 _).toNat
  have h1 : (UInt64.ofNat k).toNat = k := by
    show (BitVec.ofNat 64 k).toNat = k
    rw [BitVec.toNat_ofNat, Nat.mod_eq_of_lt (by omega)]
  have h2 : (lN n).toUInt64.toNat = n := wb_tn hn
  rw [UInt64.toNat_shiftRight, h1, h2, Nat.mod_eq_of_lt hk, Nat.shiftRight_eq_div_pow, BitVec.toNat_ofNat, Nat.mod_eq_of_lt (Nat.lt_of_le_of_lt (Nat.div_le_self _ _) hn)]
theorem wb_shl (n : Nat) {k : Nat} (hk : k < 64) : lN n <<< ((nI k).toInt64 &&& 63) = lN (n * 2 ^ k) := by
  rw [wb_c k hk]
  apply wb_inj
  rw [Int64.toBitVec_shiftLeft, wb_tb, wb_tb, wb_tb, wb_sm k hk]
  apply BitVec.eq_of_toNat_eq
  rw [BitVec.shiftLeft_eq', BitVec.toNat_shiftLeft, BitVec.toNat_ofNat, BitVec.toNat_ofNat, BitVec.toNat_ofNat, Nat.mod_eq_of_lt (show k < 2 ^ 64 by omega), Nat.shiftLeft_eq, Nat.mul_mod, Nat.mod_mod, ← Nat.mul_mod]
theorem wb_and {a b : Nat} (ha : a < 2 ^ 64) (hb : b < 2 ^ 64) : lN a &&& lN b = lN (a &&& b) := by
  apply wb_inj
  rw [Int64.toBitVec_and, wb_tb, wb_tb, wb_tb]
  apply BitVec.eq_of_toNat_eq
  rw [BitVec.toNat_and, BitVec.toNat_ofNat, BitVec.toNat_ofNat, BitVec.toNat_ofNat, Nat.mod_eq_of_lt ha, Nat.mod_eq_of_lt hb, Nat.mod_eq_of_lt (Nat.and_lt_two_pow _ hb)]
theorem wb_or {a b : Nat} (ha : a < 2 ^ 64) (hb : b < 2 ^ 64) : lN a ||| lN b = lN (a ||| b) := by
  apply wb_inj
  rw [Int64.toBitVec_or, wb_tb, wb_tb, wb_tb]
  apply BitVec.eq_of_toNat_eq
  rw [BitVec.toNat_or, BitVec.toNat_ofNat, BitVec.toNat_ofNat, BitVec.toNat_ofNat, Nat.mod_eq_of_lt ha, Nat.mod_eq_of_lt hb, Nat.mod_eq_of_lt (Nat.or_lt_two_pow ha hb)]
theorem wb_mask {n k : Nat} (hn : n < 2 ^ 64) (hk : k < 64) : lN n &&& lN (2 ^ k - 1) = lN (n % 2 ^ k) := by
  rw [wb_and hn (by have := wb_lt2 hk; omega), Nat.and_two_pow_sub_one_eq_mod]
theorem wb_a1 {n : Nat} (hn : n < 2 ^ 64) : lN n &&& 1 = lN (n % 2) := wb_mask (k := 1) hn (by decide)
theorem wb_bit {n k : Nat} (hn : n < 2 ^ 64) (hk : k < 64) : ((lN n).toUInt64 >>> ((nI k).toInt64.toUInt64 &&& Int64.toUInt64 63)).toInt64 &&& 1 = lN (n / 2 ^ k % 2) := by
  rw [wb_shr hn hk, wb_a1 (Nat.lt_of_le_of_lt (Nat.div_le_self _ _) hn)]
theorem wb_xor {q k : Nat} (hk : k < 63) (h : 2 ^ k ≤ q) (h2 : q < 2 ^ (k + 1)) : lN q ^^^ lN (2 ^ k) = lN (q - 2 ^ k) := by
  obtain ⟨r, rfl⟩ : ∃ r, q = 2 ^ k + r := ⟨q - 2 ^ k, by omega⟩
  have hr : r < 2 ^ k := by rw [Nat.pow_succ] at h2; omega
  have hx : (2 ^ k + r) ^^^ 2 ^ k = r := by
    apply Nat.eq_of_testBit_eq
    intro i
    rw [Nat.testBit_xor, Nat.testBit_two_pow]
    rcases Nat.lt_trichotomy i k with h | h | h
    · rw [Nat.testBit_two_pow_add_gt h]
      simp [show ¬ k = i by omega]
    · subst h
      rw [Nat.testBit_two_pow_add_eq]
      simp
    · have a1 : 2 ^ (k + 1) ≤ 2 ^ i := Nat.pow_le_pow_right (by decide) h
      rw [Nat.testBit_lt_two_pow (show 2 ^ k + r < 2 ^ i by omega), Nat.testBit_lt_two_pow (show r < 2 ^ i by omega)]
      simp [show ¬ k = i by omega]
  have b1 := wb_lt2 (show k + 1 < 64 by omega)
  have b2 := wb_lt2 (show k < 64 by omega)
  apply wb_inj
  rw [Int64.toBitVec_xor, wb_tb, wb_tb, wb_tb]
  apply BitVec.eq_of_toNat_eq
  rw [BitVec.toNat_xor, BitVec.toNat_ofNat, BitVec.toNat_ofNat, BitVec.toNat_ofNat, Nat.mod_eq_of_lt (by omega : 2 ^ k + r < 2 ^ 64), Nat.mod_eq_of_lt b2, hx, Nat.add_sub_cancel_left, Nat.mod_eq_of_lt (by omega)]
/-! ===== bits of a long that isn't negative ===== -/
theorem fb_andL (a b : Nat) : lN a &&& lN b = lN (a &&& b) := by
  apply Int64.toBitVec_inj.1
  show BitVec.ofNat 64 a &&& BitVec.ofNat 64 b = BitVec.ofNat 64 (a &&& b)
  apply BitVec.eq_of_getLsbD_eq
  intro i hi
  simp [hi]
theorem fb_orL (a b : Nat) : lN a ||| lN b = lN (a ||| b) := by
  apply Int64.toBitVec_inj.1
  show BitVec.ofNat 64 a ||| BitVec.ofNat 64 b = BitVec.ofNat 64 (a ||| b)
  apply BitVec.eq_of_getLsbD_eq
  intro i hi
  simp [hi]
theorem fb_xorL (a b : Nat) : lN a ^^^ lN b = lN (a ^^^ b) := by
  apply Int64.toBitVec_inj.1
  show BitVec.ofNat 64 a ^^^ BitVec.ofNat 64 b = BitVec.ofNat 64 (a ^^^ b)
  apply BitVec.eq_of_getLsbD_eq
  intro i hi
  simp [hi]
/-! ===== how many places have a property ===== -/
def fb_ct (p : Nat → Bool) : Nat → Nat
  | 0 => 0
  | n + 1 => fb_ct p n + (if p n then 1 else 0)
theorem fb_ct_succ (p : Nat → Bool) (n : Nat) : fb_ct p (n + 1) = fb_ct p n + (if p n then 1 else 0) := rfl
theorem fb_ct_le (p : Nat → Bool) : ∀ n, fb_ct p n ≤ n
  | 0 => Nat.le_refl _
  | n + 1 => by
    have h := fb_ct_le p n
    rw [fb_ct_succ]
    split <;> omega
theorem fb_ct_step (p : Nat → Bool) (m : Nat) : ∀ n, fb_ct p m ≤ fb_ct p (m + n)
  | 0 => Nat.le_refl _
  | n + 1 => by
    have h := fb_ct_step p m n
    show fb_ct p m ≤ fb_ct p (m + n + 1)
    rw [fb_ct_succ]
    omega
theorem fb_ct_mono (p : Nat → Bool) {m n : Nat} (h : m ≤ n) : fb_ct p m ≤ fb_ct p n := by
  have := fb_ct_step p m (n - m)
  rwa [Nat.add_sub_cancel' h] at this
theorem fb_ct_cong {p q : Nat → Bool} : ∀ {n : Nat}, (∀ k, k < n → p k = q k) → fb_ct p n = fb_ct q n
  | 0, _ => rfl
  | n + 1, h => by
    rw [fb_ct_succ, fb_ct_succ, fb_ct_cong (fun k hk => h k (by omega)), h n (by omega)]
/-- one place changed -/
theorem fb_ct_out (p : Nat → Bool) (b : Bool) {i n : Nat} (h : n ≤ i) : fb_ct (fun k => if k = i then b else p k) n = fb_ct p n :=
  fb_ct_cong fun k hk => if_neg (by omega)
theorem fb_ct_upd (p : Nat → Bool) (b : Bool) {i : Nat} : ∀ {n : Nat}, i < n → fb_ct (fun k => if k = i then b else p k) n + (if p i then 1 else 0) = fb_ct p n + (if b then 1 else 0)
  | 0, h => absurd h (Nat.not_lt_zero i)
  | n + 1, h => by
    rw [fb_ct_succ, fb_ct_succ]
    rcases Nat.lt_or_ge i n with q | q
    · have := fb_ct_upd p b q
      have e : (if n = i then b else p n) = p n := if_neg (by omega)
      rw [e]
      omega
    · have e : i = n := by omega
      subst e
      rw [fb_ct_out p b (Nat.le_refl _)]
      simp only [if_true]
      omega
theorem fb_ct_sub {p q : Nat → Bool} : ∀ {n : Nat}, (∀ k, k < n → p k = true → q k = true) → fb_ct p n ≤ fb_ct q n
  | 0, _ => Nat.le_refl _
  | n + 1, h => by
    have h1 := fb_ct_sub (n := n) (p := p) (q := q) (fun k hk => h k (by omega))
    have h2 := h n (by omega)
    rw [fb_ct_succ, fb_ct_succ]
    cases hp : p n <;> cases hq : q n <;> simp_all <;> omega
theorem fb_ct_or {p q : Nat → Bool} : ∀ {n : Nat}, (∀ k, k < n → ¬ (p k = true ∧ q k = true)) → fb_ct (fun k => p k || q k) n = fb_ct p n + fb_ct q n
  | 0, _ => rfl
  | n + 1, h => by
    have h1 := fb_ct_or (n := n) (p := p) (q := q) (fun k hk => h k (by omega))
    have h2 := h n (by omega)
    rw [fb_ct_succ, fb_ct_succ, fb_ct_succ, h1]
    cases hp : p n <;> cases hq : q n <;> simp_all <;> omega
theorem fb_ct_not (p : Nat → Bool) : ∀ n, fb_ct p n + fb_ct (fun k => !p k) n = n
  | 0 => rfl
  | n + 1 => by
    have h := fb_ct_not p n
    rw [fb_ct_succ, fb_ct_succ]
    cases p n <;> simp <;> omega
theorem fb_ct_split (p : Nat → Bool) (m : Nat) : ∀ n, fb_ct p (m + n) = fb_ct p m + fb_ct (fun k => p (m + k)) n
  | 0 => rfl
  | n + 1 => by
    have h := fb_ct_split p m n
    show fb_ct p (m + n + 1) = _
    rw [fb_ct_succ, fb_ct_succ, h, Nat.add_assoc]
theorem fb_ct_zero {p : Nat → Bool} : ∀ {n : Nat}, fb_ct p n = 0 ↔ ∀ k, k < n → p k = false
  | 0 => ⟨fun _ k hk => absurd hk (Nat.not_lt_zero k), fun _ => rfl⟩
  | n + 1 => by
    have h := fb_ct_zero (p := p) (n := n)
    rw [fb_ct_succ]
    constructor
    · intro e k hk
      have e1 : fb_ct p n = 0 := by omega
      rcases Nat.lt_or_ge k n with q | q
      · exact h.mp e1 k q
      · have ek : k = n := by omega
        subst ek
        cases hp : p k
        · rfl
        · simp [hp] at e
    · intro a
      rw [h.mpr (fun k hk => a k (by omega)), a n (by omega)]
      rfl
theorem fb_ct_pos {p : Nat → Bool} {n : Nat} : 0 < fb_ct p n ↔ ∃ k, k < n ∧ p k = true := by
  constructor
  · intro h
    refine Classical.byContradiction fun hx => ?_
    have := fb_ct_zero.mpr (fun k hk => by
      cases hp : p k
      · rfl
      · exact absurd ⟨k, hk, hp⟩ hx : ∀ k, k < n → p k = false)
    omega
  · rintro ⟨k, hk, hp⟩
    rcases Nat.eq_zero_or_pos (fb_ct p n) with e | e
    · have := fb_ct_zero.mp e k hk
      rw [this] at hp
      cases hp
    · exact e
theorem fb_ct_all {p : Nat → Bool} {n : Nat} : fb_ct p n = n ↔ ∀ k, k < n → p k = true := by
  have h := fb_ct_not p n
  constructor
  · intro e k hk
    have z : fb_ct (fun k => !p k) n = 0 := by omega
    have := fb_ct_zero.mp z k hk
    cases hp : p k
    · simp [hp] at this
    · rfl
  · intro a
    have z : fb_ct (fun k => !p k) n = 0 := fb_ct_zero.mpr (fun k hk => by simp [a k hk])
    omega
/-- the k-th place with the property -/
theorem fb_ct_kth {p : Nat → Bool} {k : Nat} : ∀ {n : Nat}, k < fb_ct p n → ∃ i, i < n ∧ p i = true ∧ fb_ct p i = k
  | 0, h => absurd h (Nat.not_lt_zero k)
  | n + 1, h => by
    rcases Nat.lt_or_ge k (fb_ct p n) with q | q
    · obtain ⟨i, h1, h2⟩ := fb_ct_kth q
      exact ⟨i, by omega, h2⟩
    · rw [fb_ct_succ] at h
      cases hp : p n
      · simp [hp] at h; omega
      · simp [hp] at h
        exact ⟨n, by omega, hp, by omega⟩
theorem fb_ct_kth_one {p : Nat → Bool} {i j : Nat} (hi : p i = true) (hj : p j = true) (e : fb_ct p i = fb_ct p j) : i = j := by
  have key : ∀ a b : Nat, a < b → p a = true → fb_ct p a < fb_ct p b := by
    intro a b hab ha
    have h := fb_ct_mono p (show a + 1 ≤ b from hab)
    rw [fb_ct_succ, ha] at h
    simp at h
    omega
  rcases Nat.lt_trichotomy i j with q | q | q
  · have := key i j q hi; omega
  · exact q
  · have := key j i q hj; omega
theorem oN_shl (w : Nat) {k : Int} (hk : 0 ≤ k ∧ k < 64) : lN w <<< ((oI k).toInt64 &&& 63) = lN (w * 2 ^ k.toNat) := by
  obtain ⟨j, rfl⟩ := Int.eq_ofNat_of_zero_le hk.1
  rw [oI_nat]
  exact wb_shl w (by omega)
theorem oN_shr {w : Nat} (hw : w < 2 ^ 64) {k : Int} (hk : 0 ≤ k ∧ k < 64) : ((lN w).toUInt64 >>> ((oI k).toInt64.toUInt64 &&& Int64.toUInt64 63)).toInt64 = lN (w / 2 ^ k.toNat) := by
  obtain ⟨j, rfl⟩ := Int.eq_ofNat_of_zero_le hk.1
  rw [oI_nat]
  exact wb_shr hw (by omega)
theorem oN_inj {a b : Nat} (ha : a < 2 ^ 64) (hb : b < 2 ^ 64) : lN a = lN b ↔ a = b := ⟨fun h => by rw [← wb_tn ha, ← wb_tn hb, h], fun h => by rw [h]⟩
/-! ===== the world: cells 0 .. N - 1, cell k at the address ad k ===== -/
def oW (N : Nat) (ad : Nat → Nat) (σ : Nat → va_E) : va_W := (List.range N).map (fun k => (ad k, σ k))
theorem oW_get {N k : Nat} {ad : Nat → Nat} {σ : Nat → va_E} (h : k < N) : (oW N ad σ)[k]? = some (ad k, σ k) := by
  simp [oW, h]
theorem oW_set {N k : Nat} {ad : Nat → Nat} {σ : Nat → va_E} {e : va_E} : (oW N ad σ).set k (ad k, e) = oW N ad (va_up σ k e) := by
  apply List.ext_getElem?
  intro i
  rw [List.getElem?_set]
  by_cases h : k = i
  · subst h
    by_cases h2 : k < N
    · simp [oW, va_up, h2]
    · simp [oW, va_up, h2]
  · have h3 : ¬ i = k := fun q => h q.symm
    by_cases h2 : i < N
    · simp [oW, va_up, h, h3, h2]
    · simp [oW, va_up, h, h2]
def oTy (cT : Nat → ClassId) : List (ClassId × FieldType) := [(cT 0, .int), (cT 1, .long), (cT 2, .char), (cT 3, .boolean), (cT 4, .object "OddRulers$State")]
def oAI (cT : Nat → ClassId) (n : Nat) (a : Nat → Int) : va_E := .inl (cT 0, n, .inl (fun k => oI (a k)))
def oAL (cT : Nat → ClassId) (n : Nat) (f : Nat → Int64) : va_E := .inl (cT 1, n, .inr (.inl f))
abbrev oAJ (cT : Nat → ClassId) (n : Nat) (w : Nat → Nat) : va_E := oAL cT n (fun k => lN (w k))
def oAC (cT : Nat → ClassId) (n : Nat) (a : Nat → Int) : va_E := .inl (cT 2, n, .inl (fun k => oI (a k)))
def oAZ (cT : Nat → ClassId) (n : Nat) (a : Nat → Int) : va_E := .inl (cT 3, n, .inl (fun k => oI (a k)))
def oAO (cT : Nat → ClassId) (n : Nat) (f : Nat → Option Nat) : va_E := .inl (cT 4, n, .inr (.inr (.inr (.inr f))))
/-- the addresses are apart, and new -/
def oAd (b0 N : Nat) (ad : Nat → Nat) : Prop := (∀ i j : Nat, i < N → j < N → ad i = ad j → i = j) ∧ ∀ k : Nat, k < N → b0 ≤ ad k
theorem oAd.D {b0 N : Nat} {ad : Nat → Nat} (h : oAd b0 N ad) (σ : Nat → va_E) : va_D (fun q => b0 ≤ q) (oW N ad σ) := by
  have key : ∀ (k : Nat) (q : Nat × va_E), (oW N ad σ)[k]? = some q → k < N ∧ q.1 = ad k := by
    intro k q hq
    have hk : k < N := by
      have := (List.getElem?_eq_some_iff.mp hq).1
      simpa [oW] using this
    rw [oW_get hk] at hq
    cases hq
    exact ⟨hk, rfl⟩
  refine ⟨fun i j p q hp hq hpq => ?_, fun k q hq => ?_⟩
  · obtain ⟨a1, a2⟩ := key i p hp
    obtain ⟨b1, b2⟩ := key j q hq
    exact h.1 i j a1 b1 (by rw [← a2, ← b2, hpq])
  · obtain ⟨a1, a2⟩ := key k q hq
    rw [a2]
    exact h.2 k a1
/-- what a method needs of the tables that no list of words holds -/
def oNest (U : State) : Prop := va_Nw (.methodLinkNest RX3 43 yX5_hasBit RX5) U ∧ va_Nw (.methodLinkNest RX4 48 yX5_hasBit RX5) U ∧ va_Nw (.methodLinkNest RX4 68 yX5_pairsApart RX5) U ∧ va_Nw (.methodLinkNest RX4 75 yX5_spreadOf RX5) U ∧ va_Nw (.methodLinkNest RX4 116 yX5_reversed RX5) U ∧ va_Nw (.methodLinkNest RX4 123 yX5_lowest RX5) U ∧ va_Nw (.methodLinkNest RX5 34 yX0_init RX5) U ∧ va_Nw (.methodLinkNest RX5 41 yX3_init RX5) U ∧ va_Nw (.methodLinkNest RX5 48 yX1_init RX5) U
theorem oNest.warm {s U : State} (hW : s.WarmedH U.vm) (h : oNest s) : oNest U := ⟨va_Nw.warmM hW h.1, va_Nw.warmM hW h.2.1, va_Nw.warmM hW h.2.2.1, va_Nw.warmM hW h.2.2.2.1, va_Nw.warmM hW h.2.2.2.2.1, va_Nw.warmM hW h.2.2.2.2.2.1, va_Nw.warmM hW h.2.2.2.2.2.2.1, va_Nw.warmM hW h.2.2.2.2.2.2.2.1, va_Nw.warmM hW h.2.2.2.2.2.2.2.2⟩
theorem oNest.same {s U : State} (hv : s.vm = U.vm) (h : oNest s) : oNest U := ⟨va_Nw.same rfl hv h.1, va_Nw.same rfl hv h.2.1, va_Nw.same rfl hv h.2.2.1, va_Nw.same rfl hv h.2.2.2.1, va_Nw.same rfl hv h.2.2.2.2.1, va_Nw.same rfl hv h.2.2.2.2.2.1, va_Nw.same rfl hv h.2.2.2.2.2.2.1, va_Nw.same rfl hv h.2.2.2.2.2.2.2.1, va_Nw.same rfl hv h.2.2.2.2.2.2.2.2⟩
/-- what throws need: two statics of Throwable's, the texts of the messages -/
def oTexts : List (Nat × String) := [(55, "no such character"), (66, "the text is full")]
def oExc (b0 : Nat) (U : State) : Prop := vx_Zq Bundle.tN "UNASSIGNED_STACK" Bundle.steD (fun q => b0 ≤ q) U U.heap ∧ vx_Zq Bundle.tN "SUPPRESSED_SENTINEL" Bundle.listD (fun q => b0 ≤ q) U U.heap ∧ ∀ q ∈ oTexts, ∃ a : Nat, vk_R RX5 q.1 q.2 a U
def oK (b0 : Nat) (D : va_G) (cT : Nat → ClassId) (U : State) : Prop := va_K D vwCl (oTy cT) U ∧ oNest U ∧ oExc b0 U
theorem oK.call {b0 : Nat} {D : va_G} {cT : Nat → ClassId} {s U : State} {H : Heap} {locs : List Loc} (h : oK b0 D cT s) (hS : va_S (fun q => b0 ≤ q) s.heap H locs) (hU : U.heap = H) (hW : s.WarmedH U.vm) : oK b0 D cT U := by
  refine ⟨va_K.moved hW.alike h.1, h.2.1.warm hW, ?_, ?_, fun q hq => ?_⟩
  · rw [hU]
    exact vx_Zq.moved hW.alike (h.2.2.1.kept (fun a h1 h2 => hS.2.1 a h1 h2))
  · rw [hU]
    exact vx_Zq.moved hW.alike (h.2.2.2.1.kept (fun a h1 h2 => hS.2.1 a h1 h2))
  · obtain ⟨a, ha⟩ := h.2.2.2.2 q hq
    exact ⟨a, ha.warm hW⟩
theorem oK.calling {b0 : Nat} {D : va_G} {cT : Nat → ClassId} {U : State} (g : JFrame) (mk : MethodId) (a : Array Value) (h : oK b0 D cT U) : oK b0 D cT (U.calling g mk a) := by
  refine ⟨va_K.moved (u := U) (U := U.calling g mk a) (Vm.Alike.refl U.vm) h.1, h.2.1.same rfl, ?_, ?_, fun q hq => ?_⟩
  · exact vx_Zq.moved (u := U) (U := U.calling g mk a) (Vm.Alike.refl U.vm) h.2.2.1
  · exact vx_Zq.moved (u := U) (U := U.calling g mk a) (Vm.Alike.refl U.vm) h.2.2.2.1
  · obtain ⟨x, hx⟩ := h.2.2.2.2 q hq
    exact ⟨x, vk_R.same rfl hx⟩
/-- a method's start: the tables' facts, and the cells hold σ -/
def oU (b0 : Nat) (D : va_G) (cT : Nat → ClassId) (N : Nat) (ad : Nat → Nat) (σ : Nat → va_E) (U : State) : Prop := b0 ≤ U.heap.size ∧ oK b0 D cT U ∧ va_P D vwCl (oW N ad σ) U.heap
/-- its end -/
def oV (D : va_G) (N : Nat) (ad : Nat → Nat) (σ : Nat → va_E) (U : State) : Prop := va_P D vwCl (oW N ad σ) U.heap
/-- within a method: the cells hold σ, and nothing that was there before has changed but those of the world -/
def oH (b0 : Nat) (D : va_G) (N : Nat) (ad : Nat → Nat) (H0 : Heap) (σ : Nat → va_E) (H : Heap) (locs : List Loc) : Prop := va_P D vwCl (oW N ad σ) H ∧ va_S (fun q => b0 ≤ q) H0 H locs ∧ b0 ≤ H0.size
theorem oH.eq {b0 : Nat} {D : va_G} {N : Nat} {ad : Nat → Nat} {H0 : Heap} {σ σ' : Nat → va_E} {H : Heap} {locs : List Loc} (h : oH b0 D N ad H0 σ H locs) (e : σ = σ') : oH b0 D N ad H0 σ' H locs := e ▸ h
abbrev oCi (l : Launch) (D : va_G) (cT : Nat → ClassId) (N : Nat) (ad : Nat → Nat) (b0 : Nat) (y : MethodName) (cc : ByteArray) (maxL : Nat) (ret : Option FieldType) (fr lo : Nat) (As : List Value) (σ : Nat → va_E) (post : Int32 → (Nat → va_E) → Prop) : Prop :=
  Met l y (.code y cc maxL ret :: wsL_law) { frames := fr, cells := 0, slots := 0, locals := lo } (va_Pc As (oU b0 D cT N ad σ)) (va_Qi post (oV D N ad) (fun q => b0 ≤ q)) 0 0 (fun q => b0 ≤ q)
abbrev oCl (l : Launch) (D : va_G) (cT : Nat → ClassId) (N : Nat) (ad : Nat → Nat) (b0 : Nat) (y : MethodName) (cc : ByteArray) (maxL : Nat) (ret : Option FieldType) (fr lo : Nat) (As : List Value) (σ : Nat → va_E) (post : Int64 → (Nat → va_E) → Prop) : Prop :=
  Met l y (.code y cc maxL ret :: wsL_law) { frames := fr, cells := 0, slots := 0, locals := lo } (va_Pc As (oU b0 D cT N ad σ)) (va_Ql post (oV D N ad) (fun q => b0 ≤ q)) 0 0 (fun q => b0 ≤ q)
abbrev oCv (l : Launch) (D : va_G) (cT : Nat → ClassId) (N : Nat) (ad : Nat → Nat) (b0 : Nat) (y : MethodName) (cc : ByteArray) (maxL : Nat) (ret : Option FieldType) (fr lo : Nat) (As : List Value) (σ : Nat → va_E) (post : (Nat → va_E) → Prop) : Prop :=
  Met l y (.code y cc maxL ret :: wsL_law) { frames := fr, cells := 0, slots := 0, locals := lo } (va_Pc As (oU b0 D cT N ad σ)) (va_Qv post (oV D N ad) (fun q => b0 ≤ q)) 0 0 (fun q => b0 ≤ q)
theorem oU.blind {b0 : Nat} {D : va_G} {cT : Nat → ClassId} {N : Nat} {ad : Nat → Nat} {σ : Nat → va_E} {As : List Value} : FrameBlind (va_Pc As (oU b0 D cT N ad σ)) := fun _ _ g mk q => ⟨q.1, q.2.1, q.2.2.1.calling g mk _, q.2.2.2⟩
theorem wsL_law_good : ∀ w ∈ wsL_law, goodWord w = true := fun w h => List.all_eq_true.mp (show wsL_law.all goodWord = true by decide +kernel) w h
/-! ===== the rows ===== -/
section OROWS
variable {p : Program} {l : Launch} {e : Env} {R : Room} {s : State} {m : MethodId} {args : Array Value} {below : List Frame} {meth : Method} {c : Code} {H : Heap} {locs : List Loc} {cells slots : Nat} {Q : State → Prop}
variable {cc : ByteArray} {pc : Nat} {ls : Array Slot} {rest : List Value} {D : va_G} {cT : Nat → ClassId} {N b0 : Nat} {ad : Nat → Nat} {σ : Nat → va_E} {H0 : Heap}
theorem m_b0 : -2147483648 ≤ (0 : Int) ∧ (0 : Int) < 2147483648 := by decide
theorem m_start {y : MethodName} {maxL fr lo : Nat} {ret : Option FieldType} {As : List Value} {Qc : Array Value → State → Outcome → State → Prop} {lv : List (Nat × Value)}
    (hy : plainName y.cls = true) (hn : (lg_sl As).length ≤ maxL) (hlv : lv_args 0 As = lv)
    (body : ∀ (p : Program) (e : Env) (s : State) (m : MethodId) (below : List Frame) (meth : Method) (c : Code) (args : Array Value) (ls : Array Slot), p.tables.exec = Jvm.exec → c.code = cc → c.maxLocals = maxL → s.vm.findClass y.cls = some m.cls → meth.locks = false → meth.sig.returnType = ret → (∀ w ∈ wsL_law, w.before args s = true) → oK b0 D cT s → oH b0 D N ad s.heap σ s.heap [] → lv_has ls maxL lv →
      W p l e { frames := fr, cells := 0, slots := 0, locals := lo } s m args below meth c s.heap [] 0 0 (MQ below Qc args s 0 0 (fun q => b0 ≤ q)) (F0 m 0 ls [])) :
    Met l y (.code y cc maxL ret :: wsL_law) { frames := fr, cells := 0, slots := 0, locals := lo } (va_Pc As (oU b0 D cT N ad σ)) Qc 0 0 (fun q => b0 ≤ q) := by
  refine Met.ofW (cc := cc) (maxL := maxL) (ret := ret) hy rfl ?_
  intro p e s m args below meth c s₁ B hml hv
  obtain ⟨rfl, hb0, hK, hP⟩ := hv
  have hl := lv_entry As hn
  rw [hlv] at hl
  rw [lg_entry_eq]
  have hts := atoms_spec (ws := .code y cc maxL ret :: wsL_law) B.pre
  exact body p e s m below meth c As.toArray _ B.exec B.bytes hml (findClass_of_methodNamed B.named) B.notSynchronized B.returns (fun w h => hts w (List.mem_cons_of_mem _ h)) hK ⟨hP, va_S.rf, hb0⟩ hl
theorem m_iret {post : Int32 → (Nat → va_E) → Prop} {v : Int32} {ty : FieldType} (hx : p.tables.exec = Jvm.exec) (hb : c.code = cc) (hlk : meth.locks = false) (hr : meth.sig.returnType = some ty) (hH : oH b0 D N ad s.heap σ H locs) (hn : narrow ty (.int v) = .int v) (hdg : decode cc pc = .ok (.ireturn, 1)) (hp : post v σ) :
    W p l e R s m args below meth c H locs cells slots (MQ below (va_Qi post (oV D N ad) (fun q => b0 ≤ q)) args s cells slots (fun q => b0 ≤ q)) (F0 m pc ls [.int v]) :=
  W.zret hx hb hr hn (fun t ht _ => ⟨⟨v, σ, rfl, hp, by unfold oV; rw [ht]; exact hH.1⟩, hH.2.1.F ht⟩) hH.2.1.2.2 hdg hlk
theorem m_lret {post : Int64 → (Nat → va_E) → Prop} {v : Int64} (hx : p.tables.exec = Jvm.exec) (hb : c.code = cc) (hlk : meth.locks = false) (hr : meth.sig.returnType = some .long) (hH : oH b0 D N ad s.heap σ H locs) (hdg : decode cc pc = .ok (.lreturn, 1)) (hp : post v σ) :
    W p l e R s m args below meth c H locs cells slots (MQ below (va_Ql post (oV D N ad) (fun q => b0 ≤ q)) args s cells slots (fun q => b0 ≤ q)) (F0 m pc ls [.long v]) :=
  W.lret hx hb hr (fun t ht _ => ⟨⟨v, σ, rfl, hp, by unfold oV; rw [ht]; exact hH.1⟩, hH.2.1.F ht⟩) hH.2.1.2.2 hdg hlk
theorem m_vret {post : (Nat → va_E) → Prop} (hx : p.tables.exec = Jvm.exec) (hb : c.code = cc) (hlk : meth.locks = false) (hr : meth.sig.returnType = none) (hH : oH b0 D N ad s.heap σ H locs) (hdg : decode cc pc = .ok (.return_, 1)) (hp : post σ) :
    W p l e R s m args below meth c H locs cells slots (MQ below (va_Qv post (oV D N ad) (fun q => b0 ≤ q)) args s cells slots (fun q => b0 ≤ q)) (F0 m pc ls []) :=
  W.vret hx hb hr (fun t ht _ => ⟨⟨σ, rfl, hp, by unfold oV; rw [ht]; exact hH.1⟩, hH.2.1.F ht⟩) hH.2.1.2.2 hdg hlk
theorem m_z0 : narrow .boolean (.int (oI 0)) = .int (oI 0) := by decide
theorem m_z1 : narrow .boolean (.int (oI 1)) = .int (oI 1) := by decide
theorem m_ni (v : Int32) : narrow .int (.int v) = .int v := rfl
/-! numbers -/
theorem m_iconst (z : Int) (hx : p.tables.exec = Jvm.exec) (hb : c.code = cc) {n : Int} (hdg : decode cc pc = .ok (.iconst n, 1)) (h : n = z) (k : W p l e R s m args below meth c H locs cells slots Q (F0 m (pc + 1) ls (.int (oI z) :: rest))) : W p l e R s m args below meth c H locs cells slots Q (F0 m pc ls rest) := by
  subst h
  exact lv_iconst (v := oI n) hx hb hdg rfl k
theorem m_bipush (z : Int) (hx : p.tables.exec = Jvm.exec) (hb : c.code = cc) {n : Int} (hdg : decode cc pc = .ok (.bipush n, 2)) (h : (Int8.ofInt n).toInt32 = oI z) (k : W p l e R s m args below meth c H locs cells slots Q (F0 m (pc + 2) ls (.int (oI z) :: rest))) : W p l e R s m args below meth c H locs cells slots Q (F0 m pc ls rest) := lv_bipush hx hb hdg h k
theorem m_sipush (z : Int) (hx : p.tables.exec = Jvm.exec) (hb : c.code = cc) {n : Int} (hdg : decode cc pc = .ok (.sipush n, 3)) (h : (Int16.ofInt n).toInt32 = oI z) (k : W p l e R s m args below meth c H locs cells slots Q (F0 m (pc + 3) ls (.int (oI z) :: rest))) : W p l e R s m args below meth c H locs cells slots Q (F0 m pc ls rest) := lv_sipush hx hb hdg h k
theorem m_lconst (z : Int) (hx : p.tables.exec = Jvm.exec) (hb : c.code = cc) {n : Fin 2} (hdg : decode cc pc = .ok (.lconst n, 1)) (h : Int64.ofNat (n : Nat) = oL z) (k : W p l e R s m args below meth c H locs cells slots Q (F0 m (pc + 1) ls (.long (oL z) :: rest))) : W p l e R s m args below meth c H locs cells slots Q (F0 m pc ls rest) := lv_lconst hx hb hdg h k
theorem m_lconstN (z : Nat) (hx : p.tables.exec = Jvm.exec) (hb : c.code = cc) {n : Fin 2} (hdg : decode cc pc = .ok (.lconst n, 1)) (h : Int64.ofNat (n : Nat) = lN z) (k : W p l e R s m args below meth c H locs cells slots Q (F0 m (pc + 1) ls (.long (lN z) :: rest))) : W p l e R s m args below meth c H locs cells slots Q (F0 m pc ls rest) := lv_lconst hx hb hdg h k
theorem m_iadd {a b : Int} (t : Int) (hx : p.tables.exec = Jvm.exec) (hb : c.code = cc) (hdg : decode cc pc = .ok (.iadd, 1)) (h : a + b = t) (k : W p l e R s m args below meth c H locs cells slots Q (F0 m (pc + 1) ls (.int (oI t) :: rest))) : W p l e R s m args below meth c H locs cells slots Q (F0 m pc ls (.int (oI b) :: .int (oI a) :: rest)) := by
  subst h
  exact lv_iadd hx hb hdg (by rw [oI_add]; exact k)
theorem m_isub {a b : Int} (t : Int) (hx : p.tables.exec = Jvm.exec) (hb : c.code = cc) (hdg : decode cc pc = .ok (.isub, 1)) (h : a - b = t) (k : W p l e R s m args below meth c H locs cells slots Q (F0 m (pc + 1) ls (.int (oI t) :: rest))) : W p l e R s m args below meth c H locs cells slots Q (F0 m pc ls (.int (oI b) :: .int (oI a) :: rest)) := by
  subst h
  exact lv_isub hx hb hdg (by rw [oI_sub]; exact k)
theorem m_imul {a b : Int} (t : Int) (hx : p.tables.exec = Jvm.exec) (hb : c.code = cc) (hdg : decode cc pc = .ok (.imul, 1)) (h : a * b = t) (k : W p l e R s m args below meth c H locs cells slots Q (F0 m (pc + 1) ls (.int (oI t) :: rest))) : W p l e R s m args below meth c H locs cells slots Q (F0 m pc ls (.int (oI b) :: .int (oI a) :: rest)) := by
  subst h
  exact lv_imul hx hb hdg (by rw [oI_mul]; exact k)
theorem m_ladd {a b : Int} (t : Int) (hx : p.tables.exec = Jvm.exec) (hb : c.code = cc) (hdg : decode cc pc = .ok (.ladd, 1)) (h : a + b = t) (k : W p l e R s m args below meth c H locs cells slots Q (F0 m (pc + 1) ls (.long (oL t) :: rest))) : W p l e R s m args below meth c H locs cells slots Q (F0 m pc ls (.long (oL b) :: .long (oL a) :: rest)) := by
  subst h
  exact lv_ladd hx hb hdg (by rw [oL_add]; exact k)
theorem m_lsub {a b : Int} (t : Int) (hx : p.tables.exec = Jvm.exec) (hb : c.code = cc) (hdg : decode cc pc = .ok (.lsub, 1)) (h : a - b = t) (k : W p l e R s m args below meth c H locs cells slots Q (F0 m (pc + 1) ls (.long (oL t) :: rest))) : W p l e R s m args below meth c H locs cells slots Q (F0 m pc ls (.long (oL b) :: .long (oL a) :: rest)) := by
  subst h
  exact lv_lsub hx hb hdg (by rw [oL_sub]; exact k)
theorem m_lmul {a b : Int} (t : Int) (hx : p.tables.exec = Jvm.exec) (hb : c.code = cc) (hdg : decode cc pc = .ok (.lmul, 1)) (h : a * b = t) (k : W p l e R s m args below meth c H locs cells slots Q (F0 m (pc + 1) ls (.long (oL t) :: rest))) : W p l e R s m args below meth c H locs cells slots Q (F0 m pc ls (.long (oL b) :: .long (oL a) :: rest)) := by
  subst h
  exact lv_lmul hx hb hdg (by rw [oL_mul]; exact k)
theorem m_idiv {a b : Int} (t : Int) (hx : p.tables.exec = Jvm.exec) (hb : c.code = cc) (hdg : decode cc pc = .ok (.idiv, 1)) (ha : 0 ≤ a ∧ a < 2147483648) (hb' : 0 < b ∧ b < 2147483648) (h : a / b = t) (k : W p l e R s m args below meth c H locs cells slots Q (F0 m (pc + 1) ls (.int (oI t) :: rest))) : W p l e R s m args below meth c H locs cells slots Q (F0 m pc ls (.int (oI b) :: .int (oI a) :: rest)) := by
  subst h
  exact lv_idiv hx hb hdg (fun h => by have := (oI_inj (by omega) (by omega)).mp (h.trans (show (0 : Int32) = oI 0 from rfl)); omega) (by rw [oI_div ha hb']; exact k)
theorem m_irem {a b : Int} (t : Int) (hx : p.tables.exec = Jvm.exec) (hb : c.code = cc) (hdg : decode cc pc = .ok (.irem, 1)) (ha : 0 ≤ a ∧ a < 2147483648) (hb' : 0 < b ∧ b < 2147483648) (h : a % b = t) (k : W p l e R s m args below meth c H locs cells slots Q (F0 m (pc + 1) ls (.int (oI t) :: rest))) : W p l e R s m args below meth c H locs cells slots Q (F0 m pc ls (.int (oI b) :: .int (oI a) :: rest)) := by
  subst h
  exact lv_irem hx hb hdg (fun h => by have := (oI_inj (by omega) (by omega)).mp (h.trans (show (0 : Int32) = oI 0 from rfl)); omega) (by rw [oI_rem ha hb']; exact k)
theorem m_ldiv {a b : Int} (t : Int) (hx : p.tables.exec = Jvm.exec) (hb : c.code = cc) (hdg : decode cc pc = .ok (.ldiv, 1)) (ha : 0 ≤ a ∧ a < 9223372036854775808) (hb' : 0 < b ∧ b < 9223372036854775808) (h : a / b = t) (k : W p l e R s m args below meth c H locs cells slots Q (F0 m (pc + 1) ls (.long (oL t) :: rest))) : W p l e R s m args below meth c H locs cells slots Q (F0 m pc ls (.long (oL b) :: .long (oL a) :: rest)) := by
  subst h
  exact lv_ldiv hx hb hdg (fun h => by have := (oL_inj (by omega) (by omega)).mp (h.trans (show (0 : Int64) = oL 0 from rfl)); omega) (by rw [oL_div ha hb']; exact k)
theorem m_lrem {a b : Int} (t : Int) (hx : p.tables.exec = Jvm.exec) (hb : c.code = cc) (hdg : decode cc pc = .ok (.lrem, 1)) (ha : 0 ≤ a ∧ a < 9223372036854775808) (hb' : 0 < b ∧ b < 9223372036854775808) (h : a % b = t) (k : W p l e R s m args below meth c H locs cells slots Q (F0 m (pc + 1) ls (.long (oL t) :: rest))) : W p l e R s m args below meth c H locs cells slots Q (F0 m pc ls (.long (oL b) :: .long (oL a) :: rest)) := by
  subst h
  exact lv_lrem hx hb hdg (fun h => by have := (oL_inj (by omega) (by omega)).mp (h.trans (show (0 : Int64) = oL 0 from rfl)); omega) (by rw [oL_rem ha hb']; exact k)
theorem m_ineg {a : Int} (t : Int) (hx : p.tables.exec = Jvm.exec) (hb : c.code = cc) (hdg : decode cc pc = .ok (.ineg, 1)) (h : -a = t) (k : W p l e R s m args below meth c H locs cells slots Q (F0 m (pc + 1) ls (.int (oI t) :: rest))) : W p l e R s m args below meth c H locs cells slots Q (F0 m pc ls (.int (oI a) :: rest)) := by
  subst h
  exact lv_ineg hx hb hdg (by rw [oI_neg]; exact k)
theorem m_i2l {a : Int} (hx : p.tables.exec = Jvm.exec) (hb : c.code = cc) (hdg : decode cc pc = .ok (.i2l, 1)) (ha : -2147483648 ≤ a ∧ a < 2147483648) (k : W p l e R s m args below meth c H locs cells slots Q (F0 m (pc + 1) ls (.long (oL a) :: rest))) : W p l e R s m args below meth c H locs cells slots Q (F0 m pc ls (.int (oI a) :: rest)) := lv_i2l hx hb hdg (oI_i2l ha) k
theorem m_l2i {a : Int} (hx : p.tables.exec = Jvm.exec) (hb : c.code = cc) (hdg : decode cc pc = .ok (.l2i, 1)) (k : W p l e R s m args below meth c H locs cells slots Q (F0 m (pc + 1) ls (.int (oI a) :: rest))) : W p l e R s m args below meth c H locs cells slots Q (F0 m pc ls (.long (oL a) :: rest)) := lv_l2i hx hb hdg (oL_l2i a) k
theorem m_land {a b : Nat} (t : Nat) (hx : p.tables.exec = Jvm.exec) (hb : c.code = cc) (hdg : decode cc pc = .ok (.land, 1)) (h : a &&& b = t) (k : W p l e R s m args below meth c H locs cells slots Q (F0 m (pc + 1) ls (.long (lN t) :: rest))) : W p l e R s m args below meth c H locs cells slots Q (F0 m pc ls (.long (lN b) :: .long (lN a) :: rest)) := by
  subst h
  exact lv_land hx hb hdg (by rw [fb_andL]; exact k)
theorem m_lor {a b : Nat} (t : Nat) (hx : p.tables.exec = Jvm.exec) (hb : c.code = cc) (hdg : decode cc pc = .ok (.lor, 1)) (h : a ||| b = t) (k : W p l e R s m args below meth c H locs cells slots Q (F0 m (pc + 1) ls (.long (lN t) :: rest))) : W p l e R s m args below meth c H locs cells slots Q (F0 m pc ls (.long (lN b) :: .long (lN a) :: rest)) := by
  subst h
  exact lv_lor hx hb hdg (by rw [fb_orL]; exact k)
theorem m_lxor {a b : Nat} (t : Nat) (hx : p.tables.exec = Jvm.exec) (hb : c.code = cc) (hdg : decode cc pc = .ok (.lxor, 1)) (h : a ^^^ b = t) (k : W p l e R s m args below meth c H locs cells slots Q (F0 m (pc + 1) ls (.long (lN t) :: rest))) : W p l e R s m args below meth c H locs cells slots Q (F0 m pc ls (.long (lN b) :: .long (lN a) :: rest)) := by
  subst h
  exact lv_lxor hx hb hdg (by rw [fb_xorL]; exact k)
theorem m_lshl {w : Nat} {j : Int} (t : Nat) (hx : p.tables.exec = Jvm.exec) (hb : c.code = cc) (hdg : decode cc pc = .ok (.lshl, 1)) (hj : 0 ≤ j ∧ j < 64) (h : w * 2 ^ j.toNat = t) (k : W p l e R s m args below meth c H locs cells slots Q (F0 m (pc + 1) ls (.long (lN t) :: rest))) : W p l e R s m args below meth c H locs cells slots Q (F0 m pc ls (.int (oI j) :: .long (lN w) :: rest)) := by
  subst h
  exact lv_lshl hx hb hdg (oN_shl w hj) k
theorem m_lushr {w : Nat} {j : Int} (t : Nat) (hx : p.tables.exec = Jvm.exec) (hb : c.code = cc) (hdg : decode cc pc = .ok (.lushr, 1)) (hw : w < 2 ^ 64) (hj : 0 ≤ j ∧ j < 64) (h : w / 2 ^ j.toNat = t) (k : W p l e R s m args below meth c H locs cells slots Q (F0 m (pc + 1) ls (.long (lN t) :: rest))) : W p l e R s m args below meth c H locs cells slots Q (F0 m pc ls (.int (oI j) :: .long (lN w) :: rest)) := by
  subst h
  exact lv_lushr hx hb hdg (oN_shr hw hj) k
theorem m_lsubN {a b : Nat} (t : Nat) (hx : p.tables.exec = Jvm.exec) (hb : c.code = cc) (hdg : decode cc pc = .ok (.lsub, 1)) (hab : b ≤ a) (h : a - b = t) (k : W p l e R s m args below meth c H locs cells slots Q (F0 m (pc + 1) ls (.long (lN t) :: rest))) : W p l e R s m args below meth c H locs cells slots Q (F0 m pc ls (.long (lN b) :: .long (lN a) :: rest)) := by
  subst h
  exact lv_lsub hx hb hdg (by rw [lN_sub hab]; exact k)
theorem m_L2N {z : Int} (n : Nat) (h : z = (n : Int)) (k : W p l e R s m args below meth c H locs cells slots Q (F0 m pc ls (.long (lN n) :: rest))) : W p l e R s m args below meth c H locs cells slots Q (F0 m pc ls (.long (oL z) :: rest)) := by
  subst h
  rw [oL_nat]
  exact k
theorem m_N2L {n : Nat} (z : Int) (h : z = (n : Int)) (k : W p l e R s m args below meth c H locs cells slots Q (F0 m pc ls (.long (oL z) :: rest))) : W p l e R s m args below meth c H locs cells slots Q (F0 m pc ls (.long (lN n) :: rest)) := by
  subst h
  rw [oL_nat] at k
  exact k
theorem m_L2N2 {z : Int} {v : Value} (n : Nat) (h : z = (n : Int)) (k : W p l e R s m args below meth c H locs cells slots Q (F0 m pc ls (v :: .long (lN n) :: rest))) : W p l e R s m args below meth c H locs cells slots Q (F0 m pc ls (v :: .long (oL z) :: rest)) := by
  subst h
  rw [oL_nat]
  exact k
theorem m_topI {a : Int} (t : Int) (h : a = t) (k : W p l e R s m args below meth c H locs cells slots Q (F0 m pc ls (.int (oI t) :: rest))) : W p l e R s m args below meth c H locs cells slots Q (F0 m pc ls (.int (oI a) :: rest)) := by
  subst h
  exact k
theorem m_topN {a : Nat} (t : Nat) (h : a = t) (k : W p l e R s m args below meth c H locs cells slots Q (F0 m pc ls (.long (lN t) :: rest))) : W p l e R s m args below meth c H locs cells slots Q (F0 m pc ls (.long (lN a) :: rest)) := by
  subst h
  exact k
theorem m_iinc {i nL j : Nat} {n a : Int} (t : Int) (lv' : List (Nat × Value)) {lv : List (Nat × Value)} (hx : p.tables.exec = Jvm.exec) (hb : c.code = cc) (hdg : decode cc pc = .ok (.iinc i n, 3)) (h : lv_has ls nL lv) (hk : lv[j]? = some (i, .int (oI a))) (hv : a + n = t) (hn : i < nL) (hl : (i, Value.int (oI t)) :: lv.filter (fun q => !(q.1 == i) && !(q.1 + 1 == i && q.2.category == 2)) = lv') (k : ∀ ls' : Array Slot, lv_has ls' nL lv' → W p l e R s m args below meth c H locs cells slots Q (F0 m (pc + 3) ls' rest)) : W p l e R s m args below meth c H locs cells slots Q (F0 m pc ls rest) := by
  subst hv
  exact lv_iinc (v := oI (a + n)) (lv' := lv') hx hb hdg h hk (by rw [← oI_add]; rfl) hn hl k
theorem m_icmp_eq {a b : Int} {off : Int} (tgt : Nat) (hx : p.tables.exec = Jvm.exec) (hb : c.code = cc) (hdg : decode cc pc = .ok (.if_icmp .eq off, 3)) (ht : (pc : Int) + off = (tgt : Int)) (ha : -2147483648 ≤ a ∧ a < 2147483648) (hc : -2147483648 ≤ b ∧ b < 2147483648) (k1 : a = b → W p l e R s m args below meth c H locs cells slots Q (F0 m tgt ls (rest))) (k2 : a ≠ b → W p l e R s m args below meth c H locs cells slots Q (F0 m (pc + 3) ls (rest))) : W p l e R s m args below meth c H locs cells slots Q (F0 m pc ls (.int (oI b) :: .int (oI a) :: rest)) :=
  lv_icmp_eq hx hb hdg ht (fun q => k1 ((oI_inj ha hc).mp q)) (fun q => k2 (fun z => q ((oI_inj ha hc).mpr z)))
theorem m_if_eq {a : Int} {off : Int} (tgt : Nat) (hx : p.tables.exec = Jvm.exec) (hb : c.code = cc) (hdg : decode cc pc = .ok (.ifCond .eq off, 3)) (ht : (pc : Int) + off = (tgt : Int)) (ha : -2147483648 ≤ a ∧ a < 2147483648) (k1 : a = 0 → W p l e R s m args below meth c H locs cells slots Q (F0 m tgt ls (rest))) (k2 : a ≠ 0 → W p l e R s m args below meth c H locs cells slots Q (F0 m (pc + 3) ls (rest))) : W p l e R s m args below meth c H locs cells slots Q (F0 m pc ls (.int (oI a) :: rest)) :=
  lv_if_eq hx hb hdg ht (fun q => k1 ((oI_inj ha m_b0).mp q)) (fun q => k2 (fun z => q ((oI_inj ha m_b0).mpr z)))
theorem m_icmp_ne {a b : Int} {off : Int} (tgt : Nat) (hx : p.tables.exec = Jvm.exec) (hb : c.code = cc) (hdg : decode cc pc = .ok (.if_icmp .ne off, 3)) (ht : (pc : Int) + off = (tgt : Int)) (ha : -2147483648 ≤ a ∧ a < 2147483648) (hc : -2147483648 ≤ b ∧ b < 2147483648) (k1 : a ≠ b → W p l e R s m args below meth c H locs cells slots Q (F0 m tgt ls (rest))) (k2 : a = b → W p l e R s m args below meth c H locs cells slots Q (F0 m (pc + 3) ls (rest))) : W p l e R s m args below meth c H locs cells slots Q (F0 m pc ls (.int (oI b) :: .int (oI a) :: rest)) :=
  lv_icmp_ne hx hb hdg ht (fun q => k1 (fun z => q ((oI_inj ha hc).mpr z))) (fun q => k2 ((oI_inj ha hc).mp q))
theorem m_if_ne {a : Int} {off : Int} (tgt : Nat) (hx : p.tables.exec = Jvm.exec) (hb : c.code = cc) (hdg : decode cc pc = .ok (.ifCond .ne off, 3)) (ht : (pc : Int) + off = (tgt : Int)) (ha : -2147483648 ≤ a ∧ a < 2147483648) (k1 : a ≠ 0 → W p l e R s m args below meth c H locs cells slots Q (F0 m tgt ls (rest))) (k2 : a = 0 → W p l e R s m args below meth c H locs cells slots Q (F0 m (pc + 3) ls (rest))) : W p l e R s m args below meth c H locs cells slots Q (F0 m pc ls (.int (oI a) :: rest)) :=
  lv_if_ne hx hb hdg ht (fun q => k1 (fun z => q ((oI_inj ha m_b0).mpr z))) (fun q => k2 ((oI_inj ha m_b0).mp q))
theorem m_icmp_lt {a b : Int} {off : Int} (tgt : Nat) (hx : p.tables.exec = Jvm.exec) (hb : c.code = cc) (hdg : decode cc pc = .ok (.if_icmp .lt off, 3)) (ht : (pc : Int) + off = (tgt : Int)) (ha : -2147483648 ≤ a ∧ a < 2147483648) (hc : -2147483648 ≤ b ∧ b < 2147483648) (k1 : a < b → W p l e R s m args below meth c H locs cells slots Q (F0 m tgt ls (rest))) (k2 : b ≤ a → W p l e R s m args below meth c H locs cells slots Q (F0 m (pc + 3) ls (rest))) : W p l e R s m args below meth c H locs cells slots Q (F0 m pc ls (.int (oI b) :: .int (oI a) :: rest)) :=
  lv_icmp_lt hx hb hdg ht (fun q => k1 ((oI_lt ha hc).mp q)) (fun q => k2 (Int.not_lt.mp (fun z => q ((oI_lt ha hc).mpr z))))
theorem m_if_lt {a : Int} {off : Int} (tgt : Nat) (hx : p.tables.exec = Jvm.exec) (hb : c.code = cc) (hdg : decode cc pc = .ok (.ifCond .lt off, 3)) (ht : (pc : Int) + off = (tgt : Int)) (ha : -2147483648 ≤ a ∧ a < 2147483648) (k1 : a < 0 → W p l e R s m args below meth c H locs cells slots Q (F0 m tgt ls (rest))) (k2 : 0 ≤ a → W p l e R s m args below meth c H locs cells slots Q (F0 m (pc + 3) ls (rest))) : W p l e R s m args below meth c H locs cells slots Q (F0 m pc ls (.int (oI a) :: rest)) :=
  lv_if_lt hx hb hdg ht (fun q => k1 ((oI_lt ha m_b0).mp q)) (fun q => k2 (Int.not_lt.mp (fun z => q ((oI_lt ha m_b0).mpr z))))
theorem m_icmp_ge {a b : Int} {off : Int} (tgt : Nat) (hx : p.tables.exec = Jvm.exec) (hb : c.code = cc) (hdg : decode cc pc = .ok (.if_icmp .ge off, 3)) (ht : (pc : Int) + off = (tgt : Int)) (ha : -2147483648 ≤ a ∧ a < 2147483648) (hc : -2147483648 ≤ b ∧ b < 2147483648) (k1 : b ≤ a → W p l e R s m args below meth c H locs cells slots Q (F0 m tgt ls (rest))) (k2 : a < b → W p l e R s m args below meth c H locs cells slots Q (F0 m (pc + 3) ls (rest))) : W p l e R s m args below meth c H locs cells slots Q (F0 m pc ls (.int (oI b) :: .int (oI a) :: rest)) :=
  lv_icmp_ge hx hb hdg ht (fun q => k1 ((oI_le hc ha).mp q)) (fun q => k2 (Int.not_le.mp (fun z => q ((oI_le hc ha).mpr z))))
theorem m_if_ge {a : Int} {off : Int} (tgt : Nat) (hx : p.tables.exec = Jvm.exec) (hb : c.code = cc) (hdg : decode cc pc = .ok (.ifCond .ge off, 3)) (ht : (pc : Int) + off = (tgt : Int)) (ha : -2147483648 ≤ a ∧ a < 2147483648) (k1 : 0 ≤ a → W p l e R s m args below meth c H locs cells slots Q (F0 m tgt ls (rest))) (k2 : a < 0 → W p l e R s m args below meth c H locs cells slots Q (F0 m (pc + 3) ls (rest))) : W p l e R s m args below meth c H locs cells slots Q (F0 m pc ls (.int (oI a) :: rest)) :=
  lv_if_ge hx hb hdg ht (fun q => k1 ((oI_le m_b0 ha).mp q)) (fun q => k2 (Int.not_le.mp (fun z => q ((oI_le m_b0 ha).mpr z))))
theorem m_icmp_gt {a b : Int} {off : Int} (tgt : Nat) (hx : p.tables.exec = Jvm.exec) (hb : c.code = cc) (hdg : decode cc pc = .ok (.if_icmp .gt off, 3)) (ht : (pc : Int) + off = (tgt : Int)) (ha : -2147483648 ≤ a ∧ a < 2147483648) (hc : -2147483648 ≤ b ∧ b < 2147483648) (k1 : b < a → W p l e R s m args below meth c H locs cells slots Q (F0 m tgt ls (rest))) (k2 : a ≤ b → W p l e R s m args below meth c H locs cells slots Q (F0 m (pc + 3) ls (rest))) : W p l e R s m args below meth c H locs cells slots Q (F0 m pc ls (.int (oI b) :: .int (oI a) :: rest)) :=
  lv_icmp_gt hx hb hdg ht (fun q => k1 ((oI_lt hc ha).mp q)) (fun q => k2 (Int.not_lt.mp (fun z => q ((oI_lt hc ha).mpr z))))
theorem m_if_gt {a : Int} {off : Int} (tgt : Nat) (hx : p.tables.exec = Jvm.exec) (hb : c.code = cc) (hdg : decode cc pc = .ok (.ifCond .gt off, 3)) (ht : (pc : Int) + off = (tgt : Int)) (ha : -2147483648 ≤ a ∧ a < 2147483648) (k1 : 0 < a → W p l e R s m args below meth c H locs cells slots Q (F0 m tgt ls (rest))) (k2 : a ≤ 0 → W p l e R s m args below meth c H locs cells slots Q (F0 m (pc + 3) ls (rest))) : W p l e R s m args below meth c H locs cells slots Q (F0 m pc ls (.int (oI a) :: rest)) :=
  lv_if_gt hx hb hdg ht (fun q => k1 ((oI_lt m_b0 ha).mp q)) (fun q => k2 (Int.not_lt.mp (fun z => q ((oI_lt m_b0 ha).mpr z))))
theorem m_icmp_le {a b : Int} {off : Int} (tgt : Nat) (hx : p.tables.exec = Jvm.exec) (hb : c.code = cc) (hdg : decode cc pc = .ok (.if_icmp .le off, 3)) (ht : (pc : Int) + off = (tgt : Int)) (ha : -2147483648 ≤ a ∧ a < 2147483648) (hc : -2147483648 ≤ b ∧ b < 2147483648) (k1 : a ≤ b → W p l e R s m args below meth c H locs cells slots Q (F0 m tgt ls (rest))) (k2 : b < a → W p l e R s m args below meth c H locs cells slots Q (F0 m (pc + 3) ls (rest))) : W p l e R s m args below meth c H locs cells slots Q (F0 m pc ls (.int (oI b) :: .int (oI a) :: rest)) :=
  lv_icmp_le hx hb hdg ht (fun q => k1 ((oI_le ha hc).mp q)) (fun q => k2 (Int.not_le.mp (fun z => q ((oI_le ha hc).mpr z))))
theorem m_if_le {a : Int} {off : Int} (tgt : Nat) (hx : p.tables.exec = Jvm.exec) (hb : c.code = cc) (hdg : decode cc pc = .ok (.ifCond .le off, 3)) (ht : (pc : Int) + off = (tgt : Int)) (ha : -2147483648 ≤ a ∧ a < 2147483648) (k1 : a ≤ 0 → W p l e R s m args below meth c H locs cells slots Q (F0 m tgt ls (rest))) (k2 : 0 < a → W p l e R s m args below meth c H locs cells slots Q (F0 m (pc + 3) ls (rest))) : W p l e R s m args below meth c H locs cells slots Q (F0 m pc ls (.int (oI a) :: rest)) :=
  lv_if_le hx hb hdg ht (fun q => k1 ((oI_le ha m_b0).mp q)) (fun q => k2 (Int.not_le.mp (fun z => q ((oI_le ha m_b0).mpr z))))
theorem m_cmpI {a b : Int} (ha : -9223372036854775808 ≤ a ∧ a < 9223372036854775808) (hc : -9223372036854775808 ≤ b ∧ b < 9223372036854775808) : lg_cmp (oL a) (oL b) = oI (if b < a then 1 else if a = b then 0 else -1) := by
  unfold lg_cmp
  simp only [gt_iff_lt, oL_lt hc ha, oL_inj ha hc]
  split
  · rfl
  · split <;> rfl
theorem m_lcmp_eq {a b : Int} {off : Int} (tgt : Nat) (hx : p.tables.exec = Jvm.exec) (hb : c.code = cc) (hdg : decode cc pc = .ok (.lcmp, 1)) (hdg2 : decode cc (pc + 1) = .ok (.ifCond .eq off, 3)) (ht : ((pc + 1 : Nat) : Int) + off = (tgt : Int)) (ha : -9223372036854775808 ≤ a ∧ a < 9223372036854775808) (hc : -9223372036854775808 ≤ b ∧ b < 9223372036854775808) (k1 : a = b → W p l e R s m args below meth c H locs cells slots Q (F0 m tgt ls (rest))) (k2 : a ≠ b → W p l e R s m args below meth c H locs cells slots Q (F0 m (pc + 1 + 3) ls (rest))) : W p l e R s m args below meth c H locs cells slots Q (F0 m pc ls (.long (oL b) :: .long (oL a) :: rest)) := by
  refine W.lcmp hx hb hdg ?_
  rw [m_cmpI ha hc]
  refine m_if_eq tgt hx hb hdg2 ht (by split <;> (try split) <;> omega) (fun q => k1 ?_) (fun q => k2 ?_)
  all_goals (revert q; split <;> (try split) <;> omega)
theorem m_lcmp_ne {a b : Int} {off : Int} (tgt : Nat) (hx : p.tables.exec = Jvm.exec) (hb : c.code = cc) (hdg : decode cc pc = .ok (.lcmp, 1)) (hdg2 : decode cc (pc + 1) = .ok (.ifCond .ne off, 3)) (ht : ((pc + 1 : Nat) : Int) + off = (tgt : Int)) (ha : -9223372036854775808 ≤ a ∧ a < 9223372036854775808) (hc : -9223372036854775808 ≤ b ∧ b < 9223372036854775808) (k1 : a ≠ b → W p l e R s m args below meth c H locs cells slots Q (F0 m tgt ls (rest))) (k2 : a = b → W p l e R s m args below meth c H locs cells slots Q (F0 m (pc + 1 + 3) ls (rest))) : W p l e R s m args below meth c H locs cells slots Q (F0 m pc ls (.long (oL b) :: .long (oL a) :: rest)) := by
  refine W.lcmp hx hb hdg ?_
  rw [m_cmpI ha hc]
  refine m_if_ne tgt hx hb hdg2 ht (by split <;> (try split) <;> omega) (fun q => k1 ?_) (fun q => k2 ?_)
  all_goals (revert q; split <;> (try split) <;> omega)
theorem m_lcmp_lt {a b : Int} {off : Int} (tgt : Nat) (hx : p.tables.exec = Jvm.exec) (hb : c.code = cc) (hdg : decode cc pc = .ok (.lcmp, 1)) (hdg2 : decode cc (pc + 1) = .ok (.ifCond .lt off, 3)) (ht : ((pc + 1 : Nat) : Int) + off = (tgt : Int)) (ha : -9223372036854775808 ≤ a ∧ a < 9223372036854775808) (hc : -9223372036854775808 ≤ b ∧ b < 9223372036854775808) (k1 : a < b → W p l e R s m args below meth c H locs cells slots Q (F0 m tgt ls (rest))) (k2 : b ≤ a → W p l e R s m args below meth c H locs cells slots Q (F0 m (pc + 1 + 3) ls (rest))) : W p l e R s m args below meth c H locs cells slots Q (F0 m pc ls (.long (oL b) :: .long (oL a) :: rest)) := by
  refine W.lcmp hx hb hdg ?_
  rw [m_cmpI ha hc]
  refine m_if_lt tgt hx hb hdg2 ht (by split <;> (try split) <;> omega) (fun q => k1 ?_) (fun q => k2 ?_)
  all_goals (revert q; split <;> (try split) <;> omega)
theorem m_lcmp_ge {a b : Int} {off : Int} (tgt : Nat) (hx : p.tables.exec = Jvm.exec) (hb : c.code = cc) (hdg : decode cc pc = .ok (.lcmp, 1)) (hdg2 : decode cc (pc + 1) = .ok (.ifCond .ge off, 3)) (ht : ((pc + 1 : Nat) : Int) + off = (tgt : Int)) (ha : -9223372036854775808 ≤ a ∧ a < 9223372036854775808) (hc : -9223372036854775808 ≤ b ∧ b < 9223372036854775808) (k1 : b ≤ a → W p l e R s m args below meth c H locs cells slots Q (F0 m tgt ls (rest))) (k2 : a < b → W p l e R s m args below meth c H locs cells slots Q (F0 m (pc + 1 + 3) ls (rest))) : W p l e R s m args below meth c H locs cells slots Q (F0 m pc ls (.long (oL b) :: .long (oL a) :: rest)) := by
  refine W.lcmp hx hb hdg ?_
  rw [m_cmpI ha hc]
  refine m_if_ge tgt hx hb hdg2 ht (by split <;> (try split) <;> omega) (fun q => k1 ?_) (fun q => k2 ?_)
  all_goals (revert q; split <;> (try split) <;> omega)
theorem m_lcmp_gt {a b : Int} {off : Int} (tgt : Nat) (hx : p.tables.exec = Jvm.exec) (hb : c.code = cc) (hdg : decode cc pc = .ok (.lcmp, 1)) (hdg2 : decode cc (pc + 1) = .ok (.ifCond .gt off, 3)) (ht : ((pc + 1 : Nat) : Int) + off = (tgt : Int)) (ha : -9223372036854775808 ≤ a ∧ a < 9223372036854775808) (hc : -9223372036854775808 ≤ b ∧ b < 9223372036854775808) (k1 : b < a → W p l e R s m args below meth c H locs cells slots Q (F0 m tgt ls (rest))) (k2 : a ≤ b → W p l e R s m args below meth c H locs cells slots Q (F0 m (pc + 1 + 3) ls (rest))) : W p l e R s m args below meth c H locs cells slots Q (F0 m pc ls (.long (oL b) :: .long (oL a) :: rest)) := by
  refine W.lcmp hx hb hdg ?_
  rw [m_cmpI ha hc]
  refine m_if_gt tgt hx hb hdg2 ht (by split <;> (try split) <;> omega) (fun q => k1 ?_) (fun q => k2 ?_)
  all_goals (revert q; split <;> (try split) <;> omega)
theorem m_lcmp_le {a b : Int} {off : Int} (tgt : Nat) (hx : p.tables.exec = Jvm.exec) (hb : c.code = cc) (hdg : decode cc pc = .ok (.lcmp, 1)) (hdg2 : decode cc (pc + 1) = .ok (.ifCond .le off, 3)) (ht : ((pc + 1 : Nat) : Int) + off = (tgt : Int)) (ha : -9223372036854775808 ≤ a ∧ a < 9223372036854775808) (hc : -9223372036854775808 ≤ b ∧ b < 9223372036854775808) (k1 : a ≤ b → W p l e R s m args below meth c H locs cells slots Q (F0 m tgt ls (rest))) (k2 : b < a → W p l e R s m args below meth c H locs cells slots Q (F0 m (pc + 1 + 3) ls (rest))) : W p l e R s m args below meth c H locs cells slots Q (F0 m pc ls (.long (oL b) :: .long (oL a) :: rest)) := by
  refine W.lcmp hx hb hdg ?_
  rw [m_cmpI ha hc]
  refine m_if_le tgt hx hb hdg2 ht (by split <;> (try split) <;> omega) (fun q => k1 ?_) (fun q => k2 ?_)
  all_goals (revert q; split <;> (try split) <;> omega)
theorem m_lcmpN_eq {a b : Nat} {off : Int} (tgt : Nat) (hx : p.tables.exec = Jvm.exec) (hb : c.code = cc) (hdg : decode cc pc = .ok (.lcmp, 1)) (hdg2 : decode cc (pc + 1) = .ok (.ifCond .eq off, 3)) (ht : ((pc + 1 : Nat) : Int) + off = (tgt : Int)) (ha : a < 2 ^ 64) (hc : b < 2 ^ 64) (k1 : a = b → W p l e R s m args below meth c H locs cells slots Q (F0 m tgt ls (rest))) (k2 : a ≠ b → W p l e R s m args below meth c H locs cells slots Q (F0 m (pc + 1 + 3) ls (rest))) : W p l e R s m args below meth c H locs cells slots Q (F0 m pc ls (.long (lN b) :: .long (lN a) :: rest)) := by
  have key : lg_cmp (lN a) (lN b) = 0 ↔ a = b := by
    rw [← oN_inj ha hc]
    unfold lg_cmp
    split
    · rename_i h
      constructor
      · intro z; exact absurd z (by decide)
      · intro z; rw [z] at h; exact (Int64.lt_irrefl h).elim
    · split
      · rename_i h; exact ⟨fun _ => h, fun _ => rfl⟩
      · rename_i h; exact ⟨fun z => absurd z (by decide), fun z => absurd z h⟩
  refine W.lcmp hx hb hdg ?_
  refine lv_if_eq hx hb hdg2 ht (fun q => k1 ?_) (fun q => k2 ?_)
  · exact key.mp q
  · exact fun z => q (key.mpr z)
theorem m_lcmpN_ne {a b : Nat} {off : Int} (tgt : Nat) (hx : p.tables.exec = Jvm.exec) (hb : c.code = cc) (hdg : decode cc pc = .ok (.lcmp, 1)) (hdg2 : decode cc (pc + 1) = .ok (.ifCond .ne off, 3)) (ht : ((pc + 1 : Nat) : Int) + off = (tgt : Int)) (ha : a < 2 ^ 64) (hc : b < 2 ^ 64) (k1 : a ≠ b → W p l e R s m args below meth c H locs cells slots Q (F0 m tgt ls (rest))) (k2 : a = b → W p l e R s m args below meth c H locs cells slots Q (F0 m (pc + 1 + 3) ls (rest))) : W p l e R s m args below meth c H locs cells slots Q (F0 m pc ls (.long (lN b) :: .long (lN a) :: rest)) := by
  have key : lg_cmp (lN a) (lN b) = 0 ↔ a = b := by
    rw [← oN_inj ha hc]
    unfold lg_cmp
    split
    · rename_i h
      constructor
      · intro z; exact absurd z (by decide)
      · intro z; rw [z] at h; exact (Int64.lt_irrefl h).elim
    · split
      · rename_i h; exact ⟨fun _ => h, fun _ => rfl⟩
      · rename_i h; exact ⟨fun z => absurd z (by decide), fun z => absurd z h⟩
  refine W.lcmp hx hb hdg ?_
  refine lv_if_ne hx hb hdg2 ht (fun q => k1 ?_) (fun q => k2 ?_)
  · exact fun z => q (key.mpr z)
  · exact key.mp q
theorem m_tabIn {dflt lo hi : Int} {offs : Array Int} {len : Nat} {z : Int} {off : Int} (tgt : Nat) (hx : p.tables.exec = Jvm.exec) (hb : c.code = cc) (hdg : decode cc pc = .ok (.tableswitch dflt lo hi offs, len)) (hz : -2147483648 ≤ z ∧ z < 2147483648) (h1 : lo ≤ z ∧ z ≤ hi) (ho : offs[(z - lo).toNat]? = some off) (ht : (pc : Int) + off = (tgt : Int)) (k : W p l e R s m args below meth c H locs cells slots Q (F0 m tgt ls (rest))) : W p l e R s m args below meth c H locs cells slots Q (F0 m pc ls (.int (oI z) :: rest)) :=
  lv_tableIn hx hb hdg (by rw [oI_toInt hz]; omega) (by rw [oI_toInt hz]; omega) (by rw [oI_toInt hz]; exact ho) ht k
theorem m_tabOut {dflt lo hi : Int} {offs : Array Int} {len : Nat} {z : Int} (tgt : Nat) (hx : p.tables.exec = Jvm.exec) (hb : c.code = cc) (hdg : decode cc pc = .ok (.tableswitch dflt lo hi offs, len)) (hz : -2147483648 ≤ z ∧ z < 2147483648) (h1 : z < lo ∨ hi < z) (ht : (pc : Int) + dflt = (tgt : Int)) (k : W p l e R s m args below meth c H locs cells slots Q (F0 m tgt ls (rest))) : W p l e R s m args below meth c H locs cells slots Q (F0 m pc ls (.int (oI z) :: rest)) :=
  lv_tableOut hx hb hdg (by rw [oI_toInt hz]; omega) ht k
theorem m_get (hx : p.tables.exec = Jvm.exec) (hb : c.code = cc) (hts : ∀ w ∈ wsL_law, w.before args s = true) {C : String} {T : u_T} {nf ci index : Nat} (hin : ∀ w ∈ u_ws C T nf, w ∈ wsL_law) (hown : s.vm.findClass C = some m.cls) (hK : oK b0 D cT s) (hH : oH b0 D N ad H0 σ H locs) {k : Nat} (hk : k < N) {fs : List Value} (he : σ k = .inr (ci, fs)) (hc : vwCl[ci]? = some (C, T, nf)) (i : Nat) (hi : i < nf) (hT : (T i).1 = C) (hlink : Cond.fieldLink C index (T i).1 (T i).2.1 (T i).2.2.1 ∈ wsL_law) {v : Value} (hv : fs[i]? = some v) (hdg : decode cc pc = .ok (.getfield index, 3)) (kk : W p l e R s m args below meth c H locs cells slots Q (F0 m (pc + 3) ls (v :: rest))) : W p l e R s m args below meth c H locs cells slots Q (F0 m pc ls (.ref (ad k) :: rest)) :=
  va_get (D := D) (ci := ci) hx hb hts hin hown hK.1 hH.1 k (by rw [oW_get hk, he]) hc i hi (hts _ hlink) (fun _ h9 => h9) hv hdg kk
theorem m_put (hx : p.tables.exec = Jvm.exec) (hb : c.code = cc) (hts : ∀ w ∈ wsL_law, w.before args s = true) {C : String} {T : u_T} {nf ci index : Nat} (hin : ∀ w ∈ u_ws C T nf, w ∈ wsL_law) (ty0 : Nat → FieldType) (hty : ∀ k, k < nf → parseFieldDescriptor (T k).2.2.1 = some (ty0 k)) (hnm : ∀ a, a < nf → ∀ b, b < nf → a ≠ b → (T a).2.1 ≠ (T b).2.1) (hown : s.vm.findClass C = some m.cls) (hK : oK b0 D cT s) (hH : oH b0 D N ad H0 σ H locs) (hA : oAd b0 N ad) {k : Nat} (hk : k < N) {fs : List Value} (he : σ k = .inr (ci, fs)) (hc : vwCl[ci]? = some (C, T, nf)) (i : Nat) (hi : i < nf) (hlink : Cond.fieldLink C index (T i).1 (T i).2.1 (T i).2.2.1 ∈ wsL_law) (hfin : (T i).2.2.2 = false) {ty : FieldType} {v : Value} (hd : parseFieldDescriptor (T i).2.2.1 = some ty) (hn : narrow ty v = v) (hfit : fits ty v = true) (hl : i < fs.length) {fs' : List Value} (hfs : fs.set i v = fs') (hdg : decode cc pc = .ok (.putfield index, 3))
    (kk : ∀ (H1 : Heap) (locs1 : List Loc) (σ1 : Nat → va_E), σ1 k = .inr (ci, fs') → (∀ q : Nat, q ≠ k → σ1 q = σ q) → oH b0 D N ad H0 σ1 H1 locs1 → W p l e R s m args below meth c H1 locs1 cells slots Q (F0 m (pc + 3) ls (rest))) : W p l e R s m args below meth c H locs cells slots Q (F0 m pc ls (v :: .ref (ad k) :: rest)) := by
  subst hfs
  refine va_put (D := D) (ci := ci) hx hb hts hin ty0 hty hnm hown hK.1 hH.1 (hA.D σ) hH.2.1 k (by rw [oW_get hk, he]) hc i hi (hts _ hlink) (fun _ h9 => h9) hfin hd hn hfit hl hdg (fun H1 locs1 hP hD hS => ?_)
  rw [oW_set] at hP
  exact kk H1 locs1 _ (by simp [va_up]) (fun q hq => by simp [va_up, hq]) ⟨hP, hS, hH.2.2⟩
theorem m_putF (hx : p.tables.exec = Jvm.exec) (hb : c.code = cc) (hts : ∀ w ∈ wsL_law, w.before args s = true) {C : String} {T : u_T} {nf ci index : Nat} (hin : ∀ w ∈ u_ws C T nf, w ∈ wsL_law) (ty0 : Nat → FieldType) (hty : ∀ k, k < nf → parseFieldDescriptor (T k).2.2.1 = some (ty0 k)) (hnm : ∀ a, a < nf → ∀ b, b < nf → a ≠ b → (T a).2.1 ≠ (T b).2.1) (hown : s.vm.findClass C = some m.cls) (hK : oK b0 D cT s) (hH : oH b0 D N ad H0 σ H locs) (hA : oAd b0 N ad) (hmi : meth.name = "<init>") {k : Nat} (hk : k < N) {fs : List Value} (he : σ k = .inr (ci, fs)) (hc : vwCl[ci]? = some (C, T, nf)) (i : Nat) (hi : i < nf) (hTC : (T i).1 = C) (hfin : (T i).2.2.2 = true) (hlink : Cond.fieldLink C index (T i).1 (T i).2.1 (T i).2.2.1 ∈ wsL_law) {ty : FieldType} {v : Value} (hd : parseFieldDescriptor (T i).2.2.1 = some ty) (hn : narrow ty v = v) (hfit : fits ty v = true) (hl : i < fs.length) {fs' : List Value} (hfs : fs.set i v = fs') (hdg : decode cc pc = .ok (.putfield index, 3))
    (kk : ∀ (H1 : Heap) (locs1 : List Loc) (σ1 : Nat → va_E), σ1 k = .inr (ci, fs') → (∀ q : Nat, q ≠ k → σ1 q = σ q) → oH b0 D N ad H0 σ1 H1 locs1 → W p l e R s m args below meth c H1 locs1 cells slots Q (F0 m (pc + 3) ls (rest))) : W p l e R s m args below meth c H locs cells slots Q (F0 m pc ls (v :: .ref (ad k) :: rest)) := by
  subst hfs
  refine va_putF (D := D) (ci := ci) hx hb hts hin ty0 hty hnm hown hK.1 hH.1 (hA.D σ) hH.2.1 k (by rw [oW_get hk, he]) hc i hi (hts _ hlink) (fun _ h9 => h9) hfin hmi hTC hd hn hfit hl hdg (fun H1 locs1 hP hD hS => ?_)
  rw [oW_set] at hP
  exact kk H1 locs1 _ (by simp [va_up]) (fun q hq => by simp [va_up, hq]) ⟨hP, hS, hH.2.2⟩
theorem m_iald (hx : p.tables.exec = Jvm.exec) (hb : c.code = cc) (hK : oK b0 D cT s) (hH : oH b0 D N ad H0 σ H locs) {k : Nat} (hk : k < N) {n : Nat} {a : Nat → Int} (he : σ k = oAI cT n a) {i : Int} (j : Nat) (hj : i = (j : Int)) (hlt : j < n) (hn : n < 2147483648) (hdg : decode cc pc = .ok (.iaload, 1)) (kk : W p l e R s m args below meth c H locs cells slots Q (F0 m (pc + 1) ls (.int (oI (a j)) :: rest))) : W p l e R s m args below meth c H locs cells slots Q (F0 m pc ls (.int (oI i) :: .ref (ad k) :: rest)) := by
  subst hj
  refine va_iald hx hb hK.1 hH.1 k 0 (by rw [oW_get hk, he]; rfl) rfl (oI_in hlt hn) hdg ?_
  rw [oI_clamp (by omega)]
  exact kk
theorem m_cald (hx : p.tables.exec = Jvm.exec) (hb : c.code = cc) (hK : oK b0 D cT s) (hH : oH b0 D N ad H0 σ H locs) {k : Nat} (hk : k < N) {n : Nat} {a : Nat → Int} (he : σ k = oAC cT n a) {i : Int} (j : Nat) (hj : i = (j : Int)) (hlt : j < n) (hn : n < 2147483648) (hdg : decode cc pc = .ok (.caload, 1)) (kk : W p l e R s m args below meth c H locs cells slots Q (F0 m (pc + 1) ls (.int (oI (a j)) :: rest))) : W p l e R s m args below meth c H locs cells slots Q (F0 m pc ls (.int (oI i) :: .ref (ad k) :: rest)) := by
  subst hj
  refine va_cald hx hb hK.1 hH.1 k 2 (by rw [oW_get hk, he]; rfl) rfl (oI_in hlt hn) hdg ?_
  rw [oI_clamp (by omega)]
  exact kk
theorem m_zald (hx : p.tables.exec = Jvm.exec) (hb : c.code = cc) (hK : oK b0 D cT s) (hH : oH b0 D N ad H0 σ H locs) {k : Nat} (hk : k < N) {n : Nat} {a : Nat → Int} (he : σ k = oAZ cT n a) {i : Int} (j : Nat) (hj : i = (j : Int)) (hlt : j < n) (hn : n < 2147483648) (hdg : decode cc pc = .ok (.baload, 1)) (kk : W p l e R s m args below meth c H locs cells slots Q (F0 m (pc + 1) ls (.int (oI (a j)) :: rest))) : W p l e R s m args below meth c H locs cells slots Q (F0 m pc ls (.int (oI i) :: .ref (ad k) :: rest)) := by
  subst hj
  refine va_zald hx hb hK.1 hH.1 k 3 (by rw [oW_get hk, he]; rfl) rfl (oI_in hlt hn) hdg ?_
  rw [oI_clamp (by omega)]
  exact kk
theorem m_lald (hx : p.tables.exec = Jvm.exec) (hb : c.code = cc) (hK : oK b0 D cT s) (hH : oH b0 D N ad H0 σ H locs) {k : Nat} (hk : k < N) {n : Nat} {a : Nat → Int64} (he : σ k = oAL cT n a) {i : Int} (j : Nat) (hj : i = (j : Int)) (hlt : j < n) (hn : n < 2147483648) (hdg : decode cc pc = .ok (.laload, 1)) (kk : W p l e R s m args below meth c H locs cells slots Q (F0 m (pc + 1) ls (.long (a j) :: rest))) : W p l e R s m args below meth c H locs cells slots Q (F0 m pc ls (.int (oI i) :: .ref (ad k) :: rest)) := by
  subst hj
  refine va_lald hx hb hK.1 hH.1 k 1 (by rw [oW_get hk, he]; rfl) rfl (oI_in hlt hn) hdg ?_
  rw [oI_clamp (by omega)]
  exact kk
theorem m_aald (hx : p.tables.exec = Jvm.exec) (hb : c.code = cc) (hK : oK b0 D cT s) (hH : oH b0 D N ad H0 σ H locs) {k : Nat} (hk : k < N) {n : Nat} {a : Nat → Option Nat} (he : σ k = oAO cT n a) {i : Int} (j : Nat) (hj : i = (j : Int)) (hlt : j < n) (hn : n < 2147483648) (hdg : decode cc pc = .ok (.aaload, 1)) (kk : W p l e R s m args below meth c H locs cells slots Q (F0 m (pc + 1) ls (va_rf (a j) :: rest))) : W p l e R s m args below meth c H locs cells slots Q (F0 m pc ls (.int (oI i) :: .ref (ad k) :: rest)) := by
  subst hj
  refine va_aldq hx hb hK.1 hH.1 k 4 (by rw [oW_get hk, he]; rfl) rfl (oI_in hlt hn) hdg ?_
  rw [oI_clamp (by omega)]
  exact kk
theorem m_iast (hx : p.tables.exec = Jvm.exec) (hb : c.code = cc) (hK : oK b0 D cT s) (hH : oH b0 D N ad H0 σ H locs) (hA : oAd b0 N ad) {k : Nat} (hk : k < N) {n : Nat} {a : Nat → Int} (he : σ k = oAI cT n a) {i : Int} {x : Int} (j : Nat) (hj : i = (j : Int)) (hlt : j < n) (hn : n < 2147483648) (hdg : decode cc pc = .ok (.iastore, 1))
    (kk : ∀ (H1 : Heap) (locs1 : List Loc) (σ1 : Nat → va_E), σ1 k = oAI cT n (va_up a j x) → (∀ q : Nat, q ≠ k → σ1 q = σ q) → oH b0 D N ad H0 σ1 H1 locs1 → W p l e R s m args below meth c H1 locs1 cells slots Q (F0 m (pc + 1) ls (rest))) : W p l e R s m args below meth c H locs cells slots Q (F0 m pc ls (.int (oI x) :: .int (oI i) :: .ref (ad k) :: rest)) := by
  subst hj
  refine va_iast hx hb hK.1 hH.1 (hA.D σ) hH.2.1 k 0 (by rw [oW_get hk, he]; rfl) rfl (oI_in hlt hn) hdg (fun H1 locs1 hP hD hS => ?_)
  rw [oI_clamp (by omega), oW_set] at hP
  refine kk H1 locs1 _ ((if_pos rfl).trans (congrArg (fun f => (Sum.inl (cT 0, n, Sum.inl f) : va_E)) ?_)) (fun q hq => if_neg hq) ⟨hP, hS, hH.2.2⟩
  funext q
  simp only [upd, va_up]
  split <;> rfl
theorem m_last (hx : p.tables.exec = Jvm.exec) (hb : c.code = cc) (hK : oK b0 D cT s) (hH : oH b0 D N ad H0 σ H locs) (hA : oAd b0 N ad) {k : Nat} (hk : k < N) {n : Nat} {a : Nat → Int64} (he : σ k = oAL cT n a) {i : Int} {x : Int64} (j : Nat) (hj : i = (j : Int)) (hlt : j < n) (hn : n < 2147483648) (hdg : decode cc pc = .ok (.lastore, 1))
    (kk : ∀ (H1 : Heap) (locs1 : List Loc) (σ1 : Nat → va_E), σ1 k = oAL cT n (va_up a j x) → (∀ q : Nat, q ≠ k → σ1 q = σ q) → oH b0 D N ad H0 σ1 H1 locs1 → W p l e R s m args below meth c H1 locs1 cells slots Q (F0 m (pc + 1) ls (rest))) : W p l e R s m args below meth c H locs cells slots Q (F0 m pc ls (.long x :: .int (oI i) :: .ref (ad k) :: rest)) := by
  subst hj
  refine va_last hx hb hK.1 hH.1 (hA.D σ) hH.2.1 k 1 (by rw [oW_get hk, he]; rfl) rfl (oI_in hlt hn) hdg (fun H1 locs1 hP hD hS => ?_)
  rw [oI_clamp (by omega), oW_set] at hP
  exact kk H1 locs1 _ (if_pos rfl) (fun q hq => if_neg hq) ⟨hP, hS, hH.2.2⟩
theorem m_zast (hx : p.tables.exec = Jvm.exec) (hb : c.code = cc) (hK : oK b0 D cT s) (hH : oH b0 D N ad H0 σ H locs) (hA : oAd b0 N ad) {k : Nat} (hk : k < N) {n : Nat} {a : Nat → Int} (he : σ k = oAZ cT n a) {i : Int} {x : Int} (j : Nat) (hj : i = (j : Int)) (hlt : j < n) (hn : n < 2147483648) (hv : vp_nar .boolean (oI x) = oI x) (hdg : decode cc pc = .ok (.bastore, 1))
    (kk : ∀ (H1 : Heap) (locs1 : List Loc) (σ1 : Nat → va_E), σ1 k = oAZ cT n (va_up a j x) → (∀ q : Nat, q ≠ k → σ1 q = σ q) → oH b0 D N ad H0 σ1 H1 locs1 → W p l e R s m args below meth c H1 locs1 cells slots Q (F0 m (pc + 1) ls (rest))) : W p l e R s m args below meth c H locs cells slots Q (F0 m pc ls (.int (oI x) :: .int (oI i) :: .ref (ad k) :: rest)) := by
  subst hj
  refine va_zast hx hb hK.1 hH.1 (hA.D σ) hH.2.1 k 3 (by rw [oW_get hk, he]; rfl) rfl (oI_in hlt hn) hdg (fun H1 locs1 hP hD hS => ?_)
  rw [oI_clamp (by omega), hv, oW_set] at hP
  refine kk H1 locs1 _ ((if_pos rfl).trans (congrArg (fun f => (Sum.inl (cT 3, n, Sum.inl f) : va_E)) ?_)) (fun q hq => if_neg hq) ⟨hP, hS, hH.2.2⟩
  funext q
  simp only [upd, va_up]
  split <;> rfl
theorem m_cast (hx : p.tables.exec = Jvm.exec) (hb : c.code = cc) (hK : oK b0 D cT s) (hH : oH b0 D N ad H0 σ H locs) (hA : oAd b0 N ad) {k : Nat} (hk : k < N) {n : Nat} {a : Nat → Int} (he : σ k = oAC cT n a) {i : Int} {x : Int} (j : Nat) (hj : i = (j : Int)) (hlt : j < n) (hn : n < 2147483648) (hv : vp_nar .char (oI x) = oI x) (hdg : decode cc pc = .ok (.castore, 1))
    (kk : ∀ (H1 : Heap) (locs1 : List Loc) (σ1 : Nat → va_E), σ1 k = oAC cT n (va_up a j x) → (∀ q : Nat, q ≠ k → σ1 q = σ q) → oH b0 D N ad H0 σ1 H1 locs1 → W p l e R s m args below meth c H1 locs1 cells slots Q (F0 m (pc + 1) ls (rest))) : W p l e R s m args below meth c H locs cells slots Q (F0 m pc ls (.int (oI x) :: .int (oI i) :: .ref (ad k) :: rest)) := by
  subst hj
  refine va_cast hx hb hK.1 hH.1 (hA.D σ) hH.2.1 k 2 (by rw [oW_get hk, he]; rfl) rfl (oI_in hlt hn) hdg (fun H1 locs1 hP hD hS => ?_)
  rw [oI_clamp (by omega), hv, oW_set] at hP
  refine kk H1 locs1 _ ((if_pos rfl).trans (congrArg (fun f => (Sum.inl (cT 2, n, Sum.inl f) : va_E)) ?_)) (fun q hq => if_neg hq) ⟨hP, hS, hH.2.2⟩
  funext q
  simp only [upd, va_up]
  split <;> rfl
theorem m_nz0 : vp_nar .boolean (oI 0) = oI 0 := by decide
theorem m_nz1 : vp_nar .boolean (oI 1) = oI 1 := by decide
theorem m_nc {x : Int} (h : 0 ≤ x ∧ x < 65536) : vp_nar .char (oI x) = oI x := by
  obtain ⟨n, rfl⟩ := Int.eq_ofNat_of_zero_le h.1
  rw [oI_nat]
  unfold vp_nar
  rw [(pk_charN (show n < 65536 by omega)).1]
/-- a call's words: an instance method, found by its own name -/
def oCV (own : String) (index : Nat) (C : String) (y : MethodName) (bytes : ByteArray) (maxL : Nat) (ret : Option FieldType) (n : Nat) : Prop :=
  (Cond.methodLink own index y ∈ wsL_law ∧ Cond.instanceMethod y ∈ wsL_law ∧ Cond.selects C y y ∈ wsL_law ∧ Cond.initialized C ∈ wsL_law ∧ Cond.code y bytes maxL ret ∈ wsL_law) ∧ y.cls = C ∧ y.cls ≠ "java/lang/invoke/MethodHandle" ∧ y.cls ≠ "java/lang/invoke/VarHandle" ∧ (parseMethodDescriptor y.desc).map (fun d => d.parameters.length) = some n
def oCS (own : String) (index : Nat) (y : MethodName) (bytes : ByteArray) (maxL : Nat) (ret : Option FieldType) (n : Nat) : Prop :=
  (Cond.methodLink own index y ∈ wsL_law ∧ Cond.static y ∈ wsL_law ∧ Cond.initialized y.cls ∈ wsL_law ∧ Cond.code y bytes maxL ret ∈ wsL_law) ∧ y.cls ≠ "java/lang/invoke/MethodHandle" ∧ y.cls ≠ "java/lang/invoke/VarHandle" ∧ (parseMethodDescriptor y.desc).map (fun d => d.parameters.length) = some n
def oCN (y : MethodName) (bytes : ByteArray) (maxL : Nat) (ret : Option FieldType) (n : Nat) : Prop :=
  (Cond.static y ∈ wsL_law ∧ Cond.initialized y.cls ∈ wsL_law ∧ Cond.code y bytes maxL ret ∈ wsL_law) ∧ y.cls ≠ "java/lang/invoke/MethodHandle" ∧ y.cls ≠ "java/lang/invoke/VarHandle" ∧ (parseMethodDescriptor y.desc).map (fun d => d.parameters.length) = some n
theorem o_good {y : MethodName} {bytes : ByteArray} {maxL : Nat} {ret : Option FieldType} (h : Cond.code y bytes maxL ret ∈ wsL_law) : GoodIn wsL_law (.code y bytes maxL ret :: wsL_law) := by
  intro w hw
  rcases List.mem_cons.mp hw with rfl | hw
  · exact ⟨h, good_of_word (wsL_law_good _ h)⟩
  · exact ⟨hw, good_of_word (wsL_law_good _ hw)⟩
theorem o_warm {As : List Value} (hK : oK b0 D cT s) (hH : oH b0 D N ad s.heap σ H locs) : ∀ U : State, U.heap = H → s.WarmedH U.vm → va_Pc As (oU b0 D cT N ad σ) As.toArray U := fun U hU hW => ⟨rfl, by rw [hU]; exact Nat.le_trans hH.2.2 hH.2.1.1, hK.call hH.2.1 hU hW, by rw [hU]; exact hH.1⟩

theorem m_callVi {y : MethodName} {bytes : ByteArray} {maxL nL fr lo n index : Nat} {ret : Option FieldType} {own : String} {As st : List Value} {lv : List (Nat × Value)} {post : Int32 → (Nat → va_E) → Prop} {C : String} {T : u_T} {nf ci k : Nat} {fs : List Value} (hx : p.tables.exec = Jvm.exec) (hb : c.code = cc) (hml : c.maxLocals = nL) (hown : s.vm.findClass own = some m.cls) (hts : ∀ w ∈ wsL_law, w.before args s = true) (hK : oK b0 D cT s) (hH : oH b0 D N ad s.heap σ H locs) (hl : lv_has ls nL lv) (cw : oCV own index C y bytes maxL ret n) (hM : Met l y (.code y bytes maxL ret :: wsL_law) { frames := fr, cells := 0, slots := 0, locals := lo } (va_Pc (.ref (ad k) :: As) (oU b0 D cT N ad σ)) (va_Qi post (oV D N ad) (fun q => b0 ≤ q)) 0 0 (fun q => b0 ≤ q)) (hR : fr + 1 ≤ R.frames ∧ 8 + (maxL + 11) + lo ≤ R.locals) (hcr : cells ≤ R.cells ∧ slots ≤ R.slots) (hn : As.length = n) (hk : k < N) (he : σ k = .inr (ci, fs)) (hc : vwCl[ci]? = some (C, T, nf)) (hst : st = As.reverse ++ .ref (ad k) :: rest) (hrm : (rest.map fun v => v.category).sum ≤ 8) (hdg : decode cc pc = .ok (.invokevirtual index, 3))
    (kk : ∀ (r : Int32) (σ1 : Nat → va_E) (H1 : Heap) (locs1 : List Loc), post r σ1 → oH b0 D N ad s.heap σ1 H1 locs1 → W p l e R s m args below meth c H1 locs1 cells slots Q (F0 m (pc + 3) ls (.int r :: rest))) : W p l e R s m args below meth c H locs cells slots Q (F0 m pc ls (st)) := by
  obtain ⟨⟨g1, g2, g3, g4, g5⟩, hd⟩ := cw
  have hG : GoodIn wsL_law (wsV own index C y (.code y bytes maxL ret :: wsL_law)) := by
    intro w hw
    rcases List.mem_append.mp hw with hw | hw
    · simp only [List.mem_cons, List.not_mem_nil, or_false] at hw
      rcases hw with rfl | rfl | rfl | rfl
      · exact ⟨g1, good_of_word (wsL_law_good _ g1)⟩
      · exact ⟨g2, good_of_word (wsL_law_good _ g2)⟩
      · exact ⟨g3, good_of_word (wsL_law_good _ g3)⟩
      · exact ⟨g4, good_of_word (wsL_law_good _ g4)⟩
    · exact o_good g5 w hw
  refine va_calli (va_runV (As := As) (rest := rest) ⟨hx, hb, hml, hown, hts⟩ hM (cwV n hts hG rfl rfl rfl hd hR) ⟨oU.blind, va_recv hK.1 hH.1 hc (by rw [oW_get hk, he]), o_warm hK hH⟩ rfl hn hl.1 hst (lv_room hrm) hdg hcr) hH.2.1 (fun q _ h => h) (fun q h => h) (fun r u t H1 locs1 ht hvm hw hB hz1 hk1 hS => kk r u H1 locs1 hw ⟨by unfold oV at hB; rw [ht] at hB; exact hB, hS, hH.2.2⟩)
theorem m_callSi {y : MethodName} {bytes : ByteArray} {maxL nL fr lo n index : Nat} {ret : Option FieldType} {own : String} {As st : List Value} {lv : List (Nat × Value)} {post : Int32 → (Nat → va_E) → Prop} (hx : p.tables.exec = Jvm.exec) (hb : c.code = cc) (hml : c.maxLocals = nL) (hown : s.vm.findClass own = some m.cls) (hts : ∀ w ∈ wsL_law, w.before args s = true) (hK : oK b0 D cT s) (hH : oH b0 D N ad s.heap σ H locs) (hl : lv_has ls nL lv) (cw : oCS own index y bytes maxL ret n) (hyo : y.cls = own) (hM : Met l y (.code y bytes maxL ret :: wsL_law) { frames := fr, cells := 0, slots := 0, locals := lo } (va_Pc (As) (oU b0 D cT N ad σ)) (va_Qi post (oV D N ad) (fun q => b0 ≤ q)) 0 0 (fun q => b0 ≤ q)) (hR : fr + 1 ≤ R.frames ∧ 8 + (maxL + 11) + lo ≤ R.locals) (hcr : cells ≤ R.cells ∧ slots ≤ R.slots) (hn : As.length = n) (hst : st = As.reverse ++ rest) (hrm : (rest.map fun v => v.category).sum ≤ 8) (hdg : decode cc pc = .ok (.invokestatic index, 3))
    (kk : ∀ (r : Int32) (σ1 : Nat → va_E) (H1 : Heap) (locs1 : List Loc), post r σ1 → oH b0 D N ad s.heap σ1 H1 locs1 → W p l e R s m args below meth c H1 locs1 cells slots Q (F0 m (pc + 3) ls (.int r :: rest))) : W p l e R s m args below meth c H locs cells slots Q (F0 m pc ls (st)) := by
  obtain ⟨⟨g1, g2, g4, g5⟩, hd⟩ := cw
  have hG : GoodIn wsL_law (wsS own index y (.code y bytes maxL ret :: wsL_law)) := by
    intro w hw
    rcases List.mem_append.mp hw with hw | hw
    · simp only [List.mem_cons, List.not_mem_nil, or_false] at hw
      rcases hw with rfl | rfl | rfl
      · exact ⟨g1, good_of_word (wsL_law_good _ g1)⟩
      · exact ⟨g2, good_of_word (wsL_law_good _ g2)⟩
      · rw [hyo] at g4
        exact ⟨g4, good_of_word (wsL_law_good _ g4)⟩
    · exact o_good g5 w hw
  refine va_calli (va_runS (As := As) (rest := rest) ⟨hx, hb, hml, hown, hts⟩ hM (cwS n hts hG rfl rfl rfl ⟨hyo, hd⟩ hR) ⟨oU.blind, o_warm hK hH⟩ rfl hn hl.1 hst (lv_room hrm) hdg hcr) hH.2.1 (fun q _ h => h) (fun q h => h) (fun r u t H1 locs1 ht hvm hw hB hz1 hk1 hS => kk r u H1 locs1 hw ⟨by unfold oV at hB; rw [ht] at hB; exact hB, hS, hH.2.2⟩)
theorem m_callFi {y : MethodName} {bytes : ByteArray} {maxL nL fr lo n index : Nat} {ret : Option FieldType} {own : String} {As st : List Value} {lv : List (Nat × Value)} {post : Int32 → (Nat → va_E) → Prop} (hx : p.tables.exec = Jvm.exec) (hb : c.code = cc) (hml : c.maxLocals = nL) (hown : s.vm.findClass own = some m.cls) (hts : ∀ w ∈ wsL_law, w.before args s = true) (hK : oK b0 D cT s) (hH : oH b0 D N ad s.heap σ H locs) (hl : lv_has ls nL lv) (cw : oCS own index y bytes maxL ret n) (hM : Met l y (.code y bytes maxL ret :: wsL_law) { frames := fr, cells := 0, slots := 0, locals := lo } (va_Pc (As) (oU b0 D cT N ad σ)) (va_Qi post (oV D N ad) (fun q => b0 ≤ q)) 0 0 (fun q => b0 ≤ q)) (hR : fr + 1 ≤ R.frames ∧ 8 + (maxL + 11) + lo ≤ R.locals) (hcr : cells ≤ R.cells ∧ slots ≤ R.slots) (hn : As.length = n) (hst : st = As.reverse ++ rest) (hrm : (rest.map fun v => v.category).sum ≤ 8) (hdg : decode cc pc = .ok (.invokestatic index, 3))
    (kk : ∀ (r : Int32) (σ1 : Nat → va_E) (H1 : Heap) (locs1 : List Loc), post r σ1 → oH b0 D N ad s.heap σ1 H1 locs1 → W p l e R s m args below meth c H1 locs1 cells slots Q (F0 m (pc + 3) ls (.int r :: rest))) : W p l e R s m args below meth c H locs cells slots Q (F0 m pc ls (st)) := by
  obtain ⟨⟨g1, g2, g4, g5⟩, hd⟩ := cw
  refine va_calli (va_runS (As := As) (rest := rest) ⟨hx, hb, hml, hown, hts⟩ hM ⟨callB_of n hts (o_good g5) rfl rfl rfl (hts _ g4) (hts _ g1) hd hR, hts _ g2⟩ ⟨oU.blind, o_warm hK hH⟩ rfl hn hl.1 hst (lv_room hrm) hdg hcr) hH.2.1 (fun q _ h => h) (fun q h => h) (fun r u t H1 locs1 ht hvm hw hB hz1 hk1 hS => kk r u H1 locs1 hw ⟨by unfold oV at hB; rw [ht] at hB; exact hB, hS, hH.2.2⟩)
theorem m_callNi {y : MethodName} {bytes : ByteArray} {maxL nL fr lo n index : Nat} {ret : Option FieldType} {own : String} {As st : List Value} {lv : List (Nat × Value)} {post : Int32 → (Nat → va_E) → Prop} {host : String} (hx : p.tables.exec = Jvm.exec) (hb : c.code = cc) (hml : c.maxLocals = nL) (hown : s.vm.findClass own = some m.cls) (hts : ∀ w ∈ wsL_law, w.before args s = true) (hK : oK b0 D cT s) (hH : oH b0 D N ad s.heap σ H locs) (hl : lv_has ls nL lv) (cw : oCN y bytes maxL ret n) (hnl : va_Nw (.methodLinkNest own index y host) s) (hM : Met l y (.code y bytes maxL ret :: wsL_law) { frames := fr, cells := 0, slots := 0, locals := lo } (va_Pc (As) (oU b0 D cT N ad σ)) (va_Qi post (oV D N ad) (fun q => b0 ≤ q)) 0 0 (fun q => b0 ≤ q)) (hR : fr + 1 ≤ R.frames ∧ 8 + (maxL + 11) + lo ≤ R.locals) (hcr : cells ≤ R.cells ∧ slots ≤ R.slots) (hn : As.length = n) (hst : st = As.reverse ++ rest) (hrm : (rest.map fun v => v.category).sum ≤ 8) (hdg : decode cc pc = .ok (.invokestatic index, 3))
    (kk : ∀ (r : Int32) (σ1 : Nat → va_E) (H1 : Heap) (locs1 : List Loc), post r σ1 → oH b0 D N ad s.heap σ1 H1 locs1 → W p l e R s m args below meth c H1 locs1 cells slots Q (F0 m (pc + 3) ls (.int r :: rest))) : W p l e R s m args below meth c H locs cells slots Q (F0 m pc ls (st)) := by
  obtain ⟨⟨g2, g4, g5⟩, hd⟩ := cw
  refine va_calli (va_runSN (As := As) (rest := rest) ⟨hx, hb, hml, hown, hts⟩ hM ⟨va_cnB n hts (o_good g5) rfl rfl rfl hnl (hts _ g4) hd hR, hts _ g2, trivial⟩ ⟨oU.blind, o_warm hK hH⟩ rfl hn hl.1 hst (lv_room hrm) hdg hcr) hH.2.1 (fun q _ h => h) (fun q h => h) (fun r u t H1 locs1 ht hvm hw hB hz1 hk1 hS => kk r u H1 locs1 hw ⟨by unfold oV at hB; rw [ht] at hB; exact hB, hS, hH.2.2⟩)
theorem m_callVl {y : MethodName} {bytes : ByteArray} {maxL nL fr lo n index : Nat} {ret : Option FieldType} {own : String} {As st : List Value} {lv : List (Nat × Value)} {post : Int64 → (Nat → va_E) → Prop} {C : String} {T : u_T} {nf ci k : Nat} {fs : List Value} (hx : p.tables.exec = Jvm.exec) (hb : c.code = cc) (hml : c.maxLocals = nL) (hown : s.vm.findClass own = some m.cls) (hts : ∀ w ∈ wsL_law, w.before args s = true) (hK : oK b0 D cT s) (hH : oH b0 D N ad s.heap σ H locs) (hl : lv_has ls nL lv) (cw : oCV own index C y bytes maxL ret n) (hM : Met l y (.code y bytes maxL ret :: wsL_law) { frames := fr, cells := 0, slots := 0, locals := lo } (va_Pc (.ref (ad k) :: As) (oU b0 D cT N ad σ)) (va_Ql post (oV D N ad) (fun q => b0 ≤ q)) 0 0 (fun q => b0 ≤ q)) (hR : fr + 1 ≤ R.frames ∧ 8 + (maxL + 11) + lo ≤ R.locals) (hcr : cells ≤ R.cells ∧ slots ≤ R.slots) (hn : As.length = n) (hk : k < N) (he : σ k = .inr (ci, fs)) (hc : vwCl[ci]? = some (C, T, nf)) (hst : st = As.reverse ++ .ref (ad k) :: rest) (hrm : (rest.map fun v => v.category).sum ≤ 8) (hdg : decode cc pc = .ok (.invokevirtual index, 3))
    (kk : ∀ (r : Int64) (σ1 : Nat → va_E) (H1 : Heap) (locs1 : List Loc), post r σ1 → oH b0 D N ad s.heap σ1 H1 locs1 → W p l e R s m args below meth c H1 locs1 cells slots Q (F0 m (pc + 3) ls (.long r :: rest))) : W p l e R s m args below meth c H locs cells slots Q (F0 m pc ls (st)) := by
  obtain ⟨⟨g1, g2, g3, g4, g5⟩, hd⟩ := cw
  have hG : GoodIn wsL_law (wsV own index C y (.code y bytes maxL ret :: wsL_law)) := by
    intro w hw
    rcases List.mem_append.mp hw with hw | hw
    · simp only [List.mem_cons, List.not_mem_nil, or_false] at hw
      rcases hw with rfl | rfl | rfl | rfl
      · exact ⟨g1, good_of_word (wsL_law_good _ g1)⟩
      · exact ⟨g2, good_of_word (wsL_law_good _ g2)⟩
      · exact ⟨g3, good_of_word (wsL_law_good _ g3)⟩
      · exact ⟨g4, good_of_word (wsL_law_good _ g4)⟩
    · exact o_good g5 w hw
  refine va_calll (va_runV (As := As) (rest := rest) ⟨hx, hb, hml, hown, hts⟩ hM (cwV n hts hG rfl rfl rfl hd hR) ⟨oU.blind, va_recv hK.1 hH.1 hc (by rw [oW_get hk, he]), o_warm hK hH⟩ rfl hn hl.1 hst (lv_room hrm) hdg hcr) hH.2.1 (fun q _ h => h) (fun q h => h) (fun r u t H1 locs1 ht hvm hw hB hz1 hk1 hS => kk r u H1 locs1 hw ⟨by unfold oV at hB; rw [ht] at hB; exact hB, hS, hH.2.2⟩)
theorem m_callSl {y : MethodName} {bytes : ByteArray} {maxL nL fr lo n index : Nat} {ret : Option FieldType} {own : String} {As st : List Value} {lv : List (Nat × Value)} {post : Int64 → (Nat → va_E) → Prop} (hx : p.tables.exec = Jvm.exec) (hb : c.code = cc) (hml : c.maxLocals = nL) (hown : s.vm.findClass own = some m.cls) (hts : ∀ w ∈ wsL_law, w.before args s = true) (hK : oK b0 D cT s) (hH : oH b0 D N ad s.heap σ H locs) (hl : lv_has ls nL lv) (cw : oCS own index y bytes maxL ret n) (hyo : y.cls = own) (hM : Met l y (.code y bytes maxL ret :: wsL_law) { frames := fr, cells := 0, slots := 0, locals := lo } (va_Pc (As) (oU b0 D cT N ad σ)) (va_Ql post (oV D N ad) (fun q => b0 ≤ q)) 0 0 (fun q => b0 ≤ q)) (hR : fr + 1 ≤ R.frames ∧ 8 + (maxL + 11) + lo ≤ R.locals) (hcr : cells ≤ R.cells ∧ slots ≤ R.slots) (hn : As.length = n) (hst : st = As.reverse ++ rest) (hrm : (rest.map fun v => v.category).sum ≤ 8) (hdg : decode cc pc = .ok (.invokestatic index, 3))
    (kk : ∀ (r : Int64) (σ1 : Nat → va_E) (H1 : Heap) (locs1 : List Loc), post r σ1 → oH b0 D N ad s.heap σ1 H1 locs1 → W p l e R s m args below meth c H1 locs1 cells slots Q (F0 m (pc + 3) ls (.long r :: rest))) : W p l e R s m args below meth c H locs cells slots Q (F0 m pc ls (st)) := by
  obtain ⟨⟨g1, g2, g4, g5⟩, hd⟩ := cw
  have hG : GoodIn wsL_law (wsS own index y (.code y bytes maxL ret :: wsL_law)) := by
    intro w hw
    rcases List.mem_append.mp hw with hw | hw
    · simp only [List.mem_cons, List.not_mem_nil, or_false] at hw
      rcases hw with rfl | rfl | rfl
      · exact ⟨g1, good_of_word (wsL_law_good _ g1)⟩
      · exact ⟨g2, good_of_word (wsL_law_good _ g2)⟩
      · rw [hyo] at g4
        exact ⟨g4, good_of_word (wsL_law_good _ g4)⟩
    · exact o_good g5 w hw
  refine va_calll (va_runS (As := As) (rest := rest) ⟨hx, hb, hml, hown, hts⟩ hM (cwS n hts hG rfl rfl rfl ⟨hyo, hd⟩ hR) ⟨oU.blind, o_warm hK hH⟩ rfl hn hl.1 hst (lv_room hrm) hdg hcr) hH.2.1 (fun q _ h => h) (fun q h => h) (fun r u t H1 locs1 ht hvm hw hB hz1 hk1 hS => kk r u H1 locs1 hw ⟨by unfold oV at hB; rw [ht] at hB; exact hB, hS, hH.2.2⟩)
theorem m_callFl {y : MethodName} {bytes : ByteArray} {maxL nL fr lo n index : Nat} {ret : Option FieldType} {own : String} {As st : List Value} {lv : List (Nat × Value)} {post : Int64 → (Nat → va_E) → Prop} (hx : p.tables.exec = Jvm.exec) (hb : c.code = cc) (hml : c.maxLocals = nL) (hown : s.vm.findClass own = some m.cls) (hts : ∀ w ∈ wsL_law, w.before args s = true) (hK : oK b0 D cT s) (hH : oH b0 D N ad s.heap σ H locs) (hl : lv_has ls nL lv) (cw : oCS own index y bytes maxL ret n) (hM : Met l y (.code y bytes maxL ret :: wsL_law) { frames := fr, cells := 0, slots := 0, locals := lo } (va_Pc (As) (oU b0 D cT N ad σ)) (va_Ql post (oV D N ad) (fun q => b0 ≤ q)) 0 0 (fun q => b0 ≤ q)) (hR : fr + 1 ≤ R.frames ∧ 8 + (maxL + 11) + lo ≤ R.locals) (hcr : cells ≤ R.cells ∧ slots ≤ R.slots) (hn : As.length = n) (hst : st = As.reverse ++ rest) (hrm : (rest.map fun v => v.category).sum ≤ 8) (hdg : decode cc pc = .ok (.invokestatic index, 3))
    (kk : ∀ (r : Int64) (σ1 : Nat → va_E) (H1 : Heap) (locs1 : List Loc), post r σ1 → oH b0 D N ad s.heap σ1 H1 locs1 → W p l e R s m args below meth c H1 locs1 cells slots Q (F0 m (pc + 3) ls (.long r :: rest))) : W p l e R s m args below meth c H locs cells slots Q (F0 m pc ls (st)) := by
  obtain ⟨⟨g1, g2, g4, g5⟩, hd⟩ := cw
  refine va_calll (va_runS (As := As) (rest := rest) ⟨hx, hb, hml, hown, hts⟩ hM ⟨callB_of n hts (o_good g5) rfl rfl rfl (hts _ g4) (hts _ g1) hd hR, hts _ g2⟩ ⟨oU.blind, o_warm hK hH⟩ rfl hn hl.1 hst (lv_room hrm) hdg hcr) hH.2.1 (fun q _ h => h) (fun q h => h) (fun r u t H1 locs1 ht hvm hw hB hz1 hk1 hS => kk r u H1 locs1 hw ⟨by unfold oV at hB; rw [ht] at hB; exact hB, hS, hH.2.2⟩)
theorem m_callNl {y : MethodName} {bytes : ByteArray} {maxL nL fr lo n index : Nat} {ret : Option FieldType} {own : String} {As st : List Value} {lv : List (Nat × Value)} {post : Int64 → (Nat → va_E) → Prop} {host : String} (hx : p.tables.exec = Jvm.exec) (hb : c.code = cc) (hml : c.maxLocals = nL) (hown : s.vm.findClass own = some m.cls) (hts : ∀ w ∈ wsL_law, w.before args s = true) (hK : oK b0 D cT s) (hH : oH b0 D N ad s.heap σ H locs) (hl : lv_has ls nL lv) (cw : oCN y bytes maxL ret n) (hnl : va_Nw (.methodLinkNest own index y host) s) (hM : Met l y (.code y bytes maxL ret :: wsL_law) { frames := fr, cells := 0, slots := 0, locals := lo } (va_Pc (As) (oU b0 D cT N ad σ)) (va_Ql post (oV D N ad) (fun q => b0 ≤ q)) 0 0 (fun q => b0 ≤ q)) (hR : fr + 1 ≤ R.frames ∧ 8 + (maxL + 11) + lo ≤ R.locals) (hcr : cells ≤ R.cells ∧ slots ≤ R.slots) (hn : As.length = n) (hst : st = As.reverse ++ rest) (hrm : (rest.map fun v => v.category).sum ≤ 8) (hdg : decode cc pc = .ok (.invokestatic index, 3))
    (kk : ∀ (r : Int64) (σ1 : Nat → va_E) (H1 : Heap) (locs1 : List Loc), post r σ1 → oH b0 D N ad s.heap σ1 H1 locs1 → W p l e R s m args below meth c H1 locs1 cells slots Q (F0 m (pc + 3) ls (.long r :: rest))) : W p l e R s m args below meth c H locs cells slots Q (F0 m pc ls (st)) := by
  obtain ⟨⟨g2, g4, g5⟩, hd⟩ := cw
  refine va_calll (va_runSN (As := As) (rest := rest) ⟨hx, hb, hml, hown, hts⟩ hM ⟨va_cnB n hts (o_good g5) rfl rfl rfl hnl (hts _ g4) hd hR, hts _ g2, trivial⟩ ⟨oU.blind, o_warm hK hH⟩ rfl hn hl.1 hst (lv_room hrm) hdg hcr) hH.2.1 (fun q _ h => h) (fun q h => h) (fun r u t H1 locs1 ht hvm hw hB hz1 hk1 hS => kk r u H1 locs1 hw ⟨by unfold oV at hB; rw [ht] at hB; exact hB, hS, hH.2.2⟩)
theorem m_callVv {y : MethodName} {bytes : ByteArray} {maxL nL fr lo n index : Nat} {ret : Option FieldType} {own : String} {As st : List Value} {lv : List (Nat × Value)} {post : (Nat → va_E) → Prop} {C : String} {T : u_T} {nf ci k : Nat} {fs : List Value} (hx : p.tables.exec = Jvm.exec) (hb : c.code = cc) (hml : c.maxLocals = nL) (hown : s.vm.findClass own = some m.cls) (hts : ∀ w ∈ wsL_law, w.before args s = true) (hK : oK b0 D cT s) (hH : oH b0 D N ad s.heap σ H locs) (hl : lv_has ls nL lv) (cw : oCV own index C y bytes maxL ret n) (hM : Met l y (.code y bytes maxL ret :: wsL_law) { frames := fr, cells := 0, slots := 0, locals := lo } (va_Pc (.ref (ad k) :: As) (oU b0 D cT N ad σ)) (va_Qv post (oV D N ad) (fun q => b0 ≤ q)) 0 0 (fun q => b0 ≤ q)) (hR : fr + 1 ≤ R.frames ∧ 8 + (maxL + 11) + lo ≤ R.locals) (hcr : cells ≤ R.cells ∧ slots ≤ R.slots) (hn : As.length = n) (hk : k < N) (he : σ k = .inr (ci, fs)) (hc : vwCl[ci]? = some (C, T, nf)) (hst : st = As.reverse ++ .ref (ad k) :: rest) (hrm : (rest.map fun v => v.category).sum ≤ 8) (hdg : decode cc pc = .ok (.invokevirtual index, 3))
    (kk : ∀ (σ1 : Nat → va_E) (H1 : Heap) (locs1 : List Loc), post σ1 → oH b0 D N ad s.heap σ1 H1 locs1 → W p l e R s m args below meth c H1 locs1 cells slots Q (F0 m (pc + 3) ls (rest))) : W p l e R s m args below meth c H locs cells slots Q (F0 m pc ls (st)) := by
  obtain ⟨⟨g1, g2, g3, g4, g5⟩, hd⟩ := cw
  have hG : GoodIn wsL_law (wsV own index C y (.code y bytes maxL ret :: wsL_law)) := by
    intro w hw
    rcases List.mem_append.mp hw with hw | hw
    · simp only [List.mem_cons, List.not_mem_nil, or_false] at hw
      rcases hw with rfl | rfl | rfl | rfl
      · exact ⟨g1, good_of_word (wsL_law_good _ g1)⟩
      · exact ⟨g2, good_of_word (wsL_law_good _ g2)⟩
      · exact ⟨g3, good_of_word (wsL_law_good _ g3)⟩
      · exact ⟨g4, good_of_word (wsL_law_good _ g4)⟩
    · exact o_good g5 w hw
  refine va_callv (va_runV (As := As) (rest := rest) ⟨hx, hb, hml, hown, hts⟩ hM (cwV n hts hG rfl rfl rfl hd hR) ⟨oU.blind, va_recv hK.1 hH.1 hc (by rw [oW_get hk, he]), o_warm hK hH⟩ rfl hn hl.1 hst (lv_room hrm) hdg hcr) hH.2.1 (fun q _ h => h) (fun q h => h) (fun u t H1 locs1 ht hvm hw hB hz1 hk1 hS => kk u H1 locs1 hw ⟨by unfold oV at hB; rw [ht] at hB; exact hB, hS, hH.2.2⟩)
theorem m_callSv {y : MethodName} {bytes : ByteArray} {maxL nL fr lo n index : Nat} {ret : Option FieldType} {own : String} {As st : List Value} {lv : List (Nat × Value)} {post : (Nat → va_E) → Prop} (hx : p.tables.exec = Jvm.exec) (hb : c.code = cc) (hml : c.maxLocals = nL) (hown : s.vm.findClass own = some m.cls) (hts : ∀ w ∈ wsL_law, w.before args s = true) (hK : oK b0 D cT s) (hH : oH b0 D N ad s.heap σ H locs) (hl : lv_has ls nL lv) (cw : oCS own index y bytes maxL ret n) (hyo : y.cls = own) (hM : Met l y (.code y bytes maxL ret :: wsL_law) { frames := fr, cells := 0, slots := 0, locals := lo } (va_Pc (As) (oU b0 D cT N ad σ)) (va_Qv post (oV D N ad) (fun q => b0 ≤ q)) 0 0 (fun q => b0 ≤ q)) (hR : fr + 1 ≤ R.frames ∧ 8 + (maxL + 11) + lo ≤ R.locals) (hcr : cells ≤ R.cells ∧ slots ≤ R.slots) (hn : As.length = n) (hst : st = As.reverse ++ rest) (hrm : (rest.map fun v => v.category).sum ≤ 8) (hdg : decode cc pc = .ok (.invokestatic index, 3))
    (kk : ∀ (σ1 : Nat → va_E) (H1 : Heap) (locs1 : List Loc), post σ1 → oH b0 D N ad s.heap σ1 H1 locs1 → W p l e R s m args below meth c H1 locs1 cells slots Q (F0 m (pc + 3) ls (rest))) : W p l e R s m args below meth c H locs cells slots Q (F0 m pc ls (st)) := by
  obtain ⟨⟨g1, g2, g4, g5⟩, hd⟩ := cw
  have hG : GoodIn wsL_law (wsS own index y (.code y bytes maxL ret :: wsL_law)) := by
    intro w hw
    rcases List.mem_append.mp hw with hw | hw
    · simp only [List.mem_cons, List.not_mem_nil, or_false] at hw
      rcases hw with rfl | rfl | rfl
      · exact ⟨g1, good_of_word (wsL_law_good _ g1)⟩
      · exact ⟨g2, good_of_word (wsL_law_good _ g2)⟩
      · rw [hyo] at g4
        exact ⟨g4, good_of_word (wsL_law_good _ g4)⟩
    · exact o_good g5 w hw
  refine va_callv (va_runS (As := As) (rest := rest) ⟨hx, hb, hml, hown, hts⟩ hM (cwS n hts hG rfl rfl rfl ⟨hyo, hd⟩ hR) ⟨oU.blind, o_warm hK hH⟩ rfl hn hl.1 hst (lv_room hrm) hdg hcr) hH.2.1 (fun q _ h => h) (fun q h => h) (fun u t H1 locs1 ht hvm hw hB hz1 hk1 hS => kk u H1 locs1 hw ⟨by unfold oV at hB; rw [ht] at hB; exact hB, hS, hH.2.2⟩)
theorem m_callFv {y : MethodName} {bytes : ByteArray} {maxL nL fr lo n index : Nat} {ret : Option FieldType} {own : String} {As st : List Value} {lv : List (Nat × Value)} {post : (Nat → va_E) → Prop} (hx : p.tables.exec = Jvm.exec) (hb : c.code = cc) (hml : c.maxLocals = nL) (hown : s.vm.findClass own = some m.cls) (hts : ∀ w ∈ wsL_law, w.before args s = true) (hK : oK b0 D cT s) (hH : oH b0 D N ad s.heap σ H locs) (hl : lv_has ls nL lv) (cw : oCS own index y bytes maxL ret n) (hM : Met l y (.code y bytes maxL ret :: wsL_law) { frames := fr, cells := 0, slots := 0, locals := lo } (va_Pc (As) (oU b0 D cT N ad σ)) (va_Qv post (oV D N ad) (fun q => b0 ≤ q)) 0 0 (fun q => b0 ≤ q)) (hR : fr + 1 ≤ R.frames ∧ 8 + (maxL + 11) + lo ≤ R.locals) (hcr : cells ≤ R.cells ∧ slots ≤ R.slots) (hn : As.length = n) (hst : st = As.reverse ++ rest) (hrm : (rest.map fun v => v.category).sum ≤ 8) (hdg : decode cc pc = .ok (.invokestatic index, 3))
    (kk : ∀ (σ1 : Nat → va_E) (H1 : Heap) (locs1 : List Loc), post σ1 → oH b0 D N ad s.heap σ1 H1 locs1 → W p l e R s m args below meth c H1 locs1 cells slots Q (F0 m (pc + 3) ls (rest))) : W p l e R s m args below meth c H locs cells slots Q (F0 m pc ls (st)) := by
  obtain ⟨⟨g1, g2, g4, g5⟩, hd⟩ := cw
  refine va_callv (va_runS (As := As) (rest := rest) ⟨hx, hb, hml, hown, hts⟩ hM ⟨callB_of n hts (o_good g5) rfl rfl rfl (hts _ g4) (hts _ g1) hd hR, hts _ g2⟩ ⟨oU.blind, o_warm hK hH⟩ rfl hn hl.1 hst (lv_room hrm) hdg hcr) hH.2.1 (fun q _ h => h) (fun q h => h) (fun u t H1 locs1 ht hvm hw hB hz1 hk1 hS => kk u H1 locs1 hw ⟨by unfold oV at hB; rw [ht] at hB; exact hB, hS, hH.2.2⟩)
theorem m_callNv {y : MethodName} {bytes : ByteArray} {maxL nL fr lo n index : Nat} {ret : Option FieldType} {own : String} {As st : List Value} {lv : List (Nat × Value)} {post : (Nat → va_E) → Prop} {host : String} (hx : p.tables.exec = Jvm.exec) (hb : c.code = cc) (hml : c.maxLocals = nL) (hown : s.vm.findClass own = some m.cls) (hts : ∀ w ∈ wsL_law, w.before args s = true) (hK : oK b0 D cT s) (hH : oH b0 D N ad s.heap σ H locs) (hl : lv_has ls nL lv) (cw : oCN y bytes maxL ret n) (hnl : va_Nw (.methodLinkNest own index y host) s) (hM : Met l y (.code y bytes maxL ret :: wsL_law) { frames := fr, cells := 0, slots := 0, locals := lo } (va_Pc (As) (oU b0 D cT N ad σ)) (va_Qv post (oV D N ad) (fun q => b0 ≤ q)) 0 0 (fun q => b0 ≤ q)) (hR : fr + 1 ≤ R.frames ∧ 8 + (maxL + 11) + lo ≤ R.locals) (hcr : cells ≤ R.cells ∧ slots ≤ R.slots) (hn : As.length = n) (hst : st = As.reverse ++ rest) (hrm : (rest.map fun v => v.category).sum ≤ 8) (hdg : decode cc pc = .ok (.invokestatic index, 3))
    (kk : ∀ (σ1 : Nat → va_E) (H1 : Heap) (locs1 : List Loc), post σ1 → oH b0 D N ad s.heap σ1 H1 locs1 → W p l e R s m args below meth c H1 locs1 cells slots Q (F0 m (pc + 3) ls (rest))) : W p l e R s m args below meth c H locs cells slots Q (F0 m pc ls (st)) := by
  obtain ⟨⟨g2, g4, g5⟩, hd⟩ := cw
  refine va_callv (va_runSN (As := As) (rest := rest) ⟨hx, hb, hml, hown, hts⟩ hM ⟨va_cnB n hts (o_good g5) rfl rfl rfl hnl (hts _ g4) hd hR, hts _ g2, trivial⟩ ⟨oU.blind, o_warm hK hH⟩ rfl hn hl.1 hst (lv_room hrm) hdg hcr) hH.2.1 (fun q _ h => h) (fun q h => h) (fun u t H1 locs1 ht hvm hw hB hz1 hk1 hS => kk u H1 locs1 hw ⟨by unfold oV at hB; rw [ht] at hB; exact hB, hS, hH.2.2⟩)
theorem m_i2c {a : Int} (hx : p.tables.exec = Jvm.exec) (hb : c.code = cc) (hdg : decode cc pc = .ok (.i2c, 1)) (ha : 0 ≤ a ∧ a < 65536) (k : W p l e R s m args below meth c H locs cells slots Q (F0 m (pc + 1) ls (.int (oI a) :: rest))) : W p l e R s m args below meth c H locs cells slots Q (F0 m pc ls (.int (oI a) :: rest)) := by
  obtain ⟨n, rfl⟩ := Int.eq_ofNat_of_zero_le ha.1
  refine lv_i2c hx hb hdg ?_ k
  rw [oI_nat, pk_char, pk_tn (by omega), Nat.mod_eq_of_lt (by omega)]
theorem oAJ_up (cT : Nat → ClassId) (n : Nat) (w : Nat → Nat) (j x : Nat) : oAL cT n (va_up (fun k => lN (w k)) j (lN x)) = oAJ cT n (va_up w j x) := congrArg (oAL cT n) (by funext q; simp only [va_up]; split <;> rfl)
theorem m_J2N {x : Int64} (n : Nat) (h : x = lN n) (k : W p l e R s m args below meth c H locs cells slots Q (F0 m pc ls (.long (lN n) :: rest))) : W p l e R s m args below meth c H locs cells slots Q (F0 m pc ls (.long x :: rest)) := by
  subst h
  exact k
theorem m_J2L {x : Int64} (z : Int) (h : x = oL z) (k : W p l e R s m args below meth c H locs cells slots Q (F0 m pc ls (.long (oL z) :: rest))) : W p l e R s m args below meth c H locs cells slots Q (F0 m pc ls (.long x :: rest)) := by
  subst h
  exact k
theorem m_i2I {x : Int32} (z : Int) (h : x = oI z) (k : W p l e R s m args below meth c H locs cells slots Q (F0 m pc ls (.int (oI z) :: rest))) : W p l e R s m args below meth c H locs cells slots Q (F0 m pc ls (.int x :: rest)) := by
  subst h
  exact k
theorem m_f0 : fits .boolean (.int (oI 0)) = true := by decide
theorem m_f1 : fits .boolean (.int (oI 1)) = true := by decide
theorem m_zb {x : Int} (h : x = 0 ∨ x = 1) : narrow .boolean (.int (oI x)) = .int (oI x) := by rcases h with rfl | rfl <;> decide
theorem m_fb {x : Int} (h : x = 0 ∨ x = 1) : fits .boolean (.int (oI x)) = true := by rcases h with rfl | rfl <;> decide
theorem m_alen (hx : p.tables.exec = Jvm.exec) (hb : c.code = cc) (hK : oK b0 D cT s) (hH : oH b0 D N ad H0 σ H locs) {k : Nat} (hk : k < N) {cA : ClassId} {xx : vp_A} (he : σ k = .inl (cA, xx)) (t0 : Nat) {ty : FieldType} (ht : (oTy cT)[t0]? = some (cA, ty)) (n : Nat) (hv : xx.1 = n) (hdg : decode cc pc = .ok (.arraylength, 1)) (kk : W p l e R s m args below meth c H locs cells slots Q (F0 m (pc + 1) ls (.int (oI (n : Int)) :: rest))) : W p l e R s m args below meth c H locs cells slots Q (F0 m pc ls (.ref (ad k) :: rest)) :=
  va_alen hx hb hK.1 hH.1 k t0 (by rw [oW_get hk, he]) ht (v := oI (n : Int)) (by rw [hv, oI_nat]; rfl) hdg kk
theorem m_mmax {a b : Int} (t : Int) (hx : p.tables.exec = Jvm.exec) (hb : c.code = cc) {nL : Nat} (hml : c.maxLocals = nL) {lv : List (Nat × Value)} (hl : lv_has ls nL lv) {own : String} {index : Nat} (hown : s.vm.findClass own = some m.cls) (hts : ∀ w ∈ wsL_law, w.before args s = true) (hlink : (Cond.methodLink own index Lib.Math.max.name).before args s = true)
    (hframes : 1 ≤ R.frames) (hlocals : (rest.map fun v => v.category).sum + 13 ≤ R.locals) (hcr : cells ≤ R.cells ∧ slots ≤ R.slots) (ha : -2147483648 ≤ a ∧ a < 2147483648) (hc : -2147483648 ≤ b ∧ b < 2147483648) (h : (if a < b then b else a) = t) (hdg : decode cc pc = .ok (.invokestatic index, 3)) (kk : W p l e R s m args below meth c H locs cells slots Q (F0 m (pc + 3) ls (.int (oI t) :: rest))) : W p l e R s m args below meth c H locs cells slots Q (F0 m pc ls (.int (oI b) :: .int (oI a) :: rest)) := by
  refine va_mmax hx hb (hml.trans hl.1.symm) hown hlink (hts _ (by decide +kernel)) (hts _ (by decide +kernel)) (hts _ (by decide +kernel)) hframes hlocals hcr.1 hcr.2 hdg ?_
  subst h
  simp only [oI_lt ha hc]
  split
  · rw [if_pos (by assumption)] at kk; exact kk
  · rw [if_neg (by assumption)] at kk; exact kk
theorem m_mmin {a b : Int} (t : Int) (hx : p.tables.exec = Jvm.exec) (hb : c.code = cc) {nL : Nat} (hml : c.maxLocals = nL) {lv : List (Nat × Value)} (hl : lv_has ls nL lv) {own : String} {index : Nat} (hown : s.vm.findClass own = some m.cls) (hts : ∀ w ∈ wsL_law, w.before args s = true) (hlink : (Cond.methodLink own index Lib.Math.min.name).before args s = true)
    (hframes : 1 ≤ R.frames) (hlocals : (rest.map fun v => v.category).sum + 13 ≤ R.locals) (hcr : cells ≤ R.cells ∧ slots ≤ R.slots) (ha : -2147483648 ≤ a ∧ a < 2147483648) (hc : -2147483648 ≤ b ∧ b < 2147483648) (h : (if b < a then b else a) = t) (hdg : decode cc pc = .ok (.invokestatic index, 3)) (kk : W p l e R s m args below meth c H locs cells slots Q (F0 m (pc + 3) ls (.int (oI t) :: rest))) : W p l e R s m args below meth c H locs cells slots Q (F0 m pc ls (.int (oI b) :: .int (oI a) :: rest)) := by
  refine va_mmin hx hb (hml.trans hl.1.symm) hown hlink (hts _ (by decide +kernel)) (hts _ (by decide +kernel)) (hts _ (by decide +kernel)) hframes hlocals hcr.1 hcr.2 hdg ?_
  subst h
  simp only [oI_lt hc ha]
  split
  · rw [if_pos (by assumption)] at kk; exact kk
  · rw [if_neg (by assumption)] at kk; exact kk
theorem m_lmax {a b : Int} (t : Int) (hx : p.tables.exec = Jvm.exec) (hb : c.code = cc) {nL : Nat} (hml : c.maxLocals = nL) {lv : List (Nat × Value)} (hl : lv_has ls nL lv) {own : String} {index : Nat} (hown : s.vm.findClass own = some m.cls) (hts : ∀ w ∈ wsL_law, w.before args s = true) (hlink : (Cond.methodLink own index Lib.MathLoose.max_long.x).before args s = true)
    (hframes : 1 ≤ R.frames) (hlocals : (rest.map fun v => v.category).sum + 15 ≤ R.locals) (hcr : cells ≤ R.cells ∧ slots ≤ R.slots) (ha : -9223372036854775808 ≤ a ∧ a < 9223372036854775808) (hc : -9223372036854775808 ≤ b ∧ b < 9223372036854775808) (h : (if b < a then a else b) = t) (hdg : decode cc pc = .ok (.invokestatic index, 3)) (kk : W p l e R s m args below meth c H locs cells slots Q (F0 m (pc + 3) ls (.long (oL t) :: rest))) : W p l e R s m args below meth c H locs cells slots Q (F0 m pc ls (.long (oL b) :: .long (oL a) :: rest)) := by
  refine va_mmax_long hx hb (hml.trans hl.1.symm) hown hlink (hts _ (by decide +kernel)) (hts _ (by decide +kernel)) (hts _ (by decide +kernel)) hframes hlocals hcr.1 hcr.2 hdg ?_
  subst h
  simp only [oL_lt hc ha]
  split
  · rw [if_pos (by assumption)] at kk; exact kk
  · rw [if_neg (by assumption)] at kk; exact kk
theorem m_pVi {F : Int} {y : MethodName} {bytes : ByteArray} {maxL nL fr lo n index : Nat} {ret : Option FieldType} {own : String} {As st : List Value} {lv : List (Nat × Value)} {C : String} {T : u_T} {nf ci k : Nat} {fs : List Value} (hx : p.tables.exec = Jvm.exec) (hb : c.code = cc) (hml : c.maxLocals = nL) (hown : s.vm.findClass own = some m.cls) (hts : ∀ w ∈ wsL_law, w.before args s = true) (hK : oK b0 D cT s) (hH : oH b0 D N ad s.heap σ H locs) (hl : lv_has ls nL lv) (cw : oCV own index C y bytes maxL ret n) (hM : Met l y (.code y bytes maxL ret :: wsL_law) { frames := fr, cells := 0, slots := 0, locals := lo } (va_Pc (.ref (ad k) :: As) (oU b0 D cT N ad σ)) (va_Qi (fun r u => r = oI F ∧ u = σ) (oV D N ad) (fun q => b0 ≤ q)) 0 0 (fun q => b0 ≤ q)) (hR : fr + 1 ≤ R.frames ∧ 8 + (maxL + 11) + lo ≤ R.locals) (hcr : cells ≤ R.cells ∧ slots ≤ R.slots) (hn : As.length = n) (hk : k < N) (he : σ k = .inr (ci, fs)) (hc : vwCl[ci]? = some (C, T, nf)) (hst : st = As.reverse ++ .ref (ad k) :: rest) (hrm : (rest.map fun v => v.category).sum ≤ 8) (hdg : decode cc pc = .ok (.invokevirtual index, 3))
    (kk : ∀ (H1 : Heap) (locs1 : List Loc), oH b0 D N ad s.heap σ H1 locs1 → W p l e R s m args below meth c H1 locs1 cells slots Q (F0 m (pc + 3) ls (.int (oI F) :: rest))) : W p l e R s m args below meth c H locs cells slots Q (F0 m pc ls (st)) :=
  m_callVi hx hb hml hown hts hK hH hl cw hM hR hcr hn hk he hc hst hrm hdg (fun r σ1 H1 locs1 hp hH => by obtain ⟨e1, e2⟩ := hp; rw [e1]; exact kk H1 locs1 (hH.eq e2))
theorem m_pVn {F : Nat} {y : MethodName} {bytes : ByteArray} {maxL nL fr lo n index : Nat} {ret : Option FieldType} {own : String} {As st : List Value} {lv : List (Nat × Value)} {C : String} {T : u_T} {nf ci k : Nat} {fs : List Value} (hx : p.tables.exec = Jvm.exec) (hb : c.code = cc) (hml : c.maxLocals = nL) (hown : s.vm.findClass own = some m.cls) (hts : ∀ w ∈ wsL_law, w.before args s = true) (hK : oK b0 D cT s) (hH : oH b0 D N ad s.heap σ H locs) (hl : lv_has ls nL lv) (cw : oCV own index C y bytes maxL ret n) (hM : Met l y (.code y bytes maxL ret :: wsL_law) { frames := fr, cells := 0, slots := 0, locals := lo } (va_Pc (.ref (ad k) :: As) (oU b0 D cT N ad σ)) (va_Ql (fun r u => r = lN F ∧ u = σ) (oV D N ad) (fun q => b0 ≤ q)) 0 0 (fun q => b0 ≤ q)) (hR : fr + 1 ≤ R.frames ∧ 8 + (maxL + 11) + lo ≤ R.locals) (hcr : cells ≤ R.cells ∧ slots ≤ R.slots) (hn : As.length = n) (hk : k < N) (he : σ k = .inr (ci, fs)) (hc : vwCl[ci]? = some (C, T, nf)) (hst : st = As.reverse ++ .ref (ad k) :: rest) (hrm : (rest.map fun v => v.category).sum ≤ 8) (hdg : decode cc pc = .ok (.invokevirtual index, 3))
    (kk : ∀ (H1 : Heap) (locs1 : List Loc), oH b0 D N ad s.heap σ H1 locs1 → W p l e R s m args below meth c H1 locs1 cells slots Q (F0 m (pc + 3) ls (.long (lN F) :: rest))) : W p l e R s m args below meth c H locs cells slots Q (F0 m pc ls (st)) :=
  m_callVl hx hb hml hown hts hK hH hl cw hM hR hcr hn hk he hc hst hrm hdg (fun r σ1 H1 locs1 hp hH => by obtain ⟨e1, e2⟩ := hp; rw [e1]; exact kk H1 locs1 (hH.eq e2))
theorem m_pVb {F : Prop} {y : MethodName} {bytes : ByteArray} {maxL nL fr lo n index : Nat} {ret : Option FieldType} {own : String} {As st : List Value} {lv : List (Nat × Value)} {C : String} {T : u_T} {nf ci k : Nat} {fs : List Value} (hx : p.tables.exec = Jvm.exec) (hb : c.code = cc) (hml : c.maxLocals = nL) (hown : s.vm.findClass own = some m.cls) (hts : ∀ w ∈ wsL_law, w.before args s = true) (hK : oK b0 D cT s) (hH : oH b0 D N ad s.heap σ H locs) (hl : lv_has ls nL lv) (cw : oCV own index C y bytes maxL ret n) (hM : Met l y (.code y bytes maxL ret :: wsL_law) { frames := fr, cells := 0, slots := 0, locals := lo } (va_Pc (.ref (ad k) :: As) (oU b0 D cT N ad σ)) (va_Qi (fun r u => (r = oI 1 ∧ F ∨ r = oI 0 ∧ ¬ F) ∧ u = σ) (oV D N ad) (fun q => b0 ≤ q)) 0 0 (fun q => b0 ≤ q)) (hR : fr + 1 ≤ R.frames ∧ 8 + (maxL + 11) + lo ≤ R.locals) (hcr : cells ≤ R.cells ∧ slots ≤ R.slots) (hn : As.length = n) (hk : k < N) (he : σ k = .inr (ci, fs)) (hc : vwCl[ci]? = some (C, T, nf)) (hst : st = As.reverse ++ .ref (ad k) :: rest) (hrm : (rest.map fun v => v.category).sum ≤ 8) (hdg : decode cc pc = .ok (.invokevirtual index, 3))
    (k1 : F → ∀ (H1 : Heap) (locs1 : List Loc), oH b0 D N ad s.heap σ H1 locs1 → W p l e R s m args below meth c H1 locs1 cells slots Q (F0 m (pc + 3) ls (.int (oI 1) :: rest))) (k2 : ¬ F → ∀ (H1 : Heap) (locs1 : List Loc), oH b0 D N ad s.heap σ H1 locs1 → W p l e R s m args below meth c H1 locs1 cells slots Q (F0 m (pc + 3) ls (.int (oI 0) :: rest))) : W p l e R s m args below meth c H locs cells slots Q (F0 m pc ls (st)) :=
  m_callVi hx hb hml hown hts hK hH hl cw hM hR hcr hn hk he hc hst hrm hdg (fun r σ1 H1 locs1 hp hH => hp.1.elim (fun q => by rw [q.1]; exact k1 q.2 H1 locs1 (hH.eq hp.2)) (fun q => by rw [q.1]; exact k2 q.2 H1 locs1 (hH.eq hp.2)))
theorem m_pVv {y : MethodName} {bytes : ByteArray} {maxL nL fr lo n index : Nat} {ret : Option FieldType} {own : String} {As st : List Value} {lv : List (Nat × Value)} {C : String} {T : u_T} {nf ci k : Nat} {fs : List Value} (hx : p.tables.exec = Jvm.exec) (hb : c.code = cc) (hml : c.maxLocals = nL) (hown : s.vm.findClass own = some m.cls) (hts : ∀ w ∈ wsL_law, w.before args s = true) (hK : oK b0 D cT s) (hH : oH b0 D N ad s.heap σ H locs) (hl : lv_has ls nL lv) (cw : oCV own index C y bytes maxL ret n) (hM : Met l y (.code y bytes maxL ret :: wsL_law) { frames := fr, cells := 0, slots := 0, locals := lo } (va_Pc (.ref (ad k) :: As) (oU b0 D cT N ad σ)) (va_Qv (fun u => u = σ) (oV D N ad) (fun q => b0 ≤ q)) 0 0 (fun q => b0 ≤ q)) (hR : fr + 1 ≤ R.frames ∧ 8 + (maxL + 11) + lo ≤ R.locals) (hcr : cells ≤ R.cells ∧ slots ≤ R.slots) (hn : As.length = n) (hk : k < N) (he : σ k = .inr (ci, fs)) (hc : vwCl[ci]? = some (C, T, nf)) (hst : st = As.reverse ++ .ref (ad k) :: rest) (hrm : (rest.map fun v => v.category).sum ≤ 8) (hdg : decode cc pc = .ok (.invokevirtual index, 3))
    (kk : ∀ (H1 : Heap) (locs1 : List Loc), oH b0 D N ad s.heap σ H1 locs1 → W p l e R s m args below meth c H1 locs1 cells slots Q (F0 m (pc + 3) ls rest)) : W p l e R s m args below meth c H locs cells slots Q (F0 m pc ls (st)) :=
  m_callVv hx hb hml hown hts hK hH hl cw hM hR hcr hn hk he hc hst hrm hdg (fun σ1 H1 locs1 hp hH => kk H1 locs1 (hH.eq hp))
theorem m_pSi {F : Int} {y : MethodName} {bytes : ByteArray} {maxL nL fr lo n index : Nat} {ret : Option FieldType} {own : String} {As st : List Value} {lv : List (Nat × Value)} (hx : p.tables.exec = Jvm.exec) (hb : c.code = cc) (hml : c.maxLocals = nL) (hown : s.vm.findClass own = some m.cls) (hts : ∀ w ∈ wsL_law, w.before args s = true) (hK : oK b0 D cT s) (hH : oH b0 D N ad s.heap σ H locs) (hl : lv_has ls nL lv) (cw : oCS own index y bytes maxL ret n) (hyo : y.cls = own) (hM : Met l y (.code y bytes maxL ret :: wsL_law) { frames := fr, cells := 0, slots := 0, locals := lo } (va_Pc (As) (oU b0 D cT N ad σ)) (va_Qi (fun r u => r = oI F ∧ u = σ) (oV D N ad) (fun q => b0 ≤ q)) 0 0 (fun q => b0 ≤ q)) (hR : fr + 1 ≤ R.frames ∧ 8 + (maxL + 11) + lo ≤ R.locals) (hcr : cells ≤ R.cells ∧ slots ≤ R.slots) (hn : As.length = n) (hst : st = As.reverse ++ rest) (hrm : (rest.map fun v => v.category).sum ≤ 8) (hdg : decode cc pc = .ok (.invokestatic index, 3))
    (kk : ∀ (H1 : Heap) (locs1 : List Loc), oH b0 D N ad s.heap σ H1 locs1 → W p l e R s m args below meth c H1 locs1 cells slots Q (F0 m (pc + 3) ls (.int (oI F) :: rest))) : W p l e R s m args below meth c H locs cells slots Q (F0 m pc ls (st)) :=
  m_callSi hx hb hml hown hts hK hH hl cw hyo hM hR hcr hn hst hrm hdg (fun r σ1 H1 locs1 hp hH => by obtain ⟨e1, e2⟩ := hp; rw [e1]; exact kk H1 locs1 (hH.eq e2))
theorem m_pSn {F : Nat} {y : MethodName} {bytes : ByteArray} {maxL nL fr lo n index : Nat} {ret : Option FieldType} {own : String} {As st : List Value} {lv : List (Nat × Value)} (hx : p.tables.exec = Jvm.exec) (hb : c.code = cc) (hml : c.maxLocals = nL) (hown : s.vm.findClass own = some m.cls) (hts : ∀ w ∈ wsL_law, w.before args s = true) (hK : oK b0 D cT s) (hH : oH b0 D N ad s.heap σ H locs) (hl : lv_has ls nL lv) (cw : oCS own index y bytes maxL ret n) (hyo : y.cls = own) (hM : Met l y (.code y bytes maxL ret :: wsL_law) { frames := fr, cells := 0, slots := 0, locals := lo } (va_Pc (As) (oU b0 D cT N ad σ)) (va_Ql (fun r u => r = lN F ∧ u = σ) (oV D N ad) (fun q => b0 ≤ q)) 0 0 (fun q => b0 ≤ q)) (hR : fr + 1 ≤ R.frames ∧ 8 + (maxL + 11) + lo ≤ R.locals) (hcr : cells ≤ R.cells ∧ slots ≤ R.slots) (hn : As.length = n) (hst : st = As.reverse ++ rest) (hrm : (rest.map fun v => v.category).sum ≤ 8) (hdg : decode cc pc = .ok (.invokestatic index, 3))
    (kk : ∀ (H1 : Heap) (locs1 : List Loc), oH b0 D N ad s.heap σ H1 locs1 → W p l e R s m args below meth c H1 locs1 cells slots Q (F0 m (pc + 3) ls (.long (lN F) :: rest))) : W p l e R s m args below meth c H locs cells slots Q (F0 m pc ls (st)) :=
  m_callSl hx hb hml hown hts hK hH hl cw hyo hM hR hcr hn hst hrm hdg (fun r σ1 H1 locs1 hp hH => by obtain ⟨e1, e2⟩ := hp; rw [e1]; exact kk H1 locs1 (hH.eq e2))
theorem m_pSb {F : Prop} {y : MethodName} {bytes : ByteArray} {maxL nL fr lo n index : Nat} {ret : Option FieldType} {own : String} {As st : List Value} {lv : List (Nat × Value)} (hx : p.tables.exec = Jvm.exec) (hb : c.code = cc) (hml : c.maxLocals = nL) (hown : s.vm.findClass own = some m.cls) (hts : ∀ w ∈ wsL_law, w.before args s = true) (hK : oK b0 D cT s) (hH : oH b0 D N ad s.heap σ H locs) (hl : lv_has ls nL lv) (cw : oCS own index y bytes maxL ret n) (hyo : y.cls = own) (hM : Met l y (.code y bytes maxL ret :: wsL_law) { frames := fr, cells := 0, slots := 0, locals := lo } (va_Pc (As) (oU b0 D cT N ad σ)) (va_Qi (fun r u => (r = oI 1 ∧ F ∨ r = oI 0 ∧ ¬ F) ∧ u = σ) (oV D N ad) (fun q => b0 ≤ q)) 0 0 (fun q => b0 ≤ q)) (hR : fr + 1 ≤ R.frames ∧ 8 + (maxL + 11) + lo ≤ R.locals) (hcr : cells ≤ R.cells ∧ slots ≤ R.slots) (hn : As.length = n) (hst : st = As.reverse ++ rest) (hrm : (rest.map fun v => v.category).sum ≤ 8) (hdg : decode cc pc = .ok (.invokestatic index, 3))
    (k1 : F → ∀ (H1 : Heap) (locs1 : List Loc), oH b0 D N ad s.heap σ H1 locs1 → W p l e R s m args below meth c H1 locs1 cells slots Q (F0 m (pc + 3) ls (.int (oI 1) :: rest))) (k2 : ¬ F → ∀ (H1 : Heap) (locs1 : List Loc), oH b0 D N ad s.heap σ H1 locs1 → W p l e R s m args below meth c H1 locs1 cells slots Q (F0 m (pc + 3) ls (.int (oI 0) :: rest))) : W p l e R s m args below meth c H locs cells slots Q (F0 m pc ls (st)) :=
  m_callSi hx hb hml hown hts hK hH hl cw hyo hM hR hcr hn hst hrm hdg (fun r σ1 H1 locs1 hp hH => hp.1.elim (fun q => by rw [q.1]; exact k1 q.2 H1 locs1 (hH.eq hp.2)) (fun q => by rw [q.1]; exact k2 q.2 H1 locs1 (hH.eq hp.2)))
theorem m_pSv {y : MethodName} {bytes : ByteArray} {maxL nL fr lo n index : Nat} {ret : Option FieldType} {own : String} {As st : List Value} {lv : List (Nat × Value)} (hx : p.tables.exec = Jvm.exec) (hb : c.code = cc) (hml : c.maxLocals = nL) (hown : s.vm.findClass own = some m.cls) (hts : ∀ w ∈ wsL_law, w.before args s = true) (hK : oK b0 D cT s) (hH : oH b0 D N ad s.heap σ H locs) (hl : lv_has ls nL lv) (cw : oCS own index y bytes maxL ret n) (hyo : y.cls = own) (hM : Met l y (.code y bytes maxL ret :: wsL_law) { frames := fr, cells := 0, slots := 0, locals := lo } (va_Pc (As) (oU b0 D cT N ad σ)) (va_Qv (fun u => u = σ) (oV D N ad) (fun q => b0 ≤ q)) 0 0 (fun q => b0 ≤ q)) (hR : fr + 1 ≤ R.frames ∧ 8 + (maxL + 11) + lo ≤ R.locals) (hcr : cells ≤ R.cells ∧ slots ≤ R.slots) (hn : As.length = n) (hst : st = As.reverse ++ rest) (hrm : (rest.map fun v => v.category).sum ≤ 8) (hdg : decode cc pc = .ok (.invokestatic index, 3))
    (kk : ∀ (H1 : Heap) (locs1 : List Loc), oH b0 D N ad s.heap σ H1 locs1 → W p l e R s m args below meth c H1 locs1 cells slots Q (F0 m (pc + 3) ls rest)) : W p l e R s m args below meth c H locs cells slots Q (F0 m pc ls (st)) :=
  m_callSv hx hb hml hown hts hK hH hl cw hyo hM hR hcr hn hst hrm hdg (fun σ1 H1 locs1 hp hH => kk H1 locs1 (hH.eq hp))
theorem m_pFi {F : Int} {y : MethodName} {bytes : ByteArray} {maxL nL fr lo n index : Nat} {ret : Option FieldType} {own : String} {As st : List Value} {lv : List (Nat × Value)} (hx : p.tables.exec = Jvm.exec) (hb : c.code = cc) (hml : c.maxLocals = nL) (hown : s.vm.findClass own = some m.cls) (hts : ∀ w ∈ wsL_law, w.before args s = true) (hK : oK b0 D cT s) (hH : oH b0 D N ad s.heap σ H locs) (hl : lv_has ls nL lv) (cw : oCS own index y bytes maxL ret n) (hM : Met l y (.code y bytes maxL ret :: wsL_law) { frames := fr, cells := 0, slots := 0, locals := lo } (va_Pc (As) (oU b0 D cT N ad σ)) (va_Qi (fun r u => r = oI F ∧ u = σ) (oV D N ad) (fun q => b0 ≤ q)) 0 0 (fun q => b0 ≤ q)) (hR : fr + 1 ≤ R.frames ∧ 8 + (maxL + 11) + lo ≤ R.locals) (hcr : cells ≤ R.cells ∧ slots ≤ R.slots) (hn : As.length = n) (hst : st = As.reverse ++ rest) (hrm : (rest.map fun v => v.category).sum ≤ 8) (hdg : decode cc pc = .ok (.invokestatic index, 3))
    (kk : ∀ (H1 : Heap) (locs1 : List Loc), oH b0 D N ad s.heap σ H1 locs1 → W p l e R s m args below meth c H1 locs1 cells slots Q (F0 m (pc + 3) ls (.int (oI F) :: rest))) : W p l e R s m args below meth c H locs cells slots Q (F0 m pc ls (st)) :=
  m_callFi hx hb hml hown hts hK hH hl cw hM hR hcr hn hst hrm hdg (fun r σ1 H1 locs1 hp hH => by obtain ⟨e1, e2⟩ := hp; rw [e1]; exact kk H1 locs1 (hH.eq e2))
theorem m_pFn {F : Nat} {y : MethodName} {bytes : ByteArray} {maxL nL fr lo n index : Nat} {ret : Option FieldType} {own : String} {As st : List Value} {lv : List (Nat × Value)} (hx : p.tables.exec = Jvm.exec) (hb : c.code = cc) (hml : c.maxLocals = nL) (hown : s.vm.findClass own = some m.cls) (hts : ∀ w ∈ wsL_law, w.before args s = true) (hK : oK b0 D cT s) (hH : oH b0 D N ad s.heap σ H locs) (hl : lv_has ls nL lv) (cw : oCS own index y bytes maxL ret n) (hM : Met l y (.code y bytes maxL ret :: wsL_law) { frames := fr, cells := 0, slots := 0, locals := lo } (va_Pc (As) (oU b0 D cT N ad σ)) (va_Ql (fun r u => r = lN F ∧ u = σ) (oV D N ad) (fun q => b0 ≤ q)) 0 0 (fun q => b0 ≤ q)) (hR : fr + 1 ≤ R.frames ∧ 8 + (maxL + 11) + lo ≤ R.locals) (hcr : cells ≤ R.cells ∧ slots ≤ R.slots) (hn : As.length = n) (hst : st = As.reverse ++ rest) (hrm : (rest.map fun v => v.category).sum ≤ 8) (hdg : decode cc pc = .ok (.invokestatic index, 3))
    (kk : ∀ (H1 : Heap) (locs1 : List Loc), oH b0 D N ad s.heap σ H1 locs1 → W p l e R s m args below meth c H1 locs1 cells slots Q (F0 m (pc + 3) ls (.long (lN F) :: rest))) : W p l e R s m args below meth c H locs cells slots Q (F0 m pc ls (st)) :=
  m_callFl hx hb hml hown hts hK hH hl cw hM hR hcr hn hst hrm hdg (fun r σ1 H1 locs1 hp hH => by obtain ⟨e1, e2⟩ := hp; rw [e1]; exact kk H1 locs1 (hH.eq e2))
theorem m_pFb {F : Prop} {y : MethodName} {bytes : ByteArray} {maxL nL fr lo n index : Nat} {ret : Option FieldType} {own : String} {As st : List Value} {lv : List (Nat × Value)} (hx : p.tables.exec = Jvm.exec) (hb : c.code = cc) (hml : c.maxLocals = nL) (hown : s.vm.findClass own = some m.cls) (hts : ∀ w ∈ wsL_law, w.before args s = true) (hK : oK b0 D cT s) (hH : oH b0 D N ad s.heap σ H locs) (hl : lv_has ls nL lv) (cw : oCS own index y bytes maxL ret n) (hM : Met l y (.code y bytes maxL ret :: wsL_law) { frames := fr, cells := 0, slots := 0, locals := lo } (va_Pc (As) (oU b0 D cT N ad σ)) (va_Qi (fun r u => (r = oI 1 ∧ F ∨ r = oI 0 ∧ ¬ F) ∧ u = σ) (oV D N ad) (fun q => b0 ≤ q)) 0 0 (fun q => b0 ≤ q)) (hR : fr + 1 ≤ R.frames ∧ 8 + (maxL + 11) + lo ≤ R.locals) (hcr : cells ≤ R.cells ∧ slots ≤ R.slots) (hn : As.length = n) (hst : st = As.reverse ++ rest) (hrm : (rest.map fun v => v.category).sum ≤ 8) (hdg : decode cc pc = .ok (.invokestatic index, 3))
    (k1 : F → ∀ (H1 : Heap) (locs1 : List Loc), oH b0 D N ad s.heap σ H1 locs1 → W p l e R s m args below meth c H1 locs1 cells slots Q (F0 m (pc + 3) ls (.int (oI 1) :: rest))) (k2 : ¬ F → ∀ (H1 : Heap) (locs1 : List Loc), oH b0 D N ad s.heap σ H1 locs1 → W p l e R s m args below meth c H1 locs1 cells slots Q (F0 m (pc + 3) ls (.int (oI 0) :: rest))) : W p l e R s m args below meth c H locs cells slots Q (F0 m pc ls (st)) :=
  m_callFi hx hb hml hown hts hK hH hl cw hM hR hcr hn hst hrm hdg (fun r σ1 H1 locs1 hp hH => hp.1.elim (fun q => by rw [q.1]; exact k1 q.2 H1 locs1 (hH.eq hp.2)) (fun q => by rw [q.1]; exact k2 q.2 H1 locs1 (hH.eq hp.2)))
theorem m_pFv {y : MethodName} {bytes : ByteArray} {maxL nL fr lo n index : Nat} {ret : Option FieldType} {own : String} {As st : List Value} {lv : List (Nat × Value)} (hx : p.tables.exec = Jvm.exec) (hb : c.code = cc) (hml : c.maxLocals = nL) (hown : s.vm.findClass own = some m.cls) (hts : ∀ w ∈ wsL_law, w.before args s = true) (hK : oK b0 D cT s) (hH : oH b0 D N ad s.heap σ H locs) (hl : lv_has ls nL lv) (cw : oCS own index y bytes maxL ret n) (hM : Met l y (.code y bytes maxL ret :: wsL_law) { frames := fr, cells := 0, slots := 0, locals := lo } (va_Pc (As) (oU b0 D cT N ad σ)) (va_Qv (fun u => u = σ) (oV D N ad) (fun q => b0 ≤ q)) 0 0 (fun q => b0 ≤ q)) (hR : fr + 1 ≤ R.frames ∧ 8 + (maxL + 11) + lo ≤ R.locals) (hcr : cells ≤ R.cells ∧ slots ≤ R.slots) (hn : As.length = n) (hst : st = As.reverse ++ rest) (hrm : (rest.map fun v => v.category).sum ≤ 8) (hdg : decode cc pc = .ok (.invokestatic index, 3))
    (kk : ∀ (H1 : Heap) (locs1 : List Loc), oH b0 D N ad s.heap σ H1 locs1 → W p l e R s m args below meth c H1 locs1 cells slots Q (F0 m (pc + 3) ls rest)) : W p l e R s m args below meth c H locs cells slots Q (F0 m pc ls (st)) :=
  m_callFv hx hb hml hown hts hK hH hl cw hM hR hcr hn hst hrm hdg (fun σ1 H1 locs1 hp hH => kk H1 locs1 (hH.eq hp))
theorem m_pNi {F : Int} {y : MethodName} {bytes : ByteArray} {maxL nL fr lo n index : Nat} {ret : Option FieldType} {own : String} {As st : List Value} {lv : List (Nat × Value)} {host : String} (hx : p.tables.exec = Jvm.exec) (hb : c.code = cc) (hml : c.maxLocals = nL) (hown : s.vm.findClass own = some m.cls) (hts : ∀ w ∈ wsL_law, w.before args s = true) (hK : oK b0 D cT s) (hH : oH b0 D N ad s.heap σ H locs) (hl : lv_has ls nL lv) (cw : oCN y bytes maxL ret n) (hnl : va_Nw (.methodLinkNest own index y host) s) (hM : Met l y (.code y bytes maxL ret :: wsL_law) { frames := fr, cells := 0, slots := 0, locals := lo } (va_Pc (As) (oU b0 D cT N ad σ)) (va_Qi (fun r u => r = oI F ∧ u = σ) (oV D N ad) (fun q => b0 ≤ q)) 0 0 (fun q => b0 ≤ q)) (hR : fr + 1 ≤ R.frames ∧ 8 + (maxL + 11) + lo ≤ R.locals) (hcr : cells ≤ R.cells ∧ slots ≤ R.slots) (hn : As.length = n) (hst : st = As.reverse ++ rest) (hrm : (rest.map fun v => v.category).sum ≤ 8) (hdg : decode cc pc = .ok (.invokestatic index, 3))
    (kk : ∀ (H1 : Heap) (locs1 : List Loc), oH b0 D N ad s.heap σ H1 locs1 → W p l e R s m args below meth c H1 locs1 cells slots Q (F0 m (pc + 3) ls (.int (oI F) :: rest))) : W p l e R s m args below meth c H locs cells slots Q (F0 m pc ls (st)) :=
  m_callNi hx hb hml hown hts hK hH hl cw hnl hM hR hcr hn hst hrm hdg (fun r σ1 H1 locs1 hp hH => by obtain ⟨e1, e2⟩ := hp; rw [e1]; exact kk H1 locs1 (hH.eq e2))
theorem m_pNn {F : Nat} {y : MethodName} {bytes : ByteArray} {maxL nL fr lo n index : Nat} {ret : Option FieldType} {own : String} {As st : List Value} {lv : List (Nat × Value)} {host : String} (hx : p.tables.exec = Jvm.exec) (hb : c.code = cc) (hml : c.maxLocals = nL) (hown : s.vm.findClass own = some m.cls) (hts : ∀ w ∈ wsL_law, w.before args s = true) (hK : oK b0 D cT s) (hH : oH b0 D N ad s.heap σ H locs) (hl : lv_has ls nL lv) (cw : oCN y bytes maxL ret n) (hnl : va_Nw (.methodLinkNest own index y host) s) (hM : Met l y (.code y bytes maxL ret :: wsL_law) { frames := fr, cells := 0, slots := 0, locals := lo } (va_Pc (As) (oU b0 D cT N ad σ)) (va_Ql (fun r u => r = lN F ∧ u = σ) (oV D N ad) (fun q => b0 ≤ q)) 0 0 (fun q => b0 ≤ q)) (hR : fr + 1 ≤ R.frames ∧ 8 + (maxL + 11) + lo ≤ R.locals) (hcr : cells ≤ R.cells ∧ slots ≤ R.slots) (hn : As.length = n) (hst : st = As.reverse ++ rest) (hrm : (rest.map fun v => v.category).sum ≤ 8) (hdg : decode cc pc = .ok (.invokestatic index, 3))
    (kk : ∀ (H1 : Heap) (locs1 : List Loc), oH b0 D N ad s.heap σ H1 locs1 → W p l e R s m args below meth c H1 locs1 cells slots Q (F0 m (pc + 3) ls (.long (lN F) :: rest))) : W p l e R s m args below meth c H locs cells slots Q (F0 m pc ls (st)) :=
  m_callNl hx hb hml hown hts hK hH hl cw hnl hM hR hcr hn hst hrm hdg (fun r σ1 H1 locs1 hp hH => by obtain ⟨e1, e2⟩ := hp; rw [e1]; exact kk H1 locs1 (hH.eq e2))
theorem m_pNb {F : Prop} {y : MethodName} {bytes : ByteArray} {maxL nL fr lo n index : Nat} {ret : Option FieldType} {own : String} {As st : List Value} {lv : List (Nat × Value)} {host : String} (hx : p.tables.exec = Jvm.exec) (hb : c.code = cc) (hml : c.maxLocals = nL) (hown : s.vm.findClass own = some m.cls) (hts : ∀ w ∈ wsL_law, w.before args s = true) (hK : oK b0 D cT s) (hH : oH b0 D N ad s.heap σ H locs) (hl : lv_has ls nL lv) (cw : oCN y bytes maxL ret n) (hnl : va_Nw (.methodLinkNest own index y host) s) (hM : Met l y (.code y bytes maxL ret :: wsL_law) { frames := fr, cells := 0, slots := 0, locals := lo } (va_Pc (As) (oU b0 D cT N ad σ)) (va_Qi (fun r u => (r = oI 1 ∧ F ∨ r = oI 0 ∧ ¬ F) ∧ u = σ) (oV D N ad) (fun q => b0 ≤ q)) 0 0 (fun q => b0 ≤ q)) (hR : fr + 1 ≤ R.frames ∧ 8 + (maxL + 11) + lo ≤ R.locals) (hcr : cells ≤ R.cells ∧ slots ≤ R.slots) (hn : As.length = n) (hst : st = As.reverse ++ rest) (hrm : (rest.map fun v => v.category).sum ≤ 8) (hdg : decode cc pc = .ok (.invokestatic index, 3))
    (k1 : F → ∀ (H1 : Heap) (locs1 : List Loc), oH b0 D N ad s.heap σ H1 locs1 → W p l e R s m args below meth c H1 locs1 cells slots Q (F0 m (pc + 3) ls (.int (oI 1) :: rest))) (k2 : ¬ F → ∀ (H1 : Heap) (locs1 : List Loc), oH b0 D N ad s.heap σ H1 locs1 → W p l e R s m args below meth c H1 locs1 cells slots Q (F0 m (pc + 3) ls (.int (oI 0) :: rest))) : W p l e R s m args below meth c H locs cells slots Q (F0 m pc ls (st)) :=
  m_callNi hx hb hml hown hts hK hH hl cw hnl hM hR hcr hn hst hrm hdg (fun r σ1 H1 locs1 hp hH => hp.1.elim (fun q => by rw [q.1]; exact k1 q.2 H1 locs1 (hH.eq hp.2)) (fun q => by rw [q.1]; exact k2 q.2 H1 locs1 (hH.eq hp.2)))
theorem m_pNv {y : MethodName} {bytes : ByteArray} {maxL nL fr lo n index : Nat} {ret : Option FieldType} {own : String} {As st : List Value} {lv : List (Nat × Value)} {host : String} (hx : p.tables.exec = Jvm.exec) (hb : c.code = cc) (hml : c.maxLocals = nL) (hown : s.vm.findClass own = some m.cls) (hts : ∀ w ∈ wsL_law, w.before args s = true) (hK : oK b0 D cT s) (hH : oH b0 D N ad s.heap σ H locs) (hl : lv_has ls nL lv) (cw : oCN y bytes maxL ret n) (hnl : va_Nw (.methodLinkNest own index y host) s) (hM : Met l y (.code y bytes maxL ret :: wsL_law) { frames := fr, cells := 0, slots := 0, locals := lo } (va_Pc (As) (oU b0 D cT N ad σ)) (va_Qv (fun u => u = σ) (oV D N ad) (fun q => b0 ≤ q)) 0 0 (fun q => b0 ≤ q)) (hR : fr + 1 ≤ R.frames ∧ 8 + (maxL + 11) + lo ≤ R.locals) (hcr : cells ≤ R.cells ∧ slots ≤ R.slots) (hn : As.length = n) (hst : st = As.reverse ++ rest) (hrm : (rest.map fun v => v.category).sum ≤ 8) (hdg : decode cc pc = .ok (.invokestatic index, 3))
    (kk : ∀ (H1 : Heap) (locs1 : List Loc), oH b0 D N ad s.heap σ H1 locs1 → W p l e R s m args below meth c H1 locs1 cells slots Q (F0 m (pc + 3) ls rest)) : W p l e R s m args below meth c H locs cells slots Q (F0 m pc ls (st)) :=
  m_callNv hx hb hml hown hts hK hH hl cw hnl hM hR hcr hn hst hrm hdg (fun σ1 H1 locs1 hp hH => kk H1 locs1 (hH.eq hp))
end OROWS
