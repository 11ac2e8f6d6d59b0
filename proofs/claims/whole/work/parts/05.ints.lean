/-! whole numbers of the machine as Int: zI, zL (ring maps), with bounds where a comparison or a division is made -/
def zI (z : Int) : Int32 := Int32.ofInt z
def zL (z : Int) : Int64 := Int64.ofInt z
theorem zI_t {z : Int} (h : -2147483648 ≤ z ∧ z < 2147483648) : (zI z).toInt = z := Int32.toInt_ofInt_of_le (by omega) (by omega)
theorem zL_t {z : Int} (h : -9223372036854775808 ≤ z ∧ z < 9223372036854775808) : (zL z).toInt = z := Int64.toInt_ofInt_of_le (by omega) (by omega)
theorem zI_of (x : Int32) : zI x.toInt = x := Int32.ofInt_toInt x
theorem zI_rng (x : Int32) : -2147483648 ≤ x.toInt ∧ x.toInt < 2147483648 := by
  have h1 := Int32.le_toInt x
  have h2 := Int32.toInt_lt x
  omega
theorem zI_add (a b : Int) : zI a + zI b = zI (a + b) := (Int32.ofInt_add a b).symm
theorem zI_sub (a b : Int) : zI a - zI b = zI (a - b) := (Int32.ofInt_sub a b).symm
theorem zI_mul (a b : Int) : zI a * zI b = zI (a * b) := (Int32.ofInt_mul a b).symm
theorem zI_neg (a : Int) : -zI a = zI (-a) := (Int32.ofInt_neg a).symm
theorem zL_add (a b : Int) : zL a + zL b = zL (a + b) := (Int64.ofInt_add a b).symm
theorem zL_sub (a b : Int) : zL a - zL b = zL (a - b) := (Int64.ofInt_sub a b).symm
theorem zL_mul (a b : Int) : zL a * zL b = zL (a * b) := (Int64.ofInt_mul a b).symm
theorem zI_inj {a b : Int} (h : (-2147483648 ≤ a ∧ a < 2147483648) ∧ -2147483648 ≤ b ∧ b < 2147483648) : zI a = zI b ↔ a = b :=
  ⟨fun e => by rw [← zI_t h.1, e, zI_t h.2], fun e => by rw [e]⟩
theorem zI_le {a b : Int} (h : (-2147483648 ≤ a ∧ a < 2147483648) ∧ -2147483648 ≤ b ∧ b < 2147483648) : zI a ≤ zI b ↔ a ≤ b := by
  rw [Int32.le_iff_toInt_le, zI_t h.1, zI_t h.2]
theorem zI_lt {a b : Int} (h : (-2147483648 ≤ a ∧ a < 2147483648) ∧ -2147483648 ≤ b ∧ b < 2147483648) : zI a < zI b ↔ a < b := by
  rw [Int32.lt_iff_toInt_lt, zI_t h.1, zI_t h.2]
theorem zI_0 : (0 : Int32) = zI 0 := by decide
theorem zI_div {a b : Int} (h : (0 ≤ a ∧ a < 2147483648) ∧ 0 < b ∧ b < 2147483648) : zI a / zI b = zI (a / b) := by
  have hb : zI b ≠ -1 := by
    intro e
    have := congrArg Int32.toInt e
    rw [zI_t ⟨by omega, by omega⟩] at this
    have h2 : (-1 : Int32).toInt = -1 := by decide
    omega
  refine Int32.toInt_inj.mp ?_
  rw [Int32.toInt_div_of_ne_right _ _ hb, zI_t ⟨by omega, by omega⟩, zI_t ⟨by omega, by omega⟩, Int.tdiv_eq_ediv_of_nonneg h.1.1]
  have h1 : a / b ≤ a := Int.ediv_le_self b h.1.1
  have h2 : 0 ≤ a / b := Int.ediv_nonneg h.1.1 (by omega)
  exact (zI_t ⟨by omega, by omega⟩).symm
theorem zI_rem {a b : Int} (h : (0 ≤ a ∧ a < 2147483648) ∧ 0 < b ∧ b < 2147483648) : zI a - zI a / zI b * zI b = zI (a % b) := by
  rw [zI_div h, zI_mul, zI_sub, Int.emod_def, Int.mul_comm]
theorem zI_ne0 {b : Int} (h : 0 < b ∧ b < 2147483648) : ¬ zI b = 0 := by
  rw [zI_0, zI_inj ⟨⟨by omega, by omega⟩, by omega, by omega⟩]
  omega
theorem zI_cl {z : Int} (h : 0 ≤ z ∧ z < 2147483648) : (zI z).toNatClampNeg = z.toNat := Int32.toNatClampNeg_ofInt_of_le (by omega) (by omega)
theorem zI_in {z : Int} {n : Nat} (h : 0 ≤ z ∧ z < n) (hn : n < 2147483648) : vp_in (zI z) n := by
  rw [vp_in_iff, zI_t ⟨by omega, by omega⟩]
  exact h
theorem zI_l {z : Int} (h : -2147483648 ≤ z ∧ z < 2147483648) : (zI z).toInt64 = zL z := by
  have := Int64.ofInt_int32ToInt (zI z)
  rw [zI_t h] at this
  exact this.symm
theorem zL_i (z : Int) : (zL z).toInt32 = zI z := Int64.toInt32_ofInt
def z8 (z : Int) : Int := z.bmod 256
theorem z8_rng (z : Int) : -128 ≤ z8 z ∧ z8 z < 128 := by
  have h1 := Int.le_bmod (x := z) (m := 256) (by decide)
  have h2 := Int.bmod_lt (x := z) (m := 256) (by decide)
  unfold z8
  omega
theorem z8_id {z : Int} (h : -128 ≤ z ∧ z < 128) : z8 z = z := by
  unfold z8
  exact Int.bmod_eq_of_le (by omega) (by omega)
theorem zI_b (z : Int) : (zI z).toInt8.toInt32 = zI (z8 z) := by
  refine Int32.toInt_inj.mp ?_
  have h := z8_rng z
  rw [zI_t ⟨by omega, by omega⟩, zI, Int32.toInt8_ofInt, Int8.toInt_toInt32, Int8.toInt_ofInt]
  rfl
theorem zL_le {a b : Int} (h : (-9223372036854775808 ≤ a ∧ a < 9223372036854775808) ∧ -9223372036854775808 ≤ b ∧ b < 9223372036854775808) : zL a ≤ zL b ↔ a ≤ b := by
  rw [Int64.le_iff_toInt_le, zL_t h.1, zL_t h.2]
theorem zL_lt {a b : Int} (h : (-9223372036854775808 ≤ a ∧ a < 9223372036854775808) ∧ -9223372036854775808 ≤ b ∧ b < 9223372036854775808) : zL a < zL b ↔ a < b := by
  rw [Int64.lt_iff_toInt_lt, zL_t h.1, zL_t h.2]
theorem zL_inj {a b : Int} (h : (-9223372036854775808 ≤ a ∧ a < 9223372036854775808) ∧ -9223372036854775808 ≤ b ∧ b < 9223372036854775808) : zL a = zL b ↔ a = b :=
  ⟨fun e => by rw [← zL_t h.1, e, zL_t h.2], fun e => by rw [e]⟩
theorem zL_0 : (0 : Int64) = zL 0 := by decide
theorem zL_ne0 {b : Int} (h : 0 < b ∧ b < 9223372036854775808) : ¬ zL b = 0 := by
  rw [zL_0, zL_inj ⟨⟨by omega, by omega⟩, by omega, by omega⟩]
  omega
/-- division of longs, the divisor above 0: cut towards 0 -/
theorem zL_tdiv {a b : Int} (h : (-9223372036854775808 ≤ a ∧ a < 9223372036854775808) ∧ 0 < b ∧ b < 9223372036854775808) : zL a / zL b = zL (a.tdiv b) := by
  have hb : zL b ≠ -1 := by
    intro e
    have := congrArg Int64.toInt e
    rw [zL_t ⟨by omega, by omega⟩] at this
    have h2 : (-1 : Int64).toInt = -1 := by decide
    omega
  refine Int64.toInt_inj.mp ?_
  rw [Int64.toInt_div_of_ne_right _ _ hb, zL_t ⟨by omega, by omega⟩, zL_t ⟨by omega, by omega⟩]
  have h1 : (a.tdiv b).natAbs ≤ a.natAbs := by
    rw [Int.natAbs_tdiv]
    exact Nat.div_le_self _ _
  rcases Int.lt_or_le a 0 with q | q
  · have h3 : a.tdiv b ≤ 0 := by
      have h4 := Int.neg_tdiv (a := a) (b := b)
      have h5 : 0 ≤ (-a).tdiv b := Int.tdiv_nonneg (by omega) (by omega)
      omega
    exact (zL_t ⟨by omega, by omega⟩).symm
  · have h3 : 0 ≤ a.tdiv b := Int.tdiv_nonneg q (by omega)
    exact (zL_t ⟨by omega, by omega⟩).symm
theorem zL_div {a b : Int} (h : (0 ≤ a ∧ a < 9223372036854775808) ∧ 0 < b ∧ b < 9223372036854775808) : zL a / zL b = zL (a / b) := by
  rw [zL_tdiv ⟨⟨by omega, by omega⟩, h.2⟩, Int.tdiv_eq_ediv_of_nonneg h.1.1]
theorem zL_rem {a b : Int} (h : (0 ≤ a ∧ a < 9223372036854775808) ∧ 0 < b ∧ b < 9223372036854775808) : zL a - zL a / zL b * zL b = zL (a % b) := by
  rw [zL_div h, zL_mul, zL_sub, Int.emod_def, Int.mul_comm]
/-- bits: a new one above all that are there -/
theorem zI_shl : ∀ c : Nat, c < 31 → zI 1 <<< (zI (c : Int) &&& 31) = zI (2 ^ c) := by decide +kernel
theorem zI_or {a : Int} {c : Nat} (h : 0 ≤ a ∧ a < 2 ^ c) (hc : c < 31) : zI a ||| zI (2 ^ c) = zI (a + 2 ^ c) := by
  obtain ⟨n, rfl⟩ : ∃ n : Nat, a = n := ⟨a.toNat, by omega⟩
  have hn : n < 2 ^ c := by exact_mod_cast h.2
  have e1 : ∀ k : Nat, zI (k : Int) = nI k := fun k => by
    unfold zI nI
    exact Int32.ofInt_eq_ofNat
  have e2 : ((2 : Int) ^ c) = ((2 ^ c : Nat) : Int) := by push_cast; rfl
  rw [e2, ← Int.natCast_add, e1, e1, e1]
  refine Int32.toBitVec.inj ?_
  show BitVec.ofNat 32 n ||| BitVec.ofNat 32 (2 ^ c) = BitVec.ofNat 32 (n + 2 ^ c)
  refine BitVec.eq_of_toNat_eq ?_
  have hp : 2 ^ c < 2 ^ 31 := Nat.pow_lt_pow_right (by decide) hc
  have h3 := Nat.two_pow_add_eq_or_of_lt hn 1
  rw [Nat.mul_one] at h3
  rw [BitVec.toNat_or, BitVec.toNat_ofNat, BitVec.toNat_ofNat, BitVec.toNat_ofNat, Nat.mod_eq_of_lt (by omega), Nat.mod_eq_of_lt (by omega), Nat.mod_eq_of_lt (by omega), Nat.or_comm, ← h3, Nat.add_comm]
