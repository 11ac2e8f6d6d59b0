/-! firsts, most, fewest, bits, lots; days that go on one by one -/
def fstI (P : Int → Prop) [DecidablePred P] (a : Int) : Nat → Int
  | 0 => -9
  | n + 1 => if fstI P a n ≠ -9 then fstI P a n else if P (a + n) then a + n else -9
theorem nat_s {a y : Int} (h : a ≤ y) : (y + 1 - a).toNat = (y - a).toNat + 1 ∧ a + ((y - a).toNat : Int) = y := by omega
theorem fstI_s {P : Int → Prop} [DecidablePred P] {a y : Int} (h : a ≤ y) : fstI P a (y + 1 - a).toNat = if fstI P a (y - a).toNat ≠ -9 then fstI P a (y - a).toNat else if P y then y else -9 := by
  rw [(nat_s h).1, fstI, (nat_s h).2]
theorem fstI_no {P : Int → Prop} [DecidablePred P] {a : Int} : ∀ {n : Nat}, (∀ y, a ≤ y → y < a + n → ¬ P y) → fstI P a n = -9
  | 0, _ => rfl
  | n + 1, h => by
    rw [fstI, fstI_no (n := n) (fun y h1 h2 => h y h1 (by omega)), if_neg (fun z => z rfl), if_neg (h _ (by omega) (by omega))]
theorem fstI_yes {P : Int → Prop} [DecidablePred P] {a y : Int} (h0 : 0 ≤ a) (h1 : a ≤ y) (hy : P y) (hz : ∀ z, a ≤ z → z < y → ¬ P z) : ∀ {n : Nat}, y < a + n → fstI P a n = y
  | 0, h => by omega
  | n + 1, h => by
    rcases (show y < a + n ∨ y = a + n by omega) with q | q
    · rw [fstI, fstI_yes h0 h1 hy hz q, if_pos (by omega)]
    · rw [fstI, fstI_no (n := n) (fun z h2 h3 => hz z h2 (by omega)), if_neg (fun z => z rfl), if_pos (q ▸ hy), q]
theorem fstI_c {P R : Int → Prop} [DecidablePred P] [DecidablePred R] {a : Int} : ∀ {n : Nat}, (∀ y, a ≤ y → y < a + n → (P y ↔ R y)) → fstI P a n = fstI R a n
  | 0, _ => rfl
  | n + 1, h => by
    have e := h (a + n) (by omega) (by omega)
    rw [fstI, fstI, fstI_c (n := n) (fun y h1 h2 => h y h1 (by omega))]
    by_cases q : P (a + n)
    · rw [if_pos q, if_pos (e.mp q)]
    · rw [if_neg q, if_neg (fun z => q (e.mpr z))]
theorem fstI_r (P : Int → Prop) [DecidablePred P] {a : Int} (h0 : 0 ≤ a) : ∀ n : Nat, (fstI P a n = -9 ∧ ∀ z, a ≤ z → z < a + n → ¬ P z) ∨ (a ≤ fstI P a n ∧ fstI P a n < a + n ∧ P (fstI P a n) ∧ ∀ z, a ≤ z → z < fstI P a n → ¬ P z)
  | 0 => Or.inl ⟨rfl, fun z h1 h2 => by omega⟩
  | n + 1 => by
    rcases fstI_r P h0 n with ⟨h1, h2⟩ | ⟨h1, h2, h3, h4⟩
    · by_cases q : P (a + n)
      · have e : fstI P a (n + 1) = a + n := by rw [fstI, h1, if_neg (fun z => z rfl), if_pos q]
        rw [e]
        exact Or.inr ⟨by omega, by omega, q, fun z h3 h4 => h2 z h3 h4⟩
      · have e : fstI P a (n + 1) = -9 := by rw [fstI, h1, if_neg (fun z => z rfl), if_neg q]
        rw [e]
        refine Or.inl ⟨rfl, fun z h3 h4 => ?_⟩
        rcases (show z < a + n ∨ z = a + n by omega) with w | w
        · exact h2 z h3 w
        · exact w ▸ q
    · have e : fstI P a (n + 1) = fstI P a n := by rw [fstI, if_pos (by omega)]
      rw [e]
      exact Or.inr ⟨h1, by omega, h3, h4⟩
/-- over a stretch in which it is always so, or never -/
theorem ctI_k {P : Int → Prop} [DecidablePred P] {a y : Int} (h : a ≤ y) : ∀ {m : Nat}, (∀ z, y ≤ z → z < y + m → (P z ↔ P y)) → ctI P a (y + m - a).toNat = ctI P a (y - a).toNat + m * zB (P y)
  | 0, _ => by
    rw [show (y + ((0 : Nat) : Int) - a).toNat = (y - a).toNat by omega]
    omega
  | m + 1, k => by
    have e : (y + ((m + 1 : Nat) : Int) - a).toNat = (y + m - a).toNat + 1 := by omega
    have e2 : a + ((y + m - a).toNat : Int) = y + m := by omega
    rw [e, ctI, e2, ctI_k h (fun z h1 h2 => k z h1 (by omega)), zB_c (k (y + m) (by omega) (by omega))]
    have : ((m + 1 : Nat) : Int) * zB (P y) = m * zB (P y) + zB (P y) := by
      rw [Int.natCast_add, Int.add_mul]
      omega
    omega
theorem fstI_k {P : Int → Prop} [DecidablePred P] {a y : Int} (h0 : 0 ≤ a) (h : a ≤ y) : ∀ {m : Nat}, (∀ z, y ≤ z → z < y + (m + 1 : Nat) → (P z ↔ P y)) → fstI P a (y + (m + 1 : Nat) - a).toNat = if fstI P a (y - a).toNat ≠ -9 then fstI P a (y - a).toNat else if P y then y else -9
  | 0, _ => by
    rw [show (y + ((0 + 1 : Nat) : Int) - a).toNat = (y + 1 - a).toNat by omega]
    exact fstI_s h
  | m + 1, k => by
    have e : (y + ((m + 1 + 1 : Nat) : Int) - a).toNat = (y + (m + 1 : Nat) - a).toNat + 1 := by omega
    have e2 : a + ((y + (m + 1 : Nat) - a).toNat : Int) = y + (m + 1 : Nat) := by omega
    have hk := k (y + (m + 1 : Nat)) (by omega) (by omega)
    rw [e, fstI, e2, fstI_k h0 h (fun z h1 h2 => k z h1 (by omega))]
    generalize fstI P a (y - a).toNat = F
    have hy : y ≠ -9 := by omega
    by_cases q1 : F = -9
    · by_cases q2 : P y
      · simp [q1, q2, hy]
      · have q3 : ¬ P (y + (m + 1 : Nat)) := fun z => q2 (hk.mp z)
        simp only [q1, ne_eq, not_true_eq_false, if_false, if_neg q2, if_neg q3]
    · simp [q1]
/-- the most, and where first -/
def mxI (f : Int → Int) (a : Int) : Nat → Int
  | 0 => -1
  | n + 1 => max (mxI f a n) (f (a + n))
def bsI (f : Int → Int) (a b : Int) : Nat → Int
  | 0 => b
  | n + 1 => if mxI f a n < f (a + n) then a + n else bsI f a b n
theorem mxI_s {f : Int → Int} {a y : Int} (h : a ≤ y) : mxI f a (y + 1 - a).toNat = max (mxI f a (y - a).toNat) (f y) := by rw [(nat_s h).1, mxI, (nat_s h).2]
theorem bsI_s {f : Int → Int} {a b y : Int} (h : a ≤ y) : bsI f a b (y + 1 - a).toNat = if mxI f a (y - a).toNat < f y then y else bsI f a b (y - a).toNat := by rw [(nat_s h).1, bsI, (nat_s h).2]
theorem mxI_k {f : Int → Int} {a y : Int} (h : a ≤ y) : ∀ {m : Nat}, (∀ z, y ≤ z → z < y + (m + 1 : Nat) → f z = f y) → mxI f a (y + (m + 1 : Nat) - a).toNat = max (mxI f a (y - a).toNat) (f y)
  | 0, _ => by
    rw [show (y + ((0 + 1 : Nat) : Int) - a).toNat = (y + 1 - a).toNat by omega]
    exact mxI_s h
  | m + 1, k => by
    have e : (y + ((m + 1 + 1 : Nat) : Int) - a).toNat = (y + (m + 1 : Nat) - a).toNat + 1 := by omega
    have e2 : a + ((y + (m + 1 : Nat) - a).toNat : Int) = y + (m + 1 : Nat) := by omega
    rw [e, mxI, e2, mxI_k h (fun z h1 h2 => k z h1 (by omega)), k (y + (m + 1 : Nat)) (by omega) (by omega)]
    omega
theorem bsI_k {f : Int → Int} {a b y : Int} (h : a ≤ y) : ∀ {m : Nat}, (∀ z, y ≤ z → z < y + (m + 1 : Nat) → f z = f y) → bsI f a b (y + (m + 1 : Nat) - a).toNat = if mxI f a (y - a).toNat < f y then y else bsI f a b (y - a).toNat
  | 0, _ => by
    rw [show (y + ((0 + 1 : Nat) : Int) - a).toNat = (y + 1 - a).toNat by omega]
    exact bsI_s h
  | m + 1, k => by
    have e : (y + ((m + 1 + 1 : Nat) : Int) - a).toNat = (y + (m + 1 : Nat) - a).toNat + 1 := by omega
    have e2 : a + ((y + (m + 1 : Nat) - a).toNat : Int) = y + (m + 1 : Nat) := by omega
    rw [e, bsI, e2, bsI_k h (fun z h1 h2 => k z h1 (by omega)), mxI_k h (fun z h1 h2 => k z h1 (by omega)), k (y + (m + 1 : Nat)) (by omega) (by omega), if_neg (by omega)]
/-- the fewest, and where first -/
def mnI (f : Int → Int) (a : Int) : Nat → Int
  | 0 => 40
  | n + 1 => min (mnI f a n) (f (a + n))
def bmI (f : Int → Int) (a b : Int) : Nat → Int
  | 0 => b
  | n + 1 => if f (a + n) < mnI f a n then a + n else bmI f a b n
theorem mnI_s {f : Int → Int} {a y : Int} (h : a ≤ y) : mnI f a (y + 1 - a).toNat = min (mnI f a (y - a).toNat) (f y) := by rw [(nat_s h).1, mnI, (nat_s h).2]
theorem bmI_s {f : Int → Int} {a b y : Int} (h : a ≤ y) : bmI f a b (y + 1 - a).toNat = if f y < mnI f a (y - a).toNat then y else bmI f a b (y - a).toNat := by rw [(nat_s h).1, bmI, (nat_s h).2]
/-- sets by bits -/
def bts (P : Int → Prop) [DecidablePred P] : Nat → Int
  | 0 => 0
  | n + 1 => bts P n + (if P n then 2 ^ n else 0)
theorem bts_s {P : Int → Prop} [DecidablePred P] {q : Int} (h : 0 ≤ q) : bts P (q + 1).toNat = bts P q.toNat + (if P q then 2 ^ q.toNat else 0) := by
  have e : (q + 1).toNat = q.toNat + 1 := by omega
  have e2 : ((q.toNat : Nat) : Int) = q := by omega
  rw [e, bts, e2]
theorem bts_r (P : Int → Prop) [DecidablePred P] : ∀ n : Nat, 0 ≤ bts P n ∧ bts P n < 2 ^ n
  | 0 => by constructor <;> simp [bts]
  | n + 1 => by
    have h := bts_r P n
    have e : (2 : Int) ^ (n + 1) = 2 ^ n + 2 ^ n := by rw [Int.pow_succ]; omega
    have p : (0 : Int) < 2 ^ n := Int.pow_pos (by decide)
    rw [bts, e]
    split <;> omega
theorem bts_c {P R : Int → Prop} [DecidablePred P] [DecidablePred R] : ∀ {n : Nat}, (∀ y : Int, 0 ≤ y → y < n → (P y ↔ R y)) → bts P n = bts R n
  | 0, _ => rfl
  | n + 1, h => by
    have e := h n (by omega) (by omega)
    rw [bts, bts, bts_c (n := n) (fun y h1 h2 => h y h1 (by omega))]
    by_cases q : P n
    · rw [if_pos q, if_pos (e.mp q)]
    · rw [if_neg q, if_neg (fun z => q (e.mpr z))]
/-- how many bits of the lowest five -/
def pc5 (b : Int) : Int := b % 2 + b / 2 % 2 + b / 4 % 2 + b / 8 % 2 + b / 16 % 2
theorem pc5_bts (P : Int → Prop) [DecidablePred P] {n : Nat} (h : n ≤ 5) : pc5 (bts P n) = ctI P 0 n := by
  rcases (show n = 0 ∨ n = 1 ∨ n = 2 ∨ n = 3 ∨ n = 4 ∨ n = 5 by omega) with rfl | rfl | rfl | rfl | rfl | rfl <;> unfold pc5 <;> simp only [bts, ctI, zB] <;> ((repeat' split) <;> first | omega | simp_all)
/-- lots -/
def lotI (s : Int) : Nat → Int
  | 0 => s
  | n + 1 => lotI s n * 48271 % 2147483647
theorem lotI_s {s q : Int} (h : 0 ≤ q) : lotI s (q + 1).toNat = lotI s q.toNat * 48271 % 2147483647 := by
  have e : (q + 1).toNat = q.toNat + 1 := by omega
  rw [e, lotI]
theorem lotI_r {s : Int} (h : 0 ≤ s ∧ s < 2147483647) : ∀ n : Nat, 0 ≤ lotI s n ∧ lotI s n < 2147483647
  | 0 => h
  | n + 1 => by rw [lotI]; omega
/-- days that go on one by one -/
theorem cby_str {k lp o g d e : Int} (h1 : d ≤ e) (h2 : e ≤ strE k lp o g d) : cby k o e = cby k o d := by
  have r1 := cby_r k o d
  have r2 := cby_r k o e
  unfold strE at h2
  split at h2
  · rename_i q
    unfold cby at *
    (repeat' split at *) <;> omega
  · rename_i q
    have h3 : e ≤ dcut o (cby k o d + 1) - 1 := by omega
    unfold dcut at h3
    unfold cby at *
    (repeat' split at *) <;> omega
/-- a leaped calendar: rounds of lp years, the first of 101 days -/
theorem rnd {n R q r : Int} (hn : n = R * q + r) (h : 0 ≤ r ∧ r < R) : n / R = q ∧ n % R = r := (Int.ediv_emod_unique (by omega)).mpr ⟨by omega, h⟩
theorem dtC_lo {k lp n q r : Int} (hk : isLp k) (hl : 2 ≤ lp) (hn : n = (100 * lp + 1) * q + r) (h : 0 ≤ r ∧ r < 101) : dtC k lp n = 1000 * (q * lp) + r := by
  have e := rnd hn (by omega)
  unfold dtC
  rw [if_pos hk, e.1, e.2, if_pos h.2]
theorem dtC_hi {k lp n q s u : Int} (hk : isLp k) (hn : n = (100 * lp + 1) * q + (100 * s + u + 1)) (h : (1 ≤ s ∧ s < lp) ∧ 0 ≤ u ∧ u < 100) : dtC k lp n = 1000 * (q * lp + s) + u := by
  have e := rnd hn (by omega)
  unfold dtC
  rw [if_pos hk, e.1, e.2, if_neg (by omega)]
  have e2 : (100 * s + u + 1 - 1) / 100 = s := by omega
  have e3 : (100 * s + u + 1 - 1) % 100 = u := by omega
  rw [e2, e3]
theorem dec_n {lp n : Int} (hl : 2 ≤ lp) (hn : 0 ≤ n) : ∃ q, 0 ≤ q ∧ ((∃ r, n = (100 * lp + 1) * q + r ∧ 0 ≤ r ∧ r < 101) ∨ ∃ s u, n = (100 * lp + 1) * q + (100 * s + u + 1) ∧ (1 ≤ s ∧ s < lp) ∧ 0 ≤ u ∧ u < 100) := by
  have h1 := Int.emod_add_mul_ediv n (100 * lp + 1)
  have h2 := Int.emod_nonneg n (show 100 * lp + 1 ≠ 0 by omega)
  have h3 := Int.emod_lt_of_pos n (show 0 < 100 * lp + 1 by omega)
  refine ⟨n / (100 * lp + 1), Int.ediv_nonneg hn (by omega), ?_⟩
  generalize n / (100 * lp + 1) = q at *
  generalize n % (100 * lp + 1) = r at *
  by_cases c : r < 101
  · exact Or.inl ⟨r, by omega, h2, c⟩
  · refine Or.inr ⟨(r - 1) / 100, (r - 1) % 100, by omega, ⟨by omega, by omega⟩, by omega, by omega⟩
theorem lenY_lo {k lp q : Int} (hk : isLp k) : lenY k lp (q * lp) = 101 := by
  unfold lenY
  rw [if_pos ⟨hk, Int.mul_emod_left q lp⟩]
theorem lenY_hi {k lp q s : Int} (hk : isLp k) (h : 1 ≤ s ∧ s < lp) : lenY k lp (q * lp + s) = 100 := by
  have e : (q * lp + s) % lp = s := by
    rw [Int.mul_comm, Int.add_comm, Int.add_mul_emod_self_left]
    exact Int.emod_eq_of_lt (by omega) h.2
  unfold lenY
  rw [if_neg (fun z => by omega)]
  unfold shL
  rw [if_neg (by omega)]
theorem begY_lo {k lp q : Int} (hk : isLp k) (hl : 2 ≤ lp) : begY k lp (q * lp) = (100 * lp + 1) * q := by
  have e : (q * lp + lp - 1) / lp = q := (rnd (R := lp) (q := q) (r := lp - 1) (by rw [Int.mul_comm]; omega) (by omega)).1
  unfold begY lyb shL
  rw [if_pos hk, if_neg (by omega), if_neg (by omega), e, Int.add_mul, Int.one_mul, Int.mul_assoc, Int.mul_comm q lp]
theorem begY_hi {k lp q s : Int} (hk : isLp k) (h : 1 ≤ s ∧ s < lp) : begY k lp (q * lp + s) = (100 * lp + 1) * q + (100 * s + 1) := by
  have e : (q * lp + s + lp - 1) / lp = q + 1 := (rnd (R := lp) (q := q + 1) (r := s - 1) (by rw [Int.mul_add, Int.mul_comm lp q]; omega) (by omega)).1
  unfold begY lyb shL
  rw [if_pos hk, if_neg (by omega), if_neg (by omega), e, Int.add_mul, Int.one_mul, Int.mul_assoc, Int.mul_comm q lp]
  omega
theorem dtC_not {k lp n : Int} (hk : ¬ isLp k) : dtC k lp n = 1000 * (n / shL k) + n % shL k := by unfold dtC; rw [if_neg hk]
theorem lenY_not {k lp y : Int} (hk : ¬ isLp k) : lenY k lp y = shL k := by unfold lenY; rw [if_neg (fun w => hk w.1)]
theorem begY_not {k lp y : Int} (hk : ¬ isLp k) : begY k lp y = shL k * y := by unfold begY; rw [if_neg hk]; omega
/-- the date of a count: its year begins by then, and it is within that year -/
theorem dtC_yr {k lp n : Int} (hl : 2 ≤ lp) (hn : 0 ≤ n) : ∃ y u, 0 ≤ y ∧ dtC k lp n = 1000 * y + u ∧ n = begY k lp y + u ∧ 0 ≤ u ∧ u < lenY k lp y := by
  by_cases hk : isLp k
  · obtain ⟨q, h0, ⟨r, h1, h2⟩ | ⟨s, u, h1, h2, h3⟩⟩ := dec_n hl hn
    · exact ⟨q * lp, r, Int.mul_nonneg h0 (by omega), dtC_lo hk hl h1 h2, by rw [begY_lo hk hl]; exact h1, h2.1, by rw [lenY_lo hk]; exact h2.2⟩
    · have h4 : 0 ≤ q * lp := Int.mul_nonneg h0 (by omega)
      exact ⟨q * lp + s, u, by omega, dtC_hi hk h1 ⟨h2, h3⟩, by rw [begY_hi hk h2]; omega, h3.1, by rw [lenY_hi hk h2]; exact h3.2⟩
  · have hs := shL_r k
    have h1 := Int.emod_add_mul_ediv n (shL k)
    have h2 := Int.emod_nonneg n (show shL k ≠ 0 by omega)
    have h3 := Int.emod_lt_of_pos n (show 0 < shL k by omega)
    exact ⟨n / shL k, n % shL k, Int.ediv_nonneg hn (by omega), dtC_not hk, by rw [begY_not hk]; omega, h2, by rw [lenY_not hk]; exact h3⟩
/-- and the other way -/
theorem dtC_of {k lp y u : Int} (hl : 2 ≤ lp) (hy : 0 ≤ y) (hu : 0 ≤ u ∧ u < lenY k lp y) : dtC k lp (begY k lp y + u) = 1000 * y + u := by
  by_cases hk : isLp k
  · have h1 := Int.emod_add_mul_ediv y lp
    have h2 := Int.emod_nonneg y (show lp ≠ 0 by omega)
    have h3 := Int.emod_lt_of_pos y (show 0 < lp by omega)
    generalize y / lp = q at *
    generalize y % lp = s at *
    have e : y = q * lp + s := by rw [Int.mul_comm]; omega
    by_cases c : s = 0
    · have e2 : y = q * lp := by omega
      rw [e2, lenY_lo hk] at hu
      rw [e2, begY_lo hk hl, dtC_lo hk hl rfl hu]
    · rw [e, lenY_hi hk (by omega)] at hu
      rw [e, begY_hi hk (by omega), dtC_hi (s := s) (u := u) (q := q) hk (by omega) ⟨by omega, hu⟩]
  · have hs := shL_r k
    rw [lenY_not hk] at hu
    rw [begY_not hk, dtC_not hk]
    have e := rnd (n := shL k * y + u) rfl hu
    rw [e.1, e.2]
theorem begY_s {k lp y : Int} (hl : 2 ≤ lp) : begY k lp (y + 1) = begY k lp y + lenY k lp y := by
  by_cases hk : isLp k
  · have h1 := Int.emod_add_mul_ediv y lp
    have h2 := Int.emod_nonneg y (show lp ≠ 0 by omega)
    have h3 := Int.emod_lt_of_pos y (show 0 < lp by omega)
    generalize y / lp = q at *
    generalize y % lp = s at *
    have e : y = q * lp + s := by rw [Int.mul_comm]; omega
    by_cases c : s = 0
    · have e2 : y = q * lp := by omega
      rw [e2, lenY_lo hk, begY_lo hk hl, begY_hi hk (by omega)]
      omega
    · by_cases c2 : s = lp - 1
      · have e3 : q * lp + s + 1 = (q + 1) * lp := by rw [Int.add_mul, Int.one_mul]; omega
        rw [e, lenY_hi hk (by omega), begY_hi hk (by omega), e3, begY_lo hk hl, Int.mul_add]
        omega
      · rw [e, lenY_hi hk (by omega), begY_hi hk (by omega), show q * lp + s + 1 = q * lp + (s + 1) by omega, begY_hi hk (by omega)]
        omega
  · rw [lenY_not hk, begY_not hk, begY_not hk, Int.mul_add, Int.mul_one]
theorem begY_m {k lp y : Int} (hl : 2 ≤ lp) : ∀ m : Nat, begY k lp y + 98 * m ≤ begY k lp (y + m)
  | 0 => by
    rw [show y + ((0 : Nat) : Int) = y by omega]
    omega
  | m + 1 => by
    have h := begY_m (k := k) (y := y) hl m
    have h2 := begY_s (k := k) (lp := lp) (y := y + m) hl
    have h3 := lenY_r k lp (y + m)
    rw [show y + ((m + 1 : Nat) : Int) = y + m + 1 by omega]
    omega
theorem dtC_in {k lp n x : Int} (hl : 2 ≤ lp ∧ lp ≤ 9) (hn : 0 ≤ n) (hx : 0 ≤ x) (h : dtC k lp n % 1000 + x < lenY k lp (dtC k lp n / 1000)) : dtC k lp (n + x) = dtC k lp n + x := by
  obtain ⟨y, u, h0, h1, h2, h3, h4⟩ := dtC_yr (k := k) hl.1 hn
  have hr := lenY_r k lp y
  rw [h1, show (1000 * y + u) / 1000 = y by omega, show (1000 * y + u) % 1000 = u by omega] at h
  rw [h1, show n + x = begY k lp y + (u + x) by omega, dtC_of hl.1 h0 ⟨by omega, h⟩]
  omega
theorem str_ge {k lp o g d : Int} (hl : 2 ≤ lp ∧ lp ≤ 9) (hg : 0 ≤ g ∧ g ≤ 9) (hd : 0 ≤ d) : d ≤ strE k lp o g d := by
  have h1 : dtD k lp o g d % 1000 < lenY k lp (dtD k lp o g d / 1000) := by
    have hc := cnt_r (k := k) (o := o) (d := d) hg
    unfold dtD
    generalize cnt k o g d = n at hc ⊢
    obtain ⟨y, u, h0, h1, h2, h3, h4⟩ := dtC_yr (k := k) (lp := lp) (n := n) hl.1 (by omega)
    have hr := lenY_r k lp y
    rw [h1, show (1000 * y + u) / 1000 = y by omega, show (1000 * y + u) % 1000 = u by omega]
    exact h4
  have tr := tCut_r k
  have r := cby_r k o d
  unfold strE
  split
  · omega
  · rename_i q
    have h2 : d ≤ dcut o (cby k o d + 1) - 1 := by
      unfold dcut
      unfold cby at *
      (repeat' split at *) <;> omega
    omega
theorem str_dt {k lp o g d e : Int} (hl : 2 ≤ lp ∧ lp ≤ 9) (hg : 0 ≤ g ∧ g ≤ 9) (hd : 0 ≤ d) (h1 : d ≤ e) (h2 : e ≤ strE k lp o g d) : dtD k lp o g e = dtD k lp o g d + (e - d) := by
  have hc := cby_str h1 h2
  have hr := cnt_r (k := k) (o := o) (d := d) hg
  have e1 : cnt k o g e = cnt k o g d + (e - d) := by
    unfold cnt
    rw [hc]
    omega
  unfold dtD
  rw [e1]
  refine dtC_in hl (by omega) (by omega) ?_
  unfold strE at h2
  unfold dtD at h2
  split at h2 <;> omega
theorem str_cnt {k lp o g d e : Int} (h1 : d ≤ e) (h2 : e ≤ strE k lp o g d) : cnt k o g e = cnt k o g d + (e - d) := by
  unfold cnt
  rw [cby_str h1 h2]
  omega
