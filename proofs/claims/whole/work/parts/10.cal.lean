/-! calendars by whole numbers: kind k, leap lp, order o, gap g -/
def shL (k : Int) : Int := if k = 3 then 98 else 100
abbrev isLp (k : Int) : Prop := k = 1 ∨ k = 4
abbrev isO (k w : Int) : Prop := w = 0 ∨ k = w ∨ tPar k = w
def lenY (k lp y : Int) : Int := if isLp k ∧ y % lp = 0 then 101 else shL k
def lyb (y lp : Int) : Int := if lp < 1 then 0 else (y + lp - 1) / lp
def begY (k lp y : Int) : Int := shL k * y + (if isLp k then lyb y lp else 0)
def cby (k o d : Int) : Int := if tCut k = 0 ∨ d < o then 0 else if tCut k = 1 ∨ d < o + 1000 then 1 else 2
def cnt (k o g d : Int) : Int := d + g * cby k o d
def dtC (k lp n : Int) : Int :=
  if isLp k then (if n % (100 * lp + 1) < 101 then 1000 * (n / (100 * lp + 1) * lp) + n % (100 * lp + 1) else 1000 * (n / (100 * lp + 1) * lp + (n % (100 * lp + 1) - 1) / 100) + (n % (100 * lp + 1) - 1) % 100)
  else 1000 * (n / shL k) + n % shL k
def dtD (k lp o g d : Int) : Int := dtC k lp (cnt k o g d)
def dyC (k o g n : Int) : Int :=
  if cby k o n = 0 then (if n ≤ 19999 then n else -1)
  else if cby k o (n - g) = 1 then (if n - g ≤ 19999 then n - g else -1)
  else if tCut k = 2 ∧ cby k o (n - 2 * g) = 2 then (if n - 2 * g ≤ 19999 then n - 2 * g else -1)
  else -1
def dyD (k lp o g t : Int) : Int := if t < 0 then -1 else if t % 1000 < lenY k lp (t / 1000) then dyC k o g (begY k lp (t / 1000) + t % 1000) else -1
def dcut (o c : Int) : Int := if c = 1 then o else o + 1000
def CalOK (σ : Mm) (i : Int) : Prop := (0 ≤ σ 6 i 0 ∧ σ 6 i 0 ≤ 5) ∧ (2 ≤ σ 6 i 1 ∧ σ 6 i 1 ≤ 9) ∧ (0 ≤ σ 6 i 2 ∧ σ 6 i 2 ≤ 9999) ∧ 0 ≤ σ 6 i 3 ∧ σ 6 i 3 ≤ 9
/-- how many of a, a+1, .. a+n-1 -/
def ctI (P : Int → Prop) [DecidablePred P] (a : Int) : Nat → Int
  | 0 => 0
  | n + 1 => ctI P a n + zB (P (a + n))
theorem shL_r (k : Int) : 98 ≤ shL k ∧ shL k ≤ 100 := by unfold shL; split <;> omega
theorem tCut_r (k : Int) : 0 ≤ tCut k ∧ tCut k ≤ 2 := by unfold tCut; repeat' split
                                                         all_goals omega
theorem cby_r (k o d : Int) : 0 ≤ cby k o d ∧ cby k o d ≤ 2 ∧ cby k o d ≤ tCut k := by
  have h := tCut_r k
  unfold cby
  repeat' split
  all_goals omega
theorem lenY_r (k lp y : Int) : 98 ≤ lenY k lp y ∧ lenY k lp y ≤ 101 := by
  have h := shL_r k
  unfold lenY
  split <;> omega
theorem isO_1 {k : Int} : isO k 1 ↔ isLp k := by
  unfold isO isLp tPar
  constructor
  · intro h
    rcases h with h | h | h
    · omega
    · omega
    · split at h
      · omega
      · split at h <;> omega
  · intro h
    rcases h with h | h
    · exact Or.inr (Or.inl h)
    · exact Or.inr (Or.inr (by rw [if_pos h]))
theorem g2_r {g c : Int} (hg : 0 ≤ g ∧ g ≤ 9) (hc : 0 ≤ c ∧ c ≤ 2) : 0 ≤ g * c ∧ g * c ≤ 18 := by
  rcases (show c = 0 ∨ c = 1 ∨ c = 2 by omega) with rfl | rfl | rfl <;> omega
theorem cnt_r {k o g d : Int} (hg : 0 ≤ g ∧ g ≤ 9) : d ≤ cnt k o g d ∧ cnt k o g d ≤ d + 18 := by
  have h := cby_r k o d
  have h2 := g2_r hg ⟨h.1, h.2.1⟩
  unfold cnt
  omega
theorem lyb_r {y lp : Int} (hy : 0 ≤ y) (hl : 2 ≤ lp) : 0 ≤ lyb y lp ∧ lyb y lp ≤ y := by
  unfold lyb
  rw [if_neg (by omega)]
  have h1 : 0 ≤ (y + lp - 1) / lp := Int.ediv_nonneg (by omega) (by omega)
  refine ⟨h1, ?_⟩
  by_cases hz : y = 0
  · subst hz
    have : (0 + lp - 1) / lp = 0 := Int.ediv_eq_zero_of_lt (by omega) (by omega)
    omega
  · have h2 : (y + lp - 1) / lp < y + 1 := Int.ediv_lt_of_lt_mul (by omega) (by
      have h3 : y * 2 ≤ y * lp := Int.mul_le_mul_of_nonneg_left hl hy
      have h4 : (y + 1) * lp = y * lp + lp := by rw [Int.add_mul, Int.one_mul]
      have h5 : y * 2 = y + y := by omega
      omega)
    omega
theorem begY_r {k lp y : Int} (hy : 0 ≤ y) (hl : 2 ≤ lp) : 98 * y ≤ begY k lp y ∧ begY k lp y ≤ 101 * y := by
  have h := lyb_r hy hl
  unfold begY shL
  split <;> split <;> omega
/-- till the moon is full -/
def tlF (d : Int) : Int := if d % 59 = 0 then 0 else if d % 59 ≤ 29 then 29 - d % 59 else 59 - d % 59
theorem tlF_r {d : Int} (_ : 0 ≤ d) : 0 ≤ tlF d ∧ tlF d ≤ 58 := by
  unfold tlF
  repeat' split
  all_goals omega
theorem cby_ge {k o d : Int} (h : cby k o d ≠ 0) : o ≤ d := by
  unfold cby at h
  split at h
  · exact absurd rfl h
  · omega
theorem dyC_r {k o g n : Int} (_ : 0 ≤ n) (ho : 0 ≤ o) : -1 ≤ dyC k o g n ∧ dyC k o g n ≤ 19999 := by
  unfold dyC
  split
  · split <;> omega
  · split
    · rename_i q
      have := cby_ge (k := k) (o := o) (d := n - g) (by omega)
      split <;> omega
    · split
      · rename_i q
        have := cby_ge (k := k) (o := o) (d := n - 2 * g) (by omega)
        split <;> omega
      · omega
theorem dtC_r {k lp n : Int} (hn : 0 ≤ n) (hl : 2 ≤ lp ∧ lp ≤ 9) : 0 ≤ dtC k lp n ∧ dtC k lp n ≤ 1000 * (n / 98) + 101 := by
  unfold dtC shL
  rcases (show lp = 2 ∨ lp = 3 ∨ lp = 4 ∨ lp = 5 ∨ lp = 6 ∨ lp = 7 ∨ lp = 8 ∨ lp = 9 by omega) with rfl | rfl | rfl | rfl | rfl | rfl | rfl | rfl <;> ((repeat' split) <;> omega)
theorem dtD_r {k lp o g d : Int} (hd : 0 ≤ d) (hl : 2 ≤ lp ∧ lp ≤ 9) (hg : 0 ≤ g ∧ g ≤ 9) : 0 ≤ dtD k lp o g d ∧ dtD k lp o g d ≤ 1000 * ((d + 18) / 98) + 101 := by
  have h := cnt_r (k := k) (o := o) (d := d) hg
  have h2 := dtC_r (k := k) (lp := lp) (n := cnt k o g d) (by omega) hl
  unfold dtD
  omega
theorem dyD_r {k lp o g t : Int} (hl : 2 ≤ lp ∧ lp ≤ 9) (hg : 0 ≤ o) : -1 ≤ dyD k lp o g t ∧ dyD k lp o g t ≤ 19999 := by
  unfold dyD
  split
  · omega
  · split
    · have h := begY_r (k := k) (lp := lp) (y := t / 1000) (by omega) hl.1
      exact dyC_r (by omega) hg
    · omega
def strE (k lp o g d : Int) : Int :=
  if tCut k < cby k o d + 1 then d + lenY k lp (dtD k lp o g d / 1000) - 1 - dtD k lp o g d % 1000
  else min (d + lenY k lp (dtD k lp o g d / 1000) - 1 - dtD k lp o g d % 1000) (dcut o (cby k o d + 1) - 1)
abbrev agP (k lp o g u td y : Int) : Prop := dyD k lp o g (1000 * y + u) ≠ -1 ∧ dyD k lp o g (1000 * y + u) ≤ td
/-- how many times the day of the year of t came again by td -/
def tmA (k lp o g t td : Int) : Int := ctI (agP k lp o g (t % 1000) td) (t / 1000 + 1) (dtD k lp o g td / 1000 - t / 1000).toNat
