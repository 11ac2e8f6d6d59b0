def rC_dates (σ : Mm) (c a b r : Int) : Int := if ¬ isT σ c ∨ ¬ (0 ≤ a ∧ a ≤ b ∧ b ≤ 19999) ∨ 40 ≤ b - a ∨ ¬ (0 ≤ r ∧ r < 6) then -1 else b + 1 - a
def mC_dates (σ : Mm) (c a b r : Int) : Mm := if ¬ isT σ c ∨ ¬ (0 ≤ a ∧ a ≤ b ∧ b ≤ 19999) ∨ 40 ≤ b - a ∨ ¬ (0 ≤ r ∧ r < 6) then σ else mRw σ r (b + 1 - a) (fun j => dtD (σ 6 c 0) (σ 6 c 1) (σ 6 c 2) (σ 6 c 3) (a + j))
def rfC (σ : Mm) (r : Int) : Int := if rfR σ r ≠ 0 then rfR σ r else if σ 2 r 1 % 3 ≠ 0 then -3 else if ctI (fun q => ¬ cOK σ r q) 0 (σ 2 r 1 / 3).toNat = 0 then 0 else -3
def mRc (σ : Mm) (r : Int) : Mm := if rfR σ r ≠ 0 then mRf σ r else if σ 2 r 1 % 3 ≠ 0 then mFd σ 5 else if ctI (fun q => ¬ cOK σ r q) 0 (σ 2 r 1 / 3).toNat = 0 then σ else mFd σ 3
theorem rfC_r (σ : Mm) (r : Int) : -3 ≤ rfC σ r ∧ rfC σ r ≤ 0 := by
  have h := rfR_r σ r
  unfold rfC; (repeat' split) <;> omega
theorem rfC_0 {σ : Mm} {r : Int} (h : rfC σ r = 0) : (0 ≤ r ∧ r < 6) ∧ σ 2 r 1 ≠ -1 ∧ mRc σ r = σ ∧ σ 2 r 1 % 3 = 0 ∧ ∀ q, 0 ≤ q → q < σ 2 r 1 / 3 → cOK σ r q := by
  unfold rfC at h
  unfold mRc
  by_cases q : rfR σ r = 0
  · obtain ⟨h1, h2, h3⟩ := rfR_0 q
    rw [if_neg (fun z => z q)] at h
    rw [if_neg (fun z => z q)]
    by_cases q2 : σ 2 r 1 % 3 = 0
    · rw [if_neg (fun z => z q2)] at h
      rw [if_neg (fun z => z q2)]
      by_cases q3 : ctI (fun q => ¬ cOK σ r q) 0 (σ 2 r 1 / 3).toNat = 0
      · rw [if_pos q3]
        exact ⟨h1, h2, rfl, q2, fun x hx1 hx2 => Classical.byContradiction (fun z => ctI_all q3 x hx1 (by omega) z)⟩
      · rw [if_neg q3] at h
        omega
    · rw [if_pos q2] at h
      omega
  · rw [if_pos q] at h
    exact absurd h q
def rC_quarrels (σ : Mm) (r : Int) : Int := if rfC σ r ≠ 0 then rfC σ r else if ctI (fun q => dyD (σ 6 (σ 3 r (3 * q)) 0) (σ 6 (σ 3 r (3 * q)) 1) (σ 6 (σ 3 r (3 * q)) 2) (σ 6 (σ 3 r (3 * q)) 3) (σ 3 r (3 * q + 1)) = -1) 0 (σ 2 r 1 / 3).toNat ≠ 0 then -3 else ctI (fun q => qAt σ r q (-9)) 0 (σ 2 r 1 / 3 - 0).toNat
def mC_quarrels (σ : Mm) (r : Int) : Mm := if rfC σ r ≠ 0 then mRc σ r else if ctI (fun q => dyD (σ 6 (σ 3 r (3 * q)) 0) (σ 6 (σ 3 r (3 * q)) 1) (σ 6 (σ 3 r (3 * q)) 2) (σ 6 (σ 3 r (3 * q)) 3) (σ 3 r (3 * q + 1)) = -1) 0 (σ 2 r 1 / 3).toNat ≠ 0 then mFd σ 3 else up σ 0 0 8 (fstI (fun q => qAt σ r q (-9)) 0 (σ 2 r 1 / 3 - 0).toNat)
