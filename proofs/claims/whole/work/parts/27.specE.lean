abbrev chQ (σ : Mm) (r c d q : Int) : Prop := qrC (σ 6 (σ 3 r (3 * q)) 0) (σ 6 (σ 3 r (3 * q)) 1) (if σ 3 r (3 * q) = c then d else σ 6 (σ 3 r (3 * q)) 2) (σ 6 (σ 3 r (3 * q)) 3) (σ 3 r (3 * q + 1)) (σ 3 r (3 * q + 2))
def chF (σ : Mm) (r c d : Int) : Int := ctI (fun q => chQ σ r c d q) 0 (σ 2 r 1 / 3).toNat
theorem chQ_eq {σ : Mm} {r c d q : Int} (h : σ 3 r (3 * q) ≠ 5) : qAt (mTr σ (σ 6 c 0) (σ 6 c 1) d (σ 6 c 3)) r q c ↔ chQ σ r c d q := by
  have e3 : ∀ a b, mTr σ (σ 6 c 0) (σ 6 c 1) d (σ 6 c 3) 3 a b = σ 3 a b := fun _ _ => rfl
  unfold qAt chQ qI
  simp only [e3]
  by_cases w : σ 3 r (3 * q) = c
  · simp only [if_pos w]
    rw [w]
    exact Iff.rfl
  · simp only [if_neg w]
    rw [mTr_c h, mTr_c h, mTr_c h, mTr_c h]
theorem chF_eq {σ : Mm} {r c d : Int} (hI : IC σ) (hv : ∀ q, 0 ≤ q → q < σ 2 r 1 / 3 → cOK σ r q) (hs : 0 ≤ σ 2 r 1) : ctI (fun q => qAt (mTr σ (σ 6 c 0) (σ 6 c 1) d (σ 6 c 3)) r q c) 0 (σ 2 r 1 / 3).toNat = chF σ r c d := by
  refine ctI_c (fun q h1 h2 => chQ_eq ?_)
  have := (hv q h1 (by omega)).1.2
  have := hI.1.2
  omega
def chO (σ : Mm) (c a x : Int) : Int := if x = a then σ 6 c 2 else x - 1
theorem mnI_b {f : Int → Int} {a : Int} : ∀ {n : Nat}, (∀ z, a ≤ z → z < a + n → 0 ≤ f z) → 0 ≤ mnI f a n ∧ mnI f a n ≤ 40
  | 0, _ => by rw [mnI]; omega
  | n + 1, h => by
    have h1 := mnI_b (n := n) (fun z h1 h2 => h z h1 (by omega))
    have h2 := h (a + n) (by omega) (by omega)
    rw [mnI]
    omega
abbrev lOK (σ : Mm) (r q : Int) : Prop := 0 ≤ σ 3 r (2 * q) ∧ σ 3 r (2 * q) ≤ 19999 ∧ 0 ≤ σ 3 r (2 * q + 1)
abbrev wrP (σ : Mm) (r k lp o g q : Int) : Prop := ¬ dtD k lp o g (σ 3 r (2 * q)) = σ 3 r (2 * q + 1)
abbrev kdP (σ : Mm) (c r k : Int) : Prop := ctI (wrP σ r k (σ 6 c 1) (σ 6 c 2) (σ 6 c 3)) 0 (σ 2 r 1 / 2).toNat = 0
def kdO (σ : Mm) (c x : Int) : Int := if x = 0 then σ 6 c 0 else x - 1
def rC_change (σ : Mm) (c r a b : Int) : Int := if ¬ isT σ c ∨ ¬ (0 ≤ r ∧ r < 6) ∨ ¬ (0 ≤ a ∧ a ≤ b ∧ b ≤ 9999) ∨ 100 ≤ b - a then -1 else if rfC σ r ≠ 0 then rfC σ r else bmI (fun z => chF σ r c z) a a (b + 1 - a).toNat
def mC_change (σ : Mm) (c r a b : Int) : Mm := if ¬ isT σ c ∨ ¬ (0 ≤ r ∧ r < 6) ∨ ¬ (0 ≤ a ∧ a ≤ b ∧ b ≤ 9999) ∨ 100 ≤ b - a then σ else if rfC σ r ≠ 0 then mRc σ r else up (mTr σ (σ 6 c 0) (σ 6 c 1) b (σ 6 c 3)) 0 0 8 (mnI (fun z => chF σ r c z) a (b + 1 - a).toNat)
def rC_kinds (σ : Mm) (c r : Int) : Int := if ¬ isT σ c then -1 else if rfR σ r ≠ 0 then rfR σ r else if σ 2 r 1 % 2 ≠ 0 then -3 else if ctI (fun q => ¬ lOK σ r q) 0 (σ 2 r 1 / 2).toNat = 0 then bts (fun z => kdP σ c r z) 6 else -3
def mC_kinds (σ : Mm) (c r : Int) : Mm := if ¬ isT σ c then σ else if rfR σ r ≠ 0 then mRf σ r else if σ 2 r 1 % 2 ≠ 0 then mFd σ 5 else if ctI (fun q => ¬ lOK σ r q) 0 (σ 2 r 1 / 2).toNat = 0 then mTr σ 5 (σ 6 c 1) (σ 6 c 2) (σ 6 c 3) else mFd σ 3
