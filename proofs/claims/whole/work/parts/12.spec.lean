/-! the class: what holds of its memory, and what its calls answer -/
def IC (σ : Mm) : Prop :=
  (0 ≤ σ 0 0 6 ∧ σ 0 0 6 ≤ 5) ∧ (0 ≤ σ 0 0 7 ∧ σ 0 0 7 ≤ 19999) ∧
  (∀ r : Int, 0 ≤ r → r < 6 → -1 ≤ σ 2 r 1 ∧ σ 2 r 1 ≤ 40) ∧
  (∀ r j : Int, 0 ≤ r → r < 6 → 0 ≤ j → j < 40 → -2147483648 ≤ σ 3 r j ∧ σ 3 r j < 2147483648) ∧
  (∀ t : Int, 0 ≤ t → t < 4 → -1 ≤ σ 4 t 1 ∧ σ 4 t 1 ≤ 60) ∧
  (∀ t j : Int, 0 ≤ t → t < 4 → 0 ≤ j → j < 60 → -128 ≤ σ 5 t j ∧ σ 5 t j < 128) ∧
  (∀ c : Int, 0 ≤ c → c < σ 0 0 6 → CalOK σ c) ∧
  (∀ k : Int, 0 ≤ k → k < 3 → (0 ≤ σ 7 k 3 ∧ σ 7 k 3 ≤ 1) ∧ (0 ≤ σ 7 k 4 ∧ σ 7 k 4 ≤ 19999) ∧ (σ 7 k 3 = 1 → ∀ c : Int, 0 ≤ c → c < σ 0 0 6 → (2 ≤ σ 8 k c ∧ σ 8 k c ≤ 9) ∧ (0 ≤ σ 9 k c ∧ σ 9 k c ≤ 9999) ∧ 0 ≤ σ 10 k c ∧ σ 10 k c ≤ 9))
abbrev isT (σ : Mm) (c : Int) : Prop := 0 ≤ c ∧ c < σ 0 0 6
def mFd (σ : Mm) (f : Int) : Mm := up (up σ 0 0 11 f) 1 0 f (σ 1 0 f + 1)
def rfR (σ : Mm) (r : Int) : Int := if ¬ (0 ≤ r ∧ r < 6) then -1 else if σ 2 r 1 = -1 then -3 else 0
def mRf (σ : Mm) (r : Int) : Mm := if (0 ≤ r ∧ r < 6) ∧ σ 2 r 1 = -1 then mFd σ 1 else σ
def rfP (σ : Mm) (r i : Int) : Int := if rfR σ r ≠ 0 then rfR σ r else if 0 ≤ i ∧ i + 1 ≤ σ 2 r 1 then 0 else -3
def mRp (σ : Mm) (r i : Int) : Mm := if rfR σ r ≠ 0 then mRf σ r else if 0 ≤ i ∧ i + 1 ≤ σ 2 r 1 then σ else mFd σ 2
def rfT (σ : Mm) (t : Int) : Int := if ¬ (0 ≤ t ∧ t < 4) then -1 else if σ 4 t 1 = -1 then -3 else 0
def mRt (σ : Mm) (t : Int) : Mm := if (0 ≤ t ∧ t < 4) ∧ σ 4 t 1 = -1 then mFd σ 1 else σ
theorem rfR_0 {σ : Mm} {r : Int} (h : rfR σ r = 0) : (0 ≤ r ∧ r < 6) ∧ σ 2 r 1 ≠ -1 ∧ mRf σ r = σ := by
  unfold rfR at h
  unfold mRf
  split at h
  · omega
  · split at h
    · omega
    · exact ⟨by omega, by omega, by rw [if_neg (by omega)]⟩
theorem rfT_0 {σ : Mm} {r : Int} (h : rfT σ r = 0) : (0 ≤ r ∧ r < 4) ∧ σ 4 r 1 ≠ -1 ∧ mRt σ r = σ := by
  unfold rfT at h
  unfold mRt
  split at h
  · omega
  · split at h
    · omega
    · exact ⟨by omega, by omega, by rw [if_neg (by omega)]⟩
theorem rfR_r (σ : Mm) (r : Int) : -3 ≤ rfR σ r ∧ rfR σ r ≤ 0 := by unfold rfR; (repeat' split) <;> omega
theorem rfT_r (σ : Mm) (r : Int) : -3 ≤ rfT σ r ∧ rfT σ r ≤ 0 := by unfold rfT; (repeat' split) <;> omega
theorem rfP_r (σ : Mm) (r i : Int) : -3 ≤ rfP σ r i ∧ rfP σ r i ≤ 0 := by
  have h := rfR_r σ r
  unfold rfP; (repeat' split) <;> omega
theorem rfP_0 {σ : Mm} {r i : Int} (h : rfP σ r i = 0) : (0 ≤ r ∧ r < 6) ∧ (0 ≤ i ∧ i + 1 ≤ σ 2 r 1) ∧ mRp σ r i = σ := by
  unfold rfP at h
  unfold mRp
  by_cases q : rfR σ r = 0
  · have h1 := rfR_0 q
    rw [if_neg (fun z => z q)] at h
    rw [if_neg (fun z => z q)]
    split at h
    · rename_i q2
      exact ⟨h1.1, q2, by rw [if_pos q2]⟩
    · omega
  · rw [if_pos q] at h
    exact absurd h q
def rC_row (σ : Mm) (r n : Int) : Int := if ¬ (0 ≤ r ∧ r < 6) ∨ 40 < n then -1 else if n < 0 then -3 else n
def mC_row (σ : Mm) (r n : Int) : Mm := if ¬ (0 ≤ r ∧ r < 6) ∨ 40 < n then σ else if n < 0 then mFd σ 5 else mFill (up σ 2 r 1 n) 3 r 40 0
def rC_lay (σ : Mm) (r x v : Int) : Int := if rfP σ r x ≠ 0 then rfP σ r x else 1
def mC_lay (σ : Mm) (r x v : Int) : Mm := if rfP σ r x ≠ 0 then mRp σ r x else up (up σ 0 0 8 (σ 3 r x)) 3 r x v
def rC_at (σ : Mm) (r x : Int) : Int := if rfP σ r x ≠ 0 then rfP σ r x else 1
def mC_at (σ : Mm) (r x : Int) : Mm := if rfP σ r x ≠ 0 then mRp σ r x else up σ 0 0 8 (σ 3 r x)
def rC_tear (σ : Mm) (r : Int) : Int := if rfR σ r ≠ 0 then rfR σ r else 1
def mC_tear (σ : Mm) (r : Int) : Mm := if rfR σ r ≠ 0 then mRf σ r else up σ 2 r 1 (-1)
def rC_text (σ : Mm) (t n : Int) : Int := if ¬ (0 ≤ t ∧ t < 4) ∨ 60 < n then -1 else if n < 0 then -3 else n
def mC_text (σ : Mm) (t n : Int) : Mm := if ¬ (0 ≤ t ∧ t < 4) ∨ 60 < n then σ else if n < 0 then mFd σ 5 else mFill (up σ 4 t 1 n) 5 t 60 32
def rC_put (σ : Mm) (t x v : Int) : Int := if rfT σ t ≠ 0 then rfT σ t else if ¬ (0 ≤ x ∧ x < σ 4 t 1) then -3 else σ 5 t x + 1000
def mC_put (σ : Mm) (t x v : Int) : Mm := if rfT σ t ≠ 0 then mRt σ t else if ¬ (0 ≤ x ∧ x < σ 4 t 1) then mFd σ 2 else up σ 5 t x (z8 v)
def rC_order (σ : Mm) (c d : Int) : Int := if ¬ isT σ c ∨ ¬ (0 ≤ d ∧ d ≤ 9999) then -1 else σ 6 c 2
def mC_order (σ : Mm) (c d : Int) : Mm := if ¬ isT σ c ∨ ¬ (0 ≤ d ∧ d ≤ 9999) then σ else up σ 6 c 2 d
def rC_gap (σ : Mm) (c v : Int) : Int := if ¬ isT σ c ∨ ¬ (0 ≤ v ∧ v ≤ 9) then -1 else σ 6 c 3
def mC_gap (σ : Mm) (c v : Int) : Mm := if ¬ isT σ c ∨ ¬ (0 ≤ v ∧ v ≤ 9) then σ else up σ 6 c 3 v
def rC_leap (σ : Mm) (c v : Int) : Int := if ¬ isT σ c ∨ ¬ (2 ≤ v ∧ v ≤ 9) then -1 else σ 6 c 1
def mC_leap (σ : Mm) (c v : Int) : Mm := if ¬ isT σ c ∨ ¬ (2 ≤ v ∧ v ≤ 9) then σ else up σ 6 c 1 v
def rC_go (σ : Mm) (n : Int) : Int := if ¬ (0 ≤ n ∧ n ≤ 9999) then -1 else if σ 0 0 6 = 0 then -4 else if 19999 < σ 0 0 7 + n then -6 else σ 0 0 7 + n
def mC_go (σ : Mm) (n : Int) : Mm := if ¬ (0 ≤ n ∧ n ≤ 9999) then σ else if σ 0 0 6 = 0 then σ else if 19999 < σ 0 0 7 + n then σ else up σ 0 0 7 (σ 0 0 7 + n)
def rC_back (σ : Mm) (n : Int) : Int := if ¬ (0 ≤ n ∧ n ≤ σ 0 0 7) then -1 else σ 0 0 7 - n
def mC_back (σ : Mm) (n : Int) : Mm := if ¬ (0 ≤ n ∧ n ≤ σ 0 0 7) then σ else up σ 0 0 7 (σ 0 0 7 - n)
def rC_keep (σ : Mm) (k : Int) : Int := if ¬ (0 ≤ k ∧ k < 3) then -1 else if σ 0 0 6 = 0 then -4 else σ 0 0 7
def mC_keep (σ : Mm) (k : Int) : Mm := if ¬ (0 ≤ k ∧ k < 3) then σ else if σ 0 0 6 = 0 then σ else mTk σ k (σ 0 0 7) 5
def rC_on (σ : Mm) (k : Int) : Int := if ¬ (0 ≤ k ∧ k < 3) then -1 else if σ 7 k 3 = 0 then -3 else σ 7 k 4
def mC_on (σ : Mm) (k : Int) : Mm := if ¬ (0 ≤ k ∧ k < 3) then σ else if σ 7 k 3 = 0 then mFd σ 1 else up (mGv σ k 5) 0 0 7 (σ 7 k 4)
def rC_date (σ : Mm) (c d : Int) : Int := if isT σ c ∧ 0 ≤ d ∧ d ≤ 19999 then dtD (σ 6 c 0) (σ 6 c 1) (σ 6 c 2) (σ 6 c 3) d else -1
def rC_day (σ : Mm) (c t : Int) : Int := if ¬ isT σ c ∨ t < 0 then -1 else if dyD (σ 6 c 0) (σ 6 c 1) (σ 6 c 2) (σ 6 c 3) t = -1 then -3 else dyD (σ 6 c 0) (σ 6 c 1) (σ 6 c 2) (σ 6 c 3) t
def mC_day (σ : Mm) (c t : Int) : Mm := if ¬ isT σ c ∨ t < 0 then σ else if dyD (σ 6 c 0) (σ 6 c 1) (σ 6 c 2) (σ 6 c 3) t = -1 then mFd σ 4 else σ
def rC_same (σ : Mm) (c t d : Int) : Int := if ¬ isT σ c ∨ ¬ isT σ d ∨ t < 0 then -1 else if dyD (σ 6 c 0) (σ 6 c 1) (σ 6 c 2) (σ 6 c 3) t = -1 then -3 else dtD (σ 6 d 0) (σ 6 d 1) (σ 6 d 2) (σ 6 d 3) (dyD (σ 6 c 0) (σ 6 c 1) (σ 6 c 2) (σ 6 c 3) t)
def mC_same (σ : Mm) (c t d : Int) : Mm := if ¬ isT σ c ∨ ¬ isT σ d ∨ t < 0 then σ else if dyD (σ 6 c 0) (σ 6 c 1) (σ 6 c 2) (σ 6 c 3) t = -1 then mFd σ 4 else σ
def rC_between (σ : Mm) (c a b : Int) : Int := if ¬ isT σ c ∨ a < 0 ∨ b < 0 then -1 else if dyD (σ 6 c 0) (σ 6 c 1) (σ 6 c 2) (σ 6 c 3) a = -1 ∨ dyD (σ 6 c 0) (σ 6 c 1) (σ 6 c 2) (σ 6 c 3) b = -1 then -3 else 1
def mC_between (σ : Mm) (c a b : Int) : Mm := if ¬ isT σ c ∨ a < 0 ∨ b < 0 then σ else if dyD (σ 6 c 0) (σ 6 c 1) (σ 6 c 2) (σ 6 c 3) a = -1 ∨ dyD (σ 6 c 0) (σ 6 c 1) (σ 6 c 2) (σ 6 c 3) b = -1 then mFd σ 4 else up σ 0 0 8 (dyD (σ 6 c 0) (σ 6 c 1) (σ 6 c 2) (σ 6 c 3) b - dyD (σ 6 c 0) (σ 6 c 1) (σ 6 c 2) (σ 6 c 3) a)
