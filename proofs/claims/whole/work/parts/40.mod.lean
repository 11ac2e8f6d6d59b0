/-! the reference: its own scratch calendar -/
def CalM (σ : Mm) : Prop := (0 ≤ σ 20 0 19 ∧ σ 20 0 19 ≤ 5) ∧ (2 ≤ σ 20 0 20 ∧ σ 20 0 20 ≤ 9) ∧ (0 ≤ σ 20 0 21 ∧ σ 20 0 21 ≤ 9999) ∧ 0 ≤ σ 20 0 22 ∧ σ 20 0 22 ≤ 9
def dyM (v : Int) : Int := if v = -1 then -9 else v
theorem dyM_s (v : Int) : (v = -1 ∧ dyM v = -9) ∨ (v ≠ -1 ∧ dyM v = v) := by unfold dyM; split <;> omega
abbrev ctP (k : Int) : Prop := k = 2 ∨ k = 4 ∨ k = 5
theorem tCut_c (k : Int) : (tCut k = 0 ∧ ¬ ctP k) ∨ (tCut k = 1 ∧ (k = 2 ∨ k = 4)) ∨ (tCut k = 2 ∧ k = 5) := by unfold tCut; (repeat' split) <;> omega
theorem cnt_m {k o g d : Int} : cnt k o g d = d + (if ctP k ∧ o ≤ d then g else 0) + (if k = 5 ∧ o + 1000 ≤ d then g else 0) := by
  have h := tCut_c k
  unfold cnt cby
  (repeat' split) <;> omega
theorem dyC_m {k o g n : Int} (hg : 0 ≤ g) : dyC k o g n = if ctP k ∧ o ≤ n then (if n - g < o then -1 else if k = 5 ∧ o + 1000 ≤ n - g then (if n - g - g < o + 1000 then -1 else if n - g - g ≤ 19999 then n - g - g else -1) else if n - g ≤ 19999 then n - g else -1) else if n ≤ 19999 then n else -1 := by
  have h := tCut_c k
  unfold dyC cby
  (repeat' split) <;> omega
