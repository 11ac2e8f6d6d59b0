theorem rfR_t (τ : Mm) (r : Int) : -3 ≤ rfR τ r ∧ rfR τ r ≤ 0 := rfR_r τ r
theorem rfP_1 {τ : Mm} {r x : Int} (h : rfR τ r ≠ 0) : rfP τ r x = rfR τ r ∧ mRp τ r x = mRf τ r := by unfold rfP mRp; rw [if_pos h, if_pos h]; exact ⟨rfl, rfl⟩
theorem rfP_2 {τ : Mm} {r x : Int} (h : rfR τ r = 0) (k : 0 ≤ x ∧ x + 1 ≤ τ 2 r 1) : rfP τ r x = 0 ∧ mRp τ r x = τ := by unfold rfP mRp; simp [h, k]
theorem rfP_3 {τ : Mm} {r x : Int} (h : rfR τ r = 0) (k : ¬ (0 ≤ x ∧ x + 1 ≤ τ 2 r 1)) : rfP τ r x = -3 ∧ mRp τ r x = mFd τ 2 := by unfold rfP mRp; simp only [h, ne_eq, not_true_eq_false, if_false, if_neg k, and_self]
theorem at_0 {τ : Mm} {r x : Int} (h : 0 ≤ rC_at τ r x) : rfP τ r x = 0 ∧ mC_at τ r x = up τ 0 0 8 (τ 3 r x) := by
  have h1 := rfP_r τ r x
  unfold rC_at at h
  by_cases q : rfP τ r x = 0
  · unfold mC_at
    rw [if_neg (fun z => z q)]
    exact ⟨q, rfl⟩
  · rw [if_pos q] at h
    omega
theorem at_1 {τ : Mm} {r x : Int} (h : rC_at τ r x < 0) : rfP τ r x ≠ 0 ∧ rC_at τ r x = rfP τ r x ∧ mC_at τ r x = mRp τ r x := by
  unfold rC_at mC_at at *
  by_cases q : rfP τ r x = 0
  · rw [if_neg (fun z => z q)] at h
    omega
  · rw [if_pos q, if_pos q]
    exact ⟨q, rfl, rfl⟩
theorem at_r (τ : Mm) (r x : Int) : -3 ≤ rC_at τ r x ∧ rC_at τ r x ≤ 1 := by
  have h1 := rfP_r τ r x
  unfold rC_at
  split <;> omega
