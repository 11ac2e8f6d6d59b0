/-- a row of n, of which k are laid -/
def mRq (σ : Mm) (r n k : Int) (f : Int → Int) : Mm := fun t i j => if t = 2 ∧ i = r ∧ j = 1 then n else if t = 3 ∧ i = r ∧ 0 ≤ j ∧ j < 40 then (if j < k then f j else 0) else σ t i j
theorem mRq_0 (σ : Mm) (r n : Int) (f : Int → Int) : mFill (up σ 2 r 1 n) 3 r 40 0 = mRq σ r n 0 f := by
  funext t i j
  unfold mFill mRq up
  (repeat' split) <;> first | rfl | omega
theorem mRq_s (σ : Mm) (r n k v : Int) (f : Int → Int) (h : 0 ≤ k ∧ k < 40) (hv : v = f k) : up (mRq σ r n k f) 3 r k v = mRq σ r n (k + 1) f := by
  rw [hv]
  funext t i j
  unfold mRq up
  dsimp only
  by_cases c : t = 3 ∧ i = r ∧ j = k
  · obtain ⟨rfl, rfl, rfl⟩ := c
    rw [if_pos ⟨rfl, rfl, rfl⟩, if_neg (by omega), if_pos ⟨rfl, rfl, h⟩, if_pos (by omega)]
  · (repeat' split) <;> first | rfl | omega
theorem mRq_n (σ : Mm) (r n : Int) (f : Int → Int) : mRq σ r n n f = mRw σ r n f := rfl
theorem IC_rq {σ : Mm} {r n k : Int} {f : Int → Int} (h : IC σ) (hn : 0 ≤ n ∧ n ≤ 40) (hf : ∀ j, 0 ≤ j → j < k → j < 40 → -2147483648 ≤ f j ∧ f j < 2147483648) : IC (mRq σ r n k f) := by
  obtain ⟨h1, h2, h3, h4, h5⟩ := h
  refine ⟨h1, h2, fun a ha hb => ?_, fun a j ha hb hc hd => ?_, h5⟩
  · have := h3 a ha hb
    unfold mRq
    split
    · omega
    · rw [if_neg (by omega)]
      exact this
  · have := h4 a j ha hb hc hd
    unfold mRq
    rw [if_neg (by omega)]
    split
    · split
      · exact hf j hc (by omega) hd
      · omega
    · exact this
theorem tCut_g {k g : Int} (h : 0 ≤ g ∧ g ≤ 9) : 0 ≤ tCut k * g ∧ tCut k * g ≤ 18 := by
  rcases tCut_c k with ⟨h, -⟩ | ⟨h, -⟩ | ⟨h, -⟩ <;> rw [h] <;> omega
