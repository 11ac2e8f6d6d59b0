abbrev qrX (σ : Mm) (r x : Int) : Prop := qrC (σ 6 (σ 3 r x) 0) (σ 6 (σ 3 r x) 1) (σ 6 (σ 3 r x) 2) (σ 6 (σ 3 r x) 3) (σ 3 r (x + 1)) (σ 3 r (x + 2))
theorem rl_tr {τ σ : Mm} {k lp o g : Int} (h : Rel2 τ σ) (hI : IC τ) : Rel2 (mTr τ k lp o g) σ := by
  obtain ⟨h1, h2, h3, h4, h5, h6, h7, h8⟩ := h
  refine ⟨h1, h2, h3, h4, h5, h6, fun c a b => ?_, h8⟩
  have b2 : c < τ 0 0 6 := b
  have hm := hI.1.2
  have := h7 c a b2
  rw [mTr_c (by omega), mTr_c (by omega), mTr_c (by omega), mTr_c (by omega)]
  exact this
