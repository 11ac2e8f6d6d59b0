/-- an almanac is kept by the reference -/
def mKp (σ : Mm) (k td q : Int) : Mm := fun t i j =>
  if t = 32 ∧ i = 0 ∧ j = 21 * k then td else if t = 32 ∧ i = 0 ∧ 21 * k + 1 ≤ j ∧ j < 21 * k + 1 + q then σ 28 0 (j - (21 * k + 1))
  else if t = 32 ∧ i = 0 ∧ 21 * k + 6 ≤ j ∧ j < 21 * k + 6 + q then σ 29 0 (j - (21 * k + 6)) else if t = 32 ∧ i = 0 ∧ 21 * k + 11 ≤ j ∧ j < 21 * k + 11 + q then σ 30 0 (j - (21 * k + 11)) else σ t i j
theorem mKp_0 (σ : Mm) (k td : Int) : up σ 32 0 (21 * k) td = mKp σ k td 0 := by
  funext t i j
  unfold mKp up
  by_cases c : t = 32 ∧ i = 0 ∧ j = 21 * k
  · rw [if_pos c, if_pos c]
  · rw [if_neg c, if_neg c, if_neg (by omega), if_neg (by omega), if_neg (by omega)]
theorem mKp_s (σ : Mm) (k td q : Int) (h : 0 ≤ q ∧ q < 5) : up (up (up (mKp σ k td q) 32 0 (21 * k + 1 + q) (σ 28 0 q)) 32 0 (21 * k + 6 + q) (σ 29 0 q)) 32 0 (21 * k + 11 + q) (σ 30 0 q) = mKp σ k td (q + 1) := by
  funext t i j
  unfold mKp up
  dsimp only
  by_cases c3 : t = 32 ∧ i = 0 ∧ j = 21 * k + 11 + q
  · obtain ⟨rfl, rfl, rfl⟩ := c3
    rw [if_pos ⟨rfl, rfl, rfl⟩, if_neg (by omega), if_neg (by omega), if_neg (by omega), if_pos (by omega), show 21 * k + 11 + q - (21 * k + 11) = q by omega]
  · rw [if_neg c3]
    by_cases c2 : t = 32 ∧ i = 0 ∧ j = 21 * k + 6 + q
    · obtain ⟨rfl, rfl, rfl⟩ := c2
      rw [if_pos ⟨rfl, rfl, rfl⟩, if_neg (by omega), if_neg (by omega), if_pos (by omega), show 21 * k + 6 + q - (21 * k + 6) = q by omega]
    · rw [if_neg c2]
      by_cases c1 : t = 32 ∧ i = 0 ∧ j = 21 * k + 1 + q
      · obtain ⟨rfl, rfl, rfl⟩ := c1
        rw [if_pos ⟨rfl, rfl, rfl⟩, if_neg (by omega), if_pos (by omega), show 21 * k + 1 + q - (21 * k + 1) = q by omega]
      · rw [if_neg c1]
        (repeat' split) <;> first | rfl | omega
theorem sC_kp {σ0 σ : Mm} {k td q : Int} (h : sC σ0 σ) : sC σ0 (mKp σ k td q) := fun t i j ht => by
  unfold mKp
  rw [if_neg (by omega), if_neg (by omega), if_neg (by omega), if_neg (by omega)]
  exact h t i j ht
theorem kp_1 {σ : Mm} {k td a c : Int} (hc : 0 ≤ c ∧ c < 5) : mKp σ k td 5 32 0 (21 * k) = td ∧ mKp σ k td 5 32 0 (21 * k + 1 + c) = σ 28 0 c ∧ mKp σ k td 5 32 0 (21 * k + 6 + c) = σ 29 0 c ∧ mKp σ k td 5 32 0 (21 * k + 11 + c) = σ 30 0 c := by
  unfold mKp
  refine ⟨by rw [if_pos ⟨rfl, rfl, rfl⟩], ?_, ?_, ?_⟩
  · rw [if_neg (by omega), if_pos (by omega), show 21 * k + 1 + c - (21 * k + 1) = c by omega]
  · rw [if_neg (by omega), if_neg (by omega), if_pos (by omega), show 21 * k + 6 + c - (21 * k + 6) = c by omega]
  · rw [if_neg (by omega), if_neg (by omega), if_neg (by omega), if_pos (by omega), show 21 * k + 11 + c - (21 * k + 11) = c by omega]
theorem kp_2 {σ : Mm} {k td j : Int} (h : j < 21 * k ∨ 21 * k + 16 ≤ j) : mKp σ k td 5 32 0 j = σ 32 0 j := by
  unfold mKp
  rw [if_neg (by omega), if_neg (by omega), if_neg (by omega), if_neg (by omega)]
theorem tk_1 {τ : Mm} {k td c : Int} (hc : 0 ≤ c ∧ c < 5) : mTk τ k td 5 7 k 3 = 1 ∧ mTk τ k td 5 7 k 4 = td ∧ mTk τ k td 5 8 k c = τ 6 c 1 ∧ mTk τ k td 5 9 k c = τ 6 c 2 ∧ mTk τ k td 5 10 k c = τ 6 c 3 := by
  unfold mTk
  refine ⟨by rw [if_pos ⟨rfl, rfl, rfl⟩], by rw [if_neg (by omega), if_pos ⟨rfl, rfl, rfl⟩], ?_, ?_, ?_⟩
  · rw [if_neg (by omega), if_neg (by omega), if_pos (by omega)]
  · rw [if_neg (by omega), if_neg (by omega), if_neg (by omega), if_pos (by omega)]
  · rw [if_neg (by omega), if_neg (by omega), if_neg (by omega), if_neg (by omega), if_pos (by omega)]
theorem tk_2 {τ : Mm} {k td a : Int} (h : a ≠ k) (t : Nat) (j : Int) : mTk τ k td 5 t a j = τ t a j := by
  unfold mTk
  rw [if_neg (by omega), if_neg (by omega), if_neg (by omega), if_neg (by omega), if_neg (by omega)]
theorem rl_kp {τ σ : Mm} {k : Int} (h : Rel2 τ σ) (hI : IC τ) (hk : 0 ≤ k ∧ k < 3) : Rel2 (mTk τ k (τ 0 0 7) 5) (mKp σ k (τ 0 0 7) 5) := by
  obtain ⟨h1, h2, h3, h4, h5, h6, h7, h8⟩ := h
  have hm := hI.1.2
  refine ⟨h1, h2, h3, h4, h5, h6, h7, fun a ha hb => ?_⟩
  have e0 : mTk τ k (τ 0 0 7) 5 0 0 6 = τ 0 0 6 := rfl
  by_cases q : a = k
  · subst q
    obtain ⟨t1, t2, -⟩ := tk_1 (τ := τ) (k := a) (td := τ 0 0 7) (c := 0) (by omega)
    refine ⟨?_, fun _ c hc1 hc2 => ?_⟩
    · rw [(kp_1 (σ := σ) (k := a) (td := τ 0 0 7) (a := 0) (c := 0) (by omega)).1, t1, t2]
      unfold kpM
      rw [if_neg (by decide)]
    · rw [e0] at hc2
      obtain ⟨-, -, t3, t4, t5⟩ := tk_1 (τ := τ) (k := a) (td := τ 0 0 7) (c := c) (by omega)
      obtain ⟨-, k3, k4, k5⟩ := kp_1 (σ := σ) (k := a) (td := τ 0 0 7) (a := 0) (c := c) (by omega)
      obtain ⟨-, g2, g3, g4⟩ := h7 c hc1 hc2
      rw [t3, t4, t5, k3, k4, k5]
      exact ⟨g2, g3, g4⟩
  · obtain ⟨g1, g2⟩ := h8 a ha hb
    refine ⟨?_, fun hz c hc1 hc2 => ?_⟩
    · rw [kp_2 (by omega), tk_2 q, tk_2 q]
      exact g1
    · rw [e0] at hc2
      rw [tk_2 q] at hz
      obtain ⟨b1, b2, b3⟩ := g2 hz c hc1 hc2
      rw [kp_2 (by omega), kp_2 (by omega), kp_2 (by omega), tk_2 q, tk_2 q, tk_2 q]
      exact ⟨b1, b2, b3⟩
/-- an almanac is given back by the reference -/
def mOn (σ : Mm) (k td q : Int) : Mm := fun t i j =>
  if t = 20 ∧ i = 0 ∧ j = 11 then td else if t = 28 ∧ i = 0 ∧ 0 ≤ j ∧ j < q then σ 32 0 (21 * k + 1 + j)
  else if t = 29 ∧ i = 0 ∧ 0 ≤ j ∧ j < q then σ 32 0 (21 * k + 6 + j) else if t = 30 ∧ i = 0 ∧ 0 ≤ j ∧ j < q then σ 32 0 (21 * k + 11 + j) else σ t i j
theorem mOn_0 (σ : Mm) (k td : Int) : up σ 20 0 11 td = mOn σ k td 0 := by
  funext t i j
  unfold mOn up
  by_cases c : t = 20 ∧ i = 0 ∧ j = 11
  · rw [if_pos c, if_pos c]
  · rw [if_neg c, if_neg c, if_neg (by omega), if_neg (by omega), if_neg (by omega)]
theorem mOn_s (σ : Mm) (k td q : Int) (h : 0 ≤ q) : up (up (up (mOn σ k td q) 28 0 q (σ 32 0 (21 * k + 1 + q))) 29 0 q (σ 32 0 (21 * k + 6 + q))) 30 0 q (σ 32 0 (21 * k + 11 + q)) = mOn σ k td (q + 1) := by
  funext t i j
  unfold mOn up
  dsimp only
  by_cases c3 : t = 30 ∧ i = 0 ∧ j = q
  · obtain ⟨rfl, rfl, rfl⟩ := c3
    rw [if_pos ⟨rfl, rfl, rfl⟩, if_neg (by omega), if_neg (by omega), if_neg (by omega), if_pos (by omega)]
  · rw [if_neg c3]
    by_cases c2 : t = 29 ∧ i = 0 ∧ j = q
    · obtain ⟨rfl, rfl, rfl⟩ := c2
      rw [if_pos ⟨rfl, rfl, rfl⟩, if_neg (by omega), if_neg (by omega), if_pos (by omega)]
    · rw [if_neg c2]
      by_cases c1 : t = 28 ∧ i = 0 ∧ j = q
      · obtain ⟨rfl, rfl, rfl⟩ := c1
        rw [if_pos ⟨rfl, rfl, rfl⟩, if_neg (by omega), if_pos (by omega)]
      · rw [if_neg c1]
        (repeat' split) <;> first | rfl | omega
theorem sC_on {σ0 σ : Mm} {k td q : Int} (h : sC σ0 σ) : sC σ0 (mOn σ k td q) := fun t i j ht => by
  unfold mOn
  rw [if_neg (by omega), if_neg (by omega), if_neg (by omega), if_neg (by omega)]
  exact h t i j ht
theorem gv_1 {τ : Mm} {k c : Int} (hc : 0 ≤ c ∧ c < 5) : mGv τ k 5 6 c 0 = τ 6 c 0 ∧ mGv τ k 5 6 c 1 = τ 8 k c ∧ mGv τ k 5 6 c 2 = τ 9 k c ∧ mGv τ k 5 6 c 3 = τ 10 k c := by
  unfold mGv
  refine ⟨?_, ?_, ?_, ?_⟩
  · rw [if_neg (by omega), if_neg (by omega), if_neg (by omega)]
  · rw [if_pos (by omega)]
  · rw [if_neg (by omega), if_pos (by omega)]
  · rw [if_neg (by omega), if_neg (by omega), if_pos (by omega)]
theorem on_1 {σ : Mm} {k td c : Int} (hc : 0 ≤ c ∧ c < 5) : mOn σ k td 5 27 0 c = σ 27 0 c ∧ mOn σ k td 5 28 0 c = σ 32 0 (21 * k + 1 + c) ∧ mOn σ k td 5 29 0 c = σ 32 0 (21 * k + 6 + c) ∧ mOn σ k td 5 30 0 c = σ 32 0 (21 * k + 11 + c) := by
  unfold mOn
  refine ⟨?_, ?_, ?_, ?_⟩
  · rw [if_neg (by omega), if_neg (by omega), if_neg (by omega), if_neg (by omega)]
  · rw [if_neg (by omega), if_pos (by omega)]
  · rw [if_neg (by omega), if_neg (by omega), if_pos (by omega)]
  · rw [if_neg (by omega), if_neg (by omega), if_neg (by omega), if_pos (by omega)]
theorem rl_on {τ σ : Mm} {k td : Int} (h : Rel2 τ σ) (hI : IC τ) (hk : 0 ≤ k ∧ k < 3) (ht : τ 7 k 3 ≠ 0) (htd : td = τ 7 k 4) : Rel2 (up (mGv τ k 5) 0 0 7 (τ 7 k 4)) (mOn σ k td 5) := by
  obtain ⟨h1, h2, h3, h4, h5, h6, h7, h8⟩ := h
  have hm := hI.1.2
  refine ⟨⟨h1.1, h1.2.1, h1.2.2.1, h1.2.2.2.1, h1.2.2.2.2.1, htd⟩, h2, h3, h4, h5, h6, fun c hc1 hc2 => ?_, h8⟩
  have hc3 : c < τ 0 0 6 := hc2
  obtain ⟨a0, a1, a2, a3⟩ := gv_1 (τ := τ) (k := k) (c := c) (by omega)
  obtain ⟨b0, b1, b2, b3⟩ := on_1 (σ := σ) (k := k) (td := td) (c := c) (by omega)
  obtain ⟨g1, g2, g3⟩ := (h8 k hk.1 hk.2).2 ht c hc1 hc3
  have e : ∀ j : Int, up (mGv τ k 5) 0 0 7 (τ 7 k 4) 6 c j = mGv τ k 5 6 c j := fun j => rfl
  rw [e, e, e, e, a0, a1, a2, a3, b0, b1, b2, b3]
  exact ⟨(h7 c hc1 hc3).1, g1, g2, g3⟩
/-- the memory after townOf -/
def mTw (τ σ : Mm) (c w : Int) : Mm := if 0 ≤ w ∧ w < 4 then σ else up (up (up (up σ 20 0 19 (τ 6 c 0)) 20 0 20 (τ 6 c 1)) 20 0 21 (τ 6 c 2)) 20 0 22 (τ 6 c 3)
theorem rl_tw {τ τ0 σ : Mm} {c w : Int} (h : Rel2 τ σ) : Rel2 τ (mTw τ0 σ c w) := by
  unfold mTw
  split
  · exact h
  · exact h
theorem sC_tw {τ0 σ0 σ : Mm} {c w : Int} (h : sC σ0 σ) : sC σ0 (mTw τ0 σ c w) := by
  unfold mTw
  split
  · exact h
  · exact sC_up (sC_up (sC_up (sC_up h (by decide)) (by decide)) (by decide)) (by decide)
theorem tw_h (τ0 σ : Mm) (c w : Int) : mTw τ0 σ c w 20 0 24 = σ 20 0 24 := by
  unfold mTw
  split
  · rfl
  · rfl
