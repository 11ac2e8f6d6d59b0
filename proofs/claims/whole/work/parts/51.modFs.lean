abbrev qrX (σ : Mm) (r x : Int) : Prop := qrC (σ 6 (σ 3 r x) 0) (σ 6 (σ 3 r x) 1) (σ 6 (σ 3 r x) 2) (σ 6 (σ 3 r x) 3) (σ 3 r (x + 1)) (σ 3 r (x + 2))
theorem rl_tr {τ σ : Mm} {k lp o g : Int} (h : Rel2 τ σ) (hI : IC τ) : Rel2 (mTr τ k lp o g) σ := by
  obtain ⟨h1, h2, h3, h4, h5, h6, h7, h8⟩ := h
  refine ⟨h1, h2, h3, h4, h5, h6, fun c a b => ?_, h8⟩
  have b2 : c < τ 0 0 6 := b
  have hm := hI.1.2
  have := h7 c a b2
  rw [mTr_c (by omega), mTr_c (by omega), mTr_c (by omega), mTr_c (by omega)]
  exact this
abbrev nDy (σ : Mm) (r q : Int) : Prop := dyD (σ 6 (σ 3 r (3 * q)) 0) (σ 6 (σ 3 r (3 * q)) 1) (σ 6 (σ 3 r (3 * q)) 2) (σ 6 (σ 3 r (3 * q)) 3) (σ 3 r (3 * q + 1)) = -1
def aC (σ : Mm) (r w : Int) : Int := if rfC σ r ≠ 0 then rfC σ r else if w ≠ 0 ∧ ctI (fun q => nDy σ r q) 0 (σ 2 r 1 / 3).toNat ≠ 0 then -3 else 0
def mAC (σ : Mm) (r w : Int) : Mm := if rfC σ r ≠ 0 then mRc σ r else if w ≠ 0 ∧ ctI (fun q => nDy σ r q) 0 (σ 2 r 1 / 3).toNat ≠ 0 then mFd σ 3 else σ
theorem aC_r (σ : Mm) (r w : Int) : -3 ≤ aC σ r w ∧ aC σ r w ≤ 0 := by
  have h := rfC_r σ r
  unfold aC; (repeat' split) <;> omega
theorem aC_1 {σ : Mm} {r w : Int} (h : rfR σ r ≠ 0) : aC σ r w = rfR σ r ∧ mAC σ r w = mRf σ r := by
  have e : rfC σ r = rfR σ r := by unfold rfC; rw [if_pos h]
  unfold aC mAC mRc
  rw [e, if_pos h, if_pos h, if_pos h]
  exact ⟨rfl, rfl⟩
theorem aC_5 {σ : Mm} {r w : Int} (h : rfR σ r = 0) (h3 : σ 2 r 1 % 3 ≠ 0) : aC σ r w = -3 ∧ mAC σ r w = mFd σ 5 := by
  have e : rfC σ r = -3 := by unfold rfC; rw [if_neg (fun z => z h), if_pos h3]
  unfold aC mAC mRc
  rw [e, if_pos (by decide), if_pos (by decide), if_neg (fun z => z h), if_pos h3]
  exact ⟨rfl, rfl⟩
theorem aC_3 {σ : Mm} {r w q : Int} (h : rfR σ r = 0) (h3 : σ 2 r 1 % 3 = 0) (hq : 0 ≤ q ∧ q < σ 2 r 1 / 3) (hb : ¬ cOK σ r q ∨ (w ≠ 0 ∧ nDy σ r q)) : aC σ r w = -3 ∧ mAC σ r w = mFd σ 3 := by
  by_cases z : ctI (fun q => ¬ cOK σ r q) 0 (σ 2 r 1 / 3).toNat = 0
  · have e : rfC σ r = 0 := by unfold rfC; rw [if_neg (fun z => z h), if_neg (fun z => z h3), if_pos z]
    have c := ctI_all z q hq.1 (by omega)
    rcases hb with hb | hb
    · exact absurd hb c
    · have n := ctI_nz (P := fun q => nDy σ r q) (a := 0) hq.1 hb.2 (n := (σ 2 r 1 / 3).toNat) (by omega)
      unfold aC mAC
      rw [e, if_neg (fun z => z rfl), if_pos ⟨hb.1, n⟩, if_neg (fun z => z rfl), if_pos ⟨hb.1, n⟩]
      exact ⟨rfl, rfl⟩
  · have e : rfC σ r = -3 := by unfold rfC; rw [if_neg (fun z => z h), if_neg (fun z => z h3), if_neg z]
    unfold aC mAC mRc
    rw [e, if_pos (by decide), if_pos (by decide), if_neg (fun z => z h), if_neg (fun z => z h3), if_neg z]
    exact ⟨rfl, rfl⟩
theorem aC_0 {σ : Mm} {r w : Int} (h : rfR σ r = 0) (h3 : σ 2 r 1 % 3 = 0) (hb : ∀ q, 0 ≤ q → q < σ 2 r 1 / 3 → cOK σ r q ∧ (w ≠ 0 → ¬ nDy σ r q)) : aC σ r w = 0 ∧ mAC σ r w = σ := by
  have z : ctI (fun q => ¬ cOK σ r q) 0 (σ 2 r 1 / 3).toNat = 0 := ctI_z (fun y a b c => c (hb y a (by omega)).1)
  have e : rfC σ r = 0 := by unfold rfC; rw [if_neg (fun z => z h), if_neg (fun z => z h3), if_pos z]
  have n : ¬ (w ≠ 0 ∧ ctI (fun q => nDy σ r q) 0 (σ 2 r 1 / 3).toNat ≠ 0) := fun ⟨a, b⟩ => b (ctI_z (fun y c d => (hb y c (by omega)).2 a))
  unfold aC mAC
  rw [e, if_neg (fun z => z rfl), if_neg n, if_neg (fun z => z rfl), if_neg n]
  exact ⟨rfl, rfl⟩
