theorem aC_w0 (σ : Mm) (r : Int) : aC σ r 0 = rfC σ r ∧ mAC σ r 0 = mRc σ r := by
  have n : ¬ ((0 : Int) ≠ 0 ∧ ctI (fun q => nDy σ r q) 0 (σ 2 r 1 / 3).toNat ≠ 0) := fun z => z.1 rfl
  unfold aC mAC
  rw [if_neg n, if_neg n]
  by_cases h : rfC σ r = 0
  · obtain ⟨-, -, e, -⟩ := rfC_0 h
    rw [if_neg (fun z => z h), if_neg (fun z => z h), h, e]
    exact ⟨rfl, rfl⟩
  · rw [if_pos h, if_pos h]
    exact ⟨rfl, rfl⟩
theorem qAt_x {σ : Mm} {r q : Int} (h : σ 3 r (3 * q) ≠ -9) : qAt σ r q (-9) ↔ qrX σ r (3 * q) := by
  unfold qAt qrX qI
  rw [if_neg h]
theorem qu_1 {σ : Mm} {r : Int} (h : aC σ r 1 < 0) : rC_quarrels σ r = aC σ r 1 ∧ mC_quarrels σ r = mAC σ r 1 := by
  by_cases h0 : rfC σ r = 0
  · by_cases h1 : ctI (fun q => nDy σ r q) 0 (σ 2 r 1 / 3).toNat = 0
    · unfold aC at h
      rw [if_neg (fun z => z h0), if_neg (fun z => z.2 h1)] at h
      omega
    · have e1 : rC_quarrels σ r = -3 := by
        unfold rC_quarrels
        rw [if_neg (fun z => z h0)]
        exact if_pos h1
      have e2 : mC_quarrels σ r = mFd σ 3 := by
        unfold mC_quarrels
        rw [if_neg (fun z => z h0)]
        exact if_pos h1
      have e3 : aC σ r 1 = -3 := by
        unfold aC
        rw [if_neg (fun z => z h0)]
        exact if_pos ⟨by decide, h1⟩
      have e4 : mAC σ r 1 = mFd σ 3 := by
        unfold mAC
        rw [if_neg (fun z => z h0)]
        exact if_pos ⟨by decide, h1⟩
      rw [e1, e2, e3, e4]
      exact ⟨rfl, rfl⟩
  · unfold rC_quarrels mC_quarrels aC mAC
    rw [if_pos h0, if_pos h0, if_pos h0, if_pos h0]
    exact ⟨rfl, rfl⟩
theorem qu_0 {σ : Mm} {r : Int} (hI : IC σ) (h : aC σ r 1 = 0) : (0 ≤ r ∧ r < 6) ∧ 0 ≤ σ 2 r 1 ∧ σ 2 r 1 ≤ 40 ∧ σ 2 r 1 % 3 = 0 ∧ (∀ q, 0 ≤ q → q < σ 2 r 1 / 3 → cOK σ r q) ∧ mAC σ r 1 = σ ∧ rC_quarrels σ r = ctI (fun q => qrX σ r (3 * q)) 0 (σ 2 r 1 / 3).toNat ∧ mC_quarrels σ r = up σ 0 0 8 (fstI (fun q => qrX σ r (3 * q)) 0 (σ 2 r 1 / 3).toNat) := by
  have h0 : rfC σ r = 0 := by
    unfold aC at h
    by_cases h0 : rfC σ r = 0
    · exact h0
    · rw [if_pos h0] at h
      exact absurd h h0
  have h1 : ctI (fun q => nDy σ r q) 0 (σ 2 r 1 / 3).toNat = 0 := by
    unfold aC at h
    rw [if_neg (fun z => z h0)] at h
    by_cases h1 : ctI (fun q => nDy σ r q) 0 (σ 2 r 1 / 3).toNat = 0
    · exact h1
    · rw [if_pos ⟨by decide, h1⟩] at h
      omega
  obtain ⟨a1, a2, a3, a4, a5⟩ := rfC_0 h0
  have a6 := hI.2.2.1 r a1.1 a1.2
  have a7 : ∀ q, 0 ≤ q → q < 0 + ((σ 2 r 1 / 3 - 0).toNat : Int) → (qAt σ r q (-9) ↔ qrX σ r (3 * q)) := fun q b1 b2 => qAt_x (by have := (a5 q b1 (by omega)).1.1; omega)
  have e0 : (σ 2 r 1 / 3 - 0).toNat = (σ 2 r 1 / 3).toNat := by omega
  refine ⟨a1, by omega, a6.2, a4, a5, ?_, ?_, ?_⟩
  · unfold mAC
    rw [if_neg (fun z => z h0), if_neg (fun z => z.2 h1)]
  · unfold rC_quarrels
    rw [if_neg (fun z => z h0), if_neg (fun z => z h1), ctI_c a7, e0]
  · unfold mC_quarrels
    rw [if_neg (fun z => z h0), if_neg (fun z => z h1), fstI_c a7, e0]
theorem IC_ord {σ : Mm} {c v : Int} (h : IC σ) (hv : 0 ≤ v ∧ v ≤ 9999) : IC (up σ 6 c 2 v) := by
  obtain ⟨h1, h2, h3, h4, h5, h6, h7, h8⟩ := h
  refine ⟨h1, h2, h3, h4, h5, h6, fun a a1 a2 => ?_, h8⟩
  have k := h7 a a1 a2
  unfold CalOK at *
  by_cases q : a = c
  · subst q
    rw [up_s, up_j (by decide), up_j (by decide), up_j (by decide)]
    exact ⟨k.1, k.2.1, hv, k.2.2.2⟩
  · rw [up_i q, up_i q, up_i q, up_i q]
    exact k
theorem up_self (σ : Mm) (t : Nat) (i j : Int) : up σ t i j (σ t i j) = σ := by
  funext t1 i1 j1
  unfold up
  split
  · rename_i q
    obtain ⟨rfl, rfl, rfl⟩ := q
    rfl
  · rfl
theorem ch_b (σ : Mm) (c w : Int) : up (up σ 6 c 2 w) 6 c 2 (σ 6 c 2) = σ := by rw [up_up, up_self]
theorem ch_s (σ : Mm) (c a x : Int) (h : a ≤ x) (w : Int) : up (up σ 6 c 2 w) 6 c 2 x = up σ 6 c 2 (chO σ c a (x + 1)) := by
  rw [up_up]
  unfold chO
  rw [if_neg (by omega)]
  congr 1
  omega
theorem ch_0 (σ : Mm) (c a : Int) : σ = up σ 6 c 2 (chO σ c a a) := by
  unfold chO
  rw [if_pos rfl, up_self]
theorem ch_q {σ : Mm} {r c x w q : Int} : qrX (up (up σ 6 c 2 w) 6 c 2 x) r (3 * q) ↔ chQ σ r c x q := by
  have e3 : ∀ a b, up (up σ 6 c 2 w) 6 c 2 x 3 a b = σ 3 a b := fun _ _ => rfl
  unfold qrX chQ
  simp only [e3]
  rw [up_up]
  have e6 : ∀ a : Int, up σ 6 c 2 x 6 a 0 = σ 6 a 0 ∧ up σ 6 c 2 x 6 a 1 = σ 6 a 1 ∧ up σ 6 c 2 x 6 a 3 = σ 6 a 3 ∧ up σ 6 c 2 x 6 a 2 = if a = c then x else σ 6 a 2 := fun a => by
    refine ⟨up_j (by decide), up_j (by decide), up_j (by decide), ?_⟩
    by_cases z : a = c
    · rw [if_pos z, z, up_s]
    · rw [if_neg z, up_i z]
  rw [(e6 _).1, (e6 _).2.1, (e6 _).2.2.1, (e6 _).2.2.2]
theorem ch_m (σ : Mm) (r c x w : Int) : ctI (fun q => qrX (up (up σ 6 c 2 w) 6 c 2 x) r (3 * q)) 0 (up (up σ 6 c 2 w) 6 c 2 x 2 r 1 / 3).toNat = chF σ r c x := ctI_c (fun _ _ _ => ch_q)
/-- the rent by the reference's parts -/
def rtQ (n : Int) : Int := if n = 101 then 4900 else if n = 100 then 4949 else 5050
theorem len_3 (k lp y : Int) : lenY k lp y = 101 ∨ (lenY k lp y = shL k ∧ lenY k lp y ≠ 101) := by
  have h := shL_r k
  unfold lenY
  split
  · exact Or.inl rfl
  · exact Or.inr ⟨rfl, by omega⟩
theorem shL_2 (k : Int) : shL k = 98 ∨ shL k = 100 := by unfold shL; split <;> omega
theorem rt_d (k lp y : Int) : Int.tdiv 494900 (lenY k lp y) = rtQ (lenY k lp y) := by
  have h := shL_2 k
  rcases (show lenY k lp y = 98 ∨ lenY k lp y = 100 ∨ lenY k lp y = 101 by have := len_3 k lp y; omega) with e | e | e <;> rw [e] <;> decide
theorem rtQ_r (n : Int) : 4900 ≤ rtQ n ∧ rtQ n ≤ 5050 := by unfold rtQ; (repeat' split) <;> omega
theorem sm_b {f : Int → Int} (h : ∀ j, 0 ≤ f j ∧ f j ≤ 5050) : ∀ n : Nat, 0 ≤ smI f n ∧ smI f n ≤ 5050 * n
  | 0 => by simp [smI]
  | n + 1 => by
    have h1 := sm_b h n
    have h2 := h n
    rw [smI]
    omega
def rtK (k : Int) : Int := if k = 3 then 50 else 49
theorem rt_sum {k lp a : Int} {d : Int → Int} : ∀ n : Nat, smI (fun j => rtQ (lenY k lp (d (a + j) / 1000))) n = rtK k * ((n - ctI (fun z => lenY k lp (d z / 1000) = 101) a n) * 101 + ctI (fun z => lenY k lp (d z / 1000) = 101) a n * shL k)
  | 0 => by simp [smI, ctI]
  | n + 1 => by
    have h := rt_sum (k := k) (lp := lp) (a := a) (d := d) n
    rw [smI, h, ctI]
    have h2 := len_3 k lp (d (a + n) / 1000)
    by_cases q : lenY k lp (d (a + n) / 1000) = 101
    · rw [zB_t q, q]
      unfold rtK shL rtQ
      split <;> simp <;> omega
    · rw [zB_f q]
      unfold rtK shL rtQ at *
      split <;> rename_i w <;> simp [w] at h2 ⊢ <;> (rcases h2 with h2 | h2 <;> simp [h2] at q ⊢) <;> omega
theorem rt_eq {k A u : Int} (hA : 0 ≤ A) (hu : u = rtK k * A) : Int.tdiv u (gdI u 494900) = Int.tdiv A (gdI A (shL k * 101)) ∧ Int.tdiv 494900 (gdI u 494900) = Int.tdiv (shL k * 101) (gdI A (shL k * 101)) := by
  have e : (494900 : Int) = rtK k * (shL k * 101) := by unfold rtK shL; split <;> rfl
  have p : 0 < rtK k := by unfold rtK; split <;> omega
  have g : gdI u 494900 = rtK k * gdI A (shL k * 101) := by
    rw [hu, e]
    unfold gdI
    rw [Int.gcd_mul_left, Int.natCast_mul, Int.natAbs_of_nonneg (by omega)]
  rw [g, hu, Int.mul_tdiv_mul_of_pos _ _ p]
  refine ⟨rfl, ?_⟩
  rw [show Int.tdiv 494900 (rtK k * gdI A (shL k * 101)) = Int.tdiv (rtK k * (shL k * 101)) (rtK k * gdI A (shL k * 101)) from by rw [← e], Int.mul_tdiv_mul_of_pos _ _ p]
theorem CalM_k {σ τ : Mm} {c x : Int} (h : σ 20 0 20 = τ 6 c 1 ∧ σ 20 0 21 = τ 6 c 2 ∧ σ 20 0 22 = τ 6 c 3) (k : CalOK τ c) (hx : 0 ≤ x ∧ x ≤ 5) : CalM (up σ 20 0 19 x) := by
  obtain ⟨-, k2, k3, k4⟩ := k
  refine ⟨hx, ?_, ?_, ?_⟩
  · show 2 ≤ σ 20 0 20 ∧ σ 20 0 20 ≤ 9
    omega
  · show 0 ≤ σ 20 0 21 ∧ σ 20 0 21 ≤ 9999
    omega
  · show 0 ≤ σ 20 0 22 ∧ σ 20 0 22 ≤ 9
    omega
