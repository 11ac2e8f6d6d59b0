/-! what a call of the class keeps -/
def sF (σ σ1 : Mm) : Prop := ∀ (t : Nat) (i j : Int), 20 ≤ t → σ1 t i j = σ t i j
theorem sF_r (σ : Mm) : sF σ σ := fun _ _ _ _ => rfl
theorem sF_up {σ σ1 : Mm} {t : Nat} {i j v : Int} (h : sF σ σ1) (ht : t < 20) : sF σ (up σ1 t i j v) := fun t1 i1 j1 h1 => by
  rw [up_t (by omega)]
  exact h t1 i1 j1 h1
theorem IC_c {τ σ : Mm} (h : IC τ) (k : sC τ σ) : IC σ := by
  have e : (fun t i j => if t < 20 then σ t i j else τ t i j : Mm) = τ := by
    funext t i j
    by_cases q : t < 20
    · rw [if_pos q]
      exact k t i j q
    · rw [if_neg q]
  rw [← e] at h
  exact h
theorem rl_l {τ τ2 σ : Mm} (h : Rel2 τ σ) (k : sC τ τ2) : Rel2 τ2 σ := by
  have e : (fun t i j => if t < 20 then τ2 t i j else τ t i j : Mm) = τ := by
    funext t i j
    by_cases q : t < 20
    · rw [if_pos q]
      exact k t i j q
    · rw [if_neg q]
  rw [← e] at h
  exact h
theorem rl_f {τ σ σ1 : Mm} (h : Rel2 τ σ) (k : sF σ σ1) : Rel2 τ σ1 := by
  have e : (fun t i j => if 20 ≤ t then σ1 t i j else σ t i j : Mm) = σ := by
    funext t i j
    by_cases q : 20 ≤ t
    · rw [if_pos q]
      exact k t i j q
    · rw [if_neg q]
  rw [← e] at h
  exact h
/-- from one turn of the law to the next -/
theorem nx {τ σ : Mm} (hI : IC τ) (hR : Rel2 τ σ) (hC : sC τ σ) : IC σ ∧ Rel2 σ σ := ⟨IC_c hI hC, rl_l hR hC⟩
theorem IC_0 : IC mm0 := by
  refine ⟨(show (0 : Int) ≤ 0 ∧ (0 : Int) ≤ 5 by decide), (show (0 : Int) ≤ 0 ∧ (0 : Int) ≤ 19999 by decide), fun r _ _ => (show (-1 : Int) ≤ -1 ∧ (-1 : Int) ≤ 40 by decide), fun r j _ _ _ _ => (show (-2147483648 : Int) ≤ 0 ∧ (0 : Int) < 2147483648 by decide), fun r _ _ => (show (-1 : Int) ≤ -1 ∧ (-1 : Int) ≤ 60 by decide), fun r j _ _ _ _ => (show (-128 : Int) ≤ 0 ∧ (0 : Int) < 128 by decide), fun c h1 h2 => ?_, fun k _ _ => ⟨(show (0 : Int) ≤ 0 ∧ (0 : Int) ≤ 1 by decide), (show (0 : Int) ≤ 0 ∧ (0 : Int) ≤ 19999 by decide), fun z => absurd (show (0 : Int) = 1 from z) (by decide)⟩⟩
  have h3 : c < (0 : Int) := h2
  omega
theorem rl_0 : Rel2 mm0 mm0 := by
  refine ⟨⟨rfl, rfl, rfl, rfl, rfl, rfl⟩, fun _ _ _ => rfl, fun _ _ _ => rfl, fun _ _ _ _ _ _ => rfl, fun _ _ _ => rfl, fun _ _ _ _ _ _ => rfl, fun c h1 h2 => ?_, fun k h1 h2 => ⟨?_, fun z => absurd rfl z⟩⟩
  · have h3 : c < (0 : Int) := h2
    omega
  · rcases (show k = 0 ∨ k = 1 ∨ k = 2 by omega) with rfl | rfl | rfl <;> rfl
def JC (σ σ1 : Mm) : Prop := IC σ1 ∧ sF σ σ1
section JCS
variable {σ σ0 : Mm} {v w r x y a b c d f k n t : Int}
theorem j_r (h : IC σ) : JC σ σ := ⟨h, sF_r _⟩
theorem j_told (h : JC σ0 σ) : JC σ0 (up σ 0 0 8 v) := ⟨h.1, sF_up h.2 (by decide)⟩
theorem j_fd (h : JC σ0 σ) : JC σ0 (mFd σ f) := ⟨h.1, sF_up (sF_up h.2 (by decide)) (by decide)⟩
theorem j_fr (h : JC σ0 σ) : JC σ0 (mFr σ a b) := ⟨h.1, sF_up (sF_up h.2 (by decide)) (by decide)⟩
theorem j_rf (h : JC σ0 σ) : JC σ0 (mRf σ r) := by
  unfold mRf
  split
  · exact j_fd h
  · exact h
theorem j_rp (h : JC σ0 σ) : JC σ0 (mRp σ r x) := by
  unfold mRp
  split
  · exact j_rf h
  · split
    · exact h
    · exact j_fd h
theorem j_rt (h : JC σ0 σ) : JC σ0 (mRt σ t) := by
  unfold mRt
  split
  · exact j_fd h
  · exact h
theorem j_rc (h : JC σ0 σ) : JC σ0 (mRc σ r) := by
  unfold mRc
  split
  · exact j_rf h
  · split
    · exact j_fd h
    · split
      · exact h
      · exact j_fd h
theorem j_tod (h : JC σ0 σ) (hv : 0 ≤ v ∧ v ≤ 19999) : JC σ0 (up σ 0 0 7 v) := ⟨⟨h.1.1, hv, h.1.2.2⟩, sF_up h.2 (by decide)⟩
theorem j_sz (h : JC σ0 σ) (hv : -1 ≤ v ∧ v ≤ 40) : JC σ0 (up σ 2 r 1 v) := by
  obtain ⟨⟨h1, h2, h3, h4⟩, hf⟩ := h
  refine ⟨⟨h1, h2, fun a ha hb => ?_, h4⟩, sF_up hf (by decide)⟩
  by_cases q : a = r
  · rw [q, up_s]
    exact hv
  · rw [up_i q]
    exact h3 a ha hb
theorem j_pl (h : JC σ0 σ) (hv : -2147483648 ≤ v ∧ v < 2147483648) : JC σ0 (up σ 3 r x v) := by
  obtain ⟨⟨h1, h2, h3, h4, h5⟩, hf⟩ := h
  refine ⟨⟨h1, h2, h3, fun a j ha hb hc hd => ?_, h5⟩, sF_up hf (by decide)⟩
  unfold up
  split
  · exact hv
  · exact h4 a j ha hb hc hd
theorem j_fl (h : JC σ0 σ) (hv : -2147483648 ≤ v ∧ v < 2147483648) : JC σ0 (mFill σ 3 r n v) := by
  obtain ⟨⟨h1, h2, h3, h4, h5⟩, hf⟩ := h
  refine ⟨⟨h1, h2, h3, fun a j ha hb hc hd => ?_, h5⟩, fun t i j ht => ?_⟩
  · unfold mFill
    split
    · exact hv
    · exact h4 a j ha hb hc hd
  · unfold mFill
    rw [if_neg (by omega)]
    exact hf t i j ht
theorem j_len (h : JC σ0 σ) (hv : -1 ≤ v ∧ v ≤ 60) : JC σ0 (up σ 4 r 1 v) := by
  obtain ⟨⟨h1, h2, h3, h4, h5, h6⟩, hf⟩ := h
  refine ⟨⟨h1, h2, h3, h4, fun a ha hb => ?_, h6⟩, sF_up hf (by decide)⟩
  by_cases q : a = r
  · rw [q, up_s]
    exact hv
  · rw [up_i q]
    exact h5 a ha hb
theorem j_sg (h : JC σ0 σ) (hv : -128 ≤ v ∧ v < 128) : JC σ0 (up σ 5 r x v) := by
  obtain ⟨⟨h1, h2, h3, h4, h5, h6, h7⟩, hf⟩ := h
  refine ⟨⟨h1, h2, h3, h4, h5, fun a j ha hb hc hd => ?_, h7⟩, sF_up hf (by decide)⟩
  unfold up
  split
  · exact hv
  · exact h6 a j ha hb hc hd
theorem j_fs (h : JC σ0 σ) (hv : -128 ≤ v ∧ v < 128) : JC σ0 (mFill σ 5 r n v) := by
  obtain ⟨⟨h1, h2, h3, h4, h5, h6, h7⟩, hf⟩ := h
  refine ⟨⟨h1, h2, h3, h4, h5, fun a j ha hb hc hd => ?_, h7⟩, fun t i j ht => ?_⟩
  · unfold mFill
    split
    · exact hv
    · exact h6 a j ha hb hc hd
  · unfold mFill
    rw [if_neg (by omega)]
    exact hf t i j ht
theorem j_ord (h : JC σ0 σ) (hv : 0 ≤ v ∧ v ≤ 9999) : JC σ0 (up σ 6 c 2 v) := ⟨IC_ord h.1 hv, sF_up h.2 (by decide)⟩
theorem j_gap (h : JC σ0 σ) (hv : 0 ≤ v ∧ v ≤ 9) : JC σ0 (up σ 6 c 3 v) := by
  obtain ⟨⟨h1, h2, h3, h4, h5, h6, h7, h8⟩, hf⟩ := h
  refine ⟨⟨h1, h2, h3, h4, h5, h6, fun a a1 a2 => ?_, h8⟩, sF_up hf (by decide)⟩
  have k := h7 a a1 a2
  unfold CalOK at *
  by_cases q : a = c
  · subst q
    rw [up_s, up_j (by decide), up_j (by decide), up_j (by decide)]
    exact ⟨k.1, k.2.1, k.2.2.1, hv⟩
  · rw [up_i q, up_i q, up_i q, up_i q]
    exact k
theorem j_leap (h : JC σ0 σ) (hv : 2 ≤ v ∧ v ≤ 9) : JC σ0 (up σ 6 c 1 v) := by
  obtain ⟨⟨h1, h2, h3, h4, h5, h6, h7, h8⟩, hf⟩ := h
  refine ⟨⟨h1, h2, h3, h4, h5, h6, fun a a1 a2 => ?_, h8⟩, sF_up hf (by decide)⟩
  have k := h7 a a1 a2
  unfold CalOK at *
  by_cases q : a = c
  · subst q
    rw [up_s, up_j (by decide), up_j (by decide), up_j (by decide)]
    exact ⟨k.1, hv, k.2.2⟩
  · rw [up_i q, up_i q, up_i q, up_i q]
    exact k
theorem j_tk (h : JC σ0 σ) (hv : 0 ≤ v ∧ v ≤ 19999) : JC σ0 (mTk σ k v 5) := by
  obtain ⟨⟨h1, h2, h3, h4, h5, h6, h7, h8⟩, hf⟩ := h
  refine ⟨⟨h1, h2, h3, h4, h5, h6, h7, fun a a1 a2 => ?_⟩, fun t i j ht => ?_⟩
  · by_cases q : a = k
    · subst q
      obtain ⟨t1, t2, -⟩ := tk_1 (τ := σ) (k := a) (td := v) (c := 0) (by omega)
      refine ⟨by rw [t1]; decide, by rw [t2]; exact hv, fun _ c c1 c2 => ?_⟩
      have c3 : c < σ 0 0 6 := c2
      obtain ⟨-, -, t3, t4, t5⟩ := tk_1 (τ := σ) (k := a) (td := v) (c := c) (by omega)
      rw [t3, t4, t5]
      exact (h7 c c1 c3).2
    · rw [tk_2 q, tk_2 q]
      refine ⟨(h8 a a1 a2).1, (h8 a a1 a2).2.1, fun z c c1 c2 => ?_⟩
      rw [tk_2 q, tk_2 q, tk_2 q]
      exact (h8 a a1 a2).2.2 z c c1 c2
  · unfold mTk
    rw [if_neg (by omega), if_neg (by omega), if_neg (by omega), if_neg (by omega), if_neg (by omega)]
    exact hf t i j ht
theorem j_gv (h : JC σ0 σ) (hk : 0 ≤ k ∧ k < 3) (ht : σ 7 k 3 ≠ 0) : JC σ0 (mGv σ k 5) := by
  obtain ⟨⟨h1, h2, h3, h4, h5, h6, h7, h8⟩, hf⟩ := h
  refine ⟨⟨h1, h2, h3, h4, h5, h6, fun c c1 c2 => ?_, h8⟩, fun t i j ht => ?_⟩
  · have c3 : c < σ 0 0 6 := c2
    obtain ⟨a0, a1, a2, a3⟩ := gv_1 (τ := σ) (k := k) (c := c) (by omega)
    obtain ⟨b1, -, b3⟩ := h8 k hk.1 hk.2
    unfold CalOK
    rw [a0, a1, a2, a3]
    exact ⟨(h7 c c1 c3).1, b3 (by omega) c c1 c3⟩
  · unfold mGv
    rw [if_neg (by omega), if_neg (by omega), if_neg (by omega)]
    exact hf t i j ht
theorem j_tr (h : JC σ0 σ) {g o lp : Int} : JC σ0 (mTr σ k lp o g) := ⟨IC_tr h.1, fun t i j ht => by
  unfold mTr
  rw [if_neg (by omega), if_neg (by omega), if_neg (by omega), if_neg (by omega)]
  exact h.2 t i j ht⟩
theorem j_cpy (h : JC σ0 σ) {j : Int} (hr : 0 ≤ r ∧ r < 6) (hx : 0 ≤ x ∧ x + n ≤ 40) : JC σ0 (mCpy σ r x y j n) := by
  obtain ⟨⟨h1, h2, h3, h4, h5⟩, hf⟩ := h
  refine ⟨⟨h1, h2, h3, fun a i ha hb hc hd => ?_, h5⟩, fun t i j ht => ?_⟩
  · unfold mCpy
    split
    · exact h4 r _ hr.1 hr.2 (by omega) (by omega)
    · exact h4 a i ha hb hc hd
  · unfold mCpy
    rw [if_neg (by omega)]
    exact hf t i j ht
theorem j_rw {g : Int → Int} (h : JC σ0 σ) (hn : 0 ≤ n ∧ n ≤ 40) (hg : ∀ j, 0 ≤ j → j < n → -2147483648 ≤ g j ∧ g j < 2147483648) : JC σ0 (mRw σ r n g) := by
  refine ⟨by rw [← mRq_n]; exact IC_rq h.1 hn (fun j a b _ => hg j a b), fun t i j ht => ?_⟩
  unfold mRw
  rw [if_neg (by omega), if_neg (by omega)]
  exact h.2 t i j ht
end JCS
theorem fo_all {f : Int → Int} {n s : Int} (hs : 0 ≤ s) (hn : 0 ≤ n) : ∀ (k : Nat) (p : Int), 0 ≤ p → foP f n s k p = -9 → ∀ i, p ≤ i → i < p + k → ftP (f (s + i)) i
  | 0, _, _, _ => fun i h1 h2 => by omega
  | k + 1, p, hp, h => fun i h1 h2 => by
    rw [foP] at h
    split at h
    · omega
    · split at h
      · rename_i q
        by_cases z : i = p
        · rw [z]
          exact q
        · exact fo_all hs hn k (p + 1) (by omega) h i (by omega) (by omega)
      · omega
theorem rd_ok {f : Int → Int} {n : Int} (hn : 0 ≤ n ∧ n ≤ 60) : ∀ (k : Nat) (x u : Int) (ρ : Mm), 0 ≤ x → 0 ≤ u → 60 < x + k → ffG f n k x u = -9 → (∀ c, 0 ≤ c → c < u → CalOK ρ c) → ∀ c, 0 ≤ c → c < rdC f n k x u → CalOK (rdM f n k x u ρ) c
  | 0, x, u, ρ, _, _, _, _, h => fun c h1 h2 => h c h1 h2
  | k + 1, x, u, ρ, hx, hu, hk, hf, h => fun c h1 h2 => by
    rw [rdC] at h2
    rw [rdM]
    by_cases q : x + 7 ≤ n ∧ u < 5
    · rw [if_pos q] at h2 ⊢
      rw [ffG, if_neg (by omega)] at hf
      by_cases q2 : f x = 32
      · rw [if_pos q2] at h2 ⊢ hf
        exact rd_ok hn k (x + 1) u ρ (by omega) hu (by omega) hf h c h1 h2
      · rw [if_neg q2] at h2 ⊢ hf
        rw [if_neg (by omega)] at hf
        by_cases q3 : foI f n x = -9
        · rw [if_pos q3] at hf
          refine rd_ok hn k (x + 7) (u + 1) (rdI ρ f x u) (by omega) (by omega) (by omega) hf (fun c h1 h2 => ?_) c h1 h2
          by_cases z : c = u
          · subst z
            have A := fo_all (f := f) (n := n) (s := x) hx hn.1 7 0 (by omega) q3
            have a1 := A 1 (by omega) (by omega)
            have a2 := A 2 (by omega) (by omega)
            have a3 := A 3 (by omega) (by omega)
            have a4 := A 4 (by omega) (by omega)
            have a5 := A 5 (by omega) (by omega)
            have a6 := A 6 (by omega) (by omega)
            have hk := kdB_r (f x)
            unfold CalOK rdI
            rw [up_s, up_j (show (0 : Int) ≠ 3 by decide), up_j (show (0 : Int) ≠ 2 by decide), up_j (show (0 : Int) ≠ 1 by decide), up_s, up_j (show (1 : Int) ≠ 3 by decide), up_j (show (1 : Int) ≠ 2 by decide), up_s, up_j (show (2 : Int) ≠ 3 by decide), up_s]
            unfold odr
            omega
          · unfold CalOK rdI
            rw [up_i z, up_i z, up_i z, up_i z, up_i z, up_i z, up_i z, up_i z, up_i z, up_i z, up_i z, up_i z, up_i z, up_i z, up_i z, up_i z]
            exact h c h1 (by omega)
        · rw [if_neg q3] at hf
          exact absurd hf q3
    · rw [if_neg q] at h2 ⊢
      exact h c h1 h2
theorem j_al {σ0 σ : Mm} {f : Int → Int} {n : Int} (h : JC σ0 σ) (hn : 0 ≤ n ∧ n ≤ 60) (hf : ffI f n = -9) : JC σ0 (up (up (up (up (up (rdM f n 61 0 0 σ) 0 0 6 (rdC f n 61 0 0)) 0 0 7 0) 7 0 3 0) 7 1 3 0) 7 2 3 0) := by
  obtain ⟨⟨h1, h2, h3, h4, h5, h6, h7, h8⟩, hF⟩ := h
  have hm : ∀ (t : Nat) (i j : Int), t ≠ 6 → rdM f n 61 0 0 σ t i j = σ t i j := fun t i j ht => rdM_t ht i j 61 0 0 σ
  refine ⟨⟨rdC_r f n 61 0 0 (by omega) (by omega), (show (0 : Int) ≤ 0 ∧ (0 : Int) ≤ 19999 by decide), fun a b c => ?_, fun a b c d e z => ?_, fun a b c => ?_, fun a b c d e z => ?_, fun c c1 c2 => ?_, fun k k1 k2 => ?_⟩, fun t i j ht => ?_⟩
  · show -1 ≤ rdM f n 61 0 0 σ 2 a 1 ∧ rdM f n 61 0 0 σ 2 a 1 ≤ 40
    rw [hm 2 a 1 (by decide)]
    exact h3 a b c
  · show -2147483648 ≤ rdM f n 61 0 0 σ 3 a b ∧ rdM f n 61 0 0 σ 3 a b < 2147483648
    rw [hm 3 a b (by decide)]
    exact h4 a b c d e z
  · show -1 ≤ rdM f n 61 0 0 σ 4 a 1 ∧ rdM f n 61 0 0 σ 4 a 1 ≤ 60
    rw [hm 4 a 1 (by decide)]
    exact h5 a b c
  · show -128 ≤ rdM f n 61 0 0 σ 5 a b ∧ rdM f n 61 0 0 σ 5 a b < 128
    rw [hm 5 a b (by decide)]
    exact h6 a b c d e z
  · exact rd_ok hn 61 0 0 σ (by omega) (by omega) (by omega) hf (fun c a b => by omega) c c1 c2
  · have h9 := (h8 k k1 k2).2.1
    rcases (show k = 0 ∨ k = 1 ∨ k = 2 by omega) with rfl | rfl | rfl
    · refine ⟨(show (0 : Int) ≤ 0 ∧ (0 : Int) ≤ 1 by decide), ?_, fun z => absurd (show (0 : Int) = 1 from z) (by decide)⟩
      show 0 ≤ rdM f n 61 0 0 σ 7 0 4 ∧ rdM f n 61 0 0 σ 7 0 4 ≤ 19999
      rw [hm 7 0 4 (by decide)]
      exact h9
    · refine ⟨(show (0 : Int) ≤ 0 ∧ (0 : Int) ≤ 1 by decide), ?_, fun z => absurd (show (0 : Int) = 1 from z) (by decide)⟩
      show 0 ≤ rdM f n 61 0 0 σ 7 1 4 ∧ rdM f n 61 0 0 σ 7 1 4 ≤ 19999
      rw [hm 7 1 4 (by decide)]
      exact h9
    · refine ⟨(show (0 : Int) ≤ 0 ∧ (0 : Int) ≤ 1 by decide), ?_, fun z => absurd (show (0 : Int) = 1 from z) (by decide)⟩
      show 0 ≤ rdM f n 61 0 0 σ 7 2 4 ∧ rdM f n 61 0 0 σ 7 2 4 ≤ 19999
      rw [hm 7 2 4 (by decide)]
      exact h9
  · rw [up_t (by omega), up_t (by omega), up_t (by omega), up_t (by omega), up_t (by omega), hm t i j (by omega)]
    exact hF t i j ht
theorem lf_j {σ : Mm} {c r : Int} (hI : IC σ) (hc : isT σ c) : JC σ (mRw σ r (tCut (σ 6 c 0) * σ 6 c 3) (fun j => dtC (σ 6 c 0) (σ 6 c 1) (σ 6 c 2 + j + (if j < σ 6 c 3 then 0 else 1000)))) := by
  obtain ⟨k1, k2, k3, k4⟩ := hI.2.2.2.2.2.2.1 c hc.1 hc.2
  have h := tCut_g (k := σ 6 c 0) k4
  refine j_rw (j_r hI) (by omega) (fun j a b => ?_)
  have h2 := dtC_r (k := σ 6 c 0) (lp := σ 6 c 1) (n := σ 6 c 2 + j + (if j < σ 6 c 3 then 0 else 1000)) (by split <;> omega) k2
  have h3 : σ 6 c 2 + j + (if j < σ 6 c 3 then 0 else 1000) ≤ 12000 := by split <;> omega
  omega
theorem dt_j {σ : Mm} {c a b r : Int} (hI : IC σ) (hc : isT σ c) (ha : 0 ≤ a ∧ a ≤ b ∧ b ≤ 19999 ∧ b - a < 40) : JC σ (mRw σ r (b + 1 - a) (fun j => dtD (σ 6 c 0) (σ 6 c 1) (σ 6 c 2) (σ 6 c 3) (a + j))) := by
  obtain ⟨k1, k2, k3, k4⟩ := hI.2.2.2.2.2.2.1 c hc.1 hc.2
  refine j_rw (j_r hI) (by omega) (fun j u v => ?_)
  have h2 := dtD_r (k := σ 6 c 0) (lp := σ 6 c 1) (o := σ 6 c 2) (g := σ 6 c 3) (d := a + j) (by omega) k2 k4
  omega
theorem al_j {σ : Mm} {t : Int} (hI : IC σ) (h : rfT σ t = 0) (hf : ffI (fun q => σ 5 t q) (σ 4 t 1) = -9) : JC σ (up (up (up (up (up (rdM (fun q => σ 5 t q) (σ 4 t 1) 61 0 0 σ) 0 0 6 (rdC (fun q => σ 5 t q) (σ 4 t 1) 61 0 0)) 0 0 7 0) 7 0 3 0) 7 1 3 0) 7 2 3 0) := by
  obtain ⟨h1, h2, -⟩ := rfT_0 h
  have h3 := hI.2.2.2.2.1 t h1.1 h1.2
  exact j_al (j_r hI) (by omega) hf
theorem jc_row {σ : Mm} {r n : Int} (hI : IC σ) : JC σ (mC_row σ r n) := by unfold mC_row; (repeat' split) <;> (first | exact j_r hI | exact j_fd (j_r hI) | exact j_told (j_r hI) | exact j_rf (j_r hI) | exact j_rp (j_r hI) | exact j_rt (j_r hI) | exact j_rc (j_r hI) | exact j_fr (j_r hI) | (exact j_fl (j_sz (j_r hI) (by omega)) (by omega)))
theorem jc_lay {σ : Mm} {r x v : Int} (hI : IC σ) (hv : -2147483648 ≤ v ∧ v < 2147483648) : JC σ (mC_lay σ r x v) := by unfold mC_lay; (repeat' split) <;> (first | exact j_r hI | exact j_fd (j_r hI) | exact j_told (j_r hI) | exact j_rf (j_r hI) | exact j_rp (j_r hI) | exact j_rt (j_r hI) | exact j_rc (j_r hI) | exact j_fr (j_r hI) | (exact j_pl (j_told (j_r hI)) hv))
theorem jc_at {σ : Mm} {r x : Int} (hI : IC σ) : JC σ (mC_at σ r x) := by unfold mC_at; (repeat' split) <;> (first | exact j_r hI | exact j_fd (j_r hI) | exact j_told (j_r hI) | exact j_rf (j_r hI) | exact j_rp (j_r hI) | exact j_rt (j_r hI) | exact j_rc (j_r hI) | exact j_fr (j_r hI))
theorem jc_tear {σ : Mm} {r : Int} (hI : IC σ) : JC σ (mC_tear σ r) := by unfold mC_tear; (repeat' split) <;> (first | exact j_r hI | exact j_fd (j_r hI) | exact j_told (j_r hI) | exact j_rf (j_r hI) | exact j_rp (j_r hI) | exact j_rt (j_r hI) | exact j_rc (j_r hI) | exact j_fr (j_r hI) | (exact j_sz (j_r hI) (by omega)))
theorem jc_text {σ : Mm} {t n : Int} (hI : IC σ) : JC σ (mC_text σ t n) := by unfold mC_text; (repeat' split) <;> (first | exact j_r hI | exact j_fd (j_r hI) | exact j_told (j_r hI) | exact j_rf (j_r hI) | exact j_rp (j_r hI) | exact j_rt (j_r hI) | exact j_rc (j_r hI) | exact j_fr (j_r hI) | (exact j_fs (j_len (j_r hI) (by omega)) (by omega)))
theorem jc_put {σ : Mm} {t x v : Int} (hI : IC σ) : JC σ (mC_put σ t x v) := by unfold mC_put; (repeat' split) <;> (first | exact j_r hI | exact j_fd (j_r hI) | exact j_told (j_r hI) | exact j_rf (j_r hI) | exact j_rp (j_r hI) | exact j_rt (j_r hI) | exact j_rc (j_r hI) | exact j_fr (j_r hI) | (exact j_sg (j_r hI) (z8_rng _)))
theorem jc_order {σ : Mm} {c d : Int} (hI : IC σ) : JC σ (mC_order σ c d) := by unfold mC_order; (repeat' split) <;> (first | exact j_r hI | exact j_fd (j_r hI) | exact j_told (j_r hI) | exact j_rf (j_r hI) | exact j_rp (j_r hI) | exact j_rt (j_r hI) | exact j_rc (j_r hI) | exact j_fr (j_r hI) | (exact j_ord (j_r hI) (by omega)))
theorem jc_gap {σ : Mm} {c v : Int} (hI : IC σ) : JC σ (mC_gap σ c v) := by unfold mC_gap; (repeat' split) <;> (first | exact j_r hI | exact j_fd (j_r hI) | exact j_told (j_r hI) | exact j_rf (j_r hI) | exact j_rp (j_r hI) | exact j_rt (j_r hI) | exact j_rc (j_r hI) | exact j_fr (j_r hI) | (exact j_gap (j_r hI) (by omega)))
theorem jc_leap {σ : Mm} {c v : Int} (hI : IC σ) : JC σ (mC_leap σ c v) := by unfold mC_leap; (repeat' split) <;> (first | exact j_r hI | exact j_fd (j_r hI) | exact j_told (j_r hI) | exact j_rf (j_r hI) | exact j_rp (j_r hI) | exact j_rt (j_r hI) | exact j_rc (j_r hI) | exact j_fr (j_r hI) | (exact j_leap (j_r hI) (by omega)))
theorem jc_go {σ : Mm} {n : Int} (hI : IC σ) : JC σ (mC_go σ n) := by unfold mC_go; (repeat' split) <;> (first | exact j_r hI | exact j_fd (j_r hI) | exact j_told (j_r hI) | exact j_rf (j_r hI) | exact j_rp (j_r hI) | exact j_rt (j_r hI) | exact j_rc (j_r hI) | exact j_fr (j_r hI) | (exact j_tod (j_r hI) (by have := hI.2.1; omega)))
theorem jc_back {σ : Mm} {n : Int} (hI : IC σ) : JC σ (mC_back σ n) := by unfold mC_back; (repeat' split) <;> (first | exact j_r hI | exact j_fd (j_r hI) | exact j_told (j_r hI) | exact j_rf (j_r hI) | exact j_rp (j_r hI) | exact j_rt (j_r hI) | exact j_rc (j_r hI) | exact j_fr (j_r hI) | (exact j_tod (j_r hI) (by have := hI.2.1; omega)))
theorem jc_keep {σ : Mm} {k : Int} (hI : IC σ) : JC σ (mC_keep σ k) := by unfold mC_keep; (repeat' split) <;> (first | exact j_r hI | exact j_fd (j_r hI) | exact j_told (j_r hI) | exact j_rf (j_r hI) | exact j_rp (j_r hI) | exact j_rt (j_r hI) | exact j_rc (j_r hI) | exact j_fr (j_r hI) | (exact j_tk (j_r hI) hI.2.1))
theorem jc_on {σ : Mm} {k : Int} (hI : IC σ) : JC σ (mC_on σ k) := by unfold mC_on; (repeat' split) <;> (first | exact j_r hI | exact j_fd (j_r hI) | exact j_told (j_r hI) | exact j_rf (j_r hI) | exact j_rp (j_r hI) | exact j_rt (j_r hI) | exact j_rc (j_r hI) | exact j_fr (j_r hI) | (exact j_tod (j_gv (j_r hI) (by omega) (by omega)) (hI.2.2.2.2.2.2.2 k (by omega) (by omega)).2.1))
theorem jc_day {σ : Mm} {c t : Int} (hI : IC σ) : JC σ (mC_day σ c t) := by unfold mC_day; (repeat' split) <;> (first | exact j_r hI | exact j_fd (j_r hI) | exact j_told (j_r hI) | exact j_rf (j_r hI) | exact j_rp (j_r hI) | exact j_rt (j_r hI) | exact j_rc (j_r hI) | exact j_fr (j_r hI))
theorem jc_same {σ : Mm} {c t d : Int} (hI : IC σ) : JC σ (mC_same σ c t d) := by unfold mC_same; (repeat' split) <;> (first | exact j_r hI | exact j_fd (j_r hI) | exact j_told (j_r hI) | exact j_rf (j_r hI) | exact j_rp (j_r hI) | exact j_rt (j_r hI) | exact j_rc (j_r hI) | exact j_fr (j_r hI))
theorem jc_between {σ : Mm} {c a b : Int} (hI : IC σ) : JC σ (mC_between σ c a b) := by unfold mC_between; (repeat' split) <;> (first | exact j_r hI | exact j_fd (j_r hI) | exact j_told (j_r hI) | exact j_rf (j_r hI) | exact j_rp (j_r hI) | exact j_rt (j_r hI) | exact j_rc (j_r hI) | exact j_fr (j_r hI))
theorem jc_mean {σ : Mm} {r : Int} (hI : IC σ) : JC σ (mC_mean σ r) := by unfold mC_mean; (repeat' split) <;> (first | exact j_r hI | exact j_fd (j_r hI) | exact j_told (j_r hI) | exact j_rf (j_r hI) | exact j_rp (j_r hI) | exact j_rt (j_r hI) | exact j_rc (j_r hI) | exact j_fr (j_r hI))
theorem jc_town {σ : Mm} {c w : Int} (hI : IC σ) : JC σ (mC_town σ c w) := by unfold mC_town; (repeat' split) <;> (first | exact j_r hI | exact j_fd (j_r hI) | exact j_told (j_r hI) | exact j_rf (j_r hI) | exact j_rp (j_r hI) | exact j_rt (j_r hI) | exact j_rc (j_r hI) | exact j_fr (j_r hI))
theorem jc_mark {σ : Mm} {c w : Int} (hI : IC σ) : JC σ (mC_mark σ c w) := by unfold mC_mark; (repeat' split) <;> (first | exact j_r hI | exact j_fd (j_r hI) | exact j_told (j_r hI) | exact j_rf (j_r hI) | exact j_rp (j_r hI) | exact j_rt (j_r hI) | exact j_rc (j_r hI) | exact j_fr (j_r hI))
theorem jc_voyage {σ : Mm} {c d x n : Int} (hI : IC σ) : JC σ (mC_voyage σ c d x n) := by unfold mC_voyage; (repeat' split) <;> (first | exact j_r hI | exact j_fd (j_r hI) | exact j_told (j_r hI) | exact j_rf (j_r hI) | exact j_rp (j_r hI) | exact j_rt (j_r hI) | exact j_rc (j_r hI) | exact j_fr (j_r hI))
theorem jc_due {σ : Mm} {c t y : Int} (hI : IC σ) : JC σ (mC_due σ c t y) := by unfold mC_due; (repeat' split) <;> (first | exact j_r hI | exact j_fd (j_r hI) | exact j_told (j_r hI) | exact j_rf (j_r hI) | exact j_rp (j_r hI) | exact j_rt (j_r hI) | exact j_rc (j_r hI) | exact j_fr (j_r hI))
theorem jc_moon {σ : Mm} {d : Int} (hI : IC σ) : JC σ (mC_moon σ d) := by unfold mC_moon; (repeat' split) <;> (first | exact j_r hI | exact j_fd (j_r hI) | exact j_told (j_r hI) | exact j_rf (j_r hI) | exact j_rp (j_r hI) | exact j_rt (j_r hI) | exact j_rc (j_r hI) | exact j_fr (j_r hI))
theorem jc_age {σ : Mm} {c t : Int} (hI : IC σ) : JC σ (mC_age σ c t) := by unfold mC_age; (repeat' split) <;> (first | exact j_r hI | exact j_fd (j_r hI) | exact j_told (j_r hI) | exact j_rf (j_r hI) | exact j_rp (j_r hI) | exact j_rt (j_r hI) | exact j_rc (j_r hI) | exact j_fr (j_r hI))
theorem jc_agree {σ : Mm} {c d a b : Int} (hI : IC σ) : JC σ (mC_agree σ c d a b) := by unfold mC_agree; (repeat' split) <;> (first | exact j_r hI | exact j_fd (j_r hI) | exact j_told (j_r hI) | exact j_rf (j_r hI) | exact j_rp (j_r hI) | exact j_rt (j_r hI) | exact j_rc (j_r hI) | exact j_fr (j_r hI))
theorem jc_apart {σ : Mm} {c d a b : Int} (hI : IC σ) : JC σ (mC_apart σ c d a b) := by unfold mC_apart; (repeat' split) <;> (first | exact j_r hI | exact j_fd (j_r hI) | exact j_told (j_r hI) | exact j_rf (j_r hI) | exact j_rp (j_r hI) | exact j_rt (j_r hI) | exact j_rc (j_r hI) | exact j_fr (j_r hI))
theorem jc_year {σ : Mm} {c y : Int} (hI : IC σ) : JC σ (mC_year σ c y) := by unfold mC_year; (repeat' split) <;> (first | exact j_r hI | exact j_fd (j_r hI) | exact j_told (j_r hI) | exact j_rf (j_r hI) | exact j_rp (j_r hI) | exact j_rt (j_r hI) | exact j_rc (j_r hI) | exact j_fr (j_r hI))
theorem jc_where {σ : Mm} {d t : Int} (hI : IC σ) : JC σ (mC_where σ d t) := by unfold mC_where; (repeat' split) <;> (first | exact j_r hI | exact j_fd (j_r hI) | exact j_told (j_r hI) | exact j_rf (j_r hI) | exact j_rp (j_r hI) | exact j_rt (j_r hI) | exact j_rc (j_r hI) | exact j_fr (j_r hI))
theorem jc_eldest {σ : Mm} {d : Int} (hI : IC σ) : JC σ (mC_eldest σ d) := by unfold mC_eldest; (repeat' split) <;> (first | exact j_r hI | exact j_fd (j_r hI) | exact j_told (j_r hI) | exact j_rf (j_r hI) | exact j_rp (j_r hI) | exact j_rt (j_r hI) | exact j_rc (j_r hI) | exact j_fr (j_r hI))
theorem jc_left {σ : Mm} {c r : Int} (hI : IC σ) : JC σ (mC_left σ c r) := by unfold mC_left; split; exact j_r hI; exact lf_j hI (by omega)
theorem jc_dates {σ : Mm} {c a b r : Int} (hI : IC σ) : JC σ (mC_dates σ c a b r) := by unfold mC_dates; split; exact j_r hI; exact dt_j hI (by omega) (by omega)
theorem jc_quarrels {σ : Mm} {r : Int} (hI : IC σ) : JC σ (mC_quarrels σ r) := by unfold mC_quarrels; (repeat' split) <;> (first | exact j_r hI | exact j_fd (j_r hI) | exact j_told (j_r hI) | exact j_rf (j_r hI) | exact j_rp (j_r hI) | exact j_rt (j_r hI) | exact j_rc (j_r hI) | exact j_fr (j_r hI))
theorem jc_change {σ : Mm} {c r a b : Int} (hI : IC σ) : JC σ (mC_change σ c r a b) := by unfold mC_change; (repeat' split) <;> (first | exact j_r hI | exact j_fd (j_r hI) | exact j_told (j_r hI) | exact j_rf (j_r hI) | exact j_rp (j_r hI) | exact j_rt (j_r hI) | exact j_rc (j_r hI) | exact j_fr (j_r hI) | (exact j_told (j_tr (j_r hI))))
theorem jc_kinds {σ : Mm} {c r : Int} (hI : IC σ) : JC σ (mC_kinds σ c r) := by unfold mC_kinds; (repeat' split) <;> (first | exact j_r hI | exact j_fd (j_r hI) | exact j_told (j_r hI) | exact j_rf (j_r hI) | exact j_rp (j_r hI) | exact j_rt (j_r hI) | exact j_rc (j_r hI) | exact j_fr (j_r hI) | (exact j_tr (j_r hI)))
theorem jc_rent {σ : Mm} {c v a b : Int} (hI : IC σ) : JC σ (mC_rent σ c v a b) := by unfold mC_rent; (repeat' split) <;> (first | exact j_r hI | exact j_fd (j_r hI) | exact j_told (j_r hI) | exact j_rf (j_r hI) | exact j_rp (j_r hI) | exact j_rt (j_r hI) | exact j_rc (j_r hI) | exact j_fr (j_r hI))
theorem jc_copy {σ : Mm} {r x y j n : Int} (hI : IC σ) : JC σ (mC_copy σ r x y j n) := by unfold mC_copy; (repeat' split) <;> (first | exact j_r hI | exact j_fd (j_r hI) | exact j_told (j_r hI) | exact j_rf (j_r hI) | exact j_rp (j_r hI) | exact j_rt (j_r hI) | exact j_rc (j_r hI) | exact j_fr (j_r hI) | (exact j_cpy (j_r hI) (by omega) (by have h9 := hI.2.2.1 r (by omega) (by omega); omega)))
theorem jc_fault {σ : Mm} {t : Int} (hI : IC σ) : JC σ (mC_fault σ t) := by unfold mC_fault; exact j_rt (j_r hI)
theorem jc_almanac {σ : Mm} {t : Int} (hI : IC σ) : JC σ (mC_almanac σ t) := by unfold mC_almanac; by_cases q : rfT σ t = 0; rw [if_neg (fun z => z q)]; by_cases q2 : ffI (fun q => σ 5 t q) (σ 4 t 1) = -9; rw [if_neg (fun z => z q2)]; exact al_j hI q q2; rw [if_pos q2]; exact j_r hI; rw [if_pos q]; exact j_rt (j_r hI)
