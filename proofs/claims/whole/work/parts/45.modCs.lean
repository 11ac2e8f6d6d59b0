section ZV
variable {p : Program} {l : Launch} {e : Env} {R : Room} {s : State} {m : MethodId} {args : Array Value} {below : List Frame} {meth : Method} {c : Code} {H : Heap} {locs : List Loc} {cells slots : Nat} {Q : State → Prop}
variable {own : String} {cc : ByteArray} {nL : Nat} {pc : Nat} {ls : Array Slot} {rest : List Value} {a : Int}
theorem zr_iincW (C : CallFix p m c cc nL s args tb own) {i k : Nat} {n : Int} {lv lv' : List (Nat × Value)} (hd : decode cc pc = .ok (.iinc i n, 6)) (h : lv_has ls nL lv) (hk : lv[k]? = some (i, .int (zI a))) (hn : i < nL) (hl : (i, Value.int (zI (a + n))) :: lv.filter (fun q => !(q.1 == i) && !(q.1 + 1 == i && q.2.category == 2)) = lv')
    (kk : ∀ ls' : Array Slot, lv_has ls' nL lv' → W p l e R s m args below meth c H locs cells slots Q (F0 m (pc + 6) ls' rest)) : W p l e R s m args below meth c H locs cells slots Q (F0 m pc ls rest) := lv_iincW C.1 C.2.1 hd h hk (zI_add a n) hn hl kk
end ZV
theorem tPar_c (k : Int) : (k = 4 ∧ tPar k = 1) ∨ (k = 5 ∧ tPar k = 2) ∨ (k ≠ 4 ∧ k ≠ 5 ∧ tPar k = 0) := by unfold tPar; (repeat' split) <;> omega
theorem mrk_4 {k lp o g td : Int} (hk : k = 4) : mrk k lp o g 4 td = if o ≤ td then g else 0 := by
  have h := tCut_c k
  unfold mrk cby
  rw [if_neg (by decide), if_neg (by decide), if_neg (by decide), if_pos rfl]
  (repeat' split) <;> first | omega | (rw [Int.mul_one]) | (rw [Int.mul_zero])
theorem mrk_5 {k lp o g td : Int} (hk : k = 5) : mrk k lp o g 5 td = if g = 0 then 0 else (if o ≤ td then 1 else 0) + (if o + 1000 ≤ td then 1 else 0) := by
  have h := tCut_c k
  unfold mrk cby
  rw [if_neg (by decide), if_neg (by decide), if_neg (by decide), if_neg (by decide)]
  (repeat' split) <;> omega
/-- a date's day, and back -/
theorem dyC_cnt {k o g n : Int} (h : dyC k o g n ≠ -1) : cnt k o g (dyC k o g n) = n := by
  have r := cby_r k o n
  unfold dyC at *
  unfold cnt
  split at h
  · rename_i q
    split at h
    · rename_i q2
      rw [if_pos q, if_pos q2, q]; omega
    · omega
  · rename_i q
    split at h
    · rename_i q1
      split at h
      · rename_i q2
        rw [if_neg q, if_pos q1, if_pos q2, q1]; omega
      · omega
    · rename_i q1
      split at h
      · rename_i q3
        split at h
        · rename_i q2
          rw [if_neg q, if_neg q1, if_pos q3, if_pos q2, q3.2]; omega
        · omega
      · omega
theorem cnt_mono {k o g d e : Int} (hg : 0 ≤ g) (h : d ≤ e) : cnt k o g d ≤ cnt k o g e := by
  rw [cnt_m, cnt_m]
  (repeat' split) <;> omega
theorem dyD_yr {k lp o g y u td : Int} (hl : 2 ≤ lp ∧ lp ≤ 9) (hg : 0 ≤ g ∧ g ≤ 9) (hy : 0 ≤ y) (hu : 0 ≤ u ∧ u < 1000) (htd : 0 ≤ td) (h : agP k lp o g u td y) : y ≤ dtD k lp o g td / 1000 := by
  obtain ⟨h1, h2⟩ := h
  have e1 : (1000 * y + u) / 1000 = y := by omega
  have e2 : (1000 * y + u) % 1000 = u := by omega
  have h3 : dyD k lp o g (1000 * y + u) = dyC k o g (begY k lp y + u) := by
    unfold dyD at h1 ⊢
    rw [if_neg (by omega), e1, e2] at h1 ⊢
    split at h1
    · rename_i q
      rw [if_pos q]
    · omega
  rw [h3] at h1 h2
  have h4 := dyC_cnt h1
  have h5 := cnt_mono (k := k) (o := o) (g := g) hg.1 h2
  rw [h4] at h5
  have hc := cnt_r (k := k) (o := o) (d := td) hg
  obtain ⟨y2, u2, a1, a2, a3, a4, a5⟩ := dtC_yr (k := k) (lp := lp) (n := cnt k o g td) hl.1 (by omega)
  have hr := lenY_r k lp y2
  have e3 : dtD k lp o g td / 1000 = y2 := by
    unfold dtD
    rw [a2]
    omega
  rw [e3]
  have h6 := begY_s (k := k) (lp := lp) (y := y2) hl.1
  by_cases q : y ≤ y2
  · exact q
  · exfalso
    have h7 := begY_m (k := k) (lp := lp) (y := y2 + 1) hl.1 (y - (y2 + 1)).toNat
    rw [show y2 + 1 + ((y - (y2 + 1)).toNat : Int) = y by omega] at h7
    omega
theorem tmA_m {k lp o g t td : Int} (hl : 2 ≤ lp ∧ lp ≤ 9) (hg : 0 ≤ g ∧ g ≤ 9) (ht : 0 ≤ t ∧ t ≤ 250000) (hd : 0 ≤ td ∧ td ≤ 19999) : ctI (agP k lp o g (t % 1000) td) (t / 1000 + 1) (260 - (t / 1000 + 1)).toNat = tmA k lp o g t td := by
  have h1 := dtD_r (k := k) (lp := lp) (o := o) (g := g) (d := td) hd.1 hl hg
  unfold tmA
  have no : ∀ y, dtD k lp o g td / 1000 < y → ¬ agP k lp o g (t % 1000) td y := fun y hy h => by
    have := dyD_yr hl hg (by omega) (by omega) hd.1 h
    omega
  by_cases q : t / 1000 ≤ dtD k lp o g td / 1000
  · rw [show (260 - (t / 1000 + 1)).toNat = (dtD k lp o g td / 1000 - t / 1000).toNat + (259 - dtD k lp o g td / 1000).toNat by omega]
    exact ctI_x (fun y h1 h2 => no y (by omega))
  · rw [show (dtD k lp o g td / 1000 - t / 1000).toNat = 0 by omega, ctI_z (fun y h1 h2 => no y (by omega))]
    rfl
theorem CalM_of {σ τ : Mm} {c : Int} (h : σ 20 0 19 = τ 6 c 0 ∧ σ 20 0 20 = τ 6 c 1 ∧ σ 20 0 21 = τ 6 c 2 ∧ σ 20 0 22 = τ 6 c 3) (k : CalOK τ c) : CalM σ := by
  unfold CalM
  rw [h.1, h.2.1, h.2.2.1, h.2.2.2]
  exact k
/-- a row of the reference made anew -/
def mRwM (σ : Mm) (r n k : Int) : Mm := fun t i j => if t = 23 ∧ i = 0 ∧ 40 * r ≤ j ∧ j < 40 * r + k then 0 else up σ 22 0 r n t i j
theorem mRwM_0 (σ : Mm) (r n : Int) : up σ 22 0 r n = mRwM σ r n 0 := by
  funext t i j
  unfold mRwM
  rw [if_neg (by omega)]
theorem mRwM_s (σ : Mm) (r n k : Int) (h : 0 ≤ k) : up (mRwM σ r n k) 23 0 (40 * r + k) 0 = mRwM σ r n (k + 1) := by
  funext t i j
  simp only [mRwM, up]
  (repeat' split) <;> first | rfl | omega
theorem rl_rw {τ σ : Mm} {r n : Int} (h : Rel2 τ σ) (hr : 0 ≤ r ∧ r < 6) (hn : 0 ≤ n) : Rel2 (mFill (up τ 2 r 1 n) 3 r 40 0) (mRwM σ r n 40) := by
  have h2 : Rel2 (up τ 2 r 1 n) (up σ 22 0 r n) := rl_sz h (by unfold szM; rw [if_neg (by omega)])
  refine ⟨h2.1, h2.2.1, h2.2.2.1, fun a j h1 h3 h4 h5 => ?_, h2.2.2.2.2⟩
  have e := h2.2.2.2.1 a j h1 h3 h4 h5
  unfold mRwM mFill
  by_cases q : a = r
  · subst q
    rw [if_pos (by omega), if_pos ⟨rfl, rfl, by omega, by omega⟩]
  · rw [if_neg (by omega), if_neg (fun z => q z.2.1)]
    exact e
theorem sC_rw {σ0 σ : Mm} {r n k : Int} (h : sC σ0 σ) : sC σ0 (mRwM σ r n k) := fun t i j ht => by
  unfold mRwM
  rw [if_neg (by omega), up_t (by omega)]
  exact h t i j ht
