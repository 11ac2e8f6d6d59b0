theorem fyo_ct {lp v k n : Int} (hn : 0 ≤ n) : fyo lp v k n = -9 ↔ ctI (offP lp v k) 0 (n + 1).toNat = 0 := by
  unfold fyo
  rcases fstI_r (offP lp v k) (a := 0) (by omega) (n + 1).toNat with ⟨h1, h2⟩ | ⟨h1, h2, h3, -⟩
  · exact ⟨fun _ => ctI_z h2, fun _ => h1⟩
  · exact ⟨fun z => by omega, fun z => absurd z (ctI_nz h1 h3 h2)⟩
theorem lc_gt {a b : Int} (h : 0 < (if a < b then (-1 : Int) else if a = b then 0 else 1)) : b < a := by (repeat' split at h) <;> omega
theorem lc_ngt {a b : Int} (h : ¬ 0 < (if a < b then (-1 : Int) else if a = b then 0 else 1)) : a ≤ b := by (repeat' split at h) <;> omega
theorem lc_le {a b : Int} (h : (if a < b then (-1 : Int) else if a = b then 0 else 1) ≤ 0) : a ≤ b := by (repeat' split at h) <;> omega
theorem lc_nle {a b : Int} (h : ¬ (if a < b then (-1 : Int) else if a = b then 0 else 1) ≤ 0) : b < a := by (repeat' split at h) <;> omega
theorem mCpy_0 (σ : Mm) (r x y j : Int) : σ = mCpy σ r x y j 0 := by
  funext t i b
  unfold mCpy
  rw [if_neg (by omega)]
theorem mCpy_s (σ : Mm) (r x y j q : Int) (h : 0 ≤ q) : up (mCpy σ r x y j q) 3 y (j + q) (σ 3 r (x + q)) = mCpy σ r x y j (q + 1) := by
  funext t i b
  unfold mCpy up
  by_cases w : t = 3 ∧ i = y ∧ b = j + q
  · obtain ⟨rfl, rfl, rfl⟩ := w
    rw [if_pos ⟨rfl, rfl, rfl⟩, if_pos ⟨rfl, rfl, by omega, by omega⟩, show x + (j + q - j) = x + q by omega]
  · rw [if_neg w]
    dsimp only
    (repeat' split) <;> first | rfl | omega
theorem ctI_cut {P : Int → Prop} [DecidablePred P] {a : Int} {n k : Nat} (h : k ≤ n) (no : ∀ y, a + k ≤ y → y < a + n → ¬ P y) : ctI P a n = ctI P a k := by
  obtain ⟨m, rfl⟩ := Nat.exists_eq_add_of_le h
  exact ctI_x (fun y h1 h2 => no y h1 (by omega))
abbrev tlP (σ : Mm) (w z : Int) : Prop := (z < σ 0 0 6 ∧ ((w = 2 ∧ isO (σ 6 z 0) 1) ∨ (w = 3 ∧ isO (σ 6 z 0) 2))) ∨ (w = 4 ∧ 0 ≤ σ 2 z 1) ∨ (w = 5 ∧ z < 4 ∧ 0 ≤ σ 4 z 1) ∨ (w = 6 ∧ z < 3 ∧ σ 7 z 3 ≠ 0)
theorem tl_c {σ : Mm} (hI : IC σ) {w : Int} (hw : 2 ≤ w ∧ w ≤ 6) : ctI (fun z => tlP σ w z) 0 6 = rC_count σ w := by
  obtain ⟨h1, -, h3, -, h5, -⟩ := hI
  unfold rC_count
  rw [if_neg (by omega), if_neg (by omega)]
  by_cases q : w = 2
  · rw [if_pos q]
    refine (ctI_cut (k := (σ 0 0 6 - 0).toNat) (by omega) (fun y a b => by show ¬ tlP σ w y; omega)).trans ?_
    exact ctI_c (fun y a b => by show tlP σ w y ↔ isO (σ 6 y 0) 1; omega)
  rw [if_neg q]
  by_cases q : w = 3
  · rw [if_pos q]
    refine (ctI_cut (k := (σ 0 0 6 - 0).toNat) (by omega) (fun y a b => by show ¬ tlP σ w y; omega)).trans ?_
    exact ctI_c (fun y a b => by show tlP σ w y ↔ isO (σ 6 y 0) 2; omega)
  rw [if_neg q]
  by_cases q : w = 4
  · rw [if_pos q]
    exact ctI_c (fun y a b => by have := h3 y a (by omega); show tlP σ w y ↔ σ 2 y 1 ≠ -1; omega)
  rw [if_neg q]
  by_cases q : w = 5
  · rw [if_pos q]
    refine (ctI_cut (k := 4) (by omega) (fun y a b => by show ¬ tlP σ w y; omega)).trans ?_
    exact ctI_c (fun y a b => by have := h5 y a (by omega); show tlP σ w y ↔ σ 4 y 1 ≠ -1; omega)
  rw [if_neg q, if_pos (by omega)]
  refine (ctI_cut (k := 3) (by omega) (fun y a b => by show ¬ tlP σ w y; omega)).trans ?_
  exact ctI_c (fun y a b => by show tlP σ w y ↔ σ 7 y 3 ≠ 0; omega)
