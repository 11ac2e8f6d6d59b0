/-! counting, sums, memories that a loop makes -/
theorem ctI_s {P : Int → Prop} [DecidablePred P] {a y : Int} (h : a ≤ y) : ctI P a (y + 1 - a).toNat = ctI P a (y - a).toNat + zB (P y) := by
  have e : (y + 1 - a).toNat = (y - a).toNat + 1 := by omega
  rw [e, ctI]
  have e2 : a + ((y - a).toNat : Int) = y := by omega
  rw [e2]
theorem ctI_0 {P : Int → Prop} [DecidablePred P] {a y : Int} (h : y ≤ a) : ctI P a (y - a).toNat = 0 := by
  rw [show (y - a).toNat = 0 by omega]
  rfl
theorem ctI_r (P : Int → Prop) [DecidablePred P] (a : Int) : ∀ n : Nat, 0 ≤ ctI P a n ∧ ctI P a n ≤ n
  | 0 => ⟨Int.le_refl 0, Int.le_refl 0⟩
  | n + 1 => by
    have h := ctI_r P a n
    have h2 := zB_rng (P (a + n))
    rw [ctI]
    omega
theorem ctI_c {P R : Int → Prop} [DecidablePred P] [DecidablePred R] {a : Int} : ∀ {n : Nat}, (∀ y, a ≤ y → y < a + n → (P y ↔ R y)) → ctI P a n = ctI R a n
  | 0, _ => rfl
  | n + 1, h => by
    rw [ctI, ctI, ctI_c (fun y h1 h2 => h y h1 (by omega)), zB_c (h (a + n) (by omega) (by omega))]
/-- none further on -/
theorem ctI_x {P : Int → Prop} [DecidablePred P] {a : Int} {n : Nat} : ∀ {m : Nat}, (∀ y, a + n ≤ y → y < a + n + m → ¬ P y) → ctI P a (n + m) = ctI P a n
  | 0, _ => rfl
  | m + 1, h => by
    rw [← Nat.add_assoc, ctI, ctI_x (m := m) (fun y h1 h2 => h y h1 (by omega)), zB_f (h _ (by omega) (by omega))]
    omega
/-- the sum of f 0 .. f (n-1) -/
def smI (f : Int → Int) : Nat → Int
  | 0 => 0
  | n + 1 => smI f n + f n
theorem smI_s {f : Int → Int} {q : Int} (h : 0 ≤ q) : smI f (q + 1).toNat = smI f q.toNat + f q := by
  have e : (q + 1).toNat = q.toNat + 1 := by omega
  rw [e, smI]
  have e2 : ((q.toNat : Nat) : Int) = q := by omega
  rw [e2]
theorem smI_c {f g : Int → Int} : ∀ {n : Nat}, (∀ y, 0 ≤ y → y < (n : Int) → f y = g y) → smI f n = smI g n
  | 0, _ => rfl
  | n + 1, h => by rw [smI, smI, smI_c (fun y h1 h2 => h y h1 (by omega)), h n (by omega) (by omega)]
/-- h mixed with f 0 .. f (n-1) -/
def hsI (f : Int → Int) (h : Int) : Nat → Int
  | 0 => h
  | n + 1 => 31 * hsI f h n + f n
theorem hsI_s {f : Int → Int} {h q : Int} (hq : 0 ≤ q) : hsI f h (q + 1).toNat = 31 * hsI f h q.toNat + f q := by
  have e : (q + 1).toNat = q.toNat + 1 := by omega
  rw [e, hsI]
  have e2 : ((q.toNat : Nat) : Int) = q := by omega
  rw [e2]
theorem hsI_c {f g : Int → Int} {h : Int} : ∀ {n : Nat}, (∀ y, 0 ≤ y → y < (n : Int) → f y = g y) → hsI f h n = hsI g h n
  | 0, _ => rfl
  | n + 1, k => by rw [hsI, hsI, hsI_c (fun y h1 h2 => k y h1 (by omega)), k n (by omega) (by omega)]
theorem up_s (σ : Mm) (t : Nat) (i j v : Int) : up σ t i j v t i j = v := by
  unfold up
  rw [if_pos ⟨rfl, rfl, rfl⟩]
theorem up_t {σ : Mm} {t t1 : Nat} {i j v i1 j1 : Int} (h : t1 ≠ t) : up σ t i j v t1 i1 j1 = σ t1 i1 j1 := by
  unfold up
  rw [if_neg (fun q => h q.1)]
theorem up_i {σ : Mm} {t t1 : Nat} {i j v i1 j1 : Int} (h : i1 ≠ i) : up σ t i j v t1 i1 j1 = σ t1 i1 j1 := by
  unfold up
  rw [if_neg (fun q => h q.2.1)]
theorem up_j {σ : Mm} {t t1 : Nat} {i j v i1 j1 : Int} (h : j1 ≠ j) : up σ t i j v t1 i1 j1 = σ t1 i1 j1 := by
  unfold up
  rw [if_neg (fun q => h q.2.2)]
/-- places 0 .. m-1 of a row are v -/
def mFill (σ : Mm) (t : Nat) (i m v : Int) : Mm := fun t1 i1 j1 => if t1 = t ∧ i1 = i ∧ 0 ≤ j1 ∧ j1 < m then v else σ t1 i1 j1
theorem mFill_0 (σ : Mm) (t : Nat) (i v : Int) : σ = mFill σ t i 0 v := by
  funext t1 i1 j1
  unfold mFill
  rw [if_neg (fun q => by omega)]
theorem mFill_s (σ : Mm) (t : Nat) (i q v : Int) (h : 0 ≤ q) : up (mFill σ t i q v) t i q v = mFill σ t i (q + 1) v := by
  funext t1 i1 j1
  unfold mFill up
  dsimp only
  (repeat' split) <;> first | rfl | omega
/-- an almanac is kept: the first q calendars of it -/
def mTk (σ : Mm) (k td q : Int) : Mm := fun t i j =>
  if t = 7 ∧ i = k ∧ j = 3 then 1 else if t = 7 ∧ i = k ∧ j = 4 then td
  else if t = 8 ∧ i = k ∧ 0 ≤ j ∧ j < q then σ 6 j 1 else if t = 9 ∧ i = k ∧ 0 ≤ j ∧ j < q then σ 6 j 2 else if t = 10 ∧ i = k ∧ 0 ≤ j ∧ j < q then σ 6 j 3 else σ t i j
theorem mTk_0 (σ : Mm) (k td : Int) : up (up σ 7 k 3 1) 7 k 4 td = mTk σ k td 0 := by
  funext t i j
  unfold mTk up
  by_cases c1 : t = 7 ∧ i = k ∧ j = 3
  · rw [if_neg (fun z => by omega), if_pos c1, if_pos c1]
  · by_cases c2 : t = 7 ∧ i = k ∧ j = 4
    · rw [if_pos c2, if_neg c1, if_pos c2]
    · rw [if_neg c2, if_neg c1, if_neg c1, if_neg c2, if_neg (fun z => by omega), if_neg (fun z => by omega), if_neg (fun z => by omega)]
theorem mTk_s (σ : Mm) (k td q : Int) (h : 0 ≤ q) : up (up (up (mTk σ k td q) 8 k q (σ 6 q 1)) 9 k q (σ 6 q 2)) 10 k q (σ 6 q 3) = mTk σ k td (q + 1) := by
  funext t i j
  unfold mTk up
  dsimp only
  by_cases c8 : t = 8 ∧ i = k ∧ j = q
  · obtain ⟨rfl, rfl, rfl⟩ := c8
    rw [if_neg (by omega), if_neg (by omega), if_pos (by omega), if_neg (by omega), if_neg (by omega), if_pos (by omega)]
  · by_cases c9 : t = 9 ∧ i = k ∧ j = q
    · obtain ⟨rfl, rfl, rfl⟩ := c9
      rw [if_neg (by omega), if_pos (by omega), if_neg (by omega), if_neg (by omega), if_neg (by omega), if_pos (by omega)]
    · by_cases c10 : t = 10 ∧ i = k ∧ j = q
      · obtain ⟨rfl, rfl, rfl⟩ := c10
        rw [if_pos (by omega), if_neg (by omega), if_neg (by omega), if_neg (by omega), if_neg (by omega), if_pos (by omega)]
      · rw [if_neg c10, if_neg c9, if_neg c8]
        (repeat' split) <;> first | rfl | omega
/-- an almanac is given back: the first q calendars of it -/
def mGv (σ : Mm) (k q : Int) : Mm := fun t i j =>
  if t = 6 ∧ 0 ≤ i ∧ i < q ∧ j = 1 then σ 8 k i else if t = 6 ∧ 0 ≤ i ∧ i < q ∧ j = 2 then σ 9 k i else if t = 6 ∧ 0 ≤ i ∧ i < q ∧ j = 3 then σ 10 k i else σ t i j
theorem mGv_0 (σ : Mm) (k : Int) : σ = mGv σ k 0 := by
  funext t i j
  unfold mGv
  rw [if_neg (fun z => by omega), if_neg (fun z => by omega), if_neg (fun z => by omega)]
theorem mGv_s (σ : Mm) (k q : Int) (h : 0 ≤ q) : up (up (up (mGv σ k q) 6 q 1 (σ 8 k q)) 6 q 2 (σ 9 k q)) 6 q 3 (σ 10 k q) = mGv σ k (q + 1) := by
  funext t i j
  unfold mGv up
  dsimp only
  by_cases c : t = 6 ∧ i = q
  · obtain ⟨rfl, rfl⟩ := c
    by_cases c3 : j = 3
    · subst c3
      rw [if_pos (by omega), if_neg (by omega), if_neg (by omega), if_pos (by omega)]
    · by_cases c2 : j = 2
      · subst c2
        rw [if_neg (by omega), if_pos (by omega), if_neg (by omega), if_pos (by omega)]
      · by_cases c1 : j = 1
        · subst c1
          rw [if_neg (by omega), if_neg (by omega), if_pos (by omega), if_pos (by omega)]
        · (repeat' split) <;> first | rfl | omega
  · (repeat' split) <;> first | rfl | omega
/-- what a leaped, cut, .. calendar tells of td -/
def mrk (k lp o g w td : Int) : Int :=
  if w = 1 then (lp - dtD k lp o g td / 1000 % lp) % lp else if w = 2 then max 0 (o - td) else if w = 3 then dtD k lp o g td / 1000 + 1 else if w = 4 then g * cby k o td else if g = 0 then 0 else cby k o td
