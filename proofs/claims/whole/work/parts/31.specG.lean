def kdB (c : Int) : Int := if c = 99 then 0 else if c = 108 then 1 else if c = 120 then 2 else if c = 109 then 3 else if c = 111 then 4 else if c = 100 then 5 else -9
theorem kdB_r (c : Int) : -9 ≤ kdB c ∧ kdB c ≤ 5 ∧ (kdB c ≠ -9 → 0 ≤ kdB c) := by unfold kdB; (repeat' split) <;> omega
abbrev ftP (c p : Int) : Prop := (p = 0 ∧ kdB c ≠ -9) ∨ (p = 1 ∧ 2 ≤ c - 48 ∧ c - 48 ≤ 9) ∨ (2 ≤ p ∧ 0 ≤ c - 48 ∧ c - 48 ≤ 9)
def foP (f : Int → Int) (n s : Int) : Nat → Int → Int
  | 0, _ => -9
  | k + 1, p => if n ≤ s + p then n else if ftP (f (s + p)) p then foP f n s k (p + 1) else s + p
def foI (f : Int → Int) (n s : Int) : Int := foP f n s 7 0
theorem foP_s {f : Int → Int} {n x w : Int} (h : x ≤ w ∧ w < x + 7) : foP f n x (x + 7 - w).toNat (w - x) = if n ≤ w then n else if ftP (f w) (w - x) then foP f n x (x + 7 - (w + 1)).toNat (w + 1 - x) else w := by
  rw [show (x + 7 - w).toNat = (x + 7 - (w + 1)).toNat + 1 by omega, foP, show x + (w - x) = w by omega, show w - x + 1 = w + 1 - x by omega]
theorem foP_r {f : Int → Int} {n s : Int} (hn : n ≤ 60) (hs : 0 ≤ s) (h0 : 0 ≤ n) : ∀ (k : Nat) (p : Int), 0 ≤ p → -9 ≤ foP f n s k p ∧ foP f n s k p ≤ 60
  | 0, p, _ => by rw [foP]; omega
  | k + 1, p, hp => by
    have h := foP_r (f := f) hn hs h0 k (p + 1) (by omega)
    rw [foP]
    (repeat' split) <;> omega
def ffG (f : Int → Int) (n : Int) : Nat → Int → Int → Int
  | 0, _, _ => -9
  | k + 1, x, u => if n ≤ x then -9 else if f x = 32 then ffG f n k (x + 1) u else if u = 5 then x else if foI f n x = -9 then ffG f n k (x + 7) (u + 1) else foI f n x
def ffI (f : Int → Int) (n : Int) : Int := ffG f n 61 0 0
theorem ffG_e {f : Int → Int} {n x u : Int} (h : n ≤ x) : ∀ k : Nat, ffG f n k x u = -9
  | 0 => rfl
  | k + 1 => by rw [ffG, if_pos h]
theorem ffG_r {f : Int → Int} {n : Int} (hn : n ≤ 60) : ∀ (k : Nat) (x u : Int), 0 ≤ x → -9 ≤ ffG f n k x u ∧ ffG f n k x u ≤ 60
  | 0, x, u, _ => by rw [ffG]; omega
  | k + 1, x, u, hx => by
    have h1 := ffG_r (f := f) hn k (x + 1) u (by omega)
    have h2 := ffG_r (f := f) hn k (x + 7) (u + 1) (by omega)
    rw [ffG]
    split
    · omega
    · have h3 := foP_r (f := f) (n := n) (s := x) hn hx (by omega) 7 0 (by omega)
      unfold foI
      (repeat' split) <;> omega
theorem up_up (σ : Mm) (t : Nat) (i j v w : Int) : up (up σ t i j v) t i j w = up σ t i j w := by
  funext t1 i1 j1
  unfold up
  (repeat' split) <;> rfl
def odr (f : Int → Int) (x : Int) : Int := 10 * (10 * (10 * (0 + f (x + 2) - 48) + f (x + 3) - 48) + f (x + 4) - 48) + f (x + 5) - 48
def rdI (σ : Mm) (f : Int → Int) (x c : Int) : Mm := up (up (up (up σ 6 c 0 (max 0 (kdB (f x)))) 6 c 1 (f (x + 1) - 48)) 6 c 2 (odr f x)) 6 c 3 (f (x + 6) - 48)
def rdM (f : Int → Int) (n : Int) : Nat → Int → Int → Mm → Mm
  | 0, _, _, σ => σ
  | k + 1, x, u, σ => if x + 7 ≤ n ∧ u < 5 then (if f x = 32 then rdM f n k (x + 1) u σ else rdM f n k (x + 7) (u + 1) (rdI σ f x u)) else σ
def rdC (f : Int → Int) (n : Int) : Nat → Int → Int → Int
  | 0, _, u => u
  | k + 1, x, u => if x + 7 ≤ n ∧ u < 5 then (if f x = 32 then rdC f n k (x + 1) u else rdC f n k (x + 7) (u + 1)) else u
theorem rdM_e {f : Int → Int} {n x u : Int} {σ : Mm} (h : ¬ (x + 7 ≤ n ∧ u < 5)) : ∀ k : Nat, rdM f n k x u σ = σ
  | 0 => rfl
  | k + 1 => by rw [rdM, if_neg h]
theorem rdC_e {f : Int → Int} {n x u : Int} (h : ¬ (x + 7 ≤ n ∧ u < 5)) : ∀ k : Nat, rdC f n k x u = u
  | 0 => rfl
  | k + 1 => by rw [rdC, if_neg h]
def rC_fault (σ : Mm) (t : Int) : Int := if rfT σ t ≠ 0 then rfT σ t else ffI (fun q => σ 5 t q) (σ 4 t 1)
def mC_fault (σ : Mm) (t : Int) : Mm := mRt σ t
def rC_almanac (σ : Mm) (t : Int) : Int := if rfT σ t ≠ 0 then rfT σ t else if ffI (fun q => σ 5 t q) (σ 4 t 1) ≠ -9 then -4 else rdC (fun q => σ 5 t q) (σ 4 t 1) 61 0 0
def mC_almanac (σ : Mm) (t : Int) : Mm := if rfT σ t ≠ 0 then mRt σ t else if ffI (fun q => σ 5 t q) (σ 4 t 1) ≠ -9 then σ else up (up (up (up (up (rdM (fun q => σ 5 t q) (σ 4 t 1) 61 0 0 σ) 0 0 6 (rdC (fun q => σ 5 t q) (σ 4 t 1) 61 0 0)) 0 0 7 0) 7 0 3 0) 7 1 3 0) 7 2 3 0
