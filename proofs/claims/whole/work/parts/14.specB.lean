theorem smI_r {f : Int → Int} : ∀ {n : Nat}, (∀ j : Int, 0 ≤ j → j < n → -2147483648 ≤ f j ∧ f j < 2147483648) → -(n * 2147483648) ≤ smI f n ∧ smI f n ≤ n * 2147483648
  | 0, _ => by simp [smI]
  | n + 1, h => by
    have h1 := smI_r (n := n) (fun j a b => h j a (by omega))
    have h2 := h n (by omega) (by omega)
    rw [smI]
    omega
theorem dyD_lt {k lp o g t : Int} (hl : 2 ≤ lp ∧ lp ≤ 9) (hg : 0 ≤ g ∧ g ≤ 9) (h : dyD k lp o g t ≠ -1) : 0 ≤ t ∧ t ≤ 204999 := by
  unfold dyD at h
  split at h
  · omega
  · split at h
    · have h1 := begY_r (k := k) (lp := lp) (y := t / 1000) (by omega) hl.1
      unfold dyC at h
      have : begY k lp (t / 1000) ≤ 20017 := by
        (repeat' split at h) <;> omega
      omega
    · omega
theorem mul_r {a b m n : Int} (ha : 0 ≤ a ∧ a ≤ m) (hb : 0 ≤ b ∧ b ≤ n) : 0 ≤ a * b ∧ a * b ≤ m * n := ⟨Int.mul_nonneg ha.1 hb.1, Int.mul_le_mul ha.2 hb.2 hb.1 (by omega)⟩
theorem strE_r {k lp o g d : Int} (hl : 2 ≤ lp ∧ lp ≤ 9) (hg : 0 ≤ g ∧ g ≤ 9) (hd : 0 ≤ d) : d ≤ strE k lp o g d ∧ strE k lp o g d ≤ d + 101 := by
  refine ⟨str_ge hl hg hd, ?_⟩
  have h := lenY_r k lp (dtD k lp o g d / 1000)
  unfold strE
  split <;> omega
/-- the same date all along a stretch, or all along not -/
theorem ag_str {k lp o g k2 lp2 o2 g2 x e : Int} (hl : 2 ≤ lp ∧ lp ≤ 9) (hg : 0 ≤ g ∧ g ≤ 9) (hl2 : 2 ≤ lp2 ∧ lp2 ≤ 9) (hg2 : 0 ≤ g2 ∧ g2 ≤ 9) (hx : 0 ≤ x) (h1 : e ≤ strE k lp o g x) (h2 : e ≤ strE k2 lp2 o2 g2 x) : ∀ z, x ≤ z → z ≤ e → (dtD k lp o g z = dtD k2 lp2 o2 g2 z ↔ dtD k lp o g x = dtD k2 lp2 o2 g2 x) := by
  intro z hz1 hz2
  rw [str_dt hl hg hx hz1 (by omega), str_dt hl2 hg2 hx hz1 (by omega)]
  omega
theorem ctI_e {P : Int → Prop} [DecidablePred P] {a x e : Int} (h : a ≤ x) (he : x ≤ e) (hk : ∀ z, x ≤ z → z ≤ e → (P z ↔ P x)) : ctI P a (max x e + 1 - a).toNat = ctI P a (x - a).toNat + (if P x then e - x + 1 else 0) := by
  have k := ctI_k (P := P) (a := a) (y := x) h (m := (e - x + 1).toNat) (fun z h1 h2 => hk z h1 (by omega))
  rw [show (max x e + 1 - a).toNat = (x + ((e - x + 1).toNat : Int) - a).toNat by omega, k]
  by_cases q : P x
  · rw [if_pos q, zB_t q]
    omega
  · rw [if_neg q, zB_f q]
    omega
theorem fstI_e {P : Int → Prop} [DecidablePred P] {a x e : Int} (h0 : 0 ≤ a) (h : a ≤ x) (he : x ≤ e) (hk : ∀ z, x ≤ z → z ≤ e → (P z ↔ P x)) : fstI P a (max x e + 1 - a).toNat = if fstI P a (x - a).toNat ≠ -9 then fstI P a (x - a).toNat else if P x then x else -9 := by
  have k := fstI_k (P := P) (a := a) (y := x) h0 h (m := (e - x).toNat) (fun z h1 h2 => hk z h1 (by omega))
  rw [show (max x e + 1 - a).toNat = (x + (((e - x).toNat + 1 : Nat) : Int) - a).toNat by omega, k]
theorem mxI_e {f : Int → Int} {a x e : Int} (h : a ≤ x) (he : x ≤ e) (hk : ∀ z, x ≤ z → z ≤ e → f z = f x) : mxI f a (max x e + 1 - a).toNat = max (mxI f a (x - a).toNat) (f x) := by
  have k := mxI_k (f := f) (a := a) (y := x) h (m := (e - x).toNat) (fun z h1 h2 => hk z h1 (by omega))
  rw [show (max x e + 1 - a).toNat = (x + (((e - x).toNat + 1 : Nat) : Int) - a).toNat by omega, k]
theorem bsI_e {f : Int → Int} {a b x e : Int} (h : a ≤ x) (he : x ≤ e) (hk : ∀ z, x ≤ z → z ≤ e → f z = f x) : bsI f a b (max x e + 1 - a).toNat = if mxI f a (x - a).toNat < f x then x else bsI f a b (x - a).toNat := by
  have k := bsI_k (f := f) (a := a) (b := b) (y := x) h (m := (e - x).toNat) (fun z h1 h2 => hk z h1 (by omega))
  rw [show (max x e + 1 - a).toNat = (x + (((e - x).toNat + 1 : Nat) : Int) - a).toNat by omega, k]
theorem tmA_r {k lp o g t td : Int} (hl : 2 ≤ lp ∧ lp ≤ 9) (hg : 0 ≤ g ∧ g ≤ 9) (ht : 0 ≤ t) (hd : 0 ≤ td ∧ td ≤ 19999) : 0 ≤ tmA k lp o g t td ∧ tmA k lp o g t td ≤ 300 := by
  have h1 := dtD_r (k := k) (lp := lp) (o := o) (g := g) (d := td) hd.1 hl hg
  have h2 := ctI_r (agP k lp o g (t % 1000) td) (t / 1000 + 1) (dtD k lp o g td / 1000 - t / 1000).toNat
  unfold tmA
  omega
theorem mxI_b {f : Int → Int} {a m : Int} (hm : -1 ≤ m) : ∀ {n : Nat}, (∀ z, a ≤ z → z < a + n → f z ≤ m) → -1 ≤ mxI f a n ∧ mxI f a n ≤ m
  | 0, _ => by rw [mxI]; omega
  | n + 1, h => by
    have h1 := mxI_b hm (n := n) (fun z h1 h2 => h z h1 (by omega))
    have h2 := h (a + n) (by omega) (by omega)
    rw [mxI]
    omega
theorem bsI_b {f : Int → Int} {a b m : Int} : ∀ {n : Nat}, b ≤ m → -9 ≤ b → 0 ≤ a → a + n ≤ m → -9 ≤ bsI f a b n ∧ bsI f a b n ≤ m
  | 0, h1, h2, _, _ => by rw [bsI]; omega
  | n + 1, h1, h2, h3, h4 => by
    have h := bsI_b (f := f) (n := n) h1 h2 h3 (by omega)
    rw [bsI]
    split <;> omega
theorem p2_5 {q : Int} (h : 0 ≤ q ∧ q ≤ 5) : (2 : Int) ^ q.toNat ≤ 32 := by
  rcases (show q = 0 ∨ q = 1 ∨ q = 2 ∨ q = 3 ∨ q = 4 ∨ q = 5 by omega) with rfl | rfl | rfl | rfl | rfl | rfl <;> decide
/-- a row made anew with n values f -/
def mRw (σ : Mm) (r n : Int) (f : Int → Int) : Mm := fun t i j => if t = 2 ∧ i = r ∧ j = 1 then n else if t = 3 ∧ i = r ∧ 0 ≤ j ∧ j < 40 then (if j < n then f j else 0) else σ t i j
theorem mRw_n (σ : Mm) (r n : Int) (f : Int → Int) : mRw σ r n f 2 r 1 = n := by
  unfold mRw
  rw [if_pos ⟨rfl, rfl, rfl⟩]
theorem mRw_0 (σ : Mm) (r : Int) (f : Int → Int) : mFill (up σ 2 r 1 0) 3 r 40 0 = mRw σ r 0 f := by
  funext t i j
  unfold mFill mRw up
  (repeat' split) <;> first | rfl | omega
theorem mRw_s (σ : Mm) (r q v : Int) (f : Int → Int) (h : 0 ≤ q ∧ q < 40) (hv : v = f q) : up (up (mRw σ r q f) 3 r (mRw σ r q f 2 r 1) v) 2 r 1 (mRw σ r q f 2 r 1 + 1) = mRw σ r (q + 1) f := by
  rw [mRw_n, hv]
  funext t i j
  unfold mRw up
  dsimp only
  by_cases c : t = 3 ∧ i = r ∧ j = q
  · obtain ⟨rfl, rfl, rfl⟩ := c
    rw [if_neg (by omega), if_pos (by omega), if_neg (by omega), if_pos (by omega), if_pos (by omega)]
  · (repeat' split) <;> first | rfl | omega
abbrev feP (k lp o g y q : Int) : Prop := dyD k lp o g (1000 * y + q) ≠ -1
def feF (k lp o g y : Int) : Int := fstI (feP k lp o g y) 20 (lenY k lp y - 20).toNat
def feD (d : Int) : Int := if d + tlF d ≤ 19999 then d + tlF d else -9
def fea (k lp o g y : Int) : Int := if feF k lp o g y = -9 then -9 else feD (dyD k lp o g (1000 * y + feF k lp o g y))
abbrev offP (lp v k y : Int) : Prop := v * k < max (k * lyb y lp - y) (-(k * lyb y lp - y))
def fyo (lp v k n : Int) : Int := fstI (offP lp v k) 0 (n + 1).toNat
def rC_mean (σ : Mm) (r : Int) : Int := if rfR σ r ≠ 0 then rfR σ r else if σ 2 r 1 = 0 then -3 else 1
def mC_mean (σ : Mm) (r : Int) : Mm := if rfR σ r ≠ 0 then mRf σ r else if σ 2 r 1 = 0 then mFd σ 4 else up σ 0 0 8 (Int.tdiv (smI (fun j => σ 3 r j) (σ 2 r 1).toNat) (σ 2 r 1))
def oTn (σ : Mm) (c w : Int) : Int := if w = 0 then σ 6 c 0 else if w = 1 then σ 6 c 1 else if w = 2 then σ 6 c 2 else if w = 3 then σ 6 c 3 else dtD (σ 6 c 0) (σ 6 c 1) (σ 6 c 2) (σ 6 c 3) (σ 0 0 7)
def rC_town (σ : Mm) (c w : Int) : Int := if isT σ c ∧ 0 ≤ w ∧ w ≤ 4 then 1 else -1
def mC_town (σ : Mm) (c w : Int) : Mm := if isT σ c ∧ 0 ≤ w ∧ w ≤ 4 then up σ 0 0 8 (oTn σ c w) else σ
def rC_mark (σ : Mm) (c w : Int) : Int := if ¬ isT σ c ∨ ¬ (1 ≤ w ∧ w ≤ 5) then -1 else if isO (σ 6 c 0) w then mrk (σ 6 c 0) (σ 6 c 1) (σ 6 c 2) (σ 6 c 3) w (σ 0 0 7) else -3
def mC_mark (σ : Mm) (c w : Int) : Mm := if ¬ isT σ c ∨ ¬ (1 ≤ w ∧ w ≤ 5) then σ else if isO (σ 6 c 0) w then σ else mFd σ 3
def rC_asked (σ : Mm) : Int := σ 0 0 8
def rC_finding (σ : Mm) : Int := σ 0 0 11
def rC_upper (σ : Mm) : Int := σ 0 0 9
def rC_lower (σ : Mm) : Int := σ 0 0 10
def rC_findings (σ : Mm) (f : Int) : Int := if 1 ≤ f ∧ f ≤ 5 then σ 1 0 f else -1
def rC_voyage (σ : Mm) (c d x n : Int) : Int := if ¬ isT σ c ∨ ¬ isT σ d ∨ ¬ (0 ≤ x ∧ x ≤ 19999) ∨ ¬ (0 ≤ n ∧ n ≤ 999) then -1 else if 19999 < x + n then -6 else 1
def mC_voyage (σ : Mm) (c d x n : Int) : Mm := if ¬ isT σ c ∨ ¬ isT σ d ∨ ¬ (0 ≤ x ∧ x ≤ 19999) ∨ ¬ (0 ≤ n ∧ n ≤ 999) then σ else if 19999 < x + n then σ else up σ 0 0 8 (cnt (σ 6 d 0) (σ 6 d 2) (σ 6 d 3) (x + n) - cnt (σ 6 c 0) (σ 6 c 2) (σ 6 c 3) x)
def rC_due (σ : Mm) (c t y : Int) : Int := if ¬ isT σ c ∨ t < 0 ∨ ¬ (0 ≤ y ∧ y ≤ 50) then -1 else if dyD (σ 6 c 0) (σ 6 c 1) (σ 6 c 2) (σ 6 c 3) t = -1 then -3 else if dyD (σ 6 c 0) (σ 6 c 1) (σ 6 c 2) (σ 6 c 3) (t + 1000 * y) = -1 then -9 else dyD (σ 6 c 0) (σ 6 c 1) (σ 6 c 2) (σ 6 c 3) (t + 1000 * y)
def mC_due (σ : Mm) (c t y : Int) : Mm := if ¬ isT σ c ∨ t < 0 ∨ ¬ (0 ≤ y ∧ y ≤ 50) then σ else if dyD (σ 6 c 0) (σ 6 c 1) (σ 6 c 2) (σ 6 c 3) t = -1 then mFd σ 4 else up σ 0 0 8 (dyD (σ 6 c 0) (σ 6 c 1) (σ 6 c 2) (σ 6 c 3) t + 100 * y)
def rC_moon (σ : Mm) (d : Int) : Int := if ¬ (0 ≤ d ∧ d ≤ 19999) then -1 else if tlF d = 0 then 1 else 0
def mC_moon (σ : Mm) (d : Int) : Mm := if ¬ (0 ≤ d ∧ d ≤ 19999) then σ else up σ 0 0 8 (tlF d)
def rC_age (σ : Mm) (c t : Int) : Int := if ¬ isT σ c ∨ t < 0 then -1 else if dyD (σ 6 c 0) (σ 6 c 1) (σ 6 c 2) (σ 6 c 3) t = -1 then -3 else if σ 0 0 7 < dyD (σ 6 c 0) (σ 6 c 1) (σ 6 c 2) (σ 6 c 3) t then -4 else tmA (σ 6 c 0) (σ 6 c 1) (σ 6 c 2) (σ 6 c 3) t (σ 0 0 7)
def mC_age (σ : Mm) (c t : Int) : Mm := if ¬ isT σ c ∨ t < 0 then σ else if dyD (σ 6 c 0) (σ 6 c 1) (σ 6 c 2) (σ 6 c 3) t = -1 then mFd σ 4 else σ
def rC_agree (σ : Mm) (c d a b : Int) : Int := if ¬ isT σ c ∨ ¬ isT σ d ∨ ¬ (0 ≤ a ∧ a ≤ b ∧ b ≤ 19999) then -1 else ctI (fun z => dtD (σ 6 c 0) (σ 6 c 1) (σ 6 c 2) (σ 6 c 3) z = dtD (σ 6 d 0) (σ 6 d 1) (σ 6 d 2) (σ 6 d 3) z) a (b + 1 - a).toNat
def mC_agree (σ : Mm) (c d a b : Int) : Mm := if ¬ isT σ c ∨ ¬ isT σ d ∨ ¬ (0 ≤ a ∧ a ≤ b ∧ b ≤ 19999) then σ else up σ 0 0 8 (fstI (fun z => dtD (σ 6 c 0) (σ 6 c 1) (σ 6 c 2) (σ 6 c 3) z = dtD (σ 6 d 0) (σ 6 d 1) (σ 6 d 2) (σ 6 d 3) z) a (b + 1 - a).toNat)
def rC_till (σ : Mm) (c d : Int) : Int := if ¬ isT σ c ∨ ¬ isT σ d then -1 else if fstI (fun z => dtD (σ 6 c 0) (σ 6 c 1) (σ 6 c 2) (σ 6 c 3) z = dtD (σ 6 d 0) (σ 6 d 1) (σ 6 d 2) (σ 6 d 3) z) (σ 0 0 7) (20000 - σ 0 0 7).toNat = -9 then -9 else fstI (fun z => dtD (σ 6 c 0) (σ 6 c 1) (σ 6 c 2) (σ 6 c 3) z = dtD (σ 6 d 0) (σ 6 d 1) (σ 6 d 2) (σ 6 d 3) z) (σ 0 0 7) (20000 - σ 0 0 7).toNat - σ 0 0 7
def rC_apart (σ : Mm) (c d a b : Int) : Int := if ¬ isT σ c ∨ ¬ isT σ d ∨ ¬ (0 ≤ a ∧ a ≤ b ∧ b ≤ 19999) then -1 else mxI (fun z => max (cnt (σ 6 c 0) (σ 6 c 2) (σ 6 c 3) z - cnt (σ 6 d 0) (σ 6 d 2) (σ 6 d 3) z) (-(cnt (σ 6 c 0) (σ 6 c 2) (σ 6 c 3) z - cnt (σ 6 d 0) (σ 6 d 2) (σ 6 d 3) z))) a (b + 1 - a).toNat
def mC_apart (σ : Mm) (c d a b : Int) : Mm := if ¬ isT σ c ∨ ¬ isT σ d ∨ ¬ (0 ≤ a ∧ a ≤ b ∧ b ≤ 19999) then σ else up σ 0 0 8 (bsI (fun z => max (cnt (σ 6 c 0) (σ 6 c 2) (σ 6 c 3) z - cnt (σ 6 d 0) (σ 6 d 2) (σ 6 d 3) z) (-(cnt (σ 6 c 0) (σ 6 c 2) (σ 6 c 3) z - cnt (σ 6 d 0) (σ 6 d 2) (σ 6 d 3) z))) a a (b + 1 - a).toNat)
def rC_year (σ : Mm) (c y : Int) : Int := if ¬ isT σ c ∨ ¬ (0 ≤ y ∧ y ≤ 250) then -1 else lenY (σ 6 c 0) (σ 6 c 1) y
def mC_year (σ : Mm) (c y : Int) : Mm := if ¬ isT σ c ∨ ¬ (0 ≤ y ∧ y ≤ 250) then σ else up σ 0 0 8 (ctI (fun q => dyD (σ 6 c 0) (σ 6 c 1) (σ 6 c 2) (σ 6 c 3) (1000 * y + q) ≠ -1) 0 (lenY (σ 6 c 0) (σ 6 c 1) y).toNat)
def rC_where (σ : Mm) (d t : Int) : Int := if ¬ (0 ≤ d ∧ d ≤ 19999) ∨ t < 0 then -1 else ctI (fun z => dtD (σ 6 z 0) (σ 6 z 1) (σ 6 z 2) (σ 6 z 3) d = t) 0 (σ 0 0 6).toNat
def mC_where (σ : Mm) (d t : Int) : Mm := if ¬ (0 ≤ d ∧ d ≤ 19999) ∨ t < 0 then σ else up σ 0 0 8 (bts (fun z => dtD (σ 6 z 0) (σ 6 z 1) (σ 6 z 2) (σ 6 z 3) d = t) (σ 0 0 6).toNat)
def rC_dated (σ : Mm) (t a b : Int) : Int := if t < 0 ∨ ¬ (0 ≤ a ∧ a ≤ b ∧ b ≤ 19999) then -1 else bts (fun z => dyD (σ 6 z 0) (σ 6 z 1) (σ 6 z 2) (σ 6 z 3) t ≠ -1 ∧ a ≤ dyD (σ 6 z 0) (σ 6 z 1) (σ 6 z 2) (σ 6 z 3) t ∧ dyD (σ 6 z 0) (σ 6 z 1) (σ 6 z 2) (σ 6 z 3) t ≤ b) (σ 0 0 6).toNat
def rC_eldest (σ : Mm) (d : Int) : Int := if ¬ (0 ≤ d ∧ d ≤ σ 0 0 7) then -1 else bsI (fun z => tmA (σ 6 z 0) (σ 6 z 1) (σ 6 z 2) (σ 6 z 3) (dtD (σ 6 z 0) (σ 6 z 1) (σ 6 z 2) (σ 6 z 3) d) (σ 0 0 7)) 0 (-9) (σ 0 0 6).toNat
def mC_eldest (σ : Mm) (d : Int) : Mm := if ¬ (0 ≤ d ∧ d ≤ σ 0 0 7) then σ else if bsI (fun z => tmA (σ 6 z 0) (σ 6 z 1) (σ 6 z 2) (σ 6 z 3) (dtD (σ 6 z 0) (σ 6 z 1) (σ 6 z 2) (σ 6 z 3) d) (σ 0 0 7)) 0 (-9) (σ 0 0 6).toNat = -9 then σ else up σ 0 0 8 (mxI (fun z => tmA (σ 6 z 0) (σ 6 z 1) (σ 6 z 2) (σ 6 z 3) (dtD (σ 6 z 0) (σ 6 z 1) (σ 6 z 2) (σ 6 z 3) d) (σ 0 0 7)) 0 (σ 0 0 6).toNat)
theorem fea_r {k lp o g y : Int} (hl : 2 ≤ lp ∧ lp ≤ 9) (ho : 0 ≤ o) : -9 ≤ fea k lp o g y ∧ fea k lp o g y ≤ 19999 := by
  unfold fea feD
  split
  · omega
  · rename_i q
    have h1 := dyD_r (k := k) (lp := lp) (o := o) (g := g) (t := 1000 * y + feF k lp o g y) hl ho
    have h2 : feP k lp o g y (feF k lp o g y) := by
      rcases fstI_r (feP k lp o g y) (a := 20) (by omega) (lenY k lp y - 20).toNat with ⟨h, -⟩ | ⟨-, -, h, -⟩
      · exact absurd h q
      · exact h
    have h3 := tlF_r (d := dyD k lp o g (1000 * y + feF k lp o g y)) (by omega)
    split <;> omega
def rC_feast (σ : Mm) (c y : Int) : Int := if isT σ c ∧ 0 ≤ y ∧ y ≤ 150 then fea (σ 6 c 0) (σ 6 c 1) (σ 6 c 2) (σ 6 c 3) y else -1
def rC_together (σ : Mm) (c d a b : Int) : Int := if ¬ isT σ c ∨ ¬ isT σ d ∨ ¬ (0 ≤ a ∧ a ≤ b ∧ b ≤ 150) then -1 else ctI (fun z => fea (σ 6 c 0) (σ 6 c 1) (σ 6 c 2) (σ 6 c 3) z ≠ -9 ∧ fea (σ 6 c 0) (σ 6 c 1) (σ 6 c 2) (σ 6 c 3) z = fea (σ 6 d 0) (σ 6 d 1) (σ 6 d 2) (σ 6 d 3) z) a (b + 1 - a).toNat
theorem fyo_r (lp v k : Int) {n : Int} (hn : 0 ≤ n) : -9 ≤ fyo lp v k n ∧ fyo lp v k n ≤ n := by
  unfold fyo
  rcases fstI_r (offP lp v k) (a := 0) (by omega) (n + 1).toNat with ⟨h, -⟩ | ⟨h1, h2, -⟩ <;> omega
def rC_keeps (σ : Mm) (v k n : Int) : Int := if ¬ (0 ≤ v ∧ v ≤ 99) ∨ ¬ (2 ≤ k ∧ k ≤ 9) ∨ ¬ (1 ≤ n ∧ n ≤ 150) then -1 else fstI (fun z => fyo z v k n = -9) 2 8
def rC_fails (σ : Mm) (lp v k : Int) : Int := if ¬ (2 ≤ lp ∧ lp ≤ 9) ∨ ¬ (0 ≤ v ∧ v ≤ 99) ∨ ¬ (2 ≤ k ∧ k ≤ 9) then -1 else fyo lp v k 150
def rC_lots (σ : Mm) (c d n v : Int) : Int := if ¬ isT σ c ∨ ¬ isT σ d ∨ ¬ (1 ≤ n ∧ n ≤ 40) ∨ ¬ (1 ≤ v ∧ v ≤ 2147483646) then -1 else ctI (fun z => dtD (σ 6 c 0) (σ 6 c 1) (σ 6 c 2) (σ 6 c 3) (lotI v (z + 1).toNat % 20000) = dtD (σ 6 d 0) (σ 6 d 1) (σ 6 d 2) (σ 6 d 3) (lotI v (z + 1).toNat % 20000)) 0 (n - 0).toNat
