theorem ctI_z {P : Int → Prop} [DecidablePred P] {a : Int} : ∀ {n : Nat}, (∀ y, a ≤ y → y < a + n → ¬ P y) → ctI P a n = 0
  | 0, _ => rfl
  | n + 1, h => by rw [ctI, ctI_z (n := n) (fun y h1 h2 => h y h1 (by omega)), zB_f (h _ (by omega) (by omega))]; rfl
theorem ctI_nz {P : Int → Prop} [DecidablePred P] {a y : Int} (h1 : a ≤ y) (hy : P y) : ∀ {n : Nat}, y < a + n → ctI P a n ≠ 0
  | 0, h => by omega
  | n + 1, h => by
    have h2 := ctI_r P a n
    have h3 := zB_rng (P (a + n))
    rw [ctI]
    rcases (show y < a + n ∨ y = a + n by omega) with q | q
    · have := ctI_nz h1 hy q
      omega
    · rw [zB_t (q ▸ hy)]
      omega
theorem ctI_all {P : Int → Prop} [DecidablePred P] {a : Int} {n : Nat} (h : ctI P a n = 0) : ∀ y, a ≤ y → y < a + n → ¬ P y := fun y h1 h2 hy => ctI_nz h1 hy h2 h
abbrev qrC (k lp o g t y : Int) : Prop := dyD k lp o g t = -1 ∨ dyD k lp o g (t + 1000 * y) ≠ dyD k lp o g t + 100 * y
abbrev cOK (σ : Mm) (r q : Int) : Prop := isT σ (σ 3 r (3 * q)) ∧ 0 ≤ σ 3 r (3 * q + 1) ∧ 0 ≤ σ 3 r (3 * q + 2) ∧ σ 3 r (3 * q + 2) ≤ 50
def qI (σ : Mm) (r q tr : Int) : Int := if σ 3 r (3 * q) = tr then 5 else σ 3 r (3 * q)
abbrev qAt (σ : Mm) (r q tr : Int) : Prop := qrC (σ 6 (qI σ r q tr) 0) (σ 6 (qI σ r q tr) 1) (σ 6 (qI σ r q tr) 2) (σ 6 (qI σ r q tr) 3) (σ 3 r (3 * q + 1)) (σ 3 r (3 * q + 2))
/-- the trial calendar -/
def mTr (σ : Mm) (k lp o g : Int) : Mm := fun t i j => if t = 6 ∧ i = 5 ∧ j = 0 then k else if t = 6 ∧ i = 5 ∧ j = 1 then lp else if t = 6 ∧ i = 5 ∧ j = 2 then o else if t = 6 ∧ i = 5 ∧ j = 3 then g else σ t i j
theorem mTr_0 (σ : Mm) (k lp o g : Int) : up (up (up (up σ 6 5 0 k) 6 5 1 lp) 6 5 2 o) 6 5 3 g = mTr σ k lp o g := by
  funext t i j
  simp only [mTr, up]
  (repeat' split) <;> first | rfl | omega
theorem mTr_o (σ : Mm) (k lp o g v : Int) : up (mTr σ k lp o g) 6 5 2 v = mTr σ k lp v g := by
  funext t i j
  simp only [mTr, up]
  (repeat' split) <;> first | rfl | omega
theorem mTr_k (σ : Mm) (k lp o g v : Int) : up (mTr σ k lp o g) 6 5 0 v = mTr σ v lp o g := by
  funext t i j
  simp only [mTr, up]
  (repeat' split) <;> first | rfl | omega
theorem mTr_c {σ : Mm} {k lp o g c j : Int} (h : c ≠ 5) : mTr σ k lp o g 6 c j = σ 6 c j := by
  unfold mTr
  rw [if_neg (fun z => h z.2.1), if_neg (fun z => h z.2.1), if_neg (fun z => h z.2.1), if_neg (fun z => h z.2.1)]
theorem IC_tr {σ : Mm} {k lp o g : Int} (h : IC σ) : IC (mTr σ k lp o g) := by
  obtain ⟨h1, h2, h3, h4, h5, h6, h7, h8⟩ := h
  refine ⟨h1, h2, h3, h4, h5, h6, fun c hc1 hc2 => ?_, h8⟩
  have hc3 : c < σ 0 0 6 := hc2
  have := h7 c hc1 hc3
  have h1b := h1.2
  unfold CalOK
  rw [mTr_c (by omega), mTr_c (by omega), mTr_c (by omega), mTr_c (by omega)]
  exact this
theorem CalOK_tr {σ : Mm} {k lp o g : Int} (hk : 0 ≤ k ∧ k ≤ 5) (hl : 2 ≤ lp ∧ lp ≤ 9) (ho : 0 ≤ o ∧ o ≤ 9999) (hg : 0 ≤ g ∧ g ≤ 9) : CalOK (mTr σ k lp o g) 5 := ⟨hk, hl, ho, hg⟩
def rC_count (σ : Mm) (w : Int) : Int := if w = 0 then σ 0 0 6 else if w = 1 then σ 0 0 7 else if w = 2 then ctI (fun z => isO (σ 6 z 0) 1) 0 (σ 0 0 6 - 0).toNat else if w = 3 then ctI (fun z => isO (σ 6 z 0) 2) 0 (σ 0 0 6 - 0).toNat else if w = 4 then ctI (fun z => σ 2 z 1 ≠ -1) 0 6 else if w = 5 then ctI (fun z => σ 4 z 1 ≠ -1) 0 4 else if w = 6 then ctI (fun z => σ 7 z 3 ≠ 0) 0 3 else -1
theorem count_r {σ : Mm} (hI : IC σ) (w : Int) : -1 ≤ rC_count σ w ∧ rC_count σ w ≤ 19999 := by
  obtain ⟨h1, h2, -⟩ := hI
  have a1 := ctI_r (fun z => isO (σ 6 z 0) 1) 0 (σ 0 0 6 - 0).toNat
  have a2 := ctI_r (fun z => isO (σ 6 z 0) 2) 0 (σ 0 0 6 - 0).toNat
  have a3 := ctI_r (fun z => σ 2 z 1 ≠ -1) 0 6
  have a4 := ctI_r (fun z => σ 4 z 1 ≠ -1) 0 4
  have a5 := ctI_r (fun z => σ 7 z 3 ≠ 0) 0 3
  unfold rC_count
  (repeat' split) <;> omega
theorem oTn_r {σ : Mm} (hI : IC σ) {c w : Int} (hc : isT σ c) : 0 ≤ oTn σ c w ∧ oTn σ c w ≤ 300000 := by
  obtain ⟨k1, k2, k3, k4⟩ := hI.2.2.2.2.2.2.1 c hc.1 hc.2
  have h2 := hI.2.1
  have h3 := dtD_r (k := σ 6 c 0) (lp := σ 6 c 1) (o := σ 6 c 2) (g := σ 6 c 3) (d := σ 0 0 7) h2.1 k2 k4
  unfold oTn
  (repeat' split) <;> omega
def dgT (σ : Mm) (h : Int) : Nat → Int
  | 0 => h
  | n + 1 => hsI (fun w => oTn σ n w) (dgT σ h n) 5
def dgK (σ : Mm) (h : Int) : Int := hsI (fun k => if σ 7 k 3 = 0 then -1 else σ 7 k 4) h 3
def dgR (σ : Mm) (h : Int) : Nat → Int
  | 0 => h
  | n + 1 => hsI (fun j => σ 3 n j) (31 * dgR σ h n + σ 2 n 1) (σ 2 n 1).toNat
def dgX (σ : Mm) (h : Int) : Nat → Int
  | 0 => h
  | n + 1 => hsI (fun j => σ 5 n j) (31 * dgX σ h n + σ 4 n 1) (σ 4 n 1).toNat
theorem dgT_s {σ : Mm} {h q : Int} (hq : 0 ≤ q) : dgT σ h (q + 1).toNat = hsI (fun w => oTn σ q w) (dgT σ h q.toNat) 5 := by
  rw [show (q + 1).toNat = q.toNat + 1 by omega, dgT, show ((q.toNat : Nat) : Int) = q by omega]
theorem dgR_s {σ : Mm} {h q : Int} (hq : 0 ≤ q) : dgR σ h (q + 1).toNat = hsI (fun j => σ 3 q j) (31 * dgR σ h q.toNat + σ 2 q 1) (σ 2 q 1).toNat := by
  rw [show (q + 1).toNat = q.toNat + 1 by omega, dgR, show ((q.toNat : Nat) : Int) = q by omega]
theorem dgX_s {σ : Mm} {h q : Int} (hq : 0 ≤ q) : dgX σ h (q + 1).toNat = hsI (fun j => σ 5 q j) (31 * dgX σ h q.toNat + σ 4 q 1) (σ 4 q 1).toNat := by
  rw [show (q + 1).toNat = q.toNat + 1 by omega, dgX, show ((q.toNat : Nat) : Int) = q by omega]
def rC_digest (σ : Mm) : Int := dgX σ (dgR σ (dgK σ (dgT σ (hsI (fun w => rC_count σ w) 17 7) (σ 0 0 6).toNat)) 6) 4
def rC_left (σ : Mm) (c r : Int) : Int := if ¬ isT σ c ∨ ¬ (0 ≤ r ∧ r < 6) then -1 else tCut (σ 6 c 0) * σ 6 c 3
def mC_left (σ : Mm) (c r : Int) : Mm := if ¬ isT σ c ∨ ¬ (0 ≤ r ∧ r < 6) then σ else mRw σ r (tCut (σ 6 c 0) * σ 6 c 3) (fun j => dtC (σ 6 c 0) (σ 6 c 1) (σ 6 c 2 + j + (if j < σ 6 c 3 then 0 else 1000)))
