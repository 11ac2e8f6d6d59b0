def gdI (a b : Int) : Int := (Int.gcd a b : Nat)
theorem gdI_s {x y : Int} (hx : 0 ≤ x) (hy : 0 < y) : Int.gcd y (x % y) = Int.gcd x y := by
  obtain ⟨m, rfl⟩ : ∃ m : Nat, x = m := ⟨x.toNat, by omega⟩
  obtain ⟨k, rfl⟩ : ∃ k : Nat, y = k := ⟨y.toNat, by omega⟩
  rw [← Int.natCast_emod, Int.gcd_natCast_natCast, Int.gcd_natCast_natCast, Nat.gcd_comm m k, Nat.gcd_rec k m, Nat.gcd_comm]
theorem gdI_0 {x : Int} (hx : 0 ≤ x) : (Int.gcd x 0 : Int) = x := by
  obtain ⟨m, rfl⟩ : ∃ m : Nat, x = m := ⟨x.toNat, by omega⟩
  rw [show (0 : Int) = ((0 : Nat) : Int) from rfl, Int.gcd_natCast_natCast, Nat.gcd_zero_right]
theorem gdI_r {a b : Int} (hb : 0 < b) : 1 ≤ gdI a b ∧ gdI a b ≤ b := by
  have h1 := Int.gcd_pos_of_ne_zero_right a (b := b) (by omega)
  have h2 := Int.gcd_dvd_right a b
  have h3 := Int.le_of_dvd hb h2
  unfold gdI
  omega
/-- how Euclid's numbers fall -/
theorem eu_s {x y c : Int} {n : Nat} (hx : 0 ≤ x) (hy : 0 < y) (h1 : y ≤ x) (h : x * y * 2 ^ n ≤ c) : y * (x % y) * 2 ^ (n + 1) ≤ c := by
  have e : x = x % y + y * (x / y) := (Int.emod_add_mul_ediv x y).symm
  have h2 : 1 ≤ x / y := by
    have := Int.ediv_le_ediv hy h1
    rw [Int.ediv_self (by omega)] at this
    exact this
  have h3 : y * 1 ≤ y * (x / y) := Int.mul_le_mul_of_nonneg_left h2 (by omega)
  have h4 := Int.emod_lt_of_pos x hy
  have h5 : 2 * (x % y) ≤ x := by omega
  have h6 : y * (2 * (x % y)) ≤ y * x := Int.mul_le_mul_of_nonneg_left h5 (by omega)
  have p : (0 : Int) ≤ 2 ^ n := Int.le_of_lt (Int.pow_pos (by decide))
  have h7 : y * (2 * (x % y)) * 2 ^ n ≤ y * x * 2 ^ n := Int.mul_le_mul_of_nonneg_right h6 p
  rw [Int.pow_succ]
  have e2 : y * (x % y) * (2 ^ n * 2) = y * (2 * (x % y)) * 2 ^ n := by
    rw [Int.mul_comm (2 ^ n) 2, ← Int.mul_assoc, Int.mul_comm 2 (x % y), ← Int.mul_assoc]
  rw [e2]
  rw [Int.mul_comm y x] at h7
  omega
theorem eu_0 {x y : Int} (hy : x < y) (hx : 0 ≤ x) : y * (x % y) * 2 ^ (0 + 1) ≤ 2 * (x * y) := by
  rw [Int.emod_eq_of_lt hx hy, Int.mul_comm y x]
  have : (2 : Int) ^ (0 + 1) = 2 := rfl
  rw [this]
  omega
theorem eu_e {x y c : Int} (hx : 0 < x) (hy : 0 < y) (h : x * y * 2 ^ 100 ≤ c) (hc : c < 2 ^ 100) : False := by
  have h1 : 0 < x * y := Int.mul_pos hx hy
  have h2 : 1 * (2 : Int) ^ 100 ≤ x * y * 2 ^ 100 := Int.mul_le_mul_of_nonneg_right (by omega) (by decide)
  omega
def mFr (σ : Mm) (a b : Int) : Mm := up (up σ 0 0 9 (Int.tdiv a (gdI a b))) 0 0 10 (Int.tdiv b (gdI a b))
/-- places of a row come to another's -/
def mCpy (σ : Mm) (r x y j n : Int) : Mm := fun t i b => if t = 3 ∧ i = y ∧ j ≤ b ∧ b < j + n then σ 3 r (x + (b - j)) else σ t i b
theorem sCpy {Γ : Gm} {σ : Mm} {r x y j n : Int} (h : 0 ≤ y ∧ y < 6) : (gw Γ σ).set (12 + y.toNat) (aPl Γ y, .inl (Γ.2.2.1 0, 40, .inl (fun b : Nat => zI (mCpy σ r x y j n 3 y (b : Int))))) = gw Γ (mCpy σ r x y j n) := by
  rcases (show y = 0 ∨ y = 1 ∨ y = 2 ∨ y = 3 ∨ y = 4 ∨ y = 5 by omega) with rfl | rfl | rfl | rfl | rfl | rfl <;> rfl
theorem cpy_fun {σ : Mm} {r x y j n : Int} (h : 0 ≤ x ∧ 0 ≤ j ∧ 0 ≤ n) : va_cpy (fun b : Nat => zI (σ 3 r (b : Int))) (fun b : Nat => zI (σ 3 y (b : Int))) x.toNat j.toNat n.toNat = fun b : Nat => zI (mCpy σ r x y j n 3 y (b : Int)) := by
  funext b
  unfold va_cpy mCpy
  by_cases c : j ≤ b ∧ (b : Int) < j + n
  · rw [if_pos (by omega), if_pos ⟨rfl, rfl, c⟩]
    show zI (σ 3 r ((x.toNat + (b - j.toNat) : Nat) : Int)) = _
    rw [show ((x.toNat + (b - j.toNat) : Nat) : Int) = x + (b - j) by omega]
  · rw [if_neg (by omega), if_neg (fun z => c z.2.2)]
section ZY
variable {p : Program} {l : Launch} {e : Env} {R : Room} {s : State} {m : MethodId} {args : Array Value} {below : List Frame} {meth : Method} {c : Code} {H : Heap} {locs : List Loc} {cells slots : Nat} {Q : State → Prop}
variable {own : String} {cc : ByteArray} {nL : Nat} {pc : Nat} {ls : Array Slot} {rest : List Value} {Γ : Gm} {A : Nat → Prop} {σ : Mm} {index : Nat}
theorem zr_copy (C : CallFix p m c cc nL s args tb own) (hG : GM Γ A σ s H locs) {r x y j n : Int} (hr : 0 ≤ r ∧ r < 6) (hy : 0 ≤ y ∧ y < 6) (h : (0 ≤ x ∧ 0 ≤ j ∧ 0 ≤ n) ∧ x + n ≤ 40 ∧ j + n ≤ 40) (hl : Cond.methodLink own index ⟨"java/lang/System", "arraycopy", "(Ljava/lang/Object;ILjava/lang/Object;II)V"⟩ ∈ tb) (hR : 1 ≤ R.frames ∧ (rest.map fun v => v.category).sum + (7 + 11) ≤ R.locals) (hls : ls.size = nL) (hd : decode cc pc = .ok (.invokestatic index, 3))
    (k : ∀ (H1 : Heap) (locs1 : List Loc), GM Γ A (mCpy σ r x y j n) s H1 locs1 → W p l e R s m args below meth c H1 locs1 cells slots Q (F0 m (pc + 3) ls rest)) : W p l e R s m args below meth c H locs cells slots Q (F0 m pc ls (.int (zI n) :: .int (zI j) :: .ref (aPl Γ y) :: .int (zI x) :: .ref (aPl Γ r) :: rest)) := by
  have hts := C.2.2.2.2
  have nz : ∀ z : Int, 0 ≤ z ∧ z < 2147483648 → ¬ zI z < 0 := fun z hz => by
    rw [zI_0, zI_lt ⟨by omega, by omega⟩]
    omega
  have c1 := zI_cl (z := x) (by omega)
  have c2 := zI_cl (z := j) (by omega)
  have c3 := zI_cl (z := n) (by omega)
  refine va_copyi (ty := .int) C.1 C.2.1 (C.2.2.1.trans hls.symm) C.2.2.2.1 (hts _ hl) (hts _ wt_System_arraycopy) (hts _ ws_System_arraycopy) (hts _ wn_J10) hG.1 hG.2.1 hG.2.2.1 hG.2.2.2.1 _ _ 0 0 (pPl hr) (pPl hy) rfl rfl rfl (nz x (by omega)) (nz j (by omega)) (nz n (by omega)) (by omega) (by omega) (fun _ _ => rfl) hR.1 hR.2 hd (fun H1 l1 p1 d1 s1 => k H1 l1 ?_)
  rw [c1, c2, c3, cpy_fun h.1, sCpy hy] at p1 d1
  exact ⟨hG.1, p1, d1, s1, hG.2.2.2.2⟩
end ZY
def rC_rent (σ : Mm) (c v a b : Int) : Int := if ¬ isT σ c ∨ ¬ (0 ≤ v ∧ v ≤ 9999) ∨ ¬ (0 ≤ a ∧ a ≤ b ∧ b ≤ 19999) ∨ 400 < b - a then -1 else 1
def mC_rent (σ : Mm) (c v a b : Int) : Mm := if ¬ isT σ c ∨ ¬ (0 ≤ v ∧ v ≤ 9999) ∨ ¬ (0 ≤ a ∧ a ≤ b ∧ b ≤ 19999) ∨ 400 < b - a then σ else mFr σ (v * ((b - a - (ctI (fun z => lenY (σ 6 c 0) (σ 6 c 1) (dtD (σ 6 c 0) (σ 6 c 1) (σ 6 c 2) (σ 6 c 3) z / 1000) = 101) a (b - a).toNat)) * 101 + (ctI (fun z => lenY (σ 6 c 0) (σ 6 c 1) (dtD (σ 6 c 0) (σ 6 c 1) (σ 6 c 2) (σ 6 c 3) z / 1000) = 101) a (b - a).toNat) * shL (σ 6 c 0))) (shL (σ 6 c 0) * 101)
def rC_copy (σ : Mm) (r x y j n : Int) : Int := if ¬ (0 ≤ r ∧ r < 6) ∨ ¬ (0 ≤ y ∧ y < 6) then -1 else if n < 0 then -3 else if σ 2 r 1 = -1 ∨ σ 2 y 1 = -1 then -3 else if ¬ (0 ≤ x ∧ x + n ≤ σ 2 r 1) ∨ ¬ (0 ≤ j ∧ j + n ≤ σ 2 y 1) then -3 else 1
def mC_copy (σ : Mm) (r x y j n : Int) : Mm := if ¬ (0 ≤ r ∧ r < 6) ∨ ¬ (0 ≤ y ∧ y < 6) then σ else if n < 0 then mFd σ 5 else if σ 2 r 1 = -1 ∨ σ 2 y 1 = -1 then mFd σ 1 else if ¬ (0 ≤ x ∧ x + n ≤ σ 2 r 1) ∨ ¬ (0 ≤ j ∧ j + n ≤ σ 2 y 1) then mFd σ 2 else mCpy σ r x y j n
