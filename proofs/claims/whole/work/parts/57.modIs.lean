/-- A CONTRACT OF THE REFERENCE: it returns ov, and the memory is one of which Φ holds -/
def gQp (Γ : Gm) (A : Nat → Prop) (ov : Option Value) (Φ : Mm → Prop) : Array Value → State → Outcome → State → Prop := fun _ st oc t => (∃ σ2 : Mm, Φ σ2 ∧ oc = .returned ov ∧ va_P Γ.1 clsG (gw Γ σ2) t.heap ∧ va_D A (gw Γ σ2)) ∧ va_F A st t
def Fp (Γ : Gm) (l : Launch) (A : Nat → Prop) (y : MethodName) (b : ByteArray) (nL : Nat) (ret : Option FieldType) (fr lc : Nat) (av : List Value) (σ : Mm) (ov : Option Value) (Φ : Mm → Prop) : Prop :=
  Met l y (.code y b nL ret :: tb) { frames := fr, cells := 0, slots := 0, locals := lc } (va_Pc av (GP Γ A σ)) (gQp Γ A ov Φ) 0 0 A
def CRp (Γ : Gm) (A : Nat → Prop) (s : State) (args : Array Value) (below : List Frame) (meth : Method) (Q : State → Prop) (ret : Option FieldType) (ov : Option Value) (Φ : Mm → Prop) : Prop := meth.sig.returnType = ret ∧ meth.locks = false ∧ Q = MQ below (gQp Γ A ov Φ) args s 0 0 A
theorem Fp_of {Γ : Gm} {l : Launch} {A : Nat → Prop} {y : MethodName} {b : ByteArray} {nL : Nat} {ret : Option FieldType} {fr lc : Nat} {av : List Value} {σ : Mm} {ov : Option Value} {Φ : Mm → Prop} (hy : plainName y.cls = true) (hlen : (lg_sl av).length ≤ nL)
    (body : ∀ (p : Program) (e : Env) (s : State) (m : MethodId) (args : Array Value) (below : List Frame) (meth : Method) (c : Code) (Q : State → Prop) (H : Heap) (locs : List Loc) (ls : Array Slot), CallFix p m c b nL s args tb y.cls → CRp Γ A s args below meth Q ret ov Φ → GM Γ A σ s H locs → lv_has ls nL (lv_args 0 av) →
      W p l e { frames := fr, cells := 0, slots := 0, locals := lc } s m args below meth c H locs 0 0 Q (F0 m 0 ls [])) : Fp Γ l A y b nL ret fr lc av σ ov Φ := by
  refine Met.ofW (cc := b) (maxL := nL) (ret := ret) hy rfl ?_
  intro p e s m args below meth c s₁ B hml hv
  obtain ⟨rfl, hK, hP, hD, hT, hN⟩ := hv
  have hts := atoms_spec (ws := Cond.code y b nL ret :: tb) B.pre
  have hl := lv_entry av (n := nL) hlen
  rw [lg_entry_eq]
  exact body p e s m av.toArray below meth c _ s.heap [] _ ⟨B.exec, B.bytes, hml, findClass_of_methodNamed B.named, fun w hw => hts w (List.mem_cons_of_mem _ hw)⟩ ⟨B.returns, B.notSynchronized, rfl⟩ ⟨hK, hP, hD, va_S.rf, hT, hN⟩ hl
section ZP
variable {p : Program} {l : Launch} {e : Env} {R : Room} {s : State} {m : MethodId} {args : Array Value} {below : List Frame} {meth : Method} {c : Code} {H : Heap} {locs : List Loc} {cells slots : Nat} {Q : State → Prop}
variable {own : String} {cc : ByteArray} {nL : Nat} {pc : Nat} {ls : Array Slot} {rest : List Value} {Γ : Gm} {A : Nat → Prop} {σ : Mm} {Φ : Mm → Prop} {index : Nat} {v z : Int}
variable {ret : Option FieldType} {ov : Option Value} {y : MethodName} {b' : ByteArray} {nL' : Nat} {ret' : Option FieldType} {fr lc n : Nat} {As : List Value} {st : List Value} {a : Nat}
theorem zp_after {a : Array Value} (hG : GM Γ A σ s H locs) (hr : va_Run p l e R s m args below meth c H locs cells slots 0 0 (F0 m pc ls st) rest (gQp Γ A ov Φ a) A)
    (kk : ∀ (σ2 : Mm) (H1 : Heap) (locs1 : List Loc), Φ σ2 → GM Γ A σ2 s H1 locs1 → W p l e R s m args below meth c H1 locs1 cells slots Q (F0 m (pc + 3) ls (ov.toList ++ rest))) : W p l e R s m args below meth c H locs cells slots Q (F0 m pc ls st) := by
  intro T hT X
  obtain ⟨v, st₀, t, T', L, h0, X', hL, e1, e2, ⟨⟨σ2, hr1, hv, hp, hd⟩, hz, hk⟩, st⟩ := hr T hT X
  cases hv
  rw [h0] at hz hk
  have hS := hG.2.2.2.1
  have hS1 : va_S A s.heap T'.heap (locs ++ L) := ⟨Nat.le_trans hS.1 (by rw [e1]; exact hz), fun q h1 h2 => by rw [e1, hk q (Nat.lt_of_lt_of_le h1 hS.1) h2]; exact hS.2.1 q h1 h2, fun q hq => by
      rcases List.mem_append.mp hq with h | h
      · exact hS.2.2 q h
      · exact hL q h⟩
  obtain ⟨t2, a1, b1⟩ := kk σ2 T'.heap (locs ++ L) hr1 ⟨hG.1, by rw [e1]; exact hp, hd, hS1, hG.2.2.2.2⟩ T' rfl X'
  exact ⟨t2, st t2 a1, b1⟩
theorem zp_callV (C : CallFix p m c cc nL s args tb own) (hG : GM Γ A σ s H locs) (hM : Fp Γ l A y b' nL' ret' fr lc (.ref a :: As) σ ov Φ) (hm : MTv y b' nL' ret' n) (hl : Cond.methodLink own index y ∈ tb) {q0 ci : Nat} {fs : List Value} {q : vw_C} (he : (gw Γ σ)[q0]? = some (a, .inr (ci, fs))) (hc : clsG[ci]? = some q) (hq : q.1 = y.cls)
    (hR : fr + 1 ≤ R.frames ∧ 8 + (nL' + 11) + lc ≤ R.locals) (hn : As.length = n) (hls : ls.size = nL) (hst : st = As.reverse ++ .ref a :: rest) (hrest : (rest.map fun v => v.category).sum ≤ 8) (hd : decode cc pc = .ok (.invokevirtual index, 3)) (hf : cells + 0 ≤ R.cells ∧ slots + 0 ≤ R.slots)
    (kk : ∀ (σ2 : Mm) (H1 : Heap) (locs1 : List Loc), Φ σ2 → GM Γ A σ2 s H1 locs1 → W p l e R s m args below meth c H1 locs1 cells slots Q (F0 m (pc + 3) ls (ov.toList ++ rest))) : W p l e R s m args below meth c H locs cells slots Q (F0 m pc ls st) := by
  have hts := C.2.2.2.2
  have cb : CallB R s args own index y b' nL' ret' (.code y b' nL' ret' :: tb) { frames := fr, cells := 0, slots := 0, locals := lc } 0 0 n := callB_of n hts (tb_cons hm.1) rfl rfl rfl (hts _ hm.2.1) (hts _ hl) ⟨hm.2.2.2.2.1.1, hm.2.2.2.2.1.2, hm.2.2.2.2.2⟩ hR
  refine zp_after hG (va_runV (C := q.1) (As := As) (b := a) C hM ⟨cb, hts _ hm.2.2.1, by rw [hq]; exact hts _ hm.2.2.2.1⟩ ⟨GP.blind, va_recv hG.1 hG.2.1 hc he, fun U hU hW => ⟨rfl, hG.pre U hU hW⟩⟩ rfl hn hls hst (lv_room hrest) hd hf) kk
theorem zp_iret (C : CallFix p m c cc nL s args tb own) (K : CRp Γ A s args below meth Q (some .int) (some (.int (zI v))) Φ) (hG : GM Γ A σ s H locs) (hd : decode cc pc = .ok (.ireturn, 1)) (hv : v = z) (hr : Φ σ) : W p l e R s m args below meth c H locs 0 0 Q (F0 m pc ls [.int (zI z)]) := by
  obtain ⟨hr1, hk, hQ⟩ := K
  subst hQ; subst hv
  exact W.iret C.1 C.2.1 hr1 (fun t ht hW => ⟨⟨σ, hr, rfl, by rw [ht]; exact hG.2.1, hG.2.2.1⟩, hG.2.2.2.1.F ht⟩) hG.2.2.2.1.2.2 hd hk
theorem zp_zret (C : CallFix p m c cc nL s args tb own) (K : CRp Γ A s args below meth Q (some .boolean) (some (.int (zI v))) Φ) (hG : GM Γ A σ s H locs) (hd : decode cc pc = .ok (.ireturn, 1)) (hv : v = z) (hz : z = 0 ∨ z = 1) (hr : Φ σ) : W p l e R s m args below meth c H locs 0 0 Q (F0 m pc ls [.int (zI z)]) := by
  obtain ⟨hr1, hk, hQ⟩ := K
  subst hQ; subst hv
  have hn : narrow .boolean (.int (zI v)) = .int (zI v) := by rcases hz with rfl | rfl <;> decide +kernel
  exact W.zret C.1 C.2.1 hr1 hn (fun t ht hW => ⟨⟨σ, hr, rfl, by rw [ht]; exact hG.2.1, hG.2.2.1⟩, hG.2.2.2.1.F ht⟩) hG.2.2.2.1.2.2 hd hk
end ZP
/-! the reference reads a text -/
def hrI (f : Int → Int) (n x : Int) : Int := if x < n then f x else -9
theorem hr_1 {f : Int → Int} {n x : Int} (h : x < n) : hrI f n x = f x := by unfold hrI; rw [if_pos h]
theorem hr_r {τ : Mm} (hI : IC τ) {t x : Int} (ht : 0 ≤ t ∧ t < 4) (hx : 0 ≤ x ∧ x ≤ 67) : -128 ≤ hrI (fun q => τ 5 t q) (τ 4 t 1) x ∧ hrI (fun q => τ 5 t q) (τ 4 t 1) x < 128 := by
  have h1 := hI.2.2.2.2.1 t ht.1 ht.2
  unfold hrI
  split
  · exact hI.2.2.2.2.2.1 t x ht.1 ht.2 hx.1 (by omega)
  · omega
def fgI (f : Int → Int) (n lo x : Int) : Int := if lo ≤ hrI f n x - 48 ∧ hrI f n x - 48 ≤ 9 then hrI f n x - 48 else -9
theorem fg_1 {f : Int → Int} {n lo x : Int} (h : fgI f n lo x ≠ -9) (hl : 0 ≤ lo) : x < n ∧ fgI f n lo x = f x - 48 ∧ lo ≤ f x - 48 ∧ f x - 48 ≤ 9 := by
  unfold fgI hrI at *
  by_cases q : x < n
  · rw [if_pos q] at h ⊢
    split at h
    · rename_i q2
      rw [if_pos q2]
      exact ⟨q, rfl, q2⟩
    · exact absurd rfl h
  · rw [if_neg q, if_neg (by omega)] at h
    exact absurd rfl h
theorem fg_0 {f : Int → Int} {n lo x : Int} (h : fgI f n lo x = -9) (hl : 0 ≤ lo) : n ≤ x ∨ ¬ (lo ≤ f x - 48 ∧ f x - 48 ≤ 9) := by
  unfold fgI hrI at h
  by_cases q : x < n
  · rw [if_pos q] at h
    split at h
    · omega
    · rename_i q2
      exact Or.inr q2
  · exact Or.inl (by omega)
theorem fg_r (f : Int → Int) (n lo x : Int) : fgI f n lo x = -9 ∨ (lo ≤ fgI f n lo x ∧ fgI f n lo x ≤ 9) := by
  unfold fgI
  split
  · right; assumption
  · left; rfl
def mFg (σ : Mm) (x v : Int) : Mm := if v = -9 then σ else up σ 20 0 16 (x + 1)
theorem mFg_1 {σ : Mm} {x v w : Int} (h : v ≠ -9) (e : w = x + 1) : mFg σ x v = up σ 20 0 16 w := by unfold mFg; rw [if_neg h, e]
theorem mFg_0 {σ : Mm} {x v : Int} (h : v = -9) : mFg σ x v = σ := by unfold mFg; rw [if_pos h]
theorem fo_t {f : Int → Int} {n x : Int} (k : Nat) (p q : Int) (hq : q = p + 1) (h1 : x + p < n) (h2 : ftP (f (x + p)) p) : foP f n x (k + 1) p = foP f n x k q := by
  rw [foP, if_neg (by omega), if_pos h2, hq]
theorem fo_f {f : Int → Int} {n x : Int} (k : Nat) (p : Int) (h : n ≤ x + p ∨ ¬ ftP (f (x + p)) p) (hn : x + p ≤ n) : foP f n x (k + 1) p = x + p := by
  rw [foP]
  by_cases q : n ≤ x + p
  · rw [if_pos q]
    omega
  · rcases h with h | h
    · exact absurd h q
    · rw [if_neg q, if_neg h]
theorem fo_len {f : Int → Int} {n s : Int} (hs : 0 ≤ s) (hn : 0 ≤ n) : ∀ (k : Nat) (p : Int), 0 ≤ p → foP f n s k p = -9 → k = 0 ∨ s + p + k ≤ n
  | 0, _, _, _ => Or.inl rfl
  | k + 1, p, hp, h => by
    rw [foP] at h
    split at h
    · omega
    · split at h
      · have := fo_len hs hn k (p + 1) (by omega) h
        omega
      · omega
theorem fo_k {f : Int → Int} {n x : Int} (hs : 0 ≤ x) (hn : 0 ≤ n) (h : foI f n x = -9) : kdB (f x) ≠ -9 ∧ x + 7 ≤ n := by
  have h2 := fo_len hs hn 7 0 (by omega) h
  refine ⟨?_, by omega⟩
  unfold foI at h
  rw [foP, if_neg (by omega)] at h
  split at h
  · rename_i q
    rw [show x + 0 = x by omega] at q
    omega
  · omega
/-- all but where the reading stands is the same -/
def sP (σ σ2 : Mm) : Prop := ∀ (t : Nat) (i j : Int), t ≠ 31 → ¬ (t = 20 ∧ (j = 16 ∨ j = 17)) → σ2 t i j = σ t i j
theorem sP_r (σ : Mm) : sP σ σ := fun _ _ _ _ _ => rfl
theorem sP_31 {σ σ2 : Mm} {i j v : Int} (h : sP σ σ2) : sP σ (up σ2 31 i j v) := fun t a b h1 h2 => by
  rw [up_t h1]
  exact h t a b h1 h2
theorem sP_16 {σ σ2 : Mm} {v : Int} (h : sP σ σ2) : sP σ (up σ2 20 0 16 v) := fun t a b h1 h2 => by
  have : up σ2 20 0 16 v t a b = σ2 t a b := by
    unfold up
    rw [if_neg (by omega)]
  rw [this]
  exact h t a b h1 h2
theorem sP_17 {σ σ2 : Mm} {v : Int} (h : sP σ σ2) : sP σ (up σ2 20 0 17 v) := fun t a b h1 h2 => by
  have : up σ2 20 0 17 v t a b = σ2 t a b := by
    unfold up
    rw [if_neg (by omega)]
  rw [this]
  exact h t a b h1 h2
theorem sC_sP {σ σ2 : Mm} (h : sP σ σ2) : sC σ σ2 := fun t i j ht => h t i j (by omega) (by omega)
theorem rl_sP {τ σ σ2 : Mm} (h : Rel2 τ σ) (k : sP σ σ2) : Rel2 τ σ2 := by
  obtain ⟨⟨a1, a2, a3, a4, a5, a6⟩, h2, h3, h4, h5, h6, h7, h8⟩ := h
  refine ⟨⟨?_, ?_, ?_, ?_, ?_, ?_⟩, fun a b c => ?_, fun a b c => ?_, fun a b c d e f => ?_, fun a b c => ?_, fun a b c d e f => ?_, fun a b c => ?_, fun a b c => ⟨?_, fun z c d e => ?_⟩⟩
  · rw [k 20 0 0 (by decide) (by decide)]; exact a1
  · rw [k 20 0 2 (by decide) (by decide)]; exact a2
  · rw [k 20 0 3 (by decide) (by decide)]; exact a3
  · rw [k 20 0 4 (by decide) (by decide)]; exact a4
  · rw [k 20 0 10 (by decide) (by decide)]; exact a5
  · rw [k 20 0 11 (by decide) (by decide)]; exact a6
  · rw [k 21 0 a (by decide) (by omega)]; exact h2 a b c
  · rw [k 22 0 a (by decide) (by omega)]; exact h3 a b c
  · rw [k 23 0 _ (by decide) (by omega)]; exact h4 a b c d e f
  · rw [k 25 0 a (by decide) (by omega)]; exact h5 a b c
  · rw [k 26 0 _ (by decide) (by omega)]; exact h6 a b c d e f
  · rw [k 27 0 a (by decide) (by omega), k 28 0 a (by decide) (by omega), k 29 0 a (by decide) (by omega), k 30 0 a (by decide) (by omega)]; exact h7 a b c
  · rw [k 32 0 _ (by decide) (by omega)]; exact (h8 a b (by assumption)).1
  · rw [k 32 0 _ (by decide) (by omega), k 32 0 _ (by decide) (by omega), k 32 0 _ (by decide) (by omega)]; exact (h8 a b (by assumption)).2 z c d e
/-- what readsTown does -/
def phT (f : Int → Int) (n x u : Int) (σ σ2 : Mm) : Prop := sP σ σ2 ∧
  ((u ≠ 5 ∧ foI f n x = -9) → σ2 20 0 16 = x + 7 ∧ σ2 20 0 17 = u + 1 ∧ (∀ j, 0 ≤ j → j < 4 * u → σ2 31 0 j = σ 31 0 j) ∧ σ2 31 0 (4 * u) = kdB (f x) ∧ σ2 31 0 (4 * u + 1) = f (x + 1) - 48 ∧ σ2 31 0 (4 * u + 2) = odr f x ∧ σ2 31 0 (4 * u + 3) = f (x + 6) - 48) ∧
  (¬ (u ≠ 5 ∧ foI f n x = -9) → σ2 20 0 16 = if u = 5 then x else foI f n x)
def goK (f : Int → Int) (n : Int) (τ σ : Mm) : Prop := ∃ (k : Nat) (ρ : Mm), 60 < σ 20 0 16 + k ∧ ffI f n = ffG f n k (σ 20 0 16) (σ 20 0 17) ∧ rdC f n 61 0 0 = rdC f n k (σ 20 0 16) (σ 20 0 17) ∧ rdM f n 61 0 0 τ = rdM f n k (σ 20 0 16) (σ 20 0 17) ρ ∧ ∀ c : Int, 0 ≤ c → c < σ 20 0 17 → σ 31 0 (4 * c) = ρ 6 c 0 ∧ σ 31 0 (4 * c + 1) = ρ 6 c 1 ∧ σ 31 0 (4 * c + 2) = ρ 6 c 2 ∧ σ 31 0 (4 * c + 3) = ρ 6 c 3
theorem go_0 (f : Int → Int) (n : Int) (τ σ : Mm) : goK f n τ (up (up σ 20 0 16 0) 20 0 17 0) := by
  refine ⟨61, τ, ?_, rfl, rfl, rfl, fun c h1 h2 => ?_⟩
  · show (60 : Int) < 0 + ((61 : Nat) : Int)
    omega
  · have h3 : c < (0 : Int) := h2
    omega
theorem go_b {f : Int → Int} {n : Int} {τ σ : Mm} (h : goK f n τ σ) (hx : σ 20 0 16 < n) (hn : n ≤ 60) (hf : f (σ 20 0 16) = 32) : goK f n τ (up σ 20 0 16 (σ 20 0 16 + 1)) := by
  obtain ⟨k, ρ, h1, h2, h3, h4, h5⟩ := h
  obtain ⟨k, rfl⟩ : ∃ m, k = m + 1 := ⟨k - 1, by omega⟩
  refine ⟨k, ρ, ?_, ?_, ?_, ?_, h5⟩
  · show 60 < σ 20 0 16 + 1 + (k : Int)
    omega
  · show ffI f n = ffG f n k (σ 20 0 16 + 1) (σ 20 0 17)
    rw [h2, ffG, if_neg (by omega), if_pos hf]
  · show rdC f n 61 0 0 = rdC f n k (σ 20 0 16 + 1) (σ 20 0 17)
    rw [h3, rdC]
    split
    · first | rfl | rw [if_pos hf]
    · rw [rdC_e (by omega)]
  · show rdM f n 61 0 0 τ = rdM f n k (σ 20 0 16 + 1) (σ 20 0 17) ρ
    rw [h4, rdM]
    split
    · first | rfl | rw [if_pos hf]
    · rw [rdM_e (by omega)]
theorem go_t {f : Int → Int} {n : Int} {τ σ σ2 : Mm} (h : goK f n τ σ) (hx : 0 ≤ σ 20 0 16 ∧ σ 20 0 16 < n) (hn : n ≤ 60) (hu : 0 ≤ σ 20 0 17 ∧ σ 20 0 17 ≤ 5) (hf : f (σ 20 0 16) ≠ 32) (hp : phT f n (σ 20 0 16) (σ 20 0 17) σ σ2) (hb : σ 20 0 17 ≠ 5 ∧ foI f n (σ 20 0 16) = -9) : goK f n τ σ2 ∧ σ2 20 0 16 = σ 20 0 16 + 7 ∧ σ2 20 0 17 = σ 20 0 17 + 1 ∧ σ 20 0 16 + 7 ≤ n := by
  obtain ⟨k, ρ, h1, h2, h3, h4, h5⟩ := h
  obtain ⟨k, rfl⟩ : ∃ m, k = m + 1 := ⟨k - 1, by omega⟩
  obtain ⟨a1, a2, a3, a4, a5, a6, a7⟩ := hp.2.1 hb
  obtain ⟨b1, b2⟩ := fo_k hx.1 (by omega) hb.2
  refine ⟨⟨k, rdI ρ f (σ 20 0 16) (σ 20 0 17), ?_, ?_, ?_, ?_, fun c c1 c2 => ?_⟩, a1, a2, b2⟩
  · rw [a1]; omega
  · rw [a1, a2, h2, ffG, if_neg (by omega), if_neg hf, if_neg hb.1, if_pos hb.2]
  · rw [a1, a2, h3, rdC, if_pos (by omega), if_neg hf]
  · rw [a1, a2, h4, rdM, if_pos (by omega), if_neg hf]
  · rw [a2] at c2
    by_cases q : c = σ 20 0 17
    · subst q
      rw [a4, a5, a6, a7]
      have hk := kdB_r (f (σ 20 0 16))
      unfold rdI
      refine ⟨?_, ?_, ?_, ?_⟩
      · rw [up_j (by decide), up_j (by decide), up_j (by decide), up_s]
        omega
      · rw [up_j (by decide), up_j (by decide), up_s]
      · rw [up_j (by decide), up_s]
      · rw [up_s]
    · rw [a3 (4 * c) (by omega) (by omega), a3 (4 * c + 1) (by omega) (by omega), a3 (4 * c + 2) (by omega) (by omega), a3 (4 * c + 3) (by omega) (by omega)]
      unfold rdI
      rw [up_i q, up_i q, up_i q, up_i q, up_i q, up_i q, up_i q, up_i q, up_i q, up_i q, up_i q, up_i q, up_i q, up_i q, up_i q, up_i q]
      exact h5 c c1 (by omega)
theorem go_e {f : Int → Int} {n : Int} {τ σ : Mm} (h : goK f n τ σ) (hx : n ≤ σ 20 0 16) : ffI f n = -9 ∧ σ 20 0 17 = rdC f n 61 0 0 ∧ ∀ c : Int, 0 ≤ c → c < rdC f n 61 0 0 → σ 31 0 (4 * c) = rdM f n 61 0 0 τ 6 c 0 ∧ σ 31 0 (4 * c + 1) = rdM f n 61 0 0 τ 6 c 1 ∧ σ 31 0 (4 * c + 2) = rdM f n 61 0 0 τ 6 c 2 ∧ σ 31 0 (4 * c + 3) = rdM f n 61 0 0 τ 6 c 3 := by
  obtain ⟨k, ρ, h1, h2, h3, h4, h5⟩ := h
  rw [rdC_e (x := σ 20 0 16) (u := σ 20 0 17) (by omega) k] at h3
  rw [rdM_e (x := σ 20 0 16) (u := σ 20 0 17) (by omega) k] at h4
  rw [ffG_e hx] at h2
  rw [h3, h4]
  exact ⟨h2, rfl, h5⟩
theorem go_f {f : Int → Int} {n : Int} {τ σ : Mm} (h : goK f n τ σ) (hx : 0 ≤ σ 20 0 16 ∧ σ 20 0 16 < n) (hn : n ≤ 60) (hf : f (σ 20 0 16) ≠ 32) (hb : ¬ (σ 20 0 17 ≠ 5 ∧ foI f n (σ 20 0 16) = -9)) : ffI f n = (if σ 20 0 17 = 5 then σ 20 0 16 else foI f n (σ 20 0 16)) ∧ ffI f n ≠ -9 := by
  obtain ⟨k, ρ, h1, h2, h3, h4, h5⟩ := h
  obtain ⟨k, rfl⟩ : ∃ m, k = m + 1 := ⟨k - 1, by omega⟩
  rw [ffG, if_neg (by omega), if_neg hf] at h2
  rw [h2]
  by_cases q : σ 20 0 17 = 5
  · rw [if_pos q, if_pos q]
    exact ⟨rfl, by omega⟩
  · have q2 : foI f n (σ 20 0 16) ≠ -9 := fun z => hb ⟨q, z⟩
    rw [if_neg q, if_neg q2, if_neg q]
    exact ⟨rfl, q2⟩
theorem rdC_r (f : Int → Int) (n : Int) : ∀ (k : Nat) (x u : Int), 0 ≤ u → u ≤ 5 → 0 ≤ rdC f n k x u ∧ rdC f n k x u ≤ 5
  | 0, x, u, h1, h2 => by rw [rdC]; omega
  | k + 1, x, u, h1, h2 => by
    rw [rdC]
    split
    · split
      · exact rdC_r f n k _ _ h1 h2
      · exact rdC_r f n k _ _ (by omega) (by omega)
    · exact ⟨h1, h2⟩
theorem rdM_t {f : Int → Int} {n : Int} {t : Nat} (ht : t ≠ 6) (i j : Int) : ∀ (k : Nat) (x u : Int) (σ : Mm), rdM f n k x u σ t i j = σ t i j
  | 0, x, u, σ => by rw [rdM]
  | k + 1, x, u, σ => by
    rw [rdM]
    split
    · split
      · exact rdM_t ht i j k _ _ σ
      · rw [rdM_t ht i j k _ _ _]
        unfold rdI
        rw [up_t ht, up_t ht, up_t ht, up_t ht]
    · rfl
/-- the read towns come in -/
def mAl (σ : Mm) (n q : Int) : Mm := fun t i j => if t = 20 ∧ i = 0 ∧ j = 10 then n else if t = 27 ∧ i = 0 ∧ 0 ≤ j ∧ j < q then σ 31 0 (4 * j) else if t = 28 ∧ i = 0 ∧ 0 ≤ j ∧ j < q then σ 31 0 (4 * j + 1)
  else if t = 29 ∧ i = 0 ∧ 0 ≤ j ∧ j < q then σ 31 0 (4 * j + 2) else if t = 30 ∧ i = 0 ∧ 0 ≤ j ∧ j < q then σ 31 0 (4 * j + 3) else σ t i j
theorem mAl_0 (σ : Mm) (n : Int) : up σ 20 0 10 n = mAl σ n 0 := by
  funext t i j
  unfold mAl up
  by_cases c : t = 20 ∧ i = 0 ∧ j = 10
  · rw [if_pos c, if_pos c]
  · rw [if_neg c, if_neg c, if_neg (by omega), if_neg (by omega), if_neg (by omega), if_neg (by omega)]
theorem mAl_s (σ : Mm) (n q : Int) (h : 0 ≤ q) : up (up (up (up (mAl σ n q) 27 0 q (σ 31 0 (4 * q))) 28 0 q (σ 31 0 (4 * q + 1))) 29 0 q (σ 31 0 (4 * q + 2))) 30 0 q (σ 31 0 (4 * q + 3)) = mAl σ n (q + 1) := by
  funext t i j
  unfold mAl up
  dsimp only
  by_cases c4 : t = 30 ∧ i = 0 ∧ j = q
  · obtain ⟨rfl, rfl, rfl⟩ := c4
    rw [if_pos ⟨rfl, rfl, rfl⟩, if_neg (by omega), if_neg (by omega), if_neg (by omega), if_neg (by omega), if_pos (by omega)]
  · rw [if_neg c4]
    by_cases c3 : t = 29 ∧ i = 0 ∧ j = q
    · obtain ⟨rfl, rfl, rfl⟩ := c3
      rw [if_pos ⟨rfl, rfl, rfl⟩, if_neg (by omega), if_neg (by omega), if_neg (by omega), if_pos (by omega)]
    · rw [if_neg c3]
      by_cases c2 : t = 28 ∧ i = 0 ∧ j = q
      · obtain ⟨rfl, rfl, rfl⟩ := c2
        rw [if_pos ⟨rfl, rfl, rfl⟩, if_neg (by omega), if_neg (by omega), if_pos (by omega)]
      · rw [if_neg c2]
        by_cases c1 : t = 27 ∧ i = 0 ∧ j = q
        · obtain ⟨rfl, rfl, rfl⟩ := c1
          rw [if_pos ⟨rfl, rfl, rfl⟩, if_neg (by omega), if_pos (by omega)]
        · rw [if_neg c1]
          (repeat' split) <;> first | rfl | omega
theorem sC_al {σ0 σ : Mm} {n q : Int} (h : sC σ0 σ) : sC σ0 (mAl σ n q) := fun t i j ht => by
  unfold mAl
  rw [if_neg (by omega), if_neg (by omega), if_neg (by omega), if_neg (by omega), if_neg (by omega)]
  exact h t i j ht
theorem al_1 {σ : Mm} {n q c : Int} (hc : 0 ≤ c ∧ c < q) : mAl σ n q 27 0 c = σ 31 0 (4 * c) ∧ mAl σ n q 28 0 c = σ 31 0 (4 * c + 1) ∧ mAl σ n q 29 0 c = σ 31 0 (4 * c + 2) ∧ mAl σ n q 30 0 c = σ 31 0 (4 * c + 3) := by
  unfold mAl
  refine ⟨?_, ?_, ?_, ?_⟩
  · rw [if_neg (by omega), if_pos (by omega)]
  · rw [if_neg (by omega), if_neg (by omega), if_pos (by omega)]
  · rw [if_neg (by omega), if_neg (by omega), if_neg (by omega), if_pos (by omega)]
  · rw [if_neg (by omega), if_neg (by omega), if_neg (by omega), if_neg (by omega), if_pos (by omega)]
theorem rl_al {τ σ : Mm} {f : Int → Int} {n : Int} (h : Rel2 τ σ) (g : ∀ c : Int, 0 ≤ c → c < rdC f n 61 0 0 → σ 31 0 (4 * c) = rdM f n 61 0 0 τ 6 c 0 ∧ σ 31 0 (4 * c + 1) = rdM f n 61 0 0 τ 6 c 1 ∧ σ 31 0 (4 * c + 2) = rdM f n 61 0 0 τ 6 c 2 ∧ σ 31 0 (4 * c + 3) = rdM f n 61 0 0 τ 6 c 3) :
    Rel2 (up (up (up (up (up (rdM f n 61 0 0 τ) 0 0 6 (rdC f n 61 0 0)) 0 0 7 0) 7 0 3 0) 7 1 3 0) 7 2 3 0) (up (up (up (up (mAl σ (rdC f n 61 0 0) (rdC f n 61 0 0)) 20 0 11 0) 32 0 0 (-9)) 32 0 21 (-9)) 32 0 42 (-9)) := by
  obtain ⟨⟨a1, a2, a3, a4, a5, a6⟩, h2, h3, h4, h5, h6, h7, h8⟩ := h
  have hm : ∀ (t : Nat) (i j : Int), t ≠ 6 → rdM f n 61 0 0 τ t i j = τ t i j := fun t i j ht => rdM_t ht i j 61 0 0 τ
  refine ⟨⟨?_, ?_, ?_, ?_, rfl, rfl⟩, fun a b c => ?_, fun a b c => ?_, fun a b c d e z => ?_, fun a b c => ?_, fun a b c d e z => ?_, fun a b c => ?_, fun k hk1 hk2 => ?_⟩
  · exact a1.trans (hm 0 0 11 (by decide)).symm
  · exact a2.trans (hm 0 0 8 (by decide)).symm
  · exact a3.trans (hm 0 0 9 (by decide)).symm
  · exact a4.trans (hm 0 0 10 (by decide)).symm
  · exact (h2 a b c).trans (hm 1 0 a (by decide)).symm
  · show σ 22 0 a = szM (rdM f n 61 0 0 τ 2 a 1)
    rw [hm 2 a 1 (by decide)]
    exact h3 a b c
  · exact (h4 a b c d e z).trans (hm 3 a b (by decide)).symm
  · show σ 25 0 a = szM (rdM f n 61 0 0 τ 4 a 1)
    rw [hm 4 a 1 (by decide)]
    exact h5 a b c
  · exact (h6 a b c d e z).trans (hm 5 a b (by decide)).symm
  · obtain ⟨e1, e2, e3, e4⟩ := al_1 (σ := σ) (n := rdC f n 61 0 0) (q := rdC f n 61 0 0) (c := a) ⟨b, c⟩
    obtain ⟨g1, g2, g3, g4⟩ := g a b c
    exact ⟨e1.trans g1, e2.trans g2, e3.trans g3, e4.trans g4⟩
  · rcases (show k = 0 ∨ k = 1 ∨ k = 2 by omega) with rfl | rfl | rfl
    · exact ⟨rfl, fun z => absurd rfl z⟩
    · exact ⟨rfl, fun z => absurd rfl z⟩
    · exact ⟨rfl, fun z => absurd rfl z⟩
