/-! the reference's families in σ, held against the class's families in τ -/
def szM (z : Int) : Int := if z < 0 then -9 else z
theorem szM_s (z : Int) : (z < 0 ∧ szM z = -9) ∨ (0 ≤ z ∧ szM z = z) := by unfold szM; split <;> omega
def kpM (a b : Int) : Int := if a = 0 then -9 else b
theorem kpM_s (a b : Int) : (a = 0 ∧ kpM a b = -9) ∨ (a ≠ 0 ∧ kpM a b = b) := by unfold kpM; split <;> omega
def Rel2 (τ σ : Mm) : Prop :=
  (σ 20 0 0 = τ 0 0 11 ∧ σ 20 0 2 = τ 0 0 8 ∧ σ 20 0 3 = τ 0 0 9 ∧ σ 20 0 4 = τ 0 0 10 ∧ σ 20 0 10 = τ 0 0 6 ∧ σ 20 0 11 = τ 0 0 7) ∧
  (∀ f : Int, 1 ≤ f → f ≤ 5 → σ 21 0 f = τ 1 0 f) ∧
  (∀ r : Int, 0 ≤ r → r < 6 → σ 22 0 r = szM (τ 2 r 1)) ∧
  (∀ r j : Int, 0 ≤ r → r < 6 → 0 ≤ j → j < 40 → σ 23 0 (40 * r + j) = τ 3 r j) ∧
  (∀ t : Int, 0 ≤ t → t < 4 → σ 25 0 t = szM (τ 4 t 1)) ∧
  (∀ t j : Int, 0 ≤ t → t < 4 → 0 ≤ j → j < 60 → σ 26 0 (60 * t + j) = τ 5 t j) ∧
  (∀ c : Int, 0 ≤ c → c < τ 0 0 6 → σ 27 0 c = τ 6 c 0 ∧ σ 28 0 c = τ 6 c 1 ∧ σ 29 0 c = τ 6 c 2 ∧ σ 30 0 c = τ 6 c 3) ∧
  (∀ k : Int, 0 ≤ k → k < 3 → σ 32 0 (21 * k) = kpM (τ 7 k 3) (τ 7 k 4) ∧ (τ 7 k 3 ≠ 0 → ∀ c : Int, 0 ≤ c → c < τ 0 0 6 → σ 32 0 (21 * k + 1 + c) = τ 8 k c ∧ σ 32 0 (21 * k + 6 + c) = τ 9 k c ∧ σ 32 0 (21 * k + 11 + c) = τ 10 k c))
/-- the class's families stay -/
def sC (σ σ2 : Mm) : Prop := ∀ (t : Nat) (i j : Int), t < 20 → σ2 t i j = σ t i j
theorem sC_r (σ : Mm) : sC σ σ := fun _ _ _ _ => rfl
theorem sC_t {a b c : Mm} (h : sC a b) (k : sC b c) : sC a c := fun t i j ht => (k t i j ht).trans (h t i j ht)
theorem sC_up {σ σ2 : Mm} {t : Nat} {i j v : Int} (h : sC σ σ2) (ht : 20 ≤ t) : sC σ (up σ2 t i j v) := fun t1 i1 j1 h1 => by
  rw [up_t (by omega)]
  exact h t1 i1 j1 h1
section RL
variable {τ σ : Mm} {v w r x c f : Int}
theorem rl_ask (h : Rel2 τ σ) : Rel2 (up τ 0 0 8 v) (up σ 20 0 2 v) := ⟨⟨h.1.1, rfl, h.1.2.2⟩, h.2⟩
theorem rl_tod (h : Rel2 τ σ) : Rel2 (up τ 0 0 7 v) (up σ 20 0 11 v) := ⟨⟨h.1.1, h.1.2.1, h.1.2.2.1, h.1.2.2.2.1, h.1.2.2.2.2.1, rfl⟩, h.2⟩
theorem rl_upp (h : Rel2 τ σ) : Rel2 (up τ 0 0 9 v) (up σ 20 0 3 v) := ⟨⟨h.1.1, h.1.2.1, rfl, h.1.2.2.2⟩, h.2⟩
theorem rl_low (h : Rel2 τ σ) : Rel2 (up τ 0 0 10 v) (up σ 20 0 4 v) := ⟨⟨h.1.1, h.1.2.1, h.1.2.2.1, rfl, h.1.2.2.2.2⟩, h.2⟩
theorem rl_fd (h : Rel2 τ σ) (hf : 1 ≤ f ∧ f ≤ 5) : Rel2 (mFd τ f) (up (up σ 20 0 0 f) 21 0 f (σ 21 0 f + 1)) := by
  refine ⟨⟨rfl, h.1.2⟩, fun g h1 h2 => ?_, h.2.2⟩
  have e := h.2.1 g h1 h2
  unfold mFd
  by_cases q : g = f
  · subst q
    rw [up_s, up_s, e]
  · rw [up_j q, up_j q, up_t (by decide), up_t (by decide)]
    exact e
theorem rl_row (h : Rel2 τ σ) (hr : 0 ≤ r ∧ r < 6) (hx : 0 ≤ x ∧ x < 40) : Rel2 (up τ 3 r x v) (up σ 23 0 (40 * r + x) v) := by
  refine ⟨h.1, h.2.1, h.2.2.1, fun a j h1 h2 h3 h4 => ?_, h.2.2.2.2⟩
  have e := h.2.2.2.1 a j h1 h2 h3 h4
  by_cases q : a = r ∧ j = x
  · obtain ⟨rfl, rfl⟩ := q
    rw [up_s, up_s]
  · rw [up_j (by omega)]
    unfold up
    rw [if_neg (fun z => q ⟨z.2.1, z.2.2⟩)]
    exact e
theorem rl_sz (h : Rel2 τ σ) (hw : w = szM v) : Rel2 (up τ 2 r 1 v) (up σ 22 0 r w) := by
  refine ⟨h.1, h.2.1, fun a h1 h2 => ?_, h.2.2.2⟩
  have e := h.2.2.1 a h1 h2
  by_cases q : a = r
  · subst q
    rw [up_s, up_s, hw]
  · rw [up_j q, up_i q]
    exact e
theorem rl_len (h : Rel2 τ σ) (hw : w = szM v) : Rel2 (up τ 4 r 1 v) (up σ 25 0 r w) := by
  refine ⟨h.1, h.2.1, h.2.2.1, h.2.2.2.1, fun a h1 h2 => ?_, h.2.2.2.2.2⟩
  have e := h.2.2.2.2.1 a h1 h2
  by_cases q : a = r
  · subst q
    rw [up_s, up_s, hw]
  · rw [up_j q, up_i q]
    exact e
theorem rl_txt (h : Rel2 τ σ) (hr : 0 ≤ r ∧ r < 4) (hx : 0 ≤ x ∧ x < 60) : Rel2 (up τ 5 r x v) (up σ 26 0 (60 * r + x) v) := by
  refine ⟨h.1, h.2.1, h.2.2.1, h.2.2.2.1, h.2.2.2.2.1, fun a j h1 h2 h3 h4 => ?_, h.2.2.2.2.2.2⟩
  have e := h.2.2.2.2.2.1 a j h1 h2 h3 h4
  by_cases q : a = r ∧ j = x
  · obtain ⟨rfl, rfl⟩ := q
    rw [up_s, up_s]
  · rw [up_j (by omega)]
    unfold up
    rw [if_neg (fun z => q ⟨z.2.1, z.2.2⟩)]
    exact e
theorem rl_leap (h : Rel2 τ σ) : Rel2 (up τ 6 c 1 v) (up σ 28 0 c v) := by
  refine ⟨h.1, h.2.1, h.2.2.1, h.2.2.2.1, h.2.2.2.2.1, h.2.2.2.2.2.1, fun a h1 h2 => ?_, h.2.2.2.2.2.2.2⟩
  have e := h.2.2.2.2.2.2.1 a h1 h2
  by_cases q : a = c
  · subst q
    simp [up, e.1, e.2.1, e.2.2.1, e.2.2.2]
  · simp [up, q, e.1, e.2.1, e.2.2.1, e.2.2.2]
theorem rl_ord (h : Rel2 τ σ) : Rel2 (up τ 6 c 2 v) (up σ 29 0 c v) := by
  refine ⟨h.1, h.2.1, h.2.2.1, h.2.2.2.1, h.2.2.2.2.1, h.2.2.2.2.2.1, fun a h1 h2 => ?_, h.2.2.2.2.2.2.2⟩
  have e := h.2.2.2.2.2.2.1 a h1 h2
  by_cases q : a = c
  · subst q
    simp [up, e.1, e.2.1, e.2.2.1, e.2.2.2]
  · simp [up, q, e.1, e.2.1, e.2.2.1, e.2.2.2]
theorem rl_gap (h : Rel2 τ σ) : Rel2 (up τ 6 c 3 v) (up σ 30 0 c v) := by
  refine ⟨h.1, h.2.1, h.2.2.1, h.2.2.2.1, h.2.2.2.2.1, h.2.2.2.2.2.1, fun a h1 h2 => ?_, h.2.2.2.2.2.2.2⟩
  have e := h.2.2.2.2.2.2.1 a h1 h2
  by_cases q : a = c
  · subst q
    simp [up, e.1, e.2.1, e.2.2.1, e.2.2.2]
  · simp [up, q, e.1, e.2.1, e.2.2.1, e.2.2.2]
end RL
/-- A CONTRACT OF THE REFERENCE: it returns ov, and the memory is one that goes with τ' -/
def gQr (Γ : Gm) (A : Nat → Prop) (ov : Option Value) (σ τ' : Mm) : Array Value → State → Outcome → State → Prop := fun _ st oc t => (∃ σ2 : Mm, (Rel2 τ' σ2 ∧ sC σ σ2) ∧ oc = .returned ov ∧ va_P Γ.1 clsG (gw Γ σ2) t.heap ∧ va_D A (gw Γ σ2)) ∧ va_F A st t
def Fr (Γ : Gm) (l : Launch) (A : Nat → Prop) (y : MethodName) (b : ByteArray) (nL : Nat) (ret : Option FieldType) (fr lc : Nat) (av : List Value) (σ : Mm) (ov : Option Value) (τ' : Mm) : Prop :=
  Met l y (.code y b nL ret :: tb) { frames := fr, cells := 0, slots := 0, locals := lc } (va_Pc av (GP Γ A σ)) (gQr Γ A ov σ τ') 0 0 A
def CRr (Γ : Gm) (A : Nat → Prop) (s : State) (args : Array Value) (below : List Frame) (meth : Method) (Q : State → Prop) (ret : Option FieldType) (ov : Option Value) (σ τ' : Mm) : Prop := meth.sig.returnType = ret ∧ meth.locks = false ∧ Q = MQ below (gQr Γ A ov σ τ') args s 0 0 A
theorem Fr_of {Γ : Gm} {l : Launch} {A : Nat → Prop} {y : MethodName} {b : ByteArray} {nL : Nat} {ret : Option FieldType} {fr lc : Nat} {av : List Value} {σ : Mm} {ov : Option Value} {τ' : Mm} (hy : plainName y.cls = true) (hlen : (lg_sl av).length ≤ nL)
    (body : ∀ (p : Program) (e : Env) (s : State) (m : MethodId) (args : Array Value) (below : List Frame) (meth : Method) (c : Code) (Q : State → Prop) (H : Heap) (locs : List Loc) (ls : Array Slot), CallFix p m c b nL s args tb y.cls → CRr Γ A s args below meth Q ret ov σ τ' → GM Γ A σ s H locs → lv_has ls nL (lv_args 0 av) →
      W p l e { frames := fr, cells := 0, slots := 0, locals := lc } s m args below meth c H locs 0 0 Q (F0 m 0 ls [])) : Fr Γ l A y b nL ret fr lc av σ ov τ' := by
  refine Met.ofW (cc := b) (maxL := nL) (ret := ret) hy rfl ?_
  intro p e s m args below meth c s₁ B hml hv
  obtain ⟨rfl, hK, hP, hD, hT, hN⟩ := hv
  have hts := atoms_spec (ws := Cond.code y b nL ret :: tb) B.pre
  have hl := lv_entry av (n := nL) hlen
  rw [lg_entry_eq]
  exact body p e s m av.toArray below meth c _ s.heap [] _ ⟨B.exec, B.bytes, hml, findClass_of_methodNamed B.named, fun w hw => hts w (List.mem_cons_of_mem _ hw)⟩ ⟨B.returns, B.notSynchronized, rfl⟩ ⟨hK, hP, hD, va_S.rf, hT, hN⟩ hl
section ZM
variable {p : Program} {l : Launch} {e : Env} {R : Room} {s : State} {m : MethodId} {args : Array Value} {below : List Frame} {meth : Method} {c : Code} {H : Heap} {locs : List Loc} {cells slots : Nat} {Q : State → Prop}
variable {own : String} {cc : ByteArray} {nL : Nat} {pc : Nat} {ls : Array Slot} {rest : List Value} {Γ : Gm} {A : Nat → Prop} {σ σ0 τ' : Mm} {index : Nat} {v z : Int}
variable {ret : Option FieldType} {ov : Option Value} {y : MethodName} {b' : ByteArray} {nL' : Nat} {ret' : Option FieldType} {fr lc n : Nat} {As : List Value} {st : List Value} {a : Nat}
theorem zm_after {a : Array Value} (hG : GM Γ A σ s H locs) (hr : va_Run p l e R s m args below meth c H locs cells slots 0 0 (F0 m pc ls st) rest (gQr Γ A ov σ τ' a) A)
    (kk : ∀ (σ2 : Mm) (H1 : Heap) (locs1 : List Loc), Rel2 τ' σ2 → sC σ σ2 → GM Γ A σ2 s H1 locs1 → W p l e R s m args below meth c H1 locs1 cells slots Q (F0 m (pc + 3) ls (ov.toList ++ rest))) : W p l e R s m args below meth c H locs cells slots Q (F0 m pc ls st) := by
  intro T hT X
  obtain ⟨v, st₀, t, T', L, h0, X', hL, e1, e2, ⟨⟨σ2, ⟨hr1, hr2⟩, hv, hp, hd⟩, hz, hk⟩, st⟩ := hr T hT X
  cases hv
  rw [h0] at hz hk
  have hS := hG.2.2.2.1
  have hS1 : va_S A s.heap T'.heap (locs ++ L) := ⟨Nat.le_trans hS.1 (by rw [e1]; exact hz), fun q h1 h2 => by rw [e1, hk q (Nat.lt_of_lt_of_le h1 hS.1) h2]; exact hS.2.1 q h1 h2, fun q hq => by
      rcases List.mem_append.mp hq with h | h
      · exact hS.2.2 q h
      · exact hL q h⟩
  obtain ⟨t2, a1, b1⟩ := kk σ2 T'.heap (locs ++ L) hr1 hr2 ⟨hG.1, by rw [e1]; exact hp, hd, hS1, hG.2.2.2.2⟩ T' rfl X'
  exact ⟨t2, st t2 a1, b1⟩
theorem zm_callV (C : CallFix p m c cc nL s args tb own) (hG : GM Γ A σ s H locs) (hM : Fr Γ l A y b' nL' ret' fr lc (.ref a :: As) σ ov τ') (hm : MTv y b' nL' ret' n) (hl : Cond.methodLink own index y ∈ tb) {q0 ci : Nat} {fs : List Value} {q : vw_C} (he : (gw Γ σ)[q0]? = some (a, .inr (ci, fs))) (hc : clsG[ci]? = some q) (hq : q.1 = y.cls)
    (hR : fr + 1 ≤ R.frames ∧ 8 + (nL' + 11) + lc ≤ R.locals) (hn : As.length = n) (hls : ls.size = nL) (hst : st = As.reverse ++ .ref a :: rest) (hrest : (rest.map fun v => v.category).sum ≤ 8) (hd : decode cc pc = .ok (.invokevirtual index, 3)) (hf : cells + 0 ≤ R.cells ∧ slots + 0 ≤ R.slots)
    (kk : ∀ (σ2 : Mm) (H1 : Heap) (locs1 : List Loc), Rel2 τ' σ2 → sC σ σ2 → GM Γ A σ2 s H1 locs1 → W p l e R s m args below meth c H1 locs1 cells slots Q (F0 m (pc + 3) ls (ov.toList ++ rest))) : W p l e R s m args below meth c H locs cells slots Q (F0 m pc ls st) := by
  have hts := C.2.2.2.2
  have cb : CallB R s args own index y b' nL' ret' (.code y b' nL' ret' :: tb) { frames := fr, cells := 0, slots := 0, locals := lc } 0 0 n := callB_of n hts (tb_cons hm.1) rfl rfl rfl (hts _ hm.2.1) (hts _ hl) ⟨hm.2.2.2.2.1.1, hm.2.2.2.2.1.2, hm.2.2.2.2.2⟩ hR
  refine zm_after hG (va_runV (C := q.1) (As := As) (b := a) C hM ⟨cb, hts _ hm.2.2.1, by rw [hq]; exact hts _ hm.2.2.2.1⟩ ⟨GP.blind, va_recv hG.1 hG.2.1 hc he, fun U hU hW => ⟨rfl, hG.pre U hU hW⟩⟩ rfl hn hls hst (lv_room hrest) hd hf) kk
theorem zm_iret (C : CallFix p m c cc nL s args tb own) (K : CRr Γ A s args below meth Q (some .int) (some (.int (zI v))) σ0 τ') (hG : GM Γ A σ s H locs) (hd : decode cc pc = .ok (.ireturn, 1)) (hv : v = z) (hr : Rel2 τ' σ) (hs : sC σ0 σ) : W p l e R s m args below meth c H locs 0 0 Q (F0 m pc ls [.int (zI z)]) := by
  obtain ⟨hr1, hk, hQ⟩ := K
  subst hQ; subst hv
  exact W.iret C.1 C.2.1 hr1 (fun t ht hW => ⟨⟨σ, ⟨hr, hs⟩, rfl, by rw [ht]; exact hG.2.1, hG.2.2.1⟩, hG.2.2.2.1.F ht⟩) hG.2.2.2.1.2.2 hd hk
theorem zm_zret (C : CallFix p m c cc nL s args tb own) (K : CRr Γ A s args below meth Q (some .boolean) (some (.int (zI v))) σ0 τ') (hG : GM Γ A σ s H locs) (hd : decode cc pc = .ok (.ireturn, 1)) (hv : v = z) (hz : z = 0 ∨ z = 1) (hr : Rel2 τ' σ) (hs : sC σ0 σ) : W p l e R s m args below meth c H locs 0 0 Q (F0 m pc ls [.int (zI z)]) := by
  obtain ⟨hr1, hk, hQ⟩ := K
  subst hQ; subst hv
  have hn : narrow .boolean (.int (zI v)) = .int (zI v) := by rcases hz with rfl | rfl <;> decide +kernel
  exact W.zret C.1 C.2.1 hr1 hn (fun t ht hW => ⟨⟨σ, ⟨hr, hs⟩, rfl, by rw [ht]; exact hG.2.1, hG.2.2.1⟩, hG.2.2.2.1.F ht⟩) hG.2.2.2.1.2.2 hd hk
theorem zm_lret (C : CallFix p m c cc nL s args tb own) (K : CRr Γ A s args below meth Q (some .long) (some (.long (zL v))) σ0 τ') (hG : GM Γ A σ s H locs) (hd : decode cc pc = .ok (.lreturn, 1)) (hv : v = z) (hr : Rel2 τ' σ) (hs : sC σ0 σ) : W p l e R s m args below meth c H locs 0 0 Q (F0 m pc ls [.long (zL z)]) := by
  obtain ⟨hr1, hk, hQ⟩ := K
  subst hQ; subst hv
  exact W.lret C.1 C.2.1 hr1 (fun t ht hW => ⟨⟨σ, ⟨hr, hs⟩, rfl, by rw [ht]; exact hG.2.1, hG.2.2.1⟩, hG.2.2.2.1.F ht⟩) hG.2.2.2.1.2.2 hd hk
theorem zm_vret (C : CallFix p m c cc nL s args tb own) (K : CRr Γ A s args below meth Q none none σ0 τ') (hG : GM Γ A σ s H locs) (hd : decode cc pc = .ok (.return_, 1)) (hr : Rel2 τ' σ) (hs : sC σ0 σ) : W p l e R s m args below meth c H locs 0 0 Q (F0 m pc ls []) := by
  obtain ⟨hr1, hk, hQ⟩ := K
  subst hQ
  exact W.vret C.1 C.2.1 hr1 (fun t ht hW => ⟨⟨σ, ⟨hr, hs⟩, rfl, by rw [ht]; exact hG.2.1, hG.2.2.1⟩, hG.2.2.2.1.F ht⟩) hG.2.2.2.1.2.2 hd hk
end ZM
