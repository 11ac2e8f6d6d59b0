/-! the bundle, contracts, calls, returns; rows of fields and arrays -/
def tLet (z : Int) : Int := if z = 0 then 99 else if z = 1 then 108 else if z = 2 then 120 else if z = 3 then 109 else if z = 4 then 111 else 100
def tPar (z : Int) : Int := if z = 4 then 1 else if z = 5 then 2 else 0
def tCut (z : Int) : Int := if z = 2 then 1 else if z = 4 then 1 else if z = 5 then 2 else 0
def gST (Γ : Gm) (A : Nat → Prop) (U : State) (H : Heap) : Prop :=
  (va_Z "LostDays" "LETTERS" "[C" (.ref (Γ.2.2.2 0)) A U H ∧ va_T .char (Γ.2.2.2 0) 6 (fun j => .int (zI (tLet (j : Int)))) A U H) ∧
  (va_Z "LostDays" "PARENTS" "[I" (.ref (Γ.2.2.2 1)) A U H ∧ va_T .int (Γ.2.2.2 1) 6 (fun j => .int (zI (tPar (j : Int)))) A U H) ∧
  (va_Z "LostDays" "TIMES_CUT" "[I" (.ref (Γ.2.2.2 2)) A U H ∧ va_T .int (Γ.2.2.2 2) 6 (fun j => .int (zI (tCut (j : Int)))) A U H)
theorem gST.moved {Γ : Gm} {A : Nat → Prop} {u U : State} {H : Heap} (hvm : u.vm.Alike U.vm) (h : gST Γ A u H) : gST Γ A U H :=
  ⟨⟨h.1.1.moved hvm, h.1.2.moved hvm⟩, ⟨h.2.1.1.moved hvm, h.2.1.2.moved hvm⟩, ⟨h.2.2.1.moved hvm, h.2.2.2.moved hvm⟩⟩
theorem gST.kept {Γ : Gm} {A : Nat → Prop} {U : State} {H H1 : Heap} (h : gST Γ A U H) (hq : ∀ a : Nat, a < H.size → ¬ A a → H1[a]? = H[a]?) : gST Γ A U H1 :=
  ⟨⟨h.1.1.kept hq, h.1.2.kept hq⟩, ⟨h.2.1.1.kept hq, h.2.1.2.kept hq⟩, ⟨h.2.2.1.kept hq, h.2.2.2.kept hq⟩⟩
/-- links between nest mates -/
def gNW (U : State) : Prop :=
  va_Nw (.fieldLinkNest RX3 34 "LostDays" "LETTERS" "[C" "LostDays") U ∧ va_Nw (.fieldLinkNest RX0 35 "LostDays" "TIMES_CUT" "[I" "LostDays") U ∧ va_Nw (.fieldLinkNest RX0 24 "LostDays" "PARENTS" "[I" "LostDays") U ∧
  va_Nw (.methodLinkNest RX3 30 yX4_isLeap "LostDays") U ∧ va_Nw (.methodLinkNest RX0 56 yX4_longYearsBefore "LostDays") U ∧ va_Nw (.methodLinkNest RX0 32 yX4_isLeap "LostDays") U
theorem gNW.warm {s U : State} (hW : s.WarmedH U.vm) (h : gNW s) : gNW U := ⟨h.1.warmF hW, h.2.1.warmF hW, h.2.2.1.warmF hW, h.2.2.2.1.warmM hW, h.2.2.2.2.1.warmM hW, h.2.2.2.2.2.warmM hW⟩
def GP (Γ : Gm) (A : Nat → Prop) (σ : Mm) (U : State) : Prop := va_K Γ.1 clsG (tyG Γ) U ∧ va_P Γ.1 clsG (gw Γ σ) U.heap ∧ va_D A (gw Γ σ) ∧ gST Γ A U U.heap ∧ gNW U
/-- the bundle that a walk carries: s the start, H the heap now -/
def GM (Γ : Gm) (A : Nat → Prop) (σ : Mm) (s : State) (H : Heap) (locs : List Loc) : Prop := va_K Γ.1 clsG (tyG Γ) s ∧ va_P Γ.1 clsG (gw Γ σ) H ∧ va_D A (gw Γ σ) ∧ va_S A s.heap H locs ∧ gST Γ A s s.heap ∧ gNW s
def gQ (Γ : Gm) (A : Nat → Prop) (ov : Option Value) (σ' : Mm) : Array Value → State → Outcome → State → Prop := fun _ st oc t => (oc = .returned ov ∧ va_P Γ.1 clsG (gw Γ σ') t.heap ∧ va_D A (gw Γ σ')) ∧ va_F A st t
/-- A CONTRACT: in the memory σ, called with av, it returns ov, and the memory is σ' -/
def Fn (Γ : Gm) (l : Launch) (A : Nat → Prop) (y : MethodName) (b : ByteArray) (nL : Nat) (ret : Option FieldType) (fr lc : Nat) (av : List Value) (σ : Mm) (ov : Option Value) (σ' : Mm) : Prop :=
  Met l y (.code y b nL ret :: tb) { frames := fr, cells := 0, slots := 0, locals := lc } (va_Pc av (GP Γ A σ)) (gQ Γ A ov σ') 0 0 A
theorem GP.blind {Γ : Gm} {A : Nat → Prop} {σ : Mm} {av : List Value} : FrameBlind (va_Pc av (GP Γ A σ)) := fun a U g mk q => by
  obtain ⟨q0, qK, qP, qD, qS, qN⟩ := q
  exact ⟨q0, va_K.moved (u := U) (U := U.calling g mk a) (Vm.Alike.refl U.vm) qK, qP, qD, gST.moved (u := U) (U := U.calling g mk a) (Vm.Alike.refl U.vm) qS, ⟨qN.1.same rfl rfl, qN.2.1.same rfl rfl, qN.2.2.1.same rfl rfl, qN.2.2.2.1.same rfl rfl, qN.2.2.2.2.1.same rfl rfl, qN.2.2.2.2.2.same rfl rfl⟩⟩
def CR (Γ : Gm) (A : Nat → Prop) (s : State) (args : Array Value) (below : List Frame) (meth : Method) (Q : State → Prop) (ret : Option FieldType) (ov : Option Value) (σ' : Mm) : Prop := meth.sig.returnType = ret ∧ meth.locks = false ∧ Q = MQ below (gQ Γ A ov σ') args s 0 0 A
theorem Fn_of {Γ : Gm} {l : Launch} {A : Nat → Prop} {y : MethodName} {b : ByteArray} {nL : Nat} {ret : Option FieldType} {fr lc : Nat} {av : List Value} {σ : Mm} {ov : Option Value} {σ' : Mm} (hy : plainName y.cls = true) (hlen : (lg_sl av).length ≤ nL)
    (body : ∀ (p : Program) (e : Env) (s : State) (m : MethodId) (args : Array Value) (below : List Frame) (meth : Method) (c : Code) (Q : State → Prop) (H : Heap) (locs : List Loc) (ls : Array Slot), CallFix p m c b nL s args tb y.cls → CR Γ A s args below meth Q ret ov σ' → GM Γ A σ s H locs → lv_has ls nL (lv_args 0 av) →
      W p l e { frames := fr, cells := 0, slots := 0, locals := lc } s m args below meth c H locs 0 0 Q (F0 m 0 ls [])) : Fn Γ l A y b nL ret fr lc av σ ov σ' := by
  refine Met.ofW (cc := b) (maxL := nL) (ret := ret) hy rfl ?_
  intro p e s m args below meth c s₁ B hml hv
  obtain ⟨rfl, hK, hP, hD, hT, hN⟩ := hv
  have hts := atoms_spec (ws := Cond.code y b nL ret :: tb) B.pre
  have hl := lv_entry av (n := nL) hlen
  rw [lg_entry_eq]
  exact body p e s m av.toArray below meth c _ s.heap [] _ ⟨B.exec, B.bytes, hml, findClass_of_methodNamed B.named, fun w hw => hts w (List.mem_cons_of_mem _ hw)⟩ ⟨B.returns, B.notSynchronized, rfl⟩ ⟨hK, hP, hD, va_S.rf, hT, hN⟩ hl
section ZC
variable {p : Program} {l : Launch} {e : Env} {R : Room} {s : State} {m : MethodId} {args : Array Value} {below : List Frame} {meth : Method} {c : Code} {H : Heap} {locs : List Loc} {cells slots : Nat} {Q : State → Prop}
variable {own : String} {cc : ByteArray} {nL : Nat} {pc : Nat} {ls : Array Slot} {rest : List Value} {Γ : Gm} {A : Nat → Prop} {σ σ' : Mm} {index : Nat} {v z : Int}
variable {ret : Option FieldType} {ov : Option Value} {y : MethodName} {b' : ByteArray} {nL' : Nat} {ret' : Option FieldType} {fr lc n : Nat} {As : List Value} {st : List Value} {σ2 : Mm} {a : Nat}
theorem GM.pre (hG : GM Γ A σ s H locs) : ∀ U : State, U.heap = H → s.WarmedH U.vm → GP Γ A σ U := fun U hU hW => ⟨va_K.moved hW.alike hG.1, by rw [hU]; exact hG.2.1, hG.2.2.1, by rw [hU]; exact (gST.kept hG.2.2.2.2.1 hG.2.2.2.1.2.1).moved hW.alike, gNW.warm hW hG.2.2.2.2.2⟩
theorem zr_after {a : Array Value} (hG : GM Γ A σ s H locs) (hr : va_Run p l e R s m args below meth c H locs cells slots 0 0 (F0 m pc ls st) rest (gQ Γ A ov σ2 a) A)
    (kk : ∀ (H1 : Heap) (locs1 : List Loc), GM Γ A σ2 s H1 locs1 → W p l e R s m args below meth c H1 locs1 cells slots Q (F0 m (pc + 3) ls (ov.toList ++ rest))) : W p l e R s m args below meth c H locs cells slots Q (F0 m pc ls st) := by
  intro T hT X
  obtain ⟨v, st₀, t, T', L, h0, X', hL, e1, e2, ⟨⟨hv, hp, hd⟩, hz, hk⟩, st⟩ := hr T hT X
  cases hv
  rw [h0] at hz hk
  have hS := hG.2.2.2.1
  have hS1 : va_S A s.heap T'.heap (locs ++ L) := ⟨Nat.le_trans hS.1 (by rw [e1]; exact hz), fun q h1 h2 => by rw [e1, hk q (Nat.lt_of_lt_of_le h1 hS.1) h2]; exact hS.2.1 q h1 h2, fun q hq => by
      rcases List.mem_append.mp hq with h | h
      · exact hS.2.2 q h
      · exact hL q h⟩
  obtain ⟨t2, a1, b1⟩ := kk T'.heap (locs ++ L) ⟨hG.1, by rw [e1]; exact hp, hd, hS1, hG.2.2.2.2⟩ T' rfl X'
  exact ⟨t2, st t2 a1, b1⟩
theorem zr_callV (C : CallFix p m c cc nL s args tb own) (hG : GM Γ A σ s H locs) (hM : Fn Γ l A y b' nL' ret' fr lc (.ref a :: As) σ ov σ2) (hm : MTv y b' nL' ret' n) (hl : Cond.methodLink own index y ∈ tb) {q0 ci : Nat} {fs : List Value} {q : vw_C} (he : (gw Γ σ)[q0]? = some (a, .inr (ci, fs))) (hc : clsG[ci]? = some q) (hq : q.1 = y.cls)
    (hR : fr + 1 ≤ R.frames ∧ 8 + (nL' + 11) + lc ≤ R.locals) (hn : As.length = n) (hls : ls.size = nL) (hst : st = As.reverse ++ .ref a :: rest) (hrest : (rest.map fun v => v.category).sum ≤ 8) (hd : decode cc pc = .ok (.invokevirtual index, 3)) (hf : cells + 0 ≤ R.cells ∧ slots + 0 ≤ R.slots)
    (kk : ∀ (H1 : Heap) (locs1 : List Loc), GM Γ A σ2 s H1 locs1 → W p l e R s m args below meth c H1 locs1 cells slots Q (F0 m (pc + 3) ls (ov.toList ++ rest))) : W p l e R s m args below meth c H locs cells slots Q (F0 m pc ls st) := by
  have hts := C.2.2.2.2
  have cb : CallB R s args own index y b' nL' ret' (.code y b' nL' ret' :: tb) { frames := fr, cells := 0, slots := 0, locals := lc } 0 0 n := callB_of n hts (tb_cons hm.1) rfl rfl rfl (hts _ hm.2.1) (hts _ hl) ⟨hm.2.2.2.2.1.1, hm.2.2.2.2.1.2, hm.2.2.2.2.2⟩ hR
  refine zr_after hG (va_runV (C := q.1) (As := As) (b := a) C hM ⟨cb, hts _ hm.2.2.1, by rw [hq]; exact hts _ hm.2.2.2.1⟩ ⟨GP.blind, va_recv hG.1 hG.2.1 hc he, fun U hU hW => ⟨rfl, hG.pre U hU hW⟩⟩ rfl hn hls hst (lv_room hrest) hd hf) kk
theorem zr_callS (C : CallFix p m c cc nL s args tb own) (hG : GM Γ A σ s H locs) (hM : Fn Γ l A y b' nL' ret' fr lc As σ ov σ2) (hm : MTs y b' nL' ret' n) (hl : Cond.methodLink own index y ∈ tb)
    (hR : fr + 1 ≤ R.frames ∧ 8 + (nL' + 11) + lc ≤ R.locals) (hn : As.length = n) (hls : ls.size = nL) (hst : st = As.reverse ++ rest) (hrest : (rest.map fun v => v.category).sum ≤ 8) (hd : decode cc pc = .ok (.invokestatic index, 3)) (hf : cells + 0 ≤ R.cells ∧ slots + 0 ≤ R.slots)
    (kk : ∀ (H1 : Heap) (locs1 : List Loc), GM Γ A σ2 s H1 locs1 → W p l e R s m args below meth c H1 locs1 cells slots Q (F0 m (pc + 3) ls (ov.toList ++ rest))) : W p l e R s m args below meth c H locs cells slots Q (F0 m pc ls st) := by
  have hts := C.2.2.2.2
  have cb : CallB R s args own index y b' nL' ret' (.code y b' nL' ret' :: tb) { frames := fr, cells := 0, slots := 0, locals := lc } 0 0 n := callB_of n hts (tb_cons hm.1) rfl rfl rfl (hts _ hm.2.1) (hts _ hl) ⟨hm.2.2.2.1.1, hm.2.2.2.1.2, hm.2.2.2.2⟩ hR
  exact zr_after hG (va_runS (As := As) C hM ⟨cb, hts _ hm.2.2.1⟩ ⟨GP.blind, fun U hU hW => ⟨rfl, hG.pre U hU hW⟩⟩ rfl hn hls hst (lv_room hrest) hd hf) kk
theorem zr_callSN (C : CallFix p m c cc nL s args tb own) (hG : GM Γ A σ s H locs) (hM : Fn Γ l A y b' nL' ret' fr lc As σ ov σ2) (hm : MTs y b' nL' ret' n) {host : String} (hl : va_Nw (.methodLinkNest own index y host) s)
    (hR : fr + 1 ≤ R.frames ∧ 8 + (nL' + 11) + lc ≤ R.locals) (hn : As.length = n) (hls : ls.size = nL) (hst : st = As.reverse ++ rest) (hrest : (rest.map fun v => v.category).sum ≤ 8) (hd : decode cc pc = .ok (.invokestatic index, 3)) (hf : cells + 0 ≤ R.cells ∧ slots + 0 ≤ R.slots)
    (kk : ∀ (H1 : Heap) (locs1 : List Loc), GM Γ A σ2 s H1 locs1 → W p l e R s m args below meth c H1 locs1 cells slots Q (F0 m (pc + 3) ls (ov.toList ++ rest))) : W p l e R s m args below meth c H locs cells slots Q (F0 m pc ls st) := by
  have hts := C.2.2.2.2
  exact zr_after hG (va_runSN (As := As) C hM ⟨va_cnB n hts (tb_cons hm.1) rfl rfl rfl hl (hts _ hm.2.1) ⟨hm.2.2.2.1.1, hm.2.2.2.1.2, hm.2.2.2.2⟩ hR, hts _ hm.2.2.1, trivial⟩ ⟨GP.blind, fun U hU hW => ⟨rfl, hG.pre U hU hW⟩⟩ rfl hn hls hst (lv_room hrest) hd hf) kk
/-- returns: the value and the memory are what the contract says -/
theorem zr_iret (C : CallFix p m c cc nL s args tb own) (K : CR Γ A s args below meth Q (some .int) (some (.int (zI v))) σ') (hG : GM Γ A σ s H locs) (hd : decode cc pc = .ok (.ireturn, 1)) (hv : v = z) (hσ : σ' = σ) : W p l e R s m args below meth c H locs 0 0 Q (F0 m pc ls [.int (zI z)]) := by
  obtain ⟨hr, hk, hQ⟩ := K
  subst hQ; subst hv; subst hσ
  exact W.iret C.1 C.2.1 hr (fun t ht hW => ⟨⟨rfl, by rw [ht]; exact hG.2.1, hG.2.2.1⟩, hG.2.2.2.1.F ht⟩) hG.2.2.2.1.2.2 hd hk
theorem zr_zret (C : CallFix p m c cc nL s args tb own) (K : CR Γ A s args below meth Q (some .boolean) (some (.int (zI v))) σ') (hG : GM Γ A σ s H locs) (hd : decode cc pc = .ok (.ireturn, 1)) (hv : v = z) (hz : z = 0 ∨ z = 1) (hσ : σ' = σ) : W p l e R s m args below meth c H locs 0 0 Q (F0 m pc ls [.int (zI z)]) := by
  obtain ⟨hr, hk, hQ⟩ := K
  subst hQ; subst hv; subst hσ
  have hn : narrow .boolean (.int (zI v)) = .int (zI v) := by rcases hz with rfl | rfl <;> decide +kernel
  exact W.zret C.1 C.2.1 hr hn (fun t ht hW => ⟨⟨rfl, by rw [ht]; exact hG.2.1, hG.2.2.1⟩, hG.2.2.2.1.F ht⟩) hG.2.2.2.1.2.2 hd hk
theorem zr_lret (C : CallFix p m c cc nL s args tb own) (K : CR Γ A s args below meth Q (some .long) (some (.long (zL v))) σ') (hG : GM Γ A σ s H locs) (hd : decode cc pc = .ok (.lreturn, 1)) (hv : v = z) (hσ : σ' = σ) : W p l e R s m args below meth c H locs 0 0 Q (F0 m pc ls [.long (zL z)]) := by
  obtain ⟨hr, hk, hQ⟩ := K
  subst hQ; subst hv; subst hσ
  exact W.lret C.1 C.2.1 hr (fun t ht hW => ⟨⟨rfl, by rw [ht]; exact hG.2.1, hG.2.2.1⟩, hG.2.2.2.1.F ht⟩) hG.2.2.2.1.2.2 hd hk
theorem zr_vret (C : CallFix p m c cc nL s args tb own) (K : CR Γ A s args below meth Q none none σ') (hG : GM Γ A σ s H locs) (hd : decode cc pc = .ok (.return_, 1)) (hσ : σ' = σ) : W p l e R s m args below meth c H locs 0 0 Q (F0 m pc ls []) := by
  obtain ⟨hr, hk, hQ⟩ := K
  subst hQ; subst hσ
  exact W.vret C.1 C.2.1 hr (fun t ht hW => ⟨⟨rfl, by rw [ht]; exact hG.2.1, hG.2.2.1⟩, hG.2.2.2.1.F ht⟩) hG.2.2.2.1.2.2 hd hk
/-- the static tables -/
theorem zr_tab {t : Nat} {f : Int → Int} (C : CallFix p m c cc nL s args tb own) (hG : GM Γ A σ s H locs) (hT : va_T .int t 6 (fun j => .int (zI (f (j : Int)))) A s s.heap) (hz : 0 ≤ z ∧ z < 6) (hd : decode cc pc = .ok (.iaload, 1)) (k : W p l e R s m args below meth c H locs cells slots Q (F0 m (pc + 1) ls (.int (zI (f z)) :: rest))) : W p l e R s m args below meth c H locs cells slots Q (F0 m pc ls (.int (zI z) :: .ref t :: rest)) := by
  obtain ⟨cell, h1, h2, h3, h4, h5, h6, h7⟩ := hT
  have e9 : ((z.toNat : Nat) : Int) = z := by omega
  have hlt : t < s.heap.size := (Array.getElem?_eq_some_iff.mp h1).1
  have hk : cell.slots[z.toNat]? = some (.int (zI (f ((z.toNat : Nat) : Int)))) := h6 z.toNat (by omega)
  rw [e9] at hk
  have hcl := zI_cl (z := z) ⟨by omega, by omega⟩
  refine W.iald (a := t) (v := .int (zI (f z))) C.1 C.2.1 (by rw [hG.2.2.2.1.2.1 t hlt h7]; exact h1) h2 h3 ?_ (by rw [hcl]; exact hk) rfl rfl hd k
  have h8 := (vp_in_iff (x := zI z) (n := 6)).mpr (by rw [zI_t ⟨by omega, by omega⟩]; omega)
  intro q
  rcases q with q | q
  · exact h8 (Or.inl q)
  · exact h8 (Or.inr (Nat.le_trans h4 q))
theorem zr_tabC {t : Nat} {f : Int → Int} (C : CallFix p m c cc nL s args tb own) (hG : GM Γ A σ s H locs) (hT : va_T .char t 6 (fun j => .int (zI (f (j : Int)))) A s s.heap) (hz : 0 ≤ z ∧ z < 6) (hd : decode cc pc = .ok (.caload, 1)) (k : W p l e R s m args below meth c H locs cells slots Q (F0 m (pc + 1) ls (.int (zI (f z)) :: rest))) : W p l e R s m args below meth c H locs cells slots Q (F0 m pc ls (.int (zI z) :: .ref t :: rest)) := by
  obtain ⟨cell, h1, h2, h3, h4, h5, h6, h7⟩ := hT
  have e9 : ((z.toNat : Nat) : Int) = z := by omega
  have hlt : t < s.heap.size := (Array.getElem?_eq_some_iff.mp h1).1
  have hk : cell.slots[z.toNat]? = some (.int (zI (f ((z.toNat : Nat) : Int)))) := h6 z.toNat (by omega)
  rw [e9] at hk
  have hcl := zI_cl (z := z) ⟨by omega, by omega⟩
  refine W.cald (a := t) (v := .int (zI (f z))) C.1 C.2.1 (by rw [hG.2.2.2.1.2.1 t hlt h7]; exact h1) h2 h3 ?_ (by rw [hcl]; exact hk) rfl rfl hd k
  have h8 := (vp_in_iff (x := zI z) (n := 6)).mpr (by rw [zI_t ⟨by omega, by omega⟩]; omega)
  intro q
  rcases q with q | q
  · exact h8 (Or.inl q)
  · exact h8 (Or.inr (Nat.le_trans h4 q))
theorem zr_stLetters (C : CallFix p m c cc nL s args tb RX3) (hG : GM Γ A σ s H locs) (hd : decode cc pc = .ok (.getstatic 34, 3)) (k : W p l e R s m args below meth c H locs cells slots Q (F0 m (pc + 3) ls (.ref (Γ.2.2.2 0) :: rest))) : W p l e R s m args below meth c H locs cells slots Q (F0 m pc ls rest) :=
  va_getsN (C := "LostDays") C.1 C.2.1 hG.2.2.2.2.1.1.1 hG.2.2.2.1 C.2.2.2.1 (va_Nw.use rfl hG.2.2.2.2.2.1) (fun _ h => h) hd k
theorem zr_stCut (C : CallFix p m c cc nL s args tb RX0) (hG : GM Γ A σ s H locs) (hd : decode cc pc = .ok (.getstatic 35, 3)) (k : W p l e R s m args below meth c H locs cells slots Q (F0 m (pc + 3) ls (.ref (Γ.2.2.2 2) :: rest))) : W p l e R s m args below meth c H locs cells slots Q (F0 m pc ls rest) :=
  va_getsN (C := "LostDays") C.1 C.2.1 hG.2.2.2.2.1.2.2.1 hG.2.2.2.1 C.2.2.2.1 (va_Nw.use rfl hG.2.2.2.2.2.2.1) (fun _ h => h) hd k
theorem zr_stPar (C : CallFix p m c cc nL s args tb RX0) (hG : GM Γ A σ s H locs) (hd : decode cc pc = .ok (.getstatic 24, 3)) (k : W p l e R s m args below meth c H locs cells slots Q (F0 m (pc + 3) ls (.ref (Γ.2.2.2 1) :: rest))) : W p l e R s m args below meth c H locs cells slots Q (F0 m pc ls rest) :=
  va_getsN (C := "LostDays") C.1 C.2.1 hG.2.2.2.2.1.2.1.1 hG.2.2.2.1 C.2.2.2.1 (va_Nw.use rfl hG.2.2.2.2.2.2.2.1) (fun _ h => h) hd k
end ZC
section ZF
variable {p : Program} {l : Launch} {e : Env} {R : Room} {s : State} {m : MethodId} {args : Array Value} {below : List Frame} {meth : Method} {c : Code} {H : Heap} {locs : List Loc} {cells slots : Nat} {Q : State → Prop}
variable {own : String} {cc : ByteArray} {nL : Nat} {pc : Nat} {ls : Array Slot} {rest : List Value} {Γ : Gm} {A : Nat → Prop} {σ σ' : Mm} {index : Nat} {v z : Int}
theorem gf_L_rows (C : CallFix p m c cc nL s args tb own) (hG : GM Γ A σ s H locs) (hl : Cond.fieldLink own index "LostDays" "rows" "[LLostDays$Row;" ∈ tb) (hd : decode cc pc = .ok (.getfield index, 3)) (k : W p l e R s m args below meth c H locs cells slots Q (F0 m (pc + 3) ls (.ref (aRs Γ) :: rest))) : W p l e R s m args below meth c H locs cells slots Q (F0 m pc ls (.ref (aL Γ) :: rest)) := by
  skip
  exact va_get (C := RX4) (T := TX4) (N := 12) (ci := 4) C.1 C.2.1 C.2.2.2.2 uw_X4 C.2.2.2.1 hG.1 hG.2.1 _ pL rfl 0 (by decide) (C.2.2.2.2 _ hl) (fun _ h => h) rfl hd k
theorem gf_L_texts (C : CallFix p m c cc nL s args tb own) (hG : GM Γ A σ s H locs) (hl : Cond.fieldLink own index "LostDays" "texts" "[LLostDays$Text;" ∈ tb) (hd : decode cc pc = .ok (.getfield index, 3)) (k : W p l e R s m args below meth c H locs cells slots Q (F0 m (pc + 3) ls (.ref (aTs Γ) :: rest))) : W p l e R s m args below meth c H locs cells slots Q (F0 m pc ls (.ref (aL Γ) :: rest)) := by
  skip
  exact va_get (C := RX4) (T := TX4) (N := 12) (ci := 4) C.1 C.2.1 C.2.2.2.2 uw_X4 C.2.2.2.1 hG.1 hG.2.1 _ pL rfl 1 (by decide) (C.2.2.2.2 _ hl) (fun _ h => h) rfl hd k
theorem gf_L_towns (C : CallFix p m c cc nL s args tb own) (hG : GM Γ A σ s H locs) (hl : Cond.fieldLink own index "LostDays" "towns" "[LLostDays$Calendar;" ∈ tb) (hd : decode cc pc = .ok (.getfield index, 3)) (k : W p l e R s m args below meth c H locs cells slots Q (F0 m (pc + 3) ls (.ref (aTo Γ) :: rest))) : W p l e R s m args below meth c H locs cells slots Q (F0 m pc ls (.ref (aL Γ) :: rest)) := by
  skip
  exact va_get (C := RX4) (T := TX4) (N := 12) (ci := 4) C.1 C.2.1 C.2.2.2.2 uw_X4 C.2.2.2.1 hG.1 hG.2.1 _ pL rfl 2 (by decide) (C.2.2.2.2 _ hl) (fun _ h => h) rfl hd k
theorem gf_L_kept (C : CallFix p m c cc nL s args tb own) (hG : GM Γ A σ s H locs) (hl : Cond.fieldLink own index "LostDays" "kept" "[LLostDays$Kept;" ∈ tb) (hd : decode cc pc = .ok (.getfield index, 3)) (k : W p l e R s m args below meth c H locs cells slots Q (F0 m (pc + 3) ls (.ref (aKs Γ) :: rest))) : W p l e R s m args below meth c H locs cells slots Q (F0 m pc ls (.ref (aL Γ) :: rest)) := by
  skip
  exact va_get (C := RX4) (T := TX4) (N := 12) (ci := 4) C.1 C.2.1 C.2.2.2.2 uw_X4 C.2.2.2.1 hG.1 hG.2.1 _ pL rfl 3 (by decide) (C.2.2.2.2 _ hl) (fun _ h => h) rfl hd k
theorem gf_L_trial (C : CallFix p m c cc nL s args tb own) (hG : GM Γ A σ s H locs) (hl : Cond.fieldLink own index "LostDays" "trial" "LLostDays$Calendar;" ∈ tb) (hd : decode cc pc = .ok (.getfield index, 3)) (k : W p l e R s m args below meth c H locs cells slots Q (F0 m (pc + 3) ls (.ref (aCal Γ 5) :: rest))) : W p l e R s m args below meth c H locs cells slots Q (F0 m pc ls (.ref (aL Γ) :: rest)) := by
  skip
  exact va_get (C := RX4) (T := TX4) (N := 12) (ci := 4) C.1 C.2.1 C.2.2.2.2 uw_X4 C.2.2.2.1 hG.1 hG.2.1 _ pL rfl 4 (by decide) (C.2.2.2.2 _ hl) (fun _ h => h) rfl hd k
theorem gf_L_timesFound (C : CallFix p m c cc nL s args tb own) (hG : GM Γ A σ s H locs) (hl : Cond.fieldLink own index "LostDays" "timesFound" "[I" ∈ tb) (hd : decode cc pc = .ok (.getfield index, 3)) (k : W p l e R s m args below meth c H locs cells slots Q (F0 m (pc + 3) ls (.ref (aTf Γ) :: rest))) : W p l e R s m args below meth c H locs cells slots Q (F0 m pc ls (.ref (aL Γ) :: rest)) := by
  skip
  exact va_get (C := RX4) (T := TX4) (N := 12) (ci := 4) C.1 C.2.1 C.2.2.2.2 uw_X4 C.2.2.2.1 hG.1 hG.2.1 _ pL rfl 5 (by decide) (C.2.2.2.2 _ hl) (fun _ h => h) rfl hd k
theorem gf_L_townCount (C : CallFix p m c cc nL s args tb own) (hG : GM Γ A σ s H locs) (hl : Cond.fieldLink own index "LostDays" "townCount" "I" ∈ tb) (hx : σ 0 0 6 = v) (hd : decode cc pc = .ok (.getfield index, 3)) (k : W p l e R s m args below meth c H locs cells slots Q (F0 m (pc + 3) ls (.int (zI v) :: rest))) : W p l e R s m args below meth c H locs cells slots Q (F0 m pc ls (.ref (aL Γ) :: rest)) := by
  subst hx
  exact va_get (C := RX4) (T := TX4) (N := 12) (ci := 4) C.1 C.2.1 C.2.2.2.2 uw_X4 C.2.2.2.1 hG.1 hG.2.1 _ pL rfl 6 (by decide) (C.2.2.2.2 _ hl) (fun _ h => h) rfl hd k
theorem pf_L_townCount (C : CallFix p m c cc nL s args tb own) (hG : GM Γ A σ s H locs) (hl : Cond.fieldLink own index "LostDays" "townCount" "I" ∈ tb) (hd : decode cc pc = .ok (.putfield index, 3)) (k : ∀ (H1 : Heap) (locs1 : List Loc), GM Γ A (up σ 0 0 6 v) s H1 locs1 → W p l e R s m args below meth c H1 locs1 cells slots Q (F0 m (pc + 3) ls rest)) : W p l e R s m args below meth c H locs cells slots Q (F0 m pc ls (.int (zI v) :: .ref (aL Γ) :: rest)) :=
  va_put (C := RX4) (T := TX4) (N := 12) (ci := 4) (ty := .int) C.1 C.2.1 C.2.2.2.2 uw_X4 tyX4 tyX4_ok nmX4 C.2.2.2.1 hG.1 hG.2.1 hG.2.2.1 hG.2.2.2.1 _ pL rfl 6 (by decide) (C.2.2.2.2 _ hl) (fun _ h => h) rfl (by decide +kernel) rfl rfl (Nat.le_of_ble_eq_true rfl) hd (fun H1 l1 p1 d1 s1 => k H1 l1 ⟨hG.1, sL_6 ▸ p1, sL_6 ▸ d1, s1, hG.2.2.2.2⟩)
theorem gf_L_today (C : CallFix p m c cc nL s args tb own) (hG : GM Γ A σ s H locs) (hl : Cond.fieldLink own index "LostDays" "today" "I" ∈ tb) (hx : σ 0 0 7 = v) (hd : decode cc pc = .ok (.getfield index, 3)) (k : W p l e R s m args below meth c H locs cells slots Q (F0 m (pc + 3) ls (.int (zI v) :: rest))) : W p l e R s m args below meth c H locs cells slots Q (F0 m pc ls (.ref (aL Γ) :: rest)) := by
  subst hx
  exact va_get (C := RX4) (T := TX4) (N := 12) (ci := 4) C.1 C.2.1 C.2.2.2.2 uw_X4 C.2.2.2.1 hG.1 hG.2.1 _ pL rfl 7 (by decide) (C.2.2.2.2 _ hl) (fun _ h => h) rfl hd k
theorem pf_L_today (C : CallFix p m c cc nL s args tb own) (hG : GM Γ A σ s H locs) (hl : Cond.fieldLink own index "LostDays" "today" "I" ∈ tb) (hd : decode cc pc = .ok (.putfield index, 3)) (k : ∀ (H1 : Heap) (locs1 : List Loc), GM Γ A (up σ 0 0 7 v) s H1 locs1 → W p l e R s m args below meth c H1 locs1 cells slots Q (F0 m (pc + 3) ls rest)) : W p l e R s m args below meth c H locs cells slots Q (F0 m pc ls (.int (zI v) :: .ref (aL Γ) :: rest)) :=
  va_put (C := RX4) (T := TX4) (N := 12) (ci := 4) (ty := .int) C.1 C.2.1 C.2.2.2.2 uw_X4 tyX4 tyX4_ok nmX4 C.2.2.2.1 hG.1 hG.2.1 hG.2.2.1 hG.2.2.2.1 _ pL rfl 7 (by decide) (C.2.2.2.2 _ hl) (fun _ h => h) rfl (by decide +kernel) rfl rfl (Nat.le_of_ble_eq_true rfl) hd (fun H1 l1 p1 d1 s1 => k H1 l1 ⟨hG.1, sL_7 ▸ p1, sL_7 ▸ d1, s1, hG.2.2.2.2⟩)
theorem gf_L_told (C : CallFix p m c cc nL s args tb own) (hG : GM Γ A σ s H locs) (hl : Cond.fieldLink own index "LostDays" "told" "I" ∈ tb) (hx : σ 0 0 8 = v) (hd : decode cc pc = .ok (.getfield index, 3)) (k : W p l e R s m args below meth c H locs cells slots Q (F0 m (pc + 3) ls (.int (zI v) :: rest))) : W p l e R s m args below meth c H locs cells slots Q (F0 m pc ls (.ref (aL Γ) :: rest)) := by
  subst hx
  exact va_get (C := RX4) (T := TX4) (N := 12) (ci := 4) C.1 C.2.1 C.2.2.2.2 uw_X4 C.2.2.2.1 hG.1 hG.2.1 _ pL rfl 8 (by decide) (C.2.2.2.2 _ hl) (fun _ h => h) rfl hd k
theorem pf_L_told (C : CallFix p m c cc nL s args tb own) (hG : GM Γ A σ s H locs) (hl : Cond.fieldLink own index "LostDays" "told" "I" ∈ tb) (hd : decode cc pc = .ok (.putfield index, 3)) (k : ∀ (H1 : Heap) (locs1 : List Loc), GM Γ A (up σ 0 0 8 v) s H1 locs1 → W p l e R s m args below meth c H1 locs1 cells slots Q (F0 m (pc + 3) ls rest)) : W p l e R s m args below meth c H locs cells slots Q (F0 m pc ls (.int (zI v) :: .ref (aL Γ) :: rest)) :=
  va_put (C := RX4) (T := TX4) (N := 12) (ci := 4) (ty := .int) C.1 C.2.1 C.2.2.2.2 uw_X4 tyX4 tyX4_ok nmX4 C.2.2.2.1 hG.1 hG.2.1 hG.2.2.1 hG.2.2.2.1 _ pL rfl 8 (by decide) (C.2.2.2.2 _ hl) (fun _ h => h) rfl (by decide +kernel) rfl rfl (Nat.le_of_ble_eq_true rfl) hd (fun H1 l1 p1 d1 s1 => k H1 l1 ⟨hG.1, sL_8 ▸ p1, sL_8 ▸ d1, s1, hG.2.2.2.2⟩)
theorem gf_L_toldUpper (C : CallFix p m c cc nL s args tb own) (hG : GM Γ A σ s H locs) (hl : Cond.fieldLink own index "LostDays" "toldUpper" "J" ∈ tb) (hx : σ 0 0 9 = v) (hd : decode cc pc = .ok (.getfield index, 3)) (k : W p l e R s m args below meth c H locs cells slots Q (F0 m (pc + 3) ls (.long (zL v) :: rest))) : W p l e R s m args below meth c H locs cells slots Q (F0 m pc ls (.ref (aL Γ) :: rest)) := by
  subst hx
  exact va_get (C := RX4) (T := TX4) (N := 12) (ci := 4) C.1 C.2.1 C.2.2.2.2 uw_X4 C.2.2.2.1 hG.1 hG.2.1 _ pL rfl 9 (by decide) (C.2.2.2.2 _ hl) (fun _ h => h) rfl hd k
theorem pf_L_toldUpper (C : CallFix p m c cc nL s args tb own) (hG : GM Γ A σ s H locs) (hl : Cond.fieldLink own index "LostDays" "toldUpper" "J" ∈ tb) (hd : decode cc pc = .ok (.putfield index, 3)) (k : ∀ (H1 : Heap) (locs1 : List Loc), GM Γ A (up σ 0 0 9 v) s H1 locs1 → W p l e R s m args below meth c H1 locs1 cells slots Q (F0 m (pc + 3) ls rest)) : W p l e R s m args below meth c H locs cells slots Q (F0 m pc ls (.long (zL v) :: .ref (aL Γ) :: rest)) :=
  va_put (C := RX4) (T := TX4) (N := 12) (ci := 4) (ty := .long) C.1 C.2.1 C.2.2.2.2 uw_X4 tyX4 tyX4_ok nmX4 C.2.2.2.1 hG.1 hG.2.1 hG.2.2.1 hG.2.2.2.1 _ pL rfl 9 (by decide) (C.2.2.2.2 _ hl) (fun _ h => h) rfl (by decide +kernel) rfl rfl (Nat.le_of_ble_eq_true rfl) hd (fun H1 l1 p1 d1 s1 => k H1 l1 ⟨hG.1, sL_9 ▸ p1, sL_9 ▸ d1, s1, hG.2.2.2.2⟩)
theorem gf_L_toldLower (C : CallFix p m c cc nL s args tb own) (hG : GM Γ A σ s H locs) (hl : Cond.fieldLink own index "LostDays" "toldLower" "J" ∈ tb) (hx : σ 0 0 10 = v) (hd : decode cc pc = .ok (.getfield index, 3)) (k : W p l e R s m args below meth c H locs cells slots Q (F0 m (pc + 3) ls (.long (zL v) :: rest))) : W p l e R s m args below meth c H locs cells slots Q (F0 m pc ls (.ref (aL Γ) :: rest)) := by
  subst hx
  exact va_get (C := RX4) (T := TX4) (N := 12) (ci := 4) C.1 C.2.1 C.2.2.2.2 uw_X4 C.2.2.2.1 hG.1 hG.2.1 _ pL rfl 10 (by decide) (C.2.2.2.2 _ hl) (fun _ h => h) rfl hd k
theorem pf_L_toldLower (C : CallFix p m c cc nL s args tb own) (hG : GM Γ A σ s H locs) (hl : Cond.fieldLink own index "LostDays" "toldLower" "J" ∈ tb) (hd : decode cc pc = .ok (.putfield index, 3)) (k : ∀ (H1 : Heap) (locs1 : List Loc), GM Γ A (up σ 0 0 10 v) s H1 locs1 → W p l e R s m args below meth c H1 locs1 cells slots Q (F0 m (pc + 3) ls rest)) : W p l e R s m args below meth c H locs cells slots Q (F0 m pc ls (.long (zL v) :: .ref (aL Γ) :: rest)) :=
  va_put (C := RX4) (T := TX4) (N := 12) (ci := 4) (ty := .long) C.1 C.2.1 C.2.2.2.2 uw_X4 tyX4 tyX4_ok nmX4 C.2.2.2.1 hG.1 hG.2.1 hG.2.2.1 hG.2.2.2.1 _ pL rfl 10 (by decide) (C.2.2.2.2 _ hl) (fun _ h => h) rfl (by decide +kernel) rfl rfl (Nat.le_of_ble_eq_true rfl) hd (fun H1 l1 p1 d1 s1 => k H1 l1 ⟨hG.1, sL_10 ▸ p1, sL_10 ▸ d1, s1, hG.2.2.2.2⟩)
theorem gf_L_latestFinding (C : CallFix p m c cc nL s args tb own) (hG : GM Γ A σ s H locs) (hl : Cond.fieldLink own index "LostDays" "latestFinding" "I" ∈ tb) (hx : σ 0 0 11 = v) (hd : decode cc pc = .ok (.getfield index, 3)) (k : W p l e R s m args below meth c H locs cells slots Q (F0 m (pc + 3) ls (.int (zI v) :: rest))) : W p l e R s m args below meth c H locs cells slots Q (F0 m pc ls (.ref (aL Γ) :: rest)) := by
  subst hx
  exact va_get (C := RX4) (T := TX4) (N := 12) (ci := 4) C.1 C.2.1 C.2.2.2.2 uw_X4 C.2.2.2.1 hG.1 hG.2.1 _ pL rfl 11 (by decide) (C.2.2.2.2 _ hl) (fun _ h => h) rfl hd k
theorem pf_L_latestFinding (C : CallFix p m c cc nL s args tb own) (hG : GM Γ A σ s H locs) (hl : Cond.fieldLink own index "LostDays" "latestFinding" "I" ∈ tb) (hd : decode cc pc = .ok (.putfield index, 3)) (k : ∀ (H1 : Heap) (locs1 : List Loc), GM Γ A (up σ 0 0 11 v) s H1 locs1 → W p l e R s m args below meth c H1 locs1 cells slots Q (F0 m (pc + 3) ls rest)) : W p l e R s m args below meth c H locs cells slots Q (F0 m pc ls (.int (zI v) :: .ref (aL Γ) :: rest)) :=
  va_put (C := RX4) (T := TX4) (N := 12) (ci := 4) (ty := .int) C.1 C.2.1 C.2.2.2.2 uw_X4 tyX4 tyX4_ok nmX4 C.2.2.2.1 hG.1 hG.2.1 hG.2.2.1 hG.2.2.2.1 _ pL rfl 11 (by decide) (C.2.2.2.2 _ hl) (fun _ h => h) rfl (by decide +kernel) rfl rfl (Nat.le_of_ble_eq_true rfl) hd (fun H1 l1 p1 d1 s1 => k H1 l1 ⟨hG.1, sL_11 ▸ p1, sL_11 ▸ d1, s1, hG.2.2.2.2⟩)
theorem gf_Row_places (C : CallFix p m c cc nL s args tb own) (hG : GM Γ A σ s H locs) {i : Int} (hi : 0 ≤ i ∧ i < 6) (hl : Cond.fieldLink own index "LostDays$Row" "places" "[I" ∈ tb) (hd : decode cc pc = .ok (.getfield index, 3)) (k : W p l e R s m args below meth c H locs cells slots Q (F0 m (pc + 3) ls (.ref (aPl Γ i) :: rest))) : W p l e R s m args below meth c H locs cells slots Q (F0 m pc ls (.ref (aRow Γ i) :: rest)) := by
  skip
  exact va_get (C := RX2) (T := TX2) (N := 2) (ci := 2) C.1 C.2.1 C.2.2.2.2 uw_X2 C.2.2.2.1 hG.1 hG.2.1 _ (pRow hi) rfl 0 (by decide) (C.2.2.2.2 _ hl) (fun _ h => h) rfl hd k
theorem gf_Row_size (C : CallFix p m c cc nL s args tb own) (hG : GM Γ A σ s H locs) {i : Int} (hi : 0 ≤ i ∧ i < 6) (hl : Cond.fieldLink own index "LostDays$Row" "size" "I" ∈ tb) (hx : σ 2 i 1 = v) (hd : decode cc pc = .ok (.getfield index, 3)) (k : W p l e R s m args below meth c H locs cells slots Q (F0 m (pc + 3) ls (.int (zI v) :: rest))) : W p l e R s m args below meth c H locs cells slots Q (F0 m pc ls (.ref (aRow Γ i) :: rest)) := by
  subst hx
  exact va_get (C := RX2) (T := TX2) (N := 2) (ci := 2) C.1 C.2.1 C.2.2.2.2 uw_X2 C.2.2.2.1 hG.1 hG.2.1 _ (pRow hi) rfl 1 (by decide) (C.2.2.2.2 _ hl) (fun _ h => h) rfl hd k
theorem pf_Row_size (C : CallFix p m c cc nL s args tb own) (hG : GM Γ A σ s H locs) {i : Int} (hi : 0 ≤ i ∧ i < 6) (hl : Cond.fieldLink own index "LostDays$Row" "size" "I" ∈ tb) (hd : decode cc pc = .ok (.putfield index, 3)) (k : ∀ (H1 : Heap) (locs1 : List Loc), GM Γ A (up σ 2 i 1 v) s H1 locs1 → W p l e R s m args below meth c H1 locs1 cells slots Q (F0 m (pc + 3) ls rest)) : W p l e R s m args below meth c H locs cells slots Q (F0 m pc ls (.int (zI v) :: .ref (aRow Γ i) :: rest)) :=
  va_put (C := RX2) (T := TX2) (N := 2) (ci := 2) (ty := .int) C.1 C.2.1 C.2.2.2.2 uw_X2 tyX2 tyX2_ok nmX2 C.2.2.2.1 hG.1 hG.2.1 hG.2.2.1 hG.2.2.2.1 _ (pRow hi) rfl 1 (by decide) (C.2.2.2.2 _ hl) (fun _ h => h) rfl (by decide +kernel) rfl rfl (Nat.le_of_ble_eq_true rfl) hd (fun H1 l1 p1 d1 s1 => k H1 l1 ⟨hG.1, (sRow_1 hi) ▸ p1, (sRow_1 hi) ▸ d1, s1, hG.2.2.2.2⟩)
theorem gf_Tx_signs (C : CallFix p m c cc nL s args tb own) (hG : GM Γ A σ s H locs) {i : Int} (hi : 0 ≤ i ∧ i < 4) (hl : Cond.fieldLink own index "LostDays$Text" "signs" "[B" ∈ tb) (hd : decode cc pc = .ok (.getfield index, 3)) (k : W p l e R s m args below meth c H locs cells slots Q (F0 m (pc + 3) ls (.ref (aSg Γ i) :: rest))) : W p l e R s m args below meth c H locs cells slots Q (F0 m pc ls (.ref (aTx Γ i) :: rest)) := by
  skip
  exact va_get (C := RX3) (T := TX3) (N := 2) (ci := 3) C.1 C.2.1 C.2.2.2.2 uw_X3 C.2.2.2.1 hG.1 hG.2.1 _ (pTx hi) rfl 0 (by decide) (C.2.2.2.2 _ hl) (fun _ h => h) rfl hd k
theorem gf_Tx_size (C : CallFix p m c cc nL s args tb own) (hG : GM Γ A σ s H locs) {i : Int} (hi : 0 ≤ i ∧ i < 4) (hl : Cond.fieldLink own index "LostDays$Text" "size" "I" ∈ tb) (hx : σ 4 i 1 = v) (hd : decode cc pc = .ok (.getfield index, 3)) (k : W p l e R s m args below meth c H locs cells slots Q (F0 m (pc + 3) ls (.int (zI v) :: rest))) : W p l e R s m args below meth c H locs cells slots Q (F0 m pc ls (.ref (aTx Γ i) :: rest)) := by
  subst hx
  exact va_get (C := RX3) (T := TX3) (N := 2) (ci := 3) C.1 C.2.1 C.2.2.2.2 uw_X3 C.2.2.2.1 hG.1 hG.2.1 _ (pTx hi) rfl 1 (by decide) (C.2.2.2.2 _ hl) (fun _ h => h) rfl hd k
theorem pf_Tx_size (C : CallFix p m c cc nL s args tb own) (hG : GM Γ A σ s H locs) {i : Int} (hi : 0 ≤ i ∧ i < 4) (hl : Cond.fieldLink own index "LostDays$Text" "size" "I" ∈ tb) (hd : decode cc pc = .ok (.putfield index, 3)) (k : ∀ (H1 : Heap) (locs1 : List Loc), GM Γ A (up σ 4 i 1 v) s H1 locs1 → W p l e R s m args below meth c H1 locs1 cells slots Q (F0 m (pc + 3) ls rest)) : W p l e R s m args below meth c H locs cells slots Q (F0 m pc ls (.int (zI v) :: .ref (aTx Γ i) :: rest)) :=
  va_put (C := RX3) (T := TX3) (N := 2) (ci := 3) (ty := .int) C.1 C.2.1 C.2.2.2.2 uw_X3 tyX3 tyX3_ok nmX3 C.2.2.2.1 hG.1 hG.2.1 hG.2.2.1 hG.2.2.2.1 _ (pTx hi) rfl 1 (by decide) (C.2.2.2.2 _ hl) (fun _ h => h) rfl (by decide +kernel) rfl rfl (Nat.le_of_ble_eq_true rfl) hd (fun H1 l1 p1 d1 s1 => k H1 l1 ⟨hG.1, (sTx_1 hi) ▸ p1, (sTx_1 hi) ▸ d1, s1, hG.2.2.2.2⟩)
theorem gf_Cal_kind (C : CallFix p m c cc nL s args tb own) (hG : GM Γ A σ s H locs) {i : Int} (hi : 0 ≤ i ∧ i < 6) (hl : Cond.fieldLink own index "LostDays$Calendar" "kind" "I" ∈ tb) (hx : σ 6 i 0 = v) (hd : decode cc pc = .ok (.getfield index, 3)) (k : W p l e R s m args below meth c H locs cells slots Q (F0 m (pc + 3) ls (.int (zI v) :: rest))) : W p l e R s m args below meth c H locs cells slots Q (F0 m pc ls (.ref (aCal Γ i) :: rest)) := by
  subst hx
  exact va_get (C := RX0) (T := TX0) (N := 4) (ci := 0) C.1 C.2.1 C.2.2.2.2 uw_X0 C.2.2.2.1 hG.1 hG.2.1 _ (pCal hi) rfl 0 (by decide) (C.2.2.2.2 _ hl) (fun _ h => h) rfl hd k
theorem pf_Cal_kind (C : CallFix p m c cc nL s args tb own) (hG : GM Γ A σ s H locs) {i : Int} (hi : 0 ≤ i ∧ i < 6) (hl : Cond.fieldLink own index "LostDays$Calendar" "kind" "I" ∈ tb) (hd : decode cc pc = .ok (.putfield index, 3)) (k : ∀ (H1 : Heap) (locs1 : List Loc), GM Γ A (up σ 6 i 0 v) s H1 locs1 → W p l e R s m args below meth c H1 locs1 cells slots Q (F0 m (pc + 3) ls rest)) : W p l e R s m args below meth c H locs cells slots Q (F0 m pc ls (.int (zI v) :: .ref (aCal Γ i) :: rest)) :=
  va_put (C := RX0) (T := TX0) (N := 4) (ci := 0) (ty := .int) C.1 C.2.1 C.2.2.2.2 uw_X0 tyX0 tyX0_ok nmX0 C.2.2.2.1 hG.1 hG.2.1 hG.2.2.1 hG.2.2.2.1 _ (pCal hi) rfl 0 (by decide) (C.2.2.2.2 _ hl) (fun _ h => h) rfl (by decide +kernel) rfl rfl (Nat.le_of_ble_eq_true rfl) hd (fun H1 l1 p1 d1 s1 => k H1 l1 ⟨hG.1, (sCal_0 hi) ▸ p1, (sCal_0 hi) ▸ d1, s1, hG.2.2.2.2⟩)
theorem gf_Cal_leap (C : CallFix p m c cc nL s args tb own) (hG : GM Γ A σ s H locs) {i : Int} (hi : 0 ≤ i ∧ i < 6) (hl : Cond.fieldLink own index "LostDays$Calendar" "leap" "I" ∈ tb) (hx : σ 6 i 1 = v) (hd : decode cc pc = .ok (.getfield index, 3)) (k : W p l e R s m args below meth c H locs cells slots Q (F0 m (pc + 3) ls (.int (zI v) :: rest))) : W p l e R s m args below meth c H locs cells slots Q (F0 m pc ls (.ref (aCal Γ i) :: rest)) := by
  subst hx
  exact va_get (C := RX0) (T := TX0) (N := 4) (ci := 0) C.1 C.2.1 C.2.2.2.2 uw_X0 C.2.2.2.1 hG.1 hG.2.1 _ (pCal hi) rfl 1 (by decide) (C.2.2.2.2 _ hl) (fun _ h => h) rfl hd k
theorem pf_Cal_leap (C : CallFix p m c cc nL s args tb own) (hG : GM Γ A σ s H locs) {i : Int} (hi : 0 ≤ i ∧ i < 6) (hl : Cond.fieldLink own index "LostDays$Calendar" "leap" "I" ∈ tb) (hd : decode cc pc = .ok (.putfield index, 3)) (k : ∀ (H1 : Heap) (locs1 : List Loc), GM Γ A (up σ 6 i 1 v) s H1 locs1 → W p l e R s m args below meth c H1 locs1 cells slots Q (F0 m (pc + 3) ls rest)) : W p l e R s m args below meth c H locs cells slots Q (F0 m pc ls (.int (zI v) :: .ref (aCal Γ i) :: rest)) :=
  va_put (C := RX0) (T := TX0) (N := 4) (ci := 0) (ty := .int) C.1 C.2.1 C.2.2.2.2 uw_X0 tyX0 tyX0_ok nmX0 C.2.2.2.1 hG.1 hG.2.1 hG.2.2.1 hG.2.2.2.1 _ (pCal hi) rfl 1 (by decide) (C.2.2.2.2 _ hl) (fun _ h => h) rfl (by decide +kernel) rfl rfl (Nat.le_of_ble_eq_true rfl) hd (fun H1 l1 p1 d1 s1 => k H1 l1 ⟨hG.1, (sCal_1 hi) ▸ p1, (sCal_1 hi) ▸ d1, s1, hG.2.2.2.2⟩)
theorem gf_Cal_order (C : CallFix p m c cc nL s args tb own) (hG : GM Γ A σ s H locs) {i : Int} (hi : 0 ≤ i ∧ i < 6) (hl : Cond.fieldLink own index "LostDays$Calendar" "order" "I" ∈ tb) (hx : σ 6 i 2 = v) (hd : decode cc pc = .ok (.getfield index, 3)) (k : W p l e R s m args below meth c H locs cells slots Q (F0 m (pc + 3) ls (.int (zI v) :: rest))) : W p l e R s m args below meth c H locs cells slots Q (F0 m pc ls (.ref (aCal Γ i) :: rest)) := by
  subst hx
  exact va_get (C := RX0) (T := TX0) (N := 4) (ci := 0) C.1 C.2.1 C.2.2.2.2 uw_X0 C.2.2.2.1 hG.1 hG.2.1 _ (pCal hi) rfl 2 (by decide) (C.2.2.2.2 _ hl) (fun _ h => h) rfl hd k
theorem pf_Cal_order (C : CallFix p m c cc nL s args tb own) (hG : GM Γ A σ s H locs) {i : Int} (hi : 0 ≤ i ∧ i < 6) (hl : Cond.fieldLink own index "LostDays$Calendar" "order" "I" ∈ tb) (hd : decode cc pc = .ok (.putfield index, 3)) (k : ∀ (H1 : Heap) (locs1 : List Loc), GM Γ A (up σ 6 i 2 v) s H1 locs1 → W p l e R s m args below meth c H1 locs1 cells slots Q (F0 m (pc + 3) ls rest)) : W p l e R s m args below meth c H locs cells slots Q (F0 m pc ls (.int (zI v) :: .ref (aCal Γ i) :: rest)) :=
  va_put (C := RX0) (T := TX0) (N := 4) (ci := 0) (ty := .int) C.1 C.2.1 C.2.2.2.2 uw_X0 tyX0 tyX0_ok nmX0 C.2.2.2.1 hG.1 hG.2.1 hG.2.2.1 hG.2.2.2.1 _ (pCal hi) rfl 2 (by decide) (C.2.2.2.2 _ hl) (fun _ h => h) rfl (by decide +kernel) rfl rfl (Nat.le_of_ble_eq_true rfl) hd (fun H1 l1 p1 d1 s1 => k H1 l1 ⟨hG.1, (sCal_2 hi) ▸ p1, (sCal_2 hi) ▸ d1, s1, hG.2.2.2.2⟩)
theorem gf_Cal_gap (C : CallFix p m c cc nL s args tb own) (hG : GM Γ A σ s H locs) {i : Int} (hi : 0 ≤ i ∧ i < 6) (hl : Cond.fieldLink own index "LostDays$Calendar" "gap" "I" ∈ tb) (hx : σ 6 i 3 = v) (hd : decode cc pc = .ok (.getfield index, 3)) (k : W p l e R s m args below meth c H locs cells slots Q (F0 m (pc + 3) ls (.int (zI v) :: rest))) : W p l e R s m args below meth c H locs cells slots Q (F0 m pc ls (.ref (aCal Γ i) :: rest)) := by
  subst hx
  exact va_get (C := RX0) (T := TX0) (N := 4) (ci := 0) C.1 C.2.1 C.2.2.2.2 uw_X0 C.2.2.2.1 hG.1 hG.2.1 _ (pCal hi) rfl 3 (by decide) (C.2.2.2.2 _ hl) (fun _ h => h) rfl hd k
theorem pf_Cal_gap (C : CallFix p m c cc nL s args tb own) (hG : GM Γ A σ s H locs) {i : Int} (hi : 0 ≤ i ∧ i < 6) (hl : Cond.fieldLink own index "LostDays$Calendar" "gap" "I" ∈ tb) (hd : decode cc pc = .ok (.putfield index, 3)) (k : ∀ (H1 : Heap) (locs1 : List Loc), GM Γ A (up σ 6 i 3 v) s H1 locs1 → W p l e R s m args below meth c H1 locs1 cells slots Q (F0 m (pc + 3) ls rest)) : W p l e R s m args below meth c H locs cells slots Q (F0 m pc ls (.int (zI v) :: .ref (aCal Γ i) :: rest)) :=
  va_put (C := RX0) (T := TX0) (N := 4) (ci := 0) (ty := .int) C.1 C.2.1 C.2.2.2.2 uw_X0 tyX0 tyX0_ok nmX0 C.2.2.2.1 hG.1 hG.2.1 hG.2.2.1 hG.2.2.2.1 _ (pCal hi) rfl 3 (by decide) (C.2.2.2.2 _ hl) (fun _ h => h) rfl (by decide +kernel) rfl rfl (Nat.le_of_ble_eq_true rfl) hd (fun H1 l1 p1 d1 s1 => k H1 l1 ⟨hG.1, (sCal_3 hi) ▸ p1, (sCal_3 hi) ▸ d1, s1, hG.2.2.2.2⟩)
theorem gf_Kp_leaps (C : CallFix p m c cc nL s args tb own) (hG : GM Γ A σ s H locs) {i : Int} (hi : 0 ≤ i ∧ i < 3) (hl : Cond.fieldLink own index "LostDays$Kept" "leaps" "[I" ∈ tb) (hd : decode cc pc = .ok (.getfield index, 3)) (k : W p l e R s m args below meth c H locs cells slots Q (F0 m (pc + 3) ls (.ref (aKl Γ i) :: rest))) : W p l e R s m args below meth c H locs cells slots Q (F0 m pc ls (.ref (aKp Γ i) :: rest)) := by
  skip
  exact va_get (C := RX1) (T := TX1) (N := 5) (ci := 1) C.1 C.2.1 C.2.2.2.2 uw_X1 C.2.2.2.1 hG.1 hG.2.1 _ (pKp hi) rfl 0 (by decide) (C.2.2.2.2 _ hl) (fun _ h => h) rfl hd k
theorem gf_Kp_orders (C : CallFix p m c cc nL s args tb own) (hG : GM Γ A σ s H locs) {i : Int} (hi : 0 ≤ i ∧ i < 3) (hl : Cond.fieldLink own index "LostDays$Kept" "orders" "[I" ∈ tb) (hd : decode cc pc = .ok (.getfield index, 3)) (k : W p l e R s m args below meth c H locs cells slots Q (F0 m (pc + 3) ls (.ref (aKo Γ i) :: rest))) : W p l e R s m args below meth c H locs cells slots Q (F0 m pc ls (.ref (aKp Γ i) :: rest)) := by
  skip
  exact va_get (C := RX1) (T := TX1) (N := 5) (ci := 1) C.1 C.2.1 C.2.2.2.2 uw_X1 C.2.2.2.1 hG.1 hG.2.1 _ (pKp hi) rfl 1 (by decide) (C.2.2.2.2 _ hl) (fun _ h => h) rfl hd k
theorem gf_Kp_gaps (C : CallFix p m c cc nL s args tb own) (hG : GM Γ A σ s H locs) {i : Int} (hi : 0 ≤ i ∧ i < 3) (hl : Cond.fieldLink own index "LostDays$Kept" "gaps" "[I" ∈ tb) (hd : decode cc pc = .ok (.getfield index, 3)) (k : W p l e R s m args below meth c H locs cells slots Q (F0 m (pc + 3) ls (.ref (aKg Γ i) :: rest))) : W p l e R s m args below meth c H locs cells slots Q (F0 m pc ls (.ref (aKp Γ i) :: rest)) := by
  skip
  exact va_get (C := RX1) (T := TX1) (N := 5) (ci := 1) C.1 C.2.1 C.2.2.2.2 uw_X1 C.2.2.2.1 hG.1 hG.2.1 _ (pKp hi) rfl 2 (by decide) (C.2.2.2.2 _ hl) (fun _ h => h) rfl hd k
theorem gf_Kp_isThere (C : CallFix p m c cc nL s args tb own) (hG : GM Γ A σ s H locs) {i : Int} (hi : 0 ≤ i ∧ i < 3) (hl : Cond.fieldLink own index "LostDays$Kept" "isThere" "Z" ∈ tb) (hx : σ 7 i 3 = v) (hd : decode cc pc = .ok (.getfield index, 3)) (k : W p l e R s m args below meth c H locs cells slots Q (F0 m (pc + 3) ls (.int (zI v) :: rest))) : W p l e R s m args below meth c H locs cells slots Q (F0 m pc ls (.ref (aKp Γ i) :: rest)) := by
  subst hx
  exact va_get (C := RX1) (T := TX1) (N := 5) (ci := 1) C.1 C.2.1 C.2.2.2.2 uw_X1 C.2.2.2.1 hG.1 hG.2.1 _ (pKp hi) rfl 3 (by decide) (C.2.2.2.2 _ hl) (fun _ h => h) rfl hd k
theorem pf_Kp_isThere (C : CallFix p m c cc nL s args tb own) (hG : GM Γ A σ s H locs) {i : Int} (hi : 0 ≤ i ∧ i < 3) (hl : Cond.fieldLink own index "LostDays$Kept" "isThere" "Z" ∈ tb) (hb : v = 0 ∨ v = 1) (hd : decode cc pc = .ok (.putfield index, 3)) (k : ∀ (H1 : Heap) (locs1 : List Loc), GM Γ A (up σ 7 i 3 v) s H1 locs1 → W p l e R s m args below meth c H1 locs1 cells slots Q (F0 m (pc + 3) ls rest)) : W p l e R s m args below meth c H locs cells slots Q (F0 m pc ls (.int (zI v) :: .ref (aKp Γ i) :: rest)) :=
  va_put (C := RX1) (T := TX1) (N := 5) (ci := 1) (ty := .boolean) C.1 C.2.1 C.2.2.2.2 uw_X1 tyX1 tyX1_ok nmX1 C.2.2.2.1 hG.1 hG.2.1 hG.2.2.1 hG.2.2.2.1 _ (pKp hi) rfl 3 (by decide) (C.2.2.2.2 _ hl) (fun _ h => h) rfl (by decide +kernel) (by rcases hb with rfl | rfl <;> decide +kernel) (by rcases hb with rfl | rfl <;> decide +kernel) (Nat.le_of_ble_eq_true rfl) hd (fun H1 l1 p1 d1 s1 => k H1 l1 ⟨hG.1, (sKp_3 hi) ▸ p1, (sKp_3 hi) ▸ d1, s1, hG.2.2.2.2⟩)
theorem gf_Kp_today (C : CallFix p m c cc nL s args tb own) (hG : GM Γ A σ s H locs) {i : Int} (hi : 0 ≤ i ∧ i < 3) (hl : Cond.fieldLink own index "LostDays$Kept" "today" "I" ∈ tb) (hx : σ 7 i 4 = v) (hd : decode cc pc = .ok (.getfield index, 3)) (k : W p l e R s m args below meth c H locs cells slots Q (F0 m (pc + 3) ls (.int (zI v) :: rest))) : W p l e R s m args below meth c H locs cells slots Q (F0 m pc ls (.ref (aKp Γ i) :: rest)) := by
  subst hx
  exact va_get (C := RX1) (T := TX1) (N := 5) (ci := 1) C.1 C.2.1 C.2.2.2.2 uw_X1 C.2.2.2.1 hG.1 hG.2.1 _ (pKp hi) rfl 4 (by decide) (C.2.2.2.2 _ hl) (fun _ h => h) rfl hd k
theorem pf_Kp_today (C : CallFix p m c cc nL s args tb own) (hG : GM Γ A σ s H locs) {i : Int} (hi : 0 ≤ i ∧ i < 3) (hl : Cond.fieldLink own index "LostDays$Kept" "today" "I" ∈ tb) (hd : decode cc pc = .ok (.putfield index, 3)) (k : ∀ (H1 : Heap) (locs1 : List Loc), GM Γ A (up σ 7 i 4 v) s H1 locs1 → W p l e R s m args below meth c H1 locs1 cells slots Q (F0 m (pc + 3) ls rest)) : W p l e R s m args below meth c H locs cells slots Q (F0 m pc ls (.int (zI v) :: .ref (aKp Γ i) :: rest)) :=
  va_put (C := RX1) (T := TX1) (N := 5) (ci := 1) (ty := .int) C.1 C.2.1 C.2.2.2.2 uw_X1 tyX1 tyX1_ok nmX1 C.2.2.2.1 hG.1 hG.2.1 hG.2.2.1 hG.2.2.2.1 _ (pKp hi) rfl 4 (by decide) (C.2.2.2.2 _ hl) (fun _ h => h) rfl (by decide +kernel) rfl rfl (Nat.le_of_ble_eq_true rfl) hd (fun H1 l1 p1 d1 s1 => k H1 l1 ⟨hG.1, (sKp_4 hi) ▸ p1, (sKp_4 hi) ▸ d1, s1, hG.2.2.2.2⟩)
theorem gf_M_finding (C : CallFix p m c cc nL s args tb own) (hG : GM Γ A σ s H locs) (hl : Cond.fieldLink own index "LostDaysModel" "finding" "I" ∈ tb) (hx : σ 20 0 0 = v) (hd : decode cc pc = .ok (.getfield index, 3)) (k : W p l e R s m args below meth c H locs cells slots Q (F0 m (pc + 3) ls (.int (zI v) :: rest))) : W p l e R s m args below meth c H locs cells slots Q (F0 m pc ls (.ref (aM Γ) :: rest)) := by
  subst hx
  exact va_get (C := RX5) (T := TX5) (N := 25) (ci := 5) C.1 C.2.1 C.2.2.2.2 uw_X5 C.2.2.2.1 hG.1 hG.2.1 _ pM rfl 0 (by decide) (C.2.2.2.2 _ hl) (fun _ h => h) rfl hd k
theorem pf_M_finding (C : CallFix p m c cc nL s args tb own) (hG : GM Γ A σ s H locs) (hl : Cond.fieldLink own index "LostDaysModel" "finding" "I" ∈ tb) (hd : decode cc pc = .ok (.putfield index, 3)) (k : ∀ (H1 : Heap) (locs1 : List Loc), GM Γ A (up σ 20 0 0 v) s H1 locs1 → W p l e R s m args below meth c H1 locs1 cells slots Q (F0 m (pc + 3) ls rest)) : W p l e R s m args below meth c H locs cells slots Q (F0 m pc ls (.int (zI v) :: .ref (aM Γ) :: rest)) :=
  va_put (C := RX5) (T := TX5) (N := 25) (ci := 5) (ty := .int) C.1 C.2.1 C.2.2.2.2 uw_X5 tyX5 tyX5_ok nmX5 C.2.2.2.1 hG.1 hG.2.1 hG.2.2.1 hG.2.2.2.1 _ pM rfl 0 (by decide) (C.2.2.2.2 _ hl) (fun _ h => h) rfl (by decide +kernel) rfl rfl (Nat.le_of_ble_eq_true rfl) hd (fun H1 l1 p1 d1 s1 => k H1 l1 ⟨hG.1, sM_0 ▸ p1, sM_0 ▸ d1, s1, hG.2.2.2.2⟩)
theorem gf_M_findings (C : CallFix p m c cc nL s args tb own) (hG : GM Γ A σ s H locs) (hl : Cond.fieldLink own index "LostDaysModel" "findings" "[I" ∈ tb) (hd : decode cc pc = .ok (.getfield index, 3)) (k : W p l e R s m args below meth c H locs cells slots Q (F0 m (pc + 3) ls (.ref (am_findings Γ) :: rest))) : W p l e R s m args below meth c H locs cells slots Q (F0 m pc ls (.ref (aM Γ) :: rest)) := by
  skip
  exact va_get (C := RX5) (T := TX5) (N := 25) (ci := 5) C.1 C.2.1 C.2.2.2.2 uw_X5 C.2.2.2.1 hG.1 hG.2.1 _ pM rfl 1 (by decide) (C.2.2.2.2 _ hl) (fun _ h => h) rfl hd k
theorem gf_M_asked (C : CallFix p m c cc nL s args tb own) (hG : GM Γ A σ s H locs) (hl : Cond.fieldLink own index "LostDaysModel" "asked" "I" ∈ tb) (hx : σ 20 0 2 = v) (hd : decode cc pc = .ok (.getfield index, 3)) (k : W p l e R s m args below meth c H locs cells slots Q (F0 m (pc + 3) ls (.int (zI v) :: rest))) : W p l e R s m args below meth c H locs cells slots Q (F0 m pc ls (.ref (aM Γ) :: rest)) := by
  subst hx
  exact va_get (C := RX5) (T := TX5) (N := 25) (ci := 5) C.1 C.2.1 C.2.2.2.2 uw_X5 C.2.2.2.1 hG.1 hG.2.1 _ pM rfl 2 (by decide) (C.2.2.2.2 _ hl) (fun _ h => h) rfl hd k
theorem pf_M_asked (C : CallFix p m c cc nL s args tb own) (hG : GM Γ A σ s H locs) (hl : Cond.fieldLink own index "LostDaysModel" "asked" "I" ∈ tb) (hd : decode cc pc = .ok (.putfield index, 3)) (k : ∀ (H1 : Heap) (locs1 : List Loc), GM Γ A (up σ 20 0 2 v) s H1 locs1 → W p l e R s m args below meth c H1 locs1 cells slots Q (F0 m (pc + 3) ls rest)) : W p l e R s m args below meth c H locs cells slots Q (F0 m pc ls (.int (zI v) :: .ref (aM Γ) :: rest)) :=
  va_put (C := RX5) (T := TX5) (N := 25) (ci := 5) (ty := .int) C.1 C.2.1 C.2.2.2.2 uw_X5 tyX5 tyX5_ok nmX5 C.2.2.2.1 hG.1 hG.2.1 hG.2.2.1 hG.2.2.2.1 _ pM rfl 2 (by decide) (C.2.2.2.2 _ hl) (fun _ h => h) rfl (by decide +kernel) rfl rfl (Nat.le_of_ble_eq_true rfl) hd (fun H1 l1 p1 d1 s1 => k H1 l1 ⟨hG.1, sM_2 ▸ p1, sM_2 ▸ d1, s1, hG.2.2.2.2⟩)
theorem gf_M_upper (C : CallFix p m c cc nL s args tb own) (hG : GM Γ A σ s H locs) (hl : Cond.fieldLink own index "LostDaysModel" "upper" "J" ∈ tb) (hx : σ 20 0 3 = v) (hd : decode cc pc = .ok (.getfield index, 3)) (k : W p l e R s m args below meth c H locs cells slots Q (F0 m (pc + 3) ls (.long (zL v) :: rest))) : W p l e R s m args below meth c H locs cells slots Q (F0 m pc ls (.ref (aM Γ) :: rest)) := by
  subst hx
  exact va_get (C := RX5) (T := TX5) (N := 25) (ci := 5) C.1 C.2.1 C.2.2.2.2 uw_X5 C.2.2.2.1 hG.1 hG.2.1 _ pM rfl 3 (by decide) (C.2.2.2.2 _ hl) (fun _ h => h) rfl hd k
theorem pf_M_upper (C : CallFix p m c cc nL s args tb own) (hG : GM Γ A σ s H locs) (hl : Cond.fieldLink own index "LostDaysModel" "upper" "J" ∈ tb) (hd : decode cc pc = .ok (.putfield index, 3)) (k : ∀ (H1 : Heap) (locs1 : List Loc), GM Γ A (up σ 20 0 3 v) s H1 locs1 → W p l e R s m args below meth c H1 locs1 cells slots Q (F0 m (pc + 3) ls rest)) : W p l e R s m args below meth c H locs cells slots Q (F0 m pc ls (.long (zL v) :: .ref (aM Γ) :: rest)) :=
  va_put (C := RX5) (T := TX5) (N := 25) (ci := 5) (ty := .long) C.1 C.2.1 C.2.2.2.2 uw_X5 tyX5 tyX5_ok nmX5 C.2.2.2.1 hG.1 hG.2.1 hG.2.2.1 hG.2.2.2.1 _ pM rfl 3 (by decide) (C.2.2.2.2 _ hl) (fun _ h => h) rfl (by decide +kernel) rfl rfl (Nat.le_of_ble_eq_true rfl) hd (fun H1 l1 p1 d1 s1 => k H1 l1 ⟨hG.1, sM_3 ▸ p1, sM_3 ▸ d1, s1, hG.2.2.2.2⟩)
theorem gf_M_lower (C : CallFix p m c cc nL s args tb own) (hG : GM Γ A σ s H locs) (hl : Cond.fieldLink own index "LostDaysModel" "lower" "J" ∈ tb) (hx : σ 20 0 4 = v) (hd : decode cc pc = .ok (.getfield index, 3)) (k : W p l e R s m args below meth c H locs cells slots Q (F0 m (pc + 3) ls (.long (zL v) :: rest))) : W p l e R s m args below meth c H locs cells slots Q (F0 m pc ls (.ref (aM Γ) :: rest)) := by
  subst hx
  exact va_get (C := RX5) (T := TX5) (N := 25) (ci := 5) C.1 C.2.1 C.2.2.2.2 uw_X5 C.2.2.2.1 hG.1 hG.2.1 _ pM rfl 4 (by decide) (C.2.2.2.2 _ hl) (fun _ h => h) rfl hd k
theorem pf_M_lower (C : CallFix p m c cc nL s args tb own) (hG : GM Γ A σ s H locs) (hl : Cond.fieldLink own index "LostDaysModel" "lower" "J" ∈ tb) (hd : decode cc pc = .ok (.putfield index, 3)) (k : ∀ (H1 : Heap) (locs1 : List Loc), GM Γ A (up σ 20 0 4 v) s H1 locs1 → W p l e R s m args below meth c H1 locs1 cells slots Q (F0 m (pc + 3) ls rest)) : W p l e R s m args below meth c H locs cells slots Q (F0 m pc ls (.long (zL v) :: .ref (aM Γ) :: rest)) :=
  va_put (C := RX5) (T := TX5) (N := 25) (ci := 5) (ty := .long) C.1 C.2.1 C.2.2.2.2 uw_X5 tyX5 tyX5_ok nmX5 C.2.2.2.1 hG.1 hG.2.1 hG.2.2.1 hG.2.2.2.1 _ pM rfl 4 (by decide) (C.2.2.2.2 _ hl) (fun _ h => h) rfl (by decide +kernel) rfl rfl (Nat.le_of_ble_eq_true rfl) hd (fun H1 l1 p1 d1 s1 => k H1 l1 ⟨hG.1, sM_4 ▸ p1, sM_4 ▸ d1, s1, hG.2.2.2.2⟩)
theorem gf_M_sizes (C : CallFix p m c cc nL s args tb own) (hG : GM Γ A σ s H locs) (hl : Cond.fieldLink own index "LostDaysModel" "sizes" "[I" ∈ tb) (hd : decode cc pc = .ok (.getfield index, 3)) (k : W p l e R s m args below meth c H locs cells slots Q (F0 m (pc + 3) ls (.ref (am_sizes Γ) :: rest))) : W p l e R s m args below meth c H locs cells slots Q (F0 m pc ls (.ref (aM Γ) :: rest)) := by
  skip
  exact va_get (C := RX5) (T := TX5) (N := 25) (ci := 5) C.1 C.2.1 C.2.2.2.2 uw_X5 C.2.2.2.1 hG.1 hG.2.1 _ pM rfl 5 (by decide) (C.2.2.2.2 _ hl) (fun _ h => h) rfl hd k
theorem gf_M_rows (C : CallFix p m c cc nL s args tb own) (hG : GM Γ A σ s H locs) (hl : Cond.fieldLink own index "LostDaysModel" "rows" "[I" ∈ tb) (hd : decode cc pc = .ok (.getfield index, 3)) (k : W p l e R s m args below meth c H locs cells slots Q (F0 m (pc + 3) ls (.ref (am_rows Γ) :: rest))) : W p l e R s m args below meth c H locs cells slots Q (F0 m pc ls (.ref (aM Γ) :: rest)) := by
  skip
  exact va_get (C := RX5) (T := TX5) (N := 25) (ci := 5) C.1 C.2.1 C.2.2.2.2 uw_X5 C.2.2.2.1 hG.1 hG.2.1 _ pM rfl 6 (by decide) (C.2.2.2.2 _ hl) (fun _ h => h) rfl hd k
theorem gf_M_moving (C : CallFix p m c cc nL s args tb own) (hG : GM Γ A σ s H locs) (hl : Cond.fieldLink own index "LostDaysModel" "moving" "[I" ∈ tb) (hd : decode cc pc = .ok (.getfield index, 3)) (k : W p l e R s m args below meth c H locs cells slots Q (F0 m (pc + 3) ls (.ref (am_moving Γ) :: rest))) : W p l e R s m args below meth c H locs cells slots Q (F0 m pc ls (.ref (aM Γ) :: rest)) := by
  skip
  exact va_get (C := RX5) (T := TX5) (N := 25) (ci := 5) C.1 C.2.1 C.2.2.2.2 uw_X5 C.2.2.2.1 hG.1 hG.2.1 _ pM rfl 7 (by decide) (C.2.2.2.2 _ hl) (fun _ h => h) rfl hd k
theorem gf_M_lengths (C : CallFix p m c cc nL s args tb own) (hG : GM Γ A σ s H locs) (hl : Cond.fieldLink own index "LostDaysModel" "lengths" "[I" ∈ tb) (hd : decode cc pc = .ok (.getfield index, 3)) (k : W p l e R s m args below meth c H locs cells slots Q (F0 m (pc + 3) ls (.ref (am_lengths Γ) :: rest))) : W p l e R s m args below meth c H locs cells slots Q (F0 m pc ls (.ref (aM Γ) :: rest)) := by
  skip
  exact va_get (C := RX5) (T := TX5) (N := 25) (ci := 5) C.1 C.2.1 C.2.2.2.2 uw_X5 C.2.2.2.1 hG.1 hG.2.1 _ pM rfl 8 (by decide) (C.2.2.2.2 _ hl) (fun _ h => h) rfl hd k
theorem gf_M_texts (C : CallFix p m c cc nL s args tb own) (hG : GM Γ A σ s H locs) (hl : Cond.fieldLink own index "LostDaysModel" "texts" "[I" ∈ tb) (hd : decode cc pc = .ok (.getfield index, 3)) (k : W p l e R s m args below meth c H locs cells slots Q (F0 m (pc + 3) ls (.ref (am_texts Γ) :: rest))) : W p l e R s m args below meth c H locs cells slots Q (F0 m pc ls (.ref (aM Γ) :: rest)) := by
  skip
  exact va_get (C := RX5) (T := TX5) (N := 25) (ci := 5) C.1 C.2.1 C.2.2.2.2 uw_X5 C.2.2.2.1 hG.1 hG.2.1 _ pM rfl 9 (by decide) (C.2.2.2.2 _ hl) (fun _ h => h) rfl hd k
theorem gf_M_many (C : CallFix p m c cc nL s args tb own) (hG : GM Γ A σ s H locs) (hl : Cond.fieldLink own index "LostDaysModel" "many" "I" ∈ tb) (hx : σ 20 0 10 = v) (hd : decode cc pc = .ok (.getfield index, 3)) (k : W p l e R s m args below meth c H locs cells slots Q (F0 m (pc + 3) ls (.int (zI v) :: rest))) : W p l e R s m args below meth c H locs cells slots Q (F0 m pc ls (.ref (aM Γ) :: rest)) := by
  subst hx
  exact va_get (C := RX5) (T := TX5) (N := 25) (ci := 5) C.1 C.2.1 C.2.2.2.2 uw_X5 C.2.2.2.1 hG.1 hG.2.1 _ pM rfl 10 (by decide) (C.2.2.2.2 _ hl) (fun _ h => h) rfl hd k
theorem pf_M_many (C : CallFix p m c cc nL s args tb own) (hG : GM Γ A σ s H locs) (hl : Cond.fieldLink own index "LostDaysModel" "many" "I" ∈ tb) (hd : decode cc pc = .ok (.putfield index, 3)) (k : ∀ (H1 : Heap) (locs1 : List Loc), GM Γ A (up σ 20 0 10 v) s H1 locs1 → W p l e R s m args below meth c H1 locs1 cells slots Q (F0 m (pc + 3) ls rest)) : W p l e R s m args below meth c H locs cells slots Q (F0 m pc ls (.int (zI v) :: .ref (aM Γ) :: rest)) :=
  va_put (C := RX5) (T := TX5) (N := 25) (ci := 5) (ty := .int) C.1 C.2.1 C.2.2.2.2 uw_X5 tyX5 tyX5_ok nmX5 C.2.2.2.1 hG.1 hG.2.1 hG.2.2.1 hG.2.2.2.1 _ pM rfl 10 (by decide) (C.2.2.2.2 _ hl) (fun _ h => h) rfl (by decide +kernel) rfl rfl (Nat.le_of_ble_eq_true rfl) hd (fun H1 l1 p1 d1 s1 => k H1 l1 ⟨hG.1, sM_10 ▸ p1, sM_10 ▸ d1, s1, hG.2.2.2.2⟩)
theorem gf_M_today (C : CallFix p m c cc nL s args tb own) (hG : GM Γ A σ s H locs) (hl : Cond.fieldLink own index "LostDaysModel" "today" "I" ∈ tb) (hx : σ 20 0 11 = v) (hd : decode cc pc = .ok (.getfield index, 3)) (k : W p l e R s m args below meth c H locs cells slots Q (F0 m (pc + 3) ls (.int (zI v) :: rest))) : W p l e R s m args below meth c H locs cells slots Q (F0 m pc ls (.ref (aM Γ) :: rest)) := by
  subst hx
  exact va_get (C := RX5) (T := TX5) (N := 25) (ci := 5) C.1 C.2.1 C.2.2.2.2 uw_X5 C.2.2.2.1 hG.1 hG.2.1 _ pM rfl 11 (by decide) (C.2.2.2.2 _ hl) (fun _ h => h) rfl hd k
theorem pf_M_today (C : CallFix p m c cc nL s args tb own) (hG : GM Γ A σ s H locs) (hl : Cond.fieldLink own index "LostDaysModel" "today" "I" ∈ tb) (hd : decode cc pc = .ok (.putfield index, 3)) (k : ∀ (H1 : Heap) (locs1 : List Loc), GM Γ A (up σ 20 0 11 v) s H1 locs1 → W p l e R s m args below meth c H1 locs1 cells slots Q (F0 m (pc + 3) ls rest)) : W p l e R s m args below meth c H locs cells slots Q (F0 m pc ls (.int (zI v) :: .ref (aM Γ) :: rest)) :=
  va_put (C := RX5) (T := TX5) (N := 25) (ci := 5) (ty := .int) C.1 C.2.1 C.2.2.2.2 uw_X5 tyX5 tyX5_ok nmX5 C.2.2.2.1 hG.1 hG.2.1 hG.2.2.1 hG.2.2.2.1 _ pM rfl 11 (by decide) (C.2.2.2.2 _ hl) (fun _ h => h) rfl (by decide +kernel) rfl rfl (Nat.le_of_ble_eq_true rfl) hd (fun H1 l1 p1 d1 s1 => k H1 l1 ⟨hG.1, sM_11 ▸ p1, sM_11 ▸ d1, s1, hG.2.2.2.2⟩)
theorem gf_M_kindOf (C : CallFix p m c cc nL s args tb own) (hG : GM Γ A σ s H locs) (hl : Cond.fieldLink own index "LostDaysModel" "kindOf" "[I" ∈ tb) (hd : decode cc pc = .ok (.getfield index, 3)) (k : W p l e R s m args below meth c H locs cells slots Q (F0 m (pc + 3) ls (.ref (am_kindOf Γ) :: rest))) : W p l e R s m args below meth c H locs cells slots Q (F0 m pc ls (.ref (aM Γ) :: rest)) := by
  skip
  exact va_get (C := RX5) (T := TX5) (N := 25) (ci := 5) C.1 C.2.1 C.2.2.2.2 uw_X5 C.2.2.2.1 hG.1 hG.2.1 _ pM rfl 12 (by decide) (C.2.2.2.2 _ hl) (fun _ h => h) rfl hd k
theorem gf_M_leapOf (C : CallFix p m c cc nL s args tb own) (hG : GM Γ A σ s H locs) (hl : Cond.fieldLink own index "LostDaysModel" "leapOf" "[I" ∈ tb) (hd : decode cc pc = .ok (.getfield index, 3)) (k : W p l e R s m args below meth c H locs cells slots Q (F0 m (pc + 3) ls (.ref (am_leapOf Γ) :: rest))) : W p l e R s m args below meth c H locs cells slots Q (F0 m pc ls (.ref (aM Γ) :: rest)) := by
  skip
  exact va_get (C := RX5) (T := TX5) (N := 25) (ci := 5) C.1 C.2.1 C.2.2.2.2 uw_X5 C.2.2.2.1 hG.1 hG.2.1 _ pM rfl 13 (by decide) (C.2.2.2.2 _ hl) (fun _ h => h) rfl hd k
theorem gf_M_orderOf (C : CallFix p m c cc nL s args tb own) (hG : GM Γ A σ s H locs) (hl : Cond.fieldLink own index "LostDaysModel" "orderOf" "[I" ∈ tb) (hd : decode cc pc = .ok (.getfield index, 3)) (k : W p l e R s m args below meth c H locs cells slots Q (F0 m (pc + 3) ls (.ref (am_orderOf Γ) :: rest))) : W p l e R s m args below meth c H locs cells slots Q (F0 m pc ls (.ref (aM Γ) :: rest)) := by
  skip
  exact va_get (C := RX5) (T := TX5) (N := 25) (ci := 5) C.1 C.2.1 C.2.2.2.2 uw_X5 C.2.2.2.1 hG.1 hG.2.1 _ pM rfl 14 (by decide) (C.2.2.2.2 _ hl) (fun _ h => h) rfl hd k
theorem gf_M_gapOf (C : CallFix p m c cc nL s args tb own) (hG : GM Γ A σ s H locs) (hl : Cond.fieldLink own index "LostDaysModel" "gapOf" "[I" ∈ tb) (hd : decode cc pc = .ok (.getfield index, 3)) (k : W p l e R s m args below meth c H locs cells slots Q (F0 m (pc + 3) ls (.ref (am_gapOf Γ) :: rest))) : W p l e R s m args below meth c H locs cells slots Q (F0 m pc ls (.ref (aM Γ) :: rest)) := by
  skip
  exact va_get (C := RX5) (T := TX5) (N := 25) (ci := 5) C.1 C.2.1 C.2.2.2.2 uw_X5 C.2.2.2.1 hG.1 hG.2.1 _ pM rfl 15 (by decide) (C.2.2.2.2 _ hl) (fun _ h => h) rfl hd k
theorem gf_M_readAt (C : CallFix p m c cc nL s args tb own) (hG : GM Γ A σ s H locs) (hl : Cond.fieldLink own index "LostDaysModel" "readAt" "I" ∈ tb) (hx : σ 20 0 16 = v) (hd : decode cc pc = .ok (.getfield index, 3)) (k : W p l e R s m args below meth c H locs cells slots Q (F0 m (pc + 3) ls (.int (zI v) :: rest))) : W p l e R s m args below meth c H locs cells slots Q (F0 m pc ls (.ref (aM Γ) :: rest)) := by
  subst hx
  exact va_get (C := RX5) (T := TX5) (N := 25) (ci := 5) C.1 C.2.1 C.2.2.2.2 uw_X5 C.2.2.2.1 hG.1 hG.2.1 _ pM rfl 16 (by decide) (C.2.2.2.2 _ hl) (fun _ h => h) rfl hd k
theorem pf_M_readAt (C : CallFix p m c cc nL s args tb own) (hG : GM Γ A σ s H locs) (hl : Cond.fieldLink own index "LostDaysModel" "readAt" "I" ∈ tb) (hd : decode cc pc = .ok (.putfield index, 3)) (k : ∀ (H1 : Heap) (locs1 : List Loc), GM Γ A (up σ 20 0 16 v) s H1 locs1 → W p l e R s m args below meth c H1 locs1 cells slots Q (F0 m (pc + 3) ls rest)) : W p l e R s m args below meth c H locs cells slots Q (F0 m pc ls (.int (zI v) :: .ref (aM Γ) :: rest)) :=
  va_put (C := RX5) (T := TX5) (N := 25) (ci := 5) (ty := .int) C.1 C.2.1 C.2.2.2.2 uw_X5 tyX5 tyX5_ok nmX5 C.2.2.2.1 hG.1 hG.2.1 hG.2.2.1 hG.2.2.2.1 _ pM rfl 16 (by decide) (C.2.2.2.2 _ hl) (fun _ h => h) rfl (by decide +kernel) rfl rfl (Nat.le_of_ble_eq_true rfl) hd (fun H1 l1 p1 d1 s1 => k H1 l1 ⟨hG.1, sM_16 ▸ p1, sM_16 ▸ d1, s1, hG.2.2.2.2⟩)
theorem gf_M_readMany (C : CallFix p m c cc nL s args tb own) (hG : GM Γ A σ s H locs) (hl : Cond.fieldLink own index "LostDaysModel" "readMany" "I" ∈ tb) (hx : σ 20 0 17 = v) (hd : decode cc pc = .ok (.getfield index, 3)) (k : W p l e R s m args below meth c H locs cells slots Q (F0 m (pc + 3) ls (.int (zI v) :: rest))) : W p l e R s m args below meth c H locs cells slots Q (F0 m pc ls (.ref (aM Γ) :: rest)) := by
  subst hx
  exact va_get (C := RX5) (T := TX5) (N := 25) (ci := 5) C.1 C.2.1 C.2.2.2.2 uw_X5 C.2.2.2.1 hG.1 hG.2.1 _ pM rfl 17 (by decide) (C.2.2.2.2 _ hl) (fun _ h => h) rfl hd k
theorem pf_M_readMany (C : CallFix p m c cc nL s args tb own) (hG : GM Γ A σ s H locs) (hl : Cond.fieldLink own index "LostDaysModel" "readMany" "I" ∈ tb) (hd : decode cc pc = .ok (.putfield index, 3)) (k : ∀ (H1 : Heap) (locs1 : List Loc), GM Γ A (up σ 20 0 17 v) s H1 locs1 → W p l e R s m args below meth c H1 locs1 cells slots Q (F0 m (pc + 3) ls rest)) : W p l e R s m args below meth c H locs cells slots Q (F0 m pc ls (.int (zI v) :: .ref (aM Γ) :: rest)) :=
  va_put (C := RX5) (T := TX5) (N := 25) (ci := 5) (ty := .int) C.1 C.2.1 C.2.2.2.2 uw_X5 tyX5 tyX5_ok nmX5 C.2.2.2.1 hG.1 hG.2.1 hG.2.2.1 hG.2.2.2.1 _ pM rfl 17 (by decide) (C.2.2.2.2 _ hl) (fun _ h => h) rfl (by decide +kernel) rfl rfl (Nat.le_of_ble_eq_true rfl) hd (fun H1 l1 p1 d1 s1 => k H1 l1 ⟨hG.1, sM_17 ▸ p1, sM_17 ▸ d1, s1, hG.2.2.2.2⟩)
theorem gf_M_read (C : CallFix p m c cc nL s args tb own) (hG : GM Γ A σ s H locs) (hl : Cond.fieldLink own index "LostDaysModel" "read" "[I" ∈ tb) (hd : decode cc pc = .ok (.getfield index, 3)) (k : W p l e R s m args below meth c H locs cells slots Q (F0 m (pc + 3) ls (.ref (am_read Γ) :: rest))) : W p l e R s m args below meth c H locs cells slots Q (F0 m pc ls (.ref (aM Γ) :: rest)) := by
  skip
  exact va_get (C := RX5) (T := TX5) (N := 25) (ci := 5) C.1 C.2.1 C.2.2.2.2 uw_X5 C.2.2.2.1 hG.1 hG.2.1 _ pM rfl 18 (by decide) (C.2.2.2.2 _ hl) (fun _ h => h) rfl hd k
theorem gf_M_kind (C : CallFix p m c cc nL s args tb own) (hG : GM Γ A σ s H locs) (hl : Cond.fieldLink own index "LostDaysModel" "kind" "I" ∈ tb) (hx : σ 20 0 19 = v) (hd : decode cc pc = .ok (.getfield index, 3)) (k : W p l e R s m args below meth c H locs cells slots Q (F0 m (pc + 3) ls (.int (zI v) :: rest))) : W p l e R s m args below meth c H locs cells slots Q (F0 m pc ls (.ref (aM Γ) :: rest)) := by
  subst hx
  exact va_get (C := RX5) (T := TX5) (N := 25) (ci := 5) C.1 C.2.1 C.2.2.2.2 uw_X5 C.2.2.2.1 hG.1 hG.2.1 _ pM rfl 19 (by decide) (C.2.2.2.2 _ hl) (fun _ h => h) rfl hd k
theorem pf_M_kind (C : CallFix p m c cc nL s args tb own) (hG : GM Γ A σ s H locs) (hl : Cond.fieldLink own index "LostDaysModel" "kind" "I" ∈ tb) (hd : decode cc pc = .ok (.putfield index, 3)) (k : ∀ (H1 : Heap) (locs1 : List Loc), GM Γ A (up σ 20 0 19 v) s H1 locs1 → W p l e R s m args below meth c H1 locs1 cells slots Q (F0 m (pc + 3) ls rest)) : W p l e R s m args below meth c H locs cells slots Q (F0 m pc ls (.int (zI v) :: .ref (aM Γ) :: rest)) :=
  va_put (C := RX5) (T := TX5) (N := 25) (ci := 5) (ty := .int) C.1 C.2.1 C.2.2.2.2 uw_X5 tyX5 tyX5_ok nmX5 C.2.2.2.1 hG.1 hG.2.1 hG.2.2.1 hG.2.2.2.1 _ pM rfl 19 (by decide) (C.2.2.2.2 _ hl) (fun _ h => h) rfl (by decide +kernel) rfl rfl (Nat.le_of_ble_eq_true rfl) hd (fun H1 l1 p1 d1 s1 => k H1 l1 ⟨hG.1, sM_19 ▸ p1, sM_19 ▸ d1, s1, hG.2.2.2.2⟩)
theorem gf_M_leap (C : CallFix p m c cc nL s args tb own) (hG : GM Γ A σ s H locs) (hl : Cond.fieldLink own index "LostDaysModel" "leap" "I" ∈ tb) (hx : σ 20 0 20 = v) (hd : decode cc pc = .ok (.getfield index, 3)) (k : W p l e R s m args below meth c H locs cells slots Q (F0 m (pc + 3) ls (.int (zI v) :: rest))) : W p l e R s m args below meth c H locs cells slots Q (F0 m pc ls (.ref (aM Γ) :: rest)) := by
  subst hx
  exact va_get (C := RX5) (T := TX5) (N := 25) (ci := 5) C.1 C.2.1 C.2.2.2.2 uw_X5 C.2.2.2.1 hG.1 hG.2.1 _ pM rfl 20 (by decide) (C.2.2.2.2 _ hl) (fun _ h => h) rfl hd k
theorem pf_M_leap (C : CallFix p m c cc nL s args tb own) (hG : GM Γ A σ s H locs) (hl : Cond.fieldLink own index "LostDaysModel" "leap" "I" ∈ tb) (hd : decode cc pc = .ok (.putfield index, 3)) (k : ∀ (H1 : Heap) (locs1 : List Loc), GM Γ A (up σ 20 0 20 v) s H1 locs1 → W p l e R s m args below meth c H1 locs1 cells slots Q (F0 m (pc + 3) ls rest)) : W p l e R s m args below meth c H locs cells slots Q (F0 m pc ls (.int (zI v) :: .ref (aM Γ) :: rest)) :=
  va_put (C := RX5) (T := TX5) (N := 25) (ci := 5) (ty := .int) C.1 C.2.1 C.2.2.2.2 uw_X5 tyX5 tyX5_ok nmX5 C.2.2.2.1 hG.1 hG.2.1 hG.2.2.1 hG.2.2.2.1 _ pM rfl 20 (by decide) (C.2.2.2.2 _ hl) (fun _ h => h) rfl (by decide +kernel) rfl rfl (Nat.le_of_ble_eq_true rfl) hd (fun H1 l1 p1 d1 s1 => k H1 l1 ⟨hG.1, sM_20 ▸ p1, sM_20 ▸ d1, s1, hG.2.2.2.2⟩)
theorem gf_M_order (C : CallFix p m c cc nL s args tb own) (hG : GM Γ A σ s H locs) (hl : Cond.fieldLink own index "LostDaysModel" "order" "I" ∈ tb) (hx : σ 20 0 21 = v) (hd : decode cc pc = .ok (.getfield index, 3)) (k : W p l e R s m args below meth c H locs cells slots Q (F0 m (pc + 3) ls (.int (zI v) :: rest))) : W p l e R s m args below meth c H locs cells slots Q (F0 m pc ls (.ref (aM Γ) :: rest)) := by
  subst hx
  exact va_get (C := RX5) (T := TX5) (N := 25) (ci := 5) C.1 C.2.1 C.2.2.2.2 uw_X5 C.2.2.2.1 hG.1 hG.2.1 _ pM rfl 21 (by decide) (C.2.2.2.2 _ hl) (fun _ h => h) rfl hd k
theorem pf_M_order (C : CallFix p m c cc nL s args tb own) (hG : GM Γ A σ s H locs) (hl : Cond.fieldLink own index "LostDaysModel" "order" "I" ∈ tb) (hd : decode cc pc = .ok (.putfield index, 3)) (k : ∀ (H1 : Heap) (locs1 : List Loc), GM Γ A (up σ 20 0 21 v) s H1 locs1 → W p l e R s m args below meth c H1 locs1 cells slots Q (F0 m (pc + 3) ls rest)) : W p l e R s m args below meth c H locs cells slots Q (F0 m pc ls (.int (zI v) :: .ref (aM Γ) :: rest)) :=
  va_put (C := RX5) (T := TX5) (N := 25) (ci := 5) (ty := .int) C.1 C.2.1 C.2.2.2.2 uw_X5 tyX5 tyX5_ok nmX5 C.2.2.2.1 hG.1 hG.2.1 hG.2.2.1 hG.2.2.2.1 _ pM rfl 21 (by decide) (C.2.2.2.2 _ hl) (fun _ h => h) rfl (by decide +kernel) rfl rfl (Nat.le_of_ble_eq_true rfl) hd (fun H1 l1 p1 d1 s1 => k H1 l1 ⟨hG.1, sM_21 ▸ p1, sM_21 ▸ d1, s1, hG.2.2.2.2⟩)
theorem gf_M_gap (C : CallFix p m c cc nL s args tb own) (hG : GM Γ A σ s H locs) (hl : Cond.fieldLink own index "LostDaysModel" "gap" "I" ∈ tb) (hx : σ 20 0 22 = v) (hd : decode cc pc = .ok (.getfield index, 3)) (k : W p l e R s m args below meth c H locs cells slots Q (F0 m (pc + 3) ls (.int (zI v) :: rest))) : W p l e R s m args below meth c H locs cells slots Q (F0 m pc ls (.ref (aM Γ) :: rest)) := by
  subst hx
  exact va_get (C := RX5) (T := TX5) (N := 25) (ci := 5) C.1 C.2.1 C.2.2.2.2 uw_X5 C.2.2.2.1 hG.1 hG.2.1 _ pM rfl 22 (by decide) (C.2.2.2.2 _ hl) (fun _ h => h) rfl hd k
theorem pf_M_gap (C : CallFix p m c cc nL s args tb own) (hG : GM Γ A σ s H locs) (hl : Cond.fieldLink own index "LostDaysModel" "gap" "I" ∈ tb) (hd : decode cc pc = .ok (.putfield index, 3)) (k : ∀ (H1 : Heap) (locs1 : List Loc), GM Γ A (up σ 20 0 22 v) s H1 locs1 → W p l e R s m args below meth c H1 locs1 cells slots Q (F0 m (pc + 3) ls rest)) : W p l e R s m args below meth c H locs cells slots Q (F0 m pc ls (.int (zI v) :: .ref (aM Γ) :: rest)) :=
  va_put (C := RX5) (T := TX5) (N := 25) (ci := 5) (ty := .int) C.1 C.2.1 C.2.2.2.2 uw_X5 tyX5 tyX5_ok nmX5 C.2.2.2.1 hG.1 hG.2.1 hG.2.2.1 hG.2.2.2.1 _ pM rfl 22 (by decide) (C.2.2.2.2 _ hl) (fun _ h => h) rfl (by decide +kernel) rfl rfl (Nat.le_of_ble_eq_true rfl) hd (fun H1 l1 p1 d1 s1 => k H1 l1 ⟨hG.1, sM_22 ▸ p1, sM_22 ▸ d1, s1, hG.2.2.2.2⟩)
theorem gf_M_kept (C : CallFix p m c cc nL s args tb own) (hG : GM Γ A σ s H locs) (hl : Cond.fieldLink own index "LostDaysModel" "kept" "[I" ∈ tb) (hd : decode cc pc = .ok (.getfield index, 3)) (k : W p l e R s m args below meth c H locs cells slots Q (F0 m (pc + 3) ls (.ref (am_kept Γ) :: rest))) : W p l e R s m args below meth c H locs cells slots Q (F0 m pc ls (.ref (aM Γ) :: rest)) := by
  skip
  exact va_get (C := RX5) (T := TX5) (N := 25) (ci := 5) C.1 C.2.1 C.2.2.2.2 uw_X5 C.2.2.2.1 hG.1 hG.2.1 _ pM rfl 23 (by decide) (C.2.2.2.2 _ hl) (fun _ h => h) rfl hd k
theorem gf_M_h0 (C : CallFix p m c cc nL s args tb own) (hG : GM Γ A σ s H locs) (hl : Cond.fieldLink own index "LostDaysModel" "h0" "J" ∈ tb) (hx : σ 20 0 24 = v) (hd : decode cc pc = .ok (.getfield index, 3)) (k : W p l e R s m args below meth c H locs cells slots Q (F0 m (pc + 3) ls (.long (zL v) :: rest))) : W p l e R s m args below meth c H locs cells slots Q (F0 m pc ls (.ref (aM Γ) :: rest)) := by
  subst hx
  exact va_get (C := RX5) (T := TX5) (N := 25) (ci := 5) C.1 C.2.1 C.2.2.2.2 uw_X5 C.2.2.2.1 hG.1 hG.2.1 _ pM rfl 24 (by decide) (C.2.2.2.2 _ hl) (fun _ h => h) rfl hd k
theorem pf_M_h0 (C : CallFix p m c cc nL s args tb own) (hG : GM Γ A σ s H locs) (hl : Cond.fieldLink own index "LostDaysModel" "h0" "J" ∈ tb) (hd : decode cc pc = .ok (.putfield index, 3)) (k : ∀ (H1 : Heap) (locs1 : List Loc), GM Γ A (up σ 20 0 24 v) s H1 locs1 → W p l e R s m args below meth c H1 locs1 cells slots Q (F0 m (pc + 3) ls rest)) : W p l e R s m args below meth c H locs cells slots Q (F0 m pc ls (.long (zL v) :: .ref (aM Γ) :: rest)) :=
  va_put (C := RX5) (T := TX5) (N := 25) (ci := 5) (ty := .long) C.1 C.2.1 C.2.2.2.2 uw_X5 tyX5 tyX5_ok nmX5 C.2.2.2.1 hG.1 hG.2.1 hG.2.2.1 hG.2.2.2.1 _ pM rfl 24 (by decide) (C.2.2.2.2 _ hl) (fun _ h => h) rfl (by decide +kernel) rfl rfl (Nat.le_of_ble_eq_true rfl) hd (fun H1 l1 p1 d1 s1 => k H1 l1 ⟨hG.1, sM_24 ▸ p1, sM_24 ▸ d1, s1, hG.2.2.2.2⟩)
theorem gi_Tf (C : CallFix p m c cc nL s args tb own) (hG : GM Γ A σ s H locs) (hz : 0 ≤ z ∧ z < 6) (hx : σ 1 0 z = v) (hd : decode cc pc = .ok (.iaload, 1)) (k : W p l e R s m args below meth c H locs cells slots Q (F0 m (pc + 1) ls (.int (zI v) :: rest))) : W p l e R s m args below meth c H locs cells slots Q (F0 m pc ls (.int (zI z) :: .ref (aTf Γ) :: rest)) := by
  subst hx
  refine va_iald C.1 C.2.1 hG.1 hG.2.1 _ 0 pTf rfl (zI_in (by omega) (by decide)) hd ?_
  have e9 : (((zI z).toNatClampNeg : Nat) : Int) = z := by rw [zI_cl (by omega)]; omega
  show W p l e R s m args below meth c H locs cells slots Q (F0 m (pc + 1) ls (.int (zI (σ 1 0 (((zI z).toNatClampNeg : Nat) : Int))) :: rest))
  rw [e9]
  exact k
theorem pi_Tf (C : CallFix p m c cc nL s args tb own) (hG : GM Γ A σ s H locs) (hz : 0 ≤ z ∧ z < 6) (hd : decode cc pc = .ok (.iastore, 1)) (k : ∀ (H1 : Heap) (locs1 : List Loc), GM Γ A (up σ 1 0 z v) s H1 locs1 → W p l e R s m args below meth c H1 locs1 cells slots Q (F0 m (pc + 1) ls rest)) : W p l e R s m args below meth c H locs cells slots Q (F0 m pc ls (.int (zI v) :: .int (zI z) :: .ref (aTf Γ) :: rest)) := by
  refine va_iast C.1 C.2.1 hG.1 hG.2.1 hG.2.2.1 hG.2.2.2.1 _ 0 pTf rfl (zI_in (by omega) (by decide)) hd (fun H1 l1 p1 d1 s1 => k H1 l1 ?_)
  rw [zI_cl (by omega), up_arr σ 1 0 hz.1, sTf] at p1 d1
  exact ⟨hG.1, p1, d1, s1, hG.2.2.2.2⟩
theorem gi_Pl (C : CallFix p m c cc nL s args tb own) (hG : GM Γ A σ s H locs) {i : Int} (hi : 0 ≤ i ∧ i < 6) (hz : 0 ≤ z ∧ z < 40) (hx : σ 3 i z = v) (hd : decode cc pc = .ok (.iaload, 1)) (k : W p l e R s m args below meth c H locs cells slots Q (F0 m (pc + 1) ls (.int (zI v) :: rest))) : W p l e R s m args below meth c H locs cells slots Q (F0 m pc ls (.int (zI z) :: .ref (aPl Γ i) :: rest)) := by
  subst hx
  refine va_iald C.1 C.2.1 hG.1 hG.2.1 _ 0 (pPl hi) rfl (zI_in (by omega) (by decide)) hd ?_
  have e9 : (((zI z).toNatClampNeg : Nat) : Int) = z := by rw [zI_cl (by omega)]; omega
  show W p l e R s m args below meth c H locs cells slots Q (F0 m (pc + 1) ls (.int (zI (σ 3 i (((zI z).toNatClampNeg : Nat) : Int))) :: rest))
  rw [e9]
  exact k
theorem pi_Pl (C : CallFix p m c cc nL s args tb own) (hG : GM Γ A σ s H locs) {i : Int} (hi : 0 ≤ i ∧ i < 6) (hz : 0 ≤ z ∧ z < 40) (hd : decode cc pc = .ok (.iastore, 1)) (k : ∀ (H1 : Heap) (locs1 : List Loc), GM Γ A (up σ 3 i z v) s H1 locs1 → W p l e R s m args below meth c H1 locs1 cells slots Q (F0 m (pc + 1) ls rest)) : W p l e R s m args below meth c H locs cells slots Q (F0 m pc ls (.int (zI v) :: .int (zI z) :: .ref (aPl Γ i) :: rest)) := by
  refine va_iast C.1 C.2.1 hG.1 hG.2.1 hG.2.2.1 hG.2.2.2.1 _ 0 (pPl hi) rfl (zI_in (by omega) (by decide)) hd (fun H1 l1 p1 d1 s1 => k H1 l1 ?_)
  rw [zI_cl (by omega), up_arr σ 3 i hz.1, sPl hi] at p1 d1
  exact ⟨hG.1, p1, d1, s1, hG.2.2.2.2⟩
theorem gi_Sg (C : CallFix p m c cc nL s args tb own) (hG : GM Γ A σ s H locs) {i : Int} (hi : 0 ≤ i ∧ i < 4) (hz : 0 ≤ z ∧ z < 60) (hx : σ 5 i z = v) (hd : decode cc pc = .ok (.baload, 1)) (k : W p l e R s m args below meth c H locs cells slots Q (F0 m (pc + 1) ls (.int (zI v) :: rest))) : W p l e R s m args below meth c H locs cells slots Q (F0 m pc ls (.int (zI z) :: .ref (aSg Γ i) :: rest)) := by
  subst hx
  refine va_bald C.1 C.2.1 hG.1 hG.2.1 _ 1 (pSg hi) rfl (zI_in (by omega) (by decide)) hd ?_
  have e9 : (((zI z).toNatClampNeg : Nat) : Int) = z := by rw [zI_cl (by omega)]; omega
  show W p l e R s m args below meth c H locs cells slots Q (F0 m (pc + 1) ls (.int (zI (σ 5 i (((zI z).toNatClampNeg : Nat) : Int))) :: rest))
  rw [e9]
  exact k
theorem pi_Sg (C : CallFix p m c cc nL s args tb own) (hG : GM Γ A σ s H locs) {i : Int} (hi : 0 ≤ i ∧ i < 4) (hz : 0 ≤ z ∧ z < 60) (hb : -128 ≤ v ∧ v < 128) (hd : decode cc pc = .ok (.bastore, 1)) (k : ∀ (H1 : Heap) (locs1 : List Loc), GM Γ A (up σ 5 i z v) s H1 locs1 → W p l e R s m args below meth c H1 locs1 cells slots Q (F0 m (pc + 1) ls rest)) : W p l e R s m args below meth c H locs cells slots Q (F0 m pc ls (.int (zI v) :: .int (zI z) :: .ref (aSg Γ i) :: rest)) := by
  refine va_bast C.1 C.2.1 hG.1 hG.2.1 hG.2.2.1 hG.2.2.2.1 _ 1 (pSg hi) rfl (zI_in (by omega) (by decide)) hd (fun H1 l1 p1 d1 s1 => k H1 l1 ?_)
  have e8 : vp_nar .byte (zI v) = zI v := by rw [vp_nar_byte, zI_b, z8_id hb]
  rw [e8] at p1 d1
  rw [zI_cl (by omega), up_arr σ 5 i hz.1, sSg hi] at p1 d1
  exact ⟨hG.1, p1, d1, s1, hG.2.2.2.2⟩
theorem gi_Kl (C : CallFix p m c cc nL s args tb own) (hG : GM Γ A σ s H locs) {i : Int} (hi : 0 ≤ i ∧ i < 3) (hz : 0 ≤ z ∧ z < 5) (hx : σ 8 i z = v) (hd : decode cc pc = .ok (.iaload, 1)) (k : W p l e R s m args below meth c H locs cells slots Q (F0 m (pc + 1) ls (.int (zI v) :: rest))) : W p l e R s m args below meth c H locs cells slots Q (F0 m pc ls (.int (zI z) :: .ref (aKl Γ i) :: rest)) := by
  subst hx
  refine va_iald C.1 C.2.1 hG.1 hG.2.1 _ 0 (pKl hi) rfl (zI_in (by omega) (by decide)) hd ?_
  have e9 : (((zI z).toNatClampNeg : Nat) : Int) = z := by rw [zI_cl (by omega)]; omega
  show W p l e R s m args below meth c H locs cells slots Q (F0 m (pc + 1) ls (.int (zI (σ 8 i (((zI z).toNatClampNeg : Nat) : Int))) :: rest))
  rw [e9]
  exact k
theorem pi_Kl (C : CallFix p m c cc nL s args tb own) (hG : GM Γ A σ s H locs) {i : Int} (hi : 0 ≤ i ∧ i < 3) (hz : 0 ≤ z ∧ z < 5) (hd : decode cc pc = .ok (.iastore, 1)) (k : ∀ (H1 : Heap) (locs1 : List Loc), GM Γ A (up σ 8 i z v) s H1 locs1 → W p l e R s m args below meth c H1 locs1 cells slots Q (F0 m (pc + 1) ls rest)) : W p l e R s m args below meth c H locs cells slots Q (F0 m pc ls (.int (zI v) :: .int (zI z) :: .ref (aKl Γ i) :: rest)) := by
  refine va_iast C.1 C.2.1 hG.1 hG.2.1 hG.2.2.1 hG.2.2.2.1 _ 0 (pKl hi) rfl (zI_in (by omega) (by decide)) hd (fun H1 l1 p1 d1 s1 => k H1 l1 ?_)
  rw [zI_cl (by omega), up_arr σ 8 i hz.1, sKl hi] at p1 d1
  exact ⟨hG.1, p1, d1, s1, hG.2.2.2.2⟩
theorem gi_Ko (C : CallFix p m c cc nL s args tb own) (hG : GM Γ A σ s H locs) {i : Int} (hi : 0 ≤ i ∧ i < 3) (hz : 0 ≤ z ∧ z < 5) (hx : σ 9 i z = v) (hd : decode cc pc = .ok (.iaload, 1)) (k : W p l e R s m args below meth c H locs cells slots Q (F0 m (pc + 1) ls (.int (zI v) :: rest))) : W p l e R s m args below meth c H locs cells slots Q (F0 m pc ls (.int (zI z) :: .ref (aKo Γ i) :: rest)) := by
  subst hx
  refine va_iald C.1 C.2.1 hG.1 hG.2.1 _ 0 (pKo hi) rfl (zI_in (by omega) (by decide)) hd ?_
  have e9 : (((zI z).toNatClampNeg : Nat) : Int) = z := by rw [zI_cl (by omega)]; omega
  show W p l e R s m args below meth c H locs cells slots Q (F0 m (pc + 1) ls (.int (zI (σ 9 i (((zI z).toNatClampNeg : Nat) : Int))) :: rest))
  rw [e9]
  exact k
theorem pi_Ko (C : CallFix p m c cc nL s args tb own) (hG : GM Γ A σ s H locs) {i : Int} (hi : 0 ≤ i ∧ i < 3) (hz : 0 ≤ z ∧ z < 5) (hd : decode cc pc = .ok (.iastore, 1)) (k : ∀ (H1 : Heap) (locs1 : List Loc), GM Γ A (up σ 9 i z v) s H1 locs1 → W p l e R s m args below meth c H1 locs1 cells slots Q (F0 m (pc + 1) ls rest)) : W p l e R s m args below meth c H locs cells slots Q (F0 m pc ls (.int (zI v) :: .int (zI z) :: .ref (aKo Γ i) :: rest)) := by
  refine va_iast C.1 C.2.1 hG.1 hG.2.1 hG.2.2.1 hG.2.2.2.1 _ 0 (pKo hi) rfl (zI_in (by omega) (by decide)) hd (fun H1 l1 p1 d1 s1 => k H1 l1 ?_)
  rw [zI_cl (by omega), up_arr σ 9 i hz.1, sKo hi] at p1 d1
  exact ⟨hG.1, p1, d1, s1, hG.2.2.2.2⟩
theorem gi_Kg (C : CallFix p m c cc nL s args tb own) (hG : GM Γ A σ s H locs) {i : Int} (hi : 0 ≤ i ∧ i < 3) (hz : 0 ≤ z ∧ z < 5) (hx : σ 10 i z = v) (hd : decode cc pc = .ok (.iaload, 1)) (k : W p l e R s m args below meth c H locs cells slots Q (F0 m (pc + 1) ls (.int (zI v) :: rest))) : W p l e R s m args below meth c H locs cells slots Q (F0 m pc ls (.int (zI z) :: .ref (aKg Γ i) :: rest)) := by
  subst hx
  refine va_iald C.1 C.2.1 hG.1 hG.2.1 _ 0 (pKg hi) rfl (zI_in (by omega) (by decide)) hd ?_
  have e9 : (((zI z).toNatClampNeg : Nat) : Int) = z := by rw [zI_cl (by omega)]; omega
  show W p l e R s m args below meth c H locs cells slots Q (F0 m (pc + 1) ls (.int (zI (σ 10 i (((zI z).toNatClampNeg : Nat) : Int))) :: rest))
  rw [e9]
  exact k
theorem pi_Kg (C : CallFix p m c cc nL s args tb own) (hG : GM Γ A σ s H locs) {i : Int} (hi : 0 ≤ i ∧ i < 3) (hz : 0 ≤ z ∧ z < 5) (hd : decode cc pc = .ok (.iastore, 1)) (k : ∀ (H1 : Heap) (locs1 : List Loc), GM Γ A (up σ 10 i z v) s H1 locs1 → W p l e R s m args below meth c H1 locs1 cells slots Q (F0 m (pc + 1) ls rest)) : W p l e R s m args below meth c H locs cells slots Q (F0 m pc ls (.int (zI v) :: .int (zI z) :: .ref (aKg Γ i) :: rest)) := by
  refine va_iast C.1 C.2.1 hG.1 hG.2.1 hG.2.2.1 hG.2.2.2.1 _ 0 (pKg hi) rfl (zI_in (by omega) (by decide)) hd (fun H1 l1 p1 d1 s1 => k H1 l1 ?_)
  rw [zI_cl (by omega), up_arr σ 10 i hz.1, sKg hi] at p1 d1
  exact ⟨hG.1, p1, d1, s1, hG.2.2.2.2⟩
theorem gi_m_findings (C : CallFix p m c cc nL s args tb own) (hG : GM Γ A σ s H locs) (hz : 0 ≤ z ∧ z < 6) (hx : σ 21 0 z = v) (hd : decode cc pc = .ok (.iaload, 1)) (k : W p l e R s m args below meth c H locs cells slots Q (F0 m (pc + 1) ls (.int (zI v) :: rest))) : W p l e R s m args below meth c H locs cells slots Q (F0 m pc ls (.int (zI z) :: .ref (am_findings Γ) :: rest)) := by
  subst hx
  refine va_iald C.1 C.2.1 hG.1 hG.2.1 _ 0 pm_findings rfl (zI_in (by omega) (by decide)) hd ?_
  have e9 : (((zI z).toNatClampNeg : Nat) : Int) = z := by rw [zI_cl (by omega)]; omega
  show W p l e R s m args below meth c H locs cells slots Q (F0 m (pc + 1) ls (.int (zI (σ 21 0 (((zI z).toNatClampNeg : Nat) : Int))) :: rest))
  rw [e9]
  exact k
theorem pi_m_findings (C : CallFix p m c cc nL s args tb own) (hG : GM Γ A σ s H locs) (hz : 0 ≤ z ∧ z < 6) (hd : decode cc pc = .ok (.iastore, 1)) (k : ∀ (H1 : Heap) (locs1 : List Loc), GM Γ A (up σ 21 0 z v) s H1 locs1 → W p l e R s m args below meth c H1 locs1 cells slots Q (F0 m (pc + 1) ls rest)) : W p l e R s m args below meth c H locs cells slots Q (F0 m pc ls (.int (zI v) :: .int (zI z) :: .ref (am_findings Γ) :: rest)) := by
  refine va_iast C.1 C.2.1 hG.1 hG.2.1 hG.2.2.1 hG.2.2.2.1 _ 0 pm_findings rfl (zI_in (by omega) (by decide)) hd (fun H1 l1 p1 d1 s1 => k H1 l1 ?_)
  rw [zI_cl (by omega), up_arr σ 21 0 hz.1, sm_findings] at p1 d1
  exact ⟨hG.1, p1, d1, s1, hG.2.2.2.2⟩
theorem gi_m_sizes (C : CallFix p m c cc nL s args tb own) (hG : GM Γ A σ s H locs) (hz : 0 ≤ z ∧ z < 6) (hx : σ 22 0 z = v) (hd : decode cc pc = .ok (.iaload, 1)) (k : W p l e R s m args below meth c H locs cells slots Q (F0 m (pc + 1) ls (.int (zI v) :: rest))) : W p l e R s m args below meth c H locs cells slots Q (F0 m pc ls (.int (zI z) :: .ref (am_sizes Γ) :: rest)) := by
  subst hx
  refine va_iald C.1 C.2.1 hG.1 hG.2.1 _ 0 pm_sizes rfl (zI_in (by omega) (by decide)) hd ?_
  have e9 : (((zI z).toNatClampNeg : Nat) : Int) = z := by rw [zI_cl (by omega)]; omega
  show W p l e R s m args below meth c H locs cells slots Q (F0 m (pc + 1) ls (.int (zI (σ 22 0 (((zI z).toNatClampNeg : Nat) : Int))) :: rest))
  rw [e9]
  exact k
theorem pi_m_sizes (C : CallFix p m c cc nL s args tb own) (hG : GM Γ A σ s H locs) (hz : 0 ≤ z ∧ z < 6) (hd : decode cc pc = .ok (.iastore, 1)) (k : ∀ (H1 : Heap) (locs1 : List Loc), GM Γ A (up σ 22 0 z v) s H1 locs1 → W p l e R s m args below meth c H1 locs1 cells slots Q (F0 m (pc + 1) ls rest)) : W p l e R s m args below meth c H locs cells slots Q (F0 m pc ls (.int (zI v) :: .int (zI z) :: .ref (am_sizes Γ) :: rest)) := by
  refine va_iast C.1 C.2.1 hG.1 hG.2.1 hG.2.2.1 hG.2.2.2.1 _ 0 pm_sizes rfl (zI_in (by omega) (by decide)) hd (fun H1 l1 p1 d1 s1 => k H1 l1 ?_)
  rw [zI_cl (by omega), up_arr σ 22 0 hz.1, sm_sizes] at p1 d1
  exact ⟨hG.1, p1, d1, s1, hG.2.2.2.2⟩
theorem gi_m_rows (C : CallFix p m c cc nL s args tb own) (hG : GM Γ A σ s H locs) (hz : 0 ≤ z ∧ z < 240) (hx : σ 23 0 z = v) (hd : decode cc pc = .ok (.iaload, 1)) (k : W p l e R s m args below meth c H locs cells slots Q (F0 m (pc + 1) ls (.int (zI v) :: rest))) : W p l e R s m args below meth c H locs cells slots Q (F0 m pc ls (.int (zI z) :: .ref (am_rows Γ) :: rest)) := by
  subst hx
  refine va_iald C.1 C.2.1 hG.1 hG.2.1 _ 0 pm_rows rfl (zI_in (by omega) (by decide)) hd ?_
  have e9 : (((zI z).toNatClampNeg : Nat) : Int) = z := by rw [zI_cl (by omega)]; omega
  show W p l e R s m args below meth c H locs cells slots Q (F0 m (pc + 1) ls (.int (zI (σ 23 0 (((zI z).toNatClampNeg : Nat) : Int))) :: rest))
  rw [e9]
  exact k
theorem pi_m_rows (C : CallFix p m c cc nL s args tb own) (hG : GM Γ A σ s H locs) (hz : 0 ≤ z ∧ z < 240) (hd : decode cc pc = .ok (.iastore, 1)) (k : ∀ (H1 : Heap) (locs1 : List Loc), GM Γ A (up σ 23 0 z v) s H1 locs1 → W p l e R s m args below meth c H1 locs1 cells slots Q (F0 m (pc + 1) ls rest)) : W p l e R s m args below meth c H locs cells slots Q (F0 m pc ls (.int (zI v) :: .int (zI z) :: .ref (am_rows Γ) :: rest)) := by
  refine va_iast C.1 C.2.1 hG.1 hG.2.1 hG.2.2.1 hG.2.2.2.1 _ 0 pm_rows rfl (zI_in (by omega) (by decide)) hd (fun H1 l1 p1 d1 s1 => k H1 l1 ?_)
  rw [zI_cl (by omega), up_arr σ 23 0 hz.1, sm_rows] at p1 d1
  exact ⟨hG.1, p1, d1, s1, hG.2.2.2.2⟩
theorem gi_m_moving (C : CallFix p m c cc nL s args tb own) (hG : GM Γ A σ s H locs) (hz : 0 ≤ z ∧ z < 40) (hx : σ 24 0 z = v) (hd : decode cc pc = .ok (.iaload, 1)) (k : W p l e R s m args below meth c H locs cells slots Q (F0 m (pc + 1) ls (.int (zI v) :: rest))) : W p l e R s m args below meth c H locs cells slots Q (F0 m pc ls (.int (zI z) :: .ref (am_moving Γ) :: rest)) := by
  subst hx
  refine va_iald C.1 C.2.1 hG.1 hG.2.1 _ 0 pm_moving rfl (zI_in (by omega) (by decide)) hd ?_
  have e9 : (((zI z).toNatClampNeg : Nat) : Int) = z := by rw [zI_cl (by omega)]; omega
  show W p l e R s m args below meth c H locs cells slots Q (F0 m (pc + 1) ls (.int (zI (σ 24 0 (((zI z).toNatClampNeg : Nat) : Int))) :: rest))
  rw [e9]
  exact k
theorem pi_m_moving (C : CallFix p m c cc nL s args tb own) (hG : GM Γ A σ s H locs) (hz : 0 ≤ z ∧ z < 40) (hd : decode cc pc = .ok (.iastore, 1)) (k : ∀ (H1 : Heap) (locs1 : List Loc), GM Γ A (up σ 24 0 z v) s H1 locs1 → W p l e R s m args below meth c H1 locs1 cells slots Q (F0 m (pc + 1) ls rest)) : W p l e R s m args below meth c H locs cells slots Q (F0 m pc ls (.int (zI v) :: .int (zI z) :: .ref (am_moving Γ) :: rest)) := by
  refine va_iast C.1 C.2.1 hG.1 hG.2.1 hG.2.2.1 hG.2.2.2.1 _ 0 pm_moving rfl (zI_in (by omega) (by decide)) hd (fun H1 l1 p1 d1 s1 => k H1 l1 ?_)
  rw [zI_cl (by omega), up_arr σ 24 0 hz.1, sm_moving] at p1 d1
  exact ⟨hG.1, p1, d1, s1, hG.2.2.2.2⟩
theorem gi_m_lengths (C : CallFix p m c cc nL s args tb own) (hG : GM Γ A σ s H locs) (hz : 0 ≤ z ∧ z < 4) (hx : σ 25 0 z = v) (hd : decode cc pc = .ok (.iaload, 1)) (k : W p l e R s m args below meth c H locs cells slots Q (F0 m (pc + 1) ls (.int (zI v) :: rest))) : W p l e R s m args below meth c H locs cells slots Q (F0 m pc ls (.int (zI z) :: .ref (am_lengths Γ) :: rest)) := by
  subst hx
  refine va_iald C.1 C.2.1 hG.1 hG.2.1 _ 0 pm_lengths rfl (zI_in (by omega) (by decide)) hd ?_
  have e9 : (((zI z).toNatClampNeg : Nat) : Int) = z := by rw [zI_cl (by omega)]; omega
  show W p l e R s m args below meth c H locs cells slots Q (F0 m (pc + 1) ls (.int (zI (σ 25 0 (((zI z).toNatClampNeg : Nat) : Int))) :: rest))
  rw [e9]
  exact k
theorem pi_m_lengths (C : CallFix p m c cc nL s args tb own) (hG : GM Γ A σ s H locs) (hz : 0 ≤ z ∧ z < 4) (hd : decode cc pc = .ok (.iastore, 1)) (k : ∀ (H1 : Heap) (locs1 : List Loc), GM Γ A (up σ 25 0 z v) s H1 locs1 → W p l e R s m args below meth c H1 locs1 cells slots Q (F0 m (pc + 1) ls rest)) : W p l e R s m args below meth c H locs cells slots Q (F0 m pc ls (.int (zI v) :: .int (zI z) :: .ref (am_lengths Γ) :: rest)) := by
  refine va_iast C.1 C.2.1 hG.1 hG.2.1 hG.2.2.1 hG.2.2.2.1 _ 0 pm_lengths rfl (zI_in (by omega) (by decide)) hd (fun H1 l1 p1 d1 s1 => k H1 l1 ?_)
  rw [zI_cl (by omega), up_arr σ 25 0 hz.1, sm_lengths] at p1 d1
  exact ⟨hG.1, p1, d1, s1, hG.2.2.2.2⟩
theorem gi_m_texts (C : CallFix p m c cc nL s args tb own) (hG : GM Γ A σ s H locs) (hz : 0 ≤ z ∧ z < 240) (hx : σ 26 0 z = v) (hd : decode cc pc = .ok (.iaload, 1)) (k : W p l e R s m args below meth c H locs cells slots Q (F0 m (pc + 1) ls (.int (zI v) :: rest))) : W p l e R s m args below meth c H locs cells slots Q (F0 m pc ls (.int (zI z) :: .ref (am_texts Γ) :: rest)) := by
  subst hx
  refine va_iald C.1 C.2.1 hG.1 hG.2.1 _ 0 pm_texts rfl (zI_in (by omega) (by decide)) hd ?_
  have e9 : (((zI z).toNatClampNeg : Nat) : Int) = z := by rw [zI_cl (by omega)]; omega
  show W p l e R s m args below meth c H locs cells slots Q (F0 m (pc + 1) ls (.int (zI (σ 26 0 (((zI z).toNatClampNeg : Nat) : Int))) :: rest))
  rw [e9]
  exact k
theorem pi_m_texts (C : CallFix p m c cc nL s args tb own) (hG : GM Γ A σ s H locs) (hz : 0 ≤ z ∧ z < 240) (hd : decode cc pc = .ok (.iastore, 1)) (k : ∀ (H1 : Heap) (locs1 : List Loc), GM Γ A (up σ 26 0 z v) s H1 locs1 → W p l e R s m args below meth c H1 locs1 cells slots Q (F0 m (pc + 1) ls rest)) : W p l e R s m args below meth c H locs cells slots Q (F0 m pc ls (.int (zI v) :: .int (zI z) :: .ref (am_texts Γ) :: rest)) := by
  refine va_iast C.1 C.2.1 hG.1 hG.2.1 hG.2.2.1 hG.2.2.2.1 _ 0 pm_texts rfl (zI_in (by omega) (by decide)) hd (fun H1 l1 p1 d1 s1 => k H1 l1 ?_)
  rw [zI_cl (by omega), up_arr σ 26 0 hz.1, sm_texts] at p1 d1
  exact ⟨hG.1, p1, d1, s1, hG.2.2.2.2⟩
theorem gi_m_kindOf (C : CallFix p m c cc nL s args tb own) (hG : GM Γ A σ s H locs) (hz : 0 ≤ z ∧ z < 5) (hx : σ 27 0 z = v) (hd : decode cc pc = .ok (.iaload, 1)) (k : W p l e R s m args below meth c H locs cells slots Q (F0 m (pc + 1) ls (.int (zI v) :: rest))) : W p l e R s m args below meth c H locs cells slots Q (F0 m pc ls (.int (zI z) :: .ref (am_kindOf Γ) :: rest)) := by
  subst hx
  refine va_iald C.1 C.2.1 hG.1 hG.2.1 _ 0 pm_kindOf rfl (zI_in (by omega) (by decide)) hd ?_
  have e9 : (((zI z).toNatClampNeg : Nat) : Int) = z := by rw [zI_cl (by omega)]; omega
  show W p l e R s m args below meth c H locs cells slots Q (F0 m (pc + 1) ls (.int (zI (σ 27 0 (((zI z).toNatClampNeg : Nat) : Int))) :: rest))
  rw [e9]
  exact k
theorem pi_m_kindOf (C : CallFix p m c cc nL s args tb own) (hG : GM Γ A σ s H locs) (hz : 0 ≤ z ∧ z < 5) (hd : decode cc pc = .ok (.iastore, 1)) (k : ∀ (H1 : Heap) (locs1 : List Loc), GM Γ A (up σ 27 0 z v) s H1 locs1 → W p l e R s m args below meth c H1 locs1 cells slots Q (F0 m (pc + 1) ls rest)) : W p l e R s m args below meth c H locs cells slots Q (F0 m pc ls (.int (zI v) :: .int (zI z) :: .ref (am_kindOf Γ) :: rest)) := by
  refine va_iast C.1 C.2.1 hG.1 hG.2.1 hG.2.2.1 hG.2.2.2.1 _ 0 pm_kindOf rfl (zI_in (by omega) (by decide)) hd (fun H1 l1 p1 d1 s1 => k H1 l1 ?_)
  rw [zI_cl (by omega), up_arr σ 27 0 hz.1, sm_kindOf] at p1 d1
  exact ⟨hG.1, p1, d1, s1, hG.2.2.2.2⟩
theorem gi_m_leapOf (C : CallFix p m c cc nL s args tb own) (hG : GM Γ A σ s H locs) (hz : 0 ≤ z ∧ z < 5) (hx : σ 28 0 z = v) (hd : decode cc pc = .ok (.iaload, 1)) (k : W p l e R s m args below meth c H locs cells slots Q (F0 m (pc + 1) ls (.int (zI v) :: rest))) : W p l e R s m args below meth c H locs cells slots Q (F0 m pc ls (.int (zI z) :: .ref (am_leapOf Γ) :: rest)) := by
  subst hx
  refine va_iald C.1 C.2.1 hG.1 hG.2.1 _ 0 pm_leapOf rfl (zI_in (by omega) (by decide)) hd ?_
  have e9 : (((zI z).toNatClampNeg : Nat) : Int) = z := by rw [zI_cl (by omega)]; omega
  show W p l e R s m args below meth c H locs cells slots Q (F0 m (pc + 1) ls (.int (zI (σ 28 0 (((zI z).toNatClampNeg : Nat) : Int))) :: rest))
  rw [e9]
  exact k
theorem pi_m_leapOf (C : CallFix p m c cc nL s args tb own) (hG : GM Γ A σ s H locs) (hz : 0 ≤ z ∧ z < 5) (hd : decode cc pc = .ok (.iastore, 1)) (k : ∀ (H1 : Heap) (locs1 : List Loc), GM Γ A (up σ 28 0 z v) s H1 locs1 → W p l e R s m args below meth c H1 locs1 cells slots Q (F0 m (pc + 1) ls rest)) : W p l e R s m args below meth c H locs cells slots Q (F0 m pc ls (.int (zI v) :: .int (zI z) :: .ref (am_leapOf Γ) :: rest)) := by
  refine va_iast C.1 C.2.1 hG.1 hG.2.1 hG.2.2.1 hG.2.2.2.1 _ 0 pm_leapOf rfl (zI_in (by omega) (by decide)) hd (fun H1 l1 p1 d1 s1 => k H1 l1 ?_)
  rw [zI_cl (by omega), up_arr σ 28 0 hz.1, sm_leapOf] at p1 d1
  exact ⟨hG.1, p1, d1, s1, hG.2.2.2.2⟩
theorem gi_m_orderOf (C : CallFix p m c cc nL s args tb own) (hG : GM Γ A σ s H locs) (hz : 0 ≤ z ∧ z < 5) (hx : σ 29 0 z = v) (hd : decode cc pc = .ok (.iaload, 1)) (k : W p l e R s m args below meth c H locs cells slots Q (F0 m (pc + 1) ls (.int (zI v) :: rest))) : W p l e R s m args below meth c H locs cells slots Q (F0 m pc ls (.int (zI z) :: .ref (am_orderOf Γ) :: rest)) := by
  subst hx
  refine va_iald C.1 C.2.1 hG.1 hG.2.1 _ 0 pm_orderOf rfl (zI_in (by omega) (by decide)) hd ?_
  have e9 : (((zI z).toNatClampNeg : Nat) : Int) = z := by rw [zI_cl (by omega)]; omega
  show W p l e R s m args below meth c H locs cells slots Q (F0 m (pc + 1) ls (.int (zI (σ 29 0 (((zI z).toNatClampNeg : Nat) : Int))) :: rest))
  rw [e9]
  exact k
theorem pi_m_orderOf (C : CallFix p m c cc nL s args tb own) (hG : GM Γ A σ s H locs) (hz : 0 ≤ z ∧ z < 5) (hd : decode cc pc = .ok (.iastore, 1)) (k : ∀ (H1 : Heap) (locs1 : List Loc), GM Γ A (up σ 29 0 z v) s H1 locs1 → W p l e R s m args below meth c H1 locs1 cells slots Q (F0 m (pc + 1) ls rest)) : W p l e R s m args below meth c H locs cells slots Q (F0 m pc ls (.int (zI v) :: .int (zI z) :: .ref (am_orderOf Γ) :: rest)) := by
  refine va_iast C.1 C.2.1 hG.1 hG.2.1 hG.2.2.1 hG.2.2.2.1 _ 0 pm_orderOf rfl (zI_in (by omega) (by decide)) hd (fun H1 l1 p1 d1 s1 => k H1 l1 ?_)
  rw [zI_cl (by omega), up_arr σ 29 0 hz.1, sm_orderOf] at p1 d1
  exact ⟨hG.1, p1, d1, s1, hG.2.2.2.2⟩
theorem gi_m_gapOf (C : CallFix p m c cc nL s args tb own) (hG : GM Γ A σ s H locs) (hz : 0 ≤ z ∧ z < 5) (hx : σ 30 0 z = v) (hd : decode cc pc = .ok (.iaload, 1)) (k : W p l e R s m args below meth c H locs cells slots Q (F0 m (pc + 1) ls (.int (zI v) :: rest))) : W p l e R s m args below meth c H locs cells slots Q (F0 m pc ls (.int (zI z) :: .ref (am_gapOf Γ) :: rest)) := by
  subst hx
  refine va_iald C.1 C.2.1 hG.1 hG.2.1 _ 0 pm_gapOf rfl (zI_in (by omega) (by decide)) hd ?_
  have e9 : (((zI z).toNatClampNeg : Nat) : Int) = z := by rw [zI_cl (by omega)]; omega
  show W p l e R s m args below meth c H locs cells slots Q (F0 m (pc + 1) ls (.int (zI (σ 30 0 (((zI z).toNatClampNeg : Nat) : Int))) :: rest))
  rw [e9]
  exact k
theorem pi_m_gapOf (C : CallFix p m c cc nL s args tb own) (hG : GM Γ A σ s H locs) (hz : 0 ≤ z ∧ z < 5) (hd : decode cc pc = .ok (.iastore, 1)) (k : ∀ (H1 : Heap) (locs1 : List Loc), GM Γ A (up σ 30 0 z v) s H1 locs1 → W p l e R s m args below meth c H1 locs1 cells slots Q (F0 m (pc + 1) ls rest)) : W p l e R s m args below meth c H locs cells slots Q (F0 m pc ls (.int (zI v) :: .int (zI z) :: .ref (am_gapOf Γ) :: rest)) := by
  refine va_iast C.1 C.2.1 hG.1 hG.2.1 hG.2.2.1 hG.2.2.2.1 _ 0 pm_gapOf rfl (zI_in (by omega) (by decide)) hd (fun H1 l1 p1 d1 s1 => k H1 l1 ?_)
  rw [zI_cl (by omega), up_arr σ 30 0 hz.1, sm_gapOf] at p1 d1
  exact ⟨hG.1, p1, d1, s1, hG.2.2.2.2⟩
theorem gi_m_read (C : CallFix p m c cc nL s args tb own) (hG : GM Γ A σ s H locs) (hz : 0 ≤ z ∧ z < 20) (hx : σ 31 0 z = v) (hd : decode cc pc = .ok (.iaload, 1)) (k : W p l e R s m args below meth c H locs cells slots Q (F0 m (pc + 1) ls (.int (zI v) :: rest))) : W p l e R s m args below meth c H locs cells slots Q (F0 m pc ls (.int (zI z) :: .ref (am_read Γ) :: rest)) := by
  subst hx
  refine va_iald C.1 C.2.1 hG.1 hG.2.1 _ 0 pm_read rfl (zI_in (by omega) (by decide)) hd ?_
  have e9 : (((zI z).toNatClampNeg : Nat) : Int) = z := by rw [zI_cl (by omega)]; omega
  show W p l e R s m args below meth c H locs cells slots Q (F0 m (pc + 1) ls (.int (zI (σ 31 0 (((zI z).toNatClampNeg : Nat) : Int))) :: rest))
  rw [e9]
  exact k
theorem pi_m_read (C : CallFix p m c cc nL s args tb own) (hG : GM Γ A σ s H locs) (hz : 0 ≤ z ∧ z < 20) (hd : decode cc pc = .ok (.iastore, 1)) (k : ∀ (H1 : Heap) (locs1 : List Loc), GM Γ A (up σ 31 0 z v) s H1 locs1 → W p l e R s m args below meth c H1 locs1 cells slots Q (F0 m (pc + 1) ls rest)) : W p l e R s m args below meth c H locs cells slots Q (F0 m pc ls (.int (zI v) :: .int (zI z) :: .ref (am_read Γ) :: rest)) := by
  refine va_iast C.1 C.2.1 hG.1 hG.2.1 hG.2.2.1 hG.2.2.2.1 _ 0 pm_read rfl (zI_in (by omega) (by decide)) hd (fun H1 l1 p1 d1 s1 => k H1 l1 ?_)
  rw [zI_cl (by omega), up_arr σ 31 0 hz.1, sm_read] at p1 d1
  exact ⟨hG.1, p1, d1, s1, hG.2.2.2.2⟩
theorem gi_m_kept (C : CallFix p m c cc nL s args tb own) (hG : GM Γ A σ s H locs) (hz : 0 ≤ z ∧ z < 63) (hx : σ 32 0 z = v) (hd : decode cc pc = .ok (.iaload, 1)) (k : W p l e R s m args below meth c H locs cells slots Q (F0 m (pc + 1) ls (.int (zI v) :: rest))) : W p l e R s m args below meth c H locs cells slots Q (F0 m pc ls (.int (zI z) :: .ref (am_kept Γ) :: rest)) := by
  subst hx
  refine va_iald C.1 C.2.1 hG.1 hG.2.1 _ 0 pm_kept rfl (zI_in (by omega) (by decide)) hd ?_
  have e9 : (((zI z).toNatClampNeg : Nat) : Int) = z := by rw [zI_cl (by omega)]; omega
  show W p l e R s m args below meth c H locs cells slots Q (F0 m (pc + 1) ls (.int (zI (σ 32 0 (((zI z).toNatClampNeg : Nat) : Int))) :: rest))
  rw [e9]
  exact k
theorem pi_m_kept (C : CallFix p m c cc nL s args tb own) (hG : GM Γ A σ s H locs) (hz : 0 ≤ z ∧ z < 63) (hd : decode cc pc = .ok (.iastore, 1)) (k : ∀ (H1 : Heap) (locs1 : List Loc), GM Γ A (up σ 32 0 z v) s H1 locs1 → W p l e R s m args below meth c H1 locs1 cells slots Q (F0 m (pc + 1) ls rest)) : W p l e R s m args below meth c H locs cells slots Q (F0 m pc ls (.int (zI v) :: .int (zI z) :: .ref (am_kept Γ) :: rest)) := by
  refine va_iast C.1 C.2.1 hG.1 hG.2.1 hG.2.2.1 hG.2.2.2.1 _ 0 pm_kept rfl (zI_in (by omega) (by decide)) hd (fun H1 l1 p1 d1 s1 => k H1 l1 ?_)
  rw [zI_cl (by omega), up_arr σ 32 0 hz.1, sm_kept] at p1 d1
  exact ⟨hG.1, p1, d1, s1, hG.2.2.2.2⟩
theorem gr_Rs (C : CallFix p m c cc nL s args tb own) (hG : GM Γ A σ s H locs) (hz : 0 ≤ z ∧ z < 6) (hd : decode cc pc = .ok (.aaload, 1)) (k : W p l e R s m args below meth c H locs cells slots Q (F0 m (pc + 1) ls (.ref (aRow Γ z) :: rest))) : W p l e R s m args below meth c H locs cells slots Q (F0 m pc ls (.int (zI z) :: .ref (aRs Γ) :: rest)) := by
  refine va_aldq C.1 C.2.1 hG.1 hG.2.1 _ 2 pRs rfl (zI_in (by omega) (by decide)) hd ?_
  have e9 : (((zI z).toNatClampNeg : Nat) : Int) = z := by rw [zI_cl (by omega)]; omega
  show W p l e R s m args below meth c H locs cells slots Q (F0 m (pc + 1) ls (.ref (aRow Γ (((zI z).toNatClampNeg : Nat) : Int)) :: rest))
  rw [e9]
  exact k
theorem gr_Ts (C : CallFix p m c cc nL s args tb own) (hG : GM Γ A σ s H locs) (hz : 0 ≤ z ∧ z < 4) (hd : decode cc pc = .ok (.aaload, 1)) (k : W p l e R s m args below meth c H locs cells slots Q (F0 m (pc + 1) ls (.ref (aTx Γ z) :: rest))) : W p l e R s m args below meth c H locs cells slots Q (F0 m pc ls (.int (zI z) :: .ref (aTs Γ) :: rest)) := by
  refine va_aldq C.1 C.2.1 hG.1 hG.2.1 _ 3 pTs rfl (zI_in (by omega) (by decide)) hd ?_
  have e9 : (((zI z).toNatClampNeg : Nat) : Int) = z := by rw [zI_cl (by omega)]; omega
  show W p l e R s m args below meth c H locs cells slots Q (F0 m (pc + 1) ls (.ref (aTx Γ (((zI z).toNatClampNeg : Nat) : Int)) :: rest))
  rw [e9]
  exact k
theorem gr_To (C : CallFix p m c cc nL s args tb own) (hG : GM Γ A σ s H locs) (hz : 0 ≤ z ∧ z < 5) (hd : decode cc pc = .ok (.aaload, 1)) (k : W p l e R s m args below meth c H locs cells slots Q (F0 m (pc + 1) ls (.ref (aCal Γ z) :: rest))) : W p l e R s m args below meth c H locs cells slots Q (F0 m pc ls (.int (zI z) :: .ref (aTo Γ) :: rest)) := by
  refine va_aldq C.1 C.2.1 hG.1 hG.2.1 _ 4 pTo rfl (zI_in (by omega) (by decide)) hd ?_
  have e9 : (((zI z).toNatClampNeg : Nat) : Int) = z := by rw [zI_cl (by omega)]; omega
  show W p l e R s m args below meth c H locs cells slots Q (F0 m (pc + 1) ls (.ref (aCal Γ (((zI z).toNatClampNeg : Nat) : Int)) :: rest))
  rw [e9]
  exact k
theorem gr_Ks (C : CallFix p m c cc nL s args tb own) (hG : GM Γ A σ s H locs) (hz : 0 ≤ z ∧ z < 3) (hd : decode cc pc = .ok (.aaload, 1)) (k : W p l e R s m args below meth c H locs cells slots Q (F0 m (pc + 1) ls (.ref (aKp Γ z) :: rest))) : W p l e R s m args below meth c H locs cells slots Q (F0 m pc ls (.int (zI z) :: .ref (aKs Γ) :: rest)) := by
  refine va_aldq C.1 C.2.1 hG.1 hG.2.1 _ 5 pKs rfl (zI_in (by omega) (by decide)) hd ?_
  have e9 : (((zI z).toNatClampNeg : Nat) : Int) = z := by rw [zI_cl (by omega)]; omega
  show W p l e R s m args below meth c H locs cells slots Q (F0 m (pc + 1) ls (.ref (aKp Γ (((zI z).toNatClampNeg : Nat) : Int)) :: rest))
  rw [e9]
  exact k
theorem gl_To (C : CallFix p m c cc nL s args tb own) (hG : GM Γ A σ s H locs) (hd : decode cc pc = .ok (.arraylength, 1)) (k : W p l e R s m args below meth c H locs cells slots Q (F0 m (pc + 1) ls (.int (zI 5) :: rest))) : W p l e R s m args below meth c H locs cells slots Q (F0 m pc ls (.ref (aTo Γ) :: rest)) :=
  va_alen C.1 C.2.1 hG.1 hG.2.1 _ 4 pTo rfl (show Int32.ofNat 5 = zI 5 by decide +kernel) hd k
theorem zr_ldc_w (C : CallFix p m c cc nL s args tb own) {w : Int32} (hw : Cond.constant own index w ∈ tb) (hv : w = zI z) (hd : decode cc pc = .ok (.ldc_w index, 3)) (k : W p l e R s m args below meth c H locs cells slots Q (F0 m (pc + 3) ls (.int (zI z) :: rest))) : W p l e R s m args below meth c H locs cells slots Q (F0 m pc ls rest) := by
  subst hv
  exact lv_ldcw C.1 C.2.1 C.2.2.2.1 (C.2.2.2.2 _ hw) hd k
theorem zr_topi {x y : Int} (h : x = y) (k : W p l e R s m args below meth c H locs cells slots Q (F0 m pc ls (.int (zI y) :: rest))) : W p l e R s m args below meth c H locs cells slots Q (F0 m pc ls (.int (zI x) :: rest)) := h ▸ k
theorem zr_topl {x y : Int} (h : x = y) (k : W p l e R s m args below meth c H locs cells slots Q (F0 m pc ls (.long (zL y) :: rest))) : W p l e R s m args below meth c H locs cells slots Q (F0 m pc ls (.long (zL x) :: rest)) := h ▸ k
theorem zr_max (C : CallFix p m c cc nL s args tb own) {x y : Int} (hl : Cond.methodLink own index yJ9_max_7cf53 ∈ tb) (h : ((-2147483648 ≤ x ∧ x < 2147483648) ∧ -2147483648 ≤ y ∧ y < 2147483648)) (hR : 1 ≤ R.frames ∧ (rest.map fun v => v.category).sum + 13 ≤ R.locals ∧ cells ≤ R.cells ∧ slots ≤ R.slots) (hls : ls.size = nL) (hd : decode cc pc = .ok (.invokestatic index, 3)) (k : W p l e R s m args below meth c H locs cells slots Q (F0 m (pc + 3) ls (.int (zI (max x y)) :: rest))) : W p l e R s m args below meth c H locs cells slots Q (F0 m pc ls (.int (zI y) :: .int (zI x) :: rest)) := by
  refine va_mmax C.1 C.2.1 (C.2.2.1.trans hls.symm) C.2.2.2.1 (C.2.2.2.2 _ hl) (C.2.2.2.2 _ ws_J9_max_7cf53) (C.2.2.2.2 _ wn_J9) (C.2.2.2.2 _ wc_J9_max_7cf53) hR.1 hR.2.1 hR.2.2.1 hR.2.2.2 hd ?_
  have e9 : (if zI x < zI y then zI y else zI x) = zI (max x y) := by
    by_cases q : x < y
    · rw [if_pos ((zI_lt h).mpr q), Int.max_eq_right (by omega)]
    · rw [if_neg (fun z => q ((zI_lt h).mp z)), Int.max_eq_left (by omega)]
  rw [e9]
  exact k
theorem zr_min (C : CallFix p m c cc nL s args tb own) {x y : Int} (hl : Cond.methodLink own index yJ9_min_7cf53 ∈ tb) (h : ((-2147483648 ≤ x ∧ x < 2147483648) ∧ -2147483648 ≤ y ∧ y < 2147483648)) (hR : 1 ≤ R.frames ∧ (rest.map fun v => v.category).sum + 13 ≤ R.locals ∧ cells ≤ R.cells ∧ slots ≤ R.slots) (hls : ls.size = nL) (hd : decode cc pc = .ok (.invokestatic index, 3)) (k : W p l e R s m args below meth c H locs cells slots Q (F0 m (pc + 3) ls (.int (zI (min x y)) :: rest))) : W p l e R s m args below meth c H locs cells slots Q (F0 m pc ls (.int (zI y) :: .int (zI x) :: rest)) := by
  refine va_mmin C.1 C.2.1 (C.2.2.1.trans hls.symm) C.2.2.2.1 (C.2.2.2.2 _ hl) (C.2.2.2.2 _ ws_J9_min_7cf53) (C.2.2.2.2 _ wn_J9) (C.2.2.2.2 _ wc_J9_min_7cf53) hR.1 hR.2.1 hR.2.2.1 hR.2.2.2 hd ?_
  have e9 : (if zI y < zI x then zI y else zI x) = zI (min x y) := by
    by_cases q : y < x
    · rw [if_pos ((zI_lt ⟨h.2, h.1⟩).mpr q), Int.min_eq_right (by omega)]
    · rw [if_neg (fun z => q ((zI_lt ⟨h.2, h.1⟩).mp z)), Int.min_eq_left (by omega)]
  rw [e9]
  exact k
theorem zr_abs (C : CallFix p m c cc nL s args tb own) {x : Int} (hl : Cond.methodLink own index yJ9_abs_0f7a4 ∈ tb) (h : -2147483648 ≤ x ∧ x < 2147483648) (hR : 1 ≤ R.frames ∧ (rest.map fun v => v.category).sum + 13 ≤ R.locals ∧ cells ≤ R.cells ∧ slots ≤ R.slots) (hls : ls.size = nL) (hd : decode cc pc = .ok (.invokestatic index, 3)) (k : W p l e R s m args below meth c H locs cells slots Q (F0 m (pc + 3) ls (.int (zI (max x (-x))) :: rest))) : W p l e R s m args below meth c H locs cells slots Q (F0 m pc ls (.int (zI x) :: rest)) := by
  refine va_mabs C.1 C.2.1 (C.2.2.1.trans hls.symm) C.2.2.2.1 (C.2.2.2.2 _ hl) (C.2.2.2.2 _ ws_J9_abs_0f7a4) (C.2.2.2.2 _ wn_J9) (C.2.2.2.2 _ wc_J9_abs_0f7a4) hR.1 hR.2.1 hR.2.2.1 hR.2.2.2 hd ?_
  have e9 : (if 0 ≤ zI x then zI x else 0 - zI x) = zI (max x (-x)) := by
    rw [zI_0]
    have h0 : ((-2147483648 : Int) ≤ 0 ∧ (0 : Int) < 2147483648) := by decide
    by_cases q : 0 ≤ x
    · rw [if_pos ((zI_le ⟨h0, h⟩).mpr q), Int.max_eq_left (by omega)]
    · rw [if_neg (fun z => q ((zI_le ⟨h0, h⟩).mp z)), Int.max_eq_right (by omega), zI_sub, Int.zero_sub]
  rw [e9]
  exact k
end ZF
