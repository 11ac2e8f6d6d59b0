/-! CONSTRUCTORS: the world grows; what was there before, W0, stays -/
def tyC (k : Nat → ClassId) : List (ClassId × FieldType) := [(k 0, .int), (k 1, .byte), (k 2, .object "LostDays$Row"), (k 3, .object "LostDays$Text"), (k 4, .object "LostDays$Calendar"), (k 5, .object "LostDays$Kept")]
def gNC (U : State) : Prop := va_Nw (.methodLinkNest RX4 33 yX0_init "LostDays") U ∧ va_Nw (.methodLinkNest RX4 62 yX2_init "LostDays") U ∧ va_Nw (.methodLinkNest RX4 63 yX3_init "LostDays") U ∧ va_Nw (.methodLinkNest RX4 64 yX1_init "LostDays") U ∧ va_AO "LostDays$Row" U ∧ va_AO "LostDays$Text" U ∧ va_AO "LostDays$Calendar" U ∧ va_AO "LostDays$Kept" U
theorem gNC.warm {s U : State} (hW : s.WarmedH U.vm) (h : gNC s) : gNC U := ⟨h.1.warmM hW, h.2.1.warmM hW, h.2.2.1.warmM hW, h.2.2.2.1.warmM hW, h.2.2.2.2.1.moved hW.alike, h.2.2.2.2.2.1.moved hW.alike, h.2.2.2.2.2.2.1.moved hW.alike, h.2.2.2.2.2.2.2.moved hW.alike⟩
def GK (D : va_G) (k : Nat → ClassId) (A : Nat → Prop) (W0 L : va_W) (s : State) (H : Heap) (locs : List Loc) : Prop := va_K D clsG (tyC k) s ∧ va_P D clsG (W0 ++ L) H ∧ va_D A (W0 ++ L) ∧ va_S A s.heap H locs ∧ (∀ q : Nat, s.heap.size ≤ q → A q) ∧ gNC s
def gKp (D : va_G) (k : Nat → ClassId) (A : Nat → Prop) (W0 L : va_W) (U : State) : Prop := va_K D clsG (tyC k) U ∧ va_P D clsG (W0 ++ L) U.heap ∧ va_D A (W0 ++ L) ∧ (∀ q : Nat, U.heap.size ≤ q → A q) ∧ gNC U
def gKq (D : va_G) (A : Nat → Prop) (W0 : va_W) (Φ : va_W → Prop) : Array Value → State → Outcome → State → Prop := fun _ st oc t => (∃ L : va_W, Φ L ∧ oc = .returned none ∧ va_P D clsG (W0 ++ L) t.heap ∧ va_D A (W0 ++ L)) ∧ va_F A st t
/-- A CONSTRUCTOR'S CONTRACT: of the cells L comes a list of which Φ holds; W0 stays -/
def Fk (D : va_G) (k : Nat → ClassId) (l : Launch) (A : Nat → Prop) (y : MethodName) (b : ByteArray) (nL fr lc mc ms h0 : Nat) (W0 L : va_W) (Φ : va_W → Prop) : Prop :=
  Met l y (.code y b nL none :: tb) { frames := fr, cells := mc, slots := ms, locals := lc } (va_Pc [.ref h0] (gKp D k A W0 L)) (gKq D A W0 Φ) mc ms A
theorem gKp.blind {D : va_G} {k : Nat → ClassId} {A : Nat → Prop} {W0 L : va_W} {av : List Value} : FrameBlind (va_Pc av (gKp D k A W0 L)) := fun a U g mk q => by
  obtain ⟨q0, qK, qP, qD, qA, qN⟩ := q
  have h : U.vm.Alike (U.calling g mk a).vm := Vm.Alike.refl U.vm
  exact ⟨q0, va_K.moved (u := U) (U := U.calling g mk a) h qK, qP, qD, qA, qN.1.same rfl rfl, qN.2.1.same rfl rfl, qN.2.2.1.same rfl rfl, qN.2.2.2.1.same rfl rfl, qN.2.2.2.2.1.moved h, qN.2.2.2.2.2.1.moved h, qN.2.2.2.2.2.2.1.moved h, qN.2.2.2.2.2.2.2.moved h⟩
def CRk (D : va_G) (A : Nat → Prop) (W0 : va_W) (Φ : va_W → Prop) (mc ms : Nat) (s : State) (args : Array Value) (below : List Frame) (meth : Method) (Q : State → Prop) : Prop := meth.sig.returnType = none ∧ meth.locks = false ∧ meth.name = "<init>" ∧ Q = MQ below (gKq D A W0 Φ) args s mc ms A
theorem Fk_of {D : va_G} {k : Nat → ClassId} {l : Launch} {A : Nat → Prop} {y : MethodName} {b : ByteArray} {nL fr lc mc ms h0 : Nat} {W0 L : va_W} {Φ : va_W → Prop} (hy : plainName y.cls = true) (hn : y.name = "<init>") (hlen : 1 ≤ nL)
    (body : ∀ (p : Program) (e : Env) (s : State) (m : MethodId) (args : Array Value) (below : List Frame) (meth : Method) (c : Code) (Q : State → Prop) (H : Heap) (locs : List Loc) (ls : Array Slot), CallFix p m c b nL s args tb y.cls → CRk D A W0 Φ mc ms s args below meth Q → GK D k A W0 L s H locs → lv_has ls nL [(0, .ref h0)] →
      W p l e { frames := fr, cells := mc, slots := ms, locals := lc } s m args below meth c H locs 0 0 Q (F0 m 0 ls [])) : Fk D k l A y b nL fr lc mc ms h0 W0 L Φ := by
  refine Met.ofW (cc := b) (maxL := nL) (ret := none) hy rfl ?_
  intro p e s m args below meth c s₁ B hml hv
  obtain ⟨rfl, hK, hP, hD, hA, hN⟩ := hv
  have hts := atoms_spec (ws := Cond.code y b nL none :: tb) B.pre
  have hl := lv_entry [.ref h0] (n := nL) hlen
  have hin : meth.name = "<init>" := ((name_of_methodNamed B.named B.method).1).trans hn
  rw [lg_entry_eq]
  exact body p e s m ([.ref h0] : List Value).toArray below meth c _ s.heap [] _ ⟨B.exec, B.bytes, hml, findClass_of_methodNamed B.named, fun w hw => hts w (List.mem_cons_of_mem _ hw)⟩ ⟨B.returns, B.notSynchronized, hin, rfl⟩ ⟨hK, hP, hD, va_S.rf, hA, hN⟩ hl
theorem wk_at {W0 L : va_W} {k : Nat} {x : Nat × va_E} (h : L[k]? = some x) : (W0 ++ L)[W0.length + k]? = some x := by
  rw [List.getElem?_append_right (Nat.le_add_right _ _), Nat.add_sub_cancel_left]
  exact h
theorem wk_set (W0 L : va_W) (k : Nat) (x : Nat × va_E) : (W0 ++ L).set (W0.length + k) x = W0 ++ L.set k x := by
  rw [List.set_append_right _ _ (Nat.le_add_right _ _), Nat.add_sub_cancel_left]
theorem ra_u {U : State} {a b : ClassId} {t : FieldType} (h1 : va_RA U a t) (h2 : va_RA U b t) : a = b := by
  cases t <;> simp only [va_RA] at h1 h2
  all_goals first
    | exact Option.some.inj (h1.symm.trans h2)
    | (obtain ⟨_, _, -, -, -, g1⟩ := h1; obtain ⟨_, _, -, -, -, g2⟩ := h2; exact Option.some.inj (g1.symm.trans g2))
section ZK
variable {p : Program} {l : Launch} {e : Env} {R : Room} {s : State} {m : MethodId} {args : Array Value} {below : List Frame} {meth : Method} {c : Code} {H : Heap} {locs : List Loc} {cells slots : Nat} {Q : State → Prop}
variable {own : String} {cc : ByteArray} {nL : Nat} {pc : Nat} {ls : Array Slot} {rest : List Value} {D : va_G} {k : Nat → ClassId} {A : Nat → Prop} {W0 L L' : va_W} {Φ : va_W → Prop} {index : Nat} {y : MethodName} {b' : ByteArray} {nL' fr lc mc ms h0 : Nat}
theorem gk_l (h : GK D k A W0 (L ++ L') s H locs) : GK D k A (W0 ++ L) L' s H locs := ⟨h.1, by rw [List.append_assoc]; exact h.2.1, by rw [List.append_assoc]; exact h.2.2.1, h.2.2.2⟩
theorem gk_r (h : GK D k A (W0 ++ L) L' s H locs) : GK D k A W0 (L ++ L') s H locs := ⟨h.1, by rw [← List.append_assoc]; exact h.2.1, by rw [← List.append_assoc]; exact h.2.2.1, h.2.2.2⟩
theorem GK.pre (hG : GK D k A W0 L s H locs) : ∀ U : State, U.heap = H → s.WarmedH U.vm → gKp D k A W0 L U := fun U hU hW => ⟨va_K.moved hW.alike hG.1, by rw [hU]; exact hG.2.1, hG.2.2.1, fun q hq => hG.2.2.2.2.1 q (Nat.le_trans hG.2.2.2.1.1 (by rw [← hU]; exact hq)), gNC.warm hW hG.2.2.2.2.2⟩
theorem zk_after {st : List Value} {a : Array Value} (hG : GK D k A W0 L s H locs) (hr : va_Run p l e R s m args below meth c H locs cells slots mc ms (F0 m pc ls st) rest (gKq D A W0 Φ a) A)
    (kk : ∀ (L2 : va_W) (H1 : Heap) (locs1 : List Loc), Φ L2 → GK D k A W0 L2 s H1 locs1 → W p l e R s m args below meth c H1 locs1 (cells + mc) (slots + ms) Q (F0 m (pc + 3) ls rest)) : W p l e R s m args below meth c H locs cells slots Q (F0 m pc ls st) := by
  intro T hT X
  obtain ⟨v, st₀, t, T', Lc, q0, X', hL, e1, e2, ⟨⟨L2, hr1, hv, hp, hd⟩, hz, hk⟩, st⟩ := hr T hT X
  cases hv
  rw [q0] at hz hk
  have hS := hG.2.2.2.1
  have hS1 : va_S A s.heap T'.heap (locs ++ Lc) := ⟨Nat.le_trans hS.1 (by rw [e1]; exact hz), fun q h1 h2 => by rw [e1, hk q (Nat.lt_of_lt_of_le h1 hS.1) h2]; exact hS.2.1 q h1 h2, fun q hq => by
      rcases List.mem_append.mp hq with h | h
      · exact hS.2.2 q h
      · exact hL q h⟩
  obtain ⟨t2, a1, b1⟩ := kk L2 T'.heap (locs ++ Lc) hr1 ⟨hG.1, by rw [e1]; exact hp, hd, hS1, hG.2.2.2.2⟩ T' rfl X'
  exact ⟨t2, st t2 a1, b1⟩
theorem zk_callI (C : CallFix p m c cc nL s args tb own) (hG : GK D k A W0 L s H locs) (hM : Fk D k l A y b' nL' fr lc mc ms h0 W0 L Φ) (hcd : Cond.code y b' nL' none ∈ tb) (hin : Cond.initialized y.cls ∈ tb) (him : Cond.instanceMethod y ∈ tb) (hl : Cond.methodLink own index y ∈ tb) (hyn : y.name = "<init>") (hy : y.cls ≠ "java/lang/invoke/MethodHandle" ∧ y.cls ≠ "java/lang/invoke/VarHandle" ∧ (parseMethodDescriptor y.desc).map (fun d => d.parameters.length) = some 0)
    (hR : fr + 1 ≤ R.frames ∧ 8 + (nL' + 11) + lc ≤ R.locals) (hls : ls.size = nL) (hrest : (rest.map fun v => v.category).sum ≤ 8) (hd : decode cc pc = .ok (.invokespecial index, 3)) (hf : cells + mc ≤ R.cells ∧ slots + ms ≤ R.slots)
    (kk : ∀ (L2 : va_W) (H1 : Heap) (locs1 : List Loc), Φ L2 → GK D k A W0 L2 s H1 locs1 → W p l e R s m args below meth c H1 locs1 (cells + mc) (slots + ms) Q (F0 m (pc + 3) ls rest)) : W p l e R s m args below meth c H locs cells slots Q (F0 m pc ls (.ref h0 :: rest)) := by
  have hts := C.2.2.2.2
  have cb : CallB R s args own index y b' nL' none (.code y b' nL' none :: tb) { frames := fr, cells := mc, slots := ms, locals := lc } mc ms 0 := callB_of 0 hts (tb_cons hcd) rfl rfl rfl (hts _ hin) (hts _ hl) hy hR
  exact zk_after hG (va_runI (As := []) (b := h0) C hM ⟨cb, hyn, hts _ him⟩ ⟨gKp.blind, fun U hU hW => ⟨rfl, hG.pre U hU hW⟩⟩ rfl rfl hls rfl (lv_room hrest) hd hf) kk
theorem zk_callN (C : CallFix p m c cc nL s args tb own) (hG : GK D k A W0 L s H locs) (hM : Fk D k l A y b' nL' fr lc mc ms h0 W0 L Φ) (hcd : Cond.code y b' nL' none ∈ tb) (hin : Cond.initialized y.cls ∈ tb) (him : Cond.instanceMethod y ∈ tb) {host : String} (hl : va_Nw (.methodLinkNest own index y host) s) (hyn : y.name = "<init>") (hy : y.cls ≠ "java/lang/invoke/MethodHandle" ∧ y.cls ≠ "java/lang/invoke/VarHandle" ∧ (parseMethodDescriptor y.desc).map (fun d => d.parameters.length) = some 0)
    (hR : fr + 1 ≤ R.frames ∧ 8 + (nL' + 11) + lc ≤ R.locals) (hls : ls.size = nL) (hrest : (rest.map fun v => v.category).sum ≤ 8) (hd : decode cc pc = .ok (.invokespecial index, 3)) (hf : cells + mc ≤ R.cells ∧ slots + ms ≤ R.slots)
    (kk : ∀ (L2 : va_W) (H1 : Heap) (locs1 : List Loc), Φ L2 → GK D k A W0 L2 s H1 locs1 → W p l e R s m args below meth c H1 locs1 (cells + mc) (slots + ms) Q (F0 m (pc + 3) ls rest)) : W p l e R s m args below meth c H locs cells slots Q (F0 m pc ls (.ref h0 :: rest)) := by
  have hts := C.2.2.2.2
  have cb : va_CN R s args own index y host b' nL' none (.code y b' nL' none :: tb) { frames := fr, cells := mc, slots := ms, locals := lc } mc ms 0 := va_cnB 0 hts (tb_cons hcd) rfl rfl rfl hl (hts _ hin) hy hR
  exact zk_after hG (va_runIN (As := []) (b := h0) C hM ⟨cb, hyn, hts _ him⟩ ⟨gKp.blind, fun U hU hW => ⟨rfl, hG.pre U hU hW⟩⟩ rfl rfl hls rfl (lv_room hrest) hd hf) kk
theorem zk_vret (C : CallFix p m c cc nL s args tb own) (K : CRk D A W0 Φ cells slots s args below meth Q) (hG : GK D k A W0 L s H locs) (hd : decode cc pc = .ok (.return_, 1)) (hr : Φ L) : W p l e R s m args below meth c H locs cells slots Q (F0 m pc ls []) := by
  obtain ⟨hr1, hk, -, hQ⟩ := K
  subst hQ
  exact W.vret C.1 C.2.1 hr1 (fun t ht hW => ⟨⟨L, hr, rfl, by rw [ht]; exact hG.2.1, hG.2.2.1⟩, hG.2.2.2.1.F ht⟩) hG.2.2.2.1.2.2 hd hk
theorem zk_obj (C : CallFix p m c cc nL s args tb own) {a : Nat} (hl : Cond.methodLink own index ⟨"java/lang/Object", "<init>", "()V"⟩ ∈ tb) (hls : ls.size = nL) (hd : decode cc pc = .ok (.invokespecial index, 3)) (hf : 1 ≤ R.frames ∧ 12 ≤ R.locals)
    (kk : W p l e R s m args below meth c H locs cells slots Q (F0 m (pc + 3) ls [])) : W p l e R s m args below meth c H locs cells slots Q (F0 m pc ls [.ref a]) := by
  have hts := C.2.2.2.2
  exact W.objInit C.1 C.2.1 C.2.2.2.1 (hts _ hl) (hts _ wi_Object_init) (hts _ (show Cond.code ⟨"java/lang/Object", "<init>", "()V"⟩ ⟨#[0xb1]⟩ 1 none ∈ tb from wc_Object_init)) rfl (hls.trans C.2.2.1.symm) rfl hd hf.1 hf.2 kk
theorem zk_new (C : CallFix p m c cc nL s args tb own) (hG : GK D k A W0 L s H locs) {Cn : String} {T : u_T} {N ci : Nat} (hin : ∀ w ∈ u_ws Cn T N, w ∈ tb) (tyf : Nat → FieldType) (hty : ∀ j, j < N → parseFieldDescriptor (T j).2.2.1 = some (tyf j)) (hcl : Cond.classLink own index Cn ∈ tb) (hinst : Cond.instantiable Cn N ∈ tb) (hini : Cond.initialized Cn ∈ tb) (hc : clsG[ci]? = some (Cn, T, N)) {fs : List Value} (hfs : ∀ j, j < N → defaultValue (tyf j) = vp_V fs j) (hcells : cells + 1 ≤ R.cells) (hslots : slots + N ≤ R.slots) (hd : decode cc pc = .ok (.new index, 3))
    (kk : ∀ (q : Nat) (H1 : Heap), GK D k A W0 (L ++ [(q, .inr (ci, fs))]) s H1 locs → W p l e R s m args below meth c H1 locs (cells + 1) (slots + N) Q (F0 m (pc + 3) ls (.ref q :: rest))) : W p l e R s m args below meth c H locs cells slots Q (F0 m pc ls rest) := by
  have hts := C.2.2.2.2
  exact va_new (ci := ci) C.1 C.2.1 hts hin tyf hty C.2.2.2.1 (hts _ hcl) (hts _ hinst) (hts _ hini) hG.1 hG.2.1 hG.2.2.1 hG.2.2.2.1 hG.2.2.2.2.1 hc hfs hcells hslots hd (fun q H1 hP hD hS => kk q H1 ⟨hG.1, by rw [← List.append_assoc]; exact hP, by rw [← List.append_assoc]; exact hD, hS, hG.2.2.2.2⟩)
theorem ty_last {t : List (ClassId × FieldType)} {x : ClassId × FieldType} : (t ++ [x])[t.length]? = some x := by simp
theorem zk_newI (C : CallFix p m c cc nL s args tb own) (hG : GK D k A W0 L s H locs) {n : Int} {N : Nat} (hN : n = (N : Int)) (hb : N ≤ 1000) (hcells : cells + 1 ≤ R.cells) (hslots : slots + N ≤ R.slots) (hd : decode cc pc = .ok (.newarray .int, 2))
    (kk : ∀ (q : Nat) (H1 : Heap), GK D k A W0 (L ++ [(q, .inl (k 0, N, .inl (fun _ => zI 0)))]) s H1 locs → W p l e R s m args below meth c H1 locs (cells + 1) (slots + N) Q (F0 m (pc + 2) ls (.ref q :: rest))) : W p l e R s m args below meth c H locs cells slots Q (F0 m pc ls (.int (zI n) :: rest)) := by
  have hts := C.2.2.2.2
  subst hN
  refine va_newa (atype := .int) (ty := .int) (a0 := (N, .inl (fun _ => zI 0))) C.1 C.2.1 (hts _ wa_int) rfl hG.1 hG.2.1 hG.2.2.1 hG.2.2.2.1 hG.2.2.2.2.1 (fun cA => rfl) (by rw [zI_0, zI_lt ⟨by omega, by omega⟩]; omega) (by rw [zI_cl (by omega)]; omega) (by show N * 4 ≤ 536870912; omega) hcells hslots hd (fun q cA H1 hK hP hD hS => ?_)
  have e : cA = k 0 := ra_u (hK.2 _ _ ty_last).2 (hG.1.2 0 _ rfl).2
  subst e
  exact kk q H1 ⟨hG.1, by rw [← List.append_assoc]; exact hP, by rw [← List.append_assoc]; exact hD, hS, hG.2.2.2.2⟩
theorem zk_newB (C : CallFix p m c cc nL s args tb own) (hG : GK D k A W0 L s H locs) {n : Int} {N : Nat} (hN : n = (N : Int)) (hb : N ≤ 1000) (hcells : cells + 1 ≤ R.cells) (hslots : slots + N ≤ R.slots) (hd : decode cc pc = .ok (.newarray .byte, 2))
    (kk : ∀ (q : Nat) (H1 : Heap), GK D k A W0 (L ++ [(q, .inl (k 1, N, .inl (fun _ => zI 0)))]) s H1 locs → W p l e R s m args below meth c H1 locs (cells + 1) (slots + N) Q (F0 m (pc + 2) ls (.ref q :: rest))) : W p l e R s m args below meth c H locs cells slots Q (F0 m pc ls (.int (zI n) :: rest)) := by
  have hts := C.2.2.2.2
  subst hN
  refine va_newa (atype := .byte) (ty := .byte) (a0 := (N, .inl (fun _ => zI 0))) C.1 C.2.1 (hts _ wa_byte) rfl hG.1 hG.2.1 hG.2.2.1 hG.2.2.2.1 hG.2.2.2.2.1 (fun cA => rfl) (by rw [zI_0, zI_lt ⟨by omega, by omega⟩]; omega) (by rw [zI_cl (by omega)]; omega) (by show N * 1 ≤ 536870912; omega) hcells hslots hd (fun q cA H1 hK hP hD hS => ?_)
  have e : cA = k 1 := ra_u (hK.2 _ _ ty_last).2 (hG.1.2 1 _ rfl).2
  subst e
  exact kk q H1 ⟨hG.1, by rw [← List.append_assoc]; exact hP, by rw [← List.append_assoc]; exact hD, hS, hG.2.2.2.2⟩
theorem zk_newq (C : CallFix p m c cc nL s args tb own) (hG : GK D k A W0 L s H locs) {n : Int} {N t0 : Nat} {Cn : String} {cA : ClassId} (ht : (tyC k)[t0]? = some (cA, .object Cn)) (hao : va_AO Cn s) (hcl : Cond.classLink own index Cn ∈ tb) (hN : n = (N : Int)) (hb : N ≤ 1000) (hcells : cells + 1 ≤ R.cells) (hslots : slots + N ≤ R.slots) (hd : decode cc pc = .ok (.anewarray index, 3))
    (kk : ∀ (q : Nat) (H1 : Heap), GK D k A W0 (L ++ [(q, .inl (cA, N, .inr (.inr (.inr (.inr (fun _ => none))))))]) s H1 locs → W p l e R s m args below meth c H1 locs (cells + 1) (slots + N) Q (F0 m (pc + 3) ls (.ref q :: rest))) : W p l e R s m args below meth c H locs cells slots Q (F0 m pc ls (.int (zI n) :: rest)) := by
  have hts := C.2.2.2.2
  subst hN
  refine va_newq C.1 C.2.1 C.2.2.2.1 (hts _ hcl) hao hG.1 hG.2.1 hG.2.2.1 hG.2.2.2.1 hG.2.2.2.2.1 (by rw [zI_0, zI_lt ⟨by omega, by omega⟩]; omega) (by rw [zI_cl (by omega)]; omega) (by omega) hcells hslots hd (fun q cB H1 hK hP hD hS => ?_)
  have e : cB = cA := ra_u (hK.2 _ _ ty_last).2 (hG.1.2 t0 _ ht).2
  subst e
  exact kk q H1 ⟨hG.1, by rw [← List.append_assoc]; exact hP, by rw [← List.append_assoc]; exact hD, hS, hG.2.2.2.2⟩
theorem zk_put (C : CallFix p m c cc nL s args tb own) (hG : GK D k A W0 L s H locs) {ref Cn : String} {T : u_T} {N ci : Nat} (hin : ∀ w ∈ u_ws Cn T N, w ∈ tb) (tyf : Nat → FieldType) (hty : ∀ j, j < N → parseFieldDescriptor (T j).2.2.1 = some (tyf j)) (hnm : ∀ a, a < N → ∀ b, b < N → a ≠ b → (T a).2.1 ≠ (T b).2.1) (q0 : Nat) {a : Nat} {fs : List Value} (he : L[q0]? = some (a, .inr (ci, fs))) (hc : clsG[ci]? = some (Cn, T, N)) (j : Nat) (hj : j < N) (hl : Cond.fieldLink own index ref (T j).2.1 (T j).2.2.1 ∈ tb) (hsame : ∀ x, s.fieldFound? (T j).1 (T j).2.1 (T j).2.2.1 = some x → s.fieldFound? ref (T j).2.1 (T j).2.2.1 = some x) (hfin : (T j).2.2.2 = false) {fty : FieldType} {v : Value} (hp : parseFieldDescriptor (T j).2.2.1 = some fty) (hn : narrow fty v = v) (hfit : fits fty v = true) (hlen : j < fs.length) (hd : decode cc pc = .ok (.putfield index, 3))
    (kk : ∀ (H1 : Heap) (locs1 : List Loc), GK D k A W0 (L.set q0 (a, .inr (ci, fs.set j v))) s H1 locs1 → W p l e R s m args below meth c H1 locs1 cells slots Q (F0 m (pc + 3) ls rest)) : W p l e R s m args below meth c H locs cells slots Q (F0 m pc ls (v :: .ref a :: rest)) := by
  have hts := C.2.2.2.2
  exact va_put (ci := ci) (ty := fty) C.1 C.2.1 hts hin tyf hty hnm C.2.2.2.1 hG.1 hG.2.1 hG.2.2.1 hG.2.2.2.1 (W0.length + q0) (wk_at he) hc j hj (hts _ hl) hsame hfin hp hn hfit hlen hd (fun H1 l1 p1 d1 s1 => kk H1 l1 ⟨hG.1, (wk_set W0 L q0 _) ▸ p1, (wk_set W0 L q0 _) ▸ d1, s1, hG.2.2.2.2⟩)
theorem zk_putF (C : CallFix p m c cc nL s args tb own) (hG : GK D k A W0 L s H locs) {ref Cn : String} {T : u_T} {N ci : Nat} (hin : ∀ w ∈ u_ws Cn T N, w ∈ tb) (tyf : Nat → FieldType) (hty : ∀ j, j < N → parseFieldDescriptor (T j).2.2.1 = some (tyf j)) (hnm : ∀ a, a < N → ∀ b, b < N → a ≠ b → (T a).2.1 ≠ (T b).2.1) (q0 : Nat) {a : Nat} {fs : List Value} (he : L[q0]? = some (a, .inr (ci, fs))) (hc : clsG[ci]? = some (Cn, T, N)) (j : Nat) (hj : j < N) (hl : Cond.fieldLink own index ref (T j).2.1 (T j).2.2.1 ∈ tb) (hsame : ∀ x, s.fieldFound? (T j).1 (T j).2.1 (T j).2.2.1 = some x → s.fieldFound? ref (T j).2.1 (T j).2.2.1 = some x) (hfin : (T j).2.2.2 = true) (hmn : meth.name = "<init>") (hdecl : (T j).1 = own) {fty : FieldType} {v : Value} (hp : parseFieldDescriptor (T j).2.2.1 = some fty) (hn : narrow fty v = v) (hfit : fits fty v = true) (hlen : j < fs.length) (hd : decode cc pc = .ok (.putfield index, 3))
    (kk : ∀ (H1 : Heap) (locs1 : List Loc), GK D k A W0 (L.set q0 (a, .inr (ci, fs.set j v))) s H1 locs1 → W p l e R s m args below meth c H1 locs1 cells slots Q (F0 m (pc + 3) ls rest)) : W p l e R s m args below meth c H locs cells slots Q (F0 m pc ls (v :: .ref a :: rest)) := by
  have hts := C.2.2.2.2
  exact va_putF (ci := ci) (ty := fty) C.1 C.2.1 hts hin tyf hty hnm C.2.2.2.1 hG.1 hG.2.1 hG.2.2.1 hG.2.2.2.1 (W0.length + q0) (wk_at he) hc j hj (hts _ hl) hsame hfin hmn hdecl hp hn hfit hlen hd (fun H1 l1 p1 d1 s1 => kk H1 l1 ⟨hG.1, (wk_set W0 L q0 _) ▸ p1, (wk_set W0 L q0 _) ▸ d1, s1, hG.2.2.2.2⟩)
theorem zk_get (C : CallFix p m c cc nL s args tb own) (hG : GK D k A W0 L s H locs) {ref Cn : String} {T : u_T} {N ci : Nat} (hin : ∀ w ∈ u_ws Cn T N, w ∈ tb) (q0 : Nat) {a : Nat} {fs : List Value} (he : L[q0]? = some (a, .inr (ci, fs))) (hc : clsG[ci]? = some (Cn, T, N)) (j : Nat) (hj : j < N) (hl : Cond.fieldLink own index ref (T j).2.1 (T j).2.2.1 ∈ tb) (hsame : ∀ x, s.fieldFound? (T j).1 (T j).2.1 (T j).2.2.1 = some x → s.fieldFound? ref (T j).2.1 (T j).2.2.1 = some x) {v : Value} (hv : fs[j]? = some v) (hd : decode cc pc = .ok (.getfield index, 3))
    (kk : W p l e R s m args below meth c H locs cells slots Q (F0 m (pc + 3) ls (v :: rest))) : W p l e R s m args below meth c H locs cells slots Q (F0 m pc ls (.ref a :: rest)) :=
  va_get (ci := ci) C.1 C.2.1 C.2.2.2.2 hin C.2.2.2.1 hG.1 hG.2.1 (W0.length + q0) (wk_at he) hc j hj (C.2.2.2.2 _ hl) hsame hv hd kk
theorem zk_astq (C : CallFix p m c cc nL s args tb own) (hG : GK D k A W0 L s H locs) (q0 t0 qk ci : Nat) {a : Nat} {cA : ClassId} {r : vw_C} {n v : Nat} {vs : List Value} {f : Nat → Option Nat} (ha : L[q0]? = some (a, .inl (cA, n, .inr (.inr (.inr (.inr f)))))) (ht : (tyC k)[t0]? = some (cA, .object r.1)) (hv : L[qk]? = some (v, .inr (ci, vs))) (hc : clsG[ci]? = some r) {i : Int} (hi : 0 ≤ i ∧ i < n) (hn : n < 1000) (hd : decode cc pc = .ok (.aastore, 1))
    (kk : ∀ (H1 : Heap) (locs1 : List Loc), GK D k A W0 (L.set q0 (a, .inl (cA, n, .inr (.inr (.inr (.inr (va_up f i.toNat (some v)))))))) s H1 locs1 → W p l e R s m args below meth c H1 locs1 cells slots Q (F0 m (pc + 1) ls rest)) : W p l e R s m args below meth c H locs cells slots Q (F0 m pc ls (.ref v :: .int (zI i) :: .ref a :: rest)) := by
  refine va_astq C.1 C.2.1 hG.1 hG.2.1 hG.2.2.1 hG.2.2.2.1 (W0.length + q0) t0 (W0.length + qk) ci (wk_at ha) ht (wk_at hv) hc (zI_in hi (by omega)) hd (fun H1 l1 p1 d1 s1 => kk H1 l1 ?_)
  rw [zI_cl (by omega), wk_set] at p1 d1
  exact ⟨hG.1, p1, d1, s1, hG.2.2.2.2⟩
theorem zk_iast (C : CallFix p m c cc nL s args tb own) (hG : GK D k A W0 L s H locs) (q0 : Nat) {a n : Nat} {f : Nat → Int32} (ha : L[q0]? = some (a, .inl (k 0, n, .inl f))) {i v : Int} (hi : 0 ≤ i ∧ i < n) (hn : n < 1000) (hd : decode cc pc = .ok (.iastore, 1))
    (kk : ∀ (H1 : Heap) (locs1 : List Loc), GK D k A W0 (L.set q0 (a, .inl (k 0, n, .inl (upd f i.toNat (zI v))))) s H1 locs1 → W p l e R s m args below meth c H1 locs1 cells slots Q (F0 m (pc + 1) ls rest)) : W p l e R s m args below meth c H locs cells slots Q (F0 m pc ls (.int (zI v) :: .int (zI i) :: .ref a :: rest)) := by
  refine va_iast C.1 C.2.1 hG.1 hG.2.1 hG.2.2.1 hG.2.2.2.1 (W0.length + q0) 0 (wk_at ha) rfl (zI_in hi (by omega)) hd (fun H1 l1 p1 d1 s1 => kk H1 l1 ?_)
  rw [zI_cl (by omega), wk_set] at p1 d1
  exact ⟨hG.1, p1, d1, s1, hG.2.2.2.2⟩
end ZK
theorem av_c {cA : ClassId} {n : Nat} {f g : Nat → Value} (h : ∀ j, j < n → f j = g j) : arrV cA n f = arrV cA n g := by
  have e : (fun j : Fin n => f j.val) = (fun j : Fin n => g j.val) := funext (fun j => h j.val j.isLt)
  unfold arrV
  rw [e]
/-- cells in another order -/
theorem GK.perm {D : va_G} {k : Nat → ClassId} {A : Nat → Prop} {L L' : va_W} {s : State} {H : Heap} {locs : List Loc} (W0 : va_W) (h : GK D k A W0 L s H locs) (is : List Nat) (hn : va_nd is = true) (hs : is.map (fun i => L[i]?) = L'.map some) : GK D k A W0 L' s H locs := by
  obtain ⟨hK, hP, hD, hr⟩ := h
  have hPL : va_P D clsG L H := fun i q hq => hP (W0.length + i) q (wk_at hq)
  have hP0 : va_P D clsG W0 H := fun i q hq => hP i q (by rw [List.getElem?_append_left (List.getElem?_eq_some_iff.mp hq).1]; exact hq)
  have hDL : va_D A L := ⟨fun i j p q h1 h2 h3 => by have := hD.1 (W0.length + i) (W0.length + j) p q (wk_at h1) (wk_at h2) h3; omega, fun i q hq => hD.2 (W0.length + i) q (wk_at hq)⟩
  have hD' := hDL.sub (ws' := L') is hn hs
  have key : ∀ (j : Nat) (q : Nat × va_E), L'[j]? = some q → ∃ i : Nat, L[i]? = some q := by
    intro j q hq
    have h1 : (L'.map some)[j]? = some (some q) := by rw [List.getElem?_map, hq]; rfl
    rw [← hs, List.getElem?_map] at h1
    cases h2 : is[j]? with
    | none => rw [h2] at h1; cases h1
    | some i => rw [h2] at h1; exact ⟨i, Option.some.inj h1⟩
  refine ⟨hK, fun j q hq => ?_, ⟨fun i j p q h1 h2 h3 => ?_, fun j q hq => ?_⟩, hr⟩
  · by_cases hj : j < W0.length
    · rw [List.getElem?_append_left hj] at hq
      exact hP0 j q hq
    · rw [List.getElem?_append_right (by omega)] at hq
      obtain ⟨i, hi⟩ := key _ q hq
      exact hPL i q hi
  · by_cases hi : i < W0.length
    · by_cases hj : j < W0.length
      · rw [List.getElem?_append_left hi] at h1
        rw [List.getElem?_append_left hj] at h2
        exact hD.1 i j p q (by rw [List.getElem?_append_left hi]; exact h1) (by rw [List.getElem?_append_left hj]; exact h2) h3
      · rw [List.getElem?_append_left hi] at h1
        rw [List.getElem?_append_right (by omega)] at h2
        obtain ⟨z, hz⟩ := key _ q h2
        have := hD.1 i (W0.length + z) p q (by rw [List.getElem?_append_left hi]; exact h1) (wk_at hz) h3
        omega
    · by_cases hj : j < W0.length
      · rw [List.getElem?_append_right (by omega)] at h1
        rw [List.getElem?_append_left hj] at h2
        obtain ⟨z, hz⟩ := key _ p h1
        have := hD.1 (W0.length + z) j p q (wk_at hz) (by rw [List.getElem?_append_left hj]; exact h2) h3
        omega
      · rw [List.getElem?_append_right (by omega)] at h1 h2
        have := hD'.1 _ _ p q h1 h2 h3
        omega
  · by_cases hj : j < W0.length
    · exact hD.2 j q (by rw [List.getElem?_append_left hj] at hq ⊢; exact hq)
    · rw [List.getElem?_append_right (by omega)] at hq
      exact hD'.2 _ q hq
/-- an array's places beyond its length count for nothing -/
theorem GK.arr {D : va_G} {k : Nat → ClassId} {A : Nat → Prop} {W0 L : va_W} {s : State} {H : Heap} {locs : List Loc} (h : GK D k A W0 L s H locs) (q0 : Nat) {a n : Nat} {cA : ClassId} {f g : Nat → Int32} (ha : L[q0]? = some (a, .inl (cA, n, .inl f))) (hfg : ∀ j, j < n → f j = g j) : GK D k A W0 (L.set q0 (a, .inl (cA, n, .inl g))) s H locs := by
  have e : vp_cell cA (n, .inl f) = vp_cell cA (n, .inl g) := by
    show arrV cA n (fun j => .int (f j)) = arrV cA n (fun j => .int (g j))
    exact av_c (fun j hj => by rw [hfg j hj])
  refine ⟨h.1, ?_, ?_, h.2.2.2⟩
  · rw [← wk_set]
    exact h.2.1.set h.2.2.1 (wk_at ha) (show H[a]? = some (vp_cell cA (n, .inl g)) by rw [← e]; exact h.2.1 _ _ (wk_at ha)) (fun _ _ => rfl)
  · rw [← wk_set]
    exact h.2.2.1.set (wk_at ha)
theorem GK.arq {D : va_G} {k : Nat → ClassId} {A : Nat → Prop} {W0 L : va_W} {s : State} {H : Heap} {locs : List Loc} (h : GK D k A W0 L s H locs) (q0 : Nat) {a n : Nat} {cA : ClassId} {f g : Nat → Option Nat} (ha : L[q0]? = some (a, .inl (cA, n, .inr (.inr (.inr (.inr f)))))) (hfg : ∀ j, j < n → f j = g j) : GK D k A W0 (L.set q0 (a, .inl (cA, n, .inr (.inr (.inr (.inr g)))))) s H locs := by
  have e : vp_cell cA (n, .inr (.inr (.inr (.inr f)))) = vp_cell cA (n, .inr (.inr (.inr (.inr g)))) := by
    rw [vp_cell_q, vp_cell_q]
    exact av_c (fun j hj => by rw [hfg j hj])
  refine ⟨h.1, ?_, ?_, h.2.2.2⟩
  · rw [← wk_set]
    exact h.2.1.set h.2.2.1 (wk_at ha) (show H[a]? = some (vp_cell cA (n, .inr (.inr (.inr (.inr g))))) by rw [← e]; exact h.2.1 _ _ (wk_at ha)) (fun _ _ => rfl)
  · rw [← wk_set]
    exact h.2.2.1.set (wk_at ha)
