theorem ao_at {s : State} {C : String} (h : va_AO C s) : ∃ cA : ClassId, ArrOfT s cA (.object C) ∧ va_RA s cA (.object C) := by
  obtain ⟨comp, cA, kA, f4, -, f2, f3, f1⟩ := Cond.arrayOver_spec h
  exact ⟨cA, fun N z => ⟨(fun k h => by cases h), kA, f2, comp, f3⟩, kA, comp, f2, f3, f4, f1⟩
theorem ai_at {s : State} {args : Array Value} (h : (Cond.arrayClass .int).before args s = true) : ∃ cA : ClassId, ArrOfT s cA .int ∧ va_RA s cA .int := by
  obtain ⟨cA, kA, comp, h1, h2, h3⟩ := Cond.arrayClass_spec h
  exact ⟨cA, fun n z => ⟨fun k h => (by cases h), kA, h2, comp, h3⟩, h1⟩
theorem ab_at {s : State} {args : Array Value} (h : (Cond.arrayClass .byte).before args s = true) : ∃ cA : ClassId, ArrOfT s cA .byte ∧ va_RA s cA .byte := by
  obtain ⟨cA, kA, comp, h1, h2, h3⟩ := Cond.arrayClass_spec h
  exact ⟨cA, fun n z => ⟨fun k h => (by cases h), kA, h2, comp, h3⟩, h1⟩
/-- what the law begins with -/
def lwB (s : State) (D : va_G) (k zt : Nat → Nat) : Prop := va_K D clsG (tyC k) s ∧ gNC s ∧ gNW s ∧ gST (D, fun _ => 0, k, zt) (fun q : Nat => s.heap.size ≤ q) s s.heap
set_option maxHeartbeats 4000000 in
set_option maxRecDepth 100000 in
theorem lw_begin {p : Program} {s : State} {m : MethodId} {meth : Method} {c : Code} {b L : Nat} {xs : Nat → Int32} (C0 : lw_At p s m meth c b L xs) : ∃ (D : va_G) (k zt : Nat → Nat), lwB s D k zt := by
  obtain ⟨hx, hb, hr, hml, hown, hts, hX, hbl, hlocks, hgv⟩ := C0
  have htb : ∀ w ∈ tb, w.before #[Value.ref b] s = true := fun w hw => hts w (List.mem_filter.mp hw).1
  have hfl := flat_of_before _ hgv
  have hAn : ∀ a : Nat, a < s.heap.size → ¬ (fun q : Nat => s.heap.size ≤ q) a := fun a h => Nat.not_le.mpr h
  have hNC : gNC s := ⟨va_Nw.of rfl (hts _ (by decide +kernel)), va_Nw.of rfl (hts _ (by decide +kernel)), va_Nw.of rfl (hts _ (by decide +kernel)), va_Nw.of rfl (hts _ (by decide +kernel)), va_AO.of (hts _ (by decide +kernel)), va_AO.of (hts _ (by decide +kernel)), va_AO.of (hts _ (by decide +kernel)), va_AO.of (hts _ (by decide +kernel))⟩
  have hNW : gNW s := ⟨va_Nw.of rfl (hts _ (by decide +kernel)), va_Nw.of rfl (hts _ (by decide +kernel)), va_Nw.of rfl (hts _ (by decide +kernel)), va_Nw.of rfl (hts _ (by decide +kernel)), va_Nw.of rfl (hts _ (by decide +kernel)), va_Nw.of rfl (hts _ (by decide +kernel))⟩
  obtain ⟨d0, i0, hK0⟩ := u_known (C := RX0) (T := TX0) (N := 4) (n := 4) htb uw_X0 (htb _ wz_X0)
  obtain ⟨d1, i1, hK1⟩ := u_known (C := RX1) (T := TX1) (N := 5) (n := 5) htb uw_X1 (htb _ wz_X1)
  obtain ⟨d2, i2, hK2⟩ := u_known (C := RX2) (T := TX2) (N := 2) (n := 2) htb uw_X2 (htb _ wz_X2)
  obtain ⟨d3, i3, hK3⟩ := u_known (C := RX3) (T := TX3) (N := 2) (n := 2) htb uw_X3 (htb _ wz_X3)
  obtain ⟨d4, i4, hK4⟩ := u_known (C := RX4) (T := TX4) (N := 12) (n := 12) htb uw_X4 (htb _ wz_X4)
  obtain ⟨d5, i5, hK5⟩ := u_known (C := RX5) (T := TX5) (N := 25) (n := 25) htb uw_X5 (htb _ wz_X5)
  obtain ⟨k0, a0, r0⟩ := ai_at (htb _ wa_int)
  obtain ⟨k1, a1, r1⟩ := ab_at (htb _ wa_byte)
  obtain ⟨k2, a2, r2⟩ := ao_at hNC.2.2.2.2.1
  obtain ⟨k3, a3, r3⟩ := ao_at hNC.2.2.2.2.2.1
  obtain ⟨k4, a4, r4⟩ := ao_at hNC.2.2.2.2.2.2.1
  obtain ⟨k5, a5, r5⟩ := ao_at hNC.2.2.2.2.2.2.2
  obtain ⟨z0, hz0, hT0⟩ := va_Tof (args := #[Value.ref b]) (s := s) (tm := (Term.static "LostDays" "LETTERS" "[C")) (ty := .char) (N := 6) (f := fun j => .int (zI (tLet (j : Int)))) (A := fun q : Nat => s.heap.size ≤ q) (by decide) (hfl _ (by decide +kernel)) (va_eqt (hfl _ (by decide +kernel))) (fun j hj => by rcases (show j = 0 ∨ j = 1 ∨ j = 2 ∨ j = 3 ∨ j = 4 ∨ j = 5 by omega) with rfl | rfl | rfl | rfl | rfl | rfl <;> exact va_eqt (hfl _ (by decide +kernel))) hAn
  have hZ0 := va_Zref (C := "LostDays") (n := "LETTERS") (d := "[C") (A := fun q : Nat => s.heap.size ≤ q) (hts _ (by decide +kernel)) (hts _ (by decide +kernel)) hz0 hAn
  obtain ⟨z1, hz1, hT1⟩ := va_Tof (args := #[Value.ref b]) (s := s) (tm := (Term.static "LostDays" "PARENTS" "[I")) (ty := .int) (N := 6) (f := fun j => .int (zI (tPar (j : Int)))) (A := fun q : Nat => s.heap.size ≤ q) (by decide) (hfl _ (by decide +kernel)) (va_eqt (hfl _ (by decide +kernel))) (fun j hj => by rcases (show j = 0 ∨ j = 1 ∨ j = 2 ∨ j = 3 ∨ j = 4 ∨ j = 5 by omega) with rfl | rfl | rfl | rfl | rfl | rfl <;> exact va_eqt (hfl _ (by decide +kernel))) hAn
  have hZ1 := va_Zref (C := "LostDays") (n := "PARENTS") (d := "[I") (A := fun q : Nat => s.heap.size ≤ q) (hts _ (by decide +kernel)) (hts _ (by decide +kernel)) hz1 hAn
  obtain ⟨z2, hz2, hT2⟩ := va_Tof (args := #[Value.ref b]) (s := s) (tm := (Term.static "LostDays" "TIMES_CUT" "[I")) (ty := .int) (N := 6) (f := fun j => .int (zI (tCut (j : Int)))) (A := fun q : Nat => s.heap.size ≤ q) (by decide) (hfl _ (by decide +kernel)) (va_eqt (hfl _ (by decide +kernel))) (fun j hj => by rcases (show j = 0 ∨ j = 1 ∨ j = 2 ∨ j = 3 ∨ j = 4 ∨ j = 5 by omega) with rfl | rfl | rfl | rfl | rfl | rfl <;> exact va_eqt (hfl _ (by decide +kernel))) hAn
  have hZ2 := va_Zref (C := "LostDays") (n := "TIMES_CUT") (d := "[I") (A := fun q : Nat => s.heap.size ≤ q) (hts _ (by decide +kernel)) (hts _ (by decide +kernel)) hz2 hAn
  refine ⟨(fun j => match j with | 0 => d0 | 1 => d1 | 2 => d2 | 3 => d3 | 4 => d4 | _ => d5, fun j => match j with | 0 => i0 | 1 => i1 | 2 => i2 | 3 => i3 | 4 => i4 | _ => i5), (fun j => match j with | 0 => k0 | 1 => k1 | 2 => k2 | 3 => k3 | 4 => k4 | _ => k5), (fun j => match j with | 0 => z0 | 1 => z1 | _ => z2), ⟨?_, ?_⟩, hNC, hNW, ⟨hZ0, hT0⟩, ⟨hZ1, hT1⟩, ⟨hZ2, hT2⟩⟩
  · intro k q hq
    match k, hq with
    | 0, hq => cases hq; exact hK0
    | 1, hq => cases hq; exact hK1
    | 2, hq => cases hq; exact hK2
    | 3, hq => cases hq; exact hK3
    | 4, hq => cases hq; exact hK4
    | 5, hq => cases hq; exact hK5
    | k + 6, hq => simp [clsG] at hq
  · intro k q hq
    match k, hq with
    | 0, hq => cases hq; exact ⟨a0, r0⟩
    | 1, hq => cases hq; exact ⟨a1, r1⟩
    | 2, hq => cases hq; exact ⟨a2, r2⟩
    | 3, hq => cases hq; exact ⟨a3, r3⟩
    | 4, hq => cases hq; exact ⟨a4, r4⟩
    | 5, hq => cases hq; exact ⟨a5, r5⟩
    | k + 6, hq => simp [tyC] at hq
