set_option maxHeartbeats 4000000 in
set_option maxRecDepth 100000 in
theorem c_X4_townsOf {Γ : Gm} {zl : Launch} {A : Nat → Prop} {σ : Mm} {w : Int} (hI : IC σ) (hw : 0 ≤ w ∧ w ≤ 5) : Fn Γ zl A yX4_townsOf cX4_townsOf 4 (some .int) 1 21 [.ref (aL Γ), .int (zI w)] σ (some (.int (zI (ctI (fun z => isO (σ 6 z 0) w) 0 (σ 0 0 6 - 0).toNat)))) σ := by
  refine Fn_of (by decide) (Nat.le_of_ble_eq_true rfl) ?_
  intro zp ze zs zm args below meth zc zQ H locs ls zC zK hG hl
  have hl : lv_has ls 4 [(0, .ref (aL Γ)), (1, .int (zI w))] := hl
  obtain ⟨hmany, htoday, -⟩ := id hI
  refine zr_iconst zC dX4_townsOf_0 ?_
  refine lv_istore_n (lv' := [(2, .int (zI 0)), (0, .ref (aL Γ)), (1, .int (zI w))]) zC.1 zC.2.1 dX4_townsOf_1 rfl hl (by decide) rfl (fun ls hl => ?_)
  refine zr_iconst zC dX4_townsOf_2 ?_
  refine lv_istore_n (lv' := [(3, .int (zI 0)), (2, .int (zI 0)), (0, .ref (aL Γ)), (1, .int (zI w))]) zC.1 zC.2.1 dX4_townsOf_3 rfl hl (by decide) rfl (fun ls hl => ?_)
  have loop4 : ∀ (nf : Nat) (u q : Int) (H : Heap) (locs : List Loc) (ls : Array Slot), (0 ≤ q ∧ q ≤ σ 0 0 6) → (u = ctI (fun z => isO (σ 6 z 0) w) 0 (q - 0).toNat) → (6 - q < (nf : Int)) → GM Γ A σ zs H locs → lv_has ls 4 [(0, .ref (aL Γ)), (1, .int (zI w)), (2, .int (zI u)), (3, .int (zI q))] → W zp zl ze { frames := 1, cells := 0, slots := 0, locals := 21 } zs zm args below meth zc H locs 0 0 zQ (F0 zm 4 ls []) := by
    intro nf
    induction nf with
    | zero =>
      intro u q H locs ls hq hu hm4 _ _
      exact absurd hm4 (by omega)
    | succ nf ih4 =>
      intro u q H locs ls hq hu hm4 hG hl
      refine lv_iload_n zC.1 zC.2.1 dX4_townsOf_4 rfl (lv_at hl 3 rfl) ?_
      refine lv_aload_n zC.1 zC.2.1 dX4_townsOf_5 rfl (lv_at hl 0 rfl) ?_
      refine gf_L_townCount (v := σ 0 0 6) zC hG wl_X4_42 rfl dX4_townsOf_6 ?_
      refine zr_icmp_ge (tgt := 34) zC dX4_townsOf_9 (by decide) (by omega) (fun c9 => ?_) (fun c9 => ?_)
      · refine lv_iload_n zC.1 zC.2.1 dX4_townsOf_34 rfl (lv_at hl 2 rfl) ?_
        exact zr_iret zC zK hG dX4_townsOf_35 (by rw [hu]; congr 1; omega) rfl
      · refine lv_aload_n zC.1 zC.2.1 dX4_townsOf_12 rfl (lv_at hl 0 rfl) ?_
        refine gf_L_towns zC hG wl_X4_23 dX4_townsOf_13 ?_
        refine lv_iload_n zC.1 zC.2.1 dX4_townsOf_16 rfl (lv_at hl 3 rfl) ?_
        refine gr_To zC hG (by omega) dX4_townsOf_17 ?_
        refine lv_iload_n zC.1 zC.2.1 dX4_townsOf_18 rfl (lv_at hl 1 rfl) ?_
        have k19 := hI.2.2.2.2.2.2.1 q (by omega) (by omega)
        obtain ⟨k19a, k19b, k19c, k19d⟩ := id k19
        refine zr_callV zC hG (c_X0_isOf (σ := σ) (i := q) (w := w) (by first | assumption | omega) k19 (by first | assumption | omega)) mt_X0_isOf wl_X4_134 (pCal (by first | assumption | omega)) rfl rfl ⟨by decide, by decide⟩ rfl hl.1 rfl (Nat.le_of_ble_eq_true rfl) dX4_townsOf_19 ⟨Nat.zero_le _, Nat.zero_le _⟩ (fun H locs hG => ?_)
        refine W.eq (g2 := F0 zm 22 ls [.int (zI (zB (isO (σ 6 q 0) w)))]) rfl ?_
        refine zr_ifeqB (tgt := 28) zC dX4_townsOf_22 (by decide) (fun c22 => ?_) (fun c22 => ?_)
        · refine zr_iinc (lv' := [(3, .int (zI (q + 1))), (0, .ref (aL Γ)), (1, .int (zI w)), (2, .int (zI u))]) zC dX4_townsOf_28 hl (k := 3) rfl (by decide) rfl (fun ls hl => ?_)
          refine lv_goto (tgt := 4) zC.1 zC.2.1 dX4_townsOf_31 (by decide) ?_
          exact ih4 u (q + 1) H locs ls (by first | assumption | omega) (by rw [ctI_s hq.1, ← hu]; unfold zB; split <;> omega) (by omega) hG (lv_sub hl [1, 2, 3, 0] rfl)
        · refine zr_iinc (lv' := [(2, .int (zI (u + 1))), (0, .ref (aL Γ)), (1, .int (zI w)), (3, .int (zI q))]) zC dX4_townsOf_25 hl (k := 2) rfl (by decide) rfl (fun ls hl => ?_)
          refine zr_iinc (lv' := [(3, .int (zI (q + 1))), (2, .int (zI (u + 1))), (0, .ref (aL Γ)), (1, .int (zI w))]) zC dX4_townsOf_28 hl (k := 3) rfl (by decide) rfl (fun ls hl => ?_)
          refine lv_goto (tgt := 4) zC.1 zC.2.1 dX4_townsOf_31 (by decide) ?_
          exact ih4 (u + 1) (q + 1) H locs ls (by first | assumption | omega) (by rw [ctI_s hq.1, ← hu]; unfold zB; split <;> omega) (by omega) hG (lv_sub hl [2, 3, 1, 0] rfl)
  exact loop4 ((6 - 0 : Int).toNat + 1) 0 0 H locs ls (by first | assumption | omega) rfl (by omega) hG (lv_sub hl [2, 3, 1, 0] rfl)

set_option maxHeartbeats 4000000 in
set_option maxRecDepth 100000 in
theorem c_X4_rowsThere {Γ : Gm} {zl : Launch} {A : Nat → Prop} {σ : Mm} (hI : IC σ) : Fn Γ zl A yX4_rowsThere cX4_rowsThere 3 (some .int) 0 0 [.ref (aL Γ)] σ (some (.int (zI (ctI (fun z => σ 2 z 1 ≠ -1) 0 6)))) σ := by
  refine Fn_of (by decide) (Nat.le_of_ble_eq_true rfl) ?_
  intro zp ze zs zm args below meth zc zQ H locs ls zC zK hG hl
  have hl : lv_has ls 3 [(0, .ref (aL Γ))] := hl
  obtain ⟨hmany, htoday, -⟩ := id hI
  refine zr_iconst zC dX4_rowsThere_0 ?_
  refine lv_istore_n (lv' := [(1, .int (zI 0)), (0, .ref (aL Γ))]) zC.1 zC.2.1 dX4_rowsThere_1 rfl hl (by decide) rfl (fun ls hl => ?_)
  refine zr_iconst zC dX4_rowsThere_2 ?_
  refine lv_istore_n (lv' := [(2, .int (zI 0)), (1, .int (zI 0)), (0, .ref (aL Γ))]) zC.1 zC.2.1 dX4_rowsThere_3 rfl hl (by decide) rfl (fun ls hl => ?_)
  have loop4 : ∀ (nf : Nat) (u q : Int) (H : Heap) (locs : List Loc) (ls : Array Slot), (0 ≤ q ∧ q ≤ 6) → (u = ctI (fun z => σ 2 z 1 ≠ -1) 0 (q - 0).toNat) → (6 - q < (nf : Int)) → GM Γ A σ zs H locs → lv_has ls 3 [(0, .ref (aL Γ)), (1, .int (zI u)), (2, .int (zI q))] → W zp zl ze { frames := 0, cells := 0, slots := 0, locals := 0 } zs zm args below meth zc H locs 0 0 zQ (F0 zm 4 ls []) := by
    intro nf
    induction nf with
    | zero =>
      intro u q H locs ls hq hu hm4 _ _
      exact absurd hm4 (by omega)
    | succ nf ih4 =>
      intro u q H locs ls hq hu hm4 hG hl
      refine lv_iload_n zC.1 zC.2.1 dX4_rowsThere_4 rfl (lv_at hl 2 rfl) ?_
      refine zr_bipush zC dX4_rowsThere_5 (by decide +kernel) ?_
      refine zr_icmp_ge (tgt := 32) zC dX4_rowsThere_7 (by decide) (by omega) (fun c7 => ?_) (fun c7 => ?_)
      · refine lv_iload_n zC.1 zC.2.1 dX4_rowsThere_32 rfl (lv_at hl 1 rfl) ?_
        exact zr_iret zC zK hG dX4_rowsThere_33 (by rw [hu, show q = 6 by omega]; rfl) rfl
      · refine lv_aload_n zC.1 zC.2.1 dX4_rowsThere_10 rfl (lv_at hl 0 rfl) ?_
        refine gf_L_rows zC hG wl_X4_11 dX4_rowsThere_11 ?_
        refine lv_iload_n zC.1 zC.2.1 dX4_rowsThere_14 rfl (lv_at hl 2 rfl) ?_
        refine gr_Rs zC hG (by omega) dX4_rowsThere_15 ?_
        refine gf_Row_size (v := σ 2 q 1) zC hG (by first | assumption | omega) wl_X4_87 rfl dX4_rowsThere_16 ?_
        have f16 := hI.2.2.1 q (by omega) (by omega)
        refine zr_iconst zC dX4_rowsThere_19 ?_
        refine zr_icmp_eq (tgt := 26) zC dX4_rowsThere_20 (by decide) (by omega) (fun c20 => ?_) (fun c20 => ?_)
        · refine zr_iinc (lv' := [(2, .int (zI (q + 1))), (0, .ref (aL Γ)), (1, .int (zI u))]) zC dX4_rowsThere_26 hl (k := 2) rfl (by decide) rfl (fun ls hl => ?_)
          refine lv_goto (tgt := 4) zC.1 zC.2.1 dX4_rowsThere_29 (by decide) ?_
          exact ih4 u (q + 1) H locs ls (by first | assumption | omega) (by rw [ctI_s hq.1, ← hu]; unfold zB; split <;> omega) (by omega) hG (lv_sub hl [1, 2, 0] rfl)
        · refine zr_iinc (lv' := [(1, .int (zI (u + 1))), (0, .ref (aL Γ)), (2, .int (zI q))]) zC dX4_rowsThere_23 hl (k := 1) rfl (by decide) rfl (fun ls hl => ?_)
          refine zr_iinc (lv' := [(2, .int (zI (q + 1))), (1, .int (zI (u + 1))), (0, .ref (aL Γ))]) zC dX4_rowsThere_26 hl (k := 2) rfl (by decide) rfl (fun ls hl => ?_)
          refine lv_goto (tgt := 4) zC.1 zC.2.1 dX4_rowsThere_29 (by decide) ?_
          exact ih4 (u + 1) (q + 1) H locs ls (by first | assumption | omega) (by rw [ctI_s hq.1, ← hu]; unfold zB; split <;> omega) (by omega) hG (lv_sub hl [2, 1, 0] rfl)
  exact loop4 ((6 - 0 : Int).toNat + 1) 0 0 H locs ls (by first | assumption | omega) rfl (by omega) hG (lv_sub hl [2, 1, 0] rfl)

set_option maxHeartbeats 4000000 in
set_option maxRecDepth 100000 in
theorem c_X4_textsThere {Γ : Gm} {zl : Launch} {A : Nat → Prop} {σ : Mm} (hI : IC σ) : Fn Γ zl A yX4_textsThere cX4_textsThere 3 (some .int) 0 0 [.ref (aL Γ)] σ (some (.int (zI (ctI (fun z => σ 4 z 1 ≠ -1) 0 4)))) σ := by
  refine Fn_of (by decide) (Nat.le_of_ble_eq_true rfl) ?_
  intro zp ze zs zm args below meth zc zQ H locs ls zC zK hG hl
  have hl : lv_has ls 3 [(0, .ref (aL Γ))] := hl
  obtain ⟨hmany, htoday, -⟩ := id hI
  refine zr_iconst zC dX4_textsThere_0 ?_
  refine lv_istore_n (lv' := [(1, .int (zI 0)), (0, .ref (aL Γ))]) zC.1 zC.2.1 dX4_textsThere_1 rfl hl (by decide) rfl (fun ls hl => ?_)
  refine zr_iconst zC dX4_textsThere_2 ?_
  refine lv_istore_n (lv' := [(2, .int (zI 0)), (1, .int (zI 0)), (0, .ref (aL Γ))]) zC.1 zC.2.1 dX4_textsThere_3 rfl hl (by decide) rfl (fun ls hl => ?_)
  have loop4 : ∀ (nf : Nat) (u q : Int) (H : Heap) (locs : List Loc) (ls : Array Slot), (0 ≤ q ∧ q ≤ 4) → (u = ctI (fun z => σ 4 z 1 ≠ -1) 0 (q - 0).toNat) → (4 - q < (nf : Int)) → GM Γ A σ zs H locs → lv_has ls 3 [(0, .ref (aL Γ)), (1, .int (zI u)), (2, .int (zI q))] → W zp zl ze { frames := 0, cells := 0, slots := 0, locals := 0 } zs zm args below meth zc H locs 0 0 zQ (F0 zm 4 ls []) := by
    intro nf
    induction nf with
    | zero =>
      intro u q H locs ls hq hu hm4 _ _
      exact absurd hm4 (by omega)
    | succ nf ih4 =>
      intro u q H locs ls hq hu hm4 hG hl
      refine lv_iload_n zC.1 zC.2.1 dX4_textsThere_4 rfl (lv_at hl 2 rfl) ?_
      refine zr_iconst zC dX4_textsThere_5 ?_
      refine zr_icmp_ge (tgt := 31) zC dX4_textsThere_6 (by decide) (by omega) (fun c6 => ?_) (fun c6 => ?_)
      · refine lv_iload_n zC.1 zC.2.1 dX4_textsThere_31 rfl (lv_at hl 1 rfl) ?_
        exact zr_iret zC zK hG dX4_textsThere_32 (by rw [hu, show q = 4 by omega]; rfl) rfl
      · refine lv_aload_n zC.1 zC.2.1 dX4_textsThere_9 rfl (lv_at hl 0 rfl) ?_
        refine gf_L_texts zC hG wl_X4_17 dX4_textsThere_10 ?_
        refine lv_iload_n zC.1 zC.2.1 dX4_textsThere_13 rfl (lv_at hl 2 rfl) ?_
        refine gr_Ts zC hG (by omega) dX4_textsThere_14 ?_
        refine gf_Tx_size (v := σ 4 q 1) zC hG (by first | assumption | omega) wl_X4_111 rfl dX4_textsThere_15 ?_
        have f15 := hI.2.2.2.2.1 q (by omega) (by omega)
        refine zr_iconst zC dX4_textsThere_18 ?_
        refine zr_icmp_eq (tgt := 25) zC dX4_textsThere_19 (by decide) (by omega) (fun c19 => ?_) (fun c19 => ?_)
        · refine zr_iinc (lv' := [(2, .int (zI (q + 1))), (0, .ref (aL Γ)), (1, .int (zI u))]) zC dX4_textsThere_25 hl (k := 2) rfl (by decide) rfl (fun ls hl => ?_)
          refine lv_goto (tgt := 4) zC.1 zC.2.1 dX4_textsThere_28 (by decide) ?_
          exact ih4 u (q + 1) H locs ls (by first | assumption | omega) (by rw [ctI_s hq.1, ← hu]; unfold zB; split <;> omega) (by omega) hG (lv_sub hl [1, 2, 0] rfl)
        · refine zr_iinc (lv' := [(1, .int (zI (u + 1))), (0, .ref (aL Γ)), (2, .int (zI q))]) zC dX4_textsThere_22 hl (k := 1) rfl (by decide) rfl (fun ls hl => ?_)
          refine zr_iinc (lv' := [(2, .int (zI (q + 1))), (1, .int (zI (u + 1))), (0, .ref (aL Γ))]) zC dX4_textsThere_25 hl (k := 2) rfl (by decide) rfl (fun ls hl => ?_)
          refine lv_goto (tgt := 4) zC.1 zC.2.1 dX4_textsThere_28 (by decide) ?_
          exact ih4 (u + 1) (q + 1) H locs ls (by first | assumption | omega) (by rw [ctI_s hq.1, ← hu]; unfold zB; split <;> omega) (by omega) hG (lv_sub hl [2, 1, 0] rfl)
  exact loop4 ((4 - 0 : Int).toNat + 1) 0 0 H locs ls (by first | assumption | omega) rfl (by omega) hG (lv_sub hl [2, 1, 0] rfl)

set_option maxHeartbeats 4000000 in
set_option maxRecDepth 100000 in
theorem c_X4_almanacsKept {Γ : Gm} {zl : Launch} {A : Nat → Prop} {σ : Mm} (hI : IC σ) : Fn Γ zl A yX4_almanacsKept cX4_almanacsKept 3 (some .int) 0 0 [.ref (aL Γ)] σ (some (.int (zI (ctI (fun z => σ 7 z 3 ≠ 0) 0 3)))) σ := by
  refine Fn_of (by decide) (Nat.le_of_ble_eq_true rfl) ?_
  intro zp ze zs zm args below meth zc zQ H locs ls zC zK hG hl
  have hl : lv_has ls 3 [(0, .ref (aL Γ))] := hl
  obtain ⟨hmany, htoday, -⟩ := id hI
  refine zr_iconst zC dX4_almanacsKept_0 ?_
  refine lv_istore_n (lv' := [(1, .int (zI 0)), (0, .ref (aL Γ))]) zC.1 zC.2.1 dX4_almanacsKept_1 rfl hl (by decide) rfl (fun ls hl => ?_)
  refine zr_iconst zC dX4_almanacsKept_2 ?_
  refine lv_istore_n (lv' := [(2, .int (zI 0)), (1, .int (zI 0)), (0, .ref (aL Γ))]) zC.1 zC.2.1 dX4_almanacsKept_3 rfl hl (by decide) rfl (fun ls hl => ?_)
  have loop4 : ∀ (nf : Nat) (u q : Int) (H : Heap) (locs : List Loc) (ls : Array Slot), (0 ≤ q ∧ q ≤ 3) → (u = ctI (fun z => σ 7 z 3 ≠ 0) 0 (q - 0).toNat) → (3 - q < (nf : Int)) → GM Γ A σ zs H locs → lv_has ls 3 [(0, .ref (aL Γ)), (1, .int (zI u)), (2, .int (zI q))] → W zp zl ze { frames := 0, cells := 0, slots := 0, locals := 0 } zs zm args below meth zc H locs 0 0 zQ (F0 zm 4 ls []) := by
    intro nf
    induction nf with
    | zero =>
      intro u q H locs ls hq hu hm4 _ _
      exact absurd hm4 (by omega)
    | succ nf ih4 =>
      intro u q H locs ls hq hu hm4 hG hl
      refine lv_iload_n zC.1 zC.2.1 dX4_almanacsKept_4 rfl (lv_at hl 2 rfl) ?_
      refine zr_iconst zC dX4_almanacsKept_5 ?_
      refine zr_icmp_ge (tgt := 30) zC dX4_almanacsKept_6 (by decide) (by omega) (fun c6 => ?_) (fun c6 => ?_)
      · refine lv_iload_n zC.1 zC.2.1 dX4_almanacsKept_30 rfl (lv_at hl 1 rfl) ?_
        exact zr_iret zC zK hG dX4_almanacsKept_31 (by rw [hu, show q = 3 by omega]; rfl) rfl
      · refine lv_aload_n zC.1 zC.2.1 dX4_almanacsKept_9 rfl (lv_at hl 0 rfl) ?_
        refine gf_L_kept zC hG wl_X4_29 dX4_almanacsKept_10 ?_
        refine lv_iload_n zC.1 zC.2.1 dX4_almanacsKept_13 rfl (lv_at hl 2 rfl) ?_
        refine gr_Ks zC hG (by omega) dX4_almanacsKept_14 ?_
        refine gf_Kp_isThere (v := σ 7 q 3) zC hG (by first | assumption | omega) wl_X4_124 rfl dX4_almanacsKept_15 ?_
        have f15 := hI.2.2.2.2.2.2.2 q (by omega) (by omega)
        refine zr_if_eq (tgt := 24) zC dX4_almanacsKept_18 (by decide) (by omega) (fun c18 => ?_) (fun c18 => ?_)
        · refine zr_iinc (lv' := [(2, .int (zI (q + 1))), (0, .ref (aL Γ)), (1, .int (zI u))]) zC dX4_almanacsKept_24 hl (k := 2) rfl (by decide) rfl (fun ls hl => ?_)
          refine lv_goto (tgt := 4) zC.1 zC.2.1 dX4_almanacsKept_27 (by decide) ?_
          exact ih4 u (q + 1) H locs ls (by first | assumption | omega) (by rw [ctI_s hq.1, ← hu]; unfold zB; split <;> omega) (by omega) hG (lv_sub hl [1, 2, 0] rfl)
        · refine zr_iinc (lv' := [(1, .int (zI (u + 1))), (0, .ref (aL Γ)), (2, .int (zI q))]) zC dX4_almanacsKept_21 hl (k := 1) rfl (by decide) rfl (fun ls hl => ?_)
          refine zr_iinc (lv' := [(2, .int (zI (q + 1))), (1, .int (zI (u + 1))), (0, .ref (aL Γ))]) zC dX4_almanacsKept_24 hl (k := 2) rfl (by decide) rfl (fun ls hl => ?_)
          refine lv_goto (tgt := 4) zC.1 zC.2.1 dX4_almanacsKept_27 (by decide) ?_
          exact ih4 (u + 1) (q + 1) H locs ls (by first | assumption | omega) (by rw [ctI_s hq.1, ← hu]; unfold zB; split <;> omega) (by omega) hG (lv_sub hl [2, 1, 0] rfl)
  exact loop4 ((3 - 0 : Int).toNat + 1) 0 0 H locs ls (by first | assumption | omega) rfl (by omega) hG (lv_sub hl [2, 1, 0] rfl)

set_option maxHeartbeats 4000000 in
set_option maxRecDepth 100000 in
theorem c_X4_count {Γ : Gm} {zl : Launch} {A : Nat → Prop} {σ : Mm} {w : Int} (hI : IC σ) (hw : -2147483648 ≤ w ∧ w < 2147483648) : Fn Γ zl A yX4_count cX4_count 2 (some .int) 2 44 [.ref (aL Γ), .int (zI w)] σ (some (.int (zI (rC_count σ w)))) σ := by
  refine Fn_of (by decide) (Nat.le_of_ble_eq_true rfl) ?_
  intro zp ze zs zm args below meth zc zQ H locs ls zC zK hG hl
  have hl : lv_has ls 2 [(0, .ref (aL Γ)), (1, .int (zI w))] := hl
  obtain ⟨hmany, htoday, -⟩ := id hI
  refine lv_iload_n zC.1 zC.2.1 dX4_count_0 rfl (lv_at hl 1 rfl) ?_
  rcases (show w = 0 ∨ w = 1 ∨ w = 2 ∨ w = 3 ∨ w = 4 ∨ w = 5 ∨ w = 6 ∨ (w < 0 ∨ 6 < w) by omega) with c1 | c1 | c1 | c1 | c1 | c1 | c1 | c1
  · refine lv_tableIn (off := 43) (tgt := 44) zC.1 zC.2.1 dX4_count_1 (by rw [zI_t (by omega)]; omega) (by rw [zI_t (by omega)]; omega) (by rw [zI_t (by omega), c1]; rfl) (by decide) ?_
    refine lv_aload_n zC.1 zC.2.1 dX4_count_44 rfl (lv_at hl 0 rfl) ?_
    refine gf_L_townCount (v := σ 0 0 6) zC hG wl_X4_42 rfl dX4_count_45 ?_
    exact zr_iret zC zK hG dX4_count_48 (by unfold rC_count; (repeat' split) <;> first | rfl | omega) rfl
  · refine lv_tableIn (off := 48) (tgt := 49) zC.1 zC.2.1 dX4_count_1 (by rw [zI_t (by omega)]; omega) (by rw [zI_t (by omega)]; omega) (by rw [zI_t (by omega), c1]; rfl) (by decide) ?_
    refine lv_aload_n zC.1 zC.2.1 dX4_count_49 rfl (lv_at hl 0 rfl) ?_
    refine gf_L_today (v := σ 0 0 7) zC hG wl_X4_46 rfl dX4_count_50 ?_
    exact zr_iret zC zK hG dX4_count_53 (by unfold rC_count; (repeat' split) <;> first | rfl | omega) rfl
  · refine lv_tableIn (off := 53) (tgt := 54) zC.1 zC.2.1 dX4_count_1 (by rw [zI_t (by omega)]; omega) (by rw [zI_t (by omega)]; omega) (by rw [zI_t (by omega), c1]; rfl) (by decide) ?_
    refine lv_aload_n zC.1 zC.2.1 dX4_count_54 rfl (lv_at hl 0 rfl) ?_
    refine zr_iconst zC dX4_count_55 ?_
    refine zr_callV zC hG (c_X4_townsOf (σ := σ) (w := 1) hI (by first | assumption | omega)) mt_X4_townsOf wl_X4_289 pL rfl rfl ⟨by decide, by decide⟩ rfl hl.1 rfl (Nat.le_of_ble_eq_true rfl) dX4_count_56 ⟨Nat.zero_le _, Nat.zero_le _⟩ (fun H locs hG => ?_)
    refine W.eq (g2 := F0 zm 59 ls [.int (zI (ctI (fun z => isO (σ 6 z 0) 1) 0 (σ 0 0 6 - 0).toNat))]) rfl ?_
    have b56_0 := ctI_r (fun z => isO (σ 6 z 0) 1) 0 (σ 0 0 6 - 0).toNat
    exact zr_iret zC zK hG dX4_count_59 (by unfold rC_count; (repeat' split) <;> first | rfl | omega) rfl
  · refine lv_tableIn (off := 59) (tgt := 60) zC.1 zC.2.1 dX4_count_1 (by rw [zI_t (by omega)]; omega) (by rw [zI_t (by omega)]; omega) (by rw [zI_t (by omega), c1]; rfl) (by decide) ?_
    refine lv_aload_n zC.1 zC.2.1 dX4_count_60 rfl (lv_at hl 0 rfl) ?_
    refine zr_iconst zC dX4_count_61 ?_
    refine zr_callV zC hG (c_X4_townsOf (σ := σ) (w := 2) hI (by first | assumption | omega)) mt_X4_townsOf wl_X4_289 pL rfl rfl ⟨by decide, by decide⟩ rfl hl.1 rfl (Nat.le_of_ble_eq_true rfl) dX4_count_62 ⟨Nat.zero_le _, Nat.zero_le _⟩ (fun H locs hG => ?_)
    refine W.eq (g2 := F0 zm 65 ls [.int (zI (ctI (fun z => isO (σ 6 z 0) 2) 0 (σ 0 0 6 - 0).toNat))]) rfl ?_
    have b62_0 := ctI_r (fun z => isO (σ 6 z 0) 2) 0 (σ 0 0 6 - 0).toNat
    exact zr_iret zC zK hG dX4_count_65 (by unfold rC_count; (repeat' split) <;> first | rfl | omega) rfl
  · refine lv_tableIn (off := 65) (tgt := 66) zC.1 zC.2.1 dX4_count_1 (by rw [zI_t (by omega)]; omega) (by rw [zI_t (by omega)]; omega) (by rw [zI_t (by omega), c1]; rfl) (by decide) ?_
    refine lv_aload_n zC.1 zC.2.1 dX4_count_66 rfl (lv_at hl 0 rfl) ?_
    refine zr_callV zC hG (c_X4_rowsThere (σ := σ) hI) mt_X4_rowsThere wl_X4_292 pL rfl rfl ⟨by decide, by decide⟩ rfl hl.1 rfl (Nat.le_of_ble_eq_true rfl) dX4_count_67 ⟨Nat.zero_le _, Nat.zero_le _⟩ (fun H locs hG => ?_)
    refine W.eq (g2 := F0 zm 70 ls [.int (zI (ctI (fun z => σ 2 z 1 ≠ -1) 0 6))]) rfl ?_
    have b67_0 := ctI_r (fun z => σ 2 z 1 ≠ -1) 0 6
    exact zr_iret zC zK hG dX4_count_70 (by unfold rC_count; (repeat' split) <;> first | rfl | omega) rfl
  · refine lv_tableIn (off := 70) (tgt := 71) zC.1 zC.2.1 dX4_count_1 (by rw [zI_t (by omega)]; omega) (by rw [zI_t (by omega)]; omega) (by rw [zI_t (by omega), c1]; rfl) (by decide) ?_
    refine lv_aload_n zC.1 zC.2.1 dX4_count_71 rfl (lv_at hl 0 rfl) ?_
    refine zr_callV zC hG (c_X4_textsThere (σ := σ) hI) mt_X4_textsThere wl_X4_295 pL rfl rfl ⟨by decide, by decide⟩ rfl hl.1 rfl (Nat.le_of_ble_eq_true rfl) dX4_count_72 ⟨Nat.zero_le _, Nat.zero_le _⟩ (fun H locs hG => ?_)
    refine W.eq (g2 := F0 zm 75 ls [.int (zI (ctI (fun z => σ 4 z 1 ≠ -1) 0 4))]) rfl ?_
    have b72_0 := ctI_r (fun z => σ 4 z 1 ≠ -1) 0 4
    exact zr_iret zC zK hG dX4_count_75 (by unfold rC_count; (repeat' split) <;> first | rfl | omega) rfl
  · refine lv_tableIn (off := 75) (tgt := 76) zC.1 zC.2.1 dX4_count_1 (by rw [zI_t (by omega)]; omega) (by rw [zI_t (by omega)]; omega) (by rw [zI_t (by omega), c1]; rfl) (by decide) ?_
    refine lv_aload_n zC.1 zC.2.1 dX4_count_76 rfl (lv_at hl 0 rfl) ?_
    refine zr_callV zC hG (c_X4_almanacsKept (σ := σ) hI) mt_X4_almanacsKept wl_X4_298 pL rfl rfl ⟨by decide, by decide⟩ rfl hl.1 rfl (Nat.le_of_ble_eq_true rfl) dX4_count_77 ⟨Nat.zero_le _, Nat.zero_le _⟩ (fun H locs hG => ?_)
    refine W.eq (g2 := F0 zm 80 ls [.int (zI (ctI (fun z => σ 7 z 3 ≠ 0) 0 3))]) rfl ?_
    have b77_0 := ctI_r (fun z => σ 7 z 3 ≠ 0) 0 3
    exact zr_iret zC zK hG dX4_count_80 (by unfold rC_count; (repeat' split) <;> first | rfl | omega) rfl
  · refine lv_tableOut (tgt := 81) zC.1 zC.2.1 dX4_count_1 (by rw [zI_t (by omega)]; omega) (by decide) ?_
    refine zr_iconst zC dX4_count_81 ?_
    exact zr_iret zC zK hG dX4_count_82 (by unfold rC_count; (repeat' split) <;> first | rfl | omega) rfl

set_option maxHeartbeats 4000000 in
set_option maxRecDepth 100000 in
theorem c_X4_digest {Γ : Gm} {zl : Launch} {A : Nat → Prop} {σ : Mm} (hI : IC σ) : Fn Γ zl A yX4_digest cX4_digest 5 (some .long) 5 109 [.ref (aL Γ)] σ (some (.long (zL (rC_digest σ)))) σ := by
  refine Fn_of (by decide) (Nat.le_of_ble_eq_true rfl) ?_
  intro zp ze zs zm args below meth zc zQ H locs ls zC zK hG hl
  have hl : lv_has ls 5 [(0, .ref (aL Γ))] := hl
  obtain ⟨hmany, htoday, -⟩ := id hI
  refine zr_ldc2 (z := 17) zC wl_X4_301 (by decide +kernel) dX4_digest_0 ?_
  refine lv_lstore_n (lv' := [(1, .long (zL 17)), (0, .ref (aL Γ))]) zC.1 zC.2.1 dX4_digest_3 rfl hl (by decide) rfl (fun ls hl => ?_)
  refine zr_iconst zC dX4_digest_4 ?_
  refine lv_istore_n (lv' := [(3, .int (zI 0)), (1, .long (zL 17)), (0, .ref (aL Γ))]) zC.1 zC.2.1 dX4_digest_5 rfl hl (by decide) rfl (fun ls hl => ?_)
  have loop6 : ∀ (nf : Nat) (h q : Int) (H : Heap) (locs : List Loc) (ls : Array Slot), (0 ≤ q ∧ q ≤ 7) → (h = hsI (fun w => rC_count σ w) 17 q.toNat) → (7 - q < (nf : Int)) → GM Γ A σ zs H locs → lv_has ls 5 [(0, .ref (aL Γ)), (1, .long (zL h)), (3, .int (zI q))] → W zp zl ze { frames := 5, cells := 0, slots := 0, locals := 109 } zs zm args below meth zc H locs 0 0 zQ (F0 zm 6 ls []) := by
    intro nf
    induction nf with
    | zero =>
      intro h q H locs ls hq hh hm6 _ _
      exact absurd hm6 (by omega)
    | succ nf ih6 =>
      intro h q H locs ls hq hh hm6 hG hl
      refine lv_iload_n zC.1 zC.2.1 dX4_digest_6 rfl (lv_at hl 2 rfl) ?_
      refine zr_bipush zC dX4_digest_7 (by decide +kernel) ?_
      refine zr_icmp_gt (tgt := 31) zC dX4_digest_9 (by decide) (by omega) (fun c9 => ?_) (fun c9 => ?_)
      · refine zr_iconst zC dX4_digest_31 ?_
        refine lv_istore_n (lv' := [(3, .int (zI 0)), (0, .ref (aL Γ)), (1, .long (zL h))]) zC.1 zC.2.1 dX4_digest_32 rfl hl (by decide) rfl (fun ls hl => ?_)
        have loop33 : ∀ (nf : Nat) (h q : Int) (H : Heap) (locs : List Loc) (ls : Array Slot), (0 ≤ q ∧ q ≤ σ 0 0 6) → (h = dgT σ (hsI (fun w => rC_count σ w) 17 7) q.toNat) → (6 - q < (nf : Int)) → GM Γ A σ zs H locs → lv_has ls 5 [(0, .ref (aL Γ)), (1, .long (zL h)), (3, .int (zI q))] → W zp zl ze { frames := 5, cells := 0, slots := 0, locals := 109 } zs zm args below meth zc H locs 0 0 zQ (F0 zm 33 ls []) := by
          intro nf
          induction nf with
          | zero =>
            intro h q H locs ls hq hh hm33 _ _
            exact absurd hm33 (by omega)
          | succ nf ih33 =>
            intro h q H locs ls hq hh hm33 hG hl
            refine lv_iload_n zC.1 zC.2.1 dX4_digest_33 rfl (lv_at hl 2 rfl) ?_
            refine lv_aload_n zC.1 zC.2.1 dX4_digest_34 rfl (lv_at hl 0 rfl) ?_
            refine gf_L_townCount (v := σ 0 0 6) zC hG wl_X4_42 rfl dX4_digest_35 ?_
            refine zr_icmp_ge (tgt := 77) zC dX4_digest_38 (by decide) (by omega) (fun c38 => ?_) (fun c38 => ?_)
            · refine zr_iconst zC dX4_digest_77 ?_
              refine lv_istore_n (lv' := [(3, .int (zI 0)), (0, .ref (aL Γ)), (1, .long (zL h))]) zC.1 zC.2.1 dX4_digest_78 rfl hl (by decide) rfl (fun ls hl => ?_)
              have loop79 : ∀ (nf : Nat) (h q : Int) (H : Heap) (locs : List Loc) (ls : Array Slot), (0 ≤ q ∧ q ≤ 3) → (h = hsI (fun k => if σ 7 k 3 = 0 then -1 else σ 7 k 4) (dgT σ (hsI (fun w => rC_count σ w) 17 7) (σ 0 0 6).toNat) q.toNat) → (3 - q < (nf : Int)) → GM Γ A σ zs H locs → lv_has ls 5 [(0, .ref (aL Γ)), (1, .long (zL h)), (3, .int (zI q))] → W zp zl ze { frames := 5, cells := 0, slots := 0, locals := 109 } zs zm args below meth zc H locs 0 0 zQ (F0 zm 79 ls []) := by
                intro nf
                induction nf with
                | zero =>
                  intro h q H locs ls hq hh hm79 _ _
                  exact absurd hm79 (by omega)
                | succ nf ih79 =>
                  intro h q H locs ls hq hh hm79 hG hl
                  refine lv_iload_n zC.1 zC.2.1 dX4_digest_79 rfl (lv_at hl 2 rfl) ?_
                  refine zr_iconst zC dX4_digest_80 ?_
                  refine zr_icmp_ge (tgt := 123) zC dX4_digest_81 (by decide) (by omega) (fun c81 => ?_) (fun c81 => ?_)
                  · refine zr_iconst zC dX4_digest_123 ?_
                    refine lv_istore_n (lv' := [(3, .int (zI 0)), (0, .ref (aL Γ)), (1, .long (zL h))]) zC.1 zC.2.1 dX4_digest_124 rfl hl (by decide) rfl (fun ls hl => ?_)
                    have loop125 : ∀ (nf : Nat) (h q : Int) (H : Heap) (locs : List Loc) (ls : Array Slot), (0 ≤ q ∧ q ≤ 6) → (h = dgR σ (dgK σ (dgT σ (hsI (fun w => rC_count σ w) 17 7) (σ 0 0 6).toNat)) q.toNat) → (6 - q < (nf : Int)) → GM Γ A σ zs H locs → lv_has ls 5 [(0, .ref (aL Γ)), (1, .long (zL h)), (3, .int (zI q))] → W zp zl ze { frames := 5, cells := 0, slots := 0, locals := 109 } zs zm args below meth zc H locs 0 0 zQ (F0 zm 125 ls []) := by
                      intro nf
                      induction nf with
                      | zero =>
                        intro h q H locs ls hq hh hm125 _ _
                        exact absurd hm125 (by omega)
                      | succ nf ih125 =>
                        intro h q H locs ls hq hh hm125 hG hl
                        refine lv_iload_n zC.1 zC.2.1 dX4_digest_125 rfl (lv_at hl 2 rfl) ?_
                        refine zr_bipush zC dX4_digest_126 (by decide +kernel) ?_
                        refine zr_icmp_ge (tgt := 148) zC dX4_digest_128 (by decide) (by omega) (fun c128 => ?_) (fun c128 => ?_)
                        · refine zr_iconst zC dX4_digest_148 ?_
                          refine lv_istore_n (lv' := [(3, .int (zI 0)), (0, .ref (aL Γ)), (1, .long (zL h))]) zC.1 zC.2.1 dX4_digest_149 rfl hl (by decide) rfl (fun ls hl => ?_)
                          have loop150 : ∀ (nf : Nat) (h q : Int) (H : Heap) (locs : List Loc) (ls : Array Slot), (0 ≤ q ∧ q ≤ 4) → (h = dgX σ (dgR σ (dgK σ (dgT σ (hsI (fun w => rC_count σ w) 17 7) (σ 0 0 6).toNat)) 6) q.toNat) → (4 - q < (nf : Int)) → GM Γ A σ zs H locs → lv_has ls 5 [(0, .ref (aL Γ)), (1, .long (zL h)), (3, .int (zI q))] → W zp zl ze { frames := 5, cells := 0, slots := 0, locals := 109 } zs zm args below meth zc H locs 0 0 zQ (F0 zm 150 ls []) := by
                            intro nf
                            induction nf with
                            | zero =>
                              intro h q H locs ls hq hh hm150 _ _
                              exact absurd hm150 (by omega)
                            | succ nf ih150 =>
                              intro h q H locs ls hq hh hm150 hG hl
                              refine lv_iload_n zC.1 zC.2.1 dX4_digest_150 rfl (lv_at hl 2 rfl) ?_
                              refine zr_iconst zC dX4_digest_151 ?_
                              refine zr_icmp_ge (tgt := 172) zC dX4_digest_152 (by decide) (by omega) (fun c152 => ?_) (fun c152 => ?_)
                              · refine lv_lload_n zC.1 zC.2.1 dX4_digest_172 rfl (lv_at hl 1 rfl) ?_
                                exact zr_lret zC zK hG dX4_digest_173 (by unfold rC_digest; rw [hh, show q = 4 by omega]; rfl) rfl
                              · refine lv_aload_n zC.1 zC.2.1 dX4_digest_155 rfl (lv_at hl 0 rfl) ?_
                                refine gf_L_texts zC hG wl_X4_17 dX4_digest_156 ?_
                                refine lv_iload_n zC.1 zC.2.1 dX4_digest_159 rfl (lv_at hl 2 rfl) ?_
                                refine gr_Ts zC hG (by omega) dX4_digest_160 ?_
                                refine lv_lload_n zC.1 zC.2.1 dX4_digest_161 rfl (lv_at hl 1 rfl) ?_
                                refine zr_callV zC hG (c_X3_digestFrom (σ := σ) (i := q) (h := h) (by first | assumption | omega) (hI.2.2.2.2.1 q (by omega) (by omega)) (fun j h1 h2 => hI.2.2.2.2.2.1 q j (by omega) (by omega) h1 h2)) mt_X3_digestFrom wl_X4_312 (pTx (by first | assumption | omega)) rfl rfl ⟨by decide, by decide⟩ rfl hl.1 rfl (Nat.le_of_ble_eq_true rfl) dX4_digest_162 ⟨Nat.zero_le _, Nat.zero_le _⟩ (fun H locs hG => ?_)
                                refine W.eq (g2 := F0 zm 165 ls [.long (zL (hsI (fun j => (σ 5 q j)) (31 * h + (σ 4 q 1)) ((σ 4 q 1)).toNat))]) rfl ?_
                                refine lv_lstore_n (lv' := [(1, .long (zL (hsI (fun j => (σ 5 q j)) (31 * h + (σ 4 q 1)) ((σ 4 q 1)).toNat))), (0, .ref (aL Γ)), (3, .int (zI q))]) zC.1 zC.2.1 dX4_digest_165 rfl hl (by decide) rfl (fun ls hl => ?_)
                                refine zr_iinc (lv' := [(3, .int (zI (q + 1))), (1, .long (zL (hsI (fun j => (σ 5 q j)) (31 * h + (σ 4 q 1)) ((σ 4 q 1)).toNat))), (0, .ref (aL Γ))]) zC dX4_digest_166 hl (k := 2) rfl (by decide) rfl (fun ls hl => ?_)
                                refine lv_goto (tgt := 150) zC.1 zC.2.1 dX4_digest_169 (by decide) ?_
                                exact ih150 (hsI (fun j => (σ 5 q j)) (31 * h + (σ 4 q 1)) ((σ 4 q 1)).toNat) (q + 1) H locs ls (by first | assumption | omega) (by rw [dgX_s hq.1, ← hh]) (by omega) hG (lv_sub hl [2, 1, 0] rfl)
                          exact loop150 ((4 - 0 : Int).toNat + 1) h 0 H locs ls (by first | assumption | omega) (by rw [hh, show q = 6 by omega]; rfl) (by omega) hG (lv_sub hl [1, 2, 0] rfl)
                        · refine lv_aload_n zC.1 zC.2.1 dX4_digest_131 rfl (lv_at hl 0 rfl) ?_
                          refine gf_L_rows zC hG wl_X4_11 dX4_digest_132 ?_
                          refine lv_iload_n zC.1 zC.2.1 dX4_digest_135 rfl (lv_at hl 2 rfl) ?_
                          refine gr_Rs zC hG (by omega) dX4_digest_136 ?_
                          refine lv_lload_n zC.1 zC.2.1 dX4_digest_137 rfl (lv_at hl 1 rfl) ?_
                          refine zr_callV zC hG (c_X2_digestFrom (σ := σ) (i := q) (h := h) (by first | assumption | omega) (hI.2.2.1 q (by omega) (by omega)) (fun j h1 h2 => hI.2.2.2.1 q j (by omega) (by omega) h1 h2)) mt_X2_digestFrom wl_X4_308 (pRow (by first | assumption | omega)) rfl rfl ⟨by decide, by decide⟩ rfl hl.1 rfl (Nat.le_of_ble_eq_true rfl) dX4_digest_138 ⟨Nat.zero_le _, Nat.zero_le _⟩ (fun H locs hG => ?_)
                          refine W.eq (g2 := F0 zm 141 ls [.long (zL (hsI (fun j => (σ 3 q j)) (31 * h + (σ 2 q 1)) ((σ 2 q 1)).toNat))]) rfl ?_
                          refine lv_lstore_n (lv' := [(1, .long (zL (hsI (fun j => (σ 3 q j)) (31 * h + (σ 2 q 1)) ((σ 2 q 1)).toNat))), (0, .ref (aL Γ)), (3, .int (zI q))]) zC.1 zC.2.1 dX4_digest_141 rfl hl (by decide) rfl (fun ls hl => ?_)
                          refine zr_iinc (lv' := [(3, .int (zI (q + 1))), (1, .long (zL (hsI (fun j => (σ 3 q j)) (31 * h + (σ 2 q 1)) ((σ 2 q 1)).toNat))), (0, .ref (aL Γ))]) zC dX4_digest_142 hl (k := 2) rfl (by decide) rfl (fun ls hl => ?_)
                          refine lv_goto (tgt := 125) zC.1 zC.2.1 dX4_digest_145 (by decide) ?_
                          exact ih125 (hsI (fun j => (σ 3 q j)) (31 * h + (σ 2 q 1)) ((σ 2 q 1)).toNat) (q + 1) H locs ls (by first | assumption | omega) (by rw [dgR_s hq.1, ← hh]) (by omega) hG (lv_sub hl [2, 1, 0] rfl)
                    exact loop125 ((6 - 0 : Int).toNat + 1) h 0 H locs ls (by first | assumption | omega) (by rw [hh, show q = 3 by omega]; rfl) (by omega) hG (lv_sub hl [1, 2, 0] rfl)
                  · refine zr_ldc2 (z := 31) zC wl_X4_303 (by decide +kernel) dX4_digest_84 ?_
                    refine lv_lload_n zC.1 zC.2.1 dX4_digest_87 rfl (lv_at hl 1 rfl) ?_
                    refine zr_lmul zC dX4_digest_88 ?_
                    refine lv_aload_n zC.1 zC.2.1 dX4_digest_89 rfl (lv_at hl 0 rfl) ?_
                    refine gf_L_kept zC hG wl_X4_29 dX4_digest_90 ?_
                    refine lv_iload_n zC.1 zC.2.1 dX4_digest_93 rfl (lv_at hl 2 rfl) ?_
                    refine gr_Ks zC hG (by omega) dX4_digest_94 ?_
                    refine gf_Kp_isThere (v := σ 7 q 3) zC hG (by first | assumption | omega) wl_X4_124 rfl dX4_digest_95 ?_
                    have f95 := hI.2.2.2.2.2.2.2 q (by omega) (by omega)
                    refine zr_if_eq (tgt := 113) zC dX4_digest_98 (by decide) (by omega) (fun c98 => ?_) (fun c98 => ?_)
                    · refine zr_iconst zC dX4_digest_113 ?_
                      refine zr_i2l zC dX4_digest_114 (by omega) ?_
                      refine zr_ladd zC dX4_digest_115 ?_
                      refine lv_lstore_n (lv' := [(1, .long (zL ((31 * h) + (-1)))), (0, .ref (aL Γ)), (3, .int (zI q))]) zC.1 zC.2.1 dX4_digest_116 rfl hl (by decide) rfl (fun ls hl => ?_)
                      refine zr_iinc (lv' := [(3, .int (zI (q + 1))), (1, .long (zL ((31 * h) + (-1)))), (0, .ref (aL Γ))]) zC dX4_digest_117 hl (k := 2) rfl (by decide) rfl (fun ls hl => ?_)
                      refine lv_goto (tgt := 79) zC.1 zC.2.1 dX4_digest_120 (by decide) ?_
                      exact ih79 ((31 * h) + (-1)) (q + 1) H locs ls (by first | assumption | omega) (by rw [hsI_s hq.1, hh]; congr 1; first | rw [if_pos c98] | rw [if_neg c98]) (by omega) hG (lv_sub hl [2, 1, 0] rfl)
                    · refine lv_aload_n zC.1 zC.2.1 dX4_digest_101 rfl (lv_at hl 0 rfl) ?_
                      refine gf_L_kept zC hG wl_X4_29 dX4_digest_102 ?_
                      refine lv_iload_n zC.1 zC.2.1 dX4_digest_105 rfl (lv_at hl 2 rfl) ?_
                      refine gr_Ks zC hG (by omega) dX4_digest_106 ?_
                      refine gf_Kp_today (v := σ 7 q 4) zC hG (by first | assumption | omega) wl_X4_167 rfl dX4_digest_107 ?_
                      have f107 := hI.2.2.2.2.2.2.2 q (by omega) (by omega)
                      refine lv_goto (tgt := 114) zC.1 zC.2.1 dX4_digest_110 (by decide) ?_
                      refine zr_i2l zC dX4_digest_114 (by omega) ?_
                      refine zr_ladd zC dX4_digest_115 ?_
                      refine lv_lstore_n (lv' := [(1, .long (zL ((31 * h) + (σ 7 q 4)))), (0, .ref (aL Γ)), (3, .int (zI q))]) zC.1 zC.2.1 dX4_digest_116 rfl hl (by decide) rfl (fun ls hl => ?_)
                      refine zr_iinc (lv' := [(3, .int (zI (q + 1))), (1, .long (zL ((31 * h) + (σ 7 q 4)))), (0, .ref (aL Γ))]) zC dX4_digest_117 hl (k := 2) rfl (by decide) rfl (fun ls hl => ?_)
                      refine lv_goto (tgt := 79) zC.1 zC.2.1 dX4_digest_120 (by decide) ?_
                      exact ih79 ((31 * h) + (σ 7 q 4)) (q + 1) H locs ls (by first | assumption | omega) (by rw [hsI_s hq.1, hh]; congr 1; first | rw [if_pos c98] | rw [if_neg c98]) (by omega) hG (lv_sub hl [2, 1, 0] rfl)
              exact loop79 ((3 - 0 : Int).toNat + 1) h 0 H locs ls (by first | assumption | omega) (by rw [hh, show q = σ 0 0 6 by omega]; rfl) (by omega) hG (lv_sub hl [1, 2, 0] rfl)
            · refine zr_iconst zC dX4_digest_41 ?_
              refine lv_istore (lv' := [(4, .int (zI 0)), (0, .ref (aL Γ)), (1, .long (zL h)), (3, .int (zI q))]) zC.1 zC.2.1 dX4_digest_42 hl (by decide) rfl (fun ls hl => ?_)
              have loop44 : ∀ (nf : Nat) (h2 w : Int) (H : Heap) (locs : List Loc) (ls : Array Slot), (0 ≤ w ∧ w ≤ 5) → (h2 = hsI (fun w => oTn σ q w) h w.toNat) → (5 - w < (nf : Int)) → GM Γ A σ zs H locs → lv_has ls 5 [(0, .ref (aL Γ)), (1, .long (zL h2)), (3, .int (zI q)), (4, .int (zI w))] → W zp zl ze { frames := 5, cells := 0, slots := 0, locals := 109 } zs zm args below meth zc H locs 0 0 zQ (F0 zm 44 ls []) := by
                intro nf
                induction nf with
                | zero =>
                  intro h2 w H locs ls hw hh2 hm44 _ _
                  exact absurd hm44 (by omega)
                | succ nf ih44 =>
                  intro h2 w H locs ls hw hh2 hm44 hG hl
                  refine lv_iload zC.1 zC.2.1 dX4_digest_44 (lv_at hl 3 rfl) ?_
                  refine zr_iconst zC dX4_digest_46 ?_
                  refine zr_icmp_gt (tgt := 71) zC dX4_digest_47 (by decide) (by omega) (fun c47 => ?_) (fun c47 => ?_)
                  · refine zr_iinc (lv' := [(3, .int (zI (q + 1))), (0, .ref (aL Γ)), (1, .long (zL h2)), (4, .int (zI w))]) zC dX4_digest_71 hl (k := 2) rfl (by decide) rfl (fun ls hl => ?_)
                    refine lv_goto (tgt := 33) zC.1 zC.2.1 dX4_digest_74 (by decide) ?_
                    exact ih33 h2 (q + 1) H locs ls (by first | assumption | omega) (by rw [dgT_s hq.1, ← hh, hh2, show w = 5 by omega]; rfl) (by omega) hG (lv_sub hl [1, 2, 0] rfl)
                  · refine zr_ldc2 (z := 31) zC wl_X4_303 (by decide +kernel) dX4_digest_50 ?_
                    refine lv_lload_n zC.1 zC.2.1 dX4_digest_53 rfl (lv_at hl 1 rfl) ?_
                    refine zr_lmul zC dX4_digest_54 ?_
                    refine lv_aload_n zC.1 zC.2.1 dX4_digest_55 rfl (lv_at hl 0 rfl) ?_
                    refine lv_iload_n zC.1 zC.2.1 dX4_digest_56 rfl (lv_at hl 2 rfl) ?_
                    refine lv_iload zC.1 zC.2.1 dX4_digest_57 (lv_at hl 3 rfl) ?_
                    refine zr_callV zC hG (c_X4_ofTown (σ := σ) (c := q) (w := w) hI (by first | assumption | omega) (by first | assumption | omega)) mt_X4_ofTown wl_X4_131 pL rfl rfl ⟨by decide, by decide⟩ rfl hl.1 rfl (Nat.le_of_ble_eq_true rfl) dX4_digest_59 ⟨Nat.zero_le _, Nat.zero_le _⟩ (fun H locs hG => ?_)
                    refine W.eq (g2 := F0 zm 62 ls [.int (zI (oTn σ q w)), .long (zL (31 * h2))]) rfl ?_
                    have b59_0 := oTn_r hI (c := q) (w := w) (by omega)
                    refine zr_i2l zC dX4_digest_62 (by omega) ?_
                    refine zr_ladd zC dX4_digest_63 ?_
                    refine lv_lstore_n (lv' := [(1, .long (zL ((31 * h2) + (oTn σ q w)))), (0, .ref (aL Γ)), (3, .int (zI q)), (4, .int (zI w))]) zC.1 zC.2.1 dX4_digest_64 rfl hl (by decide) rfl (fun ls hl => ?_)
                    refine zr_iinc (lv' := [(4, .int (zI (w + 1))), (1, .long (zL ((31 * h2) + (oTn σ q w)))), (0, .ref (aL Γ)), (3, .int (zI q))]) zC dX4_digest_65 hl (k := 3) rfl (by decide) rfl (fun ls hl => ?_)
                    refine lv_goto (tgt := 44) zC.1 zC.2.1 dX4_digest_68 (by decide) ?_
                    exact ih44 ((31 * h2) + (oTn σ q w)) (w + 1) H locs ls (by first | assumption | omega) (by rw [hsI_s hw.1, hh2]) (by omega) hG (lv_sub hl [2, 1, 3, 0] rfl)
              exact loop44 ((5 - 0 : Int).toNat + 1) h 0 H locs ls (by first | assumption | omega) rfl (by omega) hG (lv_sub hl [1, 2, 3, 0] rfl)
        exact loop33 ((6 - 0 : Int).toNat + 1) h 0 H locs ls (by first | assumption | omega) (by rw [hh, show q = 7 by omega]; rfl) (by omega) hG (lv_sub hl [1, 2, 0] rfl)
      · refine zr_ldc2 (z := 31) zC wl_X4_303 (by decide +kernel) dX4_digest_12 ?_
        refine lv_lload_n zC.1 zC.2.1 dX4_digest_15 rfl (lv_at hl 1 rfl) ?_
        refine zr_lmul zC dX4_digest_16 ?_
        refine lv_aload_n zC.1 zC.2.1 dX4_digest_17 rfl (lv_at hl 0 rfl) ?_
        refine lv_iload_n zC.1 zC.2.1 dX4_digest_18 rfl (lv_at hl 2 rfl) ?_
        refine zr_callV zC hG (c_X4_count (σ := σ) (w := q) hI (by first | assumption | omega)) mt_X4_count wl_X4_305 pL rfl rfl ⟨by decide, by decide⟩ rfl hl.1 rfl (Nat.le_of_ble_eq_true rfl) dX4_digest_19 ⟨Nat.zero_le _, Nat.zero_le _⟩ (fun H locs hG => ?_)
        refine W.eq (g2 := F0 zm 22 ls [.int (zI (rC_count σ q)), .long (zL (31 * h))]) rfl ?_
        have b19_0 := count_r hI q
        refine zr_i2l zC dX4_digest_22 (by omega) ?_
        refine zr_ladd zC dX4_digest_23 ?_
        refine lv_lstore_n (lv' := [(1, .long (zL ((31 * h) + (rC_count σ q)))), (0, .ref (aL Γ)), (3, .int (zI q))]) zC.1 zC.2.1 dX4_digest_24 rfl hl (by decide) rfl (fun ls hl => ?_)
        refine zr_iinc (lv' := [(3, .int (zI (q + 1))), (1, .long (zL ((31 * h) + (rC_count σ q)))), (0, .ref (aL Γ))]) zC dX4_digest_25 hl (k := 2) rfl (by decide) rfl (fun ls hl => ?_)
        refine lv_goto (tgt := 6) zC.1 zC.2.1 dX4_digest_28 (by decide) ?_
        exact ih6 ((31 * h) + (rC_count σ q)) (q + 1) H locs ls (by first | assumption | omega) (by rw [hsI_s hq.1, hh]) (by omega) hG (lv_sub hl [2, 1, 0] rfl)
  exact loop6 ((7 - 0 : Int).toNat + 1) 17 0 H locs ls (by first | assumption | omega) rfl (by omega) hG (lv_sub hl [2, 1, 0] rfl)
