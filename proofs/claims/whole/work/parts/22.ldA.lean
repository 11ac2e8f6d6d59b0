set_option maxHeartbeats 4000000 in
set_option maxRecDepth 100000 in
theorem c_X4_found {Γ : Gm} {zl : Launch} {A : Nat → Prop} {σ : Mm} {f : Int} (hI : IC σ) (hf : 1 ≤ f ∧ f ≤ 5) : Fn Γ zl A yX4_found cX4_found 2 (some .int) 0 0 [.ref (aL Γ), .int (zI f)] σ (some (.int (zI (-3)))) (mFd σ f) := by
  refine Fn_of (by decide) (Nat.le_of_ble_eq_true rfl) ?_
  intro zp ze zs zm args below meth zc zQ H locs ls zC zK hG hl
  have hl : lv_has ls 2 [(0, .ref (aL Γ)), (1, .int (zI f))] := hl
  obtain ⟨hmany, htoday, -⟩ := id hI
  refine lv_aload_n zC.1 zC.2.1 dX4_found_0 rfl (lv_at hl 0 rfl) ?_
  refine lv_iload_n zC.1 zC.2.1 dX4_found_1 rfl (lv_at hl 1 rfl) ?_
  refine pf_L_latestFinding zC hG wl_X4_59 dX4_found_2 (fun H locs hG => ?_)
  refine lv_aload_n zC.1 zC.2.1 dX4_found_5 rfl (lv_at hl 0 rfl) ?_
  refine gf_L_timesFound zC hG wl_X4_38 dX4_found_6 ?_
  refine lv_iload_n zC.1 zC.2.1 dX4_found_9 rfl (lv_at hl 1 rfl) ?_
  refine lv_dup2_11 zC.1 zC.2.1 dX4_found_10 rfl rfl ?_
  refine gi_Tf (v := σ 1 0 f) zC hG (by omega) (by first | rfl | simp [up]) dX4_found_11 ?_
  refine zr_iconst zC dX4_found_12 ?_
  refine zr_iadd zC dX4_found_13 ?_
  refine pi_Tf zC hG (by omega) dX4_found_14 (fun H locs hG => ?_)
  refine zr_bipush zC dX4_found_15 (by decide +kernel) ?_
  exact zr_iret zC zK hG dX4_found_17 rfl rfl

set_option maxHeartbeats 4000000 in
set_option maxRecDepth 100000 in
theorem c_X4_isTown {Γ : Gm} {zl : Launch} {A : Nat → Prop} {σ : Mm} {c : Int} (hI : IC σ) (hc : -2147483648 ≤ c ∧ c < 2147483648) : Fn Γ zl A yX4_isTown cX4_isTown 2 (some .boolean) 0 0 [.ref (aL Γ), .int (zI c)] σ (some (.int (zI (zB (isT σ c))))) σ := by
  refine Fn_of (by decide) (Nat.le_of_ble_eq_true rfl) ?_
  intro zp ze zs zm args below meth zc zQ H locs ls zC zK hG hl
  have hl : lv_has ls 2 [(0, .ref (aL Γ)), (1, .int (zI c))] := hl
  obtain ⟨hmany, htoday, -⟩ := id hI
  refine lv_iload_n zC.1 zC.2.1 dX4_isTown_0 rfl (lv_at hl 1 rfl) ?_
  refine zr_if_lt (tgt := 16) zC dX4_isTown_1 (by decide) (by omega) (fun c1 => ?_) (fun c1 => ?_)
  · refine zr_iconst zC dX4_isTown_16 ?_
    exact zr_zret zC zK hG dX4_isTown_17 (zB_f (by omega)) (Or.inl rfl) rfl
  · refine lv_iload_n zC.1 zC.2.1 dX4_isTown_4 rfl (lv_at hl 1 rfl) ?_
    refine lv_aload_n zC.1 zC.2.1 dX4_isTown_5 rfl (lv_at hl 0 rfl) ?_
    refine gf_L_townCount (v := σ 0 0 6) zC hG wl_X4_42 rfl dX4_isTown_6 ?_
    refine zr_icmp_ge (tgt := 16) zC dX4_isTown_9 (by decide) (by omega) (fun c9 => ?_) (fun c9 => ?_)
    · refine zr_iconst zC dX4_isTown_16 ?_
      exact zr_zret zC zK hG dX4_isTown_17 (zB_f (by omega)) (Or.inl rfl) rfl
    · refine zr_iconst zC dX4_isTown_12 ?_
      refine lv_goto (tgt := 17) zC.1 zC.2.1 dX4_isTown_13 (by decide) ?_
      exact zr_zret zC zK hG dX4_isTown_17 (zB_t (by omega)) (Or.inr rfl) rfl

set_option maxHeartbeats 4000000 in
set_option maxRecDepth 100000 in
theorem c_X4_refusedRow {Γ : Gm} {zl : Launch} {A : Nat → Prop} {σ : Mm} {r : Int} (hI : IC σ) (hr : -2147483648 ≤ r ∧ r < 2147483648) : Fn Γ zl A yX4_refusedRow cX4_refusedRow 2 (some .int) 1 21 [.ref (aL Γ), .int (zI r)] σ (some (.int (zI (rfR σ r)))) (mRf σ r) := by
  refine Fn_of (by decide) (Nat.le_of_ble_eq_true rfl) ?_
  intro zp ze zs zm args below meth zc zQ H locs ls zC zK hG hl
  have hl : lv_has ls 2 [(0, .ref (aL Γ)), (1, .int (zI r))] := hl
  obtain ⟨hmany, htoday, -⟩ := id hI
  refine lv_iload_n zC.1 zC.2.1 dX4_refusedRow_0 rfl (lv_at hl 1 rfl) ?_
  refine zr_callS zC hG (c_X4_isRow (σ := σ) (v := r) (by first | assumption | omega)) mt_X4_isRow wl_X4_65 ⟨by decide, by decide⟩ rfl hl.1 rfl (Nat.le_of_ble_eq_true rfl) dX4_refusedRow_1 ⟨Nat.zero_le _, Nat.zero_le _⟩ (fun H locs hG => ?_)
  refine W.eq (g2 := F0 zm 4 ls [.int (zI (zB (0 ≤ r ∧ r < 6)))]) rfl ?_
  refine zr_ifneB (tgt := 9) zC dX4_refusedRow_4 (by decide) (fun c4 => ?_) (fun c4 => ?_)
  · refine lv_aload_n zC.1 zC.2.1 dX4_refusedRow_9 rfl (lv_at hl 0 rfl) ?_
    refine gf_L_rows zC hG wl_X4_11 dX4_refusedRow_10 ?_
    refine lv_iload_n zC.1 zC.2.1 dX4_refusedRow_13 rfl (lv_at hl 1 rfl) ?_
    refine gr_Rs zC hG (by omega) dX4_refusedRow_14 ?_
    refine gf_Row_size (v := σ 2 r 1) zC hG (by first | assumption | omega) wl_X4_87 rfl dX4_refusedRow_15 ?_
    have f15 := hI.2.2.1 r (by omega) (by omega)
    refine zr_iconst zC dX4_refusedRow_18 ?_
    refine zr_icmp_ne (tgt := 30) zC dX4_refusedRow_19 (by decide) (by omega) (fun c19 => ?_) (fun c19 => ?_)
    · refine zr_iconst zC dX4_refusedRow_30 ?_
      exact zr_iret zC zK hG dX4_refusedRow_31 (by unfold rfR; (repeat' split) <;> omega) (by unfold mRf; first | rw [if_pos (by omega)] | rw [if_neg (by omega)])
    · refine lv_aload_n zC.1 zC.2.1 dX4_refusedRow_22 rfl (lv_at hl 0 rfl) ?_
      refine zr_iconst zC dX4_refusedRow_23 ?_
      refine zr_callV zC hG (c_X4_found (σ := σ) (f := 1) hI (by first | assumption | omega)) mt_X4_found wl_X4_69 pL rfl rfl ⟨by decide, by decide⟩ rfl hl.1 rfl (Nat.le_of_ble_eq_true rfl) dX4_refusedRow_24 ⟨Nat.zero_le _, Nat.zero_le _⟩ (fun H locs hG => ?_)
      refine W.eq (g2 := F0 zm 27 ls [.int (zI (-3))]) rfl ?_
      refine lv_goto (tgt := 31) zC.1 zC.2.1 dX4_refusedRow_27 (by decide) ?_
      exact zr_iret zC zK hG dX4_refusedRow_31 (by unfold rfR; (repeat' split) <;> omega) (by unfold mRf; first | rw [if_pos (by omega)] | rw [if_neg (by omega)])
  · refine zr_iconst zC dX4_refusedRow_7 ?_
    exact zr_iret zC zK hG dX4_refusedRow_8 (by unfold rfR; (repeat' split) <;> omega) (by unfold mRf; first | rw [if_pos (by omega)] | rw [if_neg (by omega)])

set_option maxHeartbeats 4000000 in
set_option maxRecDepth 100000 in
theorem c_X4_refusedText {Γ : Gm} {zl : Launch} {A : Nat → Prop} {σ : Mm} {t : Int} (hI : IC σ) (ht : -2147483648 ≤ t ∧ t < 2147483648) : Fn Γ zl A yX4_refusedText cX4_refusedText 2 (some .int) 1 21 [.ref (aL Γ), .int (zI t)] σ (some (.int (zI (rfT σ t)))) (mRt σ t) := by
  refine Fn_of (by decide) (Nat.le_of_ble_eq_true rfl) ?_
  intro zp ze zs zm args below meth zc zQ H locs ls zC zK hG hl
  have hl : lv_has ls 2 [(0, .ref (aL Γ)), (1, .int (zI t))] := hl
  obtain ⟨hmany, htoday, -⟩ := id hI
  refine lv_iload_n zC.1 zC.2.1 dX4_refusedText_0 rfl (lv_at hl 1 rfl) ?_
  refine zr_callS zC hG (c_X4_isText (σ := σ) (v := t) (by first | assumption | omega)) mt_X4_isText wl_X4_104 ⟨by decide, by decide⟩ rfl hl.1 rfl (Nat.le_of_ble_eq_true rfl) dX4_refusedText_1 ⟨Nat.zero_le _, Nat.zero_le _⟩ (fun H locs hG => ?_)
  refine W.eq (g2 := F0 zm 4 ls [.int (zI (zB (0 ≤ t ∧ t < 4)))]) rfl ?_
  refine zr_ifneB (tgt := 9) zC dX4_refusedText_4 (by decide) (fun c4 => ?_) (fun c4 => ?_)
  · refine lv_aload_n zC.1 zC.2.1 dX4_refusedText_9 rfl (lv_at hl 0 rfl) ?_
    refine gf_L_texts zC hG wl_X4_17 dX4_refusedText_10 ?_
    refine lv_iload_n zC.1 zC.2.1 dX4_refusedText_13 rfl (lv_at hl 1 rfl) ?_
    refine gr_Ts zC hG (by omega) dX4_refusedText_14 ?_
    refine gf_Tx_size (v := σ 4 t 1) zC hG (by first | assumption | omega) wl_X4_111 rfl dX4_refusedText_15 ?_
    have f15 := hI.2.2.2.2.1 t (by omega) (by omega)
    refine zr_iconst zC dX4_refusedText_18 ?_
    refine zr_icmp_ne (tgt := 30) zC dX4_refusedText_19 (by decide) (by omega) (fun c19 => ?_) (fun c19 => ?_)
    · refine zr_iconst zC dX4_refusedText_30 ?_
      exact zr_iret zC zK hG dX4_refusedText_31 (by unfold rfT; (repeat' split) <;> omega) (by unfold mRt; first | rw [if_pos (by omega)] | rw [if_neg (by omega)])
    · refine lv_aload_n zC.1 zC.2.1 dX4_refusedText_22 rfl (lv_at hl 0 rfl) ?_
      refine zr_iconst zC dX4_refusedText_23 ?_
      refine zr_callV zC hG (c_X4_found (σ := σ) (f := 1) hI (by first | assumption | omega)) mt_X4_found wl_X4_69 pL rfl rfl ⟨by decide, by decide⟩ rfl hl.1 rfl (Nat.le_of_ble_eq_true rfl) dX4_refusedText_24 ⟨Nat.zero_le _, Nat.zero_le _⟩ (fun H locs hG => ?_)
      refine W.eq (g2 := F0 zm 27 ls [.int (zI (-3))]) rfl ?_
      refine lv_goto (tgt := 31) zC.1 zC.2.1 dX4_refusedText_27 (by decide) ?_
      exact zr_iret zC zK hG dX4_refusedText_31 (by unfold rfT; (repeat' split) <;> omega) (by unfold mRt; first | rw [if_pos (by omega)] | rw [if_neg (by omega)])
  · refine zr_iconst zC dX4_refusedText_7 ?_
    exact zr_iret zC zK hG dX4_refusedText_8 (by unfold rfT; (repeat' split) <;> omega) (by unfold mRt; first | rw [if_pos (by omega)] | rw [if_neg (by omega)])

set_option maxHeartbeats 4000000 in
set_option maxRecDepth 100000 in
theorem c_X4_refusedPlace {Γ : Gm} {zl : Launch} {A : Nat → Prop} {σ : Mm} {r x : Int} (hI : IC σ) (hr : -2147483648 ≤ r ∧ r < 2147483648) (hx : -2147483648 ≤ x ∧ x < 2147483648) : Fn Γ zl A yX4_refusedPlace cX4_refusedPlace 4 (some .int) 2 42 [.ref (aL Γ), .int (zI r), .int (zI x)] σ (some (.int (zI (rfP σ r x)))) (mRp σ r x) := by
  refine Fn_of (by decide) (Nat.le_of_ble_eq_true rfl) ?_
  intro zp ze zs zm args below meth zc zQ H locs ls zC zK hG hl
  have hl : lv_has ls 4 [(0, .ref (aL Γ)), (1, .int (zI r)), (2, .int (zI x))] := hl
  obtain ⟨hmany, htoday, -⟩ := id hI
  refine lv_aload_n zC.1 zC.2.1 dX4_refusedPlace_0 rfl (lv_at hl 0 rfl) ?_
  refine lv_iload_n zC.1 zC.2.1 dX4_refusedPlace_1 rfl (lv_at hl 1 rfl) ?_
  refine zr_callV zC hG (c_X4_refusedRow (σ := σ) (r := r) hI (by first | assumption | omega)) mt_X4_refusedRow wl_X4_84 pL rfl rfl ⟨by decide, by decide⟩ rfl hl.1 rfl (Nat.le_of_ble_eq_true rfl) dX4_refusedPlace_2 ⟨Nat.zero_le _, Nat.zero_le _⟩ (fun H locs hG => ?_)
  refine W.eq (g2 := F0 zm 5 ls [.int (zI (rfR σ r))]) rfl ?_
  have b2_0 := rfR_r σ r
  refine lv_istore_n (lv' := [(3, .int (zI (rfR σ r))), (0, .ref (aL Γ)), (1, .int (zI r)), (2, .int (zI x))]) zC.1 zC.2.1 dX4_refusedPlace_5 rfl hl (by decide) rfl (fun ls hl => ?_)
  refine lv_iload_n zC.1 zC.2.1 dX4_refusedPlace_6 rfl (lv_at hl 0 rfl) ?_
  refine zr_if_eq (tgt := 12) zC dX4_refusedPlace_7 (by decide) (by omega) (fun c7 => ?_) (fun c7 => ?_)
  · obtain ⟨h1, h2, h3⟩ := rfR_0 c7
    rw [h3] at hG
    refine lv_aload_n zC.1 zC.2.1 dX4_refusedPlace_12 rfl (lv_at hl 1 rfl) ?_
    refine gf_L_rows zC hG wl_X4_11 dX4_refusedPlace_13 ?_
    refine lv_iload_n zC.1 zC.2.1 dX4_refusedPlace_16 rfl (lv_at hl 2 rfl) ?_
    refine gr_Rs zC hG (by omega) dX4_refusedPlace_17 ?_
    refine lv_iload_n zC.1 zC.2.1 dX4_refusedPlace_18 rfl (lv_at hl 3 rfl) ?_
    refine zr_iconst zC dX4_refusedPlace_19 ?_
    refine zr_callV zC hG (c_X2_holds (σ := σ) (i := r) (a := x) (n := 1) (by first | assumption | omega) (hI.2.2.1 r (by omega) (by omega)) (by first | assumption | omega) (by first | assumption | omega)) mt_X2_holds wl_X4_90 (pRow (by first | assumption | omega)) rfl rfl ⟨by decide, by decide⟩ rfl hl.1 rfl (Nat.le_of_ble_eq_true rfl) dX4_refusedPlace_20 ⟨Nat.zero_le _, Nat.zero_le _⟩ (fun H locs hG => ?_)
    refine W.eq (g2 := F0 zm 23 ls [.int (zI (zB (0 ≤ x ∧ x + 1 ≤ (σ 2 r 1))))]) rfl ?_
    refine zr_ifeqB (tgt := 30) zC dX4_refusedPlace_23 (by decide) (fun c23 => ?_) (fun c23 => ?_)
    · refine lv_aload_n zC.1 zC.2.1 dX4_refusedPlace_30 rfl (lv_at hl 1 rfl) ?_
      refine zr_iconst zC dX4_refusedPlace_31 ?_
      refine zr_callV zC hG (c_X4_found (σ := σ) (f := 2) hI (by first | assumption | omega)) mt_X4_found wl_X4_69 pL rfl rfl ⟨by decide, by decide⟩ rfl hl.1 rfl (Nat.le_of_ble_eq_true rfl) dX4_refusedPlace_32 ⟨Nat.zero_le _, Nat.zero_le _⟩ (fun H locs hG => ?_)
      refine W.eq (g2 := F0 zm 35 ls [.int (zI (-3))]) rfl ?_
      exact zr_iret zC zK hG dX4_refusedPlace_35 (by unfold rfP; (repeat' split) <;> omega) (by unfold mRp; (repeat' split) <;> first | rfl | (exfalso; omega))
    · refine zr_iconst zC dX4_refusedPlace_26 ?_
      refine lv_goto (tgt := 35) zC.1 zC.2.1 dX4_refusedPlace_27 (by decide) ?_
      exact zr_iret zC zK hG dX4_refusedPlace_35 (by unfold rfP; (repeat' split) <;> omega) (by unfold mRp; (repeat' split) <;> first | rfl | (exfalso; omega))
  · refine lv_iload_n zC.1 zC.2.1 dX4_refusedPlace_10 rfl (lv_at hl 0 rfl) ?_
    exact zr_iret zC zK hG dX4_refusedPlace_11 (by unfold rfP; (repeat' split) <;> omega) (by unfold mRp; (repeat' split) <;> first | rfl | (exfalso; omega))

set_option maxHeartbeats 4000000 in
set_option maxRecDepth 100000 in
theorem c_X4_row {Γ : Gm} {zl : Launch} {A : Nat → Prop} {σ : Mm} {r n : Int} (hI : IC σ) (hr : -2147483648 ≤ r ∧ r < 2147483648) (hn : -2147483648 ≤ n ∧ n < 2147483648) : Fn Γ zl A yX4_row cX4_row 3 (some .int) 1 22 [.ref (aL Γ), .int (zI r), .int (zI n)] σ (some (.int (zI (rC_row σ r n)))) (mC_row σ r n) := by
  refine Fn_of (by decide) (Nat.le_of_ble_eq_true rfl) ?_
  intro zp ze zs zm args below meth zc zQ H locs ls zC zK hG hl
  have hl : lv_has ls 3 [(0, .ref (aL Γ)), (1, .int (zI r)), (2, .int (zI n))] := hl
  obtain ⟨hmany, htoday, -⟩ := id hI
  refine lv_iload_n zC.1 zC.2.1 dX4_row_0 rfl (lv_at hl 1 rfl) ?_
  refine zr_callS zC hG (c_X4_isRow (σ := σ) (v := r) (by first | assumption | omega)) mt_X4_isRow wl_X4_65 ⟨by decide, by decide⟩ rfl hl.1 rfl (Nat.le_of_ble_eq_true rfl) dX4_row_1 ⟨Nat.zero_le _, Nat.zero_le _⟩ (fun H locs hG => ?_)
  refine W.eq (g2 := F0 zm 4 ls [.int (zI (zB (0 ≤ r ∧ r < 6)))]) rfl ?_
  refine zr_ifeqB (tgt := 13) zC dX4_row_4 (by decide) (fun c4 => ?_) (fun c4 => ?_)
  · refine zr_iconst zC dX4_row_13 ?_
    exact zr_iret zC zK hG dX4_row_14 (by unfold rC_row; (repeat' split) <;> first | rfl | omega) (by unfold mC_row; (repeat' split) <;> first | rfl | (exfalso; omega))
  · refine lv_iload_n zC.1 zC.2.1 dX4_row_7 rfl (lv_at hl 2 rfl) ?_
    refine zr_bipush zC dX4_row_8 (by decide +kernel) ?_
    refine zr_icmp_le (tgt := 15) zC dX4_row_10 (by decide) (by omega) (fun c10 => ?_) (fun c10 => ?_)
    · refine lv_iload_n zC.1 zC.2.1 dX4_row_15 rfl (lv_at hl 2 rfl) ?_
      refine zr_if_ge (tgt := 25) zC dX4_row_16 (by decide) (by omega) (fun c16 => ?_) (fun c16 => ?_)
      · refine lv_aload_n zC.1 zC.2.1 dX4_row_25 rfl (lv_at hl 0 rfl) ?_
        refine gf_L_rows zC hG wl_X4_11 dX4_row_26 ?_
        refine lv_iload_n zC.1 zC.2.1 dX4_row_29 rfl (lv_at hl 1 rfl) ?_
        refine gr_Rs zC hG (by omega) dX4_row_30 ?_
        refine lv_iload_n zC.1 zC.2.1 dX4_row_31 rfl (lv_at hl 2 rfl) ?_
        refine zr_callV zC hG (c_X2_renew (σ := σ) (i := r) (n := n) (by first | assumption | omega)) mt_X2_renew wl_X4_73 (pRow (by first | assumption | omega)) rfl rfl ⟨by decide, by decide⟩ rfl hl.1 rfl (Nat.le_of_ble_eq_true rfl) dX4_row_32 ⟨Nat.zero_le _, Nat.zero_le _⟩ (fun H locs hG => ?_)
        refine W.eq (g2 := F0 zm 35 ls []) rfl ?_
        refine lv_iload_n zC.1 zC.2.1 dX4_row_35 rfl (lv_at hl 2 rfl) ?_
        exact zr_iret zC zK hG dX4_row_36 (by unfold rC_row; (repeat' split) <;> first | rfl | omega) (by unfold mC_row; (repeat' split) <;> first | rfl | (exfalso; omega))
      · refine lv_aload_n zC.1 zC.2.1 dX4_row_19 rfl (lv_at hl 0 rfl) ?_
        refine zr_iconst zC dX4_row_20 ?_
        refine zr_callV zC hG (c_X4_found (σ := σ) (f := 5) hI (by first | assumption | omega)) mt_X4_found wl_X4_69 pL rfl rfl ⟨by decide, by decide⟩ rfl hl.1 rfl (Nat.le_of_ble_eq_true rfl) dX4_row_21 ⟨Nat.zero_le _, Nat.zero_le _⟩ (fun H locs hG => ?_)
        refine W.eq (g2 := F0 zm 24 ls [.int (zI (-3))]) rfl ?_
        exact zr_iret zC zK hG dX4_row_24 (by unfold rC_row; (repeat' split) <;> first | rfl | omega) (by unfold mC_row; (repeat' split) <;> first | rfl | (exfalso; omega))
    · refine zr_iconst zC dX4_row_13 ?_
      exact zr_iret zC zK hG dX4_row_14 (by unfold rC_row; (repeat' split) <;> first | rfl | omega) (by unfold mC_row; (repeat' split) <;> first | rfl | (exfalso; omega))

set_option maxHeartbeats 4000000 in
set_option maxRecDepth 100000 in
theorem c_X4_lay {Γ : Gm} {zl : Launch} {A : Nat → Prop} {σ : Mm} {r x v : Int} (hI : IC σ) (hr : -2147483648 ≤ r ∧ r < 2147483648) (hx : -2147483648 ≤ x ∧ x < 2147483648) (hv : -2147483648 ≤ v ∧ v < 2147483648) : Fn Γ zl A yX4_lay cX4_lay 5 (some .int) 3 65 [.ref (aL Γ), .int (zI r), .int (zI x), .int (zI v)] σ (some (.int (zI (rC_lay σ r x v)))) (mC_lay σ r x v) := by
  refine Fn_of (by decide) (Nat.le_of_ble_eq_true rfl) ?_
  intro zp ze zs zm args below meth zc zQ H locs ls zC zK hG hl
  have hl : lv_has ls 5 [(0, .ref (aL Γ)), (1, .int (zI r)), (2, .int (zI x)), (3, .int (zI v))] := hl
  obtain ⟨hmany, htoday, -⟩ := id hI
  refine lv_aload_n zC.1 zC.2.1 dX4_lay_0 rfl (lv_at hl 0 rfl) ?_
  refine lv_iload_n zC.1 zC.2.1 dX4_lay_1 rfl (lv_at hl 1 rfl) ?_
  refine lv_iload_n zC.1 zC.2.1 dX4_lay_2 rfl (lv_at hl 2 rfl) ?_
  refine zr_callV zC hG (c_X4_refusedPlace (σ := σ) (r := r) (x := x) hI (by first | assumption | omega) (by first | assumption | omega)) mt_X4_refusedPlace wl_X4_77 pL rfl rfl ⟨by decide, by decide⟩ rfl hl.1 rfl (Nat.le_of_ble_eq_true rfl) dX4_lay_3 ⟨Nat.zero_le _, Nat.zero_le _⟩ (fun H locs hG => ?_)
  refine W.eq (g2 := F0 zm 6 ls [.int (zI (rfP σ r x))]) rfl ?_
  have b3_0 := rfP_r σ r x
  refine lv_istore (lv' := [(4, .int (zI (rfP σ r x))), (0, .ref (aL Γ)), (1, .int (zI r)), (2, .int (zI x)), (3, .int (zI v))]) zC.1 zC.2.1 dX4_lay_6 hl (by decide) rfl (fun ls hl => ?_)
  refine lv_iload zC.1 zC.2.1 dX4_lay_8 (lv_at hl 0 rfl) ?_
  refine zr_if_eq (tgt := 16) zC dX4_lay_10 (by decide) (by omega) (fun c10 => ?_) (fun c10 => ?_)
  · obtain ⟨h1, h2, h3⟩ := rfP_0 c10
    rw [h3] at hG
    have h4 := hI.2.2.1 r (by omega) (by omega)
    refine lv_aload_n zC.1 zC.2.1 dX4_lay_16 rfl (lv_at hl 1 rfl) ?_
    refine lv_aload_n zC.1 zC.2.1 dX4_lay_17 rfl (lv_at hl 1 rfl) ?_
    refine gf_L_rows zC hG wl_X4_11 dX4_lay_18 ?_
    refine lv_iload_n zC.1 zC.2.1 dX4_lay_21 rfl (lv_at hl 2 rfl) ?_
    refine gr_Rs zC hG (by omega) dX4_lay_22 ?_
    refine gf_Row_places zC hG (by first | assumption | omega) wl_X4_81 dX4_lay_23 ?_
    refine lv_iload_n zC.1 zC.2.1 dX4_lay_26 rfl (lv_at hl 3 rfl) ?_
    refine gi_Pl (v := σ 3 r x) zC hG (by first | assumption | omega) (by omega) rfl dX4_lay_27 ?_
    have f27 := hI.2.2.2.1 r x (by omega) (by omega) (by omega) (by omega)
    refine pf_L_told zC hG wl_X4_49 dX4_lay_28 (fun H locs hG => ?_)
    refine lv_aload_n zC.1 zC.2.1 dX4_lay_31 rfl (lv_at hl 1 rfl) ?_
    refine gf_L_rows zC hG wl_X4_11 dX4_lay_32 ?_
    refine lv_iload_n zC.1 zC.2.1 dX4_lay_35 rfl (lv_at hl 2 rfl) ?_
    refine gr_Rs zC hG (by omega) dX4_lay_36 ?_
    refine gf_Row_places zC hG (by first | assumption | omega) wl_X4_81 dX4_lay_37 ?_
    refine lv_iload_n zC.1 zC.2.1 dX4_lay_40 rfl (lv_at hl 3 rfl) ?_
    refine lv_iload_n zC.1 zC.2.1 dX4_lay_41 rfl (lv_at hl 4 rfl) ?_
    refine pi_Pl zC hG (by first | assumption | omega) (by omega) dX4_lay_42 (fun H locs hG => ?_)
    refine zr_iconst zC dX4_lay_43 ?_
    exact zr_iret zC zK hG dX4_lay_44 (by unfold rC_lay; (repeat' split) <;> first | rfl | omega) (by unfold mC_lay; (repeat' split) <;> first | rfl | (exfalso; omega))
  · refine lv_iload zC.1 zC.2.1 dX4_lay_13 (lv_at hl 0 rfl) ?_
    exact zr_iret zC zK hG dX4_lay_15 (by unfold rC_lay; (repeat' split) <;> first | rfl | omega) (by unfold mC_lay; (repeat' split) <;> first | rfl | (exfalso; omega))

set_option maxHeartbeats 4000000 in
set_option maxRecDepth 100000 in
theorem c_X4_at {Γ : Gm} {zl : Launch} {A : Nat → Prop} {σ : Mm} {r x : Int} (hI : IC σ) (hr : -2147483648 ≤ r ∧ r < 2147483648) (hx : -2147483648 ≤ x ∧ x < 2147483648) : Fn Γ zl A yX4_at cX4_at 4 (some .int) 3 65 [.ref (aL Γ), .int (zI r), .int (zI x)] σ (some (.int (zI (rC_at σ r x)))) (mC_at σ r x) := by
  refine Fn_of (by decide) (Nat.le_of_ble_eq_true rfl) ?_
  intro zp ze zs zm args below meth zc zQ H locs ls zC zK hG hl
  have hl : lv_has ls 4 [(0, .ref (aL Γ)), (1, .int (zI r)), (2, .int (zI x))] := hl
  obtain ⟨hmany, htoday, -⟩ := id hI
  refine lv_aload_n zC.1 zC.2.1 dX4_at_0 rfl (lv_at hl 0 rfl) ?_
  refine lv_iload_n zC.1 zC.2.1 dX4_at_1 rfl (lv_at hl 1 rfl) ?_
  refine lv_iload_n zC.1 zC.2.1 dX4_at_2 rfl (lv_at hl 2 rfl) ?_
  refine zr_callV zC hG (c_X4_refusedPlace (σ := σ) (r := r) (x := x) hI (by first | assumption | omega) (by first | assumption | omega)) mt_X4_refusedPlace wl_X4_77 pL rfl rfl ⟨by decide, by decide⟩ rfl hl.1 rfl (Nat.le_of_ble_eq_true rfl) dX4_at_3 ⟨Nat.zero_le _, Nat.zero_le _⟩ (fun H locs hG => ?_)
  refine W.eq (g2 := F0 zm 6 ls [.int (zI (rfP σ r x))]) rfl ?_
  have b3_0 := rfP_r σ r x
  refine lv_istore_n (lv' := [(3, .int (zI (rfP σ r x))), (0, .ref (aL Γ)), (1, .int (zI r)), (2, .int (zI x))]) zC.1 zC.2.1 dX4_at_6 rfl hl (by decide) rfl (fun ls hl => ?_)
  refine lv_iload_n zC.1 zC.2.1 dX4_at_7 rfl (lv_at hl 0 rfl) ?_
  refine zr_if_eq (tgt := 13) zC dX4_at_8 (by decide) (by omega) (fun c8 => ?_) (fun c8 => ?_)
  · obtain ⟨h1, h2, h3⟩ := rfP_0 c8
    rw [h3] at hG
    have h4 := hI.2.2.1 r (by omega) (by omega)
    refine lv_aload_n zC.1 zC.2.1 dX4_at_13 rfl (lv_at hl 1 rfl) ?_
    refine lv_aload_n zC.1 zC.2.1 dX4_at_14 rfl (lv_at hl 1 rfl) ?_
    refine gf_L_rows zC hG wl_X4_11 dX4_at_15 ?_
    refine lv_iload_n zC.1 zC.2.1 dX4_at_18 rfl (lv_at hl 2 rfl) ?_
    refine gr_Rs zC hG (by omega) dX4_at_19 ?_
    refine gf_Row_places zC hG (by first | assumption | omega) wl_X4_81 dX4_at_20 ?_
    refine lv_iload_n zC.1 zC.2.1 dX4_at_23 rfl (lv_at hl 3 rfl) ?_
    refine gi_Pl (v := σ 3 r x) zC hG (by first | assumption | omega) (by omega) rfl dX4_at_24 ?_
    have f24 := hI.2.2.2.1 r x (by omega) (by omega) (by omega) (by omega)
    refine pf_L_told zC hG wl_X4_49 dX4_at_25 (fun H locs hG => ?_)
    refine zr_iconst zC dX4_at_28 ?_
    exact zr_iret zC zK hG dX4_at_29 (by unfold rC_at; (repeat' split) <;> first | rfl | omega) (by unfold mC_at; (repeat' split) <;> first | rfl | (exfalso; omega))
  · refine lv_iload_n zC.1 zC.2.1 dX4_at_11 rfl (lv_at hl 0 rfl) ?_
    exact zr_iret zC zK hG dX4_at_12 (by unfold rC_at; (repeat' split) <;> first | rfl | omega) (by unfold mC_at; (repeat' split) <;> first | rfl | (exfalso; omega))

set_option maxHeartbeats 4000000 in
set_option maxRecDepth 100000 in
theorem c_X4_tear {Γ : Gm} {zl : Launch} {A : Nat → Prop} {σ : Mm} {r : Int} (hI : IC σ) (hr : -2147483648 ≤ r ∧ r < 2147483648) : Fn Γ zl A yX4_tear cX4_tear 3 (some .int) 2 42 [.ref (aL Γ), .int (zI r)] σ (some (.int (zI (rC_tear σ r)))) (mC_tear σ r) := by
  refine Fn_of (by decide) (Nat.le_of_ble_eq_true rfl) ?_
  intro zp ze zs zm args below meth zc zQ H locs ls zC zK hG hl
  have hl : lv_has ls 3 [(0, .ref (aL Γ)), (1, .int (zI r))] := hl
  obtain ⟨hmany, htoday, -⟩ := id hI
  refine lv_aload_n zC.1 zC.2.1 dX4_tear_0 rfl (lv_at hl 0 rfl) ?_
  refine lv_iload_n zC.1 zC.2.1 dX4_tear_1 rfl (lv_at hl 1 rfl) ?_
  refine zr_callV zC hG (c_X4_refusedRow (σ := σ) (r := r) hI (by first | assumption | omega)) mt_X4_refusedRow wl_X4_84 pL rfl rfl ⟨by decide, by decide⟩ rfl hl.1 rfl (Nat.le_of_ble_eq_true rfl) dX4_tear_2 ⟨Nat.zero_le _, Nat.zero_le _⟩ (fun H locs hG => ?_)
  refine W.eq (g2 := F0 zm 5 ls [.int (zI (rfR σ r))]) rfl ?_
  have b2_0 := rfR_r σ r
  refine lv_istore_n (lv' := [(2, .int (zI (rfR σ r))), (0, .ref (aL Γ)), (1, .int (zI r))]) zC.1 zC.2.1 dX4_tear_5 rfl hl (by decide) rfl (fun ls hl => ?_)
  refine lv_iload_n zC.1 zC.2.1 dX4_tear_6 rfl (lv_at hl 0 rfl) ?_
  refine zr_if_eq (tgt := 12) zC dX4_tear_7 (by decide) (by omega) (fun c7 => ?_) (fun c7 => ?_)
  · obtain ⟨h1, h2, h3⟩ := rfR_0 c7
    rw [h3] at hG
    refine lv_aload_n zC.1 zC.2.1 dX4_tear_12 rfl (lv_at hl 1 rfl) ?_
    refine gf_L_rows zC hG wl_X4_11 dX4_tear_13 ?_
    refine lv_iload_n zC.1 zC.2.1 dX4_tear_16 rfl (lv_at hl 2 rfl) ?_
    refine gr_Rs zC hG (by omega) dX4_tear_17 ?_
    refine zr_iconst zC dX4_tear_18 ?_
    refine pf_Row_size zC hG (by first | assumption | omega) wl_X4_87 dX4_tear_19 (fun H locs hG => ?_)
    refine zr_iconst zC dX4_tear_22 ?_
    exact zr_iret zC zK hG dX4_tear_23 (by unfold rC_tear; (repeat' split) <;> first | rfl | omega) (by unfold mC_tear; (repeat' split) <;> first | rfl | (exfalso; omega))
  · refine lv_iload_n zC.1 zC.2.1 dX4_tear_10 rfl (lv_at hl 0 rfl) ?_
    exact zr_iret zC zK hG dX4_tear_11 (by unfold rC_tear; (repeat' split) <;> first | rfl | omega) (by unfold mC_tear; (repeat' split) <;> first | rfl | (exfalso; omega))

set_option maxHeartbeats 4000000 in
set_option maxRecDepth 100000 in
theorem c_X4_text {Γ : Gm} {zl : Launch} {A : Nat → Prop} {σ : Mm} {t n : Int} (hI : IC σ) (ht : -2147483648 ≤ t ∧ t < 2147483648) (hn : -2147483648 ≤ n ∧ n < 2147483648) : Fn Γ zl A yX4_text cX4_text 3 (some .int) 1 22 [.ref (aL Γ), .int (zI t), .int (zI n)] σ (some (.int (zI (rC_text σ t n)))) (mC_text σ t n) := by
  refine Fn_of (by decide) (Nat.le_of_ble_eq_true rfl) ?_
  intro zp ze zs zm args below meth zc zQ H locs ls zC zK hG hl
  have hl : lv_has ls 3 [(0, .ref (aL Γ)), (1, .int (zI t)), (2, .int (zI n))] := hl
  obtain ⟨hmany, htoday, -⟩ := id hI
  refine lv_iload_n zC.1 zC.2.1 dX4_text_0 rfl (lv_at hl 1 rfl) ?_
  refine zr_callS zC hG (c_X4_isText (σ := σ) (v := t) (by first | assumption | omega)) mt_X4_isText wl_X4_104 ⟨by decide, by decide⟩ rfl hl.1 rfl (Nat.le_of_ble_eq_true rfl) dX4_text_1 ⟨Nat.zero_le _, Nat.zero_le _⟩ (fun H locs hG => ?_)
  refine W.eq (g2 := F0 zm 4 ls [.int (zI (zB (0 ≤ t ∧ t < 4)))]) rfl ?_
  refine zr_ifeqB (tgt := 13) zC dX4_text_4 (by decide) (fun c4 => ?_) (fun c4 => ?_)
  · refine zr_iconst zC dX4_text_13 ?_
    exact zr_iret zC zK hG dX4_text_14 (by unfold rC_text; (repeat' split) <;> first | rfl | omega) (by unfold mC_text; (repeat' split) <;> first | rfl | (exfalso; omega))
  · refine lv_iload_n zC.1 zC.2.1 dX4_text_7 rfl (lv_at hl 2 rfl) ?_
    refine zr_bipush zC dX4_text_8 (by decide +kernel) ?_
    refine zr_icmp_le (tgt := 15) zC dX4_text_10 (by decide) (by omega) (fun c10 => ?_) (fun c10 => ?_)
    · refine lv_iload_n zC.1 zC.2.1 dX4_text_15 rfl (lv_at hl 2 rfl) ?_
      refine zr_if_ge (tgt := 25) zC dX4_text_16 (by decide) (by omega) (fun c16 => ?_) (fun c16 => ?_)
      · refine lv_aload_n zC.1 zC.2.1 dX4_text_25 rfl (lv_at hl 0 rfl) ?_
        refine gf_L_texts zC hG wl_X4_17 dX4_text_26 ?_
        refine lv_iload_n zC.1 zC.2.1 dX4_text_29 rfl (lv_at hl 1 rfl) ?_
        refine gr_Ts zC hG (by omega) dX4_text_30 ?_
        refine lv_iload_n zC.1 zC.2.1 dX4_text_31 rfl (lv_at hl 2 rfl) ?_
        refine zr_callV zC hG (c_X3_renew (σ := σ) (i := t) (n := n) (by first | assumption | omega)) mt_X3_renew wl_X4_107 (pTx (by first | assumption | omega)) rfl rfl ⟨by decide, by decide⟩ rfl hl.1 rfl (Nat.le_of_ble_eq_true rfl) dX4_text_32 ⟨Nat.zero_le _, Nat.zero_le _⟩ (fun H locs hG => ?_)
        refine W.eq (g2 := F0 zm 35 ls []) rfl ?_
        refine lv_iload_n zC.1 zC.2.1 dX4_text_35 rfl (lv_at hl 2 rfl) ?_
        exact zr_iret zC zK hG dX4_text_36 (by unfold rC_text; (repeat' split) <;> first | rfl | omega) (by unfold mC_text; (repeat' split) <;> first | rfl | (exfalso; omega))
      · refine lv_aload_n zC.1 zC.2.1 dX4_text_19 rfl (lv_at hl 0 rfl) ?_
        refine zr_iconst zC dX4_text_20 ?_
        refine zr_callV zC hG (c_X4_found (σ := σ) (f := 5) hI (by first | assumption | omega)) mt_X4_found wl_X4_69 pL rfl rfl ⟨by decide, by decide⟩ rfl hl.1 rfl (Nat.le_of_ble_eq_true rfl) dX4_text_21 ⟨Nat.zero_le _, Nat.zero_le _⟩ (fun H locs hG => ?_)
        refine W.eq (g2 := F0 zm 24 ls [.int (zI (-3))]) rfl ?_
        exact zr_iret zC zK hG dX4_text_24 (by unfold rC_text; (repeat' split) <;> first | rfl | omega) (by unfold mC_text; (repeat' split) <;> first | rfl | (exfalso; omega))
    · refine zr_iconst zC dX4_text_13 ?_
      exact zr_iret zC zK hG dX4_text_14 (by unfold rC_text; (repeat' split) <;> first | rfl | omega) (by unfold mC_text; (repeat' split) <;> first | rfl | (exfalso; omega))

set_option maxHeartbeats 4000000 in
set_option maxRecDepth 100000 in
theorem c_X4_put {Γ : Gm} {zl : Launch} {A : Nat → Prop} {σ : Mm} {t x v : Int} (hI : IC σ) (ht : -2147483648 ≤ t ∧ t < 2147483648) (hx : -2147483648 ≤ x ∧ x < 2147483648) (hv : -2147483648 ≤ v ∧ v < 2147483648) : Fn Γ zl A yX4_put cX4_put 6 (some .int) 2 42 [.ref (aL Γ), .int (zI t), .int (zI x), .int (zI v)] σ (some (.int (zI (rC_put σ t x v)))) (mC_put σ t x v) := by
  refine Fn_of (by decide) (Nat.le_of_ble_eq_true rfl) ?_
  intro zp ze zs zm args below meth zc zQ H locs ls zC zK hG hl
  have hl : lv_has ls 6 [(0, .ref (aL Γ)), (1, .int (zI t)), (2, .int (zI x)), (3, .int (zI v))] := hl
  obtain ⟨hmany, htoday, -⟩ := id hI
  refine lv_aload_n zC.1 zC.2.1 dX4_put_0 rfl (lv_at hl 0 rfl) ?_
  refine lv_iload_n zC.1 zC.2.1 dX4_put_1 rfl (lv_at hl 1 rfl) ?_
  refine zr_callV zC hG (c_X4_refusedText (σ := σ) (t := t) hI (by first | assumption | omega)) mt_X4_refusedText wl_X4_108 pL rfl rfl ⟨by decide, by decide⟩ rfl hl.1 rfl (Nat.le_of_ble_eq_true rfl) dX4_put_2 ⟨Nat.zero_le _, Nat.zero_le _⟩ (fun H locs hG => ?_)
  refine W.eq (g2 := F0 zm 5 ls [.int (zI (rfT σ t))]) rfl ?_
  have b2_0 := rfT_r σ t
  refine lv_istore (lv' := [(4, .int (zI (rfT σ t))), (0, .ref (aL Γ)), (1, .int (zI t)), (2, .int (zI x)), (3, .int (zI v))]) zC.1 zC.2.1 dX4_put_5 hl (by decide) rfl (fun ls hl => ?_)
  refine lv_iload zC.1 zC.2.1 dX4_put_7 (lv_at hl 0 rfl) ?_
  refine zr_if_eq (tgt := 15) zC dX4_put_9 (by decide) (by omega) (fun c9 => ?_) (fun c9 => ?_)
  · obtain ⟨h1, h2, h3⟩ := rfT_0 c9
    rw [h3] at hG
    refine lv_iload_n zC.1 zC.2.1 dX4_put_15 rfl (lv_at hl 3 rfl) ?_
    refine zr_if_lt (tgt := 32) zC dX4_put_16 (by decide) (by omega) (fun c16 => ?_) (fun c16 => ?_)
    · refine lv_aload_n zC.1 zC.2.1 dX4_put_32 rfl (lv_at hl 1 rfl) ?_
      refine zr_iconst zC dX4_put_33 ?_
      refine zr_callV zC hG (c_X4_found (σ := σ) (f := 2) hI (by first | assumption | omega)) mt_X4_found wl_X4_69 pL rfl rfl ⟨by decide, by decide⟩ rfl hl.1 rfl (Nat.le_of_ble_eq_true rfl) dX4_put_34 ⟨Nat.zero_le _, Nat.zero_le _⟩ (fun H locs hG => ?_)
      refine W.eq (g2 := F0 zm 37 ls [.int (zI (-3))]) rfl ?_
      exact zr_iret zC zK hG dX4_put_37 (by unfold rC_put; (repeat' split) <;> first | rfl | omega) (by unfold mC_put; (repeat' split) <;> first | rfl | (exfalso; omega))
    · refine lv_iload_n zC.1 zC.2.1 dX4_put_19 rfl (lv_at hl 3 rfl) ?_
      refine lv_aload_n zC.1 zC.2.1 dX4_put_20 rfl (lv_at hl 1 rfl) ?_
      refine gf_L_texts zC hG wl_X4_17 dX4_put_21 ?_
      refine lv_iload_n zC.1 zC.2.1 dX4_put_24 rfl (lv_at hl 2 rfl) ?_
      refine gr_Ts zC hG (by omega) dX4_put_25 ?_
      refine gf_Tx_size (v := σ 4 t 1) zC hG (by first | assumption | omega) wl_X4_111 rfl dX4_put_26 ?_
      have f26 := hI.2.2.2.2.1 t (by omega) (by omega)
      refine zr_icmp_lt (tgt := 38) zC dX4_put_29 (by decide) (by omega) (fun c29 => ?_) (fun c29 => ?_)
      · refine lv_aload_n zC.1 zC.2.1 dX4_put_38 rfl (lv_at hl 1 rfl) ?_
        refine gf_L_texts zC hG wl_X4_17 dX4_put_39 ?_
        refine lv_iload_n zC.1 zC.2.1 dX4_put_42 rfl (lv_at hl 2 rfl) ?_
        refine gr_Ts zC hG (by omega) dX4_put_43 ?_
        refine gf_Tx_signs zC hG (by first | assumption | omega) wl_X4_112 dX4_put_44 ?_
        refine lv_iload_n zC.1 zC.2.1 dX4_put_47 rfl (lv_at hl 3 rfl) ?_
        refine gi_Sg (v := σ 5 t x) zC hG (by first | assumption | omega) (by omega) rfl dX4_put_48 ?_
        have f48 := hI.2.2.2.2.2.1 t x (by omega) (by omega) (by omega) (by omega)
        refine lv_istore (lv' := [(5, .int (zI (σ 5 t x))), (4, .int (zI (rfT σ t))), (0, .ref (aL Γ)), (1, .int (zI t)), (2, .int (zI x)), (3, .int (zI v))]) zC.1 zC.2.1 dX4_put_49 hl (by decide) rfl (fun ls hl => ?_)
        refine lv_aload_n zC.1 zC.2.1 dX4_put_51 rfl (lv_at hl 2 rfl) ?_
        refine gf_L_texts zC hG wl_X4_17 dX4_put_52 ?_
        refine lv_iload_n zC.1 zC.2.1 dX4_put_55 rfl (lv_at hl 3 rfl) ?_
        refine gr_Ts zC hG (by omega) dX4_put_56 ?_
        refine gf_Tx_signs zC hG (by first | assumption | omega) wl_X4_112 dX4_put_57 ?_
        refine lv_iload_n zC.1 zC.2.1 dX4_put_60 rfl (lv_at hl 4 rfl) ?_
        refine lv_iload_n zC.1 zC.2.1 dX4_put_61 rfl (lv_at hl 5 rfl) ?_
        refine zr_i2b zC dX4_put_62 ?_
        refine pi_Sg zC hG (by first | assumption | omega) (by omega) (z8_rng v) dX4_put_63 (fun H locs hG => ?_)
        refine lv_iload zC.1 zC.2.1 dX4_put_64 (lv_at hl 0 rfl) ?_
        refine zr_sipush zC dX4_put_66 (by decide +kernel) ?_
        refine zr_iadd zC dX4_put_69 ?_
        exact zr_iret zC zK hG dX4_put_70 (by unfold rC_put; (repeat' split) <;> first | rfl | omega) (by unfold mC_put; (repeat' split) <;> first | rfl | (exfalso; omega))
      · refine lv_aload_n zC.1 zC.2.1 dX4_put_32 rfl (lv_at hl 1 rfl) ?_
        refine zr_iconst zC dX4_put_33 ?_
        refine zr_callV zC hG (c_X4_found (σ := σ) (f := 2) hI (by first | assumption | omega)) mt_X4_found wl_X4_69 pL rfl rfl ⟨by decide, by decide⟩ rfl hl.1 rfl (Nat.le_of_ble_eq_true rfl) dX4_put_34 ⟨Nat.zero_le _, Nat.zero_le _⟩ (fun H locs hG => ?_)
        refine W.eq (g2 := F0 zm 37 ls [.int (zI (-3))]) rfl ?_
        exact zr_iret zC zK hG dX4_put_37 (by unfold rC_put; (repeat' split) <;> first | rfl | omega) (by unfold mC_put; (repeat' split) <;> first | rfl | (exfalso; omega))
  · refine lv_iload zC.1 zC.2.1 dX4_put_12 (lv_at hl 0 rfl) ?_
    exact zr_iret zC zK hG dX4_put_14 (by unfold rC_put; (repeat' split) <;> first | rfl | omega) (by unfold mC_put; (repeat' split) <;> first | rfl | (exfalso; omega))

set_option maxHeartbeats 4000000 in
set_option maxRecDepth 100000 in
theorem c_X4_order {Γ : Gm} {zl : Launch} {A : Nat → Prop} {σ : Mm} {c d : Int} (hI : IC σ) (hc : -2147483648 ≤ c ∧ c < 2147483648) (hd : -2147483648 ≤ d ∧ d < 2147483648) : Fn Γ zl A yX4_order cX4_order 4 (some .int) 1 22 [.ref (aL Γ), .int (zI c), .int (zI d)] σ (some (.int (zI (rC_order σ c d)))) (mC_order σ c d) := by
  refine Fn_of (by decide) (Nat.le_of_ble_eq_true rfl) ?_
  intro zp ze zs zm args below meth zc zQ H locs ls zC zK hG hl
  have hl : lv_has ls 4 [(0, .ref (aL Γ)), (1, .int (zI c)), (2, .int (zI d))] := hl
  obtain ⟨hmany, htoday, -⟩ := id hI
  refine lv_aload_n zC.1 zC.2.1 dX4_order_0 rfl (lv_at hl 0 rfl) ?_
  refine lv_iload_n zC.1 zC.2.1 dX4_order_1 rfl (lv_at hl 1 rfl) ?_
  refine zr_callV zC hG (c_X4_isTown (σ := σ) (c := c) hI (by first | assumption | omega)) mt_X4_isTown wl_X4_128 pL rfl rfl ⟨by decide, by decide⟩ rfl hl.1 rfl (Nat.le_of_ble_eq_true rfl) dX4_order_2 ⟨Nat.zero_le _, Nat.zero_le _⟩ (fun H locs hG => ?_)
  refine W.eq (g2 := F0 zm 5 ls [.int (zI (zB (isT σ c)))]) rfl ?_
  refine zr_ifeqB (tgt := 19) zC dX4_order_5 (by decide) (fun c5 => ?_) (fun c5 => ?_)
  · refine zr_iconst zC dX4_order_19 ?_
    exact zr_iret zC zK hG dX4_order_20 (by unfold rC_order; (repeat' split) <;> first | rfl | omega) (by unfold mC_order; (repeat' split) <;> first | rfl | (exfalso; omega))
  · refine lv_iload_n zC.1 zC.2.1 dX4_order_8 rfl (lv_at hl 2 rfl) ?_
    refine zr_iconst zC dX4_order_9 ?_
    refine zr_sipush zC dX4_order_10 (by decide +kernel) ?_
    refine zr_callS zC hG (c_X4_isWithin (σ := σ) (v := d) (a := 0) (b := 9999) (by first | assumption | omega) (by first | assumption | omega) (by first | assumption | omega)) mt_X4_isWithin wl_X4_140 ⟨by decide, by decide⟩ rfl hl.1 rfl (Nat.le_of_ble_eq_true rfl) dX4_order_13 ⟨Nat.zero_le _, Nat.zero_le _⟩ (fun H locs hG => ?_)
    refine W.eq (g2 := F0 zm 16 ls [.int (zI (zB (0 ≤ d ∧ d ≤ 9999)))]) rfl ?_
    refine zr_ifneB (tgt := 21) zC dX4_order_16 (by decide) (fun c16 => ?_) (fun c16 => ?_)
    · refine lv_aload_n zC.1 zC.2.1 dX4_order_21 rfl (lv_at hl 0 rfl) ?_
      refine gf_L_towns zC hG wl_X4_23 dX4_order_22 ?_
      refine lv_iload_n zC.1 zC.2.1 dX4_order_25 rfl (lv_at hl 1 rfl) ?_
      refine gr_To zC hG (by omega) dX4_order_26 ?_
      refine gf_Cal_order (v := σ 6 c 2) zC hG (by first | assumption | omega) wl_X4_144 rfl dX4_order_27 ?_
      obtain ⟨f27a, f27b, f27c, f27d⟩ := hI.2.2.2.2.2.2.1 c (by omega) (by omega)
      refine lv_istore_n (lv' := [(3, .int (zI (σ 6 c 2))), (0, .ref (aL Γ)), (1, .int (zI c)), (2, .int (zI d))]) zC.1 zC.2.1 dX4_order_30 rfl hl (by decide) rfl (fun ls hl => ?_)
      refine lv_aload_n zC.1 zC.2.1 dX4_order_31 rfl (lv_at hl 1 rfl) ?_
      refine gf_L_towns zC hG wl_X4_23 dX4_order_32 ?_
      refine lv_iload_n zC.1 zC.2.1 dX4_order_35 rfl (lv_at hl 2 rfl) ?_
      refine gr_To zC hG (by omega) dX4_order_36 ?_
      refine lv_iload_n zC.1 zC.2.1 dX4_order_37 rfl (lv_at hl 3 rfl) ?_
      refine pf_Cal_order zC hG (by first | assumption | omega) wl_X4_144 dX4_order_38 (fun H locs hG => ?_)
      refine lv_iload_n zC.1 zC.2.1 dX4_order_41 rfl (lv_at hl 0 rfl) ?_
      exact zr_iret zC zK hG dX4_order_42 (by unfold rC_order; (repeat' split) <;> first | rfl | omega) (by unfold mC_order; (repeat' split) <;> first | rfl | (exfalso; omega))
    · refine zr_iconst zC dX4_order_19 ?_
      exact zr_iret zC zK hG dX4_order_20 (by unfold rC_order; (repeat' split) <;> first | rfl | omega) (by unfold mC_order; (repeat' split) <;> first | rfl | (exfalso; omega))

set_option maxHeartbeats 4000000 in
set_option maxRecDepth 100000 in
theorem c_X4_gap {Γ : Gm} {zl : Launch} {A : Nat → Prop} {σ : Mm} {c v : Int} (hI : IC σ) (hc : -2147483648 ≤ c ∧ c < 2147483648) (hv : -2147483648 ≤ v ∧ v < 2147483648) : Fn Γ zl A yX4_gap cX4_gap 4 (some .int) 1 22 [.ref (aL Γ), .int (zI c), .int (zI v)] σ (some (.int (zI (rC_gap σ c v)))) (mC_gap σ c v) := by
  refine Fn_of (by decide) (Nat.le_of_ble_eq_true rfl) ?_
  intro zp ze zs zm args below meth zc zQ H locs ls zC zK hG hl
  have hl : lv_has ls 4 [(0, .ref (aL Γ)), (1, .int (zI c)), (2, .int (zI v))] := hl
  obtain ⟨hmany, htoday, -⟩ := id hI
  refine lv_aload_n zC.1 zC.2.1 dX4_gap_0 rfl (lv_at hl 0 rfl) ?_
  refine lv_iload_n zC.1 zC.2.1 dX4_gap_1 rfl (lv_at hl 1 rfl) ?_
  refine zr_callV zC hG (c_X4_isTown (σ := σ) (c := c) hI (by first | assumption | omega)) mt_X4_isTown wl_X4_128 pL rfl rfl ⟨by decide, by decide⟩ rfl hl.1 rfl (Nat.le_of_ble_eq_true rfl) dX4_gap_2 ⟨Nat.zero_le _, Nat.zero_le _⟩ (fun H locs hG => ?_)
  refine W.eq (g2 := F0 zm 5 ls [.int (zI (zB (isT σ c)))]) rfl ?_
  refine zr_ifeqB (tgt := 18) zC dX4_gap_5 (by decide) (fun c5 => ?_) (fun c5 => ?_)
  · refine zr_iconst zC dX4_gap_18 ?_
    exact zr_iret zC zK hG dX4_gap_19 (by unfold rC_gap; (repeat' split) <;> first | rfl | omega) (by unfold mC_gap; (repeat' split) <;> first | rfl | (exfalso; omega))
  · refine lv_iload_n zC.1 zC.2.1 dX4_gap_8 rfl (lv_at hl 2 rfl) ?_
    refine zr_iconst zC dX4_gap_9 ?_
    refine zr_bipush zC dX4_gap_10 (by decide +kernel) ?_
    refine zr_callS zC hG (c_X4_isWithin (σ := σ) (v := v) (a := 0) (b := 9) (by first | assumption | omega) (by first | assumption | omega) (by first | assumption | omega)) mt_X4_isWithin wl_X4_140 ⟨by decide, by decide⟩ rfl hl.1 rfl (Nat.le_of_ble_eq_true rfl) dX4_gap_12 ⟨Nat.zero_le _, Nat.zero_le _⟩ (fun H locs hG => ?_)
    refine W.eq (g2 := F0 zm 15 ls [.int (zI (zB (0 ≤ v ∧ v ≤ 9)))]) rfl ?_
    refine zr_ifneB (tgt := 20) zC dX4_gap_15 (by decide) (fun c15 => ?_) (fun c15 => ?_)
    · refine lv_aload_n zC.1 zC.2.1 dX4_gap_20 rfl (lv_at hl 0 rfl) ?_
      refine gf_L_towns zC hG wl_X4_23 dX4_gap_21 ?_
      refine lv_iload_n zC.1 zC.2.1 dX4_gap_24 rfl (lv_at hl 1 rfl) ?_
      refine gr_To zC hG (by omega) dX4_gap_25 ?_
      refine gf_Cal_gap (v := σ 6 c 3) zC hG (by first | assumption | omega) wl_X4_147 rfl dX4_gap_26 ?_
      obtain ⟨f26a, f26b, f26c, f26d⟩ := hI.2.2.2.2.2.2.1 c (by omega) (by omega)
      refine lv_istore_n (lv' := [(3, .int (zI (σ 6 c 3))), (0, .ref (aL Γ)), (1, .int (zI c)), (2, .int (zI v))]) zC.1 zC.2.1 dX4_gap_29 rfl hl (by decide) rfl (fun ls hl => ?_)
      refine lv_aload_n zC.1 zC.2.1 dX4_gap_30 rfl (lv_at hl 1 rfl) ?_
      refine gf_L_towns zC hG wl_X4_23 dX4_gap_31 ?_
      refine lv_iload_n zC.1 zC.2.1 dX4_gap_34 rfl (lv_at hl 2 rfl) ?_
      refine gr_To zC hG (by omega) dX4_gap_35 ?_
      refine lv_iload_n zC.1 zC.2.1 dX4_gap_36 rfl (lv_at hl 3 rfl) ?_
      refine pf_Cal_gap zC hG (by first | assumption | omega) wl_X4_147 dX4_gap_37 (fun H locs hG => ?_)
      refine lv_iload_n zC.1 zC.2.1 dX4_gap_40 rfl (lv_at hl 0 rfl) ?_
      exact zr_iret zC zK hG dX4_gap_41 (by unfold rC_gap; (repeat' split) <;> first | rfl | omega) (by unfold mC_gap; (repeat' split) <;> first | rfl | (exfalso; omega))
    · refine zr_iconst zC dX4_gap_18 ?_
      exact zr_iret zC zK hG dX4_gap_19 (by unfold rC_gap; (repeat' split) <;> first | rfl | omega) (by unfold mC_gap; (repeat' split) <;> first | rfl | (exfalso; omega))

set_option maxHeartbeats 4000000 in
set_option maxRecDepth 100000 in
theorem c_X4_leap {Γ : Gm} {zl : Launch} {A : Nat → Prop} {σ : Mm} {c v : Int} (hI : IC σ) (hc : -2147483648 ≤ c ∧ c < 2147483648) (hv : -2147483648 ≤ v ∧ v < 2147483648) : Fn Γ zl A yX4_leap cX4_leap 4 (some .int) 1 21 [.ref (aL Γ), .int (zI c), .int (zI v)] σ (some (.int (zI (rC_leap σ c v)))) (mC_leap σ c v) := by
  refine Fn_of (by decide) (Nat.le_of_ble_eq_true rfl) ?_
  intro zp ze zs zm args below meth zc zQ H locs ls zC zK hG hl
  have hl : lv_has ls 4 [(0, .ref (aL Γ)), (1, .int (zI c)), (2, .int (zI v))] := hl
  obtain ⟨hmany, htoday, -⟩ := id hI
  refine lv_aload_n zC.1 zC.2.1 dX4_leap_0 rfl (lv_at hl 0 rfl) ?_
  refine lv_iload_n zC.1 zC.2.1 dX4_leap_1 rfl (lv_at hl 1 rfl) ?_
  refine zr_callV zC hG (c_X4_isTown (σ := σ) (c := c) hI (by first | assumption | omega)) mt_X4_isTown wl_X4_128 pL rfl rfl ⟨by decide, by decide⟩ rfl hl.1 rfl (Nat.le_of_ble_eq_true rfl) dX4_leap_2 ⟨Nat.zero_le _, Nat.zero_le _⟩ (fun H locs hG => ?_)
  refine W.eq (g2 := F0 zm 5 ls [.int (zI (zB (isT σ c)))]) rfl ?_
  refine zr_ifeqB (tgt := 15) zC dX4_leap_5 (by decide) (fun c5 => ?_) (fun c5 => ?_)
  · refine zr_iconst zC dX4_leap_15 ?_
    exact zr_iret zC zK hG dX4_leap_16 (by unfold rC_leap; (repeat' split) <;> first | rfl | omega) (by unfold mC_leap; (repeat' split) <;> first | rfl | (exfalso; omega))
  · refine lv_iload_n zC.1 zC.2.1 dX4_leap_8 rfl (lv_at hl 2 rfl) ?_
    refine zr_callS zC hG (c_X4_isLeap (σ := σ) (v := v) (by first | assumption | omega)) mt_X4_isLeap wl_X4_150 ⟨by decide, by decide⟩ rfl hl.1 rfl (Nat.le_of_ble_eq_true rfl) dX4_leap_9 ⟨Nat.zero_le _, Nat.zero_le _⟩ (fun H locs hG => ?_)
    refine W.eq (g2 := F0 zm 12 ls [.int (zI (zB (2 ≤ v ∧ v ≤ 9)))]) rfl ?_
    refine zr_ifneB (tgt := 17) zC dX4_leap_12 (by decide) (fun c12 => ?_) (fun c12 => ?_)
    · refine lv_aload_n zC.1 zC.2.1 dX4_leap_17 rfl (lv_at hl 0 rfl) ?_
      refine gf_L_towns zC hG wl_X4_23 dX4_leap_18 ?_
      refine lv_iload_n zC.1 zC.2.1 dX4_leap_21 rfl (lv_at hl 1 rfl) ?_
      refine gr_To zC hG (by omega) dX4_leap_22 ?_
      refine gf_Cal_leap (v := σ 6 c 1) zC hG (by first | assumption | omega) wl_X4_153 rfl dX4_leap_23 ?_
      obtain ⟨f23a, f23b, f23c, f23d⟩ := hI.2.2.2.2.2.2.1 c (by omega) (by omega)
      refine lv_istore_n (lv' := [(3, .int (zI (σ 6 c 1))), (0, .ref (aL Γ)), (1, .int (zI c)), (2, .int (zI v))]) zC.1 zC.2.1 dX4_leap_26 rfl hl (by decide) rfl (fun ls hl => ?_)
      refine lv_aload_n zC.1 zC.2.1 dX4_leap_27 rfl (lv_at hl 1 rfl) ?_
      refine gf_L_towns zC hG wl_X4_23 dX4_leap_28 ?_
      refine lv_iload_n zC.1 zC.2.1 dX4_leap_31 rfl (lv_at hl 2 rfl) ?_
      refine gr_To zC hG (by omega) dX4_leap_32 ?_
      refine lv_iload_n zC.1 zC.2.1 dX4_leap_33 rfl (lv_at hl 3 rfl) ?_
      refine pf_Cal_leap zC hG (by first | assumption | omega) wl_X4_153 dX4_leap_34 (fun H locs hG => ?_)
      refine lv_iload_n zC.1 zC.2.1 dX4_leap_37 rfl (lv_at hl 0 rfl) ?_
      exact zr_iret zC zK hG dX4_leap_38 (by unfold rC_leap; (repeat' split) <;> first | rfl | omega) (by unfold mC_leap; (repeat' split) <;> first | rfl | (exfalso; omega))
    · refine zr_iconst zC dX4_leap_15 ?_
      exact zr_iret zC zK hG dX4_leap_16 (by unfold rC_leap; (repeat' split) <;> first | rfl | omega) (by unfold mC_leap; (repeat' split) <;> first | rfl | (exfalso; omega))

set_option maxHeartbeats 4000000 in
set_option maxRecDepth 100000 in
theorem c_X4_go {Γ : Gm} {zl : Launch} {A : Nat → Prop} {σ : Mm} {n : Int} (hI : IC σ) (hn : -2147483648 ≤ n ∧ n < 2147483648) : Fn Γ zl A yX4_go cX4_go 2 (some .int) 1 22 [.ref (aL Γ), .int (zI n)] σ (some (.int (zI (rC_go σ n)))) (mC_go σ n) := by
  refine Fn_of (by decide) (Nat.le_of_ble_eq_true rfl) ?_
  intro zp ze zs zm args below meth zc zQ H locs ls zC zK hG hl
  have hl : lv_has ls 2 [(0, .ref (aL Γ)), (1, .int (zI n))] := hl
  obtain ⟨hmany, htoday, -⟩ := id hI
  refine lv_iload_n zC.1 zC.2.1 dX4_go_0 rfl (lv_at hl 1 rfl) ?_
  refine zr_iconst zC dX4_go_1 ?_
  refine zr_sipush zC dX4_go_2 (by decide +kernel) ?_
  refine zr_callS zC hG (c_X4_isWithin (σ := σ) (v := n) (a := 0) (b := 9999) (by first | assumption | omega) (by first | assumption | omega) (by first | assumption | omega)) mt_X4_isWithin wl_X4_140 ⟨by decide, by decide⟩ rfl hl.1 rfl (Nat.le_of_ble_eq_true rfl) dX4_go_5 ⟨Nat.zero_le _, Nat.zero_le _⟩ (fun H locs hG => ?_)
  refine W.eq (g2 := F0 zm 8 ls [.int (zI (zB (0 ≤ n ∧ n ≤ 9999)))]) rfl ?_
  refine zr_ifneB (tgt := 13) zC dX4_go_8 (by decide) (fun c8 => ?_) (fun c8 => ?_)
  · refine lv_aload_n zC.1 zC.2.1 dX4_go_13 rfl (lv_at hl 0 rfl) ?_
    refine gf_L_townCount (v := σ 0 0 6) zC hG wl_X4_42 rfl dX4_go_14 ?_
    refine zr_if_ne (tgt := 23) zC dX4_go_17 (by decide) (by omega) (fun c17 => ?_) (fun c17 => ?_)
    · refine lv_aload_n zC.1 zC.2.1 dX4_go_23 rfl (lv_at hl 0 rfl) ?_
      refine gf_L_today (v := σ 0 0 7) zC hG wl_X4_46 rfl dX4_go_24 ?_
      refine lv_iload_n zC.1 zC.2.1 dX4_go_27 rfl (lv_at hl 1 rfl) ?_
      refine zr_iadd zC dX4_go_28 ?_
      refine zr_sipush zC dX4_go_29 (by decide +kernel) ?_
      refine zr_icmp_le (tgt := 38) zC dX4_go_32 (by decide) (by omega) (fun c32 => ?_) (fun c32 => ?_)
      · refine lv_aload_n zC.1 zC.2.1 dX4_go_38 rfl (lv_at hl 0 rfl) ?_
        refine lv_dup zC.1 zC.2.1 dX4_go_39 rfl ?_
        refine gf_L_today (v := σ 0 0 7) zC hG wl_X4_46 rfl dX4_go_40 ?_
        refine lv_iload_n zC.1 zC.2.1 dX4_go_43 rfl (lv_at hl 1 rfl) ?_
        refine zr_iadd zC dX4_go_44 ?_
        refine pf_L_today zC hG wl_X4_46 dX4_go_45 (fun H locs hG => ?_)
        refine lv_aload_n zC.1 zC.2.1 dX4_go_48 rfl (lv_at hl 0 rfl) ?_
        refine gf_L_today (v := ((σ 0 0 7) + n)) zC hG wl_X4_46 (by first | rfl | simp [up]) dX4_go_49 ?_
        exact zr_iret zC zK hG dX4_go_52 (by unfold rC_go; (repeat' split) <;> first | rfl | omega) (by unfold mC_go; (repeat' split) <;> first | rfl | (exfalso; omega))
      · refine zr_bipush zC dX4_go_35 (by decide +kernel) ?_
        exact zr_iret zC zK hG dX4_go_37 (by unfold rC_go; (repeat' split) <;> first | rfl | omega) (by unfold mC_go; (repeat' split) <;> first | rfl | (exfalso; omega))
    · refine zr_bipush zC dX4_go_20 (by decide +kernel) ?_
      exact zr_iret zC zK hG dX4_go_22 (by unfold rC_go; (repeat' split) <;> first | rfl | omega) (by unfold mC_go; (repeat' split) <;> first | rfl | (exfalso; omega))
  · refine zr_iconst zC dX4_go_11 ?_
    exact zr_iret zC zK hG dX4_go_12 (by unfold rC_go; (repeat' split) <;> first | rfl | omega) (by unfold mC_go; (repeat' split) <;> first | rfl | (exfalso; omega))

set_option maxHeartbeats 4000000 in
set_option maxRecDepth 100000 in
theorem c_X4_back {Γ : Gm} {zl : Launch} {A : Nat → Prop} {σ : Mm} {n : Int} (hI : IC σ) (hn : -2147483648 ≤ n ∧ n < 2147483648) : Fn Γ zl A yX4_back cX4_back 2 (some .int) 1 22 [.ref (aL Γ), .int (zI n)] σ (some (.int (zI (rC_back σ n)))) (mC_back σ n) := by
  refine Fn_of (by decide) (Nat.le_of_ble_eq_true rfl) ?_
  intro zp ze zs zm args below meth zc zQ H locs ls zC zK hG hl
  have hl : lv_has ls 2 [(0, .ref (aL Γ)), (1, .int (zI n))] := hl
  obtain ⟨hmany, htoday, -⟩ := id hI
  refine lv_iload_n zC.1 zC.2.1 dX4_back_0 rfl (lv_at hl 1 rfl) ?_
  refine zr_iconst zC dX4_back_1 ?_
  refine lv_aload_n zC.1 zC.2.1 dX4_back_2 rfl (lv_at hl 0 rfl) ?_
  refine gf_L_today (v := σ 0 0 7) zC hG wl_X4_46 rfl dX4_back_3 ?_
  refine zr_callS zC hG (c_X4_isWithin (σ := σ) (v := n) (a := 0) (b := σ 0 0 7) (by first | assumption | omega) (by first | assumption | omega) (by first | assumption | omega)) mt_X4_isWithin wl_X4_140 ⟨by decide, by decide⟩ rfl hl.1 rfl (Nat.le_of_ble_eq_true rfl) dX4_back_6 ⟨Nat.zero_le _, Nat.zero_le _⟩ (fun H locs hG => ?_)
  refine W.eq (g2 := F0 zm 9 ls [.int (zI (zB (0 ≤ n ∧ n ≤ (σ 0 0 7))))]) rfl ?_
  refine zr_ifneB (tgt := 14) zC dX4_back_9 (by decide) (fun c9 => ?_) (fun c9 => ?_)
  · refine lv_aload_n zC.1 zC.2.1 dX4_back_14 rfl (lv_at hl 0 rfl) ?_
    refine lv_dup zC.1 zC.2.1 dX4_back_15 rfl ?_
    refine gf_L_today (v := σ 0 0 7) zC hG wl_X4_46 rfl dX4_back_16 ?_
    refine lv_iload_n zC.1 zC.2.1 dX4_back_19 rfl (lv_at hl 1 rfl) ?_
    refine zr_isub zC dX4_back_20 ?_
    refine pf_L_today zC hG wl_X4_46 dX4_back_21 (fun H locs hG => ?_)
    refine lv_aload_n zC.1 zC.2.1 dX4_back_24 rfl (lv_at hl 0 rfl) ?_
    refine gf_L_today (v := ((σ 0 0 7) - n)) zC hG wl_X4_46 (by first | rfl | simp [up]) dX4_back_25 ?_
    exact zr_iret zC zK hG dX4_back_28 (by unfold rC_back; (repeat' split) <;> first | rfl | omega) (by unfold mC_back; (repeat' split) <;> first | rfl | (exfalso; omega))
  · refine zr_iconst zC dX4_back_12 ?_
    exact zr_iret zC zK hG dX4_back_13 (by unfold rC_back; (repeat' split) <;> first | rfl | omega) (by unfold mC_back; (repeat' split) <;> first | rfl | (exfalso; omega))

set_option maxHeartbeats 4000000 in
set_option maxRecDepth 100000 in
theorem c_X4_keep {Γ : Gm} {zl : Launch} {A : Nat → Prop} {σ : Mm} {k : Int} (hI : IC σ) (hk : -2147483648 ≤ k ∧ k < 2147483648) : Fn Γ zl A yX4_keep cX4_keep 2 (some .int) 1 23 [.ref (aL Γ), .int (zI k)] σ (some (.int (zI (rC_keep σ k)))) (mC_keep σ k) := by
  refine Fn_of (by decide) (Nat.le_of_ble_eq_true rfl) ?_
  intro zp ze zs zm args below meth zc zQ H locs ls zC zK hG hl
  have hl : lv_has ls 2 [(0, .ref (aL Γ)), (1, .int (zI k))] := hl
  obtain ⟨hmany, htoday, -⟩ := id hI
  refine lv_iload_n zC.1 zC.2.1 dX4_keep_0 rfl (lv_at hl 1 rfl) ?_
  refine zr_callS zC hG (c_X4_isPlaceToKeep (σ := σ) (v := k) (by first | assumption | omega)) mt_X4_isPlaceToKeep wl_X4_156 ⟨by decide, by decide⟩ rfl hl.1 rfl (Nat.le_of_ble_eq_true rfl) dX4_keep_1 ⟨Nat.zero_le _, Nat.zero_le _⟩ (fun H locs hG => ?_)
  refine W.eq (g2 := F0 zm 4 ls [.int (zI (zB (0 ≤ k ∧ k < 3)))]) rfl ?_
  refine zr_ifneB (tgt := 9) zC dX4_keep_4 (by decide) (fun c4 => ?_) (fun c4 => ?_)
  · refine lv_aload_n zC.1 zC.2.1 dX4_keep_9 rfl (lv_at hl 0 rfl) ?_
    refine gf_L_townCount (v := σ 0 0 6) zC hG wl_X4_42 rfl dX4_keep_10 ?_
    refine zr_if_ne (tgt := 19) zC dX4_keep_13 (by decide) (by omega) (fun c13 => ?_) (fun c13 => ?_)
    · refine lv_aload_n zC.1 zC.2.1 dX4_keep_19 rfl (lv_at hl 0 rfl) ?_
      refine gf_L_kept zC hG wl_X4_29 dX4_keep_20 ?_
      refine lv_iload_n zC.1 zC.2.1 dX4_keep_23 rfl (lv_at hl 1 rfl) ?_
      refine gr_Ks zC hG (by omega) dX4_keep_24 ?_
      refine lv_aload_n zC.1 zC.2.1 dX4_keep_25 rfl (lv_at hl 0 rfl) ?_
      refine gf_L_towns zC hG wl_X4_23 dX4_keep_26 ?_
      refine lv_aload_n zC.1 zC.2.1 dX4_keep_29 rfl (lv_at hl 0 rfl) ?_
      refine gf_L_today (v := σ 0 0 7) zC hG wl_X4_46 rfl dX4_keep_30 ?_
      refine zr_callV zC hG (c_X1_take (σ := σ) (i := k) (td := σ 0 0 7) (by first | assumption | omega)) mt_X1_take wl_X4_159 (pKp (by first | assumption | omega)) rfl rfl ⟨by decide, by decide⟩ rfl hl.1 rfl (Nat.le_of_ble_eq_true rfl) dX4_keep_33 ⟨Nat.zero_le _, Nat.zero_le _⟩ (fun H locs hG => ?_)
      refine W.eq (g2 := F0 zm 36 ls []) rfl ?_
      refine lv_aload_n zC.1 zC.2.1 dX4_keep_36 rfl (lv_at hl 0 rfl) ?_
      refine gf_L_today (v := σ 0 0 7) zC hG wl_X4_46 (by first | rfl | simp [up]) dX4_keep_37 ?_
      exact zr_iret zC zK hG dX4_keep_40 (by unfold rC_keep; (repeat' split) <;> first | rfl | omega) (by unfold mC_keep; (repeat' split) <;> first | rfl | (exfalso; omega))
    · refine zr_bipush zC dX4_keep_16 (by decide +kernel) ?_
      exact zr_iret zC zK hG dX4_keep_18 (by unfold rC_keep; (repeat' split) <;> first | rfl | omega) (by unfold mC_keep; (repeat' split) <;> first | rfl | (exfalso; omega))
  · refine zr_iconst zC dX4_keep_7 ?_
    exact zr_iret zC zK hG dX4_keep_8 (by unfold rC_keep; (repeat' split) <;> first | rfl | omega) (by unfold mC_keep; (repeat' split) <;> first | rfl | (exfalso; omega))

set_option maxHeartbeats 4000000 in
set_option maxRecDepth 100000 in
theorem c_X4_on {Γ : Gm} {zl : Launch} {A : Nat → Prop} {σ : Mm} {k : Int} (hI : IC σ) (hk : -2147483648 ≤ k ∧ k < 2147483648) : Fn Γ zl A yX4_on cX4_on 2 (some .int) 1 22 [.ref (aL Γ), .int (zI k)] σ (some (.int (zI (rC_on σ k)))) (mC_on σ k) := by
  refine Fn_of (by decide) (Nat.le_of_ble_eq_true rfl) ?_
  intro zp ze zs zm args below meth zc zQ H locs ls zC zK hG hl
  have hl : lv_has ls 2 [(0, .ref (aL Γ)), (1, .int (zI k))] := hl
  obtain ⟨hmany, htoday, -⟩ := id hI
  refine lv_iload_n zC.1 zC.2.1 dX4_on_0 rfl (lv_at hl 1 rfl) ?_
  refine zr_callS zC hG (c_X4_isPlaceToKeep (σ := σ) (v := k) (by first | assumption | omega)) mt_X4_isPlaceToKeep wl_X4_156 ⟨by decide, by decide⟩ rfl hl.1 rfl (Nat.le_of_ble_eq_true rfl) dX4_on_1 ⟨Nat.zero_le _, Nat.zero_le _⟩ (fun H locs hG => ?_)
  refine W.eq (g2 := F0 zm 4 ls [.int (zI (zB (0 ≤ k ∧ k < 3)))]) rfl ?_
  refine zr_ifneB (tgt := 9) zC dX4_on_4 (by decide) (fun c4 => ?_) (fun c4 => ?_)
  · refine lv_aload_n zC.1 zC.2.1 dX4_on_9 rfl (lv_at hl 0 rfl) ?_
    refine gf_L_kept zC hG wl_X4_29 dX4_on_10 ?_
    refine lv_iload_n zC.1 zC.2.1 dX4_on_13 rfl (lv_at hl 1 rfl) ?_
    refine gr_Ks zC hG (by omega) dX4_on_14 ?_
    refine gf_Kp_isThere (v := σ 7 k 3) zC hG (by first | assumption | omega) wl_X4_124 rfl dX4_on_15 ?_
    have f15 := hI.2.2.2.2.2.2.2 k (by omega) (by omega)
    refine zr_if_ne (tgt := 27) zC dX4_on_18 (by decide) (by omega) (fun c18 => ?_) (fun c18 => ?_)
    · refine lv_aload_n zC.1 zC.2.1 dX4_on_27 rfl (lv_at hl 0 rfl) ?_
      refine gf_L_kept zC hG wl_X4_29 dX4_on_28 ?_
      refine lv_iload_n zC.1 zC.2.1 dX4_on_31 rfl (lv_at hl 1 rfl) ?_
      refine gr_Ks zC hG (by omega) dX4_on_32 ?_
      refine lv_aload_n zC.1 zC.2.1 dX4_on_33 rfl (lv_at hl 0 rfl) ?_
      refine gf_L_towns zC hG wl_X4_23 dX4_on_34 ?_
      refine zr_callV zC hG (c_X1_giveBack (σ := σ) (i := k) (by first | assumption | omega)) mt_X1_giveBack wl_X4_163 (pKp (by first | assumption | omega)) rfl rfl ⟨by decide, by decide⟩ rfl hl.1 rfl (Nat.le_of_ble_eq_true rfl) dX4_on_37 ⟨Nat.zero_le _, Nat.zero_le _⟩ (fun H locs hG => ?_)
      refine W.eq (g2 := F0 zm 40 ls []) rfl ?_
      refine lv_aload_n zC.1 zC.2.1 dX4_on_40 rfl (lv_at hl 0 rfl) ?_
      refine lv_aload_n zC.1 zC.2.1 dX4_on_41 rfl (lv_at hl 0 rfl) ?_
      refine gf_L_kept zC hG wl_X4_29 dX4_on_42 ?_
      refine lv_iload_n zC.1 zC.2.1 dX4_on_45 rfl (lv_at hl 1 rfl) ?_
      refine gr_Ks zC hG (by omega) dX4_on_46 ?_
      refine gf_Kp_today (v := σ 7 k 4) zC hG (by first | assumption | omega) wl_X4_167 (by first | rfl | simp [up]) dX4_on_47 ?_
      have f47 := hI.2.2.2.2.2.2.2 k (by omega) (by omega)
      refine pf_L_today zC hG wl_X4_46 dX4_on_50 (fun H locs hG => ?_)
      refine lv_aload_n zC.1 zC.2.1 dX4_on_53 rfl (lv_at hl 0 rfl) ?_
      refine gf_L_today (v := (σ 7 k 4)) zC hG wl_X4_46 (by first | rfl | simp [up]) dX4_on_54 ?_
      exact zr_iret zC zK hG dX4_on_57 (by unfold rC_on; (repeat' split) <;> first | rfl | omega) (by unfold mC_on; (repeat' split) <;> first | rfl | (exfalso; omega))
    · refine lv_aload_n zC.1 zC.2.1 dX4_on_21 rfl (lv_at hl 0 rfl) ?_
      refine zr_iconst zC dX4_on_22 ?_
      refine zr_callV zC hG (c_X4_found (σ := σ) (f := 1) hI (by first | assumption | omega)) mt_X4_found wl_X4_69 pL rfl rfl ⟨by decide, by decide⟩ rfl hl.1 rfl (Nat.le_of_ble_eq_true rfl) dX4_on_23 ⟨Nat.zero_le _, Nat.zero_le _⟩ (fun H locs hG => ?_)
      refine W.eq (g2 := F0 zm 26 ls [.int (zI (-3))]) rfl ?_
      exact zr_iret zC zK hG dX4_on_26 (by unfold rC_on; (repeat' split) <;> first | rfl | omega) (by unfold mC_on; (repeat' split) <;> first | rfl | (exfalso; omega))
  · refine zr_iconst zC dX4_on_7 ?_
    exact zr_iret zC zK hG dX4_on_8 (by unfold rC_on; (repeat' split) <;> first | rfl | omega) (by unfold mC_on; (repeat' split) <;> first | rfl | (exfalso; omega))

set_option maxHeartbeats 4000000 in
set_option maxRecDepth 100000 in
theorem c_X4_date {Γ : Gm} {zl : Launch} {A : Nat → Prop} {σ : Mm} {c d : Int} (hI : IC σ) (hc : -2147483648 ≤ c ∧ c < 2147483648) (hd : -2147483648 ≤ d ∧ d < 2147483648) : Fn Γ zl A yX4_date cX4_date 3 (some .int) 4 86 [.ref (aL Γ), .int (zI c), .int (zI d)] σ (some (.int (zI (rC_date σ c d)))) σ := by
  refine Fn_of (by decide) (Nat.le_of_ble_eq_true rfl) ?_
  intro zp ze zs zm args below meth zc zQ H locs ls zC zK hG hl
  have hl : lv_has ls 3 [(0, .ref (aL Γ)), (1, .int (zI c)), (2, .int (zI d))] := hl
  obtain ⟨hmany, htoday, -⟩ := id hI
  refine lv_aload_n zC.1 zC.2.1 dX4_date_0 rfl (lv_at hl 0 rfl) ?_
  refine lv_iload_n zC.1 zC.2.1 dX4_date_1 rfl (lv_at hl 1 rfl) ?_
  refine zr_callV zC hG (c_X4_isTown (σ := σ) (c := c) hI (by first | assumption | omega)) mt_X4_isTown wl_X4_128 pL rfl rfl ⟨by decide, by decide⟩ rfl hl.1 rfl (Nat.le_of_ble_eq_true rfl) dX4_date_2 ⟨Nat.zero_le _, Nat.zero_le _⟩ (fun H locs hG => ?_)
  refine W.eq (g2 := F0 zm 5 ls [.int (zI (zB (isT σ c)))]) rfl ?_
  refine zr_ifeqB (tgt := 28) zC dX4_date_5 (by decide) (fun c5 => ?_) (fun c5 => ?_)
  · refine zr_iconst zC dX4_date_28 ?_
    exact zr_iret zC zK hG dX4_date_29 (by unfold rC_date; (repeat' split) <;> first | rfl | omega) rfl
  · refine lv_iload_n zC.1 zC.2.1 dX4_date_8 rfl (lv_at hl 2 rfl) ?_
    refine zr_callS zC hG (c_X4_isDay (σ := σ) (v := d) (by first | assumption | omega)) mt_X4_isDay wl_X4_168 ⟨by decide, by decide⟩ rfl hl.1 rfl (Nat.le_of_ble_eq_true rfl) dX4_date_9 ⟨Nat.zero_le _, Nat.zero_le _⟩ (fun H locs hG => ?_)
    refine W.eq (g2 := F0 zm 12 ls [.int (zI (zB (0 ≤ d ∧ d ≤ 19999)))]) rfl ?_
    refine zr_ifeqB (tgt := 28) zC dX4_date_12 (by decide) (fun c12 => ?_) (fun c12 => ?_)
    · refine zr_iconst zC dX4_date_28 ?_
      exact zr_iret zC zK hG dX4_date_29 (by unfold rC_date; (repeat' split) <;> first | rfl | omega) rfl
    · refine lv_aload_n zC.1 zC.2.1 dX4_date_15 rfl (lv_at hl 0 rfl) ?_
      refine gf_L_towns zC hG wl_X4_23 dX4_date_16 ?_
      refine lv_iload_n zC.1 zC.2.1 dX4_date_19 rfl (lv_at hl 1 rfl) ?_
      refine gr_To zC hG (by omega) dX4_date_20 ?_
      refine lv_iload_n zC.1 zC.2.1 dX4_date_21 rfl (lv_at hl 2 rfl) ?_
      have k22 := hI.2.2.2.2.2.2.1 c (by omega) (by omega)
      obtain ⟨k22a, k22b, k22c, k22d⟩ := id k22
      refine zr_callV zC hG (c_X0_dateOn (σ := σ) (i := c) (d := d) (by first | assumption | omega) k22 (by first | assumption | omega)) mt_X0_dateOn wl_X4_171 (pCal (by first | assumption | omega)) rfl rfl ⟨by decide, by decide⟩ rfl hl.1 rfl (Nat.le_of_ble_eq_true rfl) dX4_date_22 ⟨Nat.zero_le _, Nat.zero_le _⟩ (fun H locs hG => ?_)
      refine W.eq (g2 := F0 zm 25 ls [.int (zI (dtD (σ 6 c 0) (σ 6 c 1) (σ 6 c 2) (σ 6 c 3) d))]) rfl ?_
      have b22_0 := dtD_r (k := (σ 6 c 0)) (lp := (σ 6 c 1)) (o := (σ 6 c 2)) (g := (σ 6 c 3)) (d := d) (by omega) (by omega) (by omega)
      refine lv_goto (tgt := 29) zC.1 zC.2.1 dX4_date_25 (by decide) ?_
      exact zr_iret zC zK hG dX4_date_29 (by unfold rC_date; (repeat' split) <;> first | rfl | omega) rfl

set_option maxHeartbeats 4000000 in
set_option maxRecDepth 100000 in
theorem c_X4_day {Γ : Gm} {zl : Launch} {A : Nat → Prop} {σ : Mm} {c t : Int} (hI : IC σ) (hc : -2147483648 ≤ c ∧ c < 2147483648) (ht : -2147483648 ≤ t ∧ t < 2147483648) : Fn Γ zl A yX4_day cX4_day 4 (some .int) 4 88 [.ref (aL Γ), .int (zI c), .int (zI t)] σ (some (.int (zI (rC_day σ c t)))) (mC_day σ c t) := by
  refine Fn_of (by decide) (Nat.le_of_ble_eq_true rfl) ?_
  intro zp ze zs zm args below meth zc zQ H locs ls zC zK hG hl
  have hl : lv_has ls 4 [(0, .ref (aL Γ)), (1, .int (zI c)), (2, .int (zI t))] := hl
  obtain ⟨hmany, htoday, -⟩ := id hI
  refine lv_aload_n zC.1 zC.2.1 dX4_day_0 rfl (lv_at hl 0 rfl) ?_
  refine lv_iload_n zC.1 zC.2.1 dX4_day_1 rfl (lv_at hl 1 rfl) ?_
  refine zr_callV zC hG (c_X4_isTown (σ := σ) (c := c) hI (by first | assumption | omega)) mt_X4_isTown wl_X4_128 pL rfl rfl ⟨by decide, by decide⟩ rfl hl.1 rfl (Nat.le_of_ble_eq_true rfl) dX4_day_2 ⟨Nat.zero_le _, Nat.zero_le _⟩ (fun H locs hG => ?_)
  refine W.eq (g2 := F0 zm 5 ls [.int (zI (zB (isT σ c)))]) rfl ?_
  refine zr_ifeqB (tgt := 12) zC dX4_day_5 (by decide) (fun c5 => ?_) (fun c5 => ?_)
  · refine zr_iconst zC dX4_day_12 ?_
    exact zr_iret zC zK hG dX4_day_13 (by unfold rC_day; (repeat' split) <;> first | rfl | omega) (by unfold mC_day; (repeat' split) <;> first | rfl | (exfalso; omega))
  · refine lv_iload_n zC.1 zC.2.1 dX4_day_8 rfl (lv_at hl 2 rfl) ?_
    refine zr_if_ge (tgt := 14) zC dX4_day_9 (by decide) (by omega) (fun c9 => ?_) (fun c9 => ?_)
    · refine lv_aload_n zC.1 zC.2.1 dX4_day_14 rfl (lv_at hl 0 rfl) ?_
      refine gf_L_towns zC hG wl_X4_23 dX4_day_15 ?_
      refine lv_iload_n zC.1 zC.2.1 dX4_day_18 rfl (lv_at hl 1 rfl) ?_
      refine gr_To zC hG (by omega) dX4_day_19 ?_
      refine lv_iload_n zC.1 zC.2.1 dX4_day_20 rfl (lv_at hl 2 rfl) ?_
      have k21 := hI.2.2.2.2.2.2.1 c (by omega) (by omega)
      obtain ⟨k21a, k21b, k21c, k21d⟩ := id k21
      refine zr_callV zC hG (c_X0_dayOfDate (σ := σ) (i := c) (t := t) (by first | assumption | omega) k21 (by first | assumption | omega)) mt_X0_dayOfDate wl_X4_174 (pCal (by first | assumption | omega)) rfl rfl ⟨by decide, by decide⟩ rfl hl.1 rfl (Nat.le_of_ble_eq_true rfl) dX4_day_21 ⟨Nat.zero_le _, Nat.zero_le _⟩ (fun H locs hG => ?_)
      refine W.eq (g2 := F0 zm 24 ls [.int (zI (dyD (σ 6 c 0) (σ 6 c 1) (σ 6 c 2) (σ 6 c 3) t))]) rfl ?_
      have b21_0 := dyD_r (k := (σ 6 c 0)) (lp := (σ 6 c 1)) (o := (σ 6 c 2)) (g := (σ 6 c 3)) (t := t) (by omega) (by omega)
      refine lv_istore_n (lv' := [(3, .int (zI (dyD (σ 6 c 0) (σ 6 c 1) (σ 6 c 2) (σ 6 c 3) t))), (0, .ref (aL Γ)), (1, .int (zI c)), (2, .int (zI t))]) zC.1 zC.2.1 dX4_day_24 rfl hl (by decide) rfl (fun ls hl => ?_)
      refine lv_iload_n zC.1 zC.2.1 dX4_day_25 rfl (lv_at hl 0 rfl) ?_
      refine zr_iconst zC dX4_day_26 ?_
      refine zr_icmp_ne (tgt := 38) zC dX4_day_27 (by decide) (by omega) (fun c27 => ?_) (fun c27 => ?_)
      · refine lv_iload_n zC.1 zC.2.1 dX4_day_38 rfl (lv_at hl 0 rfl) ?_
        exact zr_iret zC zK hG dX4_day_39 (by unfold rC_day; (repeat' split) <;> first | rfl | omega) (by unfold mC_day; (repeat' split) <;> first | rfl | (exfalso; omega))
      · refine lv_aload_n zC.1 zC.2.1 dX4_day_30 rfl (lv_at hl 1 rfl) ?_
        refine zr_iconst zC dX4_day_31 ?_
        refine zr_callV zC hG (c_X4_found (σ := σ) (f := 4) hI (by first | assumption | omega)) mt_X4_found wl_X4_69 pL rfl rfl ⟨by decide, by decide⟩ rfl hl.1 rfl (Nat.le_of_ble_eq_true rfl) dX4_day_32 ⟨Nat.zero_le _, Nat.zero_le _⟩ (fun H locs hG => ?_)
        refine W.eq (g2 := F0 zm 35 ls [.int (zI (-3))]) rfl ?_
        refine lv_goto (tgt := 39) zC.1 zC.2.1 dX4_day_35 (by decide) ?_
        exact zr_iret zC zK hG dX4_day_39 (by unfold rC_day; (repeat' split) <;> first | rfl | omega) (by unfold mC_day; (repeat' split) <;> first | rfl | (exfalso; omega))
    · refine zr_iconst zC dX4_day_12 ?_
      exact zr_iret zC zK hG dX4_day_13 (by unfold rC_day; (repeat' split) <;> first | rfl | omega) (by unfold mC_day; (repeat' split) <;> first | rfl | (exfalso; omega))

set_option maxHeartbeats 4000000 in
set_option maxRecDepth 100000 in
theorem c_X4_same {Γ : Gm} {zl : Launch} {A : Nat → Prop} {σ : Mm} {c t d : Int} (hI : IC σ) (hc : -2147483648 ≤ c ∧ c < 2147483648) (ht : -2147483648 ≤ t ∧ t < 2147483648) (hd : -2147483648 ≤ d ∧ d < 2147483648) : Fn Γ zl A yX4_same cX4_same 5 (some .int) 4 88 [.ref (aL Γ), .int (zI c), .int (zI t), .int (zI d)] σ (some (.int (zI (rC_same σ c t d)))) (mC_same σ c t d) := by
  refine Fn_of (by decide) (Nat.le_of_ble_eq_true rfl) ?_
  intro zp ze zs zm args below meth zc zQ H locs ls zC zK hG hl
  have hl : lv_has ls 5 [(0, .ref (aL Γ)), (1, .int (zI c)), (2, .int (zI t)), (3, .int (zI d))] := hl
  obtain ⟨hmany, htoday, -⟩ := id hI
  refine lv_aload_n zC.1 zC.2.1 dX4_same_0 rfl (lv_at hl 0 rfl) ?_
  refine lv_iload_n zC.1 zC.2.1 dX4_same_1 rfl (lv_at hl 1 rfl) ?_
  refine zr_callV zC hG (c_X4_isTown (σ := σ) (c := c) hI (by first | assumption | omega)) mt_X4_isTown wl_X4_128 pL rfl rfl ⟨by decide, by decide⟩ rfl hl.1 rfl (Nat.le_of_ble_eq_true rfl) dX4_same_2 ⟨Nat.zero_le _, Nat.zero_le _⟩ (fun H locs hG => ?_)
  refine W.eq (g2 := F0 zm 5 ls [.int (zI (zB (isT σ c)))]) rfl ?_
  refine zr_ifeqB (tgt := 20) zC dX4_same_5 (by decide) (fun c5 => ?_) (fun c5 => ?_)
  · refine zr_iconst zC dX4_same_20 ?_
    exact zr_iret zC zK hG dX4_same_21 (by unfold rC_same; (repeat' split) <;> first | rfl | omega) (by unfold mC_same; (repeat' split) <;> first | rfl | (exfalso; omega))
  · refine lv_aload_n zC.1 zC.2.1 dX4_same_8 rfl (lv_at hl 0 rfl) ?_
    refine lv_iload_n zC.1 zC.2.1 dX4_same_9 rfl (lv_at hl 3 rfl) ?_
    refine zr_callV zC hG (c_X4_isTown (σ := σ) (c := d) hI (by first | assumption | omega)) mt_X4_isTown wl_X4_128 pL rfl rfl ⟨by decide, by decide⟩ rfl hl.1 rfl (Nat.le_of_ble_eq_true rfl) dX4_same_10 ⟨Nat.zero_le _, Nat.zero_le _⟩ (fun H locs hG => ?_)
    refine W.eq (g2 := F0 zm 13 ls [.int (zI (zB (isT σ d)))]) rfl ?_
    refine zr_ifeqB (tgt := 20) zC dX4_same_13 (by decide) (fun c13 => ?_) (fun c13 => ?_)
    · refine zr_iconst zC dX4_same_20 ?_
      exact zr_iret zC zK hG dX4_same_21 (by unfold rC_same; (repeat' split) <;> first | rfl | omega) (by unfold mC_same; (repeat' split) <;> first | rfl | (exfalso; omega))
    · refine lv_iload_n zC.1 zC.2.1 dX4_same_16 rfl (lv_at hl 2 rfl) ?_
      refine zr_if_ge (tgt := 22) zC dX4_same_17 (by decide) (by omega) (fun c17 => ?_) (fun c17 => ?_)
      · refine lv_aload_n zC.1 zC.2.1 dX4_same_22 rfl (lv_at hl 0 rfl) ?_
        refine gf_L_towns zC hG wl_X4_23 dX4_same_23 ?_
        refine lv_iload_n zC.1 zC.2.1 dX4_same_26 rfl (lv_at hl 1 rfl) ?_
        refine gr_To zC hG (by omega) dX4_same_27 ?_
        refine lv_iload_n zC.1 zC.2.1 dX4_same_28 rfl (lv_at hl 2 rfl) ?_
        have k29 := hI.2.2.2.2.2.2.1 c (by omega) (by omega)
        obtain ⟨k29a, k29b, k29c, k29d⟩ := id k29
        refine zr_callV zC hG (c_X0_dayOfDate (σ := σ) (i := c) (t := t) (by first | assumption | omega) k29 (by first | assumption | omega)) mt_X0_dayOfDate wl_X4_174 (pCal (by first | assumption | omega)) rfl rfl ⟨by decide, by decide⟩ rfl hl.1 rfl (Nat.le_of_ble_eq_true rfl) dX4_same_29 ⟨Nat.zero_le _, Nat.zero_le _⟩ (fun H locs hG => ?_)
        refine W.eq (g2 := F0 zm 32 ls [.int (zI (dyD (σ 6 c 0) (σ 6 c 1) (σ 6 c 2) (σ 6 c 3) t))]) rfl ?_
        have b29_0 := dyD_r (k := (σ 6 c 0)) (lp := (σ 6 c 1)) (o := (σ 6 c 2)) (g := (σ 6 c 3)) (t := t) (by omega) (by omega)
        refine lv_istore (lv' := [(4, .int (zI (dyD (σ 6 c 0) (σ 6 c 1) (σ 6 c 2) (σ 6 c 3) t))), (0, .ref (aL Γ)), (1, .int (zI c)), (2, .int (zI t)), (3, .int (zI d))]) zC.1 zC.2.1 dX4_same_32 hl (by decide) rfl (fun ls hl => ?_)
        refine lv_iload zC.1 zC.2.1 dX4_same_34 (lv_at hl 0 rfl) ?_
        refine zr_iconst zC dX4_same_36 ?_
        refine zr_icmp_ne (tgt := 48) zC dX4_same_37 (by decide) (by omega) (fun c37 => ?_) (fun c37 => ?_)
        · refine lv_aload_n zC.1 zC.2.1 dX4_same_48 rfl (lv_at hl 1 rfl) ?_
          refine gf_L_towns zC hG wl_X4_23 dX4_same_49 ?_
          refine lv_iload_n zC.1 zC.2.1 dX4_same_52 rfl (lv_at hl 4 rfl) ?_
          refine gr_To zC hG (by omega) dX4_same_53 ?_
          refine lv_iload zC.1 zC.2.1 dX4_same_54 (lv_at hl 0 rfl) ?_
          have k56 := hI.2.2.2.2.2.2.1 d (by omega) (by omega)
          obtain ⟨k56a, k56b, k56c, k56d⟩ := id k56
          refine zr_callV zC hG (c_X0_dateOn (σ := σ) (i := d) (d := dyD (σ 6 c 0) (σ 6 c 1) (σ 6 c 2) (σ 6 c 3) t) (by first | assumption | omega) k56 (by first | assumption | omega)) mt_X0_dateOn wl_X4_171 (pCal (by first | assumption | omega)) rfl rfl ⟨by decide, by decide⟩ rfl hl.1 rfl (Nat.le_of_ble_eq_true rfl) dX4_same_56 ⟨Nat.zero_le _, Nat.zero_le _⟩ (fun H locs hG => ?_)
          refine W.eq (g2 := F0 zm 59 ls [.int (zI (dtD (σ 6 d 0) (σ 6 d 1) (σ 6 d 2) (σ 6 d 3) (dyD (σ 6 c 0) (σ 6 c 1) (σ 6 c 2) (σ 6 c 3) t)))]) rfl ?_
          have b56_0 := dtD_r (k := (σ 6 d 0)) (lp := (σ 6 d 1)) (o := (σ 6 d 2)) (g := (σ 6 d 3)) (d := (dyD (σ 6 c 0) (σ 6 c 1) (σ 6 c 2) (σ 6 c 3) t)) (by omega) (by omega) (by omega)
          exact zr_iret zC zK hG dX4_same_59 (by unfold rC_same; (repeat' split) <;> first | rfl | omega) (by unfold mC_same; (repeat' split) <;> first | rfl | (exfalso; omega))
        · refine lv_aload_n zC.1 zC.2.1 dX4_same_40 rfl (lv_at hl 1 rfl) ?_
          refine zr_iconst zC dX4_same_41 ?_
          refine zr_callV zC hG (c_X4_found (σ := σ) (f := 4) hI (by first | assumption | omega)) mt_X4_found wl_X4_69 pL rfl rfl ⟨by decide, by decide⟩ rfl hl.1 rfl (Nat.le_of_ble_eq_true rfl) dX4_same_42 ⟨Nat.zero_le _, Nat.zero_le _⟩ (fun H locs hG => ?_)
          refine W.eq (g2 := F0 zm 45 ls [.int (zI (-3))]) rfl ?_
          refine lv_goto (tgt := 59) zC.1 zC.2.1 dX4_same_45 (by decide) ?_
          exact zr_iret zC zK hG dX4_same_59 (by unfold rC_same; (repeat' split) <;> first | rfl | omega) (by unfold mC_same; (repeat' split) <;> first | rfl | (exfalso; omega))
      · refine zr_iconst zC dX4_same_20 ?_
        exact zr_iret zC zK hG dX4_same_21 (by unfold rC_same; (repeat' split) <;> first | rfl | omega) (by unfold mC_same; (repeat' split) <;> first | rfl | (exfalso; omega))

set_option maxHeartbeats 4000000 in
set_option maxRecDepth 100000 in
theorem c_X4_between {Γ : Gm} {zl : Launch} {A : Nat → Prop} {σ : Mm} {c a b : Int} (hI : IC σ) (hc : -2147483648 ≤ c ∧ c < 2147483648) (ha : -2147483648 ≤ a ∧ a < 2147483648) (hb : -2147483648 ≤ b ∧ b < 2147483648) : Fn Γ zl A yX4_between cX4_between 6 (some .int) 4 88 [.ref (aL Γ), .int (zI c), .int (zI a), .int (zI b)] σ (some (.int (zI (rC_between σ c a b)))) (mC_between σ c a b) := by
  refine Fn_of (by decide) (Nat.le_of_ble_eq_true rfl) ?_
  intro zp ze zs zm args below meth zc zQ H locs ls zC zK hG hl
  have hl : lv_has ls 6 [(0, .ref (aL Γ)), (1, .int (zI c)), (2, .int (zI a)), (3, .int (zI b))] := hl
  obtain ⟨hmany, htoday, -⟩ := id hI
  refine lv_aload_n zC.1 zC.2.1 dX4_between_0 rfl (lv_at hl 0 rfl) ?_
  refine lv_iload_n zC.1 zC.2.1 dX4_between_1 rfl (lv_at hl 1 rfl) ?_
  refine zr_callV zC hG (c_X4_isTown (σ := σ) (c := c) hI (by first | assumption | omega)) mt_X4_isTown wl_X4_128 pL rfl rfl ⟨by decide, by decide⟩ rfl hl.1 rfl (Nat.le_of_ble_eq_true rfl) dX4_between_2 ⟨Nat.zero_le _, Nat.zero_le _⟩ (fun H locs hG => ?_)
  refine W.eq (g2 := F0 zm 5 ls [.int (zI (zB (isT σ c)))]) rfl ?_
  refine zr_ifeqB (tgt := 16) zC dX4_between_5 (by decide) (fun c5 => ?_) (fun c5 => ?_)
  · refine zr_iconst zC dX4_between_16 ?_
    exact zr_iret zC zK hG dX4_between_17 (by unfold rC_between; (repeat' split) <;> first | rfl | omega) (by unfold mC_between; (repeat' split) <;> first | rfl | (exfalso; omega))
  · refine lv_iload_n zC.1 zC.2.1 dX4_between_8 rfl (lv_at hl 2 rfl) ?_
    refine zr_if_lt (tgt := 16) zC dX4_between_9 (by decide) (by omega) (fun c9 => ?_) (fun c9 => ?_)
    · refine zr_iconst zC dX4_between_16 ?_
      exact zr_iret zC zK hG dX4_between_17 (by unfold rC_between; (repeat' split) <;> first | rfl | omega) (by unfold mC_between; (repeat' split) <;> first | rfl | (exfalso; omega))
    · refine lv_iload_n zC.1 zC.2.1 dX4_between_12 rfl (lv_at hl 3 rfl) ?_
      refine zr_if_ge (tgt := 18) zC dX4_between_13 (by decide) (by omega) (fun c13 => ?_) (fun c13 => ?_)
      · refine lv_aload_n zC.1 zC.2.1 dX4_between_18 rfl (lv_at hl 0 rfl) ?_
        refine gf_L_towns zC hG wl_X4_23 dX4_between_19 ?_
        refine lv_iload_n zC.1 zC.2.1 dX4_between_22 rfl (lv_at hl 1 rfl) ?_
        refine gr_To zC hG (by omega) dX4_between_23 ?_
        refine lv_iload_n zC.1 zC.2.1 dX4_between_24 rfl (lv_at hl 2 rfl) ?_
        have k25 := hI.2.2.2.2.2.2.1 c (by omega) (by omega)
        obtain ⟨k25a, k25b, k25c, k25d⟩ := id k25
        refine zr_callV zC hG (c_X0_dayOfDate (σ := σ) (i := c) (t := a) (by first | assumption | omega) k25 (by first | assumption | omega)) mt_X0_dayOfDate wl_X4_174 (pCal (by first | assumption | omega)) rfl rfl ⟨by decide, by decide⟩ rfl hl.1 rfl (Nat.le_of_ble_eq_true rfl) dX4_between_25 ⟨Nat.zero_le _, Nat.zero_le _⟩ (fun H locs hG => ?_)
        refine W.eq (g2 := F0 zm 28 ls [.int (zI (dyD (σ 6 c 0) (σ 6 c 1) (σ 6 c 2) (σ 6 c 3) a))]) rfl ?_
        have b25_0 := dyD_r (k := (σ 6 c 0)) (lp := (σ 6 c 1)) (o := (σ 6 c 2)) (g := (σ 6 c 3)) (t := a) (by omega) (by omega)
        refine lv_istore (lv' := [(4, .int (zI (dyD (σ 6 c 0) (σ 6 c 1) (σ 6 c 2) (σ 6 c 3) a))), (0, .ref (aL Γ)), (1, .int (zI c)), (2, .int (zI a)), (3, .int (zI b))]) zC.1 zC.2.1 dX4_between_28 hl (by decide) rfl (fun ls hl => ?_)
        refine lv_aload_n zC.1 zC.2.1 dX4_between_30 rfl (lv_at hl 1 rfl) ?_
        refine gf_L_towns zC hG wl_X4_23 dX4_between_31 ?_
        refine lv_iload_n zC.1 zC.2.1 dX4_between_34 rfl (lv_at hl 2 rfl) ?_
        refine gr_To zC hG (by omega) dX4_between_35 ?_
        refine lv_iload_n zC.1 zC.2.1 dX4_between_36 rfl (lv_at hl 4 rfl) ?_
        have k37 := hI.2.2.2.2.2.2.1 c (by omega) (by omega)
        obtain ⟨k37a, k37b, k37c, k37d⟩ := id k37
        refine zr_callV zC hG (c_X0_dayOfDate (σ := σ) (i := c) (t := b) (by first | assumption | omega) k37 (by first | assumption | omega)) mt_X0_dayOfDate wl_X4_174 (pCal (by first | assumption | omega)) rfl rfl ⟨by decide, by decide⟩ rfl hl.1 rfl (Nat.le_of_ble_eq_true rfl) dX4_between_37 ⟨Nat.zero_le _, Nat.zero_le _⟩ (fun H locs hG => ?_)
        refine W.eq (g2 := F0 zm 40 ls [.int (zI (dyD (σ 6 c 0) (σ 6 c 1) (σ 6 c 2) (σ 6 c 3) b))]) rfl ?_
        have b37_0 := dyD_r (k := (σ 6 c 0)) (lp := (σ 6 c 1)) (o := (σ 6 c 2)) (g := (σ 6 c 3)) (t := b) (by omega) (by omega)
        refine lv_istore (lv' := [(5, .int (zI (dyD (σ 6 c 0) (σ 6 c 1) (σ 6 c 2) (σ 6 c 3) b))), (4, .int (zI (dyD (σ 6 c 0) (σ 6 c 1) (σ 6 c 2) (σ 6 c 3) a))), (0, .ref (aL Γ)), (1, .int (zI c)), (2, .int (zI a)), (3, .int (zI b))]) zC.1 zC.2.1 dX4_between_40 hl (by decide) rfl (fun ls hl => ?_)
        refine lv_iload zC.1 zC.2.1 dX4_between_42 (lv_at hl 1 rfl) ?_
        refine zr_iconst zC dX4_between_44 ?_
        refine zr_icmp_eq (tgt := 54) zC dX4_between_45 (by decide) (by omega) (fun c45 => ?_) (fun c45 => ?_)
        · refine lv_aload_n zC.1 zC.2.1 dX4_between_54 rfl (lv_at hl 2 rfl) ?_
          refine zr_iconst zC dX4_between_55 ?_
          refine zr_callV zC hG (c_X4_found (σ := σ) (f := 4) hI (by first | assumption | omega)) mt_X4_found wl_X4_69 pL rfl rfl ⟨by decide, by decide⟩ rfl hl.1 rfl (Nat.le_of_ble_eq_true rfl) dX4_between_56 ⟨Nat.zero_le _, Nat.zero_le _⟩ (fun H locs hG => ?_)
          refine W.eq (g2 := F0 zm 59 ls [.int (zI (-3))]) rfl ?_
          exact zr_iret zC zK hG dX4_between_59 (by unfold rC_between; (repeat' split) <;> first | rfl | omega) (by unfold mC_between; (repeat' split) <;> first | rfl | (exfalso; omega))
        · refine lv_iload zC.1 zC.2.1 dX4_between_48 (lv_at hl 0 rfl) ?_
          refine zr_iconst zC dX4_between_50 ?_
          refine zr_icmp_ne (tgt := 60) zC dX4_between_51 (by decide) (by omega) (fun c51 => ?_) (fun c51 => ?_)
          · refine lv_aload_n zC.1 zC.2.1 dX4_between_60 rfl (lv_at hl 2 rfl) ?_
            refine lv_iload zC.1 zC.2.1 dX4_between_61 (lv_at hl 0 rfl) ?_
            refine lv_iload zC.1 zC.2.1 dX4_between_63 (lv_at hl 1 rfl) ?_
            refine zr_isub zC dX4_between_65 ?_
            refine pf_L_told zC hG wl_X4_49 dX4_between_66 (fun H locs hG => ?_)
            refine zr_iconst zC dX4_between_69 ?_
            exact zr_iret zC zK hG dX4_between_70 (by unfold rC_between; (repeat' split) <;> first | rfl | omega) (by unfold mC_between; (repeat' split) <;> first | rfl | (exfalso; omega))
          · refine lv_aload_n zC.1 zC.2.1 dX4_between_54 rfl (lv_at hl 2 rfl) ?_
            refine zr_iconst zC dX4_between_55 ?_
            refine zr_callV zC hG (c_X4_found (σ := σ) (f := 4) hI (by first | assumption | omega)) mt_X4_found wl_X4_69 pL rfl rfl ⟨by decide, by decide⟩ rfl hl.1 rfl (Nat.le_of_ble_eq_true rfl) dX4_between_56 ⟨Nat.zero_le _, Nat.zero_le _⟩ (fun H locs hG => ?_)
            refine W.eq (g2 := F0 zm 59 ls [.int (zI (-3))]) rfl ?_
            exact zr_iret zC zK hG dX4_between_59 (by unfold rC_between; (repeat' split) <;> first | rfl | omega) (by unfold mC_between; (repeat' split) <;> first | rfl | (exfalso; omega))
      · refine zr_iconst zC dX4_between_16 ?_
        exact zr_iret zC zK hG dX4_between_17 (by unfold rC_between; (repeat' split) <;> first | rfl | omega) (by unfold mC_between; (repeat' split) <;> first | rfl | (exfalso; omega))
