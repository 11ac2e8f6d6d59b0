set_option maxHeartbeats 4000000 in
set_option maxRecDepth 100000 in
theorem c_X5_isTown {Γ : Gm} {zl : Launch} {A : Nat → Prop} {τ σ : Mm} {c : Int} (hR : Rel2 τ σ) (hI : IC τ) (hc : -2147483648 ≤ c ∧ c < 2147483648) : Fn Γ zl A yX5_isTown cX5_isTown 2 (some .boolean) 1 22 [.ref (aM Γ), .int (zI c)] σ (some (.int (zI (zB (isT τ c))))) σ := by
  refine Fn_of (by decide) (Nat.le_of_ble_eq_true rfl) ?_
  intro zp ze zs zm args below meth zc zQ H locs ls zC zK hG hl
  have hl : lv_has ls 2 [(0, .ref (aM Γ)), (1, .int (zI c))] := hl
  obtain ⟨hmany, htoday, -⟩ := id hI
  refine lv_iload_n zC.1 zC.2.1 dX5_isTown_0 rfl (lv_at hl 1 rfl) ?_
  refine zr_iconst zC dX5_isTown_1 ?_
  refine lv_aload_n zC.1 zC.2.1 dX5_isTown_2 rfl (lv_at hl 0 rfl) ?_
  refine gf_M_many (v := τ 0 0 6) zC hG wl_X5_116 hR.1.2.2.2.2.1 dX5_isTown_3 ?_
  refine zr_iconst zC dX5_isTown_6 ?_
  refine zr_isub zC dX5_isTown_7 ?_
  refine zr_callS zC hG (c_X5_in (σ := σ) (v := c) (a := 0) (b := (τ 0 0 6) - 1) (by first | assumption | omega) (by first | assumption | omega) (by first | assumption | omega)) mt_X5_in wl_X5_60 ⟨by decide, by decide⟩ rfl hl.1 rfl (Nat.le_of_ble_eq_true rfl) dX5_isTown_8 ⟨Nat.zero_le _, Nat.zero_le _⟩ (fun H locs hG => ?_)
  refine W.eq (g2 := F0 zm 11 ls [.int (zI (zB (0 ≤ c ∧ c ≤ ((τ 0 0 6) - 1))))]) rfl ?_
  exact zr_zret zC zK hG dX5_isTown_11 (zB_c (by omega)) (by have := zB_rng (0 ≤ c ∧ c ≤ ((τ 0 0 6) - 1)); omega) rfl

set_option maxHeartbeats 4000000 in
set_option maxRecDepth 100000 in
theorem c_X5_take {Γ : Gm} {zl : Launch} {A : Nat → Prop} {τ σ : Mm} {c : Int} (hR : Rel2 τ σ) (hI : IC τ) (hc : isT τ c) : Fn Γ zl A yX5_take cX5_take 2 none 0 0 [.ref (aM Γ), .int (zI c)] σ none (up (up (up (up σ 20 0 19 (τ 6 c 0)) 20 0 20 (τ 6 c 1)) 20 0 21 (τ 6 c 2)) 20 0 22 (τ 6 c 3)) := by
  refine Fn_of (by decide) (Nat.le_of_ble_eq_true rfl) ?_
  intro zp ze zs zm args below meth zc zQ H locs ls zC zK hG hl
  have hl : lv_has ls 2 [(0, .ref (aM Γ)), (1, .int (zI c))] := hl
  obtain ⟨hmany, htoday, -⟩ := id hI
  refine lv_aload_n zC.1 zC.2.1 dX5_take_0 rfl (lv_at hl 0 rfl) ?_
  refine lv_aload_n zC.1 zC.2.1 dX5_take_1 rfl (lv_at hl 0 rfl) ?_
  refine gf_M_kindOf zC hG wl_X5_32 dX5_take_2 ?_
  refine lv_iload_n zC.1 zC.2.1 dX5_take_5 rfl (lv_at hl 1 rfl) ?_
  refine gi_m_kindOf (v := τ 6 c 0) zC hG (by omega) (hR.2.2.2.2.2.2.1 c (by omega) (by omega)).1 dX5_take_6 ?_
  obtain ⟨f6a, f6b, f6c, f6d⟩ := hI.2.2.2.2.2.2.1 c (by omega) (by omega)
  refine pf_M_kind zC hG wl_X5_125 dX5_take_7 (fun H locs hG => ?_)
  refine lv_aload_n zC.1 zC.2.1 dX5_take_10 rfl (lv_at hl 0 rfl) ?_
  refine lv_aload_n zC.1 zC.2.1 dX5_take_11 rfl (lv_at hl 0 rfl) ?_
  refine gf_M_leapOf zC hG wl_X5_35 dX5_take_12 ?_
  refine lv_iload_n zC.1 zC.2.1 dX5_take_15 rfl (lv_at hl 1 rfl) ?_
  refine gi_m_leapOf (v := τ 6 c 1) zC hG (by omega) (hR.2.2.2.2.2.2.1 c (by omega) (by omega)).2.1 dX5_take_16 ?_
  obtain ⟨f16a, f16b, f16c, f16d⟩ := hI.2.2.2.2.2.2.1 c (by omega) (by omega)
  refine pf_M_leap zC hG wl_X5_128 dX5_take_17 (fun H locs hG => ?_)
  refine lv_aload_n zC.1 zC.2.1 dX5_take_20 rfl (lv_at hl 0 rfl) ?_
  refine lv_aload_n zC.1 zC.2.1 dX5_take_21 rfl (lv_at hl 0 rfl) ?_
  refine gf_M_orderOf zC hG wl_X5_38 dX5_take_22 ?_
  refine lv_iload_n zC.1 zC.2.1 dX5_take_25 rfl (lv_at hl 1 rfl) ?_
  refine gi_m_orderOf (v := τ 6 c 2) zC hG (by omega) (hR.2.2.2.2.2.2.1 c (by omega) (by omega)).2.2.1 dX5_take_26 ?_
  obtain ⟨f26a, f26b, f26c, f26d⟩ := hI.2.2.2.2.2.2.1 c (by omega) (by omega)
  refine pf_M_order zC hG wl_X5_131 dX5_take_27 (fun H locs hG => ?_)
  refine lv_aload_n zC.1 zC.2.1 dX5_take_30 rfl (lv_at hl 0 rfl) ?_
  refine lv_aload_n zC.1 zC.2.1 dX5_take_31 rfl (lv_at hl 0 rfl) ?_
  refine gf_M_gapOf zC hG wl_X5_41 dX5_take_32 ?_
  refine lv_iload_n zC.1 zC.2.1 dX5_take_35 rfl (lv_at hl 1 rfl) ?_
  refine gi_m_gapOf (v := τ 6 c 3) zC hG (by omega) (hR.2.2.2.2.2.2.1 c (by omega) (by omega)).2.2.2 dX5_take_36 ?_
  obtain ⟨f36a, f36b, f36c, f36d⟩ := hI.2.2.2.2.2.2.1 c (by omega) (by omega)
  refine pf_M_gap zC hG wl_X5_134 dX5_take_37 (fun H locs hG => ?_)
  exact zr_vret zC zK hG dX5_take_40 rfl

set_option maxHeartbeats 4000000 in
set_option maxRecDepth 100000 in
theorem c_X5_countIn {Γ : Gm} {zl : Launch} {A : Nat → Prop} {τ σ : Mm} {c d : Int} (hR : Rel2 τ σ) (hI : IC τ) (hc : isT τ c) (hd : -1000000 ≤ d ∧ d ≤ 1000000) : Fn Γ zl A yX5_countIn cX5_countIn 3 (some .int) 2 42 [.ref (aM Γ), .int (zI c), .int (zI d)] σ (some (.int (zI (cnt (τ 6 c 0) (τ 6 c 2) (τ 6 c 3) d)))) (up (up (up (up σ 20 0 19 (τ 6 c 0)) 20 0 20 (τ 6 c 1)) 20 0 21 (τ 6 c 2)) 20 0 22 (τ 6 c 3)) := by
  refine Fn_of (by decide) (Nat.le_of_ble_eq_true rfl) ?_
  intro zp ze zs zm args below meth zc zQ H locs ls zC zK hG hl
  have hl : lv_has ls 3 [(0, .ref (aM Γ)), (1, .int (zI c)), (2, .int (zI d))] := hl
  obtain ⟨hmany, htoday, -⟩ := id hI
  refine lv_aload_n zC.1 zC.2.1 dX5_countIn_0 rfl (lv_at hl 0 rfl) ?_
  refine lv_iload_n zC.1 zC.2.1 dX5_countIn_1 rfl (lv_at hl 1 rfl) ?_
  refine zr_callV zC hG (c_X5_take (τ := τ) (σ := σ) (c := c) hR hI (by first | assumption | omega)) mt_X5_take wl_X5_141 pM rfl rfl ⟨by decide, by decide⟩ rfl hl.1 rfl (Nat.le_of_ble_eq_true rfl) dX5_countIn_2 ⟨Nat.zero_le _, Nat.zero_le _⟩ (fun H locs hG => ?_)
  refine W.eq (g2 := F0 zm 5 ls []) rfl ?_
  refine lv_aload_n zC.1 zC.2.1 dX5_countIn_5 rfl (lv_at hl 0 rfl) ?_
  refine lv_iload_n zC.1 zC.2.1 dX5_countIn_6 rfl (lv_at hl 2 rfl) ?_
  have k7 := hI.2.2.2.2.2.2.1 c (by omega) (by omega)
  obtain ⟨k7a, k7b, k7c, k7d⟩ := id k7
  refine zr_callV zC hG (c_X5_countOfDay (σ := up (up (up (up σ 20 0 19 (τ 6 c 0)) 20 0 20 (τ 6 c 1)) 20 0 21 (τ 6 c 2)) 20 0 22 (τ 6 c 3)) (d := d) k7 (by first | assumption | omega)) mt_X5_countOfDay wl_X5_145 pM rfl rfl ⟨by decide, by decide⟩ rfl hl.1 rfl (Nat.le_of_ble_eq_true rfl) dX5_countIn_7 ⟨Nat.zero_le _, Nat.zero_le _⟩ (fun H locs hG => ?_)
  refine W.eq (g2 := F0 zm 10 ls [.int (zI (cnt (τ 6 c 0) (τ 6 c 2) (τ 6 c 3) d))]) rfl ?_
  have b7_0 := cnt_r (k := (τ 6 c 0)) (o := (τ 6 c 2)) (g := (τ 6 c 3)) (d := d) (by omega)
  exact zr_iret zC zK hG dX5_countIn_10 rfl rfl

set_option maxHeartbeats 4000000 in
set_option maxRecDepth 100000 in
theorem c_X5_dateIn {Γ : Gm} {zl : Launch} {A : Nat → Prop} {τ σ : Mm} {c d : Int} (hR : Rel2 τ σ) (hI : IC τ) (hc : isT τ c) (hd : 0 ≤ d ∧ d ≤ 30000) : Fn Γ zl A yX5_dateIn cX5_dateIn 3 (some .int) 4 84 [.ref (aM Γ), .int (zI c), .int (zI d)] σ (some (.int (zI (dtD (τ 6 c 0) (τ 6 c 1) (τ 6 c 2) (τ 6 c 3) d)))) (up (up (up (up σ 20 0 19 (τ 6 c 0)) 20 0 20 (τ 6 c 1)) 20 0 21 (τ 6 c 2)) 20 0 22 (τ 6 c 3)) := by
  refine Fn_of (by decide) (Nat.le_of_ble_eq_true rfl) ?_
  intro zp ze zs zm args below meth zc zQ H locs ls zC zK hG hl
  have hl : lv_has ls 3 [(0, .ref (aM Γ)), (1, .int (zI c)), (2, .int (zI d))] := hl
  obtain ⟨hmany, htoday, -⟩ := id hI
  refine lv_aload_n zC.1 zC.2.1 dX5_dateIn_0 rfl (lv_at hl 0 rfl) ?_
  refine lv_iload_n zC.1 zC.2.1 dX5_dateIn_1 rfl (lv_at hl 1 rfl) ?_
  refine zr_callV zC hG (c_X5_take (τ := τ) (σ := σ) (c := c) hR hI (by first | assumption | omega)) mt_X5_take wl_X5_141 pM rfl rfl ⟨by decide, by decide⟩ rfl hl.1 rfl (Nat.le_of_ble_eq_true rfl) dX5_dateIn_2 ⟨Nat.zero_le _, Nat.zero_le _⟩ (fun H locs hG => ?_)
  refine W.eq (g2 := F0 zm 5 ls []) rfl ?_
  refine lv_aload_n zC.1 zC.2.1 dX5_dateIn_5 rfl (lv_at hl 0 rfl) ?_
  refine lv_iload_n zC.1 zC.2.1 dX5_dateIn_6 rfl (lv_at hl 2 rfl) ?_
  have k7 := hI.2.2.2.2.2.2.1 c (by omega) (by omega)
  obtain ⟨k7a, k7b, k7c, k7d⟩ := id k7
  refine zr_callV zC hG (c_X5_dateOfDay (σ := up (up (up (up σ 20 0 19 (τ 6 c 0)) 20 0 20 (τ 6 c 1)) 20 0 21 (τ 6 c 2)) 20 0 22 (τ 6 c 3)) (d := d) k7 (by first | assumption | omega)) mt_X5_dateOfDay wl_X5_157 pM rfl rfl ⟨by decide, by decide⟩ rfl hl.1 rfl (Nat.le_of_ble_eq_true rfl) dX5_dateIn_7 ⟨Nat.zero_le _, Nat.zero_le _⟩ (fun H locs hG => ?_)
  refine W.eq (g2 := F0 zm 10 ls [.int (zI (dtD (τ 6 c 0) (τ 6 c 1) (τ 6 c 2) (τ 6 c 3) d))]) rfl ?_
  have b7_0 := dtD_r (k := (τ 6 c 0)) (lp := (τ 6 c 1)) (o := (τ 6 c 2)) (g := (τ 6 c 3)) (d := d) (by omega) (by omega) (by omega)
  exact zr_iret zC zK hG dX5_dateIn_10 rfl rfl

set_option maxHeartbeats 4000000 in
set_option maxRecDepth 100000 in
theorem c_X5_dayIn {Γ : Gm} {zl : Launch} {A : Nat → Prop} {τ σ : Mm} {c t : Int} (hR : Rel2 τ σ) (hI : IC τ) (hc : isT τ c) (ht : 0 ≤ t ∧ t < 2147483648) : Fn Γ zl A yX5_dayIn cX5_dayIn 3 (some .int) 3 66 [.ref (aM Γ), .int (zI c), .int (zI t)] σ (some (.int (zI (dyM (dyD (τ 6 c 0) (τ 6 c 1) (τ 6 c 2) (τ 6 c 3) t))))) (up (up (up (up σ 20 0 19 (τ 6 c 0)) 20 0 20 (τ 6 c 1)) 20 0 21 (τ 6 c 2)) 20 0 22 (τ 6 c 3)) := by
  refine Fn_of (by decide) (Nat.le_of_ble_eq_true rfl) ?_
  intro zp ze zs zm args below meth zc zQ H locs ls zC zK hG hl
  have hl : lv_has ls 3 [(0, .ref (aM Γ)), (1, .int (zI c)), (2, .int (zI t))] := hl
  obtain ⟨hmany, htoday, -⟩ := id hI
  refine lv_aload_n zC.1 zC.2.1 dX5_dayIn_0 rfl (lv_at hl 0 rfl) ?_
  refine lv_iload_n zC.1 zC.2.1 dX5_dayIn_1 rfl (lv_at hl 1 rfl) ?_
  refine zr_callV zC hG (c_X5_take (τ := τ) (σ := σ) (c := c) hR hI (by first | assumption | omega)) mt_X5_take wl_X5_141 pM rfl rfl ⟨by decide, by decide⟩ rfl hl.1 rfl (Nat.le_of_ble_eq_true rfl) dX5_dayIn_2 ⟨Nat.zero_le _, Nat.zero_le _⟩ (fun H locs hG => ?_)
  refine W.eq (g2 := F0 zm 5 ls []) rfl ?_
  refine lv_aload_n zC.1 zC.2.1 dX5_dayIn_5 rfl (lv_at hl 0 rfl) ?_
  refine lv_iload_n zC.1 zC.2.1 dX5_dayIn_6 rfl (lv_at hl 2 rfl) ?_
  have k7 := hI.2.2.2.2.2.2.1 c (by omega) (by omega)
  obtain ⟨k7a, k7b, k7c, k7d⟩ := id k7
  refine zr_callV zC hG (c_X5_dayOfDate (σ := up (up (up (up σ 20 0 19 (τ 6 c 0)) 20 0 20 (τ 6 c 1)) 20 0 21 (τ 6 c 2)) 20 0 22 (τ 6 c 3)) (t := t) k7 (by first | assumption | omega)) mt_X5_dayOfDate wl_X5_163 pM rfl rfl ⟨by decide, by decide⟩ rfl hl.1 rfl (Nat.le_of_ble_eq_true rfl) dX5_dayIn_7 ⟨Nat.zero_le _, Nat.zero_le _⟩ (fun H locs hG => ?_)
  refine W.eq (g2 := F0 zm 10 ls [.int (zI (dyM (dyD (τ 6 c 0) (τ 6 c 1) (τ 6 c 2) (τ 6 c 3) t)))]) rfl ?_
  have b7_0 := dyD_r (k := (τ 6 c 0)) (lp := (τ 6 c 1)) (o := (τ 6 c 2)) (g := (τ 6 c 3)) (t := t) (by omega) (by omega)
  have b7_1 := dyM_s (dyD (τ 6 c 0) (τ 6 c 1) (τ 6 c 2) (τ 6 c 3) t)
  exact zr_iret zC zK hG dX5_dayIn_10 rfl rfl

set_option maxHeartbeats 4000000 in
set_option maxRecDepth 100000 in
theorem c_X5_rowAt {Γ : Gm} {zl : Launch} {A : Nat → Prop} {τ σ : Mm} {r x : Int} (hR : Rel2 τ σ) (hI : IC τ) (hr : 0 ≤ r ∧ r < 6) (hx : 0 ≤ x ∧ x < 40) : Fn Γ zl A yX5_rowAt cX5_rowAt 3 (some .int) 0 0 [.ref (aM Γ), .int (zI r), .int (zI x)] σ (some (.int (zI (τ 3 r x)))) σ := by
  refine Fn_of (by decide) (Nat.le_of_ble_eq_true rfl) ?_
  intro zp ze zs zm args below meth zc zQ H locs ls zC zK hG hl
  have hl : lv_has ls 3 [(0, .ref (aM Γ)), (1, .int (zI r)), (2, .int (zI x))] := hl
  obtain ⟨hmany, htoday, -⟩ := id hI
  refine lv_aload_n zC.1 zC.2.1 dX5_rowAt_0 rfl (lv_at hl 0 rfl) ?_
  refine gf_M_rows zC hG wl_X5_20 dX5_rowAt_1 ?_
  refine zr_bipush zC dX5_rowAt_4 (by decide +kernel) ?_
  refine lv_iload_n zC.1 zC.2.1 dX5_rowAt_6 rfl (lv_at hl 1 rfl) ?_
  refine zr_imul zC dX5_rowAt_7 ?_
  refine lv_iload_n zC.1 zC.2.1 dX5_rowAt_8 rfl (lv_at hl 2 rfl) ?_
  refine zr_iadd zC dX5_rowAt_9 ?_
  refine gi_m_rows (v := τ 3 r x) zC hG (by omega) (hR.2.2.2.1 r x (by omega) (by omega) (by omega) (by omega)) dX5_rowAt_10 ?_
  exact zr_iret zC zK hG dX5_rowAt_11 rfl rfl

set_option maxHeartbeats 4000000 in
set_option maxRecDepth 100000 in
theorem c_X5_setRow {Γ : Gm} {zl : Launch} {A : Nat → Prop} {σ : Mm} {r x v : Int} (hr : 0 ≤ r ∧ r < 6) (hx : 0 ≤ x ∧ x < 40) : Fn Γ zl A yX5_setRow cX5_setRow 4 none 0 0 [.ref (aM Γ), .int (zI r), .int (zI x), .int (zI v)] σ none (up σ 23 0 ((40 * r) + x) v) := by
  refine Fn_of (by decide) (Nat.le_of_ble_eq_true rfl) ?_
  intro zp ze zs zm args below meth zc zQ H locs ls zC zK hG hl
  have hl : lv_has ls 4 [(0, .ref (aM Γ)), (1, .int (zI r)), (2, .int (zI x)), (3, .int (zI v))] := hl
  refine lv_aload_n zC.1 zC.2.1 dX5_setRow_0 rfl (lv_at hl 0 rfl) ?_
  refine gf_M_rows zC hG wl_X5_20 dX5_setRow_1 ?_
  refine zr_bipush zC dX5_setRow_4 (by decide +kernel) ?_
  refine lv_iload_n zC.1 zC.2.1 dX5_setRow_6 rfl (lv_at hl 1 rfl) ?_
  refine zr_imul zC dX5_setRow_7 ?_
  refine lv_iload_n zC.1 zC.2.1 dX5_setRow_8 rfl (lv_at hl 2 rfl) ?_
  refine zr_iadd zC dX5_setRow_9 ?_
  refine lv_iload_n zC.1 zC.2.1 dX5_setRow_10 rfl (lv_at hl 3 rfl) ?_
  refine pi_m_rows zC hG (by omega) dX5_setRow_11 (fun H locs hG => ?_)
  exact zr_vret zC zK hG dX5_setRow_12 rfl

set_option maxHeartbeats 4000000 in
set_option maxRecDepth 100000 in
theorem c_X5_askedRow {Γ : Gm} {zl : Launch} {A : Nat → Prop} {τ σ : Mm} {r : Int} (hR : Rel2 τ σ) (hI : IC τ) (hr : -2147483648 ≤ r ∧ r < 2147483648) : Fr Γ zl A yX5_askedRow cX5_askedRow 2 (some .int) 2 42 [.ref (aM Γ), .int (zI r)] σ (some (.int (zI (rfR τ r)))) (mRf τ r) := by
  refine Fr_of (by decide) (Nat.le_of_ble_eq_true rfl) ?_
  intro zp ze zs zm args below meth zc zQ H locs ls zC zK hG hl
  have hl : lv_has ls 2 [(0, .ref (aM Γ)), (1, .int (zI r))] := hl
  obtain ⟨hmany, htoday, -⟩ := id hI
  refine lv_iload_n zC.1 zC.2.1 dX5_askedRow_0 rfl (lv_at hl 1 rfl) ?_
  refine zr_callS zC hG (c_X5_isRow (σ := σ) (v := r) (by first | assumption | omega)) mt_X5_isRow wl_X5_64 ⟨by decide, by decide⟩ rfl hl.1 rfl (Nat.le_of_ble_eq_true rfl) dX5_askedRow_1 ⟨Nat.zero_le _, Nat.zero_le _⟩ (fun H locs hG => ?_)
  refine W.eq (g2 := F0 zm 4 ls [.int (zI (zB (0 ≤ r ∧ r ≤ 5)))]) rfl ?_
  refine zr_ifneB (tgt := 11) zC dX5_askedRow_4 (by decide) (fun c4 => ?_) (fun c4 => ?_)
  · refine lv_aload_n zC.1 zC.2.1 dX5_askedRow_11 rfl (lv_at hl 0 rfl) ?_
    refine gf_M_sizes zC hG wl_X5_17 dX5_askedRow_12 ?_
    refine lv_iload_n zC.1 zC.2.1 dX5_askedRow_15 rfl (lv_at hl 1 rfl) ?_
    refine gi_m_sizes (v := szM (τ 2 r 1)) zC hG (by omega) (hR.2.2.1 r (by omega) (by omega)) dX5_askedRow_16 ?_
    have f16 := hI.2.2.1 r (by omega) (by omega)
    have f16s := szM_s (τ 2 r 1)
    refine zr_if_ge (tgt := 28) zC dX5_askedRow_17 (by decide) (by omega) (fun c17 => ?_) (fun c17 => ?_)
    · refine zr_iconst zC dX5_askedRow_28 ?_
      exact zm_iret zC zK hG dX5_askedRow_29 (by unfold rfR; (repeat' split) <;> omega) (by unfold mRf; first | (rw [if_pos (by omega)]; exact hR) | (rw [if_neg (by omega)]; exact hR)) (sC_r _)
    · refine lv_aload_n zC.1 zC.2.1 dX5_askedRow_20 rfl (lv_at hl 0 rfl) ?_
      refine zr_iconst zC dX5_askedRow_21 ?_
      refine zr_callV zC hG (c_X5_meet (σ := σ) (f := 1) (by first | assumption | omega)) mt_X5_meet wl_X5_68 pM rfl rfl ⟨by decide, by decide⟩ rfl hl.1 rfl (Nat.le_of_ble_eq_true rfl) dX5_askedRow_22 ⟨Nat.zero_le _, Nat.zero_le _⟩ (fun H locs hG => ?_)
      refine W.eq (g2 := F0 zm 25 ls [.int (zI (-3))]) rfl ?_
      refine lv_goto (tgt := 29) zC.1 zC.2.1 dX5_askedRow_25 (by decide) ?_
      exact zm_iret zC zK hG dX5_askedRow_29 (by unfold rfR; (repeat' split) <;> omega) (by unfold mRf; first | (rw [if_pos (by omega)]; exact (rl_fd hR (by omega))) | (rw [if_neg (by omega)]; exact (rl_fd hR (by omega)))) (sC_up (sC_up (sC_r _) (by decide)) (by decide))
  · refine zr_iconst zC dX5_askedRow_7 ?_
    refine lv_goto (tgt := 29) zC.1 zC.2.1 dX5_askedRow_8 (by decide) ?_
    exact zm_iret zC zK hG dX5_askedRow_29 (by unfold rfR; (repeat' split) <;> omega) (by unfold mRf; first | (rw [if_pos (by omega)]; exact hR) | (rw [if_neg (by omega)]; exact hR)) (sC_r _)

set_option maxHeartbeats 4000000 in
set_option maxRecDepth 100000 in
theorem c_X5_askedText {Γ : Gm} {zl : Launch} {A : Nat → Prop} {τ σ : Mm} {t : Int} (hR : Rel2 τ σ) (hI : IC τ) (ht : -2147483648 ≤ t ∧ t < 2147483648) : Fr Γ zl A yX5_askedText cX5_askedText 2 (some .int) 2 42 [.ref (aM Γ), .int (zI t)] σ (some (.int (zI (rfT τ t)))) (mRt τ t) := by
  refine Fr_of (by decide) (Nat.le_of_ble_eq_true rfl) ?_
  intro zp ze zs zm args below meth zc zQ H locs ls zC zK hG hl
  have hl : lv_has ls 2 [(0, .ref (aM Γ)), (1, .int (zI t))] := hl
  obtain ⟨hmany, htoday, -⟩ := id hI
  refine lv_iload_n zC.1 zC.2.1 dX5_askedText_0 rfl (lv_at hl 1 rfl) ?_
  refine zr_callS zC hG (c_X5_isText (σ := σ) (v := t) (by first | assumption | omega)) mt_X5_isText wl_X5_72 ⟨by decide, by decide⟩ rfl hl.1 rfl (Nat.le_of_ble_eq_true rfl) dX5_askedText_1 ⟨Nat.zero_le _, Nat.zero_le _⟩ (fun H locs hG => ?_)
  refine W.eq (g2 := F0 zm 4 ls [.int (zI (zB (0 ≤ t ∧ t ≤ 3)))]) rfl ?_
  refine zr_ifneB (tgt := 11) zC dX5_askedText_4 (by decide) (fun c4 => ?_) (fun c4 => ?_)
  · refine lv_aload_n zC.1 zC.2.1 dX5_askedText_11 rfl (lv_at hl 0 rfl) ?_
    refine gf_M_lengths zC hG wl_X5_26 dX5_askedText_12 ?_
    refine lv_iload_n zC.1 zC.2.1 dX5_askedText_15 rfl (lv_at hl 1 rfl) ?_
    refine gi_m_lengths (v := szM (τ 4 t 1)) zC hG (by omega) (hR.2.2.2.2.1 t (by omega) (by omega)) dX5_askedText_16 ?_
    have f16 := hI.2.2.2.2.1 t (by omega) (by omega)
    have f16s := szM_s (τ 4 t 1)
    refine zr_if_ge (tgt := 28) zC dX5_askedText_17 (by decide) (by omega) (fun c17 => ?_) (fun c17 => ?_)
    · refine zr_iconst zC dX5_askedText_28 ?_
      exact zm_iret zC zK hG dX5_askedText_29 (by unfold rfT; (repeat' split) <;> omega) (by unfold mRt; first | (rw [if_pos (by omega)]; exact hR) | (rw [if_neg (by omega)]; exact hR)) (sC_r _)
    · refine lv_aload_n zC.1 zC.2.1 dX5_askedText_20 rfl (lv_at hl 0 rfl) ?_
      refine zr_iconst zC dX5_askedText_21 ?_
      refine zr_callV zC hG (c_X5_meet (σ := σ) (f := 1) (by first | assumption | omega)) mt_X5_meet wl_X5_68 pM rfl rfl ⟨by decide, by decide⟩ rfl hl.1 rfl (Nat.le_of_ble_eq_true rfl) dX5_askedText_22 ⟨Nat.zero_le _, Nat.zero_le _⟩ (fun H locs hG => ?_)
      refine W.eq (g2 := F0 zm 25 ls [.int (zI (-3))]) rfl ?_
      refine lv_goto (tgt := 29) zC.1 zC.2.1 dX5_askedText_25 (by decide) ?_
      exact zm_iret zC zK hG dX5_askedText_29 (by unfold rfT; (repeat' split) <;> omega) (by unfold mRt; first | (rw [if_pos (by omega)]; exact (rl_fd hR (by omega))) | (rw [if_neg (by omega)]; exact (rl_fd hR (by omega)))) (sC_up (sC_up (sC_r _) (by decide)) (by decide))
  · refine zr_iconst zC dX5_askedText_7 ?_
    refine lv_goto (tgt := 29) zC.1 zC.2.1 dX5_askedText_8 (by decide) ?_
    exact zm_iret zC zK hG dX5_askedText_29 (by unfold rfT; (repeat' split) <;> omega) (by unfold mRt; first | (rw [if_pos (by omega)]; exact hR) | (rw [if_neg (by omega)]; exact hR)) (sC_r _)

set_option maxHeartbeats 4000000 in
set_option maxRecDepth 100000 in
theorem c_X5_row {Γ : Gm} {zl : Launch} {A : Nat → Prop} {τ σ : Mm} {r n : Int} (hR : Rel2 τ σ) (hI : IC τ) (hr : -2147483648 ≤ r ∧ r < 2147483648) (hn : -2147483648 ≤ n ∧ n < 2147483648) : Fr Γ zl A yX5_row cX5_row 4 (some .int) 2 42 [.ref (aM Γ), .int (zI r), .int (zI n)] σ (some (.int (zI (rC_row τ r n)))) (mC_row τ r n) := by
  refine Fr_of (by decide) (Nat.le_of_ble_eq_true rfl) ?_
  intro zp ze zs zm args below meth zc zQ H locs ls zC zK hG hl
  have hl : lv_has ls 4 [(0, .ref (aM Γ)), (1, .int (zI r)), (2, .int (zI n))] := hl
  obtain ⟨hmany, htoday, -⟩ := id hI
  refine lv_iload_n zC.1 zC.2.1 dX5_row_0 rfl (lv_at hl 1 rfl) ?_
  refine zr_callS zC hG (c_X5_isRow (σ := σ) (v := r) (by first | assumption | omega)) mt_X5_isRow wl_X5_64 ⟨by decide, by decide⟩ rfl hl.1 rfl (Nat.le_of_ble_eq_true rfl) dX5_row_1 ⟨Nat.zero_le _, Nat.zero_le _⟩ (fun H locs hG => ?_)
  refine W.eq (g2 := F0 zm 4 ls [.int (zI (zB (0 ≤ r ∧ r ≤ 5)))]) rfl ?_
  refine zr_ifeqB (tgt := 13) zC dX5_row_4 (by decide) (fun c4 => ?_) (fun c4 => ?_)
  · refine zr_iconst zC dX5_row_13 ?_
    exact zm_iret zC zK hG dX5_row_14 (by unfold rC_row; (repeat' split) <;> first | rfl | omega) (by unfold mC_row; (repeat' split) <;> first | exact hR | (exfalso; omega)) (sC_r _)
  · refine lv_iload_n zC.1 zC.2.1 dX5_row_7 rfl (lv_at hl 2 rfl) ?_
    refine zr_bipush zC dX5_row_8 (by decide +kernel) ?_
    refine zr_icmp_le (tgt := 15) zC dX5_row_10 (by decide) (by omega) (fun c10 => ?_) (fun c10 => ?_)
    · refine lv_iload_n zC.1 zC.2.1 dX5_row_15 rfl (lv_at hl 2 rfl) ?_
      refine zr_if_ge (tgt := 25) zC dX5_row_16 (by decide) (by omega) (fun c16 => ?_) (fun c16 => ?_)
      · refine lv_aload_n zC.1 zC.2.1 dX5_row_25 rfl (lv_at hl 0 rfl) ?_
        refine gf_M_sizes zC hG wl_X5_17 dX5_row_26 ?_
        refine lv_iload_n zC.1 zC.2.1 dX5_row_29 rfl (lv_at hl 1 rfl) ?_
        refine lv_iload_n zC.1 zC.2.1 dX5_row_30 rfl (lv_at hl 2 rfl) ?_
        refine pi_m_sizes zC hG (by omega) dX5_row_31 (fun H locs hG => ?_)
        refine zr_iconst zC dX5_row_32 ?_
        refine lv_istore_n (lv' := [(3, .int (zI 0)), (0, .ref (aM Γ)), (1, .int (zI r)), (2, .int (zI n))]) zC.1 zC.2.1 dX5_row_33 rfl hl (by decide) rfl (fun ls hl => ?_)
        have loop34 : ∀ (nf : Nat) (k : Int) (σ34q : Mm) (H : Heap) (locs : List Loc) (ls : Array Slot), (0 ≤ k ∧ k ≤ 40) → (Rel2 (mFill (up τ 2 r 1 n) 3 r k 0) σ34q) → (sC σ σ34q) → (40 - k < (nf : Int)) → GM Γ A σ34q zs H locs → lv_has ls 4 [(0, .ref (aM Γ)), (1, .int (zI r)), (2, .int (zI n)), (3, .int (zI k))] → W zp zl ze { frames := 2, cells := 0, slots := 0, locals := 42 } zs zm args below meth zc H locs 0 0 zQ (F0 zm 34 ls []) := by
          intro nf
          induction nf with
          | zero =>
            intro k σ34q H locs ls hk hR34q hC34q hm34 _ _
            exact absurd hm34 (by omega)
          | succ nf ih34 =>
            intro k σ34q H locs ls hk hR34q hC34q hm34 hG hl
            refine lv_iload_n zC.1 zC.2.1 dX5_row_34 rfl (lv_at hl 3 rfl) ?_
            refine zr_bipush zC dX5_row_35 (by decide +kernel) ?_
            refine zr_icmp_ge (tgt := 53) zC dX5_row_37 (by decide) (by omega) (fun c37 => ?_) (fun c37 => ?_)
            · refine lv_iload_n zC.1 zC.2.1 dX5_row_53 rfl (lv_at hl 2 rfl) ?_
              exact zm_iret zC zK hG dX5_row_54 (by unfold rC_row; (repeat' split) <;> first | rfl | omega) (by unfold mC_row; rw [if_neg (by omega), if_neg (by omega)]; rw [show k = 40 by omega] at hR34q; exact hR34q) hC34q
            · refine lv_aload_n zC.1 zC.2.1 dX5_row_40 rfl (lv_at hl 0 rfl) ?_
              refine lv_iload_n zC.1 zC.2.1 dX5_row_41 rfl (lv_at hl 1 rfl) ?_
              refine lv_iload_n zC.1 zC.2.1 dX5_row_42 rfl (lv_at hl 3 rfl) ?_
              refine zr_iconst zC dX5_row_43 ?_
              refine zr_callV zC hG (c_X5_setRow (σ := σ34q) (r := r) (x := k) (v := 0) (by first | assumption | omega) (by first | assumption | omega)) mt_X5_setRow wl_X5_75 pM rfl rfl ⟨by decide, by decide⟩ rfl hl.1 rfl (Nat.le_of_ble_eq_true rfl) dX5_row_44 ⟨Nat.zero_le _, Nat.zero_le _⟩ (fun H locs hG => ?_)
              refine W.eq (g2 := F0 zm 47 ls []) rfl ?_
              refine zr_iinc (lv' := [(3, .int (zI (k + 1))), (0, .ref (aM Γ)), (1, .int (zI r)), (2, .int (zI n))]) zC dX5_row_47 hl (k := 3) rfl (by decide) rfl (fun ls hl => ?_)
              refine lv_goto (tgt := 34) zC.1 zC.2.1 dX5_row_50 (by decide) ?_
              exact ih34 (k + 1) (up σ34q 23 0 ((40 * r) + k) 0) H locs ls (by first | assumption | omega) ((show up (mFill (up τ 2 r 1 n) 3 r k 0) 3 r k 0 = mFill (up τ 2 r 1 n) 3 r (k + 1) 0 from (mFill_s _ _ _ _ _ (by omega))) ▸ (rl_row hR34q (by omega) (by omega))) (sC_up hC34q (by decide)) (by omega) hG (lv_sub hl [1, 2, 3, 0] rfl)
        exact loop34 ((40 - 0 : Int).toNat + 1) 0 (up σ 22 0 r n) H locs ls (by first | assumption | omega) ((show up τ 2 r 1 n = mFill (up τ 2 r 1 n) 3 r 0 0 from (mFill_0 _ _ _ _)) ▸ (rl_sz hR (by unfold szM; first | rfl | rw [if_neg (by omega)] | rw [if_pos (by omega)]))) (sC_up (sC_r _) (by decide)) (by omega) hG (lv_sub hl [1, 2, 3, 0] rfl)
      · refine lv_aload_n zC.1 zC.2.1 dX5_row_19 rfl (lv_at hl 0 rfl) ?_
        refine zr_iconst zC dX5_row_20 ?_
        refine zr_callV zC hG (c_X5_meet (σ := σ) (f := 5) (by first | assumption | omega)) mt_X5_meet wl_X5_68 pM rfl rfl ⟨by decide, by decide⟩ rfl hl.1 rfl (Nat.le_of_ble_eq_true rfl) dX5_row_21 ⟨Nat.zero_le _, Nat.zero_le _⟩ (fun H locs hG => ?_)
        refine W.eq (g2 := F0 zm 24 ls [.int (zI (-3))]) rfl ?_
        exact zm_iret zC zK hG dX5_row_24 (by unfold rC_row; (repeat' split) <;> first | rfl | omega) (by unfold mC_row; (repeat' split) <;> first | exact (rl_fd hR (by omega)) | (exfalso; omega)) (sC_up (sC_up (sC_r _) (by decide)) (by decide))
    · refine zr_iconst zC dX5_row_13 ?_
      exact zm_iret zC zK hG dX5_row_14 (by unfold rC_row; (repeat' split) <;> first | rfl | omega) (by unfold mC_row; (repeat' split) <;> first | exact hR | (exfalso; omega)) (sC_r _)

set_option maxHeartbeats 4000000 in
set_option maxRecDepth 100000 in
theorem c_X5_at {Γ : Gm} {zl : Launch} {A : Nat → Prop} {τ σ : Mm} {r x : Int} (hR : Rel2 τ σ) (hI : IC τ) (hr : -2147483648 ≤ r ∧ r < 2147483648) (hx : -2147483648 ≤ x ∧ x < 2147483648) : Fr Γ zl A yX5_at cX5_at 4 (some .int) 3 63 [.ref (aM Γ), .int (zI r), .int (zI x)] σ (some (.int (zI (rC_at τ r x)))) (mC_at τ r x) := by
  refine Fr_of (by decide) (Nat.le_of_ble_eq_true rfl) ?_
  intro zp ze zs zm args below meth zc zQ H locs ls zC zK hG hl
  have hl : lv_has ls 4 [(0, .ref (aM Γ)), (1, .int (zI r)), (2, .int (zI x))] := hl
  obtain ⟨hmany, htoday, -⟩ := id hI
  refine lv_aload_n zC.1 zC.2.1 dX5_at_0 rfl (lv_at hl 0 rfl) ?_
  refine lv_iload_n zC.1 zC.2.1 dX5_at_1 rfl (lv_at hl 1 rfl) ?_
  refine zm_callV zC hG (c_X5_askedRow (τ := τ) (σ := σ) (r := r) hR hI (by first | assumption | omega)) mt_X5_askedRow wl_X5_79 pM rfl rfl ⟨by decide, by decide⟩ rfl hl.1 rfl (Nat.le_of_ble_eq_true rfl) dX5_at_2 ⟨Nat.zero_le _, Nat.zero_le _⟩ (fun σ2 H locs hR2 hC2 hG => ?_)
  refine W.eq (g2 := F0 zm 5 ls [.int (zI (rfR τ r))]) rfl ?_
  have b2_0 := rfR_r τ r
  refine lv_istore_n (lv' := [(3, .int (zI (rfR τ r))), (0, .ref (aM Γ)), (1, .int (zI r)), (2, .int (zI x))]) zC.1 zC.2.1 dX5_at_5 rfl hl (by decide) rfl (fun ls hl => ?_)
  refine lv_iload_n zC.1 zC.2.1 dX5_at_6 rfl (lv_at hl 0 rfl) ?_
  refine zr_if_ge (tgt := 12) zC dX5_at_7 (by decide) (by omega) (fun c7 => ?_) (fun c7 => ?_)
  · obtain ⟨h1, h2, h3⟩ := rfR_0 (show rfR τ r = 0 by omega)
    rw [h3] at hR2
    have h6 := hI.2.2.1 r (by omega) (by omega)
    refine lv_iload_n zC.1 zC.2.1 dX5_at_12 rfl (lv_at hl 3 rfl) ?_
    refine zr_iconst zC dX5_at_13 ?_
    refine lv_aload_n zC.1 zC.2.1 dX5_at_14 rfl (lv_at hl 1 rfl) ?_
    refine gf_M_sizes zC hG wl_X5_17 dX5_at_15 ?_
    refine lv_iload_n zC.1 zC.2.1 dX5_at_18 rfl (lv_at hl 2 rfl) ?_
    refine gi_m_sizes (v := szM (τ 2 r 1)) zC hG (by omega) (hR2.2.2.1 r (by omega) (by omega)) dX5_at_19 ?_
    have f19 := hI.2.2.1 r (by omega) (by omega)
    have f19s := szM_s (τ 2 r 1)
    refine zr_iconst zC dX5_at_20 ?_
    refine zr_isub zC dX5_at_21 ?_
    refine zr_callS zC hG (c_X5_in (σ := σ2) (v := x) (a := 0) (b := (szM (τ 2 r 1)) - 1) (by first | assumption | omega) (by first | assumption | omega) (by first | assumption | omega)) mt_X5_in wl_X5_60 ⟨by decide, by decide⟩ rfl hl.1 rfl (Nat.le_of_ble_eq_true rfl) dX5_at_22 ⟨Nat.zero_le _, Nat.zero_le _⟩ (fun H locs hG => ?_)
    refine W.eq (g2 := F0 zm 25 ls [.int (zI (zB (0 ≤ x ∧ x ≤ ((szM (τ 2 r 1)) - 1))))]) rfl ?_
    refine zr_ifeqB (tgt := 42) zC dX5_at_25 (by decide) (fun c25 => ?_) (fun c25 => ?_)
    · refine lv_aload_n zC.1 zC.2.1 dX5_at_42 rfl (lv_at hl 1 rfl) ?_
      refine zr_iconst zC dX5_at_43 ?_
      refine zr_callV zC hG (c_X5_meet (σ := σ2) (f := 2) (by first | assumption | omega)) mt_X5_meet wl_X5_68 pM rfl rfl ⟨by decide, by decide⟩ rfl hl.1 rfl (Nat.le_of_ble_eq_true rfl) dX5_at_44 ⟨Nat.zero_le _, Nat.zero_le _⟩ (fun H locs hG => ?_)
      refine W.eq (g2 := F0 zm 47 ls [.int (zI (-3))]) rfl ?_
      exact zm_iret zC zK hG dX5_at_47 (by unfold rC_at; obtain ⟨e1, e2⟩ := rfP_3 (x := x) (show rfR τ r = 0 by omega) (by omega); rw [e1, if_pos (by decide)]) (by unfold mC_at; obtain ⟨e1, e2⟩ := rfP_3 (x := x) (show rfR τ r = 0 by omega) (by omega); rw [e1, if_pos (by decide), e2]; exact (rl_fd hR2 (by omega))) (sC_up (sC_up (sC_t (sC_r _) hC2) (by decide)) (by decide))
    · refine lv_aload_n zC.1 zC.2.1 dX5_at_28 rfl (lv_at hl 1 rfl) ?_
      refine lv_aload_n zC.1 zC.2.1 dX5_at_29 rfl (lv_at hl 1 rfl) ?_
      refine lv_iload_n zC.1 zC.2.1 dX5_at_30 rfl (lv_at hl 2 rfl) ?_
      refine lv_iload_n zC.1 zC.2.1 dX5_at_31 rfl (lv_at hl 3 rfl) ?_
      refine zr_callV zC hG (c_X5_rowAt (τ := τ) (σ := σ2) (r := r) (x := x) hR2 hI (by first | assumption | omega) (by first | assumption | omega)) mt_X5_rowAt wl_X5_82 pM rfl rfl ⟨by decide, by decide⟩ rfl hl.1 rfl (Nat.le_of_ble_eq_true rfl) dX5_at_32 ⟨Nat.zero_le _, Nat.zero_le _⟩ (fun H locs hG => ?_)
      refine W.eq (g2 := F0 zm 35 ls [.int (zI (τ 3 r x)), .ref (aM Γ)]) rfl ?_
      have b32_0 := hI.2.2.2.1 r x (by omega) (by omega) (by omega) (by omega)
      refine zr_iconst zC dX5_at_35 ?_
      refine zr_callV zC hG (c_X5_ask (σ := σ2) (v := τ 3 r x) (w := 1)) mt_X5_ask wl_X5_86 pM rfl rfl ⟨by decide, by decide⟩ rfl hl.1 rfl (Nat.le_of_ble_eq_true rfl) dX5_at_36 ⟨Nat.zero_le _, Nat.zero_le _⟩ (fun H locs hG => ?_)
      refine W.eq (g2 := F0 zm 39 ls [.int (zI 1)]) rfl ?_
      refine lv_goto (tgt := 47) zC.1 zC.2.1 dX5_at_39 (by decide) ?_
      exact zm_iret zC zK hG dX5_at_47 (by unfold rC_at; obtain ⟨e1, e2⟩ := rfP_2 (x := x) (show rfR τ r = 0 by omega) (by omega); rw [e1, if_neg (fun z => z rfl)]) (by unfold mC_at; obtain ⟨e1, e2⟩ := rfP_2 (x := x) (show rfR τ r = 0 by omega) (by omega); rw [e1, if_neg (fun z => z rfl)]; exact (rl_ask hR2)) (sC_up (sC_t (sC_r _) hC2) (by decide))
  · refine lv_iload_n zC.1 zC.2.1 dX5_at_10 rfl (lv_at hl 0 rfl) ?_
    exact zm_iret zC zK hG dX5_at_11 (by unfold rC_at; obtain ⟨e1, e2⟩ := rfP_1 (x := x) (show rfR τ r ≠ 0 by omega); rw [e1, if_pos (by omega)]) (by unfold mC_at; obtain ⟨e1, e2⟩ := rfP_1 (x := x) (show rfR τ r ≠ 0 by omega); rw [e1, if_pos (by omega), e2]; exact hR2) (sC_t (sC_r _) hC2)

set_option maxHeartbeats 4000000 in
set_option maxRecDepth 100000 in
theorem c_X5_lay {Γ : Gm} {zl : Launch} {A : Nat → Prop} {τ σ : Mm} {r x v : Int} (hR : Rel2 τ σ) (hI : IC τ) (hr : -2147483648 ≤ r ∧ r < 2147483648) (hx : -2147483648 ≤ x ∧ x < 2147483648) (hv : -2147483648 ≤ v ∧ v < 2147483648) : Fr Γ zl A yX5_lay cX5_lay 5 (some .int) 4 86 [.ref (aM Γ), .int (zI r), .int (zI x), .int (zI v)] σ (some (.int (zI (rC_lay τ r x v)))) (mC_lay τ r x v) := by
  refine Fr_of (by decide) (Nat.le_of_ble_eq_true rfl) ?_
  intro zp ze zs zm args below meth zc zQ H locs ls zC zK hG hl
  have hl : lv_has ls 5 [(0, .ref (aM Γ)), (1, .int (zI r)), (2, .int (zI x)), (3, .int (zI v))] := hl
  obtain ⟨hmany, htoday, -⟩ := id hI
  refine lv_aload_n zC.1 zC.2.1 dX5_lay_0 rfl (lv_at hl 0 rfl) ?_
  refine lv_iload_n zC.1 zC.2.1 dX5_lay_1 rfl (lv_at hl 1 rfl) ?_
  refine lv_iload_n zC.1 zC.2.1 dX5_lay_2 rfl (lv_at hl 2 rfl) ?_
  refine zm_callV zC hG (c_X5_at (τ := τ) (σ := σ) (r := r) (x := x) hR hI (by first | assumption | omega) (by first | assumption | omega)) mt_X5_at wl_X5_89 pM rfl rfl ⟨by decide, by decide⟩ rfl hl.1 rfl (Nat.le_of_ble_eq_true rfl) dX5_lay_3 ⟨Nat.zero_le _, Nat.zero_le _⟩ (fun σ3 H locs hR3 hC3 hG => ?_)
  refine W.eq (g2 := F0 zm 6 ls [.int (zI (rC_at τ r x))]) rfl ?_
  have b3_0 := at_r τ r x
  refine lv_istore (lv' := [(4, .int (zI (rC_at τ r x))), (0, .ref (aM Γ)), (1, .int (zI r)), (2, .int (zI x)), (3, .int (zI v))]) zC.1 zC.2.1 dX5_lay_6 hl (by decide) rfl (fun ls hl => ?_)
  refine lv_iload zC.1 zC.2.1 dX5_lay_8 (lv_at hl 0 rfl) ?_
  refine zr_if_ge (tgt := 16) zC dX5_lay_10 (by decide) (by omega) (fun c10 => ?_) (fun c10 => ?_)
  · obtain ⟨h1, h2⟩ := at_0 c10
    obtain ⟨h3, h4, -⟩ := rfP_0 h1
    rw [h2] at hR3
    have h6 := hI.2.2.1 r (by omega) (by omega)
    refine lv_aload_n zC.1 zC.2.1 dX5_lay_16 rfl (lv_at hl 1 rfl) ?_
    refine lv_iload_n zC.1 zC.2.1 dX5_lay_17 rfl (lv_at hl 2 rfl) ?_
    refine lv_iload_n zC.1 zC.2.1 dX5_lay_18 rfl (lv_at hl 3 rfl) ?_
    refine lv_iload_n zC.1 zC.2.1 dX5_lay_19 rfl (lv_at hl 4 rfl) ?_
    refine zr_callV zC hG (c_X5_setRow (σ := σ3) (r := r) (x := x) (v := v) (by first | assumption | omega) (by first | assumption | omega)) mt_X5_setRow wl_X5_75 pM rfl rfl ⟨by decide, by decide⟩ rfl hl.1 rfl (Nat.le_of_ble_eq_true rfl) dX5_lay_20 ⟨Nat.zero_le _, Nat.zero_le _⟩ (fun H locs hG => ?_)
    refine W.eq (g2 := F0 zm 23 ls []) rfl ?_
    refine zr_iconst zC dX5_lay_23 ?_
    exact zm_iret zC zK hG dX5_lay_24 (by unfold rC_lay; rw [if_neg (fun z => z h1)]) (by unfold mC_lay; rw [if_neg (fun z => z h1)]; exact (rl_row hR3 (by omega) (by omega))) (sC_up (sC_t (sC_r _) hC3) (by decide))
  · obtain ⟨h1, h2, h3⟩ := at_1 c10
    refine lv_iload zC.1 zC.2.1 dX5_lay_13 (lv_at hl 0 rfl) ?_
    exact zm_iret zC zK hG dX5_lay_15 (by unfold rC_lay; rw [if_pos h1, h2]) (by unfold mC_lay; rw [if_pos h1, ← h3]; exact hR3) (sC_t (sC_r _) hC3)

set_option maxHeartbeats 4000000 in
set_option maxRecDepth 100000 in
theorem c_X5_tear {Γ : Gm} {zl : Launch} {A : Nat → Prop} {τ σ : Mm} {r : Int} (hR : Rel2 τ σ) (hI : IC τ) (hr : -2147483648 ≤ r ∧ r < 2147483648) : Fr Γ zl A yX5_tear cX5_tear 3 (some .int) 3 63 [.ref (aM Γ), .int (zI r)] σ (some (.int (zI (rC_tear τ r)))) (mC_tear τ r) := by
  refine Fr_of (by decide) (Nat.le_of_ble_eq_true rfl) ?_
  intro zp ze zs zm args below meth zc zQ H locs ls zC zK hG hl
  have hl : lv_has ls 3 [(0, .ref (aM Γ)), (1, .int (zI r))] := hl
  obtain ⟨hmany, htoday, -⟩ := id hI
  refine lv_aload_n zC.1 zC.2.1 dX5_tear_0 rfl (lv_at hl 0 rfl) ?_
  refine lv_iload_n zC.1 zC.2.1 dX5_tear_1 rfl (lv_at hl 1 rfl) ?_
  refine zm_callV zC hG (c_X5_askedRow (τ := τ) (σ := σ) (r := r) hR hI (by first | assumption | omega)) mt_X5_askedRow wl_X5_79 pM rfl rfl ⟨by decide, by decide⟩ rfl hl.1 rfl (Nat.le_of_ble_eq_true rfl) dX5_tear_2 ⟨Nat.zero_le _, Nat.zero_le _⟩ (fun σ2 H locs hR2 hC2 hG => ?_)
  refine W.eq (g2 := F0 zm 5 ls [.int (zI (rfR τ r))]) rfl ?_
  have b2_0 := rfR_r τ r
  refine lv_istore_n (lv' := [(2, .int (zI (rfR τ r))), (0, .ref (aM Γ)), (1, .int (zI r))]) zC.1 zC.2.1 dX5_tear_5 rfl hl (by decide) rfl (fun ls hl => ?_)
  refine lv_iload_n zC.1 zC.2.1 dX5_tear_6 rfl (lv_at hl 0 rfl) ?_
  refine zr_if_ge (tgt := 12) zC dX5_tear_7 (by decide) (by omega) (fun c7 => ?_) (fun c7 => ?_)
  · obtain ⟨h1, h2, h3⟩ := rfR_0 (show rfR τ r = 0 by omega)
    rw [h3] at hR2
    have h6 := hI.2.2.1 r (by omega) (by omega)
    refine lv_aload_n zC.1 zC.2.1 dX5_tear_12 rfl (lv_at hl 1 rfl) ?_
    refine gf_M_sizes zC hG wl_X5_17 dX5_tear_13 ?_
    refine lv_iload_n zC.1 zC.2.1 dX5_tear_16 rfl (lv_at hl 2 rfl) ?_
    refine zr_bipush zC dX5_tear_17 (by decide +kernel) ?_
    refine pi_m_sizes zC hG (by omega) dX5_tear_19 (fun H locs hG => ?_)
    refine zr_iconst zC dX5_tear_20 ?_
    exact zm_iret zC zK hG dX5_tear_21 (by unfold rC_tear; (repeat' split) <;> first | rfl | omega) (by unfold mC_tear; (repeat' split) <;> first | exact (rl_sz hR2 (by unfold szM; first | rfl | rw [if_neg (by omega)] | rw [if_pos (by omega)])) | (exfalso; omega)) (sC_up (sC_t (sC_r _) hC2) (by decide))
  · refine lv_iload_n zC.1 zC.2.1 dX5_tear_10 rfl (lv_at hl 0 rfl) ?_
    exact zm_iret zC zK hG dX5_tear_11 (by unfold rC_tear; (repeat' split) <;> first | rfl | omega) (by unfold mC_tear; (repeat' split) <;> first | exact hR2 | (exfalso; omega)) (sC_t (sC_r _) hC2)

set_option maxHeartbeats 4000000 in
set_option maxRecDepth 100000 in
theorem c_X5_mean {Γ : Gm} {zl : Launch} {A : Nat → Prop} {τ σ : Mm} {r : Int} (hR : Rel2 τ σ) (hI : IC τ) (hr : -2147483648 ≤ r ∧ r < 2147483648) : Fr Γ zl A yX5_mean cX5_mean 6 (some .int) 3 63 [.ref (aM Γ), .int (zI r)] σ (some (.int (zI (rC_mean τ r)))) (mC_mean τ r) := by
  refine Fr_of (by decide) (Nat.le_of_ble_eq_true rfl) ?_
  intro zp ze zs zm args below meth zc zQ H locs ls zC zK hG hl
  have hl : lv_has ls 6 [(0, .ref (aM Γ)), (1, .int (zI r))] := hl
  obtain ⟨hmany, htoday, -⟩ := id hI
  refine lv_aload_n zC.1 zC.2.1 dX5_mean_0 rfl (lv_at hl 0 rfl) ?_
  refine lv_iload_n zC.1 zC.2.1 dX5_mean_1 rfl (lv_at hl 1 rfl) ?_
  refine zm_callV zC hG (c_X5_askedRow (τ := τ) (σ := σ) (r := r) hR hI (by first | assumption | omega)) mt_X5_askedRow wl_X5_79 pM rfl rfl ⟨by decide, by decide⟩ rfl hl.1 rfl (Nat.le_of_ble_eq_true rfl) dX5_mean_2 ⟨Nat.zero_le _, Nat.zero_le _⟩ (fun σ2 H locs hR2 hC2 hG => ?_)
  refine W.eq (g2 := F0 zm 5 ls [.int (zI (rfR τ r))]) rfl ?_
  have b2_0 := rfR_r τ r
  refine lv_istore_n (lv' := [(2, .int (zI (rfR τ r))), (0, .ref (aM Γ)), (1, .int (zI r))]) zC.1 zC.2.1 dX5_mean_5 rfl hl (by decide) rfl (fun ls hl => ?_)
  refine lv_iload_n zC.1 zC.2.1 dX5_mean_6 rfl (lv_at hl 0 rfl) ?_
  refine zr_if_ge (tgt := 12) zC dX5_mean_7 (by decide) (by omega) (fun c7 => ?_) (fun c7 => ?_)
  · obtain ⟨h1, h2, h3⟩ := rfR_0 (show rfR τ r = 0 by omega)
    rw [h3] at hR2
    have h6 := hI.2.2.1 r (by omega) (by omega)
    have h7 := smI_r (f := (fun j => τ 3 r j)) (n := (τ 2 r 1).toNat) (fun j a b => hI.2.2.2.1 r j (by omega) (by omega) a (by omega))
    refine zr_lconst (z := 0) zC dX5_mean_12 (by decide +kernel) ?_
    refine lv_lstore_n (lv' := [(3, .long (zL 0)), (2, .int (zI (rfR τ r))), (0, .ref (aM Γ)), (1, .int (zI r))]) zC.1 zC.2.1 dX5_mean_13 rfl hl (by decide) rfl (fun ls hl => ?_)
    refine zr_iconst zC dX5_mean_14 ?_
    refine lv_istore (lv' := [(5, .int (zI 0)), (3, .long (zL 0)), (2, .int (zI (rfR τ r))), (0, .ref (aM Γ)), (1, .int (zI r))]) zC.1 zC.2.1 dX5_mean_15 hl (by decide) rfl (fun ls hl => ?_)
    have loop17 : ∀ (nf : Nat) (u q : Int) (σ17q : Mm) (H : Heap) (locs : List Loc) (ls : Array Slot), (0 ≤ q ∧ q ≤ τ 2 r 1) → (u = smI (fun j => τ 3 r j) q.toNat) → (Rel2 τ σ17q) → (sC σ σ17q) → (41 - q < (nf : Int)) → GM Γ A σ17q zs H locs → lv_has ls 6 [(0, .ref (aM Γ)), (1, .int (zI r)), (2, .int (zI (rfR τ r))), (3, .long (zL u)), (5, .int (zI q))] → W zp zl ze { frames := 3, cells := 0, slots := 0, locals := 63 } zs zm args below meth zc H locs 0 0 zQ (F0 zm 17 ls []) := by
      intro nf
      induction nf with
      | zero =>
        intro u q σ17q H locs ls hq hu hR17q hC17q hm17 _ _
        exact absurd hm17 (by omega)
      | succ nf ih17 =>
        intro u q σ17q H locs ls hq hu hR17q hC17q hm17 hG hl
        refine lv_iload zC.1 zC.2.1 dX5_mean_17 (lv_at hl 4 rfl) ?_
        refine lv_aload_n zC.1 zC.2.1 dX5_mean_19 rfl (lv_at hl 0 rfl) ?_
        refine gf_M_sizes zC hG wl_X5_17 dX5_mean_20 ?_
        refine lv_iload_n zC.1 zC.2.1 dX5_mean_23 rfl (lv_at hl 1 rfl) ?_
        refine gi_m_sizes (v := szM (τ 2 r 1)) zC hG (by omega) (hR17q.2.2.1 r (by omega) (by omega)) dX5_mean_24 ?_
        have f24 := hI.2.2.1 r (by omega) (by omega)
        have f24s := szM_s (τ 2 r 1)
        refine zr_icmp_ge (tgt := 45) zC dX5_mean_25 (by decide) (by omega) (fun c25 => ?_) (fun c25 => ?_)
        · have eu : u = smI (fun j => τ 3 r j) (τ 2 r 1).toNat := by rw [hu, show q = τ 2 r 1 by omega]
          refine lv_aload_n zC.1 zC.2.1 dX5_mean_45 rfl (lv_at hl 0 rfl) ?_
          refine gf_M_sizes zC hG wl_X5_17 dX5_mean_46 ?_
          refine lv_iload_n zC.1 zC.2.1 dX5_mean_49 rfl (lv_at hl 1 rfl) ?_
          refine gi_m_sizes (v := szM (τ 2 r 1)) zC hG (by omega) (hR17q.2.2.1 r (by omega) (by omega)) dX5_mean_50 ?_
          have f50 := hI.2.2.1 r (by omega) (by omega)
          have f50s := szM_s (τ 2 r 1)
          refine zr_if_ne (tgt := 62) zC dX5_mean_51 (by decide) (by omega) (fun c51 => ?_) (fun c51 => ?_)
          · refine lv_aload_n zC.1 zC.2.1 dX5_mean_62 rfl (lv_at hl 0 rfl) ?_
            refine lv_lload_n zC.1 zC.2.1 dX5_mean_63 rfl (lv_at hl 3 rfl) ?_
            refine lv_aload_n zC.1 zC.2.1 dX5_mean_64 rfl (lv_at hl 0 rfl) ?_
            refine gf_M_sizes zC hG wl_X5_17 dX5_mean_65 ?_
            refine lv_iload_n zC.1 zC.2.1 dX5_mean_68 rfl (lv_at hl 1 rfl) ?_
            refine gi_m_sizes (v := szM (τ 2 r 1)) zC hG (by omega) (hR17q.2.2.1 r (by omega) (by omega)) dX5_mean_69 ?_
            have f69 := hI.2.2.1 r (by omega) (by omega)
            have f69s := szM_s (τ 2 r 1)
            refine zr_topi (y := τ 2 r 1) (by omega) ?_
            refine zr_i2l zC dX5_mean_70 (by omega) ?_
            refine zr_ldiv zC dX5_mean_71 (by omega) ?_
            refine zr_l2i zC dX5_mean_72 ?_
            refine zr_iconst zC dX5_mean_73 ?_
            refine zr_callV zC hG (c_X5_ask (σ := σ17q) (v := Int.tdiv u (τ 2 r 1)) (w := 1)) mt_X5_ask wl_X5_86 pM rfl rfl ⟨by decide, by decide⟩ rfl hl.1 rfl (Nat.le_of_ble_eq_true rfl) dX5_mean_74 ⟨Nat.zero_le _, Nat.zero_le _⟩ (fun H locs hG => ?_)
            refine W.eq (g2 := F0 zm 77 ls [.int (zI 1)]) rfl ?_
            exact zm_iret zC zK hG dX5_mean_77 (by unfold rC_mean; (repeat' split) <;> first | rfl | omega) (by unfold mC_mean; rw [if_neg (by omega)]; first | (rw [if_pos (by omega)]; exact (rl_ask hR17q)) | (rw [if_neg (by omega), ← eu]; exact (rl_ask hR17q))) (sC_up hC17q (by decide))
          · refine lv_aload_n zC.1 zC.2.1 dX5_mean_54 rfl (lv_at hl 0 rfl) ?_
            refine zr_iconst zC dX5_mean_55 ?_
            refine zr_callV zC hG (c_X5_meet (σ := σ17q) (f := 4) (by first | assumption | omega)) mt_X5_meet wl_X5_68 pM rfl rfl ⟨by decide, by decide⟩ rfl hl.1 rfl (Nat.le_of_ble_eq_true rfl) dX5_mean_56 ⟨Nat.zero_le _, Nat.zero_le _⟩ (fun H locs hG => ?_)
            refine W.eq (g2 := F0 zm 59 ls [.int (zI (-3))]) rfl ?_
            refine lv_goto (tgt := 77) zC.1 zC.2.1 dX5_mean_59 (by decide) ?_
            exact zm_iret zC zK hG dX5_mean_77 (by unfold rC_mean; (repeat' split) <;> first | rfl | omega) (by unfold mC_mean; rw [if_neg (by omega)]; first | (rw [if_pos (by omega)]; exact (rl_fd hR17q (by omega))) | (rw [if_neg (by omega), ← eu]; exact (rl_fd hR17q (by omega)))) (sC_up (sC_up hC17q (by decide)) (by decide))
        · refine lv_lload_n zC.1 zC.2.1 dX5_mean_28 rfl (lv_at hl 3 rfl) ?_
          refine lv_aload_n zC.1 zC.2.1 dX5_mean_29 rfl (lv_at hl 0 rfl) ?_
          refine lv_iload_n zC.1 zC.2.1 dX5_mean_30 rfl (lv_at hl 1 rfl) ?_
          refine lv_iload zC.1 zC.2.1 dX5_mean_31 (lv_at hl 4 rfl) ?_
          refine zr_callV zC hG (c_X5_rowAt (τ := τ) (σ := σ17q) (r := r) (x := q) hR17q hI (by first | assumption | omega) (by first | assumption | omega)) mt_X5_rowAt wl_X5_82 pM rfl rfl ⟨by decide, by decide⟩ rfl hl.1 rfl (Nat.le_of_ble_eq_true rfl) dX5_mean_33 ⟨Nat.zero_le _, Nat.zero_le _⟩ (fun H locs hG => ?_)
          refine W.eq (g2 := F0 zm 36 ls [.int (zI (τ 3 r q)), .long (zL u)]) rfl ?_
          have b33_0 := hI.2.2.2.1 r q (by omega) (by omega) (by omega) (by omega)
          refine zr_i2l zC dX5_mean_36 (by omega) ?_
          refine zr_ladd zC dX5_mean_37 ?_
          refine lv_lstore_n (lv' := [(3, .long (zL (u + (τ 3 r q)))), (0, .ref (aM Γ)), (1, .int (zI r)), (2, .int (zI (rfR τ r))), (5, .int (zI q))]) zC.1 zC.2.1 dX5_mean_38 rfl hl (by decide) rfl (fun ls hl => ?_)
          refine zr_iinc (lv' := [(5, .int (zI (q + 1))), (3, .long (zL (u + (τ 3 r q)))), (0, .ref (aM Γ)), (1, .int (zI r)), (2, .int (zI (rfR τ r)))]) zC dX5_mean_39 hl (k := 4) rfl (by decide) rfl (fun ls hl => ?_)
          refine lv_goto (tgt := 17) zC.1 zC.2.1 dX5_mean_42 (by decide) ?_
          exact ih17 (u + (τ 3 r q)) (q + 1) σ17q H locs ls (by first | assumption | omega) (by rw [smI_s hq.1, hu]) hR17q hC17q (by omega) hG (lv_sub hl [2, 3, 4, 1, 0] rfl)
    exact loop17 ((41 - 0 : Int).toNat + 1) 0 0 σ2 H locs ls (by first | assumption | omega) rfl hR2 (sC_t (sC_r _) hC2) (by omega) hG (lv_sub hl [3, 4, 2, 1, 0] rfl)
  · refine lv_iload_n zC.1 zC.2.1 dX5_mean_10 rfl (lv_at hl 0 rfl) ?_
    exact zm_iret zC zK hG dX5_mean_11 (by unfold rC_mean; (repeat' split) <;> first | rfl | omega) (by unfold mC_mean; (repeat' split) <;> first | exact hR2 | (exfalso; omega)) (sC_t (sC_r _) hC2)

set_option maxHeartbeats 4000000 in
set_option maxRecDepth 100000 in
theorem c_X5_order {Γ : Gm} {zl : Launch} {A : Nat → Prop} {τ σ : Mm} {c d : Int} (hR : Rel2 τ σ) (hI : IC τ) (hc : -2147483648 ≤ c ∧ c < 2147483648) (hd : -2147483648 ≤ d ∧ d < 2147483648) : Fr Γ zl A yX5_order cX5_order 4 (some .int) 2 43 [.ref (aM Γ), .int (zI c), .int (zI d)] σ (some (.int (zI (rC_order τ c d)))) (mC_order τ c d) := by
  refine Fr_of (by decide) (Nat.le_of_ble_eq_true rfl) ?_
  intro zp ze zs zm args below meth zc zQ H locs ls zC zK hG hl
  have hl : lv_has ls 4 [(0, .ref (aM Γ)), (1, .int (zI c)), (2, .int (zI d))] := hl
  obtain ⟨hmany, htoday, -⟩ := id hI
  refine lv_aload_n zC.1 zC.2.1 dX5_order_0 rfl (lv_at hl 0 rfl) ?_
  refine lv_iload_n zC.1 zC.2.1 dX5_order_1 rfl (lv_at hl 1 rfl) ?_
  refine zr_callV zC hG (c_X5_isTown (τ := τ) (σ := σ) (c := c) hR hI (by first | assumption | omega)) mt_X5_isTown wl_X5_169 pM rfl rfl ⟨by decide, by decide⟩ rfl hl.1 rfl (Nat.le_of_ble_eq_true rfl) dX5_order_2 ⟨Nat.zero_le _, Nat.zero_le _⟩ (fun H locs hG => ?_)
  refine W.eq (g2 := F0 zm 5 ls [.int (zI (zB (isT τ c)))]) rfl ?_
  refine zr_ifeqB (tgt := 19) zC dX5_order_5 (by decide) (fun c5 => ?_) (fun c5 => ?_)
  · refine zr_iconst zC dX5_order_19 ?_
    exact zm_iret zC zK hG dX5_order_20 (by unfold rC_order; (repeat' split) <;> first | rfl | omega) (by unfold mC_order; (repeat' split) <;> first | exact hR | (exfalso; omega)) (sC_r _)
  · refine lv_iload_n zC.1 zC.2.1 dX5_order_8 rfl (lv_at hl 2 rfl) ?_
    refine zr_iconst zC dX5_order_9 ?_
    refine zr_sipush zC dX5_order_10 (by decide +kernel) ?_
    refine zr_callS zC hG (c_X5_in (σ := σ) (v := d) (a := 0) (b := 9999) (by first | assumption | omega) (by first | assumption | omega) (by first | assumption | omega)) mt_X5_in wl_X5_60 ⟨by decide, by decide⟩ rfl hl.1 rfl (Nat.le_of_ble_eq_true rfl) dX5_order_13 ⟨Nat.zero_le _, Nat.zero_le _⟩ (fun H locs hG => ?_)
    refine W.eq (g2 := F0 zm 16 ls [.int (zI (zB (0 ≤ d ∧ d ≤ 9999)))]) rfl ?_
    refine zr_ifneB (tgt := 21) zC dX5_order_16 (by decide) (fun c16 => ?_) (fun c16 => ?_)
    · refine lv_aload_n zC.1 zC.2.1 dX5_order_21 rfl (lv_at hl 0 rfl) ?_
      refine gf_M_orderOf zC hG wl_X5_38 dX5_order_22 ?_
      refine lv_iload_n zC.1 zC.2.1 dX5_order_25 rfl (lv_at hl 1 rfl) ?_
      refine gi_m_orderOf (v := τ 6 c 2) zC hG (by omega) (hR.2.2.2.2.2.2.1 c (by omega) (by omega)).2.2.1 dX5_order_26 ?_
      obtain ⟨f26a, f26b, f26c, f26d⟩ := hI.2.2.2.2.2.2.1 c (by omega) (by omega)
      refine lv_istore_n (lv' := [(3, .int (zI (τ 6 c 2))), (0, .ref (aM Γ)), (1, .int (zI c)), (2, .int (zI d))]) zC.1 zC.2.1 dX5_order_27 rfl hl (by decide) rfl (fun ls hl => ?_)
      refine lv_aload_n zC.1 zC.2.1 dX5_order_28 rfl (lv_at hl 1 rfl) ?_
      refine gf_M_orderOf zC hG wl_X5_38 dX5_order_29 ?_
      refine lv_iload_n zC.1 zC.2.1 dX5_order_32 rfl (lv_at hl 2 rfl) ?_
      refine lv_iload_n zC.1 zC.2.1 dX5_order_33 rfl (lv_at hl 3 rfl) ?_
      refine pi_m_orderOf zC hG (by omega) dX5_order_34 (fun H locs hG => ?_)
      refine lv_iload_n zC.1 zC.2.1 dX5_order_35 rfl (lv_at hl 0 rfl) ?_
      exact zm_iret zC zK hG dX5_order_36 (by unfold rC_order; (repeat' split) <;> first | rfl | omega) (by unfold mC_order; (repeat' split) <;> first | exact (rl_ord hR) | (exfalso; omega)) (sC_up (sC_r _) (by decide))
    · refine zr_iconst zC dX5_order_19 ?_
      exact zm_iret zC zK hG dX5_order_20 (by unfold rC_order; (repeat' split) <;> first | rfl | omega) (by unfold mC_order; (repeat' split) <;> first | exact hR | (exfalso; omega)) (sC_r _)

set_option maxHeartbeats 4000000 in
set_option maxRecDepth 100000 in
theorem c_X5_gap {Γ : Gm} {zl : Launch} {A : Nat → Prop} {τ σ : Mm} {c v : Int} (hR : Rel2 τ σ) (hI : IC τ) (hc : -2147483648 ≤ c ∧ c < 2147483648) (hv : -2147483648 ≤ v ∧ v < 2147483648) : Fr Γ zl A yX5_gap cX5_gap 4 (some .int) 2 43 [.ref (aM Γ), .int (zI c), .int (zI v)] σ (some (.int (zI (rC_gap τ c v)))) (mC_gap τ c v) := by
  refine Fr_of (by decide) (Nat.le_of_ble_eq_true rfl) ?_
  intro zp ze zs zm args below meth zc zQ H locs ls zC zK hG hl
  have hl : lv_has ls 4 [(0, .ref (aM Γ)), (1, .int (zI c)), (2, .int (zI v))] := hl
  obtain ⟨hmany, htoday, -⟩ := id hI
  refine lv_aload_n zC.1 zC.2.1 dX5_gap_0 rfl (lv_at hl 0 rfl) ?_
  refine lv_iload_n zC.1 zC.2.1 dX5_gap_1 rfl (lv_at hl 1 rfl) ?_
  refine zr_callV zC hG (c_X5_isTown (τ := τ) (σ := σ) (c := c) hR hI (by first | assumption | omega)) mt_X5_isTown wl_X5_169 pM rfl rfl ⟨by decide, by decide⟩ rfl hl.1 rfl (Nat.le_of_ble_eq_true rfl) dX5_gap_2 ⟨Nat.zero_le _, Nat.zero_le _⟩ (fun H locs hG => ?_)
  refine W.eq (g2 := F0 zm 5 ls [.int (zI (zB (isT τ c)))]) rfl ?_
  refine zr_ifeqB (tgt := 18) zC dX5_gap_5 (by decide) (fun c5 => ?_) (fun c5 => ?_)
  · refine zr_iconst zC dX5_gap_18 ?_
    exact zm_iret zC zK hG dX5_gap_19 (by unfold rC_gap; (repeat' split) <;> first | rfl | omega) (by unfold mC_gap; (repeat' split) <;> first | exact hR | (exfalso; omega)) (sC_r _)
  · refine lv_iload_n zC.1 zC.2.1 dX5_gap_8 rfl (lv_at hl 2 rfl) ?_
    refine zr_iconst zC dX5_gap_9 ?_
    refine zr_bipush zC dX5_gap_10 (by decide +kernel) ?_
    refine zr_callS zC hG (c_X5_in (σ := σ) (v := v) (a := 0) (b := 9) (by first | assumption | omega) (by first | assumption | omega) (by first | assumption | omega)) mt_X5_in wl_X5_60 ⟨by decide, by decide⟩ rfl hl.1 rfl (Nat.le_of_ble_eq_true rfl) dX5_gap_12 ⟨Nat.zero_le _, Nat.zero_le _⟩ (fun H locs hG => ?_)
    refine W.eq (g2 := F0 zm 15 ls [.int (zI (zB (0 ≤ v ∧ v ≤ 9)))]) rfl ?_
    refine zr_ifneB (tgt := 20) zC dX5_gap_15 (by decide) (fun c15 => ?_) (fun c15 => ?_)
    · refine lv_aload_n zC.1 zC.2.1 dX5_gap_20 rfl (lv_at hl 0 rfl) ?_
      refine gf_M_gapOf zC hG wl_X5_41 dX5_gap_21 ?_
      refine lv_iload_n zC.1 zC.2.1 dX5_gap_24 rfl (lv_at hl 1 rfl) ?_
      refine gi_m_gapOf (v := τ 6 c 3) zC hG (by omega) (hR.2.2.2.2.2.2.1 c (by omega) (by omega)).2.2.2 dX5_gap_25 ?_
      obtain ⟨f25a, f25b, f25c, f25d⟩ := hI.2.2.2.2.2.2.1 c (by omega) (by omega)
      refine lv_istore_n (lv' := [(3, .int (zI (τ 6 c 3))), (0, .ref (aM Γ)), (1, .int (zI c)), (2, .int (zI v))]) zC.1 zC.2.1 dX5_gap_26 rfl hl (by decide) rfl (fun ls hl => ?_)
      refine lv_aload_n zC.1 zC.2.1 dX5_gap_27 rfl (lv_at hl 1 rfl) ?_
      refine gf_M_gapOf zC hG wl_X5_41 dX5_gap_28 ?_
      refine lv_iload_n zC.1 zC.2.1 dX5_gap_31 rfl (lv_at hl 2 rfl) ?_
      refine lv_iload_n zC.1 zC.2.1 dX5_gap_32 rfl (lv_at hl 3 rfl) ?_
      refine pi_m_gapOf zC hG (by omega) dX5_gap_33 (fun H locs hG => ?_)
      refine lv_iload_n zC.1 zC.2.1 dX5_gap_34 rfl (lv_at hl 0 rfl) ?_
      exact zm_iret zC zK hG dX5_gap_35 (by unfold rC_gap; (repeat' split) <;> first | rfl | omega) (by unfold mC_gap; (repeat' split) <;> first | exact (rl_gap hR) | (exfalso; omega)) (sC_up (sC_r _) (by decide))
    · refine zr_iconst zC dX5_gap_18 ?_
      exact zm_iret zC zK hG dX5_gap_19 (by unfold rC_gap; (repeat' split) <;> first | rfl | omega) (by unfold mC_gap; (repeat' split) <;> first | exact hR | (exfalso; omega)) (sC_r _)

set_option maxHeartbeats 4000000 in
set_option maxRecDepth 100000 in
theorem c_X5_leap {Γ : Gm} {zl : Launch} {A : Nat → Prop} {τ σ : Mm} {c v : Int} (hR : Rel2 τ σ) (hI : IC τ) (hc : -2147483648 ≤ c ∧ c < 2147483648) (hv : -2147483648 ≤ v ∧ v < 2147483648) : Fr Γ zl A yX5_leap cX5_leap 4 (some .int) 2 43 [.ref (aM Γ), .int (zI c), .int (zI v)] σ (some (.int (zI (rC_leap τ c v)))) (mC_leap τ c v) := by
  refine Fr_of (by decide) (Nat.le_of_ble_eq_true rfl) ?_
  intro zp ze zs zm args below meth zc zQ H locs ls zC zK hG hl
  have hl : lv_has ls 4 [(0, .ref (aM Γ)), (1, .int (zI c)), (2, .int (zI v))] := hl
  obtain ⟨hmany, htoday, -⟩ := id hI
  refine lv_aload_n zC.1 zC.2.1 dX5_leap_0 rfl (lv_at hl 0 rfl) ?_
  refine lv_iload_n zC.1 zC.2.1 dX5_leap_1 rfl (lv_at hl 1 rfl) ?_
  refine zr_callV zC hG (c_X5_isTown (τ := τ) (σ := σ) (c := c) hR hI (by first | assumption | omega)) mt_X5_isTown wl_X5_169 pM rfl rfl ⟨by decide, by decide⟩ rfl hl.1 rfl (Nat.le_of_ble_eq_true rfl) dX5_leap_2 ⟨Nat.zero_le _, Nat.zero_le _⟩ (fun H locs hG => ?_)
  refine W.eq (g2 := F0 zm 5 ls [.int (zI (zB (isT τ c)))]) rfl ?_
  refine zr_ifeqB (tgt := 18) zC dX5_leap_5 (by decide) (fun c5 => ?_) (fun c5 => ?_)
  · refine zr_iconst zC dX5_leap_18 ?_
    exact zm_iret zC zK hG dX5_leap_19 (by unfold rC_leap; (repeat' split) <;> first | rfl | omega) (by unfold mC_leap; (repeat' split) <;> first | exact hR | (exfalso; omega)) (sC_r _)
  · refine lv_iload_n zC.1 zC.2.1 dX5_leap_8 rfl (lv_at hl 2 rfl) ?_
    refine zr_iconst zC dX5_leap_9 ?_
    refine zr_bipush zC dX5_leap_10 (by decide +kernel) ?_
    refine zr_callS zC hG (c_X5_in (σ := σ) (v := v) (a := 2) (b := 9) (by first | assumption | omega) (by first | assumption | omega) (by first | assumption | omega)) mt_X5_in wl_X5_60 ⟨by decide, by decide⟩ rfl hl.1 rfl (Nat.le_of_ble_eq_true rfl) dX5_leap_12 ⟨Nat.zero_le _, Nat.zero_le _⟩ (fun H locs hG => ?_)
    refine W.eq (g2 := F0 zm 15 ls [.int (zI (zB (2 ≤ v ∧ v ≤ 9)))]) rfl ?_
    refine zr_ifneB (tgt := 20) zC dX5_leap_15 (by decide) (fun c15 => ?_) (fun c15 => ?_)
    · refine lv_aload_n zC.1 zC.2.1 dX5_leap_20 rfl (lv_at hl 0 rfl) ?_
      refine gf_M_leapOf zC hG wl_X5_35 dX5_leap_21 ?_
      refine lv_iload_n zC.1 zC.2.1 dX5_leap_24 rfl (lv_at hl 1 rfl) ?_
      refine gi_m_leapOf (v := τ 6 c 1) zC hG (by omega) (hR.2.2.2.2.2.2.1 c (by omega) (by omega)).2.1 dX5_leap_25 ?_
      obtain ⟨f25a, f25b, f25c, f25d⟩ := hI.2.2.2.2.2.2.1 c (by omega) (by omega)
      refine lv_istore_n (lv' := [(3, .int (zI (τ 6 c 1))), (0, .ref (aM Γ)), (1, .int (zI c)), (2, .int (zI v))]) zC.1 zC.2.1 dX5_leap_26 rfl hl (by decide) rfl (fun ls hl => ?_)
      refine lv_aload_n zC.1 zC.2.1 dX5_leap_27 rfl (lv_at hl 1 rfl) ?_
      refine gf_M_leapOf zC hG wl_X5_35 dX5_leap_28 ?_
      refine lv_iload_n zC.1 zC.2.1 dX5_leap_31 rfl (lv_at hl 2 rfl) ?_
      refine lv_iload_n zC.1 zC.2.1 dX5_leap_32 rfl (lv_at hl 3 rfl) ?_
      refine pi_m_leapOf zC hG (by omega) dX5_leap_33 (fun H locs hG => ?_)
      refine lv_iload_n zC.1 zC.2.1 dX5_leap_34 rfl (lv_at hl 0 rfl) ?_
      exact zm_iret zC zK hG dX5_leap_35 (by unfold rC_leap; (repeat' split) <;> first | rfl | omega) (by unfold mC_leap; (repeat' split) <;> first | exact (rl_leap hR) | (exfalso; omega)) (sC_up (sC_r _) (by decide))
    · refine zr_iconst zC dX5_leap_18 ?_
      exact zm_iret zC zK hG dX5_leap_19 (by unfold rC_leap; (repeat' split) <;> first | rfl | omega) (by unfold mC_leap; (repeat' split) <;> first | exact hR | (exfalso; omega)) (sC_r _)

set_option maxHeartbeats 4000000 in
set_option maxRecDepth 100000 in
theorem c_X5_go {Γ : Gm} {zl : Launch} {A : Nat → Prop} {τ σ : Mm} {n : Int} (hR : Rel2 τ σ) (hI : IC τ) (hn : -2147483648 ≤ n ∧ n < 2147483648) : Fr Γ zl A yX5_go cX5_go 2 (some .int) 1 22 [.ref (aM Γ), .int (zI n)] σ (some (.int (zI (rC_go τ n)))) (mC_go τ n) := by
  refine Fr_of (by decide) (Nat.le_of_ble_eq_true rfl) ?_
  intro zp ze zs zm args below meth zc zQ H locs ls zC zK hG hl
  have hl : lv_has ls 2 [(0, .ref (aM Γ)), (1, .int (zI n))] := hl
  obtain ⟨hmany, htoday, -⟩ := id hI
  refine lv_iload_n zC.1 zC.2.1 dX5_go_0 rfl (lv_at hl 1 rfl) ?_
  refine zr_iconst zC dX5_go_1 ?_
  refine zr_sipush zC dX5_go_2 (by decide +kernel) ?_
  refine zr_callS zC hG (c_X5_in (σ := σ) (v := n) (a := 0) (b := 9999) (by first | assumption | omega) (by first | assumption | omega) (by first | assumption | omega)) mt_X5_in wl_X5_60 ⟨by decide, by decide⟩ rfl hl.1 rfl (Nat.le_of_ble_eq_true rfl) dX5_go_5 ⟨Nat.zero_le _, Nat.zero_le _⟩ (fun H locs hG => ?_)
  refine W.eq (g2 := F0 zm 8 ls [.int (zI (zB (0 ≤ n ∧ n ≤ 9999)))]) rfl ?_
  refine zr_ifneB (tgt := 13) zC dX5_go_8 (by decide) (fun c8 => ?_) (fun c8 => ?_)
  · refine lv_aload_n zC.1 zC.2.1 dX5_go_13 rfl (lv_at hl 0 rfl) ?_
    refine gf_M_many (v := τ 0 0 6) zC hG wl_X5_116 hR.1.2.2.2.2.1 dX5_go_14 ?_
    refine zr_if_ne (tgt := 23) zC dX5_go_17 (by decide) (by omega) (fun c17 => ?_) (fun c17 => ?_)
    · refine lv_aload_n zC.1 zC.2.1 dX5_go_23 rfl (lv_at hl 0 rfl) ?_
      refine gf_M_today (v := τ 0 0 7) zC hG wl_X5_119 hR.1.2.2.2.2.2 dX5_go_24 ?_
      refine lv_iload_n zC.1 zC.2.1 dX5_go_27 rfl (lv_at hl 1 rfl) ?_
      refine zr_iadd zC dX5_go_28 ?_
      refine zr_sipush zC dX5_go_29 (by decide +kernel) ?_
      refine zr_icmp_le (tgt := 38) zC dX5_go_32 (by decide) (by omega) (fun c32 => ?_) (fun c32 => ?_)
      · refine lv_aload_n zC.1 zC.2.1 dX5_go_38 rfl (lv_at hl 0 rfl) ?_
        refine lv_dup zC.1 zC.2.1 dX5_go_39 rfl ?_
        refine gf_M_today (v := τ 0 0 7) zC hG wl_X5_119 hR.1.2.2.2.2.2 dX5_go_40 ?_
        refine lv_iload_n zC.1 zC.2.1 dX5_go_43 rfl (lv_at hl 1 rfl) ?_
        refine zr_iadd zC dX5_go_44 ?_
        refine pf_M_today zC hG wl_X5_119 dX5_go_45 (fun H locs hG => ?_)
        refine lv_aload_n zC.1 zC.2.1 dX5_go_48 rfl (lv_at hl 0 rfl) ?_
        refine gf_M_today (v := ((τ 0 0 7) + n)) zC hG wl_X5_119 (by first | rfl | simp [up]) dX5_go_49 ?_
        exact zm_iret zC zK hG dX5_go_52 (by unfold rC_go; (repeat' split) <;> first | rfl | omega) (by unfold mC_go; (repeat' split) <;> first | exact (rl_tod hR) | (exfalso; omega)) (sC_up (sC_r _) (by decide))
      · refine zr_bipush zC dX5_go_35 (by decide +kernel) ?_
        exact zm_iret zC zK hG dX5_go_37 (by unfold rC_go; (repeat' split) <;> first | rfl | omega) (by unfold mC_go; (repeat' split) <;> first | exact hR | (exfalso; omega)) (sC_r _)
    · refine zr_bipush zC dX5_go_20 (by decide +kernel) ?_
      exact zm_iret zC zK hG dX5_go_22 (by unfold rC_go; (repeat' split) <;> first | rfl | omega) (by unfold mC_go; (repeat' split) <;> first | exact hR | (exfalso; omega)) (sC_r _)
  · refine zr_iconst zC dX5_go_11 ?_
    exact zm_iret zC zK hG dX5_go_12 (by unfold rC_go; (repeat' split) <;> first | rfl | omega) (by unfold mC_go; (repeat' split) <;> first | exact hR | (exfalso; omega)) (sC_r _)

set_option maxHeartbeats 4000000 in
set_option maxRecDepth 100000 in
theorem c_X5_back {Γ : Gm} {zl : Launch} {A : Nat → Prop} {τ σ : Mm} {n : Int} (hR : Rel2 τ σ) (hI : IC τ) (hn : -2147483648 ≤ n ∧ n < 2147483648) : Fr Γ zl A yX5_back cX5_back 2 (some .int) 1 22 [.ref (aM Γ), .int (zI n)] σ (some (.int (zI (rC_back τ n)))) (mC_back τ n) := by
  refine Fr_of (by decide) (Nat.le_of_ble_eq_true rfl) ?_
  intro zp ze zs zm args below meth zc zQ H locs ls zC zK hG hl
  have hl : lv_has ls 2 [(0, .ref (aM Γ)), (1, .int (zI n))] := hl
  obtain ⟨hmany, htoday, -⟩ := id hI
  refine lv_iload_n zC.1 zC.2.1 dX5_back_0 rfl (lv_at hl 1 rfl) ?_
  refine zr_iconst zC dX5_back_1 ?_
  refine lv_aload_n zC.1 zC.2.1 dX5_back_2 rfl (lv_at hl 0 rfl) ?_
  refine gf_M_today (v := τ 0 0 7) zC hG wl_X5_119 hR.1.2.2.2.2.2 dX5_back_3 ?_
  refine zr_callS zC hG (c_X5_in (σ := σ) (v := n) (a := 0) (b := τ 0 0 7) (by first | assumption | omega) (by first | assumption | omega) (by first | assumption | omega)) mt_X5_in wl_X5_60 ⟨by decide, by decide⟩ rfl hl.1 rfl (Nat.le_of_ble_eq_true rfl) dX5_back_6 ⟨Nat.zero_le _, Nat.zero_le _⟩ (fun H locs hG => ?_)
  refine W.eq (g2 := F0 zm 9 ls [.int (zI (zB (0 ≤ n ∧ n ≤ (τ 0 0 7))))]) rfl ?_
  refine zr_ifneB (tgt := 14) zC dX5_back_9 (by decide) (fun c9 => ?_) (fun c9 => ?_)
  · refine lv_aload_n zC.1 zC.2.1 dX5_back_14 rfl (lv_at hl 0 rfl) ?_
    refine lv_dup zC.1 zC.2.1 dX5_back_15 rfl ?_
    refine gf_M_today (v := τ 0 0 7) zC hG wl_X5_119 hR.1.2.2.2.2.2 dX5_back_16 ?_
    refine lv_iload_n zC.1 zC.2.1 dX5_back_19 rfl (lv_at hl 1 rfl) ?_
    refine zr_isub zC dX5_back_20 ?_
    refine pf_M_today zC hG wl_X5_119 dX5_back_21 (fun H locs hG => ?_)
    refine lv_aload_n zC.1 zC.2.1 dX5_back_24 rfl (lv_at hl 0 rfl) ?_
    refine gf_M_today (v := ((τ 0 0 7) - n)) zC hG wl_X5_119 (by first | rfl | simp [up]) dX5_back_25 ?_
    exact zm_iret zC zK hG dX5_back_28 (by unfold rC_back; (repeat' split) <;> first | rfl | omega) (by unfold mC_back; (repeat' split) <;> first | exact (rl_tod hR) | (exfalso; omega)) (sC_up (sC_r _) (by decide))
  · refine zr_iconst zC dX5_back_12 ?_
    exact zm_iret zC zK hG dX5_back_13 (by unfold rC_back; (repeat' split) <;> first | rfl | omega) (by unfold mC_back; (repeat' split) <;> first | exact hR | (exfalso; omega)) (sC_r _)

set_option maxHeartbeats 4000000 in
set_option maxRecDepth 100000 in
theorem c_X5_date {Γ : Gm} {zl : Launch} {A : Nat → Prop} {τ σ : Mm} {c d : Int} (hR : Rel2 τ σ) (hI : IC τ) (hc : -2147483648 ≤ c ∧ c < 2147483648) (hd : -2147483648 ≤ d ∧ d < 2147483648) : Fr Γ zl A yX5_date cX5_date 3 (some .int) 5 106 [.ref (aM Γ), .int (zI c), .int (zI d)] σ (some (.int (zI (rC_date τ c d)))) τ := by
  refine Fr_of (by decide) (Nat.le_of_ble_eq_true rfl) ?_
  intro zp ze zs zm args below meth zc zQ H locs ls zC zK hG hl
  have hl : lv_has ls 3 [(0, .ref (aM Γ)), (1, .int (zI c)), (2, .int (zI d))] := hl
  obtain ⟨hmany, htoday, -⟩ := id hI
  refine lv_aload_n zC.1 zC.2.1 dX5_date_0 rfl (lv_at hl 0 rfl) ?_
  refine lv_iload_n zC.1 zC.2.1 dX5_date_1 rfl (lv_at hl 1 rfl) ?_
  refine zr_callV zC hG (c_X5_isTown (τ := τ) (σ := σ) (c := c) hR hI (by first | assumption | omega)) mt_X5_isTown wl_X5_169 pM rfl rfl ⟨by decide, by decide⟩ rfl hl.1 rfl (Nat.le_of_ble_eq_true rfl) dX5_date_2 ⟨Nat.zero_le _, Nat.zero_le _⟩ (fun H locs hG => ?_)
  refine W.eq (g2 := F0 zm 5 ls [.int (zI (zB (isT τ c)))]) rfl ?_
  refine zr_ifeqB (tgt := 24) zC dX5_date_5 (by decide) (fun c5 => ?_) (fun c5 => ?_)
  · refine zr_iconst zC dX5_date_24 ?_
    exact zm_iret zC zK hG dX5_date_25 (by unfold rC_date; (repeat' split) <;> first | rfl | omega) hR (sC_r _)
  · refine lv_iload_n zC.1 zC.2.1 dX5_date_8 rfl (lv_at hl 2 rfl) ?_
    refine zr_callS zC hG (c_X5_isDay (σ := σ) (v := d) (by first | assumption | omega)) mt_X5_isDay wl_X5_122 ⟨by decide, by decide⟩ rfl hl.1 rfl (Nat.le_of_ble_eq_true rfl) dX5_date_9 ⟨Nat.zero_le _, Nat.zero_le _⟩ (fun H locs hG => ?_)
    refine W.eq (g2 := F0 zm 12 ls [.int (zI (zB (0 ≤ d ∧ d ≤ 19999)))]) rfl ?_
    refine zr_ifeqB (tgt := 24) zC dX5_date_12 (by decide) (fun c12 => ?_) (fun c12 => ?_)
    · refine zr_iconst zC dX5_date_24 ?_
      exact zm_iret zC zK hG dX5_date_25 (by unfold rC_date; (repeat' split) <;> first | rfl | omega) hR (sC_r _)
    · refine lv_aload_n zC.1 zC.2.1 dX5_date_15 rfl (lv_at hl 0 rfl) ?_
      refine lv_iload_n zC.1 zC.2.1 dX5_date_16 rfl (lv_at hl 1 rfl) ?_
      refine lv_iload_n zC.1 zC.2.1 dX5_date_17 rfl (lv_at hl 2 rfl) ?_
      refine zr_callV zC hG (c_X5_dateIn (τ := τ) (σ := σ) (c := c) (d := d) hR hI (by first | assumption | omega) (by first | assumption | omega)) mt_X5_dateIn wl_X5_166 pM rfl rfl ⟨by decide, by decide⟩ rfl hl.1 rfl (Nat.le_of_ble_eq_true rfl) dX5_date_18 ⟨Nat.zero_le _, Nat.zero_le _⟩ (fun H locs hG => ?_)
      refine W.eq (g2 := F0 zm 21 ls [.int (zI (dtD (τ 6 c 0) (τ 6 c 1) (τ 6 c 2) (τ 6 c 3) d))]) rfl ?_
      have b18_0 := dtD_r (k := (τ 6 c 0)) (lp := (τ 6 c 1)) (o := (τ 6 c 2)) (g := (τ 6 c 3)) (d := d) (by omega) (hI.2.2.2.2.2.2.1 c (by omega) (by omega)).2.1 (hI.2.2.2.2.2.2.1 c (by omega) (by omega)).2.2.2
      refine lv_goto (tgt := 25) zC.1 zC.2.1 dX5_date_21 (by decide) ?_
      exact zm_iret zC zK hG dX5_date_25 (by unfold rC_date; (repeat' split) <;> first | rfl | omega) hR (sC_up (sC_up (sC_up (sC_up (sC_r _) (by decide)) (by decide)) (by decide)) (by decide))

set_option maxHeartbeats 4000000 in
set_option maxRecDepth 100000 in
theorem c_X5_day {Γ : Gm} {zl : Launch} {A : Nat → Prop} {τ σ : Mm} {c t : Int} (hR : Rel2 τ σ) (hI : IC τ) (hc : -2147483648 ≤ c ∧ c < 2147483648) (ht : -2147483648 ≤ t ∧ t < 2147483648) : Fr Γ zl A yX5_day cX5_day 4 (some .int) 4 88 [.ref (aM Γ), .int (zI c), .int (zI t)] σ (some (.int (zI (rC_day τ c t)))) (mC_day τ c t) := by
  refine Fr_of (by decide) (Nat.le_of_ble_eq_true rfl) ?_
  intro zp ze zs zm args below meth zc zQ H locs ls zC zK hG hl
  have hl : lv_has ls 4 [(0, .ref (aM Γ)), (1, .int (zI c)), (2, .int (zI t))] := hl
  obtain ⟨hmany, htoday, -⟩ := id hI
  refine lv_aload_n zC.1 zC.2.1 dX5_day_0 rfl (lv_at hl 0 rfl) ?_
  refine lv_iload_n zC.1 zC.2.1 dX5_day_1 rfl (lv_at hl 1 rfl) ?_
  refine zr_callV zC hG (c_X5_isTown (τ := τ) (σ := σ) (c := c) hR hI (by first | assumption | omega)) mt_X5_isTown wl_X5_169 pM rfl rfl ⟨by decide, by decide⟩ rfl hl.1 rfl (Nat.le_of_ble_eq_true rfl) dX5_day_2 ⟨Nat.zero_le _, Nat.zero_le _⟩ (fun H locs hG => ?_)
  refine W.eq (g2 := F0 zm 5 ls [.int (zI (zB (isT τ c)))]) rfl ?_
  refine zr_ifeqB (tgt := 12) zC dX5_day_5 (by decide) (fun c5 => ?_) (fun c5 => ?_)
  · refine zr_iconst zC dX5_day_12 ?_
    exact zm_iret zC zK hG dX5_day_13 (by unfold rC_day; (repeat' split) <;> first | rfl | omega) (by unfold mC_day; (repeat' split) <;> first | exact hR | (exfalso; omega)) (sC_r _)
  · refine lv_iload_n zC.1 zC.2.1 dX5_day_8 rfl (lv_at hl 2 rfl) ?_
    refine zr_if_ge (tgt := 14) zC dX5_day_9 (by decide) (by omega) (fun c9 => ?_) (fun c9 => ?_)
    · refine lv_aload_n zC.1 zC.2.1 dX5_day_14 rfl (lv_at hl 0 rfl) ?_
      refine lv_iload_n zC.1 zC.2.1 dX5_day_15 rfl (lv_at hl 1 rfl) ?_
      refine lv_iload_n zC.1 zC.2.1 dX5_day_16 rfl (lv_at hl 2 rfl) ?_
      refine zr_callV zC hG (c_X5_dayIn (τ := τ) (σ := σ) (c := c) (t := t) hR hI (by first | assumption | omega) (by first | assumption | omega)) mt_X5_dayIn wl_X5_185 pM rfl rfl ⟨by decide, by decide⟩ rfl hl.1 rfl (Nat.le_of_ble_eq_true rfl) dX5_day_17 ⟨Nat.zero_le _, Nat.zero_le _⟩ (fun H locs hG => ?_)
      refine W.eq (g2 := F0 zm 20 ls [.int (zI (dyM (dyD (τ 6 c 0) (τ 6 c 1) (τ 6 c 2) (τ 6 c 3) t)))]) rfl ?_
      have b17_0 := dyD_r (k := (τ 6 c 0)) (lp := (τ 6 c 1)) (o := (τ 6 c 2)) (g := (τ 6 c 3)) (t := t) (hI.2.2.2.2.2.2.1 c (by omega) (by omega)).2.1 (hI.2.2.2.2.2.2.1 c (by omega) (by omega)).2.2.1.1
      have b17_1 := dyM_s (dyD (τ 6 c 0) (τ 6 c 1) (τ 6 c 2) (τ 6 c 3) t)
      refine lv_istore_n (lv' := [(3, .int (zI (dyM (dyD (τ 6 c 0) (τ 6 c 1) (τ 6 c 2) (τ 6 c 3) t)))), (0, .ref (aM Γ)), (1, .int (zI c)), (2, .int (zI t))]) zC.1 zC.2.1 dX5_day_20 rfl hl (by decide) rfl (fun ls hl => ?_)
      refine lv_iload_n zC.1 zC.2.1 dX5_day_21 rfl (lv_at hl 0 rfl) ?_
      refine zr_bipush zC dX5_day_22 (by decide +kernel) ?_
      refine zr_icmp_ne (tgt := 35) zC dX5_day_24 (by decide) (by omega) (fun c24 => ?_) (fun c24 => ?_)
      · refine lv_iload_n zC.1 zC.2.1 dX5_day_35 rfl (lv_at hl 0 rfl) ?_
        exact zm_iret zC zK hG dX5_day_36 (by unfold rC_day; (repeat' split) <;> first | rfl | omega) (by unfold mC_day; (repeat' split) <;> first | exact hR | (exfalso; omega)) (sC_up (sC_up (sC_up (sC_up (sC_r _) (by decide)) (by decide)) (by decide)) (by decide))
      · refine lv_aload_n zC.1 zC.2.1 dX5_day_27 rfl (lv_at hl 1 rfl) ?_
        refine zr_iconst zC dX5_day_28 ?_
        refine zr_callV zC hG (c_X5_meet (σ := up (up (up (up σ 20 0 19 (τ 6 c 0)) 20 0 20 (τ 6 c 1)) 20 0 21 (τ 6 c 2)) 20 0 22 (τ 6 c 3)) (f := 4) (by first | assumption | omega)) mt_X5_meet wl_X5_68 pM rfl rfl ⟨by decide, by decide⟩ rfl hl.1 rfl (Nat.le_of_ble_eq_true rfl) dX5_day_29 ⟨Nat.zero_le _, Nat.zero_le _⟩ (fun H locs hG => ?_)
        refine W.eq (g2 := F0 zm 32 ls [.int (zI (-3))]) rfl ?_
        refine lv_goto (tgt := 36) zC.1 zC.2.1 dX5_day_32 (by decide) ?_
        exact zm_iret zC zK hG dX5_day_36 (by unfold rC_day; (repeat' split) <;> first | rfl | omega) (by unfold mC_day; (repeat' split) <;> first | exact (rl_fd hR (by omega)) | (exfalso; omega)) (sC_up (sC_up (sC_up (sC_up (sC_up (sC_up (sC_r _) (by decide)) (by decide)) (by decide)) (by decide)) (by decide)) (by decide))
    · refine zr_iconst zC dX5_day_12 ?_
      exact zm_iret zC zK hG dX5_day_13 (by unfold rC_day; (repeat' split) <;> first | rfl | omega) (by unfold mC_day; (repeat' split) <;> first | exact hR | (exfalso; omega)) (sC_r _)

set_option maxHeartbeats 4000000 in
set_option maxRecDepth 100000 in
theorem c_X5_same {Γ : Gm} {zl : Launch} {A : Nat → Prop} {τ σ : Mm} {c t d : Int} (hR : Rel2 τ σ) (hI : IC τ) (hc : -2147483648 ≤ c ∧ c < 2147483648) (ht : -2147483648 ≤ t ∧ t < 2147483648) (hd : -2147483648 ≤ d ∧ d < 2147483648) : Fr Γ zl A yX5_same cX5_same 5 (some .int) 5 106 [.ref (aM Γ), .int (zI c), .int (zI t), .int (zI d)] σ (some (.int (zI (rC_same τ c t d)))) (mC_same τ c t d) := by
  refine Fr_of (by decide) (Nat.le_of_ble_eq_true rfl) ?_
  intro zp ze zs zm args below meth zc zQ H locs ls zC zK hG hl
  have hl : lv_has ls 5 [(0, .ref (aM Γ)), (1, .int (zI c)), (2, .int (zI t)), (3, .int (zI d))] := hl
  obtain ⟨hmany, htoday, -⟩ := id hI
  refine lv_aload_n zC.1 zC.2.1 dX5_same_0 rfl (lv_at hl 0 rfl) ?_
  refine lv_iload_n zC.1 zC.2.1 dX5_same_1 rfl (lv_at hl 1 rfl) ?_
  refine zr_callV zC hG (c_X5_isTown (τ := τ) (σ := σ) (c := c) hR hI (by first | assumption | omega)) mt_X5_isTown wl_X5_169 pM rfl rfl ⟨by decide, by decide⟩ rfl hl.1 rfl (Nat.le_of_ble_eq_true rfl) dX5_same_2 ⟨Nat.zero_le _, Nat.zero_le _⟩ (fun H locs hG => ?_)
  refine W.eq (g2 := F0 zm 5 ls [.int (zI (zB (isT τ c)))]) rfl ?_
  refine zr_ifeqB (tgt := 20) zC dX5_same_5 (by decide) (fun c5 => ?_) (fun c5 => ?_)
  · refine zr_iconst zC dX5_same_20 ?_
    exact zm_iret zC zK hG dX5_same_21 (by unfold rC_same; (repeat' split) <;> first | rfl | omega) (by unfold mC_same; (repeat' split) <;> first | exact hR | (exfalso; omega)) (sC_r _)
  · refine lv_aload_n zC.1 zC.2.1 dX5_same_8 rfl (lv_at hl 0 rfl) ?_
    refine lv_iload_n zC.1 zC.2.1 dX5_same_9 rfl (lv_at hl 3 rfl) ?_
    refine zr_callV zC hG (c_X5_isTown (τ := τ) (σ := σ) (c := d) hR hI (by first | assumption | omega)) mt_X5_isTown wl_X5_169 pM rfl rfl ⟨by decide, by decide⟩ rfl hl.1 rfl (Nat.le_of_ble_eq_true rfl) dX5_same_10 ⟨Nat.zero_le _, Nat.zero_le _⟩ (fun H locs hG => ?_)
    refine W.eq (g2 := F0 zm 13 ls [.int (zI (zB (isT τ d)))]) rfl ?_
    refine zr_ifeqB (tgt := 20) zC dX5_same_13 (by decide) (fun c13 => ?_) (fun c13 => ?_)
    · refine zr_iconst zC dX5_same_20 ?_
      exact zm_iret zC zK hG dX5_same_21 (by unfold rC_same; (repeat' split) <;> first | rfl | omega) (by unfold mC_same; (repeat' split) <;> first | exact hR | (exfalso; omega)) (sC_r _)
    · refine lv_iload_n zC.1 zC.2.1 dX5_same_16 rfl (lv_at hl 2 rfl) ?_
      refine zr_if_ge (tgt := 22) zC dX5_same_17 (by decide) (by omega) (fun c17 => ?_) (fun c17 => ?_)
      · refine lv_aload_n zC.1 zC.2.1 dX5_same_22 rfl (lv_at hl 0 rfl) ?_
        refine lv_iload_n zC.1 zC.2.1 dX5_same_23 rfl (lv_at hl 1 rfl) ?_
        refine lv_iload_n zC.1 zC.2.1 dX5_same_24 rfl (lv_at hl 2 rfl) ?_
        refine zr_callV zC hG (c_X5_dayIn (τ := τ) (σ := σ) (c := c) (t := t) hR hI (by first | assumption | omega) (by first | assumption | omega)) mt_X5_dayIn wl_X5_185 pM rfl rfl ⟨by decide, by decide⟩ rfl hl.1 rfl (Nat.le_of_ble_eq_true rfl) dX5_same_25 ⟨Nat.zero_le _, Nat.zero_le _⟩ (fun H locs hG => ?_)
        refine W.eq (g2 := F0 zm 28 ls [.int (zI (dyM (dyD (τ 6 c 0) (τ 6 c 1) (τ 6 c 2) (τ 6 c 3) t)))]) rfl ?_
        have b25_0 := dyD_r (k := (τ 6 c 0)) (lp := (τ 6 c 1)) (o := (τ 6 c 2)) (g := (τ 6 c 3)) (t := t) (hI.2.2.2.2.2.2.1 c (by omega) (by omega)).2.1 (hI.2.2.2.2.2.2.1 c (by omega) (by omega)).2.2.1.1
        have b25_1 := dyM_s (dyD (τ 6 c 0) (τ 6 c 1) (τ 6 c 2) (τ 6 c 3) t)
        refine lv_istore (lv' := [(4, .int (zI (dyM (dyD (τ 6 c 0) (τ 6 c 1) (τ 6 c 2) (τ 6 c 3) t)))), (0, .ref (aM Γ)), (1, .int (zI c)), (2, .int (zI t)), (3, .int (zI d))]) zC.1 zC.2.1 dX5_same_28 hl (by decide) rfl (fun ls hl => ?_)
        refine lv_iload zC.1 zC.2.1 dX5_same_30 (lv_at hl 0 rfl) ?_
        refine zr_bipush zC dX5_same_32 (by decide +kernel) ?_
        refine zr_icmp_ne (tgt := 45) zC dX5_same_34 (by decide) (by omega) (fun c34 => ?_) (fun c34 => ?_)
        · refine lv_aload_n zC.1 zC.2.1 dX5_same_45 rfl (lv_at hl 1 rfl) ?_
          refine lv_iload_n zC.1 zC.2.1 dX5_same_46 rfl (lv_at hl 4 rfl) ?_
          refine lv_iload zC.1 zC.2.1 dX5_same_47 (lv_at hl 0 rfl) ?_
          refine zr_topi (y := dyD (τ 6 c 0) (τ 6 c 1) (τ 6 c 2) (τ 6 c 3) t) (by omega) ?_
          refine zr_callV zC hG (c_X5_dateIn (τ := τ) (σ := up (up (up (up σ 20 0 19 (τ 6 c 0)) 20 0 20 (τ 6 c 1)) 20 0 21 (τ 6 c 2)) 20 0 22 (τ 6 c 3)) (c := d) (d := dyD (τ 6 c 0) (τ 6 c 1) (τ 6 c 2) (τ 6 c 3) t) hR hI (by first | assumption | omega) (by first | assumption | omega)) mt_X5_dateIn wl_X5_166 pM rfl rfl ⟨by decide, by decide⟩ rfl hl.1 rfl (Nat.le_of_ble_eq_true rfl) dX5_same_49 ⟨Nat.zero_le _, Nat.zero_le _⟩ (fun H locs hG => ?_)
          refine W.eq (g2 := F0 zm 52 ls [.int (zI (dtD (τ 6 d 0) (τ 6 d 1) (τ 6 d 2) (τ 6 d 3) (dyD (τ 6 c 0) (τ 6 c 1) (τ 6 c 2) (τ 6 c 3) t)))]) rfl ?_
          have b49_0 := dtD_r (k := (τ 6 d 0)) (lp := (τ 6 d 1)) (o := (τ 6 d 2)) (g := (τ 6 d 3)) (d := (dyD (τ 6 c 0) (τ 6 c 1) (τ 6 c 2) (τ 6 c 3) t)) (by omega) (hI.2.2.2.2.2.2.1 d (by omega) (by omega)).2.1 (hI.2.2.2.2.2.2.1 d (by omega) (by omega)).2.2.2
          exact zm_iret zC zK hG dX5_same_52 (by unfold rC_same; (repeat' split) <;> first | rfl | omega) (by unfold mC_same; (repeat' split) <;> first | exact hR | (exfalso; omega)) (sC_up (sC_up (sC_up (sC_up (sC_up (sC_up (sC_up (sC_up (sC_r _) (by decide)) (by decide)) (by decide)) (by decide)) (by decide)) (by decide)) (by decide)) (by decide))
        · refine lv_aload_n zC.1 zC.2.1 dX5_same_37 rfl (lv_at hl 1 rfl) ?_
          refine zr_iconst zC dX5_same_38 ?_
          refine zr_callV zC hG (c_X5_meet (σ := up (up (up (up σ 20 0 19 (τ 6 c 0)) 20 0 20 (τ 6 c 1)) 20 0 21 (τ 6 c 2)) 20 0 22 (τ 6 c 3)) (f := 4) (by first | assumption | omega)) mt_X5_meet wl_X5_68 pM rfl rfl ⟨by decide, by decide⟩ rfl hl.1 rfl (Nat.le_of_ble_eq_true rfl) dX5_same_39 ⟨Nat.zero_le _, Nat.zero_le _⟩ (fun H locs hG => ?_)
          refine W.eq (g2 := F0 zm 42 ls [.int (zI (-3))]) rfl ?_
          refine lv_goto (tgt := 52) zC.1 zC.2.1 dX5_same_42 (by decide) ?_
          exact zm_iret zC zK hG dX5_same_52 (by unfold rC_same; (repeat' split) <;> first | rfl | omega) (by unfold mC_same; (repeat' split) <;> first | exact (rl_fd hR (by omega)) | (exfalso; omega)) (sC_up (sC_up (sC_up (sC_up (sC_up (sC_up (sC_r _) (by decide)) (by decide)) (by decide)) (by decide)) (by decide)) (by decide))
      · refine zr_iconst zC dX5_same_20 ?_
        exact zm_iret zC zK hG dX5_same_21 (by unfold rC_same; (repeat' split) <;> first | rfl | omega) (by unfold mC_same; (repeat' split) <;> first | exact hR | (exfalso; omega)) (sC_r _)

set_option maxHeartbeats 4000000 in
set_option maxRecDepth 100000 in
theorem c_X5_between {Γ : Gm} {zl : Launch} {A : Nat → Prop} {τ σ : Mm} {c a b : Int} (hR : Rel2 τ σ) (hI : IC τ) (hc : -2147483648 ≤ c ∧ c < 2147483648) (ha : -2147483648 ≤ a ∧ a < 2147483648) (hb : -2147483648 ≤ b ∧ b < 2147483648) : Fr Γ zl A yX5_between cX5_between 6 (some .int) 4 88 [.ref (aM Γ), .int (zI c), .int (zI a), .int (zI b)] σ (some (.int (zI (rC_between τ c a b)))) (mC_between τ c a b) := by
  refine Fr_of (by decide) (Nat.le_of_ble_eq_true rfl) ?_
  intro zp ze zs zm args below meth zc zQ H locs ls zC zK hG hl
  have hl : lv_has ls 6 [(0, .ref (aM Γ)), (1, .int (zI c)), (2, .int (zI a)), (3, .int (zI b))] := hl
  obtain ⟨hmany, htoday, -⟩ := id hI
  refine lv_aload_n zC.1 zC.2.1 dX5_between_0 rfl (lv_at hl 0 rfl) ?_
  refine lv_iload_n zC.1 zC.2.1 dX5_between_1 rfl (lv_at hl 1 rfl) ?_
  refine zr_callV zC hG (c_X5_isTown (τ := τ) (σ := σ) (c := c) hR hI (by first | assumption | omega)) mt_X5_isTown wl_X5_169 pM rfl rfl ⟨by decide, by decide⟩ rfl hl.1 rfl (Nat.le_of_ble_eq_true rfl) dX5_between_2 ⟨Nat.zero_le _, Nat.zero_le _⟩ (fun H locs hG => ?_)
  refine W.eq (g2 := F0 zm 5 ls [.int (zI (zB (isT τ c)))]) rfl ?_
  refine zr_ifeqB (tgt := 16) zC dX5_between_5 (by decide) (fun c5 => ?_) (fun c5 => ?_)
  · refine zr_iconst zC dX5_between_16 ?_
    exact zm_iret zC zK hG dX5_between_17 (by unfold rC_between; (repeat' split) <;> first | rfl | omega) (by unfold mC_between; (repeat' split) <;> first | exact hR | (exfalso; omega)) (sC_r _)
  · refine lv_iload_n zC.1 zC.2.1 dX5_between_8 rfl (lv_at hl 2 rfl) ?_
    refine zr_if_lt (tgt := 16) zC dX5_between_9 (by decide) (by omega) (fun c9 => ?_) (fun c9 => ?_)
    · refine zr_iconst zC dX5_between_16 ?_
      exact zm_iret zC zK hG dX5_between_17 (by unfold rC_between; (repeat' split) <;> first | rfl | omega) (by unfold mC_between; (repeat' split) <;> first | exact hR | (exfalso; omega)) (sC_r _)
    · refine lv_iload_n zC.1 zC.2.1 dX5_between_12 rfl (lv_at hl 3 rfl) ?_
      refine zr_if_ge (tgt := 18) zC dX5_between_13 (by decide) (by omega) (fun c13 => ?_) (fun c13 => ?_)
      · refine lv_aload_n zC.1 zC.2.1 dX5_between_18 rfl (lv_at hl 0 rfl) ?_
        refine lv_iload_n zC.1 zC.2.1 dX5_between_19 rfl (lv_at hl 1 rfl) ?_
        refine lv_iload_n zC.1 zC.2.1 dX5_between_20 rfl (lv_at hl 2 rfl) ?_
        refine zr_callV zC hG (c_X5_dayIn (τ := τ) (σ := σ) (c := c) (t := a) hR hI (by first | assumption | omega) (by first | assumption | omega)) mt_X5_dayIn wl_X5_185 pM rfl rfl ⟨by decide, by decide⟩ rfl hl.1 rfl (Nat.le_of_ble_eq_true rfl) dX5_between_21 ⟨Nat.zero_le _, Nat.zero_le _⟩ (fun H locs hG => ?_)
        refine W.eq (g2 := F0 zm 24 ls [.int (zI (dyM (dyD (τ 6 c 0) (τ 6 c 1) (τ 6 c 2) (τ 6 c 3) a)))]) rfl ?_
        have b21_0 := dyD_r (k := (τ 6 c 0)) (lp := (τ 6 c 1)) (o := (τ 6 c 2)) (g := (τ 6 c 3)) (t := a) (hI.2.2.2.2.2.2.1 c (by omega) (by omega)).2.1 (hI.2.2.2.2.2.2.1 c (by omega) (by omega)).2.2.1.1
        have b21_1 := dyM_s (dyD (τ 6 c 0) (τ 6 c 1) (τ 6 c 2) (τ 6 c 3) a)
        refine lv_istore (lv' := [(4, .int (zI (dyM (dyD (τ 6 c 0) (τ 6 c 1) (τ 6 c 2) (τ 6 c 3) a)))), (0, .ref (aM Γ)), (1, .int (zI c)), (2, .int (zI a)), (3, .int (zI b))]) zC.1 zC.2.1 dX5_between_24 hl (by decide) rfl (fun ls hl => ?_)
        refine lv_aload_n zC.1 zC.2.1 dX5_between_26 rfl (lv_at hl 1 rfl) ?_
        refine lv_iload_n zC.1 zC.2.1 dX5_between_27 rfl (lv_at hl 2 rfl) ?_
        refine lv_iload_n zC.1 zC.2.1 dX5_between_28 rfl (lv_at hl 4 rfl) ?_
        refine zr_callV zC hG (c_X5_dayIn (τ := τ) (σ := up (up (up (up σ 20 0 19 (τ 6 c 0)) 20 0 20 (τ 6 c 1)) 20 0 21 (τ 6 c 2)) 20 0 22 (τ 6 c 3)) (c := c) (t := b) hR hI (by first | assumption | omega) (by first | assumption | omega)) mt_X5_dayIn wl_X5_185 pM rfl rfl ⟨by decide, by decide⟩ rfl hl.1 rfl (Nat.le_of_ble_eq_true rfl) dX5_between_29 ⟨Nat.zero_le _, Nat.zero_le _⟩ (fun H locs hG => ?_)
        refine W.eq (g2 := F0 zm 32 ls [.int (zI (dyM (dyD (τ 6 c 0) (τ 6 c 1) (τ 6 c 2) (τ 6 c 3) b)))]) rfl ?_
        have b29_0 := dyD_r (k := (τ 6 c 0)) (lp := (τ 6 c 1)) (o := (τ 6 c 2)) (g := (τ 6 c 3)) (t := b) (hI.2.2.2.2.2.2.1 c (by omega) (by omega)).2.1 (hI.2.2.2.2.2.2.1 c (by omega) (by omega)).2.2.1.1
        have b29_1 := dyM_s (dyD (τ 6 c 0) (τ 6 c 1) (τ 6 c 2) (τ 6 c 3) b)
        refine lv_istore (lv' := [(5, .int (zI (dyM (dyD (τ 6 c 0) (τ 6 c 1) (τ 6 c 2) (τ 6 c 3) b)))), (4, .int (zI (dyM (dyD (τ 6 c 0) (τ 6 c 1) (τ 6 c 2) (τ 6 c 3) a)))), (0, .ref (aM Γ)), (1, .int (zI c)), (2, .int (zI a)), (3, .int (zI b))]) zC.1 zC.2.1 dX5_between_32 hl (by decide) rfl (fun ls hl => ?_)
        refine lv_iload zC.1 zC.2.1 dX5_between_34 (lv_at hl 1 rfl) ?_
        refine zr_bipush zC dX5_between_36 (by decide +kernel) ?_
        refine zr_icmp_eq (tgt := 48) zC dX5_between_38 (by decide) (by omega) (fun c38 => ?_) (fun c38 => ?_)
        · refine lv_aload_n zC.1 zC.2.1 dX5_between_48 rfl (lv_at hl 2 rfl) ?_
          refine zr_iconst zC dX5_between_49 ?_
          refine zr_callV zC hG (c_X5_meet (σ := up (up (up (up (up (up (up (up σ 20 0 19 (τ 6 c 0)) 20 0 20 (τ 6 c 1)) 20 0 21 (τ 6 c 2)) 20 0 22 (τ 6 c 3)) 20 0 19 (τ 6 c 0)) 20 0 20 (τ 6 c 1)) 20 0 21 (τ 6 c 2)) 20 0 22 (τ 6 c 3)) (f := 4) (by first | assumption | omega)) mt_X5_meet wl_X5_68 pM rfl rfl ⟨by decide, by decide⟩ rfl hl.1 rfl (Nat.le_of_ble_eq_true rfl) dX5_between_50 ⟨Nat.zero_le _, Nat.zero_le _⟩ (fun H locs hG => ?_)
          refine W.eq (g2 := F0 zm 53 ls [.int (zI (-3))]) rfl ?_
          refine lv_goto (tgt := 66) zC.1 zC.2.1 dX5_between_53 (by decide) ?_
          exact zm_iret zC zK hG dX5_between_66 (by unfold rC_between; (repeat' split) <;> first | rfl | omega) (by unfold mC_between; (repeat' split) <;> first | exact (rl_fd hR (by omega)) | (exfalso; omega)) (sC_up (sC_up (sC_up (sC_up (sC_up (sC_up (sC_up (sC_up (sC_up (sC_up (sC_r _) (by decide)) (by decide)) (by decide)) (by decide)) (by decide)) (by decide)) (by decide)) (by decide)) (by decide)) (by decide))
        · refine lv_iload zC.1 zC.2.1 dX5_between_41 (lv_at hl 0 rfl) ?_
          refine zr_bipush zC dX5_between_43 (by decide +kernel) ?_
          refine zr_icmp_ne (tgt := 56) zC dX5_between_45 (by decide) (by omega) (fun c45 => ?_) (fun c45 => ?_)
          · refine lv_aload_n zC.1 zC.2.1 dX5_between_56 rfl (lv_at hl 2 rfl) ?_
            refine lv_iload zC.1 zC.2.1 dX5_between_57 (lv_at hl 0 rfl) ?_
            refine lv_iload zC.1 zC.2.1 dX5_between_59 (lv_at hl 1 rfl) ?_
            refine zr_isub zC dX5_between_61 ?_
            refine zr_topi (y := dyD (τ 6 c 0) (τ 6 c 1) (τ 6 c 2) (τ 6 c 3) b - dyD (τ 6 c 0) (τ 6 c 1) (τ 6 c 2) (τ 6 c 3) a) (by omega) ?_
            refine zr_iconst zC dX5_between_62 ?_
            refine zr_callV zC hG (c_X5_ask (σ := up (up (up (up (up (up (up (up σ 20 0 19 (τ 6 c 0)) 20 0 20 (τ 6 c 1)) 20 0 21 (τ 6 c 2)) 20 0 22 (τ 6 c 3)) 20 0 19 (τ 6 c 0)) 20 0 20 (τ 6 c 1)) 20 0 21 (τ 6 c 2)) 20 0 22 (τ 6 c 3)) (v := dyD (τ 6 c 0) (τ 6 c 1) (τ 6 c 2) (τ 6 c 3) b - dyD (τ 6 c 0) (τ 6 c 1) (τ 6 c 2) (τ 6 c 3) a) (w := 1)) mt_X5_ask wl_X5_86 pM rfl rfl ⟨by decide, by decide⟩ rfl hl.1 rfl (Nat.le_of_ble_eq_true rfl) dX5_between_63 ⟨Nat.zero_le _, Nat.zero_le _⟩ (fun H locs hG => ?_)
            refine W.eq (g2 := F0 zm 66 ls [.int (zI 1)]) rfl ?_
            exact zm_iret zC zK hG dX5_between_66 (by unfold rC_between; (repeat' split) <;> first | rfl | omega) (by unfold mC_between; (repeat' split) <;> first | exact (rl_ask hR) | (exfalso; omega)) (sC_up (sC_up (sC_up (sC_up (sC_up (sC_up (sC_up (sC_up (sC_up (sC_r _) (by decide)) (by decide)) (by decide)) (by decide)) (by decide)) (by decide)) (by decide)) (by decide)) (by decide))
          · refine lv_aload_n zC.1 zC.2.1 dX5_between_48 rfl (lv_at hl 2 rfl) ?_
            refine zr_iconst zC dX5_between_49 ?_
            refine zr_callV zC hG (c_X5_meet (σ := up (up (up (up (up (up (up (up σ 20 0 19 (τ 6 c 0)) 20 0 20 (τ 6 c 1)) 20 0 21 (τ 6 c 2)) 20 0 22 (τ 6 c 3)) 20 0 19 (τ 6 c 0)) 20 0 20 (τ 6 c 1)) 20 0 21 (τ 6 c 2)) 20 0 22 (τ 6 c 3)) (f := 4) (by first | assumption | omega)) mt_X5_meet wl_X5_68 pM rfl rfl ⟨by decide, by decide⟩ rfl hl.1 rfl (Nat.le_of_ble_eq_true rfl) dX5_between_50 ⟨Nat.zero_le _, Nat.zero_le _⟩ (fun H locs hG => ?_)
            refine W.eq (g2 := F0 zm 53 ls [.int (zI (-3))]) rfl ?_
            refine lv_goto (tgt := 66) zC.1 zC.2.1 dX5_between_53 (by decide) ?_
            exact zm_iret zC zK hG dX5_between_66 (by unfold rC_between; (repeat' split) <;> first | rfl | omega) (by unfold mC_between; (repeat' split) <;> first | exact (rl_fd hR (by omega)) | (exfalso; omega)) (sC_up (sC_up (sC_up (sC_up (sC_up (sC_up (sC_up (sC_up (sC_up (sC_up (sC_r _) (by decide)) (by decide)) (by decide)) (by decide)) (by decide)) (by decide)) (by decide)) (by decide)) (by decide)) (by decide))
      · refine zr_iconst zC dX5_between_16 ?_
        exact zm_iret zC zK hG dX5_between_17 (by unfold rC_between; (repeat' split) <;> first | rfl | omega) (by unfold mC_between; (repeat' split) <;> first | exact hR | (exfalso; omega)) (sC_r _)

set_option maxHeartbeats 4000000 in
set_option maxRecDepth 100000 in
theorem c_X5_asked {Γ : Gm} {zl : Launch} {A : Nat → Prop} {τ σ : Mm} (hR : Rel2 τ σ) (hI : IC τ) : Fr Γ zl A yX5_asked cX5_asked 1 (some .int) 0 0 [.ref (aM Γ)] σ (some (.int (zI (rC_asked τ)))) τ := by
  refine Fr_of (by decide) (Nat.le_of_ble_eq_true rfl) ?_
  intro zp ze zs zm args below meth zc zQ H locs ls zC zK hG hl
  have hl : lv_has ls 1 [(0, .ref (aM Γ))] := hl
  obtain ⟨hmany, htoday, -⟩ := id hI
  refine lv_aload_n zC.1 zC.2.1 dX5_asked_0 rfl (lv_at hl 0 rfl) ?_
  refine gf_M_asked (v := τ 0 0 8) zC hG wl_X5_54 hR.1.2.1 dX5_asked_1 ?_
  exact zm_iret zC zK hG dX5_asked_4 rfl hR (sC_r _)

set_option maxHeartbeats 4000000 in
set_option maxRecDepth 100000 in
theorem c_X5_finding {Γ : Gm} {zl : Launch} {A : Nat → Prop} {τ σ : Mm} (hR : Rel2 τ σ) (hI : IC τ) : Fr Γ zl A yX5_finding cX5_finding 1 (some .int) 0 0 [.ref (aM Γ)] σ (some (.int (zI (rC_finding τ)))) τ := by
  refine Fr_of (by decide) (Nat.le_of_ble_eq_true rfl) ?_
  intro zp ze zs zm args below meth zc zQ H locs ls zC zK hG hl
  have hl : lv_has ls 1 [(0, .ref (aM Γ))] := hl
  obtain ⟨hmany, htoday, -⟩ := id hI
  refine lv_aload_n zC.1 zC.2.1 dX5_finding_0 rfl (lv_at hl 0 rfl) ?_
  refine gf_M_finding (v := τ 0 0 11) zC hG wl_X5_50 hR.1.1 dX5_finding_1 ?_
  exact zm_iret zC zK hG dX5_finding_4 rfl hR (sC_r _)

set_option maxHeartbeats 4000000 in
set_option maxRecDepth 100000 in
theorem c_X5_upper {Γ : Gm} {zl : Launch} {A : Nat → Prop} {τ σ : Mm} (hR : Rel2 τ σ) (hI : IC τ) : Fr Γ zl A yX5_upper cX5_upper 1 (some .long) 0 0 [.ref (aM Γ)] σ (some (.long (zL (rC_upper τ)))) τ := by
  refine Fr_of (by decide) (Nat.le_of_ble_eq_true rfl) ?_
  intro zp ze zs zm args below meth zc zQ H locs ls zC zK hG hl
  have hl : lv_has ls 1 [(0, .ref (aM Γ))] := hl
  obtain ⟨hmany, htoday, -⟩ := id hI
  refine lv_aload_n zC.1 zC.2.1 dX5_upper_0 rfl (lv_at hl 0 rfl) ?_
  refine gf_M_upper (v := τ 0 0 9) zC hG wl_X5_57 hR.1.2.2.1 dX5_upper_1 ?_
  exact zm_lret zC zK hG dX5_upper_4 rfl hR (sC_r _)

set_option maxHeartbeats 4000000 in
set_option maxRecDepth 100000 in
theorem c_X5_lower {Γ : Gm} {zl : Launch} {A : Nat → Prop} {τ σ : Mm} (hR : Rel2 τ σ) (hI : IC τ) : Fr Γ zl A yX5_lower cX5_lower 1 (some .long) 0 0 [.ref (aM Γ)] σ (some (.long (zL (rC_lower τ)))) τ := by
  refine Fr_of (by decide) (Nat.le_of_ble_eq_true rfl) ?_
  intro zp ze zs zm args below meth zc zQ H locs ls zC zK hG hl
  have hl : lv_has ls 1 [(0, .ref (aM Γ))] := hl
  obtain ⟨hmany, htoday, -⟩ := id hI
  refine lv_aload_n zC.1 zC.2.1 dX5_lower_0 rfl (lv_at hl 0 rfl) ?_
  refine gf_M_lower (v := τ 0 0 10) zC hG wl_X5_13 hR.1.2.2.2.1 dX5_lower_1 ?_
  exact zm_lret zC zK hG dX5_lower_4 rfl hR (sC_r _)

set_option maxHeartbeats 4000000 in
set_option maxRecDepth 100000 in
theorem c_X5_findings {Γ : Gm} {zl : Launch} {A : Nat → Prop} {τ σ : Mm} {f : Int} (hR : Rel2 τ σ) (hI : IC τ) (hf : -2147483648 ≤ f ∧ f < 2147483648) : Fr Γ zl A yX5_findings cX5_findings 2 (some .int) 1 22 [.ref (aM Γ), .int (zI f)] σ (some (.int (zI (rC_findings τ f)))) τ := by
  refine Fr_of (by decide) (Nat.le_of_ble_eq_true rfl) ?_
  intro zp ze zs zm args below meth zc zQ H locs ls zC zK hG hl
  have hl : lv_has ls 2 [(0, .ref (aM Γ)), (1, .int (zI f))] := hl
  obtain ⟨hmany, htoday, -⟩ := id hI
  refine lv_iload_n zC.1 zC.2.1 dX5_findings_0 rfl (lv_at hl 1 rfl) ?_
  refine zr_iconst zC dX5_findings_1 ?_
  refine zr_iconst zC dX5_findings_2 ?_
  refine zr_callS zC hG (c_X5_in (σ := σ) (v := f) (a := 1) (b := 5) (by first | assumption | omega) (by first | assumption | omega) (by first | assumption | omega)) mt_X5_in wl_X5_60 ⟨by decide, by decide⟩ rfl hl.1 rfl (Nat.le_of_ble_eq_true rfl) dX5_findings_3 ⟨Nat.zero_le _, Nat.zero_le _⟩ (fun H locs hG => ?_)
  refine W.eq (g2 := F0 zm 6 ls [.int (zI (zB (1 ≤ f ∧ f ≤ 5)))]) rfl ?_
  refine zr_ifeqB (tgt := 18) zC dX5_findings_6 (by decide) (fun c6 => ?_) (fun c6 => ?_)
  · refine zr_iconst zC dX5_findings_18 ?_
    exact zm_iret zC zK hG dX5_findings_19 (by unfold rC_findings; (repeat' split) <;> first | rfl | omega) hR (sC_r _)
  · refine lv_aload_n zC.1 zC.2.1 dX5_findings_9 rfl (lv_at hl 0 rfl) ?_
    refine gf_M_findings zC hG wl_X5_7 dX5_findings_10 ?_
    refine lv_iload_n zC.1 zC.2.1 dX5_findings_13 rfl (lv_at hl 1 rfl) ?_
    refine gi_m_findings (v := τ 1 0 f) zC hG (by omega) (hR.2.1 f (by omega) (by omega)) dX5_findings_14 ?_
    refine lv_goto (tgt := 19) zC.1 zC.2.1 dX5_findings_15 (by decide) ?_
    exact zm_iret zC zK hG dX5_findings_19 (by unfold rC_findings; (repeat' split) <;> first | rfl | omega) hR (sC_r _)

set_option maxHeartbeats 4000000 in
set_option maxRecDepth 100000 in
theorem c_X5_voyage {Γ : Gm} {zl : Launch} {A : Nat → Prop} {τ σ : Mm} {c d x n : Int} (hR : Rel2 τ σ) (hI : IC τ) (hc : -2147483648 ≤ c ∧ c < 2147483648) (hd : -2147483648 ≤ d ∧ d < 2147483648) (hx : -2147483648 ≤ x ∧ x < 2147483648) (hn : -2147483648 ≤ n ∧ n < 2147483648) : Fr Γ zl A yX5_voyage cX5_voyage 6 (some .int) 3 64 [.ref (aM Γ), .int (zI c), .int (zI d), .int (zI x), .int (zI n)] σ (some (.int (zI (rC_voyage τ c d x n)))) (mC_voyage τ c d x n) := by
  refine Fr_of (by decide) (Nat.le_of_ble_eq_true rfl) ?_
  intro zp ze zs zm args below meth zc zQ H locs ls zC zK hG hl
  have hl : lv_has ls 6 [(0, .ref (aM Γ)), (1, .int (zI c)), (2, .int (zI d)), (3, .int (zI x)), (4, .int (zI n))] := hl
  obtain ⟨hmany, htoday, -⟩ := id hI
  refine lv_aload_n zC.1 zC.2.1 dX5_voyage_0 rfl (lv_at hl 0 rfl) ?_
  refine lv_iload_n zC.1 zC.2.1 dX5_voyage_1 rfl (lv_at hl 1 rfl) ?_
  refine zr_callV zC hG (c_X5_isTown (τ := τ) (σ := σ) (c := c) hR hI (by first | assumption | omega)) mt_X5_isTown wl_X5_169 pM rfl rfl ⟨by decide, by decide⟩ rfl hl.1 rfl (Nat.le_of_ble_eq_true rfl) dX5_voyage_2 ⟨Nat.zero_le _, Nat.zero_le _⟩ (fun H locs hG => ?_)
  refine W.eq (g2 := F0 zm 5 ls [.int (zI (zB (isT τ c)))]) rfl ?_
  refine zr_ifeqB (tgt := 35) zC dX5_voyage_5 (by decide) (fun c5 => ?_) (fun c5 => ?_)
  · refine zr_iconst zC dX5_voyage_35 ?_
    exact zm_iret zC zK hG dX5_voyage_36 (by unfold rC_voyage; (repeat' split) <;> first | rfl | omega) (by unfold mC_voyage; (repeat' split) <;> first | exact hR | (exfalso; omega)) (sC_r _)
  · refine lv_aload_n zC.1 zC.2.1 dX5_voyage_8 rfl (lv_at hl 0 rfl) ?_
    refine lv_iload_n zC.1 zC.2.1 dX5_voyage_9 rfl (lv_at hl 2 rfl) ?_
    refine zr_callV zC hG (c_X5_isTown (τ := τ) (σ := σ) (c := d) hR hI (by first | assumption | omega)) mt_X5_isTown wl_X5_169 pM rfl rfl ⟨by decide, by decide⟩ rfl hl.1 rfl (Nat.le_of_ble_eq_true rfl) dX5_voyage_10 ⟨Nat.zero_le _, Nat.zero_le _⟩ (fun H locs hG => ?_)
    refine W.eq (g2 := F0 zm 13 ls [.int (zI (zB (isT τ d)))]) rfl ?_
    refine zr_ifeqB (tgt := 35) zC dX5_voyage_13 (by decide) (fun c13 => ?_) (fun c13 => ?_)
    · refine zr_iconst zC dX5_voyage_35 ?_
      exact zm_iret zC zK hG dX5_voyage_36 (by unfold rC_voyage; (repeat' split) <;> first | rfl | omega) (by unfold mC_voyage; (repeat' split) <;> first | exact hR | (exfalso; omega)) (sC_r _)
    · refine lv_iload_n zC.1 zC.2.1 dX5_voyage_16 rfl (lv_at hl 3 rfl) ?_
      refine zr_callS zC hG (c_X5_isDay (σ := σ) (v := x) (by first | assumption | omega)) mt_X5_isDay wl_X5_122 ⟨by decide, by decide⟩ rfl hl.1 rfl (Nat.le_of_ble_eq_true rfl) dX5_voyage_17 ⟨Nat.zero_le _, Nat.zero_le _⟩ (fun H locs hG => ?_)
      refine W.eq (g2 := F0 zm 20 ls [.int (zI (zB (0 ≤ x ∧ x ≤ 19999)))]) rfl ?_
      refine zr_ifeqB (tgt := 35) zC dX5_voyage_20 (by decide) (fun c20 => ?_) (fun c20 => ?_)
      · refine zr_iconst zC dX5_voyage_35 ?_
        exact zm_iret zC zK hG dX5_voyage_36 (by unfold rC_voyage; (repeat' split) <;> first | rfl | omega) (by unfold mC_voyage; (repeat' split) <;> first | exact hR | (exfalso; omega)) (sC_r _)
      · refine lv_iload zC.1 zC.2.1 dX5_voyage_23 (lv_at hl 4 rfl) ?_
        refine zr_iconst zC dX5_voyage_25 ?_
        refine zr_sipush zC dX5_voyage_26 (by decide +kernel) ?_
        refine zr_callS zC hG (c_X5_in (σ := σ) (v := n) (a := 0) (b := 999) (by first | assumption | omega) (by first | assumption | omega) (by first | assumption | omega)) mt_X5_in wl_X5_60 ⟨by decide, by decide⟩ rfl hl.1 rfl (Nat.le_of_ble_eq_true rfl) dX5_voyage_29 ⟨Nat.zero_le _, Nat.zero_le _⟩ (fun H locs hG => ?_)
        refine W.eq (g2 := F0 zm 32 ls [.int (zI (zB (0 ≤ n ∧ n ≤ 999)))]) rfl ?_
        refine zr_ifneB (tgt := 37) zC dX5_voyage_32 (by decide) (fun c32 => ?_) (fun c32 => ?_)
        · refine lv_iload_n zC.1 zC.2.1 dX5_voyage_37 rfl (lv_at hl 3 rfl) ?_
          refine lv_iload zC.1 zC.2.1 dX5_voyage_38 (lv_at hl 4 rfl) ?_
          refine zr_iadd zC dX5_voyage_40 ?_
          refine zr_sipush zC dX5_voyage_41 (by decide +kernel) ?_
          refine zr_icmp_le (tgt := 50) zC dX5_voyage_44 (by decide) (by omega) (fun c44 => ?_) (fun c44 => ?_)
          · refine lv_aload_n zC.1 zC.2.1 dX5_voyage_50 rfl (lv_at hl 0 rfl) ?_
            refine lv_iload_n zC.1 zC.2.1 dX5_voyage_51 rfl (lv_at hl 1 rfl) ?_
            refine lv_iload_n zC.1 zC.2.1 dX5_voyage_52 rfl (lv_at hl 3 rfl) ?_
            refine zr_callV zC hG (c_X5_countIn (τ := τ) (σ := σ) (c := c) (d := x) hR hI (by first | assumption | omega) (by first | assumption | omega)) mt_X5_countIn wl_X5_201 pM rfl rfl ⟨by decide, by decide⟩ rfl hl.1 rfl (Nat.le_of_ble_eq_true rfl) dX5_voyage_53 ⟨Nat.zero_le _, Nat.zero_le _⟩ (fun H locs hG => ?_)
            refine W.eq (g2 := F0 zm 56 ls [.int (zI (cnt (τ 6 c 0) (τ 6 c 2) (τ 6 c 3) x))]) rfl ?_
            have b53_0 := cnt_r (k := (τ 6 c 0)) (o := (τ 6 c 2)) (g := (τ 6 c 3)) (d := x) (hI.2.2.2.2.2.2.1 c (by omega) (by omega)).2.2.2
            refine lv_istore (lv' := [(5, .int (zI (cnt (τ 6 c 0) (τ 6 c 2) (τ 6 c 3) x))), (0, .ref (aM Γ)), (1, .int (zI c)), (2, .int (zI d)), (3, .int (zI x)), (4, .int (zI n))]) zC.1 zC.2.1 dX5_voyage_56 hl (by decide) rfl (fun ls hl => ?_)
            refine lv_aload_n zC.1 zC.2.1 dX5_voyage_58 rfl (lv_at hl 1 rfl) ?_
            refine lv_aload_n zC.1 zC.2.1 dX5_voyage_59 rfl (lv_at hl 1 rfl) ?_
            refine lv_iload_n zC.1 zC.2.1 dX5_voyage_60 rfl (lv_at hl 3 rfl) ?_
            refine lv_iload_n zC.1 zC.2.1 dX5_voyage_61 rfl (lv_at hl 4 rfl) ?_
            refine lv_iload zC.1 zC.2.1 dX5_voyage_62 (lv_at hl 5 rfl) ?_
            refine zr_iadd zC dX5_voyage_64 ?_
            refine zr_callV zC hG (c_X5_countIn (τ := τ) (σ := up (up (up (up σ 20 0 19 (τ 6 c 0)) 20 0 20 (τ 6 c 1)) 20 0 21 (τ 6 c 2)) 20 0 22 (τ 6 c 3)) (c := d) (d := x + n) hR hI (by first | assumption | omega) (by first | assumption | omega)) mt_X5_countIn wl_X5_201 pM rfl rfl ⟨by decide, by decide⟩ rfl hl.1 rfl (Nat.le_of_ble_eq_true rfl) dX5_voyage_65 ⟨Nat.zero_le _, Nat.zero_le _⟩ (fun H locs hG => ?_)
            refine W.eq (g2 := F0 zm 68 ls [.int (zI (cnt (τ 6 d 0) (τ 6 d 2) (τ 6 d 3) (x + n))), .ref (aM Γ)]) rfl ?_
            have b65_0 := cnt_r (k := (τ 6 d 0)) (o := (τ 6 d 2)) (g := (τ 6 d 3)) (d := (x + n)) (hI.2.2.2.2.2.2.1 d (by omega) (by omega)).2.2.2
            refine lv_iload zC.1 zC.2.1 dX5_voyage_68 (lv_at hl 0 rfl) ?_
            refine zr_isub zC dX5_voyage_70 ?_
            refine zr_iconst zC dX5_voyage_71 ?_
            refine zr_callV zC hG (c_X5_ask (σ := up (up (up (up (up (up (up (up σ 20 0 19 (τ 6 c 0)) 20 0 20 (τ 6 c 1)) 20 0 21 (τ 6 c 2)) 20 0 22 (τ 6 c 3)) 20 0 19 (τ 6 d 0)) 20 0 20 (τ 6 d 1)) 20 0 21 (τ 6 d 2)) 20 0 22 (τ 6 d 3)) (v := (cnt (τ 6 d 0) (τ 6 d 2) (τ 6 d 3) (x + n)) - (cnt (τ 6 c 0) (τ 6 c 2) (τ 6 c 3) x)) (w := 1)) mt_X5_ask wl_X5_86 pM rfl rfl ⟨by decide, by decide⟩ rfl hl.1 rfl (Nat.le_of_ble_eq_true rfl) dX5_voyage_72 ⟨Nat.zero_le _, Nat.zero_le _⟩ (fun H locs hG => ?_)
            refine W.eq (g2 := F0 zm 75 ls [.int (zI 1)]) rfl ?_
            exact zm_iret zC zK hG dX5_voyage_75 (by unfold rC_voyage; (repeat' split) <;> first | rfl | omega) (by unfold mC_voyage; (repeat' split) <;> first | exact (rl_ask hR) | (exfalso; omega)) (sC_up (sC_up (sC_up (sC_up (sC_up (sC_up (sC_up (sC_up (sC_up (sC_r _) (by decide)) (by decide)) (by decide)) (by decide)) (by decide)) (by decide)) (by decide)) (by decide)) (by decide))
          · refine zr_bipush zC dX5_voyage_47 (by decide +kernel) ?_
            exact zm_iret zC zK hG dX5_voyage_49 (by unfold rC_voyage; (repeat' split) <;> first | rfl | omega) (by unfold mC_voyage; (repeat' split) <;> first | exact hR | (exfalso; omega)) (sC_r _)
        · refine zr_iconst zC dX5_voyage_35 ?_
          exact zm_iret zC zK hG dX5_voyage_36 (by unfold rC_voyage; (repeat' split) <;> first | rfl | omega) (by unfold mC_voyage; (repeat' split) <;> first | exact hR | (exfalso; omega)) (sC_r _)

set_option maxHeartbeats 4000000 in
set_option maxRecDepth 100000 in
theorem c_X5_moon {Γ : Gm} {zl : Launch} {A : Nat → Prop} {τ σ : Mm} {d : Int} (hR : Rel2 τ σ) (hI : IC τ) (hd : -2147483648 ≤ d ∧ d < 2147483648) : Fr Γ zl A yX5_moon cX5_moon 2 (some .int) 2 42 [.ref (aM Γ), .int (zI d)] σ (some (.int (zI (rC_moon τ d)))) (mC_moon τ d) := by
  refine Fr_of (by decide) (Nat.le_of_ble_eq_true rfl) ?_
  intro zp ze zs zm args below meth zc zQ H locs ls zC zK hG hl
  have hl : lv_has ls 2 [(0, .ref (aM Γ)), (1, .int (zI d))] := hl
  obtain ⟨hmany, htoday, -⟩ := id hI
  refine lv_iload_n zC.1 zC.2.1 dX5_moon_0 rfl (lv_at hl 1 rfl) ?_
  refine zr_callS zC hG (c_X5_isDay (σ := σ) (v := d) (by first | assumption | omega)) mt_X5_isDay wl_X5_122 ⟨by decide, by decide⟩ rfl hl.1 rfl (Nat.le_of_ble_eq_true rfl) dX5_moon_1 ⟨Nat.zero_le _, Nat.zero_le _⟩ (fun H locs hG => ?_)
  refine W.eq (g2 := F0 zm 4 ls [.int (zI (zB (0 ≤ d ∧ d ≤ 19999)))]) rfl ?_
  refine zr_ifeqB (tgt := 30) zC dX5_moon_4 (by decide) (fun c4 => ?_) (fun c4 => ?_)
  · refine zr_iconst zC dX5_moon_30 ?_
    exact zm_iret zC zK hG dX5_moon_31 (by unfold rC_moon; (repeat' split) <;> first | rfl | omega) (by unfold mC_moon; (repeat' split) <;> first | exact hR | (exfalso; omega)) (sC_r _)
  · refine lv_aload_n zC.1 zC.2.1 dX5_moon_7 rfl (lv_at hl 0 rfl) ?_
    refine lv_iload_n zC.1 zC.2.1 dX5_moon_8 rfl (lv_at hl 1 rfl) ?_
    refine zr_callS zC hG (c_X5_tillFull (σ := σ) (d := d) (by first | assumption | omega)) mt_X5_tillFull wl_X5_223 ⟨by decide, by decide⟩ rfl hl.1 rfl (Nat.le_of_ble_eq_true rfl) dX5_moon_9 ⟨Nat.zero_le _, Nat.zero_le _⟩ (fun H locs hG => ?_)
    refine W.eq (g2 := F0 zm 12 ls [.int (zI (tlF d)), .ref (aM Γ)]) rfl ?_
    have b9_0 := tlF_r (d := d) (by omega)
    refine lv_iload_n zC.1 zC.2.1 dX5_moon_12 rfl (lv_at hl 1 rfl) ?_
    refine zr_callS zC hG (c_X5_tillFull (σ := σ) (d := d) (by first | assumption | omega)) mt_X5_tillFull wl_X5_223 ⟨by decide, by decide⟩ rfl hl.1 rfl (Nat.le_of_ble_eq_true rfl) dX5_moon_13 ⟨Nat.zero_le _, Nat.zero_le _⟩ (fun H locs hG => ?_)
    refine W.eq (g2 := F0 zm 16 ls [.int (zI (tlF d)), .int (zI (tlF d)), .ref (aM Γ)]) rfl ?_
    have b13_0 := tlF_r (d := d) (by omega)
    refine zr_if_ne (tgt := 23) zC dX5_moon_16 (by decide) (by omega) (fun c16 => ?_) (fun c16 => ?_)
    · refine zr_iconst zC dX5_moon_23 ?_
      refine zr_callV zC hG (c_X5_ask (σ := σ) (v := tlF d) (w := 0)) mt_X5_ask wl_X5_86 pM rfl rfl ⟨by decide, by decide⟩ rfl hl.1 rfl (Nat.le_of_ble_eq_true rfl) dX5_moon_24 ⟨Nat.zero_le _, Nat.zero_le _⟩ (fun H locs hG => ?_)
      refine W.eq (g2 := F0 zm 27 ls [.int (zI 0)]) rfl ?_
      refine lv_goto (tgt := 31) zC.1 zC.2.1 dX5_moon_27 (by decide) ?_
      exact zm_iret zC zK hG dX5_moon_31 (by unfold rC_moon; (repeat' split) <;> first | rfl | omega) (by unfold mC_moon; (repeat' split) <;> first | exact (rl_ask hR) | (exfalso; omega)) (sC_up (sC_r _) (by decide))
    · refine zr_iconst zC dX5_moon_19 ?_
      refine lv_goto (tgt := 24) zC.1 zC.2.1 dX5_moon_20 (by decide) ?_
      refine zr_callV zC hG (c_X5_ask (σ := σ) (v := tlF d) (w := 1)) mt_X5_ask wl_X5_86 pM rfl rfl ⟨by decide, by decide⟩ rfl hl.1 rfl (Nat.le_of_ble_eq_true rfl) dX5_moon_24 ⟨Nat.zero_le _, Nat.zero_le _⟩ (fun H locs hG => ?_)
      refine W.eq (g2 := F0 zm 27 ls [.int (zI 1)]) rfl ?_
      refine lv_goto (tgt := 31) zC.1 zC.2.1 dX5_moon_27 (by decide) ?_
      exact zm_iret zC zK hG dX5_moon_31 (by unfold rC_moon; (repeat' split) <;> first | rfl | omega) (by unfold mC_moon; (repeat' split) <;> first | exact (rl_ask hR) | (exfalso; omega)) (sC_up (sC_r _) (by decide))
