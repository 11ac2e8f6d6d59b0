set_option maxHeartbeats 4000000 in
set_option maxRecDepth 100000 in
theorem c_X0_isOf {Γ : Gm} {zl : Launch} {A : Nat → Prop} {σ : Mm} {i w : Int} (hi : 0 ≤ i ∧ i < 6) (ho : CalOK σ i) (hw : -2147483648 ≤ w ∧ w < 2147483648) : Fn Γ zl A yX0_isOf cX0_isOf 2 (some .boolean) 0 0 [.ref (aCal Γ i), .int (zI w)] σ (some (.int (zI (zB (isO (σ 6 i 0) w))))) σ := by
  refine Fn_of (by decide) (Nat.le_of_ble_eq_true rfl) ?_
  intro zp ze zs zm args below meth zc zQ H locs ls zC zK hG hl
  have hl : lv_has ls 2 [(0, .ref (aCal Γ i)), (1, .int (zI w))] := hl
  obtain ⟨hk, hlp, hod, hgp⟩ := id ho
  refine lv_iload_n zC.1 zC.2.1 dX0_isOf_0 rfl (lv_at hl 1 rfl) ?_
  refine zr_if_eq (tgt := 24) zC dX0_isOf_1 (by decide) (by omega) (fun c1 => ?_) (fun c1 => ?_)
  · refine zr_iconst zC dX0_isOf_24 ?_
    refine lv_goto (tgt := 29) zC.1 zC.2.1 dX0_isOf_25 (by decide) ?_
    exact zr_zret zC zK hG dX0_isOf_29 (zB_t (by omega)) (Or.inr rfl) rfl
  · refine lv_aload_n zC.1 zC.2.1 dX0_isOf_4 rfl (lv_at hl 0 rfl) ?_
    refine gf_Cal_kind (v := σ 6 i 0) zC hG (by first | assumption | omega) wl_X0_9 rfl dX0_isOf_5 ?_
    refine lv_iload_n zC.1 zC.2.1 dX0_isOf_8 rfl (lv_at hl 1 rfl) ?_
    refine zr_icmp_eq (tgt := 24) zC dX0_isOf_9 (by decide) (by omega) (fun c9 => ?_) (fun c9 => ?_)
    · refine zr_iconst zC dX0_isOf_24 ?_
      refine lv_goto (tgt := 29) zC.1 zC.2.1 dX0_isOf_25 (by decide) ?_
      exact zr_zret zC zK hG dX0_isOf_29 (zB_t (by omega)) (Or.inr rfl) rfl
    · refine zr_stPar zC hG dX0_isOf_12 ?_
      refine lv_aload_n zC.1 zC.2.1 dX0_isOf_15 rfl (lv_at hl 0 rfl) ?_
      refine gf_Cal_kind (v := σ 6 i 0) zC hG (by first | assumption | omega) wl_X0_9 rfl dX0_isOf_16 ?_
      refine zr_tab (f := tPar) zC hG hG.2.2.2.2.1.2.1.2 (by omega) dX0_isOf_19 ?_
      have b20 : 0 ≤ tPar (σ 6 i 0) ∧ tPar (σ 6 i 0) ≤ 2 := by unfold tPar; (repeat' split) <;> omega
      refine lv_iload_n zC.1 zC.2.1 dX0_isOf_20 rfl (lv_at hl 1 rfl) ?_
      refine zr_icmp_ne (tgt := 28) zC dX0_isOf_21 (by decide) (by omega) (fun c21 => ?_) (fun c21 => ?_)
      · refine zr_iconst zC dX0_isOf_28 ?_
        exact zr_zret zC zK hG dX0_isOf_29 (zB_f (by omega)) (Or.inl rfl) rfl
      · refine zr_iconst zC dX0_isOf_24 ?_
        refine lv_goto (tgt := 29) zC.1 zC.2.1 dX0_isOf_25 (by decide) ?_
        exact zr_zret zC zK hG dX0_isOf_29 (zB_t (by omega)) (Or.inr rfl) rfl

set_option maxHeartbeats 4000000 in
set_option maxRecDepth 100000 in
theorem c_X0_timesCut {Γ : Gm} {zl : Launch} {A : Nat → Prop} {σ : Mm} {i : Int} (hi : 0 ≤ i ∧ i < 6) (ho : CalOK σ i) : Fn Γ zl A yX0_timesCut cX0_timesCut 1 (some .int) 0 0 [.ref (aCal Γ i)] σ (some (.int (zI (tCut (σ 6 i 0))))) σ := by
  refine Fn_of (by decide) (Nat.le_of_ble_eq_true rfl) ?_
  intro zp ze zs zm args below meth zc zQ H locs ls zC zK hG hl
  have hl : lv_has ls 1 [(0, .ref (aCal Γ i))] := hl
  obtain ⟨hk, hlp, hod, hgp⟩ := id ho
  refine zr_stCut zC hG dX0_timesCut_0 ?_
  refine lv_aload_n zC.1 zC.2.1 dX0_timesCut_3 rfl (lv_at hl 0 rfl) ?_
  refine gf_Cal_kind (v := σ 6 i 0) zC hG (by first | assumption | omega) wl_X0_9 rfl dX0_timesCut_4 ?_
  refine zr_tab (f := tCut) zC hG hG.2.2.2.2.1.2.2.2 (by omega) dX0_timesCut_7 ?_
  exact zr_iret zC zK hG dX0_timesCut_8 rfl rfl

set_option maxHeartbeats 4000000 in
set_option maxRecDepth 100000 in
theorem c_X0_cutsBy {Γ : Gm} {zl : Launch} {A : Nat → Prop} {σ : Mm} {i d : Int} (hi : 0 ≤ i ∧ i < 6) (ho : CalOK σ i) (hd : -1000000000 ≤ d ∧ d ≤ 1000000000) : Fn Γ zl A yX0_cutsBy cX0_cutsBy 3 (some .int) 1 20 [.ref (aCal Γ i), .int (zI d)] σ (some (.int (zI (cby (σ 6 i 0) (σ 6 i 2) d)))) σ := by
  refine Fn_of (by decide) (Nat.le_of_ble_eq_true rfl) ?_
  intro zp ze zs zm args below meth zc zQ H locs ls zC zK hG hl
  have hl : lv_has ls 3 [(0, .ref (aCal Γ i)), (1, .int (zI d))] := hl
  obtain ⟨hk, hlp, hod, hgp⟩ := id ho
  refine lv_aload_n zC.1 zC.2.1 dX0_cutsBy_0 rfl (lv_at hl 0 rfl) ?_
  refine zr_callV zC hG (c_X0_timesCut (σ := σ) (i := i) (by first | assumption | omega) (by first | assumption | omega)) mt_X0_timesCut wl_X0_38 (pCal (by first | assumption | omega)) rfl rfl ⟨by decide, by decide⟩ rfl hl.1 rfl (Nat.le_of_ble_eq_true rfl) dX0_cutsBy_1 ⟨Nat.zero_le _, Nat.zero_le _⟩ (fun H locs hG => ?_)
  refine W.eq (g2 := F0 zm 4 ls [.int (zI (tCut (σ 6 i 0)))]) rfl ?_
  have b1_0 := tCut_r (σ 6 i 0)
  refine lv_istore_n (lv' := [(2, .int (zI (tCut (σ 6 i 0)))), (0, .ref (aCal Γ i)), (1, .int (zI d))]) zC.1 zC.2.1 dX0_cutsBy_4 rfl hl (by decide) rfl (fun ls hl => ?_)
  refine lv_iload_n zC.1 zC.2.1 dX0_cutsBy_5 rfl (lv_at hl 0 rfl) ?_
  refine zr_if_eq (tgt := 17) zC dX0_cutsBy_6 (by decide) (by omega) (fun c6 => ?_) (fun c6 => ?_)
  · refine zr_iconst zC dX0_cutsBy_17 ?_
    exact zr_iret zC zK hG dX0_cutsBy_18 (by unfold cby; (repeat' split) <;> omega) rfl
  · refine lv_iload_n zC.1 zC.2.1 dX0_cutsBy_9 rfl (lv_at hl 2 rfl) ?_
    refine lv_aload_n zC.1 zC.2.1 dX0_cutsBy_10 rfl (lv_at hl 1 rfl) ?_
    refine gf_Cal_order (v := σ 6 i 2) zC hG (by first | assumption | omega) wl_X0_18 rfl dX0_cutsBy_11 ?_
    refine zr_icmp_ge (tgt := 19) zC dX0_cutsBy_14 (by decide) (by omega) (fun c14 => ?_) (fun c14 => ?_)
    · refine lv_iload_n zC.1 zC.2.1 dX0_cutsBy_19 rfl (lv_at hl 0 rfl) ?_
      refine zr_iconst zC dX0_cutsBy_20 ?_
      refine zr_icmp_eq (tgt := 36) zC dX0_cutsBy_21 (by decide) (by omega) (fun c21 => ?_) (fun c21 => ?_)
      · refine zr_iconst zC dX0_cutsBy_36 ?_
        refine lv_goto (tgt := 41) zC.1 zC.2.1 dX0_cutsBy_37 (by decide) ?_
        exact zr_iret zC zK hG dX0_cutsBy_41 (by unfold cby; (repeat' split) <;> omega) rfl
      · refine lv_iload_n zC.1 zC.2.1 dX0_cutsBy_24 rfl (lv_at hl 2 rfl) ?_
        refine lv_aload_n zC.1 zC.2.1 dX0_cutsBy_25 rfl (lv_at hl 1 rfl) ?_
        refine gf_Cal_order (v := σ 6 i 2) zC hG (by first | assumption | omega) wl_X0_18 rfl dX0_cutsBy_26 ?_
        refine zr_sipush zC dX0_cutsBy_29 (by decide +kernel) ?_
        refine zr_iadd zC dX0_cutsBy_32 ?_
        refine zr_icmp_ge (tgt := 40) zC dX0_cutsBy_33 (by decide) (by omega) (fun c33 => ?_) (fun c33 => ?_)
        · refine zr_iconst zC dX0_cutsBy_40 ?_
          exact zr_iret zC zK hG dX0_cutsBy_41 (by unfold cby; (repeat' split) <;> omega) rfl
        · refine zr_iconst zC dX0_cutsBy_36 ?_
          refine lv_goto (tgt := 41) zC.1 zC.2.1 dX0_cutsBy_37 (by decide) ?_
          exact zr_iret zC zK hG dX0_cutsBy_41 (by unfold cby; (repeat' split) <;> omega) rfl
    · refine zr_iconst zC dX0_cutsBy_17 ?_
      exact zr_iret zC zK hG dX0_cutsBy_18 (by unfold cby; (repeat' split) <;> omega) rfl

set_option maxHeartbeats 4000000 in
set_option maxRecDepth 100000 in
theorem c_X0_dayOfCut {Γ : Gm} {zl : Launch} {A : Nat → Prop} {σ : Mm} {i u : Int} (hi : 0 ≤ i ∧ i < 6) (ho : CalOK σ i) (hu : 0 ≤ u ∧ u ≤ 10) : Fn Γ zl A yX0_dayOfCut cX0_dayOfCut 2 (some .int) 0 0 [.ref (aCal Γ i), .int (zI u)] σ (some (.int (zI (dcut (σ 6 i 2) u)))) σ := by
  refine Fn_of (by decide) (Nat.le_of_ble_eq_true rfl) ?_
  intro zp ze zs zm args below meth zc zQ H locs ls zC zK hG hl
  have hl : lv_has ls 2 [(0, .ref (aCal Γ i)), (1, .int (zI u))] := hl
  obtain ⟨hk, hlp, hod, hgp⟩ := id ho
  refine lv_iload_n zC.1 zC.2.1 dX0_dayOfCut_0 rfl (lv_at hl 1 rfl) ?_
  refine zr_iconst zC dX0_dayOfCut_1 ?_
  refine zr_icmp_ne (tgt := 12) zC dX0_dayOfCut_2 (by decide) (by omega) (fun c2 => ?_) (fun c2 => ?_)
  · refine lv_aload_n zC.1 zC.2.1 dX0_dayOfCut_12 rfl (lv_at hl 0 rfl) ?_
    refine gf_Cal_order (v := σ 6 i 2) zC hG (by first | assumption | omega) wl_X0_18 rfl dX0_dayOfCut_13 ?_
    refine zr_sipush zC dX0_dayOfCut_16 (by decide +kernel) ?_
    refine zr_iadd zC dX0_dayOfCut_19 ?_
    exact zr_iret zC zK hG dX0_dayOfCut_20 (by unfold dcut; split <;> omega) rfl
  · refine lv_aload_n zC.1 zC.2.1 dX0_dayOfCut_5 rfl (lv_at hl 0 rfl) ?_
    refine gf_Cal_order (v := σ 6 i 2) zC hG (by first | assumption | omega) wl_X0_18 rfl dX0_dayOfCut_6 ?_
    refine lv_goto (tgt := 20) zC.1 zC.2.1 dX0_dayOfCut_9 (by decide) ?_
    exact zr_iret zC zK hG dX0_dayOfCut_20 (by unfold dcut; split <;> omega) rfl

set_option maxHeartbeats 4000000 in
set_option maxRecDepth 100000 in
theorem c_X0_firstLeftOut {Γ : Gm} {zl : Launch} {A : Nat → Prop} {σ : Mm} {i u : Int} (hi : 0 ≤ i ∧ i < 6) (ho : CalOK σ i) (hu : 0 ≤ u ∧ u ≤ 10) : Fn Γ zl A yX0_firstLeftOut cX0_firstLeftOut 2 (some .int) 1 21 [.ref (aCal Γ i), .int (zI u)] σ (some (.int (zI (dcut (σ 6 i 2) u + (u - 1) * (σ 6 i 3))))) σ := by
  refine Fn_of (by decide) (Nat.le_of_ble_eq_true rfl) ?_
  intro zp ze zs zm args below meth zc zQ H locs ls zC zK hG hl
  have hl : lv_has ls 2 [(0, .ref (aCal Γ i)), (1, .int (zI u))] := hl
  obtain ⟨hk, hlp, hod, hgp⟩ := id ho
  refine lv_aload_n zC.1 zC.2.1 dX0_firstLeftOut_0 rfl (lv_at hl 0 rfl) ?_
  refine lv_iload_n zC.1 zC.2.1 dX0_firstLeftOut_1 rfl (lv_at hl 1 rfl) ?_
  refine zr_callV zC hG (c_X0_dayOfCut (σ := σ) (i := i) (u := u) (by first | assumption | omega) (by first | assumption | omega) (by first | assumption | omega)) mt_X0_dayOfCut wl_X0_42 (pCal (by first | assumption | omega)) rfl rfl ⟨by decide, by decide⟩ rfl hl.1 rfl (Nat.le_of_ble_eq_true rfl) dX0_firstLeftOut_2 ⟨Nat.zero_le _, Nat.zero_le _⟩ (fun H locs hG => ?_)
  refine W.eq (g2 := F0 zm 5 ls [.int (zI (dcut (σ 6 i 2) u))]) rfl ?_
  have b2_0 := (show (σ 6 i 2) ≤ dcut (σ 6 i 2) u ∧ dcut (σ 6 i 2) u ≤ (σ 6 i 2) + 1000 by unfold dcut; split <;> omega)
  refine lv_iload_n zC.1 zC.2.1 dX0_firstLeftOut_5 rfl (lv_at hl 1 rfl) ?_
  refine zr_iconst zC dX0_firstLeftOut_6 ?_
  refine zr_isub zC dX0_firstLeftOut_7 ?_
  refine lv_aload_n zC.1 zC.2.1 dX0_firstLeftOut_8 rfl (lv_at hl 0 rfl) ?_
  refine gf_Cal_gap (v := σ 6 i 3) zC hG (by first | assumption | omega) wl_X0_21 rfl dX0_firstLeftOut_9 ?_
  refine zr_imul zC dX0_firstLeftOut_12 ?_
  refine zr_iadd zC dX0_firstLeftOut_13 ?_
  exact zr_iret zC zK hG dX0_firstLeftOut_14 rfl rfl

set_option maxHeartbeats 4000000 in
set_option maxRecDepth 100000 in
theorem c_X0_countOn {Γ : Gm} {zl : Launch} {A : Nat → Prop} {σ : Mm} {i d : Int} (hi : 0 ≤ i ∧ i < 6) (ho : CalOK σ i) (hd : -1000000 ≤ d ∧ d ≤ 1000000) : Fn Γ zl A yX0_countOn cX0_countOn 2 (some .int) 2 42 [.ref (aCal Γ i), .int (zI d)] σ (some (.int (zI (cnt (σ 6 i 0) (σ 6 i 2) (σ 6 i 3) d)))) σ := by
  refine Fn_of (by decide) (Nat.le_of_ble_eq_true rfl) ?_
  intro zp ze zs zm args below meth zc zQ H locs ls zC zK hG hl
  have hl : lv_has ls 2 [(0, .ref (aCal Γ i)), (1, .int (zI d))] := hl
  obtain ⟨hk, hlp, hod, hgp⟩ := id ho
  refine lv_iload_n zC.1 zC.2.1 dX0_countOn_0 rfl (lv_at hl 1 rfl) ?_
  refine lv_aload_n zC.1 zC.2.1 dX0_countOn_1 rfl (lv_at hl 0 rfl) ?_
  refine gf_Cal_gap (v := σ 6 i 3) zC hG (by first | assumption | omega) wl_X0_21 rfl dX0_countOn_2 ?_
  refine lv_aload_n zC.1 zC.2.1 dX0_countOn_5 rfl (lv_at hl 0 rfl) ?_
  refine lv_iload_n zC.1 zC.2.1 dX0_countOn_6 rfl (lv_at hl 1 rfl) ?_
  refine zr_callV zC hG (c_X0_cutsBy (σ := σ) (i := i) (d := d) (by first | assumption | omega) (by first | assumption | omega) (by first | assumption | omega)) mt_X0_cutsBy wl_X0_46 (pCal (by first | assumption | omega)) rfl rfl ⟨by decide, by decide⟩ rfl hl.1 rfl (Nat.le_of_ble_eq_true rfl) dX0_countOn_7 ⟨Nat.zero_le _, Nat.zero_le _⟩ (fun H locs hG => ?_)
  refine W.eq (g2 := F0 zm 10 ls [.int (zI (cby (σ 6 i 0) (σ 6 i 2) d)), .int (zI (σ 6 i 3)), .int (zI d)]) rfl ?_
  have b7_0 := cby_r (σ 6 i 0) (σ 6 i 2) d
  refine zr_imul zC dX0_countOn_10 ?_
  refine zr_iadd zC dX0_countOn_11 ?_
  exact zr_iret zC zK hG dX0_countOn_12 rfl rfl

set_option maxHeartbeats 4000000 in
set_option maxRecDepth 100000 in
theorem c_X0_shortLength {Γ : Gm} {zl : Launch} {A : Nat → Prop} {σ : Mm} {i : Int} (hi : 0 ≤ i ∧ i < 6) (ho : CalOK σ i) : Fn Γ zl A yX0_shortLength cX0_shortLength 1 (some .int) 0 0 [.ref (aCal Γ i)] σ (some (.int (zI (shL (σ 6 i 0))))) σ := by
  refine Fn_of (by decide) (Nat.le_of_ble_eq_true rfl) ?_
  intro zp ze zs zm args below meth zc zQ H locs ls zC zK hG hl
  have hl : lv_has ls 1 [(0, .ref (aCal Γ i))] := hl
  obtain ⟨hk, hlp, hod, hgp⟩ := id ho
  refine lv_aload_n zC.1 zC.2.1 dX0_shortLength_0 rfl (lv_at hl 0 rfl) ?_
  refine gf_Cal_kind (v := σ 6 i 0) zC hG (by first | assumption | omega) wl_X0_9 rfl dX0_shortLength_1 ?_
  refine zr_iconst zC dX0_shortLength_4 ?_
  refine zr_icmp_ne (tgt := 13) zC dX0_shortLength_5 (by decide) (by omega) (fun c5 => ?_) (fun c5 => ?_)
  · refine zr_bipush zC dX0_shortLength_13 (by decide +kernel) ?_
    exact zr_iret zC zK hG dX0_shortLength_15 (by unfold shL; split <;> omega) rfl
  · refine zr_bipush zC dX0_shortLength_8 (by decide +kernel) ?_
    refine lv_goto (tgt := 15) zC.1 zC.2.1 dX0_shortLength_10 (by decide) ?_
    exact zr_iret zC zK hG dX0_shortLength_15 (by unfold shL; split <;> omega) rfl

set_option maxHeartbeats 4000000 in
set_option maxRecDepth 100000 in
theorem c_X0_hasLeaps {Γ : Gm} {zl : Launch} {A : Nat → Prop} {σ : Mm} {i : Int} (hi : 0 ≤ i ∧ i < 6) (ho : CalOK σ i) : Fn Γ zl A yX0_hasLeaps cX0_hasLeaps 1 (some .boolean) 1 21 [.ref (aCal Γ i)] σ (some (.int (zI (zB (isO (σ 6 i 0) 1))))) σ := by
  refine Fn_of (by decide) (Nat.le_of_ble_eq_true rfl) ?_
  intro zp ze zs zm args below meth zc zQ H locs ls zC zK hG hl
  have hl : lv_has ls 1 [(0, .ref (aCal Γ i))] := hl
  obtain ⟨hk, hlp, hod, hgp⟩ := id ho
  refine lv_aload_n zC.1 zC.2.1 dX0_hasLeaps_0 rfl (lv_at hl 0 rfl) ?_
  refine zr_iconst zC dX0_hasLeaps_1 ?_
  refine zr_callV zC hG (c_X0_isOf (σ := σ) (i := i) (w := 1) (by first | assumption | omega) (by first | assumption | omega) (by first | assumption | omega)) mt_X0_isOf wl_X0_28 (pCal (by first | assumption | omega)) rfl rfl ⟨by decide, by decide⟩ rfl hl.1 rfl (Nat.le_of_ble_eq_true rfl) dX0_hasLeaps_2 ⟨Nat.zero_le _, Nat.zero_le _⟩ (fun H locs hG => ?_)
  refine W.eq (g2 := F0 zm 5 ls [.int (zI (zB (isO (σ 6 i 0) 1)))]) rfl ?_
  refine zr_ifeqB (tgt := 22) zC dX0_hasLeaps_5 (by decide) (fun c5 => ?_) (fun c5 => ?_)
  · refine zr_iconst zC dX0_hasLeaps_22 ?_
    exact zr_zret zC zK hG dX0_hasLeaps_23 (zB_f c5) (Or.inl rfl) rfl
  · refine lv_aload_n zC.1 zC.2.1 dX0_hasLeaps_8 rfl (lv_at hl 0 rfl) ?_
    refine gf_Cal_leap (v := σ 6 i 1) zC hG (by first | assumption | omega) wl_X0_15 rfl dX0_hasLeaps_9 ?_
    refine zr_callSN zC hG (c_X4_isLeap (σ := σ) (v := σ 6 i 1) (by first | assumption | omega)) mt_X4_isLeap hG.2.2.2.2.2.2.2.2.2.2 ⟨by decide, by decide⟩ rfl hl.1 rfl (Nat.le_of_ble_eq_true rfl) dX0_hasLeaps_12 ⟨Nat.zero_le _, Nat.zero_le _⟩ (fun H locs hG => ?_)
    refine W.eq (g2 := F0 zm 15 ls [.int (zI (zB (2 ≤ (σ 6 i 1) ∧ (σ 6 i 1) ≤ 9)))]) rfl ?_
    refine zr_ifeqB (tgt := 22) zC dX0_hasLeaps_15 (by decide) (fun c15 => ?_) (fun c15 => ?_)
    · exact absurd hlp c15
    · refine zr_iconst zC dX0_hasLeaps_18 ?_
      refine lv_goto (tgt := 23) zC.1 zC.2.1 dX0_hasLeaps_19 (by decide) ?_
      exact zr_zret zC zK hG dX0_hasLeaps_23 (zB_t c5) (Or.inr rfl) rfl

set_option maxHeartbeats 4000000 in
set_option maxRecDepth 100000 in
theorem c_X0_lengthOf {Γ : Gm} {zl : Launch} {A : Nat → Prop} {σ : Mm} {i y : Int} (hi : 0 ≤ i ∧ i < 6) (ho : CalOK σ i) (hy : 0 ≤ y ∧ y ≤ 3000000) : Fn Γ zl A yX0_lengthOf cX0_lengthOf 2 (some .int) 2 41 [.ref (aCal Γ i), .int (zI y)] σ (some (.int (zI (lenY (σ 6 i 0) (σ 6 i 1) y)))) σ := by
  refine Fn_of (by decide) (Nat.le_of_ble_eq_true rfl) ?_
  intro zp ze zs zm args below meth zc zQ H locs ls zC zK hG hl
  have hl : lv_has ls 2 [(0, .ref (aCal Γ i)), (1, .int (zI y))] := hl
  obtain ⟨hk, hlp, hod, hgp⟩ := id ho
  refine lv_aload_n zC.1 zC.2.1 dX0_lengthOf_0 rfl (lv_at hl 0 rfl) ?_
  refine zr_callV zC hG (c_X0_hasLeaps (σ := σ) (i := i) (by first | assumption | omega) (by first | assumption | omega)) mt_X0_hasLeaps wl_X0_49 (pCal (by first | assumption | omega)) rfl rfl ⟨by decide, by decide⟩ rfl hl.1 rfl (Nat.le_of_ble_eq_true rfl) dX0_lengthOf_1 ⟨Nat.zero_le _, Nat.zero_le _⟩ (fun H locs hG => ?_)
  refine W.eq (g2 := F0 zm 4 ls [.int (zI (zB (isO (σ 6 i 0) 1)))]) rfl ?_
  refine zr_ifeqB (tgt := 21) zC dX0_lengthOf_4 (by decide) (fun c4 => ?_) (fun c4 => ?_)
  · refine lv_aload_n zC.1 zC.2.1 dX0_lengthOf_21 rfl (lv_at hl 0 rfl) ?_
    refine zr_callV zC hG (c_X0_shortLength (σ := σ) (i := i) (by first | assumption | omega) (by first | assumption | omega)) mt_X0_shortLength wl_X0_53 (pCal (by first | assumption | omega)) rfl rfl ⟨by decide, by decide⟩ rfl hl.1 rfl (Nat.le_of_ble_eq_true rfl) dX0_lengthOf_22 ⟨Nat.zero_le _, Nat.zero_le _⟩ (fun H locs hG => ?_)
    refine W.eq (g2 := F0 zm 25 ls [.int (zI (shL (σ 6 i 0)))]) rfl ?_
    have b22_0 := shL_r (σ 6 i 0)
    exact zr_iret zC zK hG dX0_lengthOf_25 (by unfold lenY; rw [isO_1] at c4; split <;> omega) rfl
  · refine lv_iload_n zC.1 zC.2.1 dX0_lengthOf_7 rfl (lv_at hl 1 rfl) ?_
    refine lv_aload_n zC.1 zC.2.1 dX0_lengthOf_8 rfl (lv_at hl 0 rfl) ?_
    refine gf_Cal_leap (v := σ 6 i 1) zC hG (by first | assumption | omega) wl_X0_15 rfl dX0_lengthOf_9 ?_
    refine zr_irem zC dX0_lengthOf_12 (by omega) ?_
    have b14 := Int.emod_nonneg y (show σ 6 i 1 ≠ 0 by omega)
    have b14a := Int.emod_lt_of_pos y (show 0 < σ 6 i 1 by omega)
    refine zr_if_ne (tgt := 21) zC dX0_lengthOf_13 (by decide) (by omega) (fun c13 => ?_) (fun c13 => ?_)
    · refine lv_aload_n zC.1 zC.2.1 dX0_lengthOf_21 rfl (lv_at hl 0 rfl) ?_
      refine zr_callV zC hG (c_X0_shortLength (σ := σ) (i := i) (by first | assumption | omega) (by first | assumption | omega)) mt_X0_shortLength wl_X0_53 (pCal (by first | assumption | omega)) rfl rfl ⟨by decide, by decide⟩ rfl hl.1 rfl (Nat.le_of_ble_eq_true rfl) dX0_lengthOf_22 ⟨Nat.zero_le _, Nat.zero_le _⟩ (fun H locs hG => ?_)
      refine W.eq (g2 := F0 zm 25 ls [.int (zI (shL (σ 6 i 0)))]) rfl ?_
      have b22_0 := shL_r (σ 6 i 0)
      exact zr_iret zC zK hG dX0_lengthOf_25 (by unfold lenY; rw [isO_1] at c4; split <;> omega) rfl
    · refine zr_bipush zC dX0_lengthOf_16 (by decide +kernel) ?_
      refine lv_goto (tgt := 25) zC.1 zC.2.1 dX0_lengthOf_18 (by decide) ?_
      exact zr_iret zC zK hG dX0_lengthOf_25 (by unfold lenY; rw [isO_1] at c4; split <;> omega) rfl

set_option maxHeartbeats 4000000 in
set_option maxRecDepth 100000 in
theorem c_X0_startOf {Γ : Gm} {zl : Launch} {A : Nat → Prop} {σ : Mm} {i y : Int} (hi : 0 ≤ i ∧ i < 6) (ho : CalOK σ i) (hy : 0 ≤ y ∧ y ≤ 3000000) : Fn Γ zl A yX0_startOf cX0_startOf 2 (some .int) 2 41 [.ref (aCal Γ i), .int (zI y)] σ (some (.int (zI (begY (σ 6 i 0) (σ 6 i 1) y)))) σ := by
  refine Fn_of (by decide) (Nat.le_of_ble_eq_true rfl) ?_
  intro zp ze zs zm args below meth zc zQ H locs ls zC zK hG hl
  have hl : lv_has ls 2 [(0, .ref (aCal Γ i)), (1, .int (zI y))] := hl
  obtain ⟨hk, hlp, hod, hgp⟩ := id ho
  refine lv_aload_n zC.1 zC.2.1 dX0_startOf_0 rfl (lv_at hl 0 rfl) ?_
  refine zr_callV zC hG (c_X0_shortLength (σ := σ) (i := i) (by first | assumption | omega) (by first | assumption | omega)) mt_X0_shortLength wl_X0_53 (pCal (by first | assumption | omega)) rfl rfl ⟨by decide, by decide⟩ rfl hl.1 rfl (Nat.le_of_ble_eq_true rfl) dX0_startOf_1 ⟨Nat.zero_le _, Nat.zero_le _⟩ (fun H locs hG => ?_)
  refine W.eq (g2 := F0 zm 4 ls [.int (zI (shL (σ 6 i 0)))]) rfl ?_
  have b1_0 := shL_r (σ 6 i 0)
  refine lv_iload_n zC.1 zC.2.1 dX0_startOf_4 rfl (lv_at hl 1 rfl) ?_
  refine zr_imul zC dX0_startOf_5 ?_
  refine lv_aload_n zC.1 zC.2.1 dX0_startOf_6 rfl (lv_at hl 0 rfl) ?_
  refine zr_callV zC hG (c_X0_hasLeaps (σ := σ) (i := i) (by first | assumption | omega) (by first | assumption | omega)) mt_X0_hasLeaps wl_X0_49 (pCal (by first | assumption | omega)) rfl rfl ⟨by decide, by decide⟩ rfl hl.1 rfl (Nat.le_of_ble_eq_true rfl) dX0_startOf_7 ⟨Nat.zero_le _, Nat.zero_le _⟩ (fun H locs hG => ?_)
  refine W.eq (g2 := F0 zm 10 ls [.int (zI (zB (isO (σ 6 i 0) 1))), .int (zI ((shL (σ 6 i 0)) * y))]) rfl ?_
  refine zr_ifeqB (tgt := 24) zC dX0_startOf_10 (by decide) (fun c10 => ?_) (fun c10 => ?_)
  · refine zr_iconst zC dX0_startOf_24 ?_
    refine zr_iadd zC dX0_startOf_25 ?_
    exact zr_iret zC zK hG dX0_startOf_26 (by unfold begY; rw [isO_1] at c10; first | rw [if_pos c10] | rw [if_neg c10]) rfl
  · refine lv_iload_n zC.1 zC.2.1 dX0_startOf_13 rfl (lv_at hl 1 rfl) ?_
    refine lv_aload_n zC.1 zC.2.1 dX0_startOf_14 rfl (lv_at hl 0 rfl) ?_
    refine gf_Cal_leap (v := σ 6 i 1) zC hG (by first | assumption | omega) wl_X0_15 rfl dX0_startOf_15 ?_
    refine zr_callSN zC hG (c_X4_longYearsBefore (σ := σ) (y := y) (lp := σ 6 i 1) (by first | assumption | omega) (by first | assumption | omega)) mt_X4_longYearsBefore hG.2.2.2.2.2.2.2.2.2.1 ⟨by decide, by decide⟩ rfl hl.1 rfl (Nat.le_of_ble_eq_true rfl) dX0_startOf_18 ⟨Nat.zero_le _, Nat.zero_le _⟩ (fun H locs hG => ?_)
    refine W.eq (g2 := F0 zm 21 ls [.int (zI (lyb y (σ 6 i 1))), .int (zI ((shL (σ 6 i 0)) * y))]) rfl ?_
    refine lv_goto (tgt := 25) zC.1 zC.2.1 dX0_startOf_21 (by decide) ?_
    refine zr_iadd zC dX0_startOf_25 ?_
    exact zr_iret zC zK hG dX0_startOf_26 (by unfold begY; rw [isO_1] at c10; first | rw [if_pos c10] | rw [if_neg c10]) rfl

set_option maxHeartbeats 4000000 in
set_option maxRecDepth 100000 in
theorem c_X0_dateOfCount {Γ : Gm} {zl : Launch} {A : Nat → Prop} {σ : Mm} {i n : Int} (hi : 0 ≤ i ∧ i < 6) (ho : CalOK σ i) (hn : 0 ≤ n ∧ n ≤ 100000) : Fn Γ zl A yX0_dateOfCount cX0_dateOfCount 5 (some .int) 2 41 [.ref (aCal Γ i), .int (zI n)] σ (some (.int (zI (dtC (σ 6 i 0) (σ 6 i 1) n)))) σ := by
  refine Fn_of (by decide) (Nat.le_of_ble_eq_true rfl) ?_
  intro zp ze zs zm args below meth zc zQ H locs ls zC zK hG hl
  have hl : lv_has ls 5 [(0, .ref (aCal Γ i)), (1, .int (zI n))] := hl
  obtain ⟨hk, hlp, hod, hgp⟩ := id ho
  refine lv_aload_n zC.1 zC.2.1 dX0_dateOfCount_0 rfl (lv_at hl 0 rfl) ?_
  refine zr_callV zC hG (c_X0_hasLeaps (σ := σ) (i := i) (by first | assumption | omega) (by first | assumption | omega)) mt_X0_hasLeaps wl_X0_49 (pCal (by first | assumption | omega)) rfl rfl ⟨by decide, by decide⟩ rfl hl.1 rfl (Nat.le_of_ble_eq_true rfl) dX0_dateOfCount_1 ⟨Nat.zero_le _, Nat.zero_le _⟩ (fun H locs hG => ?_)
  refine W.eq (g2 := F0 zm 4 ls [.int (zI (zB (isO (σ 6 i 0) 1)))]) rfl ?_
  refine zr_ifneB (tgt := 24) zC dX0_dateOfCount_4 (by decide) (fun c4 => ?_) (fun c4 => ?_)
  · refine zr_bipush zC dX0_dateOfCount_24 (by decide +kernel) ?_
    refine lv_aload_n zC.1 zC.2.1 dX0_dateOfCount_26 rfl (lv_at hl 0 rfl) ?_
    refine gf_Cal_leap (v := σ 6 i 1) zC hG (by first | assumption | omega) wl_X0_15 rfl dX0_dateOfCount_27 ?_
    refine zr_imul zC dX0_dateOfCount_30 ?_
    refine zr_iconst zC dX0_dateOfCount_31 ?_
    refine zr_iadd zC dX0_dateOfCount_32 ?_
    refine lv_istore_n (lv' := [(2, .int (zI ((100 * (σ 6 i 1)) + 1))), (0, .ref (aCal Γ i)), (1, .int (zI n))]) zC.1 zC.2.1 dX0_dateOfCount_33 rfl hl (by decide) rfl (fun ls hl => ?_)
    refine lv_iload_n zC.1 zC.2.1 dX0_dateOfCount_34 rfl (lv_at hl 2 rfl) ?_
    have b36 : 201 ≤ 100 * σ 6 i 1 + 1 ∧ 100 * σ 6 i 1 + 1 ≤ 901 := by omega
    refine lv_iload_n zC.1 zC.2.1 dX0_dateOfCount_35 rfl (lv_at hl 0 rfl) ?_
    refine zr_idiv zC dX0_dateOfCount_36 (by omega) ?_
    refine lv_aload_n zC.1 zC.2.1 dX0_dateOfCount_37 rfl (lv_at hl 1 rfl) ?_
    refine gf_Cal_leap (v := σ 6 i 1) zC hG (by first | assumption | omega) wl_X0_15 rfl dX0_dateOfCount_38 ?_
    refine zr_imul zC dX0_dateOfCount_41 ?_
    refine lv_istore_n (lv' := [(3, .int (zI ((n / ((100 * (σ 6 i 1)) + 1)) * (σ 6 i 1)))), (2, .int (zI ((100 * (σ 6 i 1)) + 1))), (0, .ref (aCal Γ i)), (1, .int (zI n))]) zC.1 zC.2.1 dX0_dateOfCount_42 rfl hl (by decide) rfl (fun ls hl => ?_)
    refine lv_iload_n zC.1 zC.2.1 dX0_dateOfCount_43 rfl (lv_at hl 3 rfl) ?_
    refine lv_iload_n zC.1 zC.2.1 dX0_dateOfCount_44 rfl (lv_at hl 1 rfl) ?_
    refine zr_irem zC dX0_dateOfCount_45 (by omega) ?_
    refine lv_istore (lv' := [(4, .int (zI (n % ((100 * (σ 6 i 1)) + 1)))), (3, .int (zI ((n / ((100 * (σ 6 i 1)) + 1)) * (σ 6 i 1)))), (2, .int (zI ((100 * (σ 6 i 1)) + 1))), (0, .ref (aCal Γ i)), (1, .int (zI n))]) zC.1 zC.2.1 dX0_dateOfCount_46 hl (by decide) rfl (fun ls hl => ?_)
    have b49 := Int.emod_nonneg n (show 100 * σ 6 i 1 + 1 ≠ 0 by omega)
    have b49a := Int.emod_lt_of_pos n (show 0 < 100 * σ 6 i 1 + 1 by omega)
    refine lv_iload zC.1 zC.2.1 dX0_dateOfCount_48 (lv_at hl 0 rfl) ?_
    refine zr_bipush zC dX0_dateOfCount_50 (by decide +kernel) ?_
    refine zr_icmp_ge (tgt := 64) zC dX0_dateOfCount_52 (by decide) (by omega) (fun c52 => ?_) (fun c52 => ?_)
    · refine zr_sipush zC dX0_dateOfCount_64 (by decide +kernel) ?_
      refine lv_iload_n zC.1 zC.2.1 dX0_dateOfCount_67 rfl (lv_at hl 1 rfl) ?_
      refine lv_iload zC.1 zC.2.1 dX0_dateOfCount_68 (lv_at hl 0 rfl) ?_
      refine zr_iconst zC dX0_dateOfCount_70 ?_
      refine zr_isub zC dX0_dateOfCount_71 ?_
      refine zr_bipush zC dX0_dateOfCount_72 (by decide +kernel) ?_
      refine zr_idiv zC dX0_dateOfCount_74 (by omega) ?_
      refine zr_iadd zC dX0_dateOfCount_75 ?_
      refine zr_imul zC dX0_dateOfCount_76 ?_
      refine lv_iload zC.1 zC.2.1 dX0_dateOfCount_77 (lv_at hl 0 rfl) ?_
      refine zr_iconst zC dX0_dateOfCount_79 ?_
      refine zr_isub zC dX0_dateOfCount_80 ?_
      refine zr_bipush zC dX0_dateOfCount_81 (by decide +kernel) ?_
      refine zr_irem zC dX0_dateOfCount_83 (by omega) ?_
      refine zr_iadd zC dX0_dateOfCount_84 ?_
      exact zr_iret zC zK hG dX0_dateOfCount_85 (by unfold dtC; rw [isO_1] at c4; first | rw [if_neg c4] | (rw [if_pos c4]; first | rw [if_pos c52] | rw [if_neg (by omega)])) rfl
    · refine zr_sipush zC dX0_dateOfCount_55 (by decide +kernel) ?_
      refine lv_iload_n zC.1 zC.2.1 dX0_dateOfCount_58 rfl (lv_at hl 1 rfl) ?_
      refine zr_imul zC dX0_dateOfCount_59 ?_
      refine lv_iload zC.1 zC.2.1 dX0_dateOfCount_60 (lv_at hl 0 rfl) ?_
      refine zr_iadd zC dX0_dateOfCount_62 ?_
      exact zr_iret zC zK hG dX0_dateOfCount_63 (by unfold dtC; rw [isO_1] at c4; first | rw [if_neg c4] | (rw [if_pos c4]; first | rw [if_pos c52] | rw [if_neg (by omega)])) rfl
  · refine lv_aload_n zC.1 zC.2.1 dX0_dateOfCount_7 rfl (lv_at hl 0 rfl) ?_
    refine zr_callV zC hG (c_X0_shortLength (σ := σ) (i := i) (by first | assumption | omega) (by first | assumption | omega)) mt_X0_shortLength wl_X0_53 (pCal (by first | assumption | omega)) rfl rfl ⟨by decide, by decide⟩ rfl hl.1 rfl (Nat.le_of_ble_eq_true rfl) dX0_dateOfCount_8 ⟨Nat.zero_le _, Nat.zero_le _⟩ (fun H locs hG => ?_)
    refine W.eq (g2 := F0 zm 11 ls [.int (zI (shL (σ 6 i 0)))]) rfl ?_
    have b8_0 := shL_r (σ 6 i 0)
    refine lv_istore_n (lv' := [(2, .int (zI (shL (σ 6 i 0)))), (0, .ref (aCal Γ i)), (1, .int (zI n))]) zC.1 zC.2.1 dX0_dateOfCount_11 rfl hl (by decide) rfl (fun ls hl => ?_)
    refine zr_sipush zC dX0_dateOfCount_12 (by decide +kernel) ?_
    refine lv_iload_n zC.1 zC.2.1 dX0_dateOfCount_15 rfl (lv_at hl 2 rfl) ?_
    refine lv_iload_n zC.1 zC.2.1 dX0_dateOfCount_16 rfl (lv_at hl 0 rfl) ?_
    refine zr_idiv zC dX0_dateOfCount_17 (by omega) ?_
    refine zr_imul zC dX0_dateOfCount_18 ?_
    refine lv_iload_n zC.1 zC.2.1 dX0_dateOfCount_19 rfl (lv_at hl 2 rfl) ?_
    refine lv_iload_n zC.1 zC.2.1 dX0_dateOfCount_20 rfl (lv_at hl 0 rfl) ?_
    refine zr_irem zC dX0_dateOfCount_21 (by omega) ?_
    refine zr_iadd zC dX0_dateOfCount_22 ?_
    exact zr_iret zC zK hG dX0_dateOfCount_23 (by unfold dtC; rw [isO_1] at c4; first | rw [if_neg c4] | (rw [if_pos c4]; first | rw [if_pos c52] | rw [if_neg (by omega)])) rfl

set_option maxHeartbeats 4000000 in
set_option maxRecDepth 100000 in
theorem c_X0_dateOn {Γ : Gm} {zl : Launch} {A : Nat → Prop} {σ : Mm} {i d : Int} (hi : 0 ≤ i ∧ i < 6) (ho : CalOK σ i) (hd : 0 ≤ d ∧ d ≤ 30000) : Fn Γ zl A yX0_dateOn cX0_dateOn 2 (some .int) 3 65 [.ref (aCal Γ i), .int (zI d)] σ (some (.int (zI (dtD (σ 6 i 0) (σ 6 i 1) (σ 6 i 2) (σ 6 i 3) d)))) σ := by
  refine Fn_of (by decide) (Nat.le_of_ble_eq_true rfl) ?_
  intro zp ze zs zm args below meth zc zQ H locs ls zC zK hG hl
  have hl : lv_has ls 2 [(0, .ref (aCal Γ i)), (1, .int (zI d))] := hl
  obtain ⟨hk, hlp, hod, hgp⟩ := id ho
  refine lv_aload_n zC.1 zC.2.1 dX0_dateOn_0 rfl (lv_at hl 0 rfl) ?_
  refine lv_aload_n zC.1 zC.2.1 dX0_dateOn_1 rfl (lv_at hl 0 rfl) ?_
  refine lv_iload_n zC.1 zC.2.1 dX0_dateOn_2 rfl (lv_at hl 1 rfl) ?_
  refine zr_callV zC hG (c_X0_countOn (σ := σ) (i := i) (d := d) (by first | assumption | omega) (by first | assumption | omega) (by first | assumption | omega)) mt_X0_countOn wl_X0_60 (pCal (by first | assumption | omega)) rfl rfl ⟨by decide, by decide⟩ rfl hl.1 rfl (Nat.le_of_ble_eq_true rfl) dX0_dateOn_3 ⟨Nat.zero_le _, Nat.zero_le _⟩ (fun H locs hG => ?_)
  refine W.eq (g2 := F0 zm 6 ls [.int (zI (cnt (σ 6 i 0) (σ 6 i 2) (σ 6 i 3) d)), .ref (aCal Γ i)]) rfl ?_
  have b3_0 := cnt_r (k := (σ 6 i 0)) (o := (σ 6 i 2)) (g := (σ 6 i 3)) (d := d) (by omega)
  refine zr_callV zC hG (c_X0_dateOfCount (σ := σ) (i := i) (n := cnt (σ 6 i 0) (σ 6 i 2) (σ 6 i 3) d) (by first | assumption | omega) (by first | assumption | omega) (by first | assumption | omega)) mt_X0_dateOfCount wl_X0_63 (pCal (by first | assumption | omega)) rfl rfl ⟨by decide, by decide⟩ rfl hl.1 rfl (Nat.le_of_ble_eq_true rfl) dX0_dateOn_6 ⟨Nat.zero_le _, Nat.zero_le _⟩ (fun H locs hG => ?_)
  refine W.eq (g2 := F0 zm 9 ls [.int (zI (dtC (σ 6 i 0) (σ 6 i 1) (cnt (σ 6 i 0) (σ 6 i 2) (σ 6 i 3) d)))]) rfl ?_
  have b6_0 := dtC_r (k := (σ 6 i 0)) (lp := (σ 6 i 1)) (n := (cnt (σ 6 i 0) (σ 6 i 2) (σ 6 i 3) d)) (by omega) (by omega)
  exact zr_iret zC zK hG dX0_dateOn_9 rfl rfl

set_option maxHeartbeats 4000000 in
set_option maxRecDepth 100000 in
theorem c_X0_dayOfCount {Γ : Gm} {zl : Launch} {A : Nat → Prop} {σ : Mm} {i n : Int} (hi : 0 ≤ i ∧ i < 6) (ho : CalOK σ i) (hn : 0 ≤ n ∧ n ≤ 400000000) : Fn Γ zl A yX0_dayOfCount cX0_dayOfCount 4 (some .int) 2 42 [.ref (aCal Γ i), .int (zI n)] σ (some (.int (zI (dyC (σ 6 i 0) (σ 6 i 2) (σ 6 i 3) n)))) σ := by
  refine Fn_of (by decide) (Nat.le_of_ble_eq_true rfl) ?_
  intro zp ze zs zm args below meth zc zQ H locs ls zC zK hG hl
  have hl : lv_has ls 4 [(0, .ref (aCal Γ i)), (1, .int (zI n))] := hl
  obtain ⟨hk, hlp, hod, hgp⟩ := id ho
  refine zr_iconst zC dX0_dayOfCount_0 ?_
  refine lv_istore_n (lv' := [(2, .int (zI 0)), (0, .ref (aCal Γ i)), (1, .int (zI n))]) zC.1 zC.2.1 dX0_dayOfCount_1 rfl hl (by decide) rfl (fun ls hl => ?_)
  refine lv_iload_n zC.1 zC.2.1 dX0_dayOfCount_2 rfl (lv_at hl 0 rfl) ?_
  refine lv_aload_n zC.1 zC.2.1 dX0_dayOfCount_3 rfl (lv_at hl 1 rfl) ?_
  refine zr_callV zC hG (c_X0_timesCut (σ := σ) (i := i) (by first | assumption | omega) (by first | assumption | omega)) mt_X0_timesCut wl_X0_38 (pCal (by first | assumption | omega)) rfl rfl ⟨by decide, by decide⟩ rfl hl.1 rfl (Nat.le_of_ble_eq_true rfl) dX0_dayOfCount_4 ⟨Nat.zero_le _, Nat.zero_le _⟩ (fun H locs hG => ?_)
  refine W.eq (g2 := F0 zm 7 ls [.int (zI (tCut (σ 6 i 0))), .int (zI 0)]) rfl ?_
  have b4_0 := tCut_r (σ 6 i 0)
  refine zr_icmp_gt (tgt := 47) zC dX0_dayOfCount_7 (by decide) (by omega) (fun c7 => ?_) (fun c7 => ?_)
  · refine zr_iconst zC dX0_dayOfCount_47 ?_
    exact zr_iret zC zK hG dX0_dayOfCount_48 (by unfold dyC; (repeat' split) <;> omega) rfl
  · refine lv_iload_n zC.1 zC.2.1 dX0_dayOfCount_10 rfl (lv_at hl 2 rfl) ?_
    refine lv_iload_n zC.1 zC.2.1 dX0_dayOfCount_11 rfl (lv_at hl 0 rfl) ?_
    refine lv_aload_n zC.1 zC.2.1 dX0_dayOfCount_12 rfl (lv_at hl 1 rfl) ?_
    refine gf_Cal_gap (v := σ 6 i 3) zC hG (by first | assumption | omega) wl_X0_21 rfl dX0_dayOfCount_13 ?_
    refine zr_imul zC dX0_dayOfCount_16 ?_
    refine zr_isub zC dX0_dayOfCount_17 ?_
    refine zr_topi (y := n) (by omega) ?_
    refine lv_istore_n (lv' := [(3, .int (zI n)), (2, .int (zI 0)), (0, .ref (aCal Γ i)), (1, .int (zI n))]) zC.1 zC.2.1 dX0_dayOfCount_18 rfl hl (by decide) rfl (fun ls hl => ?_)
    refine lv_aload_n zC.1 zC.2.1 dX0_dayOfCount_19 rfl (lv_at hl 2 rfl) ?_
    refine lv_iload_n zC.1 zC.2.1 dX0_dayOfCount_20 rfl (lv_at hl 0 rfl) ?_
    refine zr_callV zC hG (c_X0_cutsBy (σ := σ) (i := i) (d := n) (by first | assumption | omega) (by first | assumption | omega) (by first | assumption | omega)) mt_X0_cutsBy wl_X0_46 (pCal (by first | assumption | omega)) rfl rfl ⟨by decide, by decide⟩ rfl hl.1 rfl (Nat.le_of_ble_eq_true rfl) dX0_dayOfCount_21 ⟨Nat.zero_le _, Nat.zero_le _⟩ (fun H locs hG => ?_)
    refine W.eq (g2 := F0 zm 24 ls [.int (zI (cby (σ 6 i 0) (σ 6 i 2) n))]) rfl ?_
    have b21_0 := cby_r (σ 6 i 0) (σ 6 i 2) n
    refine lv_iload_n zC.1 zC.2.1 dX0_dayOfCount_24 rfl (lv_at hl 1 rfl) ?_
    refine zr_icmp_ne (tgt := 41) zC dX0_dayOfCount_25 (by decide) (by omega) (fun c25 => ?_) (fun c25 => ?_)
    · refine zr_iinc (lv' := [(2, .int (zI 1)), (3, .int (zI n)), (0, .ref (aCal Γ i)), (1, .int (zI n))]) zC dX0_dayOfCount_41 hl (k := 1) rfl (by decide) rfl (fun ls hl => ?_)
      refine lv_goto (tgt := 2) zC.1 zC.2.1 dX0_dayOfCount_44 (by decide) ?_
      refine lv_iload_n zC.1 zC.2.1 dX0_dayOfCount_2 rfl (lv_at hl 0 rfl) ?_
      refine lv_aload_n zC.1 zC.2.1 dX0_dayOfCount_3 rfl (lv_at hl 2 rfl) ?_
      refine zr_callV zC hG (c_X0_timesCut (σ := σ) (i := i) (by first | assumption | omega) (by first | assumption | omega)) mt_X0_timesCut wl_X0_38 (pCal (by first | assumption | omega)) rfl rfl ⟨by decide, by decide⟩ rfl hl.1 rfl (Nat.le_of_ble_eq_true rfl) dX0_dayOfCount_4 ⟨Nat.zero_le _, Nat.zero_le _⟩ (fun H locs hG => ?_)
      refine W.eq (g2 := F0 zm 7 ls [.int (zI (tCut (σ 6 i 0))), .int (zI 1)]) rfl ?_
      have b4_0 := tCut_r (σ 6 i 0)
      refine zr_icmp_gt (tgt := 47) zC dX0_dayOfCount_7 (by decide) (by omega) (fun c7 => ?_) (fun c7 => ?_)
      · refine zr_iconst zC dX0_dayOfCount_47 ?_
        exact zr_iret zC zK hG dX0_dayOfCount_48 (by unfold dyC; (repeat' split) <;> omega) rfl
      · refine lv_iload_n zC.1 zC.2.1 dX0_dayOfCount_10 rfl (lv_at hl 3 rfl) ?_
        refine lv_iload_n zC.1 zC.2.1 dX0_dayOfCount_11 rfl (lv_at hl 0 rfl) ?_
        refine lv_aload_n zC.1 zC.2.1 dX0_dayOfCount_12 rfl (lv_at hl 2 rfl) ?_
        refine gf_Cal_gap (v := σ 6 i 3) zC hG (by first | assumption | omega) wl_X0_21 rfl dX0_dayOfCount_13 ?_
        refine zr_imul zC dX0_dayOfCount_16 ?_
        refine zr_isub zC dX0_dayOfCount_17 ?_
        refine zr_topi (y := n - σ 6 i 3) (by omega) ?_
        refine lv_istore_n (lv' := [(3, .int (zI (n - σ 6 i 3))), (2, .int (zI 1)), (0, .ref (aCal Γ i)), (1, .int (zI n))]) zC.1 zC.2.1 dX0_dayOfCount_18 rfl hl (by decide) rfl (fun ls hl => ?_)
        refine lv_aload_n zC.1 zC.2.1 dX0_dayOfCount_19 rfl (lv_at hl 2 rfl) ?_
        refine lv_iload_n zC.1 zC.2.1 dX0_dayOfCount_20 rfl (lv_at hl 0 rfl) ?_
        refine zr_callV zC hG (c_X0_cutsBy (σ := σ) (i := i) (d := n - σ 6 i 3) (by first | assumption | omega) (by first | assumption | omega) (by first | assumption | omega)) mt_X0_cutsBy wl_X0_46 (pCal (by first | assumption | omega)) rfl rfl ⟨by decide, by decide⟩ rfl hl.1 rfl (Nat.le_of_ble_eq_true rfl) dX0_dayOfCount_21 ⟨Nat.zero_le _, Nat.zero_le _⟩ (fun H locs hG => ?_)
        refine W.eq (g2 := F0 zm 24 ls [.int (zI (cby (σ 6 i 0) (σ 6 i 2) (n - σ 6 i 3)))]) rfl ?_
        have b21_0 := cby_r (σ 6 i 0) (σ 6 i 2) (n - σ 6 i 3)
        refine lv_iload_n zC.1 zC.2.1 dX0_dayOfCount_24 rfl (lv_at hl 1 rfl) ?_
        refine zr_icmp_ne (tgt := 41) zC dX0_dayOfCount_25 (by decide) (by omega) (fun c25 => ?_) (fun c25 => ?_)
        · refine zr_iinc (lv' := [(2, .int (zI 2)), (3, .int (zI (n - σ 6 i 3))), (0, .ref (aCal Γ i)), (1, .int (zI n))]) zC dX0_dayOfCount_41 hl (k := 1) rfl (by decide) rfl (fun ls hl => ?_)
          refine lv_goto (tgt := 2) zC.1 zC.2.1 dX0_dayOfCount_44 (by decide) ?_
          refine lv_iload_n zC.1 zC.2.1 dX0_dayOfCount_2 rfl (lv_at hl 0 rfl) ?_
          refine lv_aload_n zC.1 zC.2.1 dX0_dayOfCount_3 rfl (lv_at hl 2 rfl) ?_
          refine zr_callV zC hG (c_X0_timesCut (σ := σ) (i := i) (by first | assumption | omega) (by first | assumption | omega)) mt_X0_timesCut wl_X0_38 (pCal (by first | assumption | omega)) rfl rfl ⟨by decide, by decide⟩ rfl hl.1 rfl (Nat.le_of_ble_eq_true rfl) dX0_dayOfCount_4 ⟨Nat.zero_le _, Nat.zero_le _⟩ (fun H locs hG => ?_)
          refine W.eq (g2 := F0 zm 7 ls [.int (zI (tCut (σ 6 i 0))), .int (zI 2)]) rfl ?_
          have b4_0 := tCut_r (σ 6 i 0)
          refine zr_icmp_gt (tgt := 47) zC dX0_dayOfCount_7 (by decide) (by omega) (fun c7 => ?_) (fun c7 => ?_)
          · refine zr_iconst zC dX0_dayOfCount_47 ?_
            exact zr_iret zC zK hG dX0_dayOfCount_48 (by unfold dyC; (repeat' split) <;> omega) rfl
          · refine lv_iload_n zC.1 zC.2.1 dX0_dayOfCount_10 rfl (lv_at hl 3 rfl) ?_
            refine lv_iload_n zC.1 zC.2.1 dX0_dayOfCount_11 rfl (lv_at hl 0 rfl) ?_
            refine lv_aload_n zC.1 zC.2.1 dX0_dayOfCount_12 rfl (lv_at hl 2 rfl) ?_
            refine gf_Cal_gap (v := σ 6 i 3) zC hG (by first | assumption | omega) wl_X0_21 rfl dX0_dayOfCount_13 ?_
            refine zr_imul zC dX0_dayOfCount_16 ?_
            refine zr_isub zC dX0_dayOfCount_17 ?_
            refine zr_topi (y := n - 2 * σ 6 i 3) (by omega) ?_
            refine lv_istore_n (lv' := [(3, .int (zI (n - 2 * σ 6 i 3))), (2, .int (zI 2)), (0, .ref (aCal Γ i)), (1, .int (zI n))]) zC.1 zC.2.1 dX0_dayOfCount_18 rfl hl (by decide) rfl (fun ls hl => ?_)
            refine lv_aload_n zC.1 zC.2.1 dX0_dayOfCount_19 rfl (lv_at hl 2 rfl) ?_
            refine lv_iload_n zC.1 zC.2.1 dX0_dayOfCount_20 rfl (lv_at hl 0 rfl) ?_
            refine zr_callV zC hG (c_X0_cutsBy (σ := σ) (i := i) (d := n - 2 * σ 6 i 3) (by first | assumption | omega) (by first | assumption | omega) (by first | assumption | omega)) mt_X0_cutsBy wl_X0_46 (pCal (by first | assumption | omega)) rfl rfl ⟨by decide, by decide⟩ rfl hl.1 rfl (Nat.le_of_ble_eq_true rfl) dX0_dayOfCount_21 ⟨Nat.zero_le _, Nat.zero_le _⟩ (fun H locs hG => ?_)
            refine W.eq (g2 := F0 zm 24 ls [.int (zI (cby (σ 6 i 0) (σ 6 i 2) (n - 2 * σ 6 i 3)))]) rfl ?_
            have b21_0 := cby_r (σ 6 i 0) (σ 6 i 2) (n - 2 * σ 6 i 3)
            refine lv_iload_n zC.1 zC.2.1 dX0_dayOfCount_24 rfl (lv_at hl 1 rfl) ?_
            refine zr_icmp_ne (tgt := 41) zC dX0_dayOfCount_25 (by decide) (by omega) (fun c25 => ?_) (fun c25 => ?_)
            · refine zr_iinc (lv' := [(2, .int (zI 3)), (3, .int (zI (n - 2 * σ 6 i 3))), (0, .ref (aCal Γ i)), (1, .int (zI n))]) zC dX0_dayOfCount_41 hl (k := 1) rfl (by decide) rfl (fun ls hl => ?_)
              refine lv_goto (tgt := 2) zC.1 zC.2.1 dX0_dayOfCount_44 (by decide) ?_
              refine lv_iload_n zC.1 zC.2.1 dX0_dayOfCount_2 rfl (lv_at hl 0 rfl) ?_
              refine lv_aload_n zC.1 zC.2.1 dX0_dayOfCount_3 rfl (lv_at hl 2 rfl) ?_
              refine zr_callV zC hG (c_X0_timesCut (σ := σ) (i := i) (by first | assumption | omega) (by first | assumption | omega)) mt_X0_timesCut wl_X0_38 (pCal (by first | assumption | omega)) rfl rfl ⟨by decide, by decide⟩ rfl hl.1 rfl (Nat.le_of_ble_eq_true rfl) dX0_dayOfCount_4 ⟨Nat.zero_le _, Nat.zero_le _⟩ (fun H locs hG => ?_)
              refine W.eq (g2 := F0 zm 7 ls [.int (zI (tCut (σ 6 i 0))), .int (zI 3)]) rfl ?_
              have b4_0 := tCut_r (σ 6 i 0)
              refine zr_icmp_gt (tgt := 47) zC dX0_dayOfCount_7 (by decide) (by omega) (fun c7 => ?_) (fun c7 => ?_)
              · refine zr_iconst zC dX0_dayOfCount_47 ?_
                exact zr_iret zC zK hG dX0_dayOfCount_48 (by unfold dyC; (repeat' split) <;> omega) rfl
              · exact absurd c7 (by omega)
            · refine lv_iload_n zC.1 zC.2.1 dX0_dayOfCount_28 rfl (lv_at hl 0 rfl) ?_
              refine zr_sipush zC dX0_dayOfCount_29 (by decide +kernel) ?_
              refine zr_icmp_gt (tgt := 39) zC dX0_dayOfCount_32 (by decide) (by omega) (fun c32 => ?_) (fun c32 => ?_)
              · refine zr_iconst zC dX0_dayOfCount_39 ?_
                exact zr_iret zC zK hG dX0_dayOfCount_40 (by unfold dyC; (repeat' split) <;> omega) rfl
              · refine lv_iload_n zC.1 zC.2.1 dX0_dayOfCount_35 rfl (lv_at hl 0 rfl) ?_
                refine lv_goto (tgt := 40) zC.1 zC.2.1 dX0_dayOfCount_36 (by decide) ?_
                exact zr_iret zC zK hG dX0_dayOfCount_40 (by unfold dyC; (repeat' split) <;> omega) rfl
        · refine lv_iload_n zC.1 zC.2.1 dX0_dayOfCount_28 rfl (lv_at hl 0 rfl) ?_
          refine zr_sipush zC dX0_dayOfCount_29 (by decide +kernel) ?_
          refine zr_icmp_gt (tgt := 39) zC dX0_dayOfCount_32 (by decide) (by omega) (fun c32 => ?_) (fun c32 => ?_)
          · refine zr_iconst zC dX0_dayOfCount_39 ?_
            exact zr_iret zC zK hG dX0_dayOfCount_40 (by unfold dyC; (repeat' split) <;> omega) rfl
          · refine lv_iload_n zC.1 zC.2.1 dX0_dayOfCount_35 rfl (lv_at hl 0 rfl) ?_
            refine lv_goto (tgt := 40) zC.1 zC.2.1 dX0_dayOfCount_36 (by decide) ?_
            exact zr_iret zC zK hG dX0_dayOfCount_40 (by unfold dyC; (repeat' split) <;> omega) rfl
    · refine lv_iload_n zC.1 zC.2.1 dX0_dayOfCount_28 rfl (lv_at hl 0 rfl) ?_
      refine zr_sipush zC dX0_dayOfCount_29 (by decide +kernel) ?_
      refine zr_icmp_gt (tgt := 39) zC dX0_dayOfCount_32 (by decide) (by omega) (fun c32 => ?_) (fun c32 => ?_)
      · refine zr_iconst zC dX0_dayOfCount_39 ?_
        exact zr_iret zC zK hG dX0_dayOfCount_40 (by unfold dyC; (repeat' split) <;> omega) rfl
      · refine lv_iload_n zC.1 zC.2.1 dX0_dayOfCount_35 rfl (lv_at hl 0 rfl) ?_
        refine lv_goto (tgt := 40) zC.1 zC.2.1 dX0_dayOfCount_36 (by decide) ?_
        exact zr_iret zC zK hG dX0_dayOfCount_40 (by unfold dyC; (repeat' split) <;> omega) rfl

set_option maxHeartbeats 4000000 in
set_option maxRecDepth 100000 in
theorem c_X0_dayOfDate {Γ : Gm} {zl : Launch} {A : Nat → Prop} {σ : Mm} {i t : Int} (hi : 0 ≤ i ∧ i < 6) (ho : CalOK σ i) (ht : -2147483648 ≤ t ∧ t < 2147483648) : Fn Γ zl A yX0_dayOfDate cX0_dayOfDate 4 (some .int) 3 65 [.ref (aCal Γ i), .int (zI t)] σ (some (.int (zI (dyD (σ 6 i 0) (σ 6 i 1) (σ 6 i 2) (σ 6 i 3) t)))) σ := by
  refine Fn_of (by decide) (Nat.le_of_ble_eq_true rfl) ?_
  intro zp ze zs zm args below meth zc zQ H locs ls zC zK hG hl
  have hl : lv_has ls 4 [(0, .ref (aCal Γ i)), (1, .int (zI t))] := hl
  obtain ⟨hk, hlp, hod, hgp⟩ := id ho
  refine lv_iload_n zC.1 zC.2.1 dX0_dayOfDate_0 rfl (lv_at hl 1 rfl) ?_
  refine zr_if_ge (tgt := 6) zC dX0_dayOfDate_1 (by decide) (by omega) (fun c1 => ?_) (fun c1 => ?_)
  · refine lv_iload_n zC.1 zC.2.1 dX0_dayOfDate_6 rfl (lv_at hl 1 rfl) ?_
    refine zr_sipush zC dX0_dayOfDate_7 (by decide +kernel) ?_
    refine zr_idiv zC dX0_dayOfDate_10 (by omega) ?_
    refine lv_istore_n (lv' := [(2, .int (zI (t / 1000))), (0, .ref (aCal Γ i)), (1, .int (zI t))]) zC.1 zC.2.1 dX0_dayOfDate_11 rfl hl (by decide) rfl (fun ls hl => ?_)
    refine lv_iload_n zC.1 zC.2.1 dX0_dayOfDate_12 rfl (lv_at hl 2 rfl) ?_
    refine zr_sipush zC dX0_dayOfDate_13 (by decide +kernel) ?_
    refine zr_irem zC dX0_dayOfDate_16 (by omega) ?_
    refine lv_istore_n (lv' := [(3, .int (zI (t % 1000))), (2, .int (zI (t / 1000))), (0, .ref (aCal Γ i)), (1, .int (zI t))]) zC.1 zC.2.1 dX0_dayOfDate_17 rfl hl (by decide) rfl (fun ls hl => ?_)
    refine lv_iload_n zC.1 zC.2.1 dX0_dayOfDate_18 rfl (lv_at hl 0 rfl) ?_
    refine lv_aload_n zC.1 zC.2.1 dX0_dayOfDate_19 rfl (lv_at hl 2 rfl) ?_
    refine lv_iload_n zC.1 zC.2.1 dX0_dayOfDate_20 rfl (lv_at hl 1 rfl) ?_
    refine zr_callV zC hG (c_X0_lengthOf (σ := σ) (i := i) (y := t / 1000) (by first | assumption | omega) (by first | assumption | omega) (by first | assumption | omega)) mt_X0_lengthOf wl_X0_66 (pCal (by first | assumption | omega)) rfl rfl ⟨by decide, by decide⟩ rfl hl.1 rfl (Nat.le_of_ble_eq_true rfl) dX0_dayOfDate_21 ⟨Nat.zero_le _, Nat.zero_le _⟩ (fun H locs hG => ?_)
    refine W.eq (g2 := F0 zm 24 ls [.int (zI (lenY (σ 6 i 0) (σ 6 i 1) (t / 1000))), .int (zI (t % 1000))]) rfl ?_
    have b21_0 := lenY_r (σ 6 i 0) (σ 6 i 1) (t / 1000)
    refine zr_icmp_ge (tgt := 41) zC dX0_dayOfDate_24 (by decide) (by omega) (fun c24 => ?_) (fun c24 => ?_)
    · refine zr_iconst zC dX0_dayOfDate_41 ?_
      exact zr_iret zC zK hG dX0_dayOfDate_42 (by unfold dyD; (repeat' split) <;> omega) rfl
    · refine lv_aload_n zC.1 zC.2.1 dX0_dayOfDate_27 rfl (lv_at hl 2 rfl) ?_
      refine lv_aload_n zC.1 zC.2.1 dX0_dayOfDate_28 rfl (lv_at hl 2 rfl) ?_
      refine lv_iload_n zC.1 zC.2.1 dX0_dayOfDate_29 rfl (lv_at hl 1 rfl) ?_
      refine zr_callV zC hG (c_X0_startOf (σ := σ) (i := i) (y := t / 1000) (by first | assumption | omega) (by first | assumption | omega) (by first | assumption | omega)) mt_X0_startOf wl_X0_69 (pCal (by first | assumption | omega)) rfl rfl ⟨by decide, by decide⟩ rfl hl.1 rfl (Nat.le_of_ble_eq_true rfl) dX0_dayOfDate_30 ⟨Nat.zero_le _, Nat.zero_le _⟩ (fun H locs hG => ?_)
      refine W.eq (g2 := F0 zm 33 ls [.int (zI (begY (σ 6 i 0) (σ 6 i 1) (t / 1000))), .ref (aCal Γ i)]) rfl ?_
      have b30_0 := begY_r (k := (σ 6 i 0)) (lp := (σ 6 i 1)) (y := (t / 1000)) (by omega) (by omega)
      refine lv_iload_n zC.1 zC.2.1 dX0_dayOfDate_33 rfl (lv_at hl 0 rfl) ?_
      refine zr_iadd zC dX0_dayOfDate_34 ?_
      refine zr_callV zC hG (c_X0_dayOfCount (σ := σ) (i := i) (n := (begY (σ 6 i 0) (σ 6 i 1) (t / 1000)) + (t % 1000)) (by first | assumption | omega) (by first | assumption | omega) (by first | assumption | omega)) mt_X0_dayOfCount wl_X0_72 (pCal (by first | assumption | omega)) rfl rfl ⟨by decide, by decide⟩ rfl hl.1 rfl (Nat.le_of_ble_eq_true rfl) dX0_dayOfDate_35 ⟨Nat.zero_le _, Nat.zero_le _⟩ (fun H locs hG => ?_)
      refine W.eq (g2 := F0 zm 38 ls [.int (zI (dyC (σ 6 i 0) (σ 6 i 2) (σ 6 i 3) ((begY (σ 6 i 0) (σ 6 i 1) (t / 1000)) + (t % 1000))))]) rfl ?_
      have b35_0 := dyC_r (k := (σ 6 i 0)) (o := (σ 6 i 2)) (g := (σ 6 i 3)) (n := ((begY (σ 6 i 0) (σ 6 i 1) (t / 1000)) + (t % 1000))) (by omega) (by omega)
      refine lv_goto (tgt := 42) zC.1 zC.2.1 dX0_dayOfDate_38 (by decide) ?_
      exact zr_iret zC zK hG dX0_dayOfDate_42 (by unfold dyD; (repeat' split) <;> omega) rfl
  · refine zr_iconst zC dX0_dayOfDate_4 ?_
    exact zr_iret zC zK hG dX0_dayOfDate_5 (by unfold dyD; (repeat' split) <;> omega) rfl

set_option maxHeartbeats 4000000 in
set_option maxRecDepth 100000 in
theorem c_X0_stretchEndFrom {Γ : Gm} {zl : Launch} {A : Nat → Prop} {σ : Mm} {i d : Int} (hi : 0 ≤ i ∧ i < 6) (ho : CalOK σ i) (hd : 0 ≤ d ∧ d ≤ 19999) : Fn Γ zl A yX0_stretchEndFrom cX0_stretchEndFrom 5 (some .int) 4 86 [.ref (aCal Γ i), .int (zI d)] σ (some (.int (zI (strE (σ 6 i 0) (σ 6 i 1) (σ 6 i 2) (σ 6 i 3) d)))) σ := by
  refine Fn_of (by decide) (Nat.le_of_ble_eq_true rfl) ?_
  intro zp ze zs zm args below meth zc zQ H locs ls zC zK hG hl
  have hl : lv_has ls 5 [(0, .ref (aCal Γ i)), (1, .int (zI d))] := hl
  obtain ⟨hk, hlp, hod, hgp⟩ := id ho
  refine lv_aload_n zC.1 zC.2.1 dX0_stretchEndFrom_0 rfl (lv_at hl 0 rfl) ?_
  refine lv_iload_n zC.1 zC.2.1 dX0_stretchEndFrom_1 rfl (lv_at hl 1 rfl) ?_
  refine zr_callV zC hG (c_X0_dateOn (σ := σ) (i := i) (d := d) (by first | assumption | omega) (by first | assumption | omega) (by first | assumption | omega)) mt_X0_dateOn wl_X0_75 (pCal (by first | assumption | omega)) rfl rfl ⟨by decide, by decide⟩ rfl hl.1 rfl (Nat.le_of_ble_eq_true rfl) dX0_stretchEndFrom_2 ⟨Nat.zero_le _, Nat.zero_le _⟩ (fun H locs hG => ?_)
  refine W.eq (g2 := F0 zm 5 ls [.int (zI (dtD (σ 6 i 0) (σ 6 i 1) (σ 6 i 2) (σ 6 i 3) d))]) rfl ?_
  have b2_0 := dtD_r (k := (σ 6 i 0)) (lp := (σ 6 i 1)) (o := (σ 6 i 2)) (g := (σ 6 i 3)) (d := d) (by omega) (by omega) (by omega)
  refine lv_istore_n (lv' := [(2, .int (zI (dtD (σ 6 i 0) (σ 6 i 1) (σ 6 i 2) (σ 6 i 3) d))), (0, .ref (aCal Γ i)), (1, .int (zI d))]) zC.1 zC.2.1 dX0_stretchEndFrom_5 rfl hl (by decide) rfl (fun ls hl => ?_)
  refine lv_iload_n zC.1 zC.2.1 dX0_stretchEndFrom_6 rfl (lv_at hl 2 rfl) ?_
  refine lv_aload_n zC.1 zC.2.1 dX0_stretchEndFrom_7 rfl (lv_at hl 1 rfl) ?_
  refine lv_iload_n zC.1 zC.2.1 dX0_stretchEndFrom_8 rfl (lv_at hl 0 rfl) ?_
  refine zr_sipush zC dX0_stretchEndFrom_9 (by decide +kernel) ?_
  refine zr_idiv zC dX0_stretchEndFrom_12 (by omega) ?_
  refine zr_callV zC hG (c_X0_lengthOf (σ := σ) (i := i) (y := (dtD (σ 6 i 0) (σ 6 i 1) (σ 6 i 2) (σ 6 i 3) d) / 1000) (by first | assumption | omega) (by first | assumption | omega) (by first | assumption | omega)) mt_X0_lengthOf wl_X0_66 (pCal (by first | assumption | omega)) rfl rfl ⟨by decide, by decide⟩ rfl hl.1 rfl (Nat.le_of_ble_eq_true rfl) dX0_stretchEndFrom_13 ⟨Nat.zero_le _, Nat.zero_le _⟩ (fun H locs hG => ?_)
  refine W.eq (g2 := F0 zm 16 ls [.int (zI (lenY (σ 6 i 0) (σ 6 i 1) ((dtD (σ 6 i 0) (σ 6 i 1) (σ 6 i 2) (σ 6 i 3) d) / 1000))), .int (zI d)]) rfl ?_
  have b13_0 := lenY_r (σ 6 i 0) (σ 6 i 1) ((dtD (σ 6 i 0) (σ 6 i 1) (σ 6 i 2) (σ 6 i 3) d) / 1000)
  refine zr_iadd zC dX0_stretchEndFrom_16 ?_
  refine zr_iconst zC dX0_stretchEndFrom_17 ?_
  refine zr_isub zC dX0_stretchEndFrom_18 ?_
  refine lv_iload_n zC.1 zC.2.1 dX0_stretchEndFrom_19 rfl (lv_at hl 0 rfl) ?_
  refine zr_sipush zC dX0_stretchEndFrom_20 (by decide +kernel) ?_
  refine zr_irem zC dX0_stretchEndFrom_23 (by omega) ?_
  refine zr_isub zC dX0_stretchEndFrom_24 ?_
  refine lv_istore_n (lv' := [(3, .int (zI (((d + (lenY (σ 6 i 0) (σ 6 i 1) ((dtD (σ 6 i 0) (σ 6 i 1) (σ 6 i 2) (σ 6 i 3) d) / 1000))) - 1) - ((dtD (σ 6 i 0) (σ 6 i 1) (σ 6 i 2) (σ 6 i 3) d) % 1000)))), (2, .int (zI (dtD (σ 6 i 0) (σ 6 i 1) (σ 6 i 2) (σ 6 i 3) d))), (0, .ref (aCal Γ i)), (1, .int (zI d))]) zC.1 zC.2.1 dX0_stretchEndFrom_25 rfl hl (by decide) rfl (fun ls hl => ?_)
  refine lv_aload_n zC.1 zC.2.1 dX0_stretchEndFrom_26 rfl (lv_at hl 2 rfl) ?_
  refine lv_iload_n zC.1 zC.2.1 dX0_stretchEndFrom_27 rfl (lv_at hl 3 rfl) ?_
  refine zr_callV zC hG (c_X0_cutsBy (σ := σ) (i := i) (d := d) (by first | assumption | omega) (by first | assumption | omega) (by first | assumption | omega)) mt_X0_cutsBy wl_X0_46 (pCal (by first | assumption | omega)) rfl rfl ⟨by decide, by decide⟩ rfl hl.1 rfl (Nat.le_of_ble_eq_true rfl) dX0_stretchEndFrom_28 ⟨Nat.zero_le _, Nat.zero_le _⟩ (fun H locs hG => ?_)
  refine W.eq (g2 := F0 zm 31 ls [.int (zI (cby (σ 6 i 0) (σ 6 i 2) d))]) rfl ?_
  have b28_0 := cby_r (σ 6 i 0) (σ 6 i 2) d
  refine zr_iconst zC dX0_stretchEndFrom_31 ?_
  refine zr_iadd zC dX0_stretchEndFrom_32 ?_
  refine lv_istore (lv' := [(4, .int (zI ((cby (σ 6 i 0) (σ 6 i 2) d) + 1))), (3, .int (zI (((d + (lenY (σ 6 i 0) (σ 6 i 1) ((dtD (σ 6 i 0) (σ 6 i 1) (σ 6 i 2) (σ 6 i 3) d) / 1000))) - 1) - ((dtD (σ 6 i 0) (σ 6 i 1) (σ 6 i 2) (σ 6 i 3) d) % 1000)))), (2, .int (zI (dtD (σ 6 i 0) (σ 6 i 1) (σ 6 i 2) (σ 6 i 3) d))), (0, .ref (aCal Γ i)), (1, .int (zI d))]) zC.1 zC.2.1 dX0_stretchEndFrom_33 hl (by decide) rfl (fun ls hl => ?_)
  refine lv_iload zC.1 zC.2.1 dX0_stretchEndFrom_35 (lv_at hl 0 rfl) ?_
  refine lv_aload_n zC.1 zC.2.1 dX0_stretchEndFrom_37 rfl (lv_at hl 3 rfl) ?_
  refine zr_callV zC hG (c_X0_timesCut (σ := σ) (i := i) (by first | assumption | omega) (by first | assumption | omega)) mt_X0_timesCut wl_X0_38 (pCal (by first | assumption | omega)) rfl rfl ⟨by decide, by decide⟩ rfl hl.1 rfl (Nat.le_of_ble_eq_true rfl) dX0_stretchEndFrom_38 ⟨Nat.zero_le _, Nat.zero_le _⟩ (fun H locs hG => ?_)
  refine W.eq (g2 := F0 zm 41 ls [.int (zI (tCut (σ 6 i 0))), .int (zI ((cby (σ 6 i 0) (σ 6 i 2) d) + 1))]) rfl ?_
  have b38_0 := tCut_r (σ 6 i 0)
  refine zr_icmp_le (tgt := 48) zC dX0_stretchEndFrom_41 (by decide) (by omega) (fun c41 => ?_) (fun c41 => ?_)
  · refine lv_iload_n zC.1 zC.2.1 dX0_stretchEndFrom_48 rfl (lv_at hl 1 rfl) ?_
    refine lv_aload_n zC.1 zC.2.1 dX0_stretchEndFrom_49 rfl (lv_at hl 3 rfl) ?_
    refine lv_iload zC.1 zC.2.1 dX0_stretchEndFrom_50 (lv_at hl 0 rfl) ?_
    refine zr_callV zC hG (c_X0_dayOfCut (σ := σ) (i := i) (u := (cby (σ 6 i 0) (σ 6 i 2) d) + 1) (by first | assumption | omega) (by first | assumption | omega) (by first | assumption | omega)) mt_X0_dayOfCut wl_X0_42 (pCal (by first | assumption | omega)) rfl rfl ⟨by decide, by decide⟩ rfl hl.1 rfl (Nat.le_of_ble_eq_true rfl) dX0_stretchEndFrom_52 ⟨Nat.zero_le _, Nat.zero_le _⟩ (fun H locs hG => ?_)
    refine W.eq (g2 := F0 zm 55 ls [.int (zI (dcut (σ 6 i 2) ((cby (σ 6 i 0) (σ 6 i 2) d) + 1))), .int (zI (((d + (lenY (σ 6 i 0) (σ 6 i 1) ((dtD (σ 6 i 0) (σ 6 i 1) (σ 6 i 2) (σ 6 i 3) d) / 1000))) - 1) - ((dtD (σ 6 i 0) (σ 6 i 1) (σ 6 i 2) (σ 6 i 3) d) % 1000)))]) rfl ?_
    have b52_0 := (show (σ 6 i 2) ≤ dcut (σ 6 i 2) ((cby (σ 6 i 0) (σ 6 i 2) d) + 1) ∧ dcut (σ 6 i 2) ((cby (σ 6 i 0) (σ 6 i 2) d) + 1) ≤ (σ 6 i 2) + 1000 by unfold dcut; split <;> omega)
    refine zr_iconst zC dX0_stretchEndFrom_55 ?_
    refine zr_isub zC dX0_stretchEndFrom_56 ?_
    refine zr_min zC wl_X0_78 (by omega) ⟨by decide, Nat.le_of_ble_eq_true rfl, Nat.zero_le _, Nat.zero_le _⟩ hl.1 dX0_stretchEndFrom_57 ?_
    exact zr_iret zC zK hG dX0_stretchEndFrom_60 (by unfold strE; first | rw [if_pos (by omega)] | rw [if_neg (by omega)]) rfl
  · refine lv_iload_n zC.1 zC.2.1 dX0_stretchEndFrom_44 rfl (lv_at hl 1 rfl) ?_
    refine lv_goto (tgt := 60) zC.1 zC.2.1 dX0_stretchEndFrom_45 (by decide) ?_
    exact zr_iret zC zK hG dX0_stretchEndFrom_60 (by unfold strE; first | rw [if_pos (by omega)] | rw [if_neg (by omega)]) rfl
