set_option maxHeartbeats 4000000 in
set_option maxRecDepth 100000 in
theorem c_X5_isA {Γ : Gm} {zl : Launch} {A : Nat → Prop} {τ σ : Mm} {c w : Int} (hR : Rel2 τ σ) (hI : IC τ) (hc : isT τ c) (hw : 1 ≤ w ∧ w ≤ 5) : Fn Γ zl A yX5_isA cX5_isA 4 (some .boolean) 0 0 [.ref (aM Γ), .int (zI c), .int (zI w)] σ (some (.int (zI (zB (isO (τ 6 c 0) w))))) σ := by
  refine Fn_of (by decide) (Nat.le_of_ble_eq_true rfl) ?_
  intro zp ze zs zm args below meth zc zQ H locs ls zC zK hG hl
  have hl : lv_has ls 4 [(0, .ref (aM Γ)), (1, .int (zI c)), (2, .int (zI w))] := hl
  obtain ⟨hmany, htoday, -⟩ := id hI
  have tp := tPar_c (τ 6 c 0)
  refine lv_aload_n zC.1 zC.2.1 dX5_isA_0 rfl (lv_at hl 0 rfl) ?_
  refine gf_M_kindOf zC hG wl_X5_32 dX5_isA_1 ?_
  refine lv_iload_n zC.1 zC.2.1 dX5_isA_4 rfl (lv_at hl 1 rfl) ?_
  refine gi_m_kindOf (v := τ 6 c 0) zC hG (by omega) (hR.2.2.2.2.2.2.1 c (by omega) (by omega)).1 dX5_isA_5 ?_
  obtain ⟨f5a, f5b, f5c, f5d⟩ := hI.2.2.2.2.2.2.1 c (by omega) (by omega)
  refine lv_istore_n (lv' := [(3, .int (zI (τ 6 c 0))), (0, .ref (aM Γ)), (1, .int (zI c)), (2, .int (zI w))]) zC.1 zC.2.1 dX5_isA_6 rfl hl (by decide) rfl (fun ls hl => ?_)
  refine lv_iload_n zC.1 zC.2.1 dX5_isA_7 rfl (lv_at hl 0 rfl) ?_
  refine lv_iload_n zC.1 zC.2.1 dX5_isA_8 rfl (lv_at hl 3 rfl) ?_
  refine zr_icmp_eq (tgt := 32) zC dX5_isA_9 (by decide) (by omega) (fun c9 => ?_) (fun c9 => ?_)
  · refine zr_iconst zC dX5_isA_32 ?_
    refine lv_goto (tgt := 37) zC.1 zC.2.1 dX5_isA_33 (by decide) ?_
    exact zr_zret zC zK hG dX5_isA_37 (zB_t (by omega)) (Or.inr rfl) rfl
  · refine lv_iload_n zC.1 zC.2.1 dX5_isA_12 rfl (lv_at hl 3 rfl) ?_
    refine zr_iconst zC dX5_isA_13 ?_
    refine zr_icmp_ne (tgt := 22) zC dX5_isA_14 (by decide) (by omega) (fun c14 => ?_) (fun c14 => ?_)
    · refine lv_iload_n zC.1 zC.2.1 dX5_isA_22 rfl (lv_at hl 3 rfl) ?_
      refine zr_iconst zC dX5_isA_23 ?_
      refine zr_icmp_ne (tgt := 36) zC dX5_isA_24 (by decide) (by omega) (fun c24 => ?_) (fun c24 => ?_)
      · refine zr_iconst zC dX5_isA_36 ?_
        exact zr_zret zC zK hG dX5_isA_37 (zB_f (by omega)) (Or.inl rfl) rfl
      · refine lv_iload_n zC.1 zC.2.1 dX5_isA_27 rfl (lv_at hl 0 rfl) ?_
        refine zr_iconst zC dX5_isA_28 ?_
        refine zr_icmp_ne (tgt := 36) zC dX5_isA_29 (by decide) (by omega) (fun c29 => ?_) (fun c29 => ?_)
        · refine zr_iconst zC dX5_isA_36 ?_
          exact zr_zret zC zK hG dX5_isA_37 (zB_f (by omega)) (Or.inl rfl) rfl
        · refine zr_iconst zC dX5_isA_32 ?_
          refine lv_goto (tgt := 37) zC.1 zC.2.1 dX5_isA_33 (by decide) ?_
          exact zr_zret zC zK hG dX5_isA_37 (zB_t (by omega)) (Or.inr rfl) rfl
    · refine lv_iload_n zC.1 zC.2.1 dX5_isA_17 rfl (lv_at hl 0 rfl) ?_
      refine zr_iconst zC dX5_isA_18 ?_
      refine zr_icmp_eq (tgt := 32) zC dX5_isA_19 (by decide) (by omega) (fun c19 => ?_) (fun c19 => ?_)
      · refine zr_iconst zC dX5_isA_32 ?_
        refine lv_goto (tgt := 37) zC.1 zC.2.1 dX5_isA_33 (by decide) ?_
        exact zr_zret zC zK hG dX5_isA_37 (zB_t (by omega)) (Or.inr rfl) rfl
      · refine lv_iload_n zC.1 zC.2.1 dX5_isA_22 rfl (lv_at hl 3 rfl) ?_
        refine zr_iconst zC dX5_isA_23 ?_
        refine zr_icmp_ne (tgt := 36) zC dX5_isA_24 (by decide) (by omega) (fun c24 => ?_) (fun c24 => ?_)
        · refine zr_iconst zC dX5_isA_36 ?_
          exact zr_zret zC zK hG dX5_isA_37 (zB_f (by omega)) (Or.inl rfl) rfl
        · refine lv_iload_n zC.1 zC.2.1 dX5_isA_27 rfl (lv_at hl 0 rfl) ?_
          refine zr_iconst zC dX5_isA_28 ?_
          refine zr_icmp_ne (tgt := 36) zC dX5_isA_29 (by decide) (by omega) (fun c29 => ?_) (fun c29 => ?_)
          · refine zr_iconst zC dX5_isA_36 ?_
            exact zr_zret zC zK hG dX5_isA_37 (zB_f (by omega)) (Or.inl rfl) rfl
          · refine zr_iconst zC dX5_isA_32 ?_
            refine lv_goto (tgt := 37) zC.1 zC.2.1 dX5_isA_33 (by decide) ?_
            exact zr_zret zC zK hG dX5_isA_37 (zB_t (by omega)) (Or.inr rfl) rfl

set_option maxHeartbeats 4000000 in
set_option maxRecDepth 100000 in
theorem c_X5_townOf {Γ : Gm} {zl : Launch} {A : Nat → Prop} {τ σ : Mm} {c w : Int} (hR : Rel2 τ σ) (hI : IC τ) (hc : isT τ c) (hw : -2147483648 ≤ w ∧ w < 2147483648) : Fr Γ zl A yX5_townOf cX5_townOf 3 (some .int) 5 106 [.ref (aM Γ), .int (zI c), .int (zI w)] σ (some (.int (zI (oTn τ c w)))) τ := by
  refine Fr_of (by decide) (Nat.le_of_ble_eq_true rfl) ?_
  intro zp ze zs zm args below meth zc zQ H locs ls zC zK hG hl
  have hl : lv_has ls 3 [(0, .ref (aM Γ)), (1, .int (zI c)), (2, .int (zI w))] := hl
  obtain ⟨hmany, htoday, -⟩ := id hI
  refine lv_iload_n zC.1 zC.2.1 dX5_townOf_0 rfl (lv_at hl 2 rfl) ?_
  refine zr_if_ne (tgt := 13) zC dX5_townOf_1 (by decide) (by omega) (fun c1 => ?_) (fun c1 => ?_)
  · refine lv_iload_n zC.1 zC.2.1 dX5_townOf_13 rfl (lv_at hl 2 rfl) ?_
    refine zr_iconst zC dX5_townOf_14 ?_
    refine zr_icmp_ne (tgt := 27) zC dX5_townOf_15 (by decide) (by omega) (fun c15 => ?_) (fun c15 => ?_)
    · refine lv_iload_n zC.1 zC.2.1 dX5_townOf_27 rfl (lv_at hl 2 rfl) ?_
      refine zr_iconst zC dX5_townOf_28 ?_
      refine zr_icmp_ne (tgt := 41) zC dX5_townOf_29 (by decide) (by omega) (fun c29 => ?_) (fun c29 => ?_)
      · refine lv_iload_n zC.1 zC.2.1 dX5_townOf_41 rfl (lv_at hl 2 rfl) ?_
        refine zr_iconst zC dX5_townOf_42 ?_
        refine zr_icmp_ne (tgt := 55) zC dX5_townOf_43 (by decide) (by omega) (fun c43 => ?_) (fun c43 => ?_)
        · refine lv_aload_n zC.1 zC.2.1 dX5_townOf_55 rfl (lv_at hl 0 rfl) ?_
          refine lv_iload_n zC.1 zC.2.1 dX5_townOf_56 rfl (lv_at hl 1 rfl) ?_
          refine lv_aload_n zC.1 zC.2.1 dX5_townOf_57 rfl (lv_at hl 0 rfl) ?_
          refine gf_M_today (v := τ 0 0 7) zC hG wl_X5_119 hR.1.2.2.2.2.2 dX5_townOf_58 ?_
          refine zr_callV zC hG (c_X5_dateIn (τ := τ) (σ := σ) (c := c) (d := τ 0 0 7) hR hI (by first | assumption | omega) (by first | assumption | omega)) mt_X5_dateIn wl_X5_166 pM rfl rfl ⟨by decide, by decide⟩ rfl hl.1 rfl (Nat.le_of_ble_eq_true rfl) dX5_townOf_61 ⟨Nat.zero_le _, Nat.zero_le _⟩ (fun H locs hG => ?_)
          refine W.eq (g2 := F0 zm 64 ls [.int (zI (dtD (τ 6 c 0) (τ 6 c 1) (τ 6 c 2) (τ 6 c 3) (τ 0 0 7)))]) rfl ?_
          have b61_0 := dtD_r (k := (τ 6 c 0)) (lp := (τ 6 c 1)) (o := (τ 6 c 2)) (g := (τ 6 c 3)) (d := (τ 0 0 7)) (by omega) (hI.2.2.2.2.2.2.1 c (by omega) (by omega)).2.1 (hI.2.2.2.2.2.2.1 c (by omega) (by omega)).2.2.2
          exact zm_iret zC zK hG dX5_townOf_64 (by unfold oTn; (repeat' split) <;> first | rfl | omega) hR (sC_up (sC_up (sC_up (sC_up (sC_r _) (by decide)) (by decide)) (by decide)) (by decide))
        · refine lv_aload_n zC.1 zC.2.1 dX5_townOf_46 rfl (lv_at hl 0 rfl) ?_
          refine gf_M_gapOf zC hG wl_X5_41 dX5_townOf_47 ?_
          refine lv_iload_n zC.1 zC.2.1 dX5_townOf_50 rfl (lv_at hl 1 rfl) ?_
          refine gi_m_gapOf (v := τ 6 c 3) zC hG (by omega) (hR.2.2.2.2.2.2.1 c (by omega) (by omega)).2.2.2 dX5_townOf_51 ?_
          obtain ⟨f51a, f51b, f51c, f51d⟩ := hI.2.2.2.2.2.2.1 c (by omega) (by omega)
          refine lv_goto (tgt := 64) zC.1 zC.2.1 dX5_townOf_52 (by decide) ?_
          exact zm_iret zC zK hG dX5_townOf_64 (by unfold oTn; (repeat' split) <;> first | rfl | omega) hR (sC_r _)
      · refine lv_aload_n zC.1 zC.2.1 dX5_townOf_32 rfl (lv_at hl 0 rfl) ?_
        refine gf_M_orderOf zC hG wl_X5_38 dX5_townOf_33 ?_
        refine lv_iload_n zC.1 zC.2.1 dX5_townOf_36 rfl (lv_at hl 1 rfl) ?_
        refine gi_m_orderOf (v := τ 6 c 2) zC hG (by omega) (hR.2.2.2.2.2.2.1 c (by omega) (by omega)).2.2.1 dX5_townOf_37 ?_
        obtain ⟨f37a, f37b, f37c, f37d⟩ := hI.2.2.2.2.2.2.1 c (by omega) (by omega)
        refine lv_goto (tgt := 64) zC.1 zC.2.1 dX5_townOf_38 (by decide) ?_
        exact zm_iret zC zK hG dX5_townOf_64 (by unfold oTn; (repeat' split) <;> first | rfl | omega) hR (sC_r _)
    · refine lv_aload_n zC.1 zC.2.1 dX5_townOf_18 rfl (lv_at hl 0 rfl) ?_
      refine gf_M_leapOf zC hG wl_X5_35 dX5_townOf_19 ?_
      refine lv_iload_n zC.1 zC.2.1 dX5_townOf_22 rfl (lv_at hl 1 rfl) ?_
      refine gi_m_leapOf (v := τ 6 c 1) zC hG (by omega) (hR.2.2.2.2.2.2.1 c (by omega) (by omega)).2.1 dX5_townOf_23 ?_
      obtain ⟨f23a, f23b, f23c, f23d⟩ := hI.2.2.2.2.2.2.1 c (by omega) (by omega)
      refine lv_goto (tgt := 64) zC.1 zC.2.1 dX5_townOf_24 (by decide) ?_
      exact zm_iret zC zK hG dX5_townOf_64 (by unfold oTn; (repeat' split) <;> first | rfl | omega) hR (sC_r _)
  · refine lv_aload_n zC.1 zC.2.1 dX5_townOf_4 rfl (lv_at hl 0 rfl) ?_
    refine gf_M_kindOf zC hG wl_X5_32 dX5_townOf_5 ?_
    refine lv_iload_n zC.1 zC.2.1 dX5_townOf_8 rfl (lv_at hl 1 rfl) ?_
    refine gi_m_kindOf (v := τ 6 c 0) zC hG (by omega) (hR.2.2.2.2.2.2.1 c (by omega) (by omega)).1 dX5_townOf_9 ?_
    obtain ⟨f9a, f9b, f9c, f9d⟩ := hI.2.2.2.2.2.2.1 c (by omega) (by omega)
    refine lv_goto (tgt := 64) zC.1 zC.2.1 dX5_townOf_10 (by decide) ?_
    exact zm_iret zC zK hG dX5_townOf_64 (by unfold oTn; (repeat' split) <;> first | rfl | omega) hR (sC_r _)

set_option maxHeartbeats 4000000 in
set_option maxRecDepth 100000 in
theorem c_X5_town {Γ : Gm} {zl : Launch} {A : Nat → Prop} {τ σ : Mm} {c w : Int} (hR : Rel2 τ σ) (hI : IC τ) (hc : -2147483648 ≤ c ∧ c < 2147483648) (hw : -2147483648 ≤ w ∧ w < 2147483648) : Fr Γ zl A yX5_town cX5_town 3 (some .int) 6 128 [.ref (aM Γ), .int (zI c), .int (zI w)] σ (some (.int (zI (rC_town τ c w)))) (mC_town τ c w) := by
  refine Fr_of (by decide) (Nat.le_of_ble_eq_true rfl) ?_
  intro zp ze zs zm args below meth zc zQ H locs ls zC zK hG hl
  have hl : lv_has ls 3 [(0, .ref (aM Γ)), (1, .int (zI c)), (2, .int (zI w))] := hl
  obtain ⟨hmany, htoday, -⟩ := id hI
  refine lv_aload_n zC.1 zC.2.1 dX5_town_0 rfl (lv_at hl 0 rfl) ?_
  refine lv_iload_n zC.1 zC.2.1 dX5_town_1 rfl (lv_at hl 1 rfl) ?_
  refine zr_callV zC hG (c_X5_isTown (τ := τ) (σ := σ) (c := c) hR hI (by first | assumption | omega)) mt_X5_isTown wl_X5_169 pM rfl rfl ⟨by decide, by decide⟩ rfl hl.1 rfl (Nat.le_of_ble_eq_true rfl) dX5_town_2 ⟨Nat.zero_le _, Nat.zero_le _⟩ (fun H locs hG => ?_)
  refine W.eq (g2 := F0 zm 5 ls [.int (zI (zB (isT τ c)))]) rfl ?_
  refine zr_ifeqB (tgt := 31) zC dX5_town_5 (by decide) (fun c5 => ?_) (fun c5 => ?_)
  · refine zr_iconst zC dX5_town_31 ?_
    exact zm_iret zC zK hG dX5_town_32 (by unfold rC_town; (repeat' split) <;> first | rfl | omega) (by unfold mC_town; (repeat' split) <;> first | exact hR | (exfalso; omega)) (sC_r _)
  · refine lv_iload_n zC.1 zC.2.1 dX5_town_8 rfl (lv_at hl 2 rfl) ?_
    refine zr_iconst zC dX5_town_9 ?_
    refine zr_iconst zC dX5_town_10 ?_
    refine zr_callS zC hG (c_X5_in (σ := σ) (v := w) (a := 0) (b := 4) (by first | assumption | omega) (by first | assumption | omega) (by first | assumption | omega)) mt_X5_in wl_X5_60 ⟨by decide, by decide⟩ rfl hl.1 rfl (Nat.le_of_ble_eq_true rfl) dX5_town_11 ⟨Nat.zero_le _, Nat.zero_le _⟩ (fun H locs hG => ?_)
    refine W.eq (g2 := F0 zm 14 ls [.int (zI (zB (0 ≤ w ∧ w ≤ 4)))]) rfl ?_
    refine zr_ifeqB (tgt := 31) zC dX5_town_14 (by decide) (fun c14 => ?_) (fun c14 => ?_)
    · refine zr_iconst zC dX5_town_31 ?_
      exact zm_iret zC zK hG dX5_town_32 (by unfold rC_town; (repeat' split) <;> first | rfl | omega) (by unfold mC_town; (repeat' split) <;> first | exact hR | (exfalso; omega)) (sC_r _)
    · refine lv_aload_n zC.1 zC.2.1 dX5_town_17 rfl (lv_at hl 0 rfl) ?_
      refine lv_aload_n zC.1 zC.2.1 dX5_town_18 rfl (lv_at hl 0 rfl) ?_
      refine lv_iload_n zC.1 zC.2.1 dX5_town_19 rfl (lv_at hl 1 rfl) ?_
      refine lv_iload_n zC.1 zC.2.1 dX5_town_20 rfl (lv_at hl 2 rfl) ?_
      refine zm_callV zC hG (c_X5_townOf (τ := τ) (σ := σ) (c := c) (w := w) hR hI (by first | assumption | omega) (by first | assumption | omega)) mt_X5_townOf wl_X5_172 pM rfl rfl ⟨by decide, by decide⟩ rfl hl.1 rfl (Nat.le_of_ble_eq_true rfl) dX5_town_21 ⟨Nat.zero_le _, Nat.zero_le _⟩ (fun σ21 H locs hR21 hC21 hG => ?_)
      refine W.eq (g2 := F0 zm 24 ls [.int (zI (oTn τ c w)), .ref (aM Γ)]) rfl ?_
      have b21_0 := oTn_r hI (c := c) (w := w) (by omega)
      refine zr_iconst zC dX5_town_24 ?_
      refine zr_callV zC hG (c_X5_ask (σ := σ21) (v := oTn τ c w) (w := 1)) mt_X5_ask wl_X5_86 pM rfl rfl ⟨by decide, by decide⟩ rfl hl.1 rfl (Nat.le_of_ble_eq_true rfl) dX5_town_25 ⟨Nat.zero_le _, Nat.zero_le _⟩ (fun H locs hG => ?_)
      refine W.eq (g2 := F0 zm 28 ls [.int (zI 1)]) rfl ?_
      refine lv_goto (tgt := 32) zC.1 zC.2.1 dX5_town_28 (by decide) ?_
      exact zm_iret zC zK hG dX5_town_32 (by unfold rC_town; (repeat' split) <;> first | rfl | omega) (by unfold mC_town; (repeat' split) <;> first | exact (rl_ask hR21) | (exfalso; omega)) (sC_up (sC_t (sC_r _) hC21) (by decide))

set_option maxHeartbeats 4000000 in
set_option maxRecDepth 100000 in
theorem c_X5_marked {Γ : Gm} {zl : Launch} {A : Nat → Prop} {τ σ : Mm} {c w : Int} (hR : Rel2 τ σ) (hI : IC τ) (hc : isT τ c) (hw : 1 ≤ w ∧ w ≤ 5) (ha : isO (τ 6 c 0) w) : Fr Γ zl A yX5_marked cX5_marked 4 (some .int) 5 106 [.ref (aM Γ), .int (zI c), .int (zI w)] σ (some (.int (zI (mrk (τ 6 c 0) (τ 6 c 1) (τ 6 c 2) (τ 6 c 3) w (τ 0 0 7))))) τ := by
  refine Fr_of (by decide) (Nat.le_of_ble_eq_true rfl) ?_
  intro zp ze zs zm args below meth zc zQ H locs ls zC zK hG hl
  have hl : lv_has ls 4 [(0, .ref (aM Γ)), (1, .int (zI c)), (2, .int (zI w))] := hl
  obtain ⟨hmany, htoday, -⟩ := id hI
  have tp := tPar_c (τ 6 c 0)
  obtain ⟨kca, kcb, kcc, kcd⟩ := hI.2.2.2.2.2.2.1 c (by omega) (by omega)
  refine lv_aload_n zC.1 zC.2.1 dX5_marked_0 rfl (lv_at hl 0 rfl) ?_
  refine lv_iload_n zC.1 zC.2.1 dX5_marked_1 rfl (lv_at hl 1 rfl) ?_
  refine lv_aload_n zC.1 zC.2.1 dX5_marked_2 rfl (lv_at hl 0 rfl) ?_
  refine gf_M_today (v := τ 0 0 7) zC hG wl_X5_119 hR.1.2.2.2.2.2 dX5_marked_3 ?_
  refine zr_callV zC hG (c_X5_dateIn (τ := τ) (σ := σ) (c := c) (d := τ 0 0 7) hR hI (by first | assumption | omega) (by first | assumption | omega)) mt_X5_dateIn wl_X5_166 pM rfl rfl ⟨by decide, by decide⟩ rfl hl.1 rfl (Nat.le_of_ble_eq_true rfl) dX5_marked_6 ⟨Nat.zero_le _, Nat.zero_le _⟩ (fun H locs hG => ?_)
  refine W.eq (g2 := F0 zm 9 ls [.int (zI (dtD (τ 6 c 0) (τ 6 c 1) (τ 6 c 2) (τ 6 c 3) (τ 0 0 7)))]) rfl ?_
  have b6_0 := dtD_r (k := (τ 6 c 0)) (lp := (τ 6 c 1)) (o := (τ 6 c 2)) (g := (τ 6 c 3)) (d := (τ 0 0 7)) (by omega) (hI.2.2.2.2.2.2.1 c (by omega) (by omega)).2.1 (hI.2.2.2.2.2.2.1 c (by omega) (by omega)).2.2.2
  refine zr_sipush zC dX5_marked_9 (by decide +kernel) ?_
  refine zr_idiv zC dX5_marked_12 (by omega) ?_
  refine lv_istore_n (lv' := [(3, .int (zI ((dtD (τ 6 c 0) (τ 6 c 1) (τ 6 c 2) (τ 6 c 3) (τ 0 0 7)) / 1000))), (0, .ref (aM Γ)), (1, .int (zI c)), (2, .int (zI w))]) zC.1 zC.2.1 dX5_marked_13 rfl hl (by decide) rfl (fun ls hl => ?_)
  refine lv_iload_n zC.1 zC.2.1 dX5_marked_14 rfl (lv_at hl 3 rfl) ?_
  rcases (show w = 1 ∨ w = 2 ∨ w = 3 ∨ w = 4 ∨ (w < 1 ∨ 4 < w) by omega) with c15 | c15 | c15 | c15 | c15
  · refine lv_tableIn (off := 29) (tgt := 44) zC.1 zC.2.1 dX5_marked_15 (by rw [zI_t (by omega)]; omega) (by rw [zI_t (by omega)]; omega) (by rw [zI_t (by omega), c15]; rfl) (by decide) ?_
    have b44 := Int.emod_nonneg (dtD (τ 6 c 0) (τ 6 c 1) (τ 6 c 2) (τ 6 c 3) (τ 0 0 7) / 1000) (show τ 6 c 1 ≠ 0 by omega)
    have b44b := Int.emod_lt_of_pos (dtD (τ 6 c 0) (τ 6 c 1) (τ 6 c 2) (τ 6 c 3) (τ 0 0 7) / 1000) (show 0 < τ 6 c 1 by omega)
    refine lv_aload_n zC.1 zC.2.1 dX5_marked_44 rfl (lv_at hl 1 rfl) ?_
    refine gf_M_leap (v := (τ 6 c 1)) zC hG wl_X5_128 (by first | rfl | simp [up]) dX5_marked_45 ?_
    refine lv_iload_n zC.1 zC.2.1 dX5_marked_48 rfl (lv_at hl 0 rfl) ?_
    refine lv_aload_n zC.1 zC.2.1 dX5_marked_49 rfl (lv_at hl 1 rfl) ?_
    refine gf_M_leap (v := (τ 6 c 1)) zC hG wl_X5_128 (by first | rfl | simp [up]) dX5_marked_50 ?_
    refine zr_irem zC dX5_marked_53 (by omega) ?_
    refine zr_isub zC dX5_marked_54 ?_
    refine lv_aload_n zC.1 zC.2.1 dX5_marked_55 rfl (lv_at hl 1 rfl) ?_
    refine gf_M_leap (v := (τ 6 c 1)) zC hG wl_X5_128 (by first | rfl | simp [up]) dX5_marked_56 ?_
    refine zr_irem zC dX5_marked_59 (by omega) ?_
    exact zm_iret zC zK hG dX5_marked_60 (by rw [c15]; rfl) hR (sC_up (sC_up (sC_up (sC_up (sC_r _) (by decide)) (by decide)) (by decide)) (by decide))
  · refine lv_tableIn (off := 46) (tgt := 61) zC.1 zC.2.1 dX5_marked_15 (by rw [zI_t (by omega)]; omega) (by rw [zI_t (by omega)]; omega) (by rw [zI_t (by omega), c15]; rfl) (by decide) ?_
    refine zr_iconst zC dX5_marked_61 ?_
    refine lv_aload_n zC.1 zC.2.1 dX5_marked_62 rfl (lv_at hl 1 rfl) ?_
    refine gf_M_order (v := (τ 6 c 2)) zC hG wl_X5_131 (by first | rfl | simp [up]) dX5_marked_63 ?_
    refine lv_aload_n zC.1 zC.2.1 dX5_marked_66 rfl (lv_at hl 1 rfl) ?_
    refine gf_M_today (v := τ 0 0 7) zC hG wl_X5_119 hR.1.2.2.2.2.2 dX5_marked_67 ?_
    refine zr_isub zC dX5_marked_70 ?_
    refine zr_callS zC hG (c_X5_greater (σ := up (up (up (up σ 20 0 19 (τ 6 c 0)) 20 0 20 (τ 6 c 1)) 20 0 21 (τ 6 c 2)) 20 0 22 (τ 6 c 3)) (a := 0) (b := (τ 6 c 2) - (τ 0 0 7)) (by first | assumption | omega) (by first | assumption | omega)) mt_X5_greater wl_X5_175 ⟨by decide, by decide⟩ rfl hl.1 rfl (Nat.le_of_ble_eq_true rfl) dX5_marked_71 ⟨Nat.zero_le _, Nat.zero_le _⟩ (fun H locs hG => ?_)
    refine W.eq (g2 := F0 zm 74 ls [.int (zI (max 0 ((τ 6 c 2) - (τ 0 0 7))))]) rfl ?_
    exact zm_iret zC zK hG dX5_marked_74 (by rw [c15]; rfl) hR (sC_up (sC_up (sC_up (sC_up (sC_r _) (by decide)) (by decide)) (by decide)) (by decide))
  · refine lv_tableIn (off := 60) (tgt := 75) zC.1 zC.2.1 dX5_marked_15 (by rw [zI_t (by omega)]; omega) (by rw [zI_t (by omega)]; omega) (by rw [zI_t (by omega), c15]; rfl) (by decide) ?_
    refine lv_iload_n zC.1 zC.2.1 dX5_marked_75 rfl (lv_at hl 0 rfl) ?_
    refine zr_iconst zC dX5_marked_76 ?_
    refine zr_iadd zC dX5_marked_77 ?_
    exact zm_iret zC zK hG dX5_marked_78 (by rw [c15]; rfl) hR (sC_up (sC_up (sC_up (sC_up (sC_r _) (by decide)) (by decide)) (by decide)) (by decide))
  · refine lv_tableIn (off := 64) (tgt := 79) zC.1 zC.2.1 dX5_marked_15 (by rw [zI_t (by omega)]; omega) (by rw [zI_t (by omega)]; omega) (by rw [zI_t (by omega), c15]; rfl) (by decide) ?_
    refine lv_aload_n zC.1 zC.2.1 dX5_marked_79 rfl (lv_at hl 1 rfl) ?_
    refine gf_M_today (v := τ 0 0 7) zC hG wl_X5_119 hR.1.2.2.2.2.2 dX5_marked_80 ?_
    refine lv_aload_n zC.1 zC.2.1 dX5_marked_83 rfl (lv_at hl 1 rfl) ?_
    refine gf_M_order (v := (τ 6 c 2)) zC hG wl_X5_131 (by first | rfl | simp [up]) dX5_marked_84 ?_
    refine zr_icmp_lt (tgt := 97) zC dX5_marked_87 (by decide) (by omega) (fun c87 => ?_) (fun c87 => ?_)
    · refine zr_iconst zC dX5_marked_97 ?_
      exact zm_iret zC zK hG dX5_marked_98 (by rw [c15, mrk_4 (by omega)]; first | rw [if_pos (by omega)] | rw [if_neg (by omega)]) hR (sC_up (sC_up (sC_up (sC_up (sC_r _) (by decide)) (by decide)) (by decide)) (by decide))
    · refine lv_aload_n zC.1 zC.2.1 dX5_marked_90 rfl (lv_at hl 1 rfl) ?_
      refine gf_M_gap (v := (τ 6 c 3)) zC hG wl_X5_134 (by first | rfl | simp [up]) dX5_marked_91 ?_
      refine lv_goto (tgt := 98) zC.1 zC.2.1 dX5_marked_94 (by decide) ?_
      exact zm_iret zC zK hG dX5_marked_98 (by rw [c15, mrk_4 (by omega)]; first | rw [if_pos (by omega)] | rw [if_neg (by omega)]) hR (sC_up (sC_up (sC_up (sC_up (sC_r _) (by decide)) (by decide)) (by decide)) (by decide))
  · refine lv_tableOut (tgt := 99) zC.1 zC.2.1 dX5_marked_15 (by rw [zI_t (by omega)]; omega) (by decide) ?_
    refine lv_aload_n zC.1 zC.2.1 dX5_marked_99 rfl (lv_at hl 1 rfl) ?_
    refine gf_M_gap (v := (τ 6 c 3)) zC hG wl_X5_134 (by first | rfl | simp [up]) dX5_marked_100 ?_
    refine zr_if_ne (tgt := 110) zC dX5_marked_103 (by decide) (by omega) (fun c103 => ?_) (fun c103 => ?_)
    · refine lv_aload_n zC.1 zC.2.1 dX5_marked_110 rfl (lv_at hl 1 rfl) ?_
      refine gf_M_today (v := τ 0 0 7) zC hG wl_X5_119 hR.1.2.2.2.2.2 dX5_marked_111 ?_
      refine lv_aload_n zC.1 zC.2.1 dX5_marked_114 rfl (lv_at hl 1 rfl) ?_
      refine gf_M_order (v := (τ 6 c 2)) zC hG wl_X5_131 (by first | rfl | simp [up]) dX5_marked_115 ?_
      refine zr_icmp_lt (tgt := 125) zC dX5_marked_118 (by decide) (by omega) (fun c118 => ?_) (fun c118 => ?_)
      · refine zr_iconst zC dX5_marked_125 ?_
        refine lv_aload_n zC.1 zC.2.1 dX5_marked_126 rfl (lv_at hl 1 rfl) ?_
        refine gf_M_today (v := τ 0 0 7) zC hG wl_X5_119 hR.1.2.2.2.2.2 dX5_marked_127 ?_
        refine lv_aload_n zC.1 zC.2.1 dX5_marked_130 rfl (lv_at hl 1 rfl) ?_
        refine gf_M_order (v := (τ 6 c 2)) zC hG wl_X5_131 (by first | rfl | simp [up]) dX5_marked_131 ?_
        refine zr_sipush zC dX5_marked_134 (by decide +kernel) ?_
        refine zr_iadd zC dX5_marked_137 ?_
        refine zr_icmp_lt (tgt := 145) zC dX5_marked_138 (by decide) (by omega) (fun c138 => ?_) (fun c138 => ?_)
        · refine zr_iconst zC dX5_marked_145 ?_
          refine zr_iadd zC dX5_marked_146 ?_
          refine zr_topi (y := 0) (by decide) ?_
          exact zm_iret zC zK hG dX5_marked_147 (by rw [show w = 5 by omega, mrk_5 (by omega)]; (repeat' split) <;> omega) hR (sC_up (sC_up (sC_up (sC_up (sC_r _) (by decide)) (by decide)) (by decide)) (by decide))
        · refine zr_iconst zC dX5_marked_141 ?_
          refine lv_goto (tgt := 146) zC.1 zC.2.1 dX5_marked_142 (by decide) ?_
          refine zr_iadd zC dX5_marked_146 ?_
          refine zr_topi (y := 1) (by decide) ?_
          exact zm_iret zC zK hG dX5_marked_147 (by rw [show w = 5 by omega, mrk_5 (by omega)]; (repeat' split) <;> omega) hR (sC_up (sC_up (sC_up (sC_up (sC_r _) (by decide)) (by decide)) (by decide)) (by decide))
      · refine zr_iconst zC dX5_marked_121 ?_
        refine lv_goto (tgt := 126) zC.1 zC.2.1 dX5_marked_122 (by decide) ?_
        refine lv_aload_n zC.1 zC.2.1 dX5_marked_126 rfl (lv_at hl 1 rfl) ?_
        refine gf_M_today (v := τ 0 0 7) zC hG wl_X5_119 hR.1.2.2.2.2.2 dX5_marked_127 ?_
        refine lv_aload_n zC.1 zC.2.1 dX5_marked_130 rfl (lv_at hl 1 rfl) ?_
        refine gf_M_order (v := (τ 6 c 2)) zC hG wl_X5_131 (by first | rfl | simp [up]) dX5_marked_131 ?_
        refine zr_sipush zC dX5_marked_134 (by decide +kernel) ?_
        refine zr_iadd zC dX5_marked_137 ?_
        refine zr_icmp_lt (tgt := 145) zC dX5_marked_138 (by decide) (by omega) (fun c138 => ?_) (fun c138 => ?_)
        · refine zr_iconst zC dX5_marked_145 ?_
          refine zr_iadd zC dX5_marked_146 ?_
          refine zr_topi (y := 1) (by decide) ?_
          exact zm_iret zC zK hG dX5_marked_147 (by rw [show w = 5 by omega, mrk_5 (by omega)]; (repeat' split) <;> omega) hR (sC_up (sC_up (sC_up (sC_up (sC_r _) (by decide)) (by decide)) (by decide)) (by decide))
        · refine zr_iconst zC dX5_marked_141 ?_
          refine lv_goto (tgt := 146) zC.1 zC.2.1 dX5_marked_142 (by decide) ?_
          refine zr_iadd zC dX5_marked_146 ?_
          refine zr_topi (y := 2) (by decide) ?_
          exact zm_iret zC zK hG dX5_marked_147 (by rw [show w = 5 by omega, mrk_5 (by omega)]; (repeat' split) <;> omega) hR (sC_up (sC_up (sC_up (sC_up (sC_r _) (by decide)) (by decide)) (by decide)) (by decide))
    · refine zr_iconst zC dX5_marked_106 ?_
      refine lv_goto (tgt := 147) zC.1 zC.2.1 dX5_marked_107 (by decide) ?_
      exact zm_iret zC zK hG dX5_marked_147 (by rw [show w = 5 by omega, mrk_5 (by omega)]; (repeat' split) <;> omega) hR (sC_up (sC_up (sC_up (sC_up (sC_r _) (by decide)) (by decide)) (by decide)) (by decide))

set_option maxHeartbeats 4000000 in
set_option maxRecDepth 100000 in
theorem c_X5_mark {Γ : Gm} {zl : Launch} {A : Nat → Prop} {τ σ : Mm} {c w : Int} (hR : Rel2 τ σ) (hI : IC τ) (hc : -2147483648 ≤ c ∧ c < 2147483648) (hw : -2147483648 ≤ w ∧ w < 2147483648) : Fr Γ zl A yX5_mark cX5_mark 3 (some .int) 6 129 [.ref (aM Γ), .int (zI c), .int (zI w)] σ (some (.int (zI (rC_mark τ c w)))) (mC_mark τ c w) := by
  refine Fr_of (by decide) (Nat.le_of_ble_eq_true rfl) ?_
  intro zp ze zs zm args below meth zc zQ H locs ls zC zK hG hl
  have hl : lv_has ls 3 [(0, .ref (aM Γ)), (1, .int (zI c)), (2, .int (zI w))] := hl
  obtain ⟨hmany, htoday, -⟩ := id hI
  refine lv_aload_n zC.1 zC.2.1 dX5_mark_0 rfl (lv_at hl 0 rfl) ?_
  refine lv_iload_n zC.1 zC.2.1 dX5_mark_1 rfl (lv_at hl 1 rfl) ?_
  refine zr_callV zC hG (c_X5_isTown (τ := τ) (σ := σ) (c := c) hR hI (by first | assumption | omega)) mt_X5_isTown wl_X5_169 pM rfl rfl ⟨by decide, by decide⟩ rfl hl.1 rfl (Nat.le_of_ble_eq_true rfl) dX5_mark_2 ⟨Nat.zero_le _, Nat.zero_le _⟩ (fun H locs hG => ?_)
  refine W.eq (g2 := F0 zm 5 ls [.int (zI (zB (isT τ c)))]) rfl ?_
  refine zr_ifeqB (tgt := 17) zC dX5_mark_5 (by decide) (fun c5 => ?_) (fun c5 => ?_)
  · refine zr_iconst zC dX5_mark_17 ?_
    exact zm_iret zC zK hG dX5_mark_18 (by unfold rC_mark; (repeat' split) <;> first | rfl | omega) (by unfold mC_mark; (repeat' split) <;> first | exact hR | (exfalso; omega)) (sC_r _)
  · refine lv_iload_n zC.1 zC.2.1 dX5_mark_8 rfl (lv_at hl 2 rfl) ?_
    refine zr_iconst zC dX5_mark_9 ?_
    refine zr_iconst zC dX5_mark_10 ?_
    refine zr_callS zC hG (c_X5_in (σ := σ) (v := w) (a := 1) (b := 5) (by first | assumption | omega) (by first | assumption | omega) (by first | assumption | omega)) mt_X5_in wl_X5_60 ⟨by decide, by decide⟩ rfl hl.1 rfl (Nat.le_of_ble_eq_true rfl) dX5_mark_11 ⟨Nat.zero_le _, Nat.zero_le _⟩ (fun H locs hG => ?_)
    refine W.eq (g2 := F0 zm 14 ls [.int (zI (zB (1 ≤ w ∧ w ≤ 5)))]) rfl ?_
    refine zr_ifneB (tgt := 19) zC dX5_mark_14 (by decide) (fun c14 => ?_) (fun c14 => ?_)
    · refine lv_aload_n zC.1 zC.2.1 dX5_mark_19 rfl (lv_at hl 0 rfl) ?_
      refine lv_iload_n zC.1 zC.2.1 dX5_mark_20 rfl (lv_at hl 1 rfl) ?_
      refine lv_iload_n zC.1 zC.2.1 dX5_mark_21 rfl (lv_at hl 2 rfl) ?_
      refine zr_callV zC hG (c_X5_isA (τ := τ) (σ := σ) (c := c) (w := w) hR hI (by first | assumption | omega) (by first | assumption | omega)) mt_X5_isA wl_X5_178 pM rfl rfl ⟨by decide, by decide⟩ rfl hl.1 rfl (Nat.le_of_ble_eq_true rfl) dX5_mark_22 ⟨Nat.zero_le _, Nat.zero_le _⟩ (fun H locs hG => ?_)
      refine W.eq (g2 := F0 zm 25 ls [.int (zI (zB (isO (τ 6 c 0) w)))]) rfl ?_
      refine zr_ifeqB (tgt := 37) zC dX5_mark_25 (by decide) (fun c25 => ?_) (fun c25 => ?_)
      · refine lv_aload_n zC.1 zC.2.1 dX5_mark_37 rfl (lv_at hl 0 rfl) ?_
        refine zr_iconst zC dX5_mark_38 ?_
        refine zr_callV zC hG (c_X5_meet (σ := σ) (f := 3) (by first | assumption | omega)) mt_X5_meet wl_X5_68 pM rfl rfl ⟨by decide, by decide⟩ rfl hl.1 rfl (Nat.le_of_ble_eq_true rfl) dX5_mark_39 ⟨Nat.zero_le _, Nat.zero_le _⟩ (fun H locs hG => ?_)
        refine W.eq (g2 := F0 zm 42 ls [.int (zI (-3))]) rfl ?_
        exact zm_iret zC zK hG dX5_mark_42 (by unfold rC_mark; (repeat' split) <;> first | rfl | omega) (by unfold mC_mark; (repeat' split) <;> first | exact (rl_fd hR (by omega)) | (exfalso; omega)) (sC_up (sC_up (sC_r _) (by decide)) (by decide))
      · refine lv_aload_n zC.1 zC.2.1 dX5_mark_28 rfl (lv_at hl 0 rfl) ?_
        refine lv_iload_n zC.1 zC.2.1 dX5_mark_29 rfl (lv_at hl 1 rfl) ?_
        refine lv_iload_n zC.1 zC.2.1 dX5_mark_30 rfl (lv_at hl 2 rfl) ?_
        refine zm_callV zC hG (c_X5_marked (τ := τ) (σ := σ) (c := c) (w := w) hR hI (by first | assumption | omega) (by first | assumption | omega) (by first | assumption | omega)) mt_X5_marked wl_X5_182 pM rfl rfl ⟨by decide, by decide⟩ rfl hl.1 rfl (Nat.le_of_ble_eq_true rfl) dX5_mark_31 ⟨Nat.zero_le _, Nat.zero_le _⟩ (fun σ31 H locs hR31 hC31 hG => ?_)
        refine W.eq (g2 := F0 zm 34 ls [.int (zI (mrk (τ 6 c 0) (τ 6 c 1) (τ 6 c 2) (τ 6 c 3) w (τ 0 0 7)))]) rfl ?_
        refine lv_goto (tgt := 42) zC.1 zC.2.1 dX5_mark_34 (by decide) ?_
        exact zm_iret zC zK hG dX5_mark_42 (by unfold rC_mark; (repeat' split) <;> first | rfl | omega) (by unfold mC_mark; (repeat' split) <;> first | exact hR31 | (exfalso; omega)) (sC_t (sC_r _) hC31)
    · refine zr_iconst zC dX5_mark_17 ?_
      exact zm_iret zC zK hG dX5_mark_18 (by unfold rC_mark; (repeat' split) <;> first | rfl | omega) (by unfold mC_mark; (repeat' split) <;> first | exact hR | (exfalso; omega)) (sC_r _)

set_option maxHeartbeats 4000000 in
set_option maxRecDepth 100000 in
theorem c_X5_text {Γ : Gm} {zl : Launch} {A : Nat → Prop} {τ σ : Mm} {t n : Int} (hR : Rel2 τ σ) (hI : IC τ) (ht : -2147483648 ≤ t ∧ t < 2147483648) (hn : -2147483648 ≤ n ∧ n < 2147483648) : Fr Γ zl A yX5_text cX5_text 4 (some .int) 2 42 [.ref (aM Γ), .int (zI t), .int (zI n)] σ (some (.int (zI (rC_text τ t n)))) (mC_text τ t n) := by
  refine Fr_of (by decide) (Nat.le_of_ble_eq_true rfl) ?_
  intro zp ze zs zm args below meth zc zQ H locs ls zC zK hG hl
  have hl : lv_has ls 4 [(0, .ref (aM Γ)), (1, .int (zI t)), (2, .int (zI n))] := hl
  obtain ⟨hmany, htoday, -⟩ := id hI
  refine lv_iload_n zC.1 zC.2.1 dX5_text_0 rfl (lv_at hl 1 rfl) ?_
  refine zr_callS zC hG (c_X5_isText (σ := σ) (v := t) (by first | assumption | omega)) mt_X5_isText wl_X5_72 ⟨by decide, by decide⟩ rfl hl.1 rfl (Nat.le_of_ble_eq_true rfl) dX5_text_1 ⟨Nat.zero_le _, Nat.zero_le _⟩ (fun H locs hG => ?_)
  refine W.eq (g2 := F0 zm 4 ls [.int (zI (zB (0 ≤ t ∧ t ≤ 3)))]) rfl ?_
  refine zr_ifeqB (tgt := 13) zC dX5_text_4 (by decide) (fun c4 => ?_) (fun c4 => ?_)
  · refine zr_iconst zC dX5_text_13 ?_
    exact zm_iret zC zK hG dX5_text_14 (by unfold rC_text; (repeat' split) <;> first | rfl | omega) (by unfold mC_text; (repeat' split) <;> first | exact hR | (exfalso; omega)) (sC_r _)
  · refine lv_iload_n zC.1 zC.2.1 dX5_text_7 rfl (lv_at hl 2 rfl) ?_
    refine zr_bipush zC dX5_text_8 (by decide +kernel) ?_
    refine zr_icmp_le (tgt := 15) zC dX5_text_10 (by decide) (by omega) (fun c10 => ?_) (fun c10 => ?_)
    · refine lv_iload_n zC.1 zC.2.1 dX5_text_15 rfl (lv_at hl 2 rfl) ?_
      refine zr_if_ge (tgt := 25) zC dX5_text_16 (by decide) (by omega) (fun c16 => ?_) (fun c16 => ?_)
      · refine lv_aload_n zC.1 zC.2.1 dX5_text_25 rfl (lv_at hl 0 rfl) ?_
        refine gf_M_lengths zC hG wl_X5_26 dX5_text_26 ?_
        refine lv_iload_n zC.1 zC.2.1 dX5_text_29 rfl (lv_at hl 1 rfl) ?_
        refine lv_iload_n zC.1 zC.2.1 dX5_text_30 rfl (lv_at hl 2 rfl) ?_
        refine pi_m_lengths zC hG (by omega) dX5_text_31 (fun H locs hG => ?_)
        refine zr_iconst zC dX5_text_32 ?_
        refine lv_istore_n (lv' := [(3, .int (zI 0)), (0, .ref (aM Γ)), (1, .int (zI t)), (2, .int (zI n))]) zC.1 zC.2.1 dX5_text_33 rfl hl (by decide) rfl (fun ls hl => ?_)
        have loop34 : ∀ (nf : Nat) (k : Int) (σ34q : Mm) (H : Heap) (locs : List Loc) (ls : Array Slot), (0 ≤ k ∧ k ≤ 60) → (Rel2 (mFill (up τ 4 t 1 n) 5 t k 32) σ34q) → (sC σ σ34q) → (60 - k < (nf : Int)) → GM Γ A σ34q zs H locs → lv_has ls 4 [(0, .ref (aM Γ)), (1, .int (zI t)), (2, .int (zI n)), (3, .int (zI k))] → W zp zl ze { frames := 2, cells := 0, slots := 0, locals := 42 } zs zm args below meth zc H locs 0 0 zQ (F0 zm 34 ls []) := by
          intro nf
          induction nf with
          | zero =>
            intro k σ34q H locs ls hk hR34q hC34q hm34 _ _
            exact absurd hm34 (by omega)
          | succ nf ih34 =>
            intro k σ34q H locs ls hk hR34q hC34q hm34 hG hl
            refine lv_iload_n zC.1 zC.2.1 dX5_text_34 rfl (lv_at hl 3 rfl) ?_
            refine zr_bipush zC dX5_text_35 (by decide +kernel) ?_
            refine zr_icmp_ge (tgt := 59) zC dX5_text_37 (by decide) (by omega) (fun c37 => ?_) (fun c37 => ?_)
            · refine lv_iload_n zC.1 zC.2.1 dX5_text_59 rfl (lv_at hl 2 rfl) ?_
              exact zm_iret zC zK hG dX5_text_60 (by unfold rC_text; (repeat' split) <;> first | rfl | omega) (by unfold mC_text; rw [if_neg (by omega), if_neg (by omega)]; rw [show k = 60 by omega] at hR34q; exact hR34q) hC34q
            · refine lv_aload_n zC.1 zC.2.1 dX5_text_40 rfl (lv_at hl 0 rfl) ?_
              refine gf_M_texts zC hG wl_X5_29 dX5_text_41 ?_
              refine zr_bipush zC dX5_text_44 (by decide +kernel) ?_
              refine lv_iload_n zC.1 zC.2.1 dX5_text_46 rfl (lv_at hl 1 rfl) ?_
              refine zr_imul zC dX5_text_47 ?_
              refine lv_iload_n zC.1 zC.2.1 dX5_text_48 rfl (lv_at hl 3 rfl) ?_
              refine zr_iadd zC dX5_text_49 ?_
              refine zr_bipush zC dX5_text_50 (by decide +kernel) ?_
              refine pi_m_texts zC hG (by omega) dX5_text_52 (fun H locs hG => ?_)
              refine zr_iinc (lv' := [(3, .int (zI (k + 1))), (0, .ref (aM Γ)), (1, .int (zI t)), (2, .int (zI n))]) zC dX5_text_53 hl (k := 3) rfl (by decide) rfl (fun ls hl => ?_)
              refine lv_goto (tgt := 34) zC.1 zC.2.1 dX5_text_56 (by decide) ?_
              exact ih34 (k + 1) (up σ34q 26 0 ((60 * t) + k) 32) H locs ls (by first | assumption | omega) ((mFill_s (up τ 4 t 1 n) 5 t k 32 (by omega)) ▸ rl_txt hR34q (by omega) (by omega)) (sC_up hC34q (by decide)) (by omega) hG (lv_sub hl [1, 2, 3, 0] rfl)
        exact loop34 ((60 - 0 : Int).toNat + 1) 0 (up σ 25 0 t n) H locs ls (by first | assumption | omega) ((show up τ 4 t 1 n = mFill (up τ 4 t 1 n) 5 t 0 32 from (mFill_0 _ _ _ _)) ▸ (rl_len hR (by unfold szM; first | rfl | rw [if_neg (by omega)] | rw [if_pos (by omega)]))) (sC_up (sC_r _) (by decide)) (by omega) hG (lv_sub hl [1, 2, 3, 0] rfl)
      · refine lv_aload_n zC.1 zC.2.1 dX5_text_19 rfl (lv_at hl 0 rfl) ?_
        refine zr_iconst zC dX5_text_20 ?_
        refine zr_callV zC hG (c_X5_meet (σ := σ) (f := 5) (by first | assumption | omega)) mt_X5_meet wl_X5_68 pM rfl rfl ⟨by decide, by decide⟩ rfl hl.1 rfl (Nat.le_of_ble_eq_true rfl) dX5_text_21 ⟨Nat.zero_le _, Nat.zero_le _⟩ (fun H locs hG => ?_)
        refine W.eq (g2 := F0 zm 24 ls [.int (zI (-3))]) rfl ?_
        exact zm_iret zC zK hG dX5_text_24 (by unfold rC_text; (repeat' split) <;> first | rfl | omega) (by unfold mC_text; (repeat' split) <;> first | exact (rl_fd hR (by omega)) | (exfalso; omega)) (sC_up (sC_up (sC_r _) (by decide)) (by decide))
    · refine zr_iconst zC dX5_text_13 ?_
      exact zm_iret zC zK hG dX5_text_14 (by unfold rC_text; (repeat' split) <;> first | rfl | omega) (by unfold mC_text; (repeat' split) <;> first | exact hR | (exfalso; omega)) (sC_r _)

set_option maxHeartbeats 4000000 in
set_option maxRecDepth 100000 in
theorem c_X5_put {Γ : Gm} {zl : Launch} {A : Nat → Prop} {τ σ : Mm} {t x v : Int} (hR : Rel2 τ σ) (hI : IC τ) (ht : -2147483648 ≤ t ∧ t < 2147483648) (hx : -2147483648 ≤ x ∧ x < 2147483648) (hv : -2147483648 ≤ v ∧ v < 2147483648) : Fr Γ zl A yX5_put cX5_put 6 (some .int) 3 63 [.ref (aM Γ), .int (zI t), .int (zI x), .int (zI v)] σ (some (.int (zI (rC_put τ t x v)))) (mC_put τ t x v) := by
  refine Fr_of (by decide) (Nat.le_of_ble_eq_true rfl) ?_
  intro zp ze zs zm args below meth zc zQ H locs ls zC zK hG hl
  have hl : lv_has ls 6 [(0, .ref (aM Γ)), (1, .int (zI t)), (2, .int (zI x)), (3, .int (zI v))] := hl
  obtain ⟨hmany, htoday, -⟩ := id hI
  refine lv_aload_n zC.1 zC.2.1 dX5_put_0 rfl (lv_at hl 0 rfl) ?_
  refine lv_iload_n zC.1 zC.2.1 dX5_put_1 rfl (lv_at hl 1 rfl) ?_
  refine zm_callV zC hG (c_X5_askedText (τ := τ) (σ := σ) (t := t) hR hI (by first | assumption | omega)) mt_X5_askedText wl_X5_92 pM rfl rfl ⟨by decide, by decide⟩ rfl hl.1 rfl (Nat.le_of_ble_eq_true rfl) dX5_put_2 ⟨Nat.zero_le _, Nat.zero_le _⟩ (fun σ2 H locs hR2 hC2 hG => ?_)
  refine W.eq (g2 := F0 zm 5 ls [.int (zI (rfT τ t))]) rfl ?_
  have b2_0 := rfT_r τ t
  refine lv_istore (lv' := [(4, .int (zI (rfT τ t))), (0, .ref (aM Γ)), (1, .int (zI t)), (2, .int (zI x)), (3, .int (zI v))]) zC.1 zC.2.1 dX5_put_5 hl (by decide) rfl (fun ls hl => ?_)
  refine lv_iload zC.1 zC.2.1 dX5_put_7 (lv_at hl 0 rfl) ?_
  refine zr_if_ge (tgt := 15) zC dX5_put_9 (by decide) (by omega) (fun c9 => ?_) (fun c9 => ?_)
  · obtain ⟨h1, h2, h3⟩ := rfT_0 (show rfT τ t = 0 by omega)
    rw [h3] at hR2
    have h6 := hI.2.2.2.2.1 t (by omega) (by omega)
    refine lv_iload_n zC.1 zC.2.1 dX5_put_15 rfl (lv_at hl 3 rfl) ?_
    refine zr_iconst zC dX5_put_16 ?_
    refine lv_aload_n zC.1 zC.2.1 dX5_put_17 rfl (lv_at hl 1 rfl) ?_
    refine gf_M_lengths zC hG wl_X5_26 dX5_put_18 ?_
    refine lv_iload_n zC.1 zC.2.1 dX5_put_21 rfl (lv_at hl 2 rfl) ?_
    refine gi_m_lengths (v := szM (τ 4 t 1)) zC hG (by omega) (hR2.2.2.2.2.1 t (by omega) (by omega)) dX5_put_22 ?_
    have f22 := hI.2.2.2.2.1 t (by omega) (by omega)
    have f22s := szM_s (τ 4 t 1)
    refine zr_iconst zC dX5_put_23 ?_
    refine zr_isub zC dX5_put_24 ?_
    refine zr_callS zC hG (c_X5_in (σ := σ2) (v := x) (a := 0) (b := (szM (τ 4 t 1)) - 1) (by first | assumption | omega) (by first | assumption | omega) (by first | assumption | omega)) mt_X5_in wl_X5_60 ⟨by decide, by decide⟩ rfl hl.1 rfl (Nat.le_of_ble_eq_true rfl) dX5_put_25 ⟨Nat.zero_le _, Nat.zero_le _⟩ (fun H locs hG => ?_)
    refine W.eq (g2 := F0 zm 28 ls [.int (zI (zB (0 ≤ x ∧ x ≤ ((szM (τ 4 t 1)) - 1))))]) rfl ?_
    refine zr_ifneB (tgt := 37) zC dX5_put_28 (by decide) (fun c28 => ?_) (fun c28 => ?_)
    · refine lv_aload_n zC.1 zC.2.1 dX5_put_37 rfl (lv_at hl 1 rfl) ?_
      refine gf_M_texts zC hG wl_X5_29 dX5_put_38 ?_
      refine zr_bipush zC dX5_put_41 (by decide +kernel) ?_
      refine lv_iload_n zC.1 zC.2.1 dX5_put_43 rfl (lv_at hl 2 rfl) ?_
      refine zr_imul zC dX5_put_44 ?_
      refine lv_iload_n zC.1 zC.2.1 dX5_put_45 rfl (lv_at hl 3 rfl) ?_
      refine zr_iadd zC dX5_put_46 ?_
      refine gi_m_texts (v := τ 5 t x) zC hG (by omega) (hR2.2.2.2.2.2.1 t x (by omega) (by omega) (by omega) (by omega)) dX5_put_47 ?_
      refine lv_istore (lv' := [(5, .int (zI (τ 5 t x))), (4, .int (zI (rfT τ t))), (0, .ref (aM Γ)), (1, .int (zI t)), (2, .int (zI x)), (3, .int (zI v))]) zC.1 zC.2.1 dX5_put_48 hl (by decide) rfl (fun ls hl => ?_)
      refine lv_aload_n zC.1 zC.2.1 dX5_put_50 rfl (lv_at hl 2 rfl) ?_
      refine gf_M_texts zC hG wl_X5_29 dX5_put_51 ?_
      refine zr_bipush zC dX5_put_54 (by decide +kernel) ?_
      refine lv_iload_n zC.1 zC.2.1 dX5_put_56 rfl (lv_at hl 3 rfl) ?_
      refine zr_imul zC dX5_put_57 ?_
      refine lv_iload_n zC.1 zC.2.1 dX5_put_58 rfl (lv_at hl 4 rfl) ?_
      refine zr_iadd zC dX5_put_59 ?_
      refine lv_iload_n zC.1 zC.2.1 dX5_put_60 rfl (lv_at hl 5 rfl) ?_
      refine zr_i2b zC dX5_put_61 ?_
      refine pi_m_texts zC hG (by omega) dX5_put_62 (fun H locs hG => ?_)
      refine lv_iload zC.1 zC.2.1 dX5_put_63 (lv_at hl 0 rfl) ?_
      refine zr_sipush zC dX5_put_65 (by decide +kernel) ?_
      refine zr_iadd zC dX5_put_68 ?_
      exact zm_iret zC zK hG dX5_put_69 (by unfold rC_put; (repeat' split) <;> first | rfl | omega) (by unfold mC_put; rw [if_neg (by omega), if_neg (by omega)]; exact rl_txt hR2 (by omega) (by omega)) (sC_up (sC_t (sC_r _) hC2) (by decide))
    · refine lv_aload_n zC.1 zC.2.1 dX5_put_31 rfl (lv_at hl 1 rfl) ?_
      refine zr_iconst zC dX5_put_32 ?_
      refine zr_callV zC hG (c_X5_meet (σ := σ2) (f := 2) (by first | assumption | omega)) mt_X5_meet wl_X5_68 pM rfl rfl ⟨by decide, by decide⟩ rfl hl.1 rfl (Nat.le_of_ble_eq_true rfl) dX5_put_33 ⟨Nat.zero_le _, Nat.zero_le _⟩ (fun H locs hG => ?_)
      refine W.eq (g2 := F0 zm 36 ls [.int (zI (-3))]) rfl ?_
      exact zm_iret zC zK hG dX5_put_36 (by unfold rC_put; (repeat' split) <;> first | rfl | omega) (by unfold mC_put; (repeat' split) <;> first | exact (rl_fd hR2 (by omega)) | (exfalso; omega)) (sC_up (sC_up (sC_t (sC_r _) hC2) (by decide)) (by decide))
  · refine lv_iload zC.1 zC.2.1 dX5_put_12 (lv_at hl 0 rfl) ?_
    exact zm_iret zC zK hG dX5_put_14 (by unfold rC_put; (repeat' split) <;> first | rfl | omega) (by unfold mC_put; (repeat' split) <;> first | exact hR2 | (exfalso; omega)) (sC_t (sC_r _) hC2)

set_option maxHeartbeats 4000000 in
set_option maxRecDepth 100000 in
theorem c_X5_year {Γ : Gm} {zl : Launch} {A : Nat → Prop} {τ σ : Mm} {c y : Int} (hR : Rel2 τ σ) (hI : IC τ) (hc : -2147483648 ≤ c ∧ c < 2147483648) (hy : -2147483648 ≤ y ∧ y < 2147483648) : Fr Γ zl A yX5_year cX5_year 5 (some .int) 3 66 [.ref (aM Γ), .int (zI c), .int (zI y)] σ (some (.int (zI (rC_year τ c y)))) (mC_year τ c y) := by
  refine Fr_of (by decide) (Nat.le_of_ble_eq_true rfl) ?_
  intro zp ze zs zm args below meth zc zQ H locs ls zC zK hG hl
  have hl : lv_has ls 5 [(0, .ref (aM Γ)), (1, .int (zI c)), (2, .int (zI y))] := hl
  obtain ⟨hmany, htoday, -⟩ := id hI
  refine lv_aload_n zC.1 zC.2.1 dX5_year_0 rfl (lv_at hl 0 rfl) ?_
  refine lv_iload_n zC.1 zC.2.1 dX5_year_1 rfl (lv_at hl 1 rfl) ?_
  refine zr_callV zC hG (c_X5_isTown (τ := τ) (σ := σ) (c := c) hR hI (by first | assumption | omega)) mt_X5_isTown wl_X5_169 pM rfl rfl ⟨by decide, by decide⟩ rfl hl.1 rfl (Nat.le_of_ble_eq_true rfl) dX5_year_2 ⟨Nat.zero_le _, Nat.zero_le _⟩ (fun H locs hG => ?_)
  refine W.eq (g2 := F0 zm 5 ls [.int (zI (zB (isT τ c)))]) rfl ?_
  refine zr_ifeqB (tgt := 19) zC dX5_year_5 (by decide) (fun c5 => ?_) (fun c5 => ?_)
  · refine zr_iconst zC dX5_year_19 ?_
    exact zm_iret zC zK hG dX5_year_20 (by unfold rC_year; (repeat' split) <;> first | rfl | omega) (by unfold mC_year; (repeat' split) <;> first | exact hR | (exfalso; omega)) (sC_r _)
  · refine lv_iload_n zC.1 zC.2.1 dX5_year_8 rfl (lv_at hl 2 rfl) ?_
    refine zr_iconst zC dX5_year_9 ?_
    refine zr_sipush zC dX5_year_10 (by decide +kernel) ?_
    refine zr_callS zC hG (c_X5_in (σ := σ) (v := y) (a := 0) (b := 250) (by first | assumption | omega) (by first | assumption | omega) (by first | assumption | omega)) mt_X5_in wl_X5_60 ⟨by decide, by decide⟩ rfl hl.1 rfl (Nat.le_of_ble_eq_true rfl) dX5_year_13 ⟨Nat.zero_le _, Nat.zero_le _⟩ (fun H locs hG => ?_)
    refine W.eq (g2 := F0 zm 16 ls [.int (zI (zB (0 ≤ y ∧ y ≤ 250)))]) rfl ?_
    refine zr_ifneB (tgt := 21) zC dX5_year_16 (by decide) (fun c16 => ?_) (fun c16 => ?_)
    · refine lv_aload_n zC.1 zC.2.1 dX5_year_21 rfl (lv_at hl 0 rfl) ?_
      refine lv_iload_n zC.1 zC.2.1 dX5_year_22 rfl (lv_at hl 1 rfl) ?_
      refine zr_callV zC hG (c_X5_take (τ := τ) (σ := σ) (c := c) hR hI (by first | assumption | omega)) mt_X5_take wl_X5_141 pM rfl rfl ⟨by decide, by decide⟩ rfl hl.1 rfl (Nat.le_of_ble_eq_true rfl) dX5_year_23 ⟨Nat.zero_le _, Nat.zero_le _⟩ (fun H locs hG => ?_)
      refine W.eq (g2 := F0 zm 26 ls []) rfl ?_
      refine zr_iconst zC dX5_year_26 ?_
      refine lv_istore_n (lv' := [(3, .int (zI 0)), (0, .ref (aM Γ)), (1, .int (zI c)), (2, .int (zI y))]) zC.1 zC.2.1 dX5_year_27 rfl hl (by decide) rfl (fun ls hl => ?_)
      refine zr_iconst zC dX5_year_28 ?_
      refine lv_istore (lv' := [(4, .int (zI 0)), (3, .int (zI 0)), (0, .ref (aM Γ)), (1, .int (zI c)), (2, .int (zI y))]) zC.1 zC.2.1 dX5_year_29 hl (by decide) rfl (fun ls hl => ?_)
      have b31 := lenY_r (τ 6 c 0) (τ 6 c 1) y
      have loop31 : ∀ (nf : Nat) (u q : Int) (H : Heap) (locs : List Loc) (ls : Array Slot), (0 ≤ q ∧ q ≤ lenY (τ 6 c 0) (τ 6 c 1) y) → (u = ctI (fun q => dyD (τ 6 c 0) (τ 6 c 1) (τ 6 c 2) (τ 6 c 3) (1000 * y + q) ≠ -1) 0 (q - 0).toNat) → (101 - q < (nf : Int)) → GM Γ A (up (up (up (up σ 20 0 19 (τ 6 c 0)) 20 0 20 (τ 6 c 1)) 20 0 21 (τ 6 c 2)) 20 0 22 (τ 6 c 3)) zs H locs → lv_has ls 5 [(0, .ref (aM Γ)), (1, .int (zI c)), (2, .int (zI y)), (3, .int (zI u)), (4, .int (zI q))] → W zp zl ze { frames := 3, cells := 0, slots := 0, locals := 66 } zs zm args below meth zc H locs 0 0 zQ (F0 zm 31 ls []) := by
        intro nf
        induction nf with
        | zero =>
          intro u q H locs ls hq hu hm31 _ _
          exact absurd hm31 (by omega)
        | succ nf ih31 =>
          intro u q H locs ls hq hu hm31 hG hl
          refine lv_iload zC.1 zC.2.1 dX5_year_31 (lv_at hl 4 rfl) ?_
          refine lv_aload_n zC.1 zC.2.1 dX5_year_33 rfl (lv_at hl 0 rfl) ?_
          refine lv_iload_n zC.1 zC.2.1 dX5_year_34 rfl (lv_at hl 2 rfl) ?_
          have k35 := hI.2.2.2.2.2.2.1 c (by omega) (by omega)
          obtain ⟨k35a, k35b, k35c, k35d⟩ := id k35
          refine zr_callV zC hG (c_X5_yearDays (σ := up (up (up (up σ 20 0 19 (τ 6 c 0)) 20 0 20 (τ 6 c 1)) 20 0 21 (τ 6 c 2)) 20 0 22 (τ 6 c 3)) (y := y) k35 (by first | assumption | omega)) mt_X5_yearDays wl_X5_160 pM rfl rfl ⟨by decide, by decide⟩ rfl hl.1 rfl (Nat.le_of_ble_eq_true rfl) dX5_year_35 ⟨Nat.zero_le _, Nat.zero_le _⟩ (fun H locs hG => ?_)
          refine W.eq (g2 := F0 zm 38 ls [.int (zI (lenY (τ 6 c 0) (τ 6 c 1) y)), .int (zI q)]) rfl ?_
          have b35_0 := lenY_r (τ 6 c 0) (τ 6 c 1) y
          refine zr_icmp_ge (tgt := 72) zC dX5_year_38 (by decide) (by omega) (fun c38 => ?_) (fun c38 => ?_)
          · refine lv_aload_n zC.1 zC.2.1 dX5_year_72 rfl (lv_at hl 0 rfl) ?_
            refine lv_iload_n zC.1 zC.2.1 dX5_year_73 rfl (lv_at hl 3 rfl) ?_
            refine lv_aload_n zC.1 zC.2.1 dX5_year_74 rfl (lv_at hl 0 rfl) ?_
            refine lv_iload_n zC.1 zC.2.1 dX5_year_75 rfl (lv_at hl 2 rfl) ?_
            have k76 := hI.2.2.2.2.2.2.1 c (by omega) (by omega)
            obtain ⟨k76a, k76b, k76c, k76d⟩ := id k76
            refine zr_callV zC hG (c_X5_yearDays (σ := up (up (up (up σ 20 0 19 (τ 6 c 0)) 20 0 20 (τ 6 c 1)) 20 0 21 (τ 6 c 2)) 20 0 22 (τ 6 c 3)) (y := y) k76 (by first | assumption | omega)) mt_X5_yearDays wl_X5_160 pM rfl rfl ⟨by decide, by decide⟩ rfl hl.1 rfl (Nat.le_of_ble_eq_true rfl) dX5_year_76 ⟨Nat.zero_le _, Nat.zero_le _⟩ (fun H locs hG => ?_)
            refine W.eq (g2 := F0 zm 79 ls [.int (zI (lenY (τ 6 c 0) (τ 6 c 1) y)), .int (zI u), .ref (aM Γ)]) rfl ?_
            have b76_0 := lenY_r (τ 6 c 0) (τ 6 c 1) y
            refine zr_callV zC hG (c_X5_ask (σ := up (up (up (up σ 20 0 19 (τ 6 c 0)) 20 0 20 (τ 6 c 1)) 20 0 21 (τ 6 c 2)) 20 0 22 (τ 6 c 3)) (v := u) (w := lenY (τ 6 c 0) (τ 6 c 1) y)) mt_X5_ask wl_X5_86 pM rfl rfl ⟨by decide, by decide⟩ rfl hl.1 rfl (Nat.le_of_ble_eq_true rfl) dX5_year_79 ⟨Nat.zero_le _, Nat.zero_le _⟩ (fun H locs hG => ?_)
            refine W.eq (g2 := F0 zm 82 ls [.int (zI (lenY (τ 6 c 0) (τ 6 c 1) y))]) rfl ?_
            exact zm_iret zC zK hG dX5_year_82 (by unfold rC_year; (repeat' split) <;> first | rfl | omega) (by unfold mC_year; rw [if_neg (by omega), show ctI (fun q => dyD (τ 6 c 0) (τ 6 c 1) (τ 6 c 2) (τ 6 c 3) (1000 * y + q) ≠ -1) 0 (lenY (τ 6 c 0) (τ 6 c 1) y).toNat = u from (by rw [hu]; congr 1; omega)]; exact (rl_ask hR)) (sC_up (sC_up (sC_up (sC_up (sC_up (sC_r _) (by decide)) (by decide)) (by decide)) (by decide)) (by decide))
          · refine lv_iload_n zC.1 zC.2.1 dX5_year_41 rfl (lv_at hl 3 rfl) ?_
            refine lv_aload_n zC.1 zC.2.1 dX5_year_42 rfl (lv_at hl 0 rfl) ?_
            refine zr_sipush zC dX5_year_43 (by decide +kernel) ?_
            refine lv_iload_n zC.1 zC.2.1 dX5_year_46 rfl (lv_at hl 2 rfl) ?_
            refine zr_imul zC dX5_year_47 ?_
            refine lv_iload zC.1 zC.2.1 dX5_year_48 (lv_at hl 4 rfl) ?_
            refine zr_iadd zC dX5_year_50 ?_
            have k51 := hI.2.2.2.2.2.2.1 c (by omega) (by omega)
            obtain ⟨k51a, k51b, k51c, k51d⟩ := id k51
            refine zr_callV zC hG (c_X5_dayOfDate (σ := up (up (up (up σ 20 0 19 (τ 6 c 0)) 20 0 20 (τ 6 c 1)) 20 0 21 (τ 6 c 2)) 20 0 22 (τ 6 c 3)) (t := (1000 * y) + q) k51 (by first | assumption | omega)) mt_X5_dayOfDate wl_X5_163 pM rfl rfl ⟨by decide, by decide⟩ rfl hl.1 rfl (Nat.le_of_ble_eq_true rfl) dX5_year_51 ⟨Nat.zero_le _, Nat.zero_le _⟩ (fun H locs hG => ?_)
            refine W.eq (g2 := F0 zm 54 ls [.int (zI (dyM (dyD (τ 6 c 0) (τ 6 c 1) (τ 6 c 2) (τ 6 c 3) ((1000 * y) + q)))), .int (zI u)]) rfl ?_
            have b51_0 := dyD_r (k := (τ 6 c 0)) (lp := (τ 6 c 1)) (o := (τ 6 c 2)) (g := (τ 6 c 3)) (t := ((1000 * y) + q)) (by omega) (by omega)
            have b51_1 := dyM_s (dyD (τ 6 c 0) (τ 6 c 1) (τ 6 c 2) (τ 6 c 3) ((1000 * y) + q))
            refine zr_bipush zC dX5_year_54 (by decide +kernel) ?_
            refine zr_icmp_ne (tgt := 63) zC dX5_year_56 (by decide) (by omega) (fun c56 => ?_) (fun c56 => ?_)
            · refine zr_iconst zC dX5_year_63 ?_
              refine zr_iadd zC dX5_year_64 ?_
              refine lv_istore_n (lv' := [(3, .int (zI (u + 1))), (0, .ref (aM Γ)), (1, .int (zI c)), (2, .int (zI y)), (4, .int (zI q))]) zC.1 zC.2.1 dX5_year_65 rfl hl (by decide) rfl (fun ls hl => ?_)
              refine zr_iinc (lv' := [(4, .int (zI (q + 1))), (3, .int (zI (u + 1))), (0, .ref (aM Γ)), (1, .int (zI c)), (2, .int (zI y))]) zC dX5_year_66 hl (k := 4) rfl (by decide) rfl (fun ls hl => ?_)
              refine lv_goto (tgt := 31) zC.1 zC.2.1 dX5_year_69 (by decide) ?_
              exact ih31 (u + 1) (q + 1) H locs ls (by first | assumption | omega) (by rw [ctI_s hq.1, ← hu]; unfold zB; split <;> omega) (by omega) hG (lv_sub hl [2, 3, 4, 1, 0] rfl)
            · refine zr_iconst zC dX5_year_59 ?_
              refine lv_goto (tgt := 64) zC.1 zC.2.1 dX5_year_60 (by decide) ?_
              refine zr_iadd zC dX5_year_64 ?_
              refine lv_istore_n (lv' := [(3, .int (zI (u + 0))), (0, .ref (aM Γ)), (1, .int (zI c)), (2, .int (zI y)), (4, .int (zI q))]) zC.1 zC.2.1 dX5_year_65 rfl hl (by decide) rfl (fun ls hl => ?_)
              refine zr_iinc (lv' := [(4, .int (zI (q + 1))), (3, .int (zI (u + 0))), (0, .ref (aM Γ)), (1, .int (zI c)), (2, .int (zI y))]) zC dX5_year_66 hl (k := 4) rfl (by decide) rfl (fun ls hl => ?_)
              refine lv_goto (tgt := 31) zC.1 zC.2.1 dX5_year_69 (by decide) ?_
              exact ih31 (u + 0) (q + 1) H locs ls (by first | assumption | omega) (by rw [ctI_s hq.1, ← hu]; unfold zB; split <;> omega) (by omega) hG (lv_sub hl [2, 3, 4, 1, 0] rfl)
      exact loop31 ((101 - 0 : Int).toNat + 1) 0 0 H locs ls (by first | assumption | omega) rfl (by omega) hG (lv_sub hl [2, 3, 4, 1, 0] rfl)
    · refine zr_iconst zC dX5_year_19 ?_
      exact zm_iret zC zK hG dX5_year_20 (by unfold rC_year; (repeat' split) <;> first | rfl | omega) (by unfold mC_year; (repeat' split) <;> first | exact hR | (exfalso; omega)) (sC_r _)

set_option maxHeartbeats 4000000 in
set_option maxRecDepth 100000 in
theorem c_X5_where {Γ : Gm} {zl : Launch} {A : Nat → Prop} {τ σ : Mm} {d t : Int} (hR : Rel2 τ σ) (hI : IC τ) (hd : -2147483648 ≤ d ∧ d < 2147483648) (ht : -2147483648 ≤ t ∧ t < 2147483648) : Fr Γ zl A yX5_where cX5_where 7 (some .int) 5 106 [.ref (aM Γ), .int (zI d), .int (zI t)] σ (some (.int (zI (rC_where τ d t)))) (mC_where τ d t) := by
  refine Fr_of (by decide) (Nat.le_of_ble_eq_true rfl) ?_
  intro zp ze zs zm args below meth zc zQ H locs ls zC zK hG hl
  have hl : lv_has ls 7 [(0, .ref (aM Γ)), (1, .int (zI d)), (2, .int (zI t))] := hl
  obtain ⟨hmany, htoday, -⟩ := id hI
  refine lv_iload_n zC.1 zC.2.1 dX5_where_0 rfl (lv_at hl 1 rfl) ?_
  refine zr_callS zC hG (c_X5_isDay (σ := σ) (v := d) (by first | assumption | omega)) mt_X5_isDay wl_X5_122 ⟨by decide, by decide⟩ rfl hl.1 rfl (Nat.le_of_ble_eq_true rfl) dX5_where_1 ⟨Nat.zero_le _, Nat.zero_le _⟩ (fun H locs hG => ?_)
  refine W.eq (g2 := F0 zm 4 ls [.int (zI (zB (0 ≤ d ∧ d ≤ 19999)))]) rfl ?_
  refine zr_ifeqB (tgt := 11) zC dX5_where_4 (by decide) (fun c4 => ?_) (fun c4 => ?_)
  · refine zr_iconst zC dX5_where_11 ?_
    exact zm_iret zC zK hG dX5_where_12 (by unfold rC_where; (repeat' split) <;> first | rfl | omega) (by unfold mC_where; (repeat' split) <;> first | exact hR | (exfalso; omega)) (sC_r _)
  · refine lv_iload_n zC.1 zC.2.1 dX5_where_7 rfl (lv_at hl 2 rfl) ?_
    refine zr_if_ge (tgt := 13) zC dX5_where_8 (by decide) (by omega) (fun c8 => ?_) (fun c8 => ?_)
    · refine zr_iconst zC dX5_where_13 ?_
      refine lv_istore_n (lv' := [(3, .int (zI 0)), (0, .ref (aM Γ)), (1, .int (zI d)), (2, .int (zI t))]) zC.1 zC.2.1 dX5_where_14 rfl hl (by decide) rfl (fun ls hl => ?_)
      refine zr_iconst zC dX5_where_15 ?_
      refine lv_istore (lv' := [(4, .int (zI 0)), (3, .int (zI 0)), (0, .ref (aM Γ)), (1, .int (zI d)), (2, .int (zI t))]) zC.1 zC.2.1 dX5_where_16 hl (by decide) rfl (fun ls hl => ?_)
      refine zr_iconst zC dX5_where_18 ?_
      refine lv_istore (lv' := [(5, .int (zI 0)), (4, .int (zI 0)), (3, .int (zI 0)), (0, .ref (aM Γ)), (1, .int (zI d)), (2, .int (zI t))]) zC.1 zC.2.1 dX5_where_19 hl (by decide) rfl (fun ls hl => ?_)
      have loop21 : ∀ (nf : Nat) (u n q : Int) (σ21q : Mm) (H : Heap) (locs : List Loc) (ls : Array Slot), (0 ≤ q ∧ q ≤ τ 0 0 6) → (u = bts (fun z => dtD (τ 6 z 0) (τ 6 z 1) (τ 6 z 2) (τ 6 z 3) d = t) q.toNat) → (n = ctI (fun z => dtD (τ 6 z 0) (τ 6 z 1) (τ 6 z 2) (τ 6 z 3) d = t) 0 (q - 0).toNat) → (Rel2 τ σ21q) → (sC σ σ21q) → (6 - q < (nf : Int)) → GM Γ A σ21q zs H locs → lv_has ls 7 [(0, .ref (aM Γ)), (1, .int (zI d)), (2, .int (zI t)), (3, .int (zI u)), (4, .int (zI n)), (5, .int (zI q))] → W zp zl ze { frames := 5, cells := 0, slots := 0, locals := 106 } zs zm args below meth zc H locs 0 0 zQ (F0 zm 21 ls []) := by
        intro nf
        induction nf with
        | zero =>
          intro u n q σ21q H locs ls hq hu hn hR21q hC21q hm21 _ _
          exact absurd hm21 (by omega)
        | succ nf ih21 =>
          intro u n q σ21q H locs ls hq hu hn hR21q hC21q hm21 hG hl
          have b21 := bts_r (fun z => dtD (τ 6 z 0) (τ 6 z 1) (τ 6 z 2) (τ 6 z 3) d = t) q.toNat
          rw [← hu] at b21
          refine lv_iload zC.1 zC.2.1 dX5_where_21 (lv_at hl 5 rfl) ?_
          refine lv_aload_n zC.1 zC.2.1 dX5_where_23 rfl (lv_at hl 0 rfl) ?_
          refine gf_M_many (v := τ 0 0 6) zC hG wl_X5_116 hR21q.1.2.2.2.2.1 dX5_where_24 ?_
          refine zr_icmp_ge (tgt := 85) zC dX5_where_27 (by decide) (by omega) (fun c27 => ?_) (fun c27 => ?_)
          · refine lv_aload_n zC.1 zC.2.1 dX5_where_85 rfl (lv_at hl 0 rfl) ?_
            refine lv_iload_n zC.1 zC.2.1 dX5_where_86 rfl (lv_at hl 3 rfl) ?_
            refine lv_iload zC.1 zC.2.1 dX5_where_87 (lv_at hl 4 rfl) ?_
            refine zr_callV zC hG (c_X5_ask (σ := σ21q) (v := u) (w := n)) mt_X5_ask wl_X5_86 pM rfl rfl ⟨by decide, by decide⟩ rfl hl.1 rfl (Nat.le_of_ble_eq_true rfl) dX5_where_89 ⟨Nat.zero_le _, Nat.zero_le _⟩ (fun H locs hG => ?_)
            refine W.eq (g2 := F0 zm 92 ls [.int (zI n)]) rfl ?_
            exact zm_iret zC zK hG dX5_where_92 (by unfold rC_where; rw [if_neg (by omega), hn]; congr 1; omega) (by unfold mC_where; rw [if_neg (by omega), show τ 0 0 6 = q by omega, ← hu]; exact (rl_ask hR21q)) (sC_up hC21q (by decide))
          · refine lv_aload_n zC.1 zC.2.1 dX5_where_30 rfl (lv_at hl 0 rfl) ?_
            refine lv_iload zC.1 zC.2.1 dX5_where_31 (lv_at hl 5 rfl) ?_
            refine lv_iload_n zC.1 zC.2.1 dX5_where_33 rfl (lv_at hl 1 rfl) ?_
            refine zr_callV zC hG (c_X5_dateIn (τ := τ) (σ := σ21q) (c := q) (d := d) hR21q hI (by first | assumption | omega) (by first | assumption | omega)) mt_X5_dateIn wl_X5_166 pM rfl rfl ⟨by decide, by decide⟩ rfl hl.1 rfl (Nat.le_of_ble_eq_true rfl) dX5_where_34 ⟨Nat.zero_le _, Nat.zero_le _⟩ (fun H locs hG => ?_)
            refine W.eq (g2 := F0 zm 37 ls [.int (zI (dtD (τ 6 q 0) (τ 6 q 1) (τ 6 q 2) (τ 6 q 3) d))]) rfl ?_
            have b34_0 := dtD_r (k := (τ 6 q 0)) (lp := (τ 6 q 1)) (o := (τ 6 q 2)) (g := (τ 6 q 3)) (d := d) (by omega) (hI.2.2.2.2.2.2.1 q (by omega) (by omega)).2.1 (hI.2.2.2.2.2.2.1 q (by omega) (by omega)).2.2.2
            refine lv_iload_n zC.1 zC.2.1 dX5_where_37 rfl (lv_at hl 2 rfl) ?_
            refine zr_icmp_ne (tgt := 45) zC dX5_where_38 (by decide) (by omega) (fun c38 => ?_) (fun c38 => ?_)
            · refine zr_iconst zC dX5_where_45 ?_
              refine lv_istore (lv' := [(6, .int (zI 0)), (0, .ref (aM Γ)), (1, .int (zI d)), (2, .int (zI t)), (3, .int (zI u)), (4, .int (zI n)), (5, .int (zI q))]) zC.1 zC.2.1 dX5_where_46 hl (by decide) rfl (fun ls hl => ?_)
              refine lv_iload_n zC.1 zC.2.1 dX5_where_48 rfl (lv_at hl 4 rfl) ?_
              refine lv_iload zC.1 zC.2.1 dX5_where_49 (lv_at hl 0 rfl) ?_
              refine zr_if_eq (tgt := 61) zC dX5_where_51 (by decide) (by omega) (fun c51 => ?_) (fun c51 => ?_)
              · refine zr_iconst zC dX5_where_61 ?_
                refine zr_ior0 zC dX5_where_62 ?_
                refine lv_istore_n (lv' := [(3, .int (zI u)), (6, .int (zI 0)), (0, .ref (aM Γ)), (1, .int (zI d)), (2, .int (zI t)), (4, .int (zI n)), (5, .int (zI q))]) zC.1 zC.2.1 dX5_where_63 rfl hl (by decide) rfl (fun ls hl => ?_)
                refine lv_iload zC.1 zC.2.1 dX5_where_64 (lv_at hl 5 rfl) ?_
                refine lv_iload zC.1 zC.2.1 dX5_where_66 (lv_at hl 1 rfl) ?_
                refine zr_if_eq (tgt := 75) zC dX5_where_68 (by decide) (by omega) (fun c68 => ?_) (fun c68 => ?_)
                · refine zr_iconst zC dX5_where_75 ?_
                  refine zr_iadd zC dX5_where_76 ?_
                  refine lv_istore (lv' := [(4, .int (zI (n + 0))), (3, .int (zI u)), (6, .int (zI 0)), (0, .ref (aM Γ)), (1, .int (zI d)), (2, .int (zI t)), (5, .int (zI q))]) zC.1 zC.2.1 dX5_where_77 hl (by decide) rfl (fun ls hl => ?_)
                  refine zr_iinc (lv' := [(5, .int (zI (q + 1))), (4, .int (zI (n + 0))), (3, .int (zI u)), (6, .int (zI 0)), (0, .ref (aM Γ)), (1, .int (zI d)), (2, .int (zI t))]) zC dX5_where_79 hl (k := 6) rfl (by decide) rfl (fun ls hl => ?_)
                  refine lv_goto (tgt := 21) zC.1 zC.2.1 dX5_where_82 (by decide) ?_
                  exact ih21 u (n + 0) (q + 1) (up (up (up (up σ21q 20 0 19 (τ 6 q 0)) 20 0 20 (τ 6 q 1)) 20 0 21 (τ 6 q 2)) 20 0 22 (τ 6 q 3)) H locs ls (by first | assumption | omega) (by rw [bts_s hq.1, ← hu]; split <;> omega) (by rw [ctI_s hq.1, ← hn]; unfold zB; split <;> omega) hR21q (sC_up (sC_up (sC_up (sC_up hC21q (by decide)) (by decide)) (by decide)) (by decide)) (by omega) hG (lv_sub hl [4, 5, 6, 2, 1, 0] rfl)
                · exact absurd c68 (by omega)
              · exact absurd c51 (by omega)
            · refine zr_iconst zC dX5_where_41 ?_
              refine lv_goto (tgt := 46) zC.1 zC.2.1 dX5_where_42 (by decide) ?_
              refine lv_istore (lv' := [(6, .int (zI 1)), (0, .ref (aM Γ)), (1, .int (zI d)), (2, .int (zI t)), (3, .int (zI u)), (4, .int (zI n)), (5, .int (zI q))]) zC.1 zC.2.1 dX5_where_46 hl (by decide) rfl (fun ls hl => ?_)
              refine lv_iload_n zC.1 zC.2.1 dX5_where_48 rfl (lv_at hl 4 rfl) ?_
              refine lv_iload zC.1 zC.2.1 dX5_where_49 (lv_at hl 0 rfl) ?_
              refine zr_if_eq (tgt := 61) zC dX5_where_51 (by decide) (by omega) (fun c51 => ?_) (fun c51 => ?_)
              · exact absurd c51 (by omega)
              · refine zr_iconst zC dX5_where_54 ?_
                refine lv_iload zC.1 zC.2.1 dX5_where_55 (lv_at hl 6 rfl) ?_
                refine zr_shl1 zC dX5_where_57 (by omega) ?_
                refine lv_goto (tgt := 62) zC.1 zC.2.1 dX5_where_58 (by decide) ?_
                refine zr_ior zC dX5_where_62 b21 (by omega) ?_
                refine lv_istore_n (lv' := [(3, .int (zI (u + 2 ^ q.toNat))), (6, .int (zI 1)), (0, .ref (aM Γ)), (1, .int (zI d)), (2, .int (zI t)), (4, .int (zI n)), (5, .int (zI q))]) zC.1 zC.2.1 dX5_where_63 rfl hl (by decide) rfl (fun ls hl => ?_)
                refine lv_iload zC.1 zC.2.1 dX5_where_64 (lv_at hl 5 rfl) ?_
                refine lv_iload zC.1 zC.2.1 dX5_where_66 (lv_at hl 1 rfl) ?_
                refine zr_if_eq (tgt := 75) zC dX5_where_68 (by decide) (by omega) (fun c68 => ?_) (fun c68 => ?_)
                · exact absurd c68 (by omega)
                · refine zr_iconst zC dX5_where_71 ?_
                  refine lv_goto (tgt := 76) zC.1 zC.2.1 dX5_where_72 (by decide) ?_
                  refine zr_iadd zC dX5_where_76 ?_
                  refine lv_istore (lv' := [(4, .int (zI (n + 1))), (3, .int (zI (u + 2 ^ q.toNat))), (6, .int (zI 1)), (0, .ref (aM Γ)), (1, .int (zI d)), (2, .int (zI t)), (5, .int (zI q))]) zC.1 zC.2.1 dX5_where_77 hl (by decide) rfl (fun ls hl => ?_)
                  refine zr_iinc (lv' := [(5, .int (zI (q + 1))), (4, .int (zI (n + 1))), (3, .int (zI (u + 2 ^ q.toNat))), (6, .int (zI 1)), (0, .ref (aM Γ)), (1, .int (zI d)), (2, .int (zI t))]) zC dX5_where_79 hl (k := 6) rfl (by decide) rfl (fun ls hl => ?_)
                  refine lv_goto (tgt := 21) zC.1 zC.2.1 dX5_where_82 (by decide) ?_
                  exact ih21 (u + 2 ^ q.toNat) (n + 1) (q + 1) (up (up (up (up σ21q 20 0 19 (τ 6 q 0)) 20 0 20 (τ 6 q 1)) 20 0 21 (τ 6 q 2)) 20 0 22 (τ 6 q 3)) H locs ls (by first | assumption | omega) (by rw [bts_s hq.1, ← hu]; split <;> omega) (by rw [ctI_s hq.1, ← hn]; unfold zB; split <;> omega) hR21q (sC_up (sC_up (sC_up (sC_up hC21q (by decide)) (by decide)) (by decide)) (by decide)) (by omega) hG (lv_sub hl [4, 5, 6, 2, 1, 0] rfl)
      exact loop21 ((6 - 0 : Int).toNat + 1) 0 0 0 σ H locs ls (by first | assumption | omega) rfl rfl hR (sC_r _) (by omega) hG (lv_sub hl [3, 4, 5, 2, 1, 0] rfl)
    · refine zr_iconst zC dX5_where_11 ?_
      exact zm_iret zC zK hG dX5_where_12 (by unfold rC_where; (repeat' split) <;> first | rfl | omega) (by unfold mC_where; (repeat' split) <;> first | exact hR | (exfalso; omega)) (sC_r _)

set_option maxHeartbeats 4000000 in
set_option maxRecDepth 100000 in
theorem c_X5_ageOf {Γ : Gm} {zl : Launch} {A : Nat → Prop} {σ : Mm} {t td : Int} (hm : CalM σ) (ht : 0 ≤ t ∧ t ≤ 250000) (htd : σ 20 0 11 = td) (htd2 : 0 ≤ td ∧ td ≤ 19999) : Fn Γ zl A yX5_ageOf cX5_ageOf 5 (some .int) 3 66 [.ref (aM Γ), .int (zI t)] σ (some (.int (zI (tmA (σ 20 0 19) (σ 20 0 20) (σ 20 0 21) (σ 20 0 22) t td)))) σ := by
  refine Fn_of (by decide) (Nat.le_of_ble_eq_true rfl) ?_
  intro zp ze zs zm args below meth zc zQ H locs ls zC zK hG hl
  have hl : lv_has ls 5 [(0, .ref (aM Γ)), (1, .int (zI t))] := hl
  obtain ⟨hk, hlp, hod, hgp⟩ := id hm
  refine zr_iconst zC dX5_ageOf_0 ?_
  refine lv_istore_n (lv' := [(2, .int (zI 0)), (0, .ref (aM Γ)), (1, .int (zI t))]) zC.1 zC.2.1 dX5_ageOf_1 rfl hl (by decide) rfl (fun ls hl => ?_)
  refine lv_iload_n zC.1 zC.2.1 dX5_ageOf_2 rfl (lv_at hl 2 rfl) ?_
  refine zr_sipush zC dX5_ageOf_3 (by decide +kernel) ?_
  refine zr_iadd zC dX5_ageOf_6 ?_
  refine lv_istore_n (lv' := [(3, .int (zI (t + 1000))), (2, .int (zI 0)), (0, .ref (aM Γ)), (1, .int (zI t))]) zC.1 zC.2.1 dX5_ageOf_7 rfl hl (by decide) rfl (fun ls hl => ?_)
  have loop8 : ∀ (nf : Nat) (u w : Int) (H : Heap) (locs : List Loc) (ls : Array Slot), (t + 1000 ≤ w ∧ w < 261000 ∧ w % 1000 = t % 1000) → (u = ctI (agP (σ 20 0 19) (σ 20 0 20) (σ 20 0 21) (σ 20 0 22) (t % 1000) td) (t / 1000 + 1) (w / 1000 - (t / 1000 + 1)).toNat) → (261000 - w < (nf : Int)) → GM Γ A σ zs H locs → lv_has ls 5 [(0, .ref (aM Γ)), (1, .int (zI t)), (2, .int (zI u)), (3, .int (zI w))] → W zp zl ze { frames := 3, cells := 0, slots := 0, locals := 66 } zs zm args below meth zc H locs 0 0 zQ (F0 zm 8 ls []) := by
    intro nf
    induction nf with
    | zero =>
      intro u w H locs ls hw hu hm8 _ _
      exact absurd hm8 (by omega)
    | succ nf ih8 =>
      intro u w H locs ls hw hu hm8 hG hl
      have b8 : 1000 * (w / 1000) + t % 1000 = w := by omega
      refine lv_iload_n zC.1 zC.2.1 dX5_ageOf_8 rfl (lv_at hl 3 rfl) ?_
      refine zr_ldc (z := 260000) zC wl_X5_194 (by decide +kernel) dX5_ageOf_9 ?_
      refine zr_icmp_ge (tgt := 54) zC dX5_ageOf_11 (by decide) (by omega) (fun c11 => ?_) (fun c11 => ?_)
      · refine lv_iload_n zC.1 zC.2.1 dX5_ageOf_54 rfl (lv_at hl 2 rfl) ?_
        exact zr_iret zC zK hG dX5_ageOf_55 (by rw [hu, show w / 1000 = 260 by omega]; exact (tmA_m (by omega) (by omega) (by omega) (by omega)).symm) rfl
      · refine lv_aload_n zC.1 zC.2.1 dX5_ageOf_14 rfl (lv_at hl 0 rfl) ?_
        refine lv_iload_n zC.1 zC.2.1 dX5_ageOf_15 rfl (lv_at hl 3 rfl) ?_
        refine zr_callV zC hG (c_X5_dayOfDate (σ := σ) (t := w) (by first | assumption | omega) (by first | assumption | omega)) mt_X5_dayOfDate wl_X5_163 pM rfl rfl ⟨by decide, by decide⟩ rfl hl.1 rfl (Nat.le_of_ble_eq_true rfl) dX5_ageOf_16 ⟨Nat.zero_le _, Nat.zero_le _⟩ (fun H locs hG => ?_)
        refine W.eq (g2 := F0 zm 19 ls [.int (zI (dyM (dyD (σ 20 0 19) (σ 20 0 20) (σ 20 0 21) (σ 20 0 22) w)))]) rfl ?_
        have b16_0 := dyD_r (k := (σ 20 0 19)) (lp := (σ 20 0 20)) (o := (σ 20 0 21)) (g := (σ 20 0 22)) (t := w) (by omega) (by omega)
        have b16_1 := dyM_s (dyD (σ 20 0 19) (σ 20 0 20) (σ 20 0 21) (σ 20 0 22) w)
        refine lv_istore (lv' := [(4, .int (zI (dyM (dyD (σ 20 0 19) (σ 20 0 20) (σ 20 0 21) (σ 20 0 22) w)))), (0, .ref (aM Γ)), (1, .int (zI t)), (2, .int (zI u)), (3, .int (zI w))]) zC.1 zC.2.1 dX5_ageOf_19 hl (by decide) rfl (fun ls hl => ?_)
        refine lv_iload_n zC.1 zC.2.1 dX5_ageOf_21 rfl (lv_at hl 3 rfl) ?_
        refine lv_iload zC.1 zC.2.1 dX5_ageOf_22 (lv_at hl 0 rfl) ?_
        refine zr_bipush zC dX5_ageOf_24 (by decide +kernel) ?_
        refine zr_icmp_eq (tgt := 42) zC dX5_ageOf_26 (by decide) (by omega) (fun c26 => ?_) (fun c26 => ?_)
        · refine zr_iconst zC dX5_ageOf_42 ?_
          refine zr_iadd zC dX5_ageOf_43 ?_
          refine lv_istore_n (lv' := [(2, .int (zI (u + 0))), (4, .int (zI (dyM (dyD (σ 20 0 19) (σ 20 0 20) (σ 20 0 21) (σ 20 0 22) w)))), (0, .ref (aM Γ)), (1, .int (zI t)), (3, .int (zI w))]) zC.1 zC.2.1 dX5_ageOf_44 rfl hl (by decide) rfl (fun ls hl => ?_)
          refine zr_iincW (lv' := [(3, .int (zI (w + 1000))), (2, .int (zI (u + 0))), (4, .int (zI (dyM (dyD (σ 20 0 19) (σ 20 0 20) (σ 20 0 21) (σ 20 0 22) w)))), (0, .ref (aM Γ)), (1, .int (zI t))]) zC dX5_ageOf_45 hl (k := 4) rfl (by decide) rfl (fun ls hl => ?_)
          refine lv_goto (tgt := 8) zC.1 zC.2.1 dX5_ageOf_51 (by decide) ?_
          exact ih8 (u + 0) (w + 1000) H locs ls (by first | assumption | omega) (by rw [show (w + 1000) / 1000 = w / 1000 + 1 by omega, ctI_s (by omega), ← hu]; unfold zB agP; rw [b8]; split <;> omega) (by omega) hG (lv_sub hl [3, 4, 1, 0] rfl)
        · refine lv_iload zC.1 zC.2.1 dX5_ageOf_29 (lv_at hl 0 rfl) ?_
          refine lv_aload_n zC.1 zC.2.1 dX5_ageOf_31 rfl (lv_at hl 1 rfl) ?_
          refine gf_M_today (v := td) zC hG wl_X5_119 htd dX5_ageOf_32 ?_
          refine zr_icmp_gt (tgt := 42) zC dX5_ageOf_35 (by decide) (by omega) (fun c35 => ?_) (fun c35 => ?_)
          · refine zr_iconst zC dX5_ageOf_42 ?_
            refine zr_iadd zC dX5_ageOf_43 ?_
            refine lv_istore_n (lv' := [(2, .int (zI (u + 0))), (4, .int (zI (dyM (dyD (σ 20 0 19) (σ 20 0 20) (σ 20 0 21) (σ 20 0 22) w)))), (0, .ref (aM Γ)), (1, .int (zI t)), (3, .int (zI w))]) zC.1 zC.2.1 dX5_ageOf_44 rfl hl (by decide) rfl (fun ls hl => ?_)
            refine zr_iincW (lv' := [(3, .int (zI (w + 1000))), (2, .int (zI (u + 0))), (4, .int (zI (dyM (dyD (σ 20 0 19) (σ 20 0 20) (σ 20 0 21) (σ 20 0 22) w)))), (0, .ref (aM Γ)), (1, .int (zI t))]) zC dX5_ageOf_45 hl (k := 4) rfl (by decide) rfl (fun ls hl => ?_)
            refine lv_goto (tgt := 8) zC.1 zC.2.1 dX5_ageOf_51 (by decide) ?_
            exact ih8 (u + 0) (w + 1000) H locs ls (by first | assumption | omega) (by rw [show (w + 1000) / 1000 = w / 1000 + 1 by omega, ctI_s (by omega), ← hu]; unfold zB agP; rw [b8]; split <;> omega) (by omega) hG (lv_sub hl [3, 4, 1, 0] rfl)
          · refine zr_iconst zC dX5_ageOf_38 ?_
            refine lv_goto (tgt := 43) zC.1 zC.2.1 dX5_ageOf_39 (by decide) ?_
            refine zr_iadd zC dX5_ageOf_43 ?_
            refine lv_istore_n (lv' := [(2, .int (zI (u + 1))), (4, .int (zI (dyM (dyD (σ 20 0 19) (σ 20 0 20) (σ 20 0 21) (σ 20 0 22) w)))), (0, .ref (aM Γ)), (1, .int (zI t)), (3, .int (zI w))]) zC.1 zC.2.1 dX5_ageOf_44 rfl hl (by decide) rfl (fun ls hl => ?_)
            refine zr_iincW (lv' := [(3, .int (zI (w + 1000))), (2, .int (zI (u + 1))), (4, .int (zI (dyM (dyD (σ 20 0 19) (σ 20 0 20) (σ 20 0 21) (σ 20 0 22) w)))), (0, .ref (aM Γ)), (1, .int (zI t))]) zC dX5_ageOf_45 hl (k := 4) rfl (by decide) rfl (fun ls hl => ?_)
            refine lv_goto (tgt := 8) zC.1 zC.2.1 dX5_ageOf_51 (by decide) ?_
            exact ih8 (u + 1) (w + 1000) H locs ls (by first | assumption | omega) (by rw [show (w + 1000) / 1000 = w / 1000 + 1 by omega, ctI_s (by omega), ← hu]; unfold zB agP; rw [b8]; split <;> omega) (by omega) hG (lv_sub hl [3, 4, 1, 0] rfl)
  exact loop8 ((261000 - (t + 1000) : Int).toNat + 1) 0 (t + 1000) H locs ls (by first | assumption | omega) (by rw [show ((t + 1000) / 1000 - (t / 1000 + 1)).toNat = 0 by omega]; rfl) (by omega) hG (lv_sub hl [2, 3, 1, 0] rfl)

set_option maxHeartbeats 4000000 in
set_option maxRecDepth 100000 in
theorem c_X5_age {Γ : Gm} {zl : Launch} {A : Nat → Prop} {τ σ : Mm} {c t : Int} (hR : Rel2 τ σ) (hI : IC τ) (hc : -2147483648 ≤ c ∧ c < 2147483648) (ht : -2147483648 ≤ t ∧ t < 2147483648) : Fr Γ zl A yX5_age cX5_age 4 (some .int) 4 90 [.ref (aM Γ), .int (zI c), .int (zI t)] σ (some (.int (zI (rC_age τ c t)))) (mC_age τ c t) := by
  refine Fr_of (by decide) (Nat.le_of_ble_eq_true rfl) ?_
  intro zp ze zs zm args below meth zc zQ H locs ls zC zK hG hl
  have hl : lv_has ls 4 [(0, .ref (aM Γ)), (1, .int (zI c)), (2, .int (zI t))] := hl
  obtain ⟨hmany, htoday, -⟩ := id hI
  refine lv_aload_n zC.1 zC.2.1 dX5_age_0 rfl (lv_at hl 0 rfl) ?_
  refine lv_iload_n zC.1 zC.2.1 dX5_age_1 rfl (lv_at hl 1 rfl) ?_
  refine zr_callV zC hG (c_X5_isTown (τ := τ) (σ := σ) (c := c) hR hI (by first | assumption | omega)) mt_X5_isTown wl_X5_169 pM rfl rfl ⟨by decide, by decide⟩ rfl hl.1 rfl (Nat.le_of_ble_eq_true rfl) dX5_age_2 ⟨Nat.zero_le _, Nat.zero_le _⟩ (fun H locs hG => ?_)
  refine W.eq (g2 := F0 zm 5 ls [.int (zI (zB (isT τ c)))]) rfl ?_
  refine zr_ifeqB (tgt := 12) zC dX5_age_5 (by decide) (fun c5 => ?_) (fun c5 => ?_)
  · refine zr_iconst zC dX5_age_12 ?_
    exact zm_iret zC zK hG dX5_age_13 (by unfold rC_age; (repeat' split) <;> first | rfl | omega) (by unfold mC_age; (repeat' split) <;> first | exact hR | (exfalso; omega)) (sC_r _)
  · refine lv_iload_n zC.1 zC.2.1 dX5_age_8 rfl (lv_at hl 2 rfl) ?_
    refine zr_if_ge (tgt := 14) zC dX5_age_9 (by decide) (by omega) (fun c9 => ?_) (fun c9 => ?_)
    · refine lv_aload_n zC.1 zC.2.1 dX5_age_14 rfl (lv_at hl 0 rfl) ?_
      refine lv_iload_n zC.1 zC.2.1 dX5_age_15 rfl (lv_at hl 1 rfl) ?_
      refine lv_iload_n zC.1 zC.2.1 dX5_age_16 rfl (lv_at hl 2 rfl) ?_
      refine zr_callV zC hG (c_X5_dayIn (τ := τ) (σ := σ) (c := c) (t := t) hR hI (by first | assumption | omega) (by first | assumption | omega)) mt_X5_dayIn wl_X5_185 pM rfl rfl ⟨by decide, by decide⟩ rfl hl.1 rfl (Nat.le_of_ble_eq_true rfl) dX5_age_17 ⟨Nat.zero_le _, Nat.zero_le _⟩ (fun H locs hG => ?_)
      refine W.eq (g2 := F0 zm 20 ls [.int (zI (dyM (dyD (τ 6 c 0) (τ 6 c 1) (τ 6 c 2) (τ 6 c 3) t)))]) rfl ?_
      have b17_0 := dyD_r (k := (τ 6 c 0)) (lp := (τ 6 c 1)) (o := (τ 6 c 2)) (g := (τ 6 c 3)) (t := t) (hI.2.2.2.2.2.2.1 c (by omega) (by omega)).2.1 (hI.2.2.2.2.2.2.1 c (by omega) (by omega)).2.2.1.1
      have b17_1 := dyM_s (dyD (τ 6 c 0) (τ 6 c 1) (τ 6 c 2) (τ 6 c 3) t)
      refine lv_istore_n (lv' := [(3, .int (zI (dyM (dyD (τ 6 c 0) (τ 6 c 1) (τ 6 c 2) (τ 6 c 3) t)))), (0, .ref (aM Γ)), (1, .int (zI c)), (2, .int (zI t))]) zC.1 zC.2.1 dX5_age_20 rfl hl (by decide) rfl (fun ls hl => ?_)
      refine lv_iload_n zC.1 zC.2.1 dX5_age_21 rfl (lv_at hl 0 rfl) ?_
      refine zr_bipush zC dX5_age_22 (by decide +kernel) ?_
      refine zr_icmp_ne (tgt := 33) zC dX5_age_24 (by decide) (by omega) (fun c24 => ?_) (fun c24 => ?_)
      · obtain ⟨kca, kcb, kcc, kcd⟩ := hI.2.2.2.2.2.2.1 c (by omega) (by omega)
        have h24 := dyD_lt (t := t) (k := τ 6 c 0) (o := τ 6 c 2) kcb kcd (by omega)
        refine lv_iload_n zC.1 zC.2.1 dX5_age_33 rfl (lv_at hl 0 rfl) ?_
        refine lv_aload_n zC.1 zC.2.1 dX5_age_34 rfl (lv_at hl 1 rfl) ?_
        refine gf_M_today (v := τ 0 0 7) zC hG wl_X5_119 hR.1.2.2.2.2.2 dX5_age_35 ?_
        refine zr_icmp_le (tgt := 46) zC dX5_age_38 (by decide) (by omega) (fun c38 => ?_) (fun c38 => ?_)
        · refine lv_aload_n zC.1 zC.2.1 dX5_age_46 rfl (lv_at hl 1 rfl) ?_
          refine lv_iload_n zC.1 zC.2.1 dX5_age_47 rfl (lv_at hl 3 rfl) ?_
          have k48 := hI.2.2.2.2.2.2.1 c (by omega) (by omega)
          obtain ⟨k48a, k48b, k48c, k48d⟩ := id k48
          refine zr_callV zC hG (c_X5_ageOf (σ := up (up (up (up σ 20 0 19 (τ 6 c 0)) 20 0 20 (τ 6 c 1)) 20 0 21 (τ 6 c 2)) 20 0 22 (τ 6 c 3)) (t := t) (td := τ 0 0 7) k48 (by first | assumption | omega) hR.1.2.2.2.2.2 (by first | assumption | omega)) mt_X5_ageOf wl_X5_195 pM rfl rfl ⟨by decide, by decide⟩ rfl hl.1 rfl (Nat.le_of_ble_eq_true rfl) dX5_age_48 ⟨Nat.zero_le _, Nat.zero_le _⟩ (fun H locs hG => ?_)
          refine W.eq (g2 := F0 zm 51 ls [.int (zI (tmA (τ 6 c 0) (τ 6 c 1) (τ 6 c 2) (τ 6 c 3) t (τ 0 0 7)))]) rfl ?_
          have b48_0 := tmA_r (k := (τ 6 c 0)) (lp := (τ 6 c 1)) (o := (τ 6 c 2)) (g := (τ 6 c 3)) (t := t) (td := (τ 0 0 7)) (by omega) (by omega) (by omega) (by omega)
          exact zm_iret zC zK hG dX5_age_51 (by unfold rC_age; (repeat' split) <;> first | rfl | omega) (by unfold mC_age; (repeat' split) <;> first | exact hR | (exfalso; omega)) (sC_up (sC_up (sC_up (sC_up (sC_r _) (by decide)) (by decide)) (by decide)) (by decide))
        · refine zr_bipush zC dX5_age_41 (by decide +kernel) ?_
          refine lv_goto (tgt := 51) zC.1 zC.2.1 dX5_age_43 (by decide) ?_
          exact zm_iret zC zK hG dX5_age_51 (by unfold rC_age; (repeat' split) <;> first | rfl | omega) (by unfold mC_age; (repeat' split) <;> first | exact hR | (exfalso; omega)) (sC_up (sC_up (sC_up (sC_up (sC_r _) (by decide)) (by decide)) (by decide)) (by decide))
      · refine lv_aload_n zC.1 zC.2.1 dX5_age_27 rfl (lv_at hl 1 rfl) ?_
        refine zr_iconst zC dX5_age_28 ?_
        refine zr_callV zC hG (c_X5_meet (σ := up (up (up (up σ 20 0 19 (τ 6 c 0)) 20 0 20 (τ 6 c 1)) 20 0 21 (τ 6 c 2)) 20 0 22 (τ 6 c 3)) (f := 4) (by first | assumption | omega)) mt_X5_meet wl_X5_68 pM rfl rfl ⟨by decide, by decide⟩ rfl hl.1 rfl (Nat.le_of_ble_eq_true rfl) dX5_age_29 ⟨Nat.zero_le _, Nat.zero_le _⟩ (fun H locs hG => ?_)
        refine W.eq (g2 := F0 zm 32 ls [.int (zI (-3))]) rfl ?_
        exact zm_iret zC zK hG dX5_age_32 (by unfold rC_age; (repeat' split) <;> first | rfl | omega) (by unfold mC_age; (repeat' split) <;> first | exact (rl_fd hR (by omega)) | (exfalso; omega)) (sC_up (sC_up (sC_up (sC_up (sC_up (sC_up (sC_r _) (by decide)) (by decide)) (by decide)) (by decide)) (by decide)) (by decide))
    · refine zr_iconst zC dX5_age_12 ?_
      exact zm_iret zC zK hG dX5_age_13 (by unfold rC_age; (repeat' split) <;> first | rfl | omega) (by unfold mC_age; (repeat' split) <;> first | exact hR | (exfalso; omega)) (sC_r _)

set_option maxHeartbeats 4000000 in
set_option maxRecDepth 100000 in
theorem c_X5_eldest {Γ : Gm} {zl : Launch} {A : Nat → Prop} {τ σ : Mm} {d : Int} (hR : Rel2 τ σ) (hI : IC τ) (hd : -2147483648 ≤ d ∧ d < 2147483648) : Fr Γ zl A yX5_eldest cX5_eldest 6 (some .int) 5 106 [.ref (aM Γ), .int (zI d)] σ (some (.int (zI (rC_eldest τ d)))) (mC_eldest τ d) := by
  refine Fr_of (by decide) (Nat.le_of_ble_eq_true rfl) ?_
  intro zp ze zs zm args below meth zc zQ H locs ls zC zK hG hl
  have hl : lv_has ls 6 [(0, .ref (aM Γ)), (1, .int (zI d))] := hl
  obtain ⟨hmany, htoday, -⟩ := id hI
  refine lv_iload_n zC.1 zC.2.1 dX5_eldest_0 rfl (lv_at hl 1 rfl) ?_
  refine zr_iconst zC dX5_eldest_1 ?_
  refine lv_aload_n zC.1 zC.2.1 dX5_eldest_2 rfl (lv_at hl 0 rfl) ?_
  refine gf_M_today (v := τ 0 0 7) zC hG wl_X5_119 hR.1.2.2.2.2.2 dX5_eldest_3 ?_
  refine zr_callS zC hG (c_X5_in (σ := σ) (v := d) (a := 0) (b := τ 0 0 7) (by first | assumption | omega) (by first | assumption | omega) (by first | assumption | omega)) mt_X5_in wl_X5_60 ⟨by decide, by decide⟩ rfl hl.1 rfl (Nat.le_of_ble_eq_true rfl) dX5_eldest_6 ⟨Nat.zero_le _, Nat.zero_le _⟩ (fun H locs hG => ?_)
  refine W.eq (g2 := F0 zm 9 ls [.int (zI (zB (0 ≤ d ∧ d ≤ (τ 0 0 7))))]) rfl ?_
  refine zr_ifneB (tgt := 14) zC dX5_eldest_9 (by decide) (fun c9 => ?_) (fun c9 => ?_)
  · refine zr_bipush zC dX5_eldest_14 (by decide +kernel) ?_
    refine lv_istore_n (lv' := [(2, .int (zI (-9))), (0, .ref (aM Γ)), (1, .int (zI d))]) zC.1 zC.2.1 dX5_eldest_16 rfl hl (by decide) rfl (fun ls hl => ?_)
    refine zr_iconst zC dX5_eldest_17 ?_
    refine lv_istore_n (lv' := [(3, .int (zI (-1))), (2, .int (zI (-9))), (0, .ref (aM Γ)), (1, .int (zI d))]) zC.1 zC.2.1 dX5_eldest_18 rfl hl (by decide) rfl (fun ls hl => ?_)
    refine zr_iconst zC dX5_eldest_19 ?_
    refine lv_istore (lv' := [(4, .int (zI 0)), (3, .int (zI (-1))), (2, .int (zI (-9))), (0, .ref (aM Γ)), (1, .int (zI d))]) zC.1 zC.2.1 dX5_eldest_20 hl (by decide) rfl (fun ls hl => ?_)
    have loop22 : ∀ (nf : Nat) (bs u q : Int) (σ22q : Mm) (H : Heap) (locs : List Loc) (ls : Array Slot), (0 ≤ q ∧ q ≤ τ 0 0 6) → (u = mxI (fun z => tmA (τ 6 z 0) (τ 6 z 1) (τ 6 z 2) (τ 6 z 3) (dtD (τ 6 z 0) (τ 6 z 1) (τ 6 z 2) (τ 6 z 3) d) (τ 0 0 7)) 0 (q - 0).toNat) → (bs = bsI (fun z => tmA (τ 6 z 0) (τ 6 z 1) (τ 6 z 2) (τ 6 z 3) (dtD (τ 6 z 0) (τ 6 z 1) (τ 6 z 2) (τ 6 z 3) d) (τ 0 0 7)) 0 (-9) (q - 0).toNat) → (Rel2 τ σ22q) → (sC σ σ22q) → (6 - q < (nf : Int)) → GM Γ A σ22q zs H locs → lv_has ls 6 [(0, .ref (aM Γ)), (1, .int (zI d)), (2, .int (zI bs)), (3, .int (zI u)), (4, .int (zI q))] → W zp zl ze { frames := 5, cells := 0, slots := 0, locals := 106 } zs zm args below meth zc H locs 0 0 zQ (F0 zm 22 ls []) := by
      intro nf
      induction nf with
      | zero =>
        intro bs u q σ22q H locs ls hq hu hb hR22q hC22q hm22 _ _
        exact absurd hm22 (by omega)
      | succ nf ih22 =>
        intro bs u q σ22q H locs ls hq hu hb hR22q hC22q hm22 hG hl
        have b22 := mxI_b (f := (fun z => tmA (τ 6 z 0) (τ 6 z 1) (τ 6 z 2) (τ 6 z 3) (dtD (τ 6 z 0) (τ 6 z 1) (τ 6 z 2) (τ 6 z 3) d) (τ 0 0 7))) (a := 0) (m := 300) (n := (q - 0).toNat) (by omega) (fun z h1 h2 => by obtain ⟨g1, g2, g3, g4⟩ := hI.2.2.2.2.2.2.1 z h1 (by omega); exact (tmA_r g2 g4 (dtD_r (by omega) g2 g4).1 (by omega)).2)
        rw [← hu] at b22
        have b22b := bsI_b (f := (fun z => tmA (τ 6 z 0) (τ 6 z 1) (τ 6 z 2) (τ 6 z 3) (dtD (τ 6 z 0) (τ 6 z 1) (τ 6 z 2) (τ 6 z 3) d) (τ 0 0 7))) (a := 0) (b := -9) (m := 6) (n := (q - 0).toNat) (by omega) (by omega) (by omega) (by omega)
        rw [← hb] at b22b
        refine lv_iload zC.1 zC.2.1 dX5_eldest_22 (lv_at hl 4 rfl) ?_
        refine lv_aload_n zC.1 zC.2.1 dX5_eldest_24 rfl (lv_at hl 0 rfl) ?_
        refine gf_M_many (v := τ 0 0 6) zC hG wl_X5_116 hR22q.1.2.2.2.2.1 dX5_eldest_25 ?_
        refine zr_icmp_ge (tgt := 70) zC dX5_eldest_28 (by decide) (by omega) (fun c28 => ?_) (fun c28 => ?_)
        · refine lv_iload_n zC.1 zC.2.1 dX5_eldest_70 rfl (lv_at hl 2 rfl) ?_
          refine zr_bipush zC dX5_eldest_71 (by decide +kernel) ?_
          refine zr_icmp_ne (tgt := 81) zC dX5_eldest_73 (by decide) (by omega) (fun c73 => ?_) (fun c73 => ?_)
          · refine lv_aload_n zC.1 zC.2.1 dX5_eldest_81 rfl (lv_at hl 0 rfl) ?_
            refine lv_iload_n zC.1 zC.2.1 dX5_eldest_82 rfl (lv_at hl 3 rfl) ?_
            refine lv_iload_n zC.1 zC.2.1 dX5_eldest_83 rfl (lv_at hl 2 rfl) ?_
            refine zr_callV zC hG (c_X5_ask (σ := σ22q) (v := u) (w := bs)) mt_X5_ask wl_X5_86 pM rfl rfl ⟨by decide, by decide⟩ rfl hl.1 rfl (Nat.le_of_ble_eq_true rfl) dX5_eldest_84 ⟨Nat.zero_le _, Nat.zero_le _⟩ (fun H locs hG => ?_)
            refine W.eq (g2 := F0 zm 87 ls [.int (zI bs)]) rfl ?_
            exact zm_iret zC zK hG dX5_eldest_87 (by unfold rC_eldest; rw [if_neg (by omega), show bsI (fun z => tmA (τ 6 z 0) (τ 6 z 1) (τ 6 z 2) (τ 6 z 3) (dtD (τ 6 z 0) (τ 6 z 1) (τ 6 z 2) (τ 6 z 3) d) (τ 0 0 7)) 0 (-9) (τ 0 0 6).toNat = bs from (by rw [hb]; congr 1; omega)] <;> omega) (by unfold mC_eldest; rw [if_neg (by omega), show bsI (fun z => tmA (τ 6 z 0) (τ 6 z 1) (τ 6 z 2) (τ 6 z 3) (dtD (τ 6 z 0) (τ 6 z 1) (τ 6 z 2) (τ 6 z 3) d) (τ 0 0 7)) 0 (-9) (τ 0 0 6).toNat = bs from (by rw [hb]; congr 1; omega)]; first | (rw [if_pos (by omega)]; exact (rl_ask hR22q)) | (rw [if_neg (by omega), show mxI (fun z => tmA (τ 6 z 0) (τ 6 z 1) (τ 6 z 2) (τ 6 z 3) (dtD (τ 6 z 0) (τ 6 z 1) (τ 6 z 2) (τ 6 z 3) d) (τ 0 0 7)) 0 (τ 0 0 6).toNat = u from (by rw [hu]; congr 1; omega)]; exact (rl_ask hR22q))) (sC_up hC22q (by decide))
          · refine zr_bipush zC dX5_eldest_76 (by decide +kernel) ?_
            refine lv_goto (tgt := 87) zC.1 zC.2.1 dX5_eldest_78 (by decide) ?_
            exact zm_iret zC zK hG dX5_eldest_87 (by unfold rC_eldest; rw [if_neg (by omega), show bsI (fun z => tmA (τ 6 z 0) (τ 6 z 1) (τ 6 z 2) (τ 6 z 3) (dtD (τ 6 z 0) (τ 6 z 1) (τ 6 z 2) (τ 6 z 3) d) (τ 0 0 7)) 0 (-9) (τ 0 0 6).toNat = bs from (by rw [hb]; congr 1; omega)] <;> omega) (by unfold mC_eldest; rw [if_neg (by omega), show bsI (fun z => tmA (τ 6 z 0) (τ 6 z 1) (τ 6 z 2) (τ 6 z 3) (dtD (τ 6 z 0) (τ 6 z 1) (τ 6 z 2) (τ 6 z 3) d) (τ 0 0 7)) 0 (-9) (τ 0 0 6).toNat = bs from (by rw [hb]; congr 1; omega)]; first | (rw [if_pos (by omega)]; exact hR22q) | (rw [if_neg (by omega), show mxI (fun z => tmA (τ 6 z 0) (τ 6 z 1) (τ 6 z 2) (τ 6 z 3) (dtD (τ 6 z 0) (τ 6 z 1) (τ 6 z 2) (τ 6 z 3) d) (τ 0 0 7)) 0 (τ 0 0 6).toNat = u from (by rw [hu]; congr 1; omega)]; exact hR22q)) hC22q
        · refine lv_aload_n zC.1 zC.2.1 dX5_eldest_31 rfl (lv_at hl 0 rfl) ?_
          refine lv_aload_n zC.1 zC.2.1 dX5_eldest_32 rfl (lv_at hl 0 rfl) ?_
          refine lv_iload zC.1 zC.2.1 dX5_eldest_33 (lv_at hl 4 rfl) ?_
          refine lv_iload_n zC.1 zC.2.1 dX5_eldest_35 rfl (lv_at hl 1 rfl) ?_
          refine zr_callV zC hG (c_X5_dateIn (τ := τ) (σ := σ22q) (c := q) (d := d) hR22q hI (by first | assumption | omega) (by first | assumption | omega)) mt_X5_dateIn wl_X5_166 pM rfl rfl ⟨by decide, by decide⟩ rfl hl.1 rfl (Nat.le_of_ble_eq_true rfl) dX5_eldest_36 ⟨Nat.zero_le _, Nat.zero_le _⟩ (fun H locs hG => ?_)
          refine W.eq (g2 := F0 zm 39 ls [.int (zI (dtD (τ 6 q 0) (τ 6 q 1) (τ 6 q 2) (τ 6 q 3) d)), .ref (aM Γ)]) rfl ?_
          have b36_0 := dtD_r (k := (τ 6 q 0)) (lp := (τ 6 q 1)) (o := (τ 6 q 2)) (g := (τ 6 q 3)) (d := d) (by omega) (hI.2.2.2.2.2.2.1 q (by omega) (by omega)).2.1 (hI.2.2.2.2.2.2.1 q (by omega) (by omega)).2.2.2
          have k39 := hI.2.2.2.2.2.2.1 q (by omega) (by omega)
          obtain ⟨k39a, k39b, k39c, k39d⟩ := id k39
          refine zr_callV zC hG (c_X5_ageOf (σ := up (up (up (up σ22q 20 0 19 (τ 6 q 0)) 20 0 20 (τ 6 q 1)) 20 0 21 (τ 6 q 2)) 20 0 22 (τ 6 q 3)) (t := dtD (τ 6 q 0) (τ 6 q 1) (τ 6 q 2) (τ 6 q 3) d) (td := τ 0 0 7) k39 (by first | assumption | omega) hR22q.1.2.2.2.2.2 (by first | assumption | omega)) mt_X5_ageOf wl_X5_195 pM rfl rfl ⟨by decide, by decide⟩ rfl hl.1 rfl (Nat.le_of_ble_eq_true rfl) dX5_eldest_39 ⟨Nat.zero_le _, Nat.zero_le _⟩ (fun H locs hG => ?_)
          refine W.eq (g2 := F0 zm 42 ls [.int (zI (tmA (τ 6 q 0) (τ 6 q 1) (τ 6 q 2) (τ 6 q 3) (dtD (τ 6 q 0) (τ 6 q 1) (τ 6 q 2) (τ 6 q 3) d) (τ 0 0 7)))]) rfl ?_
          have b39_0 := tmA_r (k := (τ 6 q 0)) (lp := (τ 6 q 1)) (o := (τ 6 q 2)) (g := (τ 6 q 3)) (t := (dtD (τ 6 q 0) (τ 6 q 1) (τ 6 q 2) (τ 6 q 3) d)) (td := (τ 0 0 7)) (by omega) (by omega) (by omega) (by omega)
          refine lv_istore (lv' := [(5, .int (zI (tmA (τ 6 q 0) (τ 6 q 1) (τ 6 q 2) (τ 6 q 3) (dtD (τ 6 q 0) (τ 6 q 1) (τ 6 q 2) (τ 6 q 3) d) (τ 0 0 7)))), (0, .ref (aM Γ)), (1, .int (zI d)), (2, .int (zI bs)), (3, .int (zI u)), (4, .int (zI q))]) zC.1 zC.2.1 dX5_eldest_42 hl (by decide) rfl (fun ls hl => ?_)
          refine lv_iload zC.1 zC.2.1 dX5_eldest_44 (lv_at hl 0 rfl) ?_
          refine lv_iload_n zC.1 zC.2.1 dX5_eldest_46 rfl (lv_at hl 4 rfl) ?_
          refine zr_icmp_le (tgt := 55) zC dX5_eldest_47 (by decide) (by omega) (fun c47 => ?_) (fun c47 => ?_)
          · refine lv_iload_n zC.1 zC.2.1 dX5_eldest_55 rfl (lv_at hl 3 rfl) ?_
            refine lv_istore_n (lv' := [(2, .int (zI bs)), (5, .int (zI (tmA (τ 6 q 0) (τ 6 q 1) (τ 6 q 2) (τ 6 q 3) (dtD (τ 6 q 0) (τ 6 q 1) (τ 6 q 2) (τ 6 q 3) d) (τ 0 0 7)))), (0, .ref (aM Γ)), (1, .int (zI d)), (3, .int (zI u)), (4, .int (zI q))]) zC.1 zC.2.1 dX5_eldest_56 rfl hl (by decide) rfl (fun ls hl => ?_)
            refine lv_iload_n zC.1 zC.2.1 dX5_eldest_57 rfl (lv_at hl 4 rfl) ?_
            refine lv_iload zC.1 zC.2.1 dX5_eldest_58 (lv_at hl 1 rfl) ?_
            refine zr_callS zC hG (c_X5_greater (σ := up (up (up (up σ22q 20 0 19 (τ 6 q 0)) 20 0 20 (τ 6 q 1)) 20 0 21 (τ 6 q 2)) 20 0 22 (τ 6 q 3)) (a := u) (b := tmA (τ 6 q 0) (τ 6 q 1) (τ 6 q 2) (τ 6 q 3) (dtD (τ 6 q 0) (τ 6 q 1) (τ 6 q 2) (τ 6 q 3) d) (τ 0 0 7)) (by first | assumption | omega) (by first | assumption | omega)) mt_X5_greater wl_X5_175 ⟨by decide, by decide⟩ rfl hl.1 rfl (Nat.le_of_ble_eq_true rfl) dX5_eldest_60 ⟨Nat.zero_le _, Nat.zero_le _⟩ (fun H locs hG => ?_)
            refine W.eq (g2 := F0 zm 63 ls [.int (zI (max u (tmA (τ 6 q 0) (τ 6 q 1) (τ 6 q 2) (τ 6 q 3) (dtD (τ 6 q 0) (τ 6 q 1) (τ 6 q 2) (τ 6 q 3) d) (τ 0 0 7))))]) rfl ?_
            refine lv_istore_n (lv' := [(3, .int (zI (max u (tmA (τ 6 q 0) (τ 6 q 1) (τ 6 q 2) (τ 6 q 3) (dtD (τ 6 q 0) (τ 6 q 1) (τ 6 q 2) (τ 6 q 3) d) (τ 0 0 7))))), (2, .int (zI bs)), (5, .int (zI (tmA (τ 6 q 0) (τ 6 q 1) (τ 6 q 2) (τ 6 q 3) (dtD (τ 6 q 0) (τ 6 q 1) (τ 6 q 2) (τ 6 q 3) d) (τ 0 0 7)))), (0, .ref (aM Γ)), (1, .int (zI d)), (4, .int (zI q))]) zC.1 zC.2.1 dX5_eldest_63 rfl hl (by decide) rfl (fun ls hl => ?_)
            refine zr_iinc (lv' := [(4, .int (zI (q + 1))), (3, .int (zI (max u (tmA (τ 6 q 0) (τ 6 q 1) (τ 6 q 2) (τ 6 q 3) (dtD (τ 6 q 0) (τ 6 q 1) (τ 6 q 2) (τ 6 q 3) d) (τ 0 0 7))))), (2, .int (zI bs)), (5, .int (zI (tmA (τ 6 q 0) (τ 6 q 1) (τ 6 q 2) (τ 6 q 3) (dtD (τ 6 q 0) (τ 6 q 1) (τ 6 q 2) (τ 6 q 3) d) (τ 0 0 7)))), (0, .ref (aM Γ)), (1, .int (zI d))]) zC dX5_eldest_64 hl (k := 5) rfl (by decide) rfl (fun ls hl => ?_)
            refine lv_goto (tgt := 22) zC.1 zC.2.1 dX5_eldest_67 (by decide) ?_
            exact ih22 bs (max u (tmA (τ 6 q 0) (τ 6 q 1) (τ 6 q 2) (τ 6 q 3) (dtD (τ 6 q 0) (τ 6 q 1) (τ 6 q 2) (τ 6 q 3) d) (τ 0 0 7))) (q + 1) (up (up (up (up σ22q 20 0 19 (τ 6 q 0)) 20 0 20 (τ 6 q 1)) 20 0 21 (τ 6 q 2)) 20 0 22 (τ 6 q 3)) H locs ls (by first | assumption | omega) (by rw [mxI_s hq.1, ← hu]) (by rw [bsI_s hq.1, ← hu, ← hb]; split <;> omega) hR22q (sC_up (sC_up (sC_up (sC_up hC22q (by decide)) (by decide)) (by decide)) (by decide)) (by omega) hG (lv_sub hl [4, 5, 2, 1, 0] rfl)
          · refine lv_iload zC.1 zC.2.1 dX5_eldest_50 (lv_at hl 5 rfl) ?_
            refine lv_goto (tgt := 56) zC.1 zC.2.1 dX5_eldest_52 (by decide) ?_
            refine lv_istore_n (lv' := [(2, .int (zI q)), (5, .int (zI (tmA (τ 6 q 0) (τ 6 q 1) (τ 6 q 2) (τ 6 q 3) (dtD (τ 6 q 0) (τ 6 q 1) (τ 6 q 2) (τ 6 q 3) d) (τ 0 0 7)))), (0, .ref (aM Γ)), (1, .int (zI d)), (3, .int (zI u)), (4, .int (zI q))]) zC.1 zC.2.1 dX5_eldest_56 rfl hl (by decide) rfl (fun ls hl => ?_)
            refine lv_iload_n zC.1 zC.2.1 dX5_eldest_57 rfl (lv_at hl 4 rfl) ?_
            refine lv_iload zC.1 zC.2.1 dX5_eldest_58 (lv_at hl 1 rfl) ?_
            refine zr_callS zC hG (c_X5_greater (σ := up (up (up (up σ22q 20 0 19 (τ 6 q 0)) 20 0 20 (τ 6 q 1)) 20 0 21 (τ 6 q 2)) 20 0 22 (τ 6 q 3)) (a := u) (b := tmA (τ 6 q 0) (τ 6 q 1) (τ 6 q 2) (τ 6 q 3) (dtD (τ 6 q 0) (τ 6 q 1) (τ 6 q 2) (τ 6 q 3) d) (τ 0 0 7)) (by first | assumption | omega) (by first | assumption | omega)) mt_X5_greater wl_X5_175 ⟨by decide, by decide⟩ rfl hl.1 rfl (Nat.le_of_ble_eq_true rfl) dX5_eldest_60 ⟨Nat.zero_le _, Nat.zero_le _⟩ (fun H locs hG => ?_)
            refine W.eq (g2 := F0 zm 63 ls [.int (zI (max u (tmA (τ 6 q 0) (τ 6 q 1) (τ 6 q 2) (τ 6 q 3) (dtD (τ 6 q 0) (τ 6 q 1) (τ 6 q 2) (τ 6 q 3) d) (τ 0 0 7))))]) rfl ?_
            refine lv_istore_n (lv' := [(3, .int (zI (max u (tmA (τ 6 q 0) (τ 6 q 1) (τ 6 q 2) (τ 6 q 3) (dtD (τ 6 q 0) (τ 6 q 1) (τ 6 q 2) (τ 6 q 3) d) (τ 0 0 7))))), (2, .int (zI q)), (5, .int (zI (tmA (τ 6 q 0) (τ 6 q 1) (τ 6 q 2) (τ 6 q 3) (dtD (τ 6 q 0) (τ 6 q 1) (τ 6 q 2) (τ 6 q 3) d) (τ 0 0 7)))), (0, .ref (aM Γ)), (1, .int (zI d)), (4, .int (zI q))]) zC.1 zC.2.1 dX5_eldest_63 rfl hl (by decide) rfl (fun ls hl => ?_)
            refine zr_iinc (lv' := [(4, .int (zI (q + 1))), (3, .int (zI (max u (tmA (τ 6 q 0) (τ 6 q 1) (τ 6 q 2) (τ 6 q 3) (dtD (τ 6 q 0) (τ 6 q 1) (τ 6 q 2) (τ 6 q 3) d) (τ 0 0 7))))), (2, .int (zI q)), (5, .int (zI (tmA (τ 6 q 0) (τ 6 q 1) (τ 6 q 2) (τ 6 q 3) (dtD (τ 6 q 0) (τ 6 q 1) (τ 6 q 2) (τ 6 q 3) d) (τ 0 0 7)))), (0, .ref (aM Γ)), (1, .int (zI d))]) zC dX5_eldest_64 hl (k := 5) rfl (by decide) rfl (fun ls hl => ?_)
            refine lv_goto (tgt := 22) zC.1 zC.2.1 dX5_eldest_67 (by decide) ?_
            exact ih22 q (max u (tmA (τ 6 q 0) (τ 6 q 1) (τ 6 q 2) (τ 6 q 3) (dtD (τ 6 q 0) (τ 6 q 1) (τ 6 q 2) (τ 6 q 3) d) (τ 0 0 7))) (q + 1) (up (up (up (up σ22q 20 0 19 (τ 6 q 0)) 20 0 20 (τ 6 q 1)) 20 0 21 (τ 6 q 2)) 20 0 22 (τ 6 q 3)) H locs ls (by first | assumption | omega) (by rw [mxI_s hq.1, ← hu]) (by rw [bsI_s hq.1, ← hu, ← hb]; split <;> omega) hR22q (sC_up (sC_up (sC_up (sC_up hC22q (by decide)) (by decide)) (by decide)) (by decide)) (by omega) hG (lv_sub hl [4, 5, 2, 1, 0] rfl)
    exact loop22 ((6 - 0 : Int).toNat + 1) (-9) (-1) 0 σ H locs ls (by first | assumption | omega) rfl rfl hR (sC_r _) (by omega) hG (lv_sub hl [3, 4, 2, 1, 0] rfl)
  · refine zr_iconst zC dX5_eldest_12 ?_
    exact zm_iret zC zK hG dX5_eldest_13 (by unfold rC_eldest; (repeat' split) <;> first | rfl | omega) (by unfold mC_eldest; (repeat' split) <;> first | exact hR | (exfalso; omega)) (sC_r _)

set_option maxHeartbeats 4000000 in
set_option maxRecDepth 100000 in
theorem c_X5_doAgree {Γ : Gm} {zl : Launch} {A : Nat → Prop} {τ σ : Mm} {c d x : Int} (hR : Rel2 τ σ) (hI : IC τ) (hc : isT τ c) (hd : isT τ d) (hx : 0 ≤ x ∧ x ≤ 19999) : Fr Γ zl A yX5_doAgree cX5_doAgree 4 (some .boolean) 5 106 [.ref (aM Γ), .int (zI c), .int (zI d), .int (zI x)] σ (some (.int (zI (zB (dtD (τ 6 c 0) (τ 6 c 1) (τ 6 c 2) (τ 6 c 3) x = dtD (τ 6 d 0) (τ 6 d 1) (τ 6 d 2) (τ 6 d 3) x))))) τ := by
  refine Fr_of (by decide) (Nat.le_of_ble_eq_true rfl) ?_
  intro zp ze zs zm args below meth zc zQ H locs ls zC zK hG hl
  have hl : lv_has ls 4 [(0, .ref (aM Γ)), (1, .int (zI c)), (2, .int (zI d)), (3, .int (zI x))] := hl
  obtain ⟨hmany, htoday, -⟩ := id hI
  refine lv_aload_n zC.1 zC.2.1 dX5_doAgree_0 rfl (lv_at hl 0 rfl) ?_
  refine lv_iload_n zC.1 zC.2.1 dX5_doAgree_1 rfl (lv_at hl 1 rfl) ?_
  refine lv_iload_n zC.1 zC.2.1 dX5_doAgree_2 rfl (lv_at hl 3 rfl) ?_
  refine zr_callV zC hG (c_X5_dateIn (τ := τ) (σ := σ) (c := c) (d := x) hR hI (by first | assumption | omega) (by first | assumption | omega)) mt_X5_dateIn wl_X5_166 pM rfl rfl ⟨by decide, by decide⟩ rfl hl.1 rfl (Nat.le_of_ble_eq_true rfl) dX5_doAgree_3 ⟨Nat.zero_le _, Nat.zero_le _⟩ (fun H locs hG => ?_)
  refine W.eq (g2 := F0 zm 6 ls [.int (zI (dtD (τ 6 c 0) (τ 6 c 1) (τ 6 c 2) (τ 6 c 3) x))]) rfl ?_
  have b3_0 := dtD_r (k := (τ 6 c 0)) (lp := (τ 6 c 1)) (o := (τ 6 c 2)) (g := (τ 6 c 3)) (d := x) (by omega) (hI.2.2.2.2.2.2.1 c (by omega) (by omega)).2.1 (hI.2.2.2.2.2.2.1 c (by omega) (by omega)).2.2.2
  refine lv_aload_n zC.1 zC.2.1 dX5_doAgree_6 rfl (lv_at hl 0 rfl) ?_
  refine lv_iload_n zC.1 zC.2.1 dX5_doAgree_7 rfl (lv_at hl 2 rfl) ?_
  refine lv_iload_n zC.1 zC.2.1 dX5_doAgree_8 rfl (lv_at hl 3 rfl) ?_
  refine zr_callV zC hG (c_X5_dateIn (τ := τ) (σ := up (up (up (up σ 20 0 19 (τ 6 c 0)) 20 0 20 (τ 6 c 1)) 20 0 21 (τ 6 c 2)) 20 0 22 (τ 6 c 3)) (c := d) (d := x) hR hI (by first | assumption | omega) (by first | assumption | omega)) mt_X5_dateIn wl_X5_166 pM rfl rfl ⟨by decide, by decide⟩ rfl hl.1 rfl (Nat.le_of_ble_eq_true rfl) dX5_doAgree_9 ⟨Nat.zero_le _, Nat.zero_le _⟩ (fun H locs hG => ?_)
  refine W.eq (g2 := F0 zm 12 ls [.int (zI (dtD (τ 6 d 0) (τ 6 d 1) (τ 6 d 2) (τ 6 d 3) x)), .int (zI (dtD (τ 6 c 0) (τ 6 c 1) (τ 6 c 2) (τ 6 c 3) x))]) rfl ?_
  have b9_0 := dtD_r (k := (τ 6 d 0)) (lp := (τ 6 d 1)) (o := (τ 6 d 2)) (g := (τ 6 d 3)) (d := x) (by omega) (hI.2.2.2.2.2.2.1 d (by omega) (by omega)).2.1 (hI.2.2.2.2.2.2.1 d (by omega) (by omega)).2.2.2
  refine zr_icmp_ne (tgt := 19) zC dX5_doAgree_12 (by decide) (by omega) (fun c12 => ?_) (fun c12 => ?_)
  · refine zr_iconst zC dX5_doAgree_19 ?_
    exact zm_zret zC zK hG dX5_doAgree_20 (zB_f (by omega)) (Or.inl rfl) hR (sC_up (sC_up (sC_up (sC_up (sC_up (sC_up (sC_up (sC_up (sC_r _) (by decide)) (by decide)) (by decide)) (by decide)) (by decide)) (by decide)) (by decide)) (by decide))
  · refine zr_iconst zC dX5_doAgree_15 ?_
    refine lv_goto (tgt := 20) zC.1 zC.2.1 dX5_doAgree_16 (by decide) ?_
    exact zm_zret zC zK hG dX5_doAgree_20 (zB_t (by omega)) (Or.inr rfl) hR (sC_up (sC_up (sC_up (sC_up (sC_up (sC_up (sC_up (sC_up (sC_r _) (by decide)) (by decide)) (by decide)) (by decide)) (by decide)) (by decide)) (by decide)) (by decide))

set_option maxHeartbeats 4000000 in
set_option maxRecDepth 100000 in
theorem c_X5_agree {Γ : Gm} {zl : Launch} {A : Nat → Prop} {τ σ : Mm} {c d a b : Int} (hR : Rel2 τ σ) (hI : IC τ) (hc : -2147483648 ≤ c ∧ c < 2147483648) (hd : -2147483648 ≤ d ∧ d < 2147483648) (ha : -2147483648 ≤ a ∧ a < 2147483648) (hb : -2147483648 ≤ b ∧ b < 2147483648) : Fr Γ zl A yX5_agree cX5_agree 9 (some .int) 6 129 [.ref (aM Γ), .int (zI c), .int (zI d), .int (zI a), .int (zI b)] σ (some (.int (zI (rC_agree τ c d a b)))) (mC_agree τ c d a b) := by
  refine Fr_of (by decide) (Nat.le_of_ble_eq_true rfl) ?_
  intro zp ze zs zm args below meth zc zQ H locs ls zC zK hG hl
  have hl : lv_has ls 9 [(0, .ref (aM Γ)), (1, .int (zI c)), (2, .int (zI d)), (3, .int (zI a)), (4, .int (zI b))] := hl
  obtain ⟨hmany, htoday, -⟩ := id hI
  refine lv_aload_n zC.1 zC.2.1 dX5_agree_0 rfl (lv_at hl 0 rfl) ?_
  refine lv_iload_n zC.1 zC.2.1 dX5_agree_1 rfl (lv_at hl 1 rfl) ?_
  refine zr_callV zC hG (c_X5_isTown (τ := τ) (σ := σ) (c := c) hR hI (by first | assumption | omega)) mt_X5_isTown wl_X5_169 pM rfl rfl ⟨by decide, by decide⟩ rfl hl.1 rfl (Nat.le_of_ble_eq_true rfl) dX5_agree_2 ⟨Nat.zero_le _, Nat.zero_le _⟩ (fun H locs hG => ?_)
  refine W.eq (g2 := F0 zm 5 ls [.int (zI (zB (isT τ c)))]) rfl ?_
  refine zr_ifeqB (tgt := 25) zC dX5_agree_5 (by decide) (fun c5 => ?_) (fun c5 => ?_)
  · refine zr_iconst zC dX5_agree_25 ?_
    exact zm_iret zC zK hG dX5_agree_26 (by unfold rC_agree; (repeat' split) <;> first | rfl | omega) (by unfold mC_agree; (repeat' split) <;> first | exact hR | (exfalso; omega)) (sC_r _)
  · refine lv_aload_n zC.1 zC.2.1 dX5_agree_8 rfl (lv_at hl 0 rfl) ?_
    refine lv_iload_n zC.1 zC.2.1 dX5_agree_9 rfl (lv_at hl 2 rfl) ?_
    refine zr_callV zC hG (c_X5_isTown (τ := τ) (σ := σ) (c := d) hR hI (by first | assumption | omega)) mt_X5_isTown wl_X5_169 pM rfl rfl ⟨by decide, by decide⟩ rfl hl.1 rfl (Nat.le_of_ble_eq_true rfl) dX5_agree_10 ⟨Nat.zero_le _, Nat.zero_le _⟩ (fun H locs hG => ?_)
    refine W.eq (g2 := F0 zm 13 ls [.int (zI (zB (isT τ d)))]) rfl ?_
    refine zr_ifeqB (tgt := 25) zC dX5_agree_13 (by decide) (fun c13 => ?_) (fun c13 => ?_)
    · refine zr_iconst zC dX5_agree_25 ?_
      exact zm_iret zC zK hG dX5_agree_26 (by unfold rC_agree; (repeat' split) <;> first | rfl | omega) (by unfold mC_agree; (repeat' split) <;> first | exact hR | (exfalso; omega)) (sC_r _)
    · refine lv_iload_n zC.1 zC.2.1 dX5_agree_16 rfl (lv_at hl 3 rfl) ?_
      refine lv_iload zC.1 zC.2.1 dX5_agree_17 (lv_at hl 4 rfl) ?_
      refine zr_callS zC hG (c_X5_areDays (σ := σ) (a := a) (b := b) (by first | assumption | omega) (by first | assumption | omega)) mt_X5_areDays wl_X5_191 ⟨by decide, by decide⟩ rfl hl.1 rfl (Nat.le_of_ble_eq_true rfl) dX5_agree_19 ⟨Nat.zero_le _, Nat.zero_le _⟩ (fun H locs hG => ?_)
      refine W.eq (g2 := F0 zm 22 ls [.int (zI (zB (0 ≤ a ∧ a ≤ b ∧ b ≤ 19999)))]) rfl ?_
      refine zr_ifneB (tgt := 27) zC dX5_agree_22 (by decide) (fun c22 => ?_) (fun c22 => ?_)
      · refine zr_iconst zC dX5_agree_27 ?_
        refine lv_istore (lv' := [(5, .int (zI 0)), (0, .ref (aM Γ)), (1, .int (zI c)), (2, .int (zI d)), (3, .int (zI a)), (4, .int (zI b))]) zC.1 zC.2.1 dX5_agree_28 hl (by decide) rfl (fun ls hl => ?_)
        refine zr_bipush zC dX5_agree_30 (by decide +kernel) ?_
        refine lv_istore (lv' := [(6, .int (zI (-9))), (5, .int (zI 0)), (0, .ref (aM Γ)), (1, .int (zI c)), (2, .int (zI d)), (3, .int (zI a)), (4, .int (zI b))]) zC.1 zC.2.1 dX5_agree_32 hl (by decide) rfl (fun ls hl => ?_)
        refine lv_iload zC.1 zC.2.1 dX5_agree_34 (lv_at hl 6 rfl) ?_
        refine lv_istore (lv' := [(7, .int (zI b)), (6, .int (zI (-9))), (5, .int (zI 0)), (0, .ref (aM Γ)), (1, .int (zI c)), (2, .int (zI d)), (3, .int (zI a)), (4, .int (zI b))]) zC.1 zC.2.1 dX5_agree_36 hl (by decide) rfl (fun ls hl => ?_)
        have loop38 : ∀ (nf : Nat) (u fs x : Int) (σ38q : Mm) (H : Heap) (locs : List Loc) (ls : Array Slot), (a - 1 ≤ x ∧ x ≤ b) → (u + ctI (fun z => dtD (τ 6 c 0) (τ 6 c 1) (τ 6 c 2) (τ 6 c 3) z = dtD (τ 6 d 0) (τ 6 d 1) (τ 6 d 2) (τ 6 d 3) z) a (x + 1 - a).toNat = ctI (fun z => dtD (τ 6 c 0) (τ 6 c 1) (τ 6 c 2) (τ 6 c 3) z = dtD (τ 6 d 0) (τ 6 d 1) (τ 6 d 2) (τ 6 d 3) z) a (b + 1 - a).toNat) → (0 ≤ u ∧ u ≤ b - x) → ((fs = -9 ∧ ∀ z, x < z → z ≤ b → ¬ (fun z => dtD (τ 6 c 0) (τ 6 c 1) (τ 6 c 2) (τ 6 c 3) z = dtD (τ 6 d 0) (τ 6 d 1) (τ 6 d 2) (τ 6 d 3) z) z) ∨ (x < fs ∧ fs ≤ b ∧ (fun z => dtD (τ 6 c 0) (τ 6 c 1) (τ 6 c 2) (τ 6 c 3) z = dtD (τ 6 d 0) (τ 6 d 1) (τ 6 d 2) (τ 6 d 3) z) fs ∧ ∀ z, x < z → z < fs → ¬ (fun z => dtD (τ 6 c 0) (τ 6 c 1) (τ 6 c 2) (τ 6 c 3) z = dtD (τ 6 d 0) (τ 6 d 1) (τ 6 d 2) (τ 6 d 3) z) z)) → (Rel2 τ σ38q) → (sC σ σ38q) → (x + 1 - a < (nf : Int)) → GM Γ A σ38q zs H locs → lv_has ls 9 [(0, .ref (aM Γ)), (1, .int (zI c)), (2, .int (zI d)), (3, .int (zI a)), (4, .int (zI b)), (5, .int (zI u)), (6, .int (zI fs)), (7, .int (zI x))] → W zp zl ze { frames := 6, cells := 0, slots := 0, locals := 129 } zs zm args below meth zc H locs 0 0 zQ (F0 zm 38 ls []) := by
          intro nf
          induction nf with
          | zero =>
            intro u fs x σ38q H locs ls hx hu hu0 hf hR38q hC38q hm38 _ _
            exact absurd hm38 (by omega)
          | succ nf ih38 =>
            intro u fs x σ38q H locs ls hx hu hu0 hf hR38q hC38q hm38 hG hl
            refine lv_iload zC.1 zC.2.1 dX5_agree_38 (lv_at hl 7 rfl) ?_
            refine lv_iload_n zC.1 zC.2.1 dX5_agree_40 rfl (lv_at hl 3 rfl) ?_
            refine zr_icmp_lt (tgt := 89) zC dX5_agree_41 (by decide) (by omega) (fun c41 => ?_) (fun c41 => ?_)
            · refine lv_aload_n zC.1 zC.2.1 dX5_agree_89 rfl (lv_at hl 0 rfl) ?_
              refine lv_iload zC.1 zC.2.1 dX5_agree_90 (lv_at hl 6 rfl) ?_
              refine lv_iload zC.1 zC.2.1 dX5_agree_92 (lv_at hl 5 rfl) ?_
              refine zr_callV zC hG (c_X5_ask (σ := σ38q) (v := fs) (w := u)) mt_X5_ask wl_X5_86 pM rfl rfl ⟨by decide, by decide⟩ rfl hl.1 rfl (Nat.le_of_ble_eq_true rfl) dX5_agree_94 ⟨Nat.zero_le _, Nat.zero_le _⟩ (fun H locs hG => ?_)
              refine W.eq (g2 := F0 zm 97 ls [.int (zI u)]) rfl ?_
              exact zm_iret zC zK hG dX5_agree_97 (by unfold rC_agree; rw [if_neg (by omega), ← hu, show (x + 1 - a).toNat = 0 by omega, show ctI (fun z => dtD (τ 6 c 0) (τ 6 c 1) (τ 6 c 2) (τ 6 c 3) z = dtD (τ 6 d 0) (τ 6 d 1) (τ 6 d 2) (τ 6 d 3) z) a 0 = 0 from rfl]; omega) (by unfold mC_agree; rw [if_neg (by omega), show fstI (fun z => dtD (τ 6 c 0) (τ 6 c 1) (τ 6 c 2) (τ 6 c 3) z = dtD (τ 6 d 0) (τ 6 d 1) (τ 6 d 2) (τ 6 d 3) z) a (b + 1 - a).toNat = fs from (by rcases hf with ⟨g1, g2⟩ | ⟨g1, g2, g3, g4⟩; (rw [g1]; exact fstI_no (P := (fun z => dtD (τ 6 c 0) (τ 6 c 1) (τ 6 c 2) (τ 6 c 3) z = dtD (τ 6 d 0) (τ 6 d 1) (τ 6 d 2) (τ 6 d 3) z)) (fun z h1 h2 => g2 z (by omega) (by omega))); exact fstI_yes (P := (fun z => dtD (τ 6 c 0) (τ 6 c 1) (τ 6 c 2) (τ 6 c 3) z = dtD (τ 6 d 0) (τ 6 d 1) (τ 6 d 2) (τ 6 d 3) z)) (y := fs) (by omega) (by omega) g3 (fun z h1 h2 => g4 z (by omega) h2) (by omega))]; exact (rl_ask hR38q)) (sC_up hC38q (by decide))
            · refine lv_aload_n zC.1 zC.2.1 dX5_agree_44 rfl (lv_at hl 0 rfl) ?_
              refine lv_iload_n zC.1 zC.2.1 dX5_agree_45 rfl (lv_at hl 1 rfl) ?_
              refine lv_iload_n zC.1 zC.2.1 dX5_agree_46 rfl (lv_at hl 2 rfl) ?_
              refine lv_iload zC.1 zC.2.1 dX5_agree_47 (lv_at hl 7 rfl) ?_
              refine zm_callV zC hG (c_X5_doAgree (τ := τ) (σ := σ38q) (c := c) (d := d) (x := x) hR38q hI (by first | assumption | omega) (by first | assumption | omega) (by first | assumption | omega)) mt_X5_doAgree wl_X5_198 pM rfl rfl ⟨by decide, by decide⟩ rfl hl.1 rfl (Nat.le_of_ble_eq_true rfl) dX5_agree_49 ⟨Nat.zero_le _, Nat.zero_le _⟩ (fun σ49 H locs hR49 hC49 hG => ?_)
              refine W.eq (g2 := F0 zm 52 ls [.int (zI (zB (dtD (τ 6 c 0) (τ 6 c 1) (τ 6 c 2) (τ 6 c 3) x = dtD (τ 6 d 0) (τ 6 d 1) (τ 6 d 2) (τ 6 d 3) x)))]) rfl ?_
              refine lv_istore (lv' := [(8, .int (zI (zB (dtD (τ 6 c 0) (τ 6 c 1) (τ 6 c 2) (τ 6 c 3) x = dtD (τ 6 d 0) (τ 6 d 1) (τ 6 d 2) (τ 6 d 3) x)))), (0, .ref (aM Γ)), (1, .int (zI c)), (2, .int (zI d)), (3, .int (zI a)), (4, .int (zI b)), (5, .int (zI u)), (6, .int (zI fs)), (7, .int (zI x))]) zC.1 zC.2.1 dX5_agree_52 hl (by decide) rfl (fun ls hl => ?_)
              refine lv_iload zC.1 zC.2.1 dX5_agree_54 (lv_at hl 6 rfl) ?_
              refine lv_iload zC.1 zC.2.1 dX5_agree_56 (lv_at hl 0 rfl) ?_
              refine zr_ifeqB (tgt := 65) zC dX5_agree_58 (by decide) (fun c58 => ?_) (fun c58 => ?_)
              · refine zr_iconst zC dX5_agree_65 ?_
                refine zr_iadd zC dX5_agree_66 ?_
                refine lv_istore (lv' := [(5, .int (zI (u + 0))), (8, .int (zI (zB (dtD (τ 6 c 0) (τ 6 c 1) (τ 6 c 2) (τ 6 c 3) x = dtD (τ 6 d 0) (τ 6 d 1) (τ 6 d 2) (τ 6 d 3) x)))), (0, .ref (aM Γ)), (1, .int (zI c)), (2, .int (zI d)), (3, .int (zI a)), (4, .int (zI b)), (6, .int (zI fs)), (7, .int (zI x))]) zC.1 zC.2.1 dX5_agree_67 hl (by decide) rfl (fun ls hl => ?_)
                refine lv_iload zC.1 zC.2.1 dX5_agree_69 (lv_at hl 1 rfl) ?_
                refine zr_ifeqB (tgt := 79) zC dX5_agree_71 (by decide) (fun c71 => ?_) (fun c71 => ?_)
                · refine lv_iload zC.1 zC.2.1 dX5_agree_79 (lv_at hl 7 rfl) ?_
                  refine lv_istore (lv' := [(6, .int (zI fs)), (5, .int (zI (u + 0))), (8, .int (zI (zB (dtD (τ 6 c 0) (τ 6 c 1) (τ 6 c 2) (τ 6 c 3) x = dtD (τ 6 d 0) (τ 6 d 1) (τ 6 d 2) (τ 6 d 3) x)))), (0, .ref (aM Γ)), (1, .int (zI c)), (2, .int (zI d)), (3, .int (zI a)), (4, .int (zI b)), (7, .int (zI x))]) zC.1 zC.2.1 dX5_agree_81 hl (by decide) rfl (fun ls hl => ?_)
                  refine zr_iinc (lv' := [(7, .int (zI (x + (-1)))), (6, .int (zI fs)), (5, .int (zI (u + 0))), (8, .int (zI (zB (dtD (τ 6 c 0) (τ 6 c 1) (τ 6 c 2) (τ 6 c 3) x = dtD (τ 6 d 0) (τ 6 d 1) (τ 6 d 2) (τ 6 d 3) x)))), (0, .ref (aM Γ)), (1, .int (zI c)), (2, .int (zI d)), (3, .int (zI a)), (4, .int (zI b))]) zC dX5_agree_83 hl (k := 8) rfl (by decide) rfl (fun ls hl => ?_)
                  refine lv_goto (tgt := 38) zC.1 zC.2.1 dX5_agree_86 (by decide) ?_
                  exact ih38 (u + 0) fs (x + (-1)) σ49 H locs ls (by first | assumption | omega) (by rw [show x + -1 + 1 = x by omega, ← hu, ctI_s (by omega)]; first | (rw [zB_t c58]; omega) | (rw [zB_f c58]; omega)) (by first | assumption | omega) (by first | exact Or.inr ⟨by omega, by omega, c58, fun z h1 h2 => by omega⟩ | (rcases hf with ⟨g1, g2⟩ | ⟨g1, g2, g3, g4⟩; exact Or.inl ⟨g1, fun z h1 h2 => by by_cases w : x < z; exact g2 z w h2; rw [show z = x by omega]; exact c58⟩; exact Or.inr ⟨by omega, g2, g3, fun z h1 h2 => by by_cases w : x < z; exact g4 z w h2; rw [show z = x by omega]; exact c58⟩)) hR49 (sC_t hC38q hC49) (by omega) hG (lv_sub hl [4, 5, 6, 7, 8, 2, 1, 0] rfl)
                · exact absurd c71 c58
              · refine zr_iconst zC dX5_agree_61 ?_
                refine lv_goto (tgt := 66) zC.1 zC.2.1 dX5_agree_62 (by decide) ?_
                refine zr_iadd zC dX5_agree_66 ?_
                refine lv_istore (lv' := [(5, .int (zI (u + 1))), (8, .int (zI (zB (dtD (τ 6 c 0) (τ 6 c 1) (τ 6 c 2) (τ 6 c 3) x = dtD (τ 6 d 0) (τ 6 d 1) (τ 6 d 2) (τ 6 d 3) x)))), (0, .ref (aM Γ)), (1, .int (zI c)), (2, .int (zI d)), (3, .int (zI a)), (4, .int (zI b)), (6, .int (zI fs)), (7, .int (zI x))]) zC.1 zC.2.1 dX5_agree_67 hl (by decide) rfl (fun ls hl => ?_)
                refine lv_iload zC.1 zC.2.1 dX5_agree_69 (lv_at hl 1 rfl) ?_
                refine zr_ifeqB (tgt := 79) zC dX5_agree_71 (by decide) (fun c71 => ?_) (fun c71 => ?_)
                · exact absurd c58 c71
                · refine lv_iload zC.1 zC.2.1 dX5_agree_74 (lv_at hl 8 rfl) ?_
                  refine lv_goto (tgt := 81) zC.1 zC.2.1 dX5_agree_76 (by decide) ?_
                  refine lv_istore (lv' := [(6, .int (zI x)), (5, .int (zI (u + 1))), (8, .int (zI (zB (dtD (τ 6 c 0) (τ 6 c 1) (τ 6 c 2) (τ 6 c 3) x = dtD (τ 6 d 0) (τ 6 d 1) (τ 6 d 2) (τ 6 d 3) x)))), (0, .ref (aM Γ)), (1, .int (zI c)), (2, .int (zI d)), (3, .int (zI a)), (4, .int (zI b)), (7, .int (zI x))]) zC.1 zC.2.1 dX5_agree_81 hl (by decide) rfl (fun ls hl => ?_)
                  refine zr_iinc (lv' := [(7, .int (zI (x + (-1)))), (6, .int (zI x)), (5, .int (zI (u + 1))), (8, .int (zI (zB (dtD (τ 6 c 0) (τ 6 c 1) (τ 6 c 2) (τ 6 c 3) x = dtD (τ 6 d 0) (τ 6 d 1) (τ 6 d 2) (τ 6 d 3) x)))), (0, .ref (aM Γ)), (1, .int (zI c)), (2, .int (zI d)), (3, .int (zI a)), (4, .int (zI b))]) zC dX5_agree_83 hl (k := 8) rfl (by decide) rfl (fun ls hl => ?_)
                  refine lv_goto (tgt := 38) zC.1 zC.2.1 dX5_agree_86 (by decide) ?_
                  exact ih38 (u + 1) x (x + (-1)) σ49 H locs ls (by first | assumption | omega) (by rw [show x + -1 + 1 = x by omega, ← hu, ctI_s (by omega)]; first | (rw [zB_t c58]; omega) | (rw [zB_f c58]; omega)) (by first | assumption | omega) (by first | exact Or.inr ⟨by omega, by omega, c58, fun z h1 h2 => by omega⟩ | (rcases hf with ⟨g1, g2⟩ | ⟨g1, g2, g3, g4⟩; exact Or.inl ⟨g1, fun z h1 h2 => by by_cases w : x < z; exact g2 z w h2; rw [show z = x by omega]; exact c58⟩; exact Or.inr ⟨by omega, g2, g3, fun z h1 h2 => by by_cases w : x < z; exact g4 z w h2; rw [show z = x by omega]; exact c58⟩)) hR49 (sC_t hC38q hC49) (by omega) hG (lv_sub hl [4, 5, 6, 7, 8, 2, 1, 0] rfl)
        exact loop38 ((b + 1 - a : Int).toNat + 1) 0 (-9) b σ H locs ls (by first | assumption | omega) (by omega) (by first | assumption | omega) (Or.inl ⟨rfl, fun z h1 h2 => by omega⟩) hR (sC_r _) (by omega) hG (lv_sub hl [3, 4, 5, 6, 7, 2, 1, 0] rfl)
      · refine zr_iconst zC dX5_agree_25 ?_
        exact zm_iret zC zK hG dX5_agree_26 (by unfold rC_agree; (repeat' split) <;> first | rfl | omega) (by unfold mC_agree; (repeat' split) <;> first | exact hR | (exfalso; omega)) (sC_r _)

set_option maxHeartbeats 4000000 in
set_option maxRecDepth 100000 in
theorem c_X5_till {Γ : Gm} {zl : Launch} {A : Nat → Prop} {τ σ : Mm} {c d : Int} (hR : Rel2 τ σ) (hI : IC τ) (hc : -2147483648 ≤ c ∧ c < 2147483648) (hd : -2147483648 ≤ d ∧ d < 2147483648) : Fr Γ zl A yX5_till cX5_till 4 (some .int) 6 129 [.ref (aM Γ), .int (zI c), .int (zI d)] σ (some (.int (zI (rC_till τ c d)))) τ := by
  refine Fr_of (by decide) (Nat.le_of_ble_eq_true rfl) ?_
  intro zp ze zs zm args below meth zc zQ H locs ls zC zK hG hl
  have hl : lv_has ls 4 [(0, .ref (aM Γ)), (1, .int (zI c)), (2, .int (zI d))] := hl
  obtain ⟨hmany, htoday, -⟩ := id hI
  refine lv_aload_n zC.1 zC.2.1 dX5_till_0 rfl (lv_at hl 0 rfl) ?_
  refine lv_iload_n zC.1 zC.2.1 dX5_till_1 rfl (lv_at hl 1 rfl) ?_
  refine zr_callV zC hG (c_X5_isTown (τ := τ) (σ := σ) (c := c) hR hI (by first | assumption | omega)) mt_X5_isTown wl_X5_169 pM rfl rfl ⟨by decide, by decide⟩ rfl hl.1 rfl (Nat.le_of_ble_eq_true rfl) dX5_till_2 ⟨Nat.zero_le _, Nat.zero_le _⟩ (fun H locs hG => ?_)
  refine W.eq (g2 := F0 zm 5 ls [.int (zI (zB (isT τ c)))]) rfl ?_
  refine zr_ifeqB (tgt := 16) zC dX5_till_5 (by decide) (fun c5 => ?_) (fun c5 => ?_)
  · refine zr_iconst zC dX5_till_16 ?_
    exact zm_iret zC zK hG dX5_till_17 (by unfold rC_till; (repeat' split) <;> first | rfl | omega) hR (sC_r _)
  · refine lv_aload_n zC.1 zC.2.1 dX5_till_8 rfl (lv_at hl 0 rfl) ?_
    refine lv_iload_n zC.1 zC.2.1 dX5_till_9 rfl (lv_at hl 2 rfl) ?_
    refine zr_callV zC hG (c_X5_isTown (τ := τ) (σ := σ) (c := d) hR hI (by first | assumption | omega)) mt_X5_isTown wl_X5_169 pM rfl rfl ⟨by decide, by decide⟩ rfl hl.1 rfl (Nat.le_of_ble_eq_true rfl) dX5_till_10 ⟨Nat.zero_le _, Nat.zero_le _⟩ (fun H locs hG => ?_)
    refine W.eq (g2 := F0 zm 13 ls [.int (zI (zB (isT τ d)))]) rfl ?_
    refine zr_ifneB (tgt := 18) zC dX5_till_13 (by decide) (fun c13 => ?_) (fun c13 => ?_)
    · refine lv_aload_n zC.1 zC.2.1 dX5_till_18 rfl (lv_at hl 0 rfl) ?_
      refine gf_M_today (v := τ 0 0 7) zC hG wl_X5_119 hR.1.2.2.2.2.2 dX5_till_19 ?_
      refine lv_istore_n (lv' := [(3, .int (zI (τ 0 0 7))), (0, .ref (aM Γ)), (1, .int (zI c)), (2, .int (zI d))]) zC.1 zC.2.1 dX5_till_22 rfl hl (by decide) rfl (fun ls hl => ?_)
      have loop23 : ∀ (nf : Nat) (x : Int) (σ23q : Mm) (H : Heap) (locs : List Loc) (ls : Array Slot), (τ 0 0 7 ≤ x ∧ x ≤ 20000) → (∀ z, τ 0 0 7 ≤ z → z < x → ¬ (fun z => dtD (τ 6 c 0) (τ 6 c 1) (τ 6 c 2) (τ 6 c 3) z = dtD (τ 6 d 0) (τ 6 d 1) (τ 6 d 2) (τ 6 d 3) z) z) → (Rel2 τ σ23q) → (sC σ σ23q) → (20000 - x < (nf : Int)) → GM Γ A σ23q zs H locs → lv_has ls 4 [(0, .ref (aM Γ)), (1, .int (zI c)), (2, .int (zI d)), (3, .int (zI x))] → W zp zl ze { frames := 6, cells := 0, slots := 0, locals := 129 } zs zm args below meth zc H locs 0 0 zQ (F0 zm 23 ls []) := by
        intro nf
        induction nf with
        | zero =>
          intro x σ23q H locs ls hx hz hR23q hC23q hm23 _ _
          exact absurd hm23 (by omega)
        | succ nf ih23 =>
          intro x σ23q H locs ls hx hz hR23q hC23q hm23 hG hl
          refine lv_iload_n zC.1 zC.2.1 dX5_till_23 rfl (lv_at hl 3 rfl) ?_
          refine zr_sipush zC dX5_till_24 (by decide +kernel) ?_
          refine zr_icmp_gt (tgt := 53) zC dX5_till_27 (by decide) (by omega) (fun c27 => ?_) (fun c27 => ?_)
          · refine zr_bipush zC dX5_till_53 (by decide +kernel) ?_
            exact zm_iret zC zK hG dX5_till_55 (by unfold rC_till; rw [if_neg (by omega), fstI_no (fun z h1 h2 => hz z h1 (by omega)), if_pos rfl]) hR23q hC23q
          · refine lv_aload_n zC.1 zC.2.1 dX5_till_30 rfl (lv_at hl 0 rfl) ?_
            refine lv_iload_n zC.1 zC.2.1 dX5_till_31 rfl (lv_at hl 1 rfl) ?_
            refine lv_iload_n zC.1 zC.2.1 dX5_till_32 rfl (lv_at hl 2 rfl) ?_
            refine lv_iload_n zC.1 zC.2.1 dX5_till_33 rfl (lv_at hl 3 rfl) ?_
            refine zm_callV zC hG (c_X5_doAgree (τ := τ) (σ := σ23q) (c := c) (d := d) (x := x) hR23q hI (by first | assumption | omega) (by first | assumption | omega) (by first | assumption | omega)) mt_X5_doAgree wl_X5_198 pM rfl rfl ⟨by decide, by decide⟩ rfl hl.1 rfl (Nat.le_of_ble_eq_true rfl) dX5_till_34 ⟨Nat.zero_le _, Nat.zero_le _⟩ (fun σ34 H locs hR34 hC34 hG => ?_)
            refine W.eq (g2 := F0 zm 37 ls [.int (zI (zB (dtD (τ 6 c 0) (τ 6 c 1) (τ 6 c 2) (τ 6 c 3) x = dtD (τ 6 d 0) (τ 6 d 1) (τ 6 d 2) (τ 6 d 3) x)))]) rfl ?_
            refine zr_ifeqB (tgt := 47) zC dX5_till_37 (by decide) (fun c37 => ?_) (fun c37 => ?_)
            · refine zr_iinc (lv' := [(3, .int (zI (x + 1))), (0, .ref (aM Γ)), (1, .int (zI c)), (2, .int (zI d))]) zC dX5_till_47 hl (k := 3) rfl (by decide) rfl (fun ls hl => ?_)
              refine lv_goto (tgt := 23) zC.1 zC.2.1 dX5_till_50 (by decide) ?_
              exact ih23 (x + 1) σ34 H locs ls (by first | assumption | omega) (fun z h1 h2 => by by_cases q : z < x; exact hz z h1 q; rw [show z = x by omega]; exact c37) hR34 (sC_t hC23q hC34) (by omega) hG (lv_sub hl [1, 2, 3, 0] rfl)
            · refine lv_iload_n zC.1 zC.2.1 dX5_till_40 rfl (lv_at hl 3 rfl) ?_
              refine lv_aload_n zC.1 zC.2.1 dX5_till_41 rfl (lv_at hl 0 rfl) ?_
              refine gf_M_today (v := τ 0 0 7) zC hG wl_X5_119 hR34.1.2.2.2.2.2 dX5_till_42 ?_
              refine zr_isub zC dX5_till_45 ?_
              exact zm_iret zC zK hG dX5_till_46 (by unfold rC_till; rw [if_neg (by omega), fstI_yes (y := x) (by omega) hx.1 c37 hz (by omega), if_neg (by omega)]) hR34 (sC_t hC23q hC34)
      exact loop23 ((20000 - (τ 0 0 7) : Int).toNat + 1) (τ 0 0 7) σ H locs ls (by first | assumption | omega) (fun z h1 h2 => by omega) hR (sC_r _) (by omega) hG (lv_sub hl [1, 2, 3, 0] rfl)
    · refine zr_iconst zC dX5_till_16 ?_
      exact zm_iret zC zK hG dX5_till_17 (by unfold rC_till; (repeat' split) <;> first | rfl | omega) hR (sC_r _)

set_option maxHeartbeats 4000000 in
set_option maxRecDepth 100000 in
theorem c_X5_apart {Γ : Gm} {zl : Launch} {A : Nat → Prop} {τ σ : Mm} {c d a b : Int} (hR : Rel2 τ σ) (hI : IC τ) (hc : -2147483648 ≤ c ∧ c < 2147483648) (hd : -2147483648 ≤ d ∧ d < 2147483648) (ha : -2147483648 ≤ a ∧ a < 2147483648) (hb : -2147483648 ≤ b ∧ b < 2147483648) : Fr Γ zl A yX5_apart cX5_apart 9 (some .int) 3 64 [.ref (aM Γ), .int (zI c), .int (zI d), .int (zI a), .int (zI b)] σ (some (.int (zI (rC_apart τ c d a b)))) (mC_apart τ c d a b) := by
  refine Fr_of (by decide) (Nat.le_of_ble_eq_true rfl) ?_
  intro zp ze zs zm args below meth zc zQ H locs ls zC zK hG hl
  have hl : lv_has ls 9 [(0, .ref (aM Γ)), (1, .int (zI c)), (2, .int (zI d)), (3, .int (zI a)), (4, .int (zI b))] := hl
  obtain ⟨hmany, htoday, -⟩ := id hI
  refine lv_aload_n zC.1 zC.2.1 dX5_apart_0 rfl (lv_at hl 0 rfl) ?_
  refine lv_iload_n zC.1 zC.2.1 dX5_apart_1 rfl (lv_at hl 1 rfl) ?_
  refine zr_callV zC hG (c_X5_isTown (τ := τ) (σ := σ) (c := c) hR hI (by first | assumption | omega)) mt_X5_isTown wl_X5_169 pM rfl rfl ⟨by decide, by decide⟩ rfl hl.1 rfl (Nat.le_of_ble_eq_true rfl) dX5_apart_2 ⟨Nat.zero_le _, Nat.zero_le _⟩ (fun H locs hG => ?_)
  refine W.eq (g2 := F0 zm 5 ls [.int (zI (zB (isT τ c)))]) rfl ?_
  refine zr_ifeqB (tgt := 25) zC dX5_apart_5 (by decide) (fun c5 => ?_) (fun c5 => ?_)
  · refine zr_iconst zC dX5_apart_25 ?_
    exact zm_iret zC zK hG dX5_apart_26 (by unfold rC_apart; (repeat' split) <;> first | rfl | omega) (by unfold mC_apart; (repeat' split) <;> first | exact hR | (exfalso; omega)) (sC_r _)
  · refine lv_aload_n zC.1 zC.2.1 dX5_apart_8 rfl (lv_at hl 0 rfl) ?_
    refine lv_iload_n zC.1 zC.2.1 dX5_apart_9 rfl (lv_at hl 2 rfl) ?_
    refine zr_callV zC hG (c_X5_isTown (τ := τ) (σ := σ) (c := d) hR hI (by first | assumption | omega)) mt_X5_isTown wl_X5_169 pM rfl rfl ⟨by decide, by decide⟩ rfl hl.1 rfl (Nat.le_of_ble_eq_true rfl) dX5_apart_10 ⟨Nat.zero_le _, Nat.zero_le _⟩ (fun H locs hG => ?_)
    refine W.eq (g2 := F0 zm 13 ls [.int (zI (zB (isT τ d)))]) rfl ?_
    refine zr_ifeqB (tgt := 25) zC dX5_apart_13 (by decide) (fun c13 => ?_) (fun c13 => ?_)
    · refine zr_iconst zC dX5_apart_25 ?_
      exact zm_iret zC zK hG dX5_apart_26 (by unfold rC_apart; (repeat' split) <;> first | rfl | omega) (by unfold mC_apart; (repeat' split) <;> first | exact hR | (exfalso; omega)) (sC_r _)
    · refine lv_iload_n zC.1 zC.2.1 dX5_apart_16 rfl (lv_at hl 3 rfl) ?_
      refine lv_iload zC.1 zC.2.1 dX5_apart_17 (lv_at hl 4 rfl) ?_
      refine zr_callS zC hG (c_X5_areDays (σ := σ) (a := a) (b := b) (by first | assumption | omega) (by first | assumption | omega)) mt_X5_areDays wl_X5_191 ⟨by decide, by decide⟩ rfl hl.1 rfl (Nat.le_of_ble_eq_true rfl) dX5_apart_19 ⟨Nat.zero_le _, Nat.zero_le _⟩ (fun H locs hG => ?_)
      refine W.eq (g2 := F0 zm 22 ls [.int (zI (zB (0 ≤ a ∧ a ≤ b ∧ b ≤ 19999)))]) rfl ?_
      refine zr_ifneB (tgt := 27) zC dX5_apart_22 (by decide) (fun c22 => ?_) (fun c22 => ?_)
      · refine lv_iload_n zC.1 zC.2.1 dX5_apart_27 rfl (lv_at hl 3 rfl) ?_
        refine lv_istore (lv' := [(5, .int (zI a)), (0, .ref (aM Γ)), (1, .int (zI c)), (2, .int (zI d)), (3, .int (zI a)), (4, .int (zI b))]) zC.1 zC.2.1 dX5_apart_28 hl (by decide) rfl (fun ls hl => ?_)
        refine zr_iconst zC dX5_apart_30 ?_
        refine lv_istore (lv' := [(6, .int (zI (-1))), (5, .int (zI a)), (0, .ref (aM Γ)), (1, .int (zI c)), (2, .int (zI d)), (3, .int (zI a)), (4, .int (zI b))]) zC.1 zC.2.1 dX5_apart_31 hl (by decide) rfl (fun ls hl => ?_)
        refine lv_iload_n zC.1 zC.2.1 dX5_apart_33 rfl (lv_at hl 5 rfl) ?_
        refine lv_istore (lv' := [(7, .int (zI a)), (6, .int (zI (-1))), (5, .int (zI a)), (0, .ref (aM Γ)), (1, .int (zI c)), (2, .int (zI d)), (3, .int (zI a)), (4, .int (zI b))]) zC.1 zC.2.1 dX5_apart_34 hl (by decide) rfl (fun ls hl => ?_)
        obtain ⟨kca, kcb, kcc, kcd⟩ := hI.2.2.2.2.2.2.1 c (by omega) (by omega)
        obtain ⟨kda, kdb, kdc, kdd⟩ := hI.2.2.2.2.2.2.1 d (by omega) (by omega)
        have loop36 : ∀ (nf : Nat) (fs u x : Int) (σ36q : Mm) (H : Heap) (locs : List Loc) (ls : Array Slot), (a ≤ x ∧ x ≤ b + 1) → (u = mxI (fun z => max (cnt (τ 6 c 0) (τ 6 c 2) (τ 6 c 3) z - cnt (τ 6 d 0) (τ 6 d 2) (τ 6 d 3) z) (-(cnt (τ 6 c 0) (τ 6 c 2) (τ 6 c 3) z - cnt (τ 6 d 0) (τ 6 d 2) (τ 6 d 3) z))) a (x - a).toNat) → (fs = bsI (fun z => max (cnt (τ 6 c 0) (τ 6 c 2) (τ 6 c 3) z - cnt (τ 6 d 0) (τ 6 d 2) (τ 6 d 3) z) (-(cnt (τ 6 c 0) (τ 6 c 2) (τ 6 c 3) z - cnt (τ 6 d 0) (τ 6 d 2) (τ 6 d 3) z))) a a (x - a).toNat) → (Rel2 τ σ36q) → (sC σ σ36q) → (b + 1 - x < (nf : Int)) → GM Γ A σ36q zs H locs → lv_has ls 9 [(0, .ref (aM Γ)), (1, .int (zI c)), (2, .int (zI d)), (3, .int (zI a)), (4, .int (zI b)), (5, .int (zI fs)), (6, .int (zI u)), (7, .int (zI x))] → W zp zl ze { frames := 3, cells := 0, slots := 0, locals := 64 } zs zm args below meth zc H locs 0 0 zQ (F0 zm 36 ls []) := by
          intro nf
          induction nf with
          | zero =>
            intro fs u x σ36q H locs ls hx hu hf hR36q hC36q hm36 _ _
            exact absurd hm36 (by omega)
          | succ nf ih36 =>
            intro fs u x σ36q H locs ls hx hu hf hR36q hC36q hm36 hG hl
            have b36 := mxI_b (f := (fun z => max (cnt (τ 6 c 0) (τ 6 c 2) (τ 6 c 3) z - cnt (τ 6 d 0) (τ 6 d 2) (τ 6 d 3) z) (-(cnt (τ 6 c 0) (τ 6 c 2) (τ 6 c 3) z - cnt (τ 6 d 0) (τ 6 d 2) (τ 6 d 3) z)))) (a := a) (m := 18) (n := (x - a).toNat) (by omega) (fun z _ _ => by have h1 := cnt_r (k := τ 6 c 0) (o := τ 6 c 2) (d := z) kcd; have h2 := cnt_r (k := τ 6 d 0) (o := τ 6 d 2) (d := z) kdd; omega)
            rw [← hu] at b36
            refine lv_iload zC.1 zC.2.1 dX5_apart_36 (lv_at hl 7 rfl) ?_
            refine lv_iload zC.1 zC.2.1 dX5_apart_38 (lv_at hl 4 rfl) ?_
            refine zr_icmp_gt (tgt := 93) zC dX5_apart_40 (by decide) (by omega) (fun c40 => ?_) (fun c40 => ?_)
            · refine lv_aload_n zC.1 zC.2.1 dX5_apart_93 rfl (lv_at hl 0 rfl) ?_
              refine lv_iload zC.1 zC.2.1 dX5_apart_94 (lv_at hl 5 rfl) ?_
              refine lv_iload zC.1 zC.2.1 dX5_apart_96 (lv_at hl 6 rfl) ?_
              refine zr_callV zC hG (c_X5_ask (σ := σ36q) (v := fs) (w := u)) mt_X5_ask wl_X5_86 pM rfl rfl ⟨by decide, by decide⟩ rfl hl.1 rfl (Nat.le_of_ble_eq_true rfl) dX5_apart_98 ⟨Nat.zero_le _, Nat.zero_le _⟩ (fun H locs hG => ?_)
              refine W.eq (g2 := F0 zm 101 ls [.int (zI u)]) rfl ?_
              exact zm_iret zC zK hG dX5_apart_101 (by unfold rC_apart; rw [if_neg (by omega), hu, show x = b + 1 by omega]) (by unfold mC_apart; rw [if_neg (by omega), show bsI (fun z => max (cnt (τ 6 c 0) (τ 6 c 2) (τ 6 c 3) z - cnt (τ 6 d 0) (τ 6 d 2) (τ 6 d 3) z) (-(cnt (τ 6 c 0) (τ 6 c 2) (τ 6 c 3) z - cnt (τ 6 d 0) (τ 6 d 2) (τ 6 d 3) z))) a a (b + 1 - a).toNat = fs from (by rw [hf, show x = b + 1 by omega])]; exact (rl_ask hR36q)) (sC_up hC36q (by decide))
            · refine lv_aload_n zC.1 zC.2.1 dX5_apart_43 rfl (lv_at hl 0 rfl) ?_
              refine lv_iload_n zC.1 zC.2.1 dX5_apart_44 rfl (lv_at hl 1 rfl) ?_
              refine lv_iload zC.1 zC.2.1 dX5_apart_45 (lv_at hl 7 rfl) ?_
              refine zr_callV zC hG (c_X5_countIn (τ := τ) (σ := σ36q) (c := c) (d := x) hR36q hI (by first | assumption | omega) (by first | assumption | omega)) mt_X5_countIn wl_X5_201 pM rfl rfl ⟨by decide, by decide⟩ rfl hl.1 rfl (Nat.le_of_ble_eq_true rfl) dX5_apart_47 ⟨Nat.zero_le _, Nat.zero_le _⟩ (fun H locs hG => ?_)
              refine W.eq (g2 := F0 zm 50 ls [.int (zI (cnt (τ 6 c 0) (τ 6 c 2) (τ 6 c 3) x))]) rfl ?_
              have b47_0 := cnt_r (k := (τ 6 c 0)) (o := (τ 6 c 2)) (g := (τ 6 c 3)) (d := x) (hI.2.2.2.2.2.2.1 c (by omega) (by omega)).2.2.2
              refine lv_aload_n zC.1 zC.2.1 dX5_apart_50 rfl (lv_at hl 0 rfl) ?_
              refine lv_iload_n zC.1 zC.2.1 dX5_apart_51 rfl (lv_at hl 2 rfl) ?_
              refine lv_iload zC.1 zC.2.1 dX5_apart_52 (lv_at hl 7 rfl) ?_
              refine zr_callV zC hG (c_X5_countIn (τ := τ) (σ := up (up (up (up σ36q 20 0 19 (τ 6 c 0)) 20 0 20 (τ 6 c 1)) 20 0 21 (τ 6 c 2)) 20 0 22 (τ 6 c 3)) (c := d) (d := x) hR36q hI (by first | assumption | omega) (by first | assumption | omega)) mt_X5_countIn wl_X5_201 pM rfl rfl ⟨by decide, by decide⟩ rfl hl.1 rfl (Nat.le_of_ble_eq_true rfl) dX5_apart_54 ⟨Nat.zero_le _, Nat.zero_le _⟩ (fun H locs hG => ?_)
              refine W.eq (g2 := F0 zm 57 ls [.int (zI (cnt (τ 6 d 0) (τ 6 d 2) (τ 6 d 3) x)), .int (zI (cnt (τ 6 c 0) (τ 6 c 2) (τ 6 c 3) x))]) rfl ?_
              have b54_0 := cnt_r (k := (τ 6 d 0)) (o := (τ 6 d 2)) (g := (τ 6 d 3)) (d := x) (hI.2.2.2.2.2.2.1 d (by omega) (by omega)).2.2.2
              refine zr_callS zC hG (c_X5_apartOf (σ := up (up (up (up (up (up (up (up σ36q 20 0 19 (τ 6 c 0)) 20 0 20 (τ 6 c 1)) 20 0 21 (τ 6 c 2)) 20 0 22 (τ 6 c 3)) 20 0 19 (τ 6 d 0)) 20 0 20 (τ 6 d 1)) 20 0 21 (τ 6 d 2)) 20 0 22 (τ 6 d 3)) (a := cnt (τ 6 c 0) (τ 6 c 2) (τ 6 c 3) x) (b := cnt (τ 6 d 0) (τ 6 d 2) (τ 6 d 3) x) (by first | assumption | omega) (by first | assumption | omega)) mt_X5_apartOf wl_X5_204 ⟨by decide, by decide⟩ rfl hl.1 rfl (Nat.le_of_ble_eq_true rfl) dX5_apart_57 ⟨Nat.zero_le _, Nat.zero_le _⟩ (fun H locs hG => ?_)
              refine W.eq (g2 := F0 zm 60 ls [.int (zI (max ((cnt (τ 6 c 0) (τ 6 c 2) (τ 6 c 3) x) - (cnt (τ 6 d 0) (τ 6 d 2) (τ 6 d 3) x)) (-((cnt (τ 6 c 0) (τ 6 c 2) (τ 6 c 3) x) - (cnt (τ 6 d 0) (τ 6 d 2) (τ 6 d 3) x)))))]) rfl ?_
              refine lv_istore (lv' := [(8, .int (zI (max ((cnt (τ 6 c 0) (τ 6 c 2) (τ 6 c 3) x) - (cnt (τ 6 d 0) (τ 6 d 2) (τ 6 d 3) x)) (-((cnt (τ 6 c 0) (τ 6 c 2) (τ 6 c 3) x) - (cnt (τ 6 d 0) (τ 6 d 2) (τ 6 d 3) x)))))), (0, .ref (aM Γ)), (1, .int (zI c)), (2, .int (zI d)), (3, .int (zI a)), (4, .int (zI b)), (5, .int (zI fs)), (6, .int (zI u)), (7, .int (zI x))]) zC.1 zC.2.1 dX5_apart_60 hl (by decide) rfl (fun ls hl => ?_)
              refine lv_iload zC.1 zC.2.1 dX5_apart_62 (lv_at hl 0 rfl) ?_
              refine lv_iload zC.1 zC.2.1 dX5_apart_64 (lv_at hl 7 rfl) ?_
              refine zr_icmp_le (tgt := 74) zC dX5_apart_66 (by decide) (by omega) (fun c66 => ?_) (fun c66 => ?_)
              · refine lv_iload zC.1 zC.2.1 dX5_apart_74 (lv_at hl 6 rfl) ?_
                refine lv_istore (lv' := [(5, .int (zI fs)), (8, .int (zI (max ((cnt (τ 6 c 0) (τ 6 c 2) (τ 6 c 3) x) - (cnt (τ 6 d 0) (τ 6 d 2) (τ 6 d 3) x)) (-((cnt (τ 6 c 0) (τ 6 c 2) (τ 6 c 3) x) - (cnt (τ 6 d 0) (τ 6 d 2) (τ 6 d 3) x)))))), (0, .ref (aM Γ)), (1, .int (zI c)), (2, .int (zI d)), (3, .int (zI a)), (4, .int (zI b)), (6, .int (zI u)), (7, .int (zI x))]) zC.1 zC.2.1 dX5_apart_76 hl (by decide) rfl (fun ls hl => ?_)
                refine lv_iload zC.1 zC.2.1 dX5_apart_78 (lv_at hl 7 rfl) ?_
                refine lv_iload zC.1 zC.2.1 dX5_apart_80 (lv_at hl 1 rfl) ?_
                refine zr_callS zC hG (c_X5_greater (σ := up (up (up (up (up (up (up (up σ36q 20 0 19 (τ 6 c 0)) 20 0 20 (τ 6 c 1)) 20 0 21 (τ 6 c 2)) 20 0 22 (τ 6 c 3)) 20 0 19 (τ 6 d 0)) 20 0 20 (τ 6 d 1)) 20 0 21 (τ 6 d 2)) 20 0 22 (τ 6 d 3)) (a := u) (b := max ((cnt (τ 6 c 0) (τ 6 c 2) (τ 6 c 3) x) - (cnt (τ 6 d 0) (τ 6 d 2) (τ 6 d 3) x)) (-((cnt (τ 6 c 0) (τ 6 c 2) (τ 6 c 3) x) - (cnt (τ 6 d 0) (τ 6 d 2) (τ 6 d 3) x)))) (by first | assumption | omega) (by first | assumption | omega)) mt_X5_greater wl_X5_175 ⟨by decide, by decide⟩ rfl hl.1 rfl (Nat.le_of_ble_eq_true rfl) dX5_apart_82 ⟨Nat.zero_le _, Nat.zero_le _⟩ (fun H locs hG => ?_)
                refine W.eq (g2 := F0 zm 85 ls [.int (zI (max u (max ((cnt (τ 6 c 0) (τ 6 c 2) (τ 6 c 3) x) - (cnt (τ 6 d 0) (τ 6 d 2) (τ 6 d 3) x)) (-((cnt (τ 6 c 0) (τ 6 c 2) (τ 6 c 3) x) - (cnt (τ 6 d 0) (τ 6 d 2) (τ 6 d 3) x))))))]) rfl ?_
                refine lv_istore (lv' := [(6, .int (zI (max u (max ((cnt (τ 6 c 0) (τ 6 c 2) (τ 6 c 3) x) - (cnt (τ 6 d 0) (τ 6 d 2) (τ 6 d 3) x)) (-((cnt (τ 6 c 0) (τ 6 c 2) (τ 6 c 3) x) - (cnt (τ 6 d 0) (τ 6 d 2) (τ 6 d 3) x))))))), (5, .int (zI fs)), (8, .int (zI (max ((cnt (τ 6 c 0) (τ 6 c 2) (τ 6 c 3) x) - (cnt (τ 6 d 0) (τ 6 d 2) (τ 6 d 3) x)) (-((cnt (τ 6 c 0) (τ 6 c 2) (τ 6 c 3) x) - (cnt (τ 6 d 0) (τ 6 d 2) (τ 6 d 3) x)))))), (0, .ref (aM Γ)), (1, .int (zI c)), (2, .int (zI d)), (3, .int (zI a)), (4, .int (zI b)), (7, .int (zI x))]) zC.1 zC.2.1 dX5_apart_85 hl (by decide) rfl (fun ls hl => ?_)
                refine zr_iinc (lv' := [(7, .int (zI (x + 1))), (6, .int (zI (max u (max ((cnt (τ 6 c 0) (τ 6 c 2) (τ 6 c 3) x) - (cnt (τ 6 d 0) (τ 6 d 2) (τ 6 d 3) x)) (-((cnt (τ 6 c 0) (τ 6 c 2) (τ 6 c 3) x) - (cnt (τ 6 d 0) (τ 6 d 2) (τ 6 d 3) x))))))), (5, .int (zI fs)), (8, .int (zI (max ((cnt (τ 6 c 0) (τ 6 c 2) (τ 6 c 3) x) - (cnt (τ 6 d 0) (τ 6 d 2) (τ 6 d 3) x)) (-((cnt (τ 6 c 0) (τ 6 c 2) (τ 6 c 3) x) - (cnt (τ 6 d 0) (τ 6 d 2) (τ 6 d 3) x)))))), (0, .ref (aM Γ)), (1, .int (zI c)), (2, .int (zI d)), (3, .int (zI a)), (4, .int (zI b))]) zC dX5_apart_87 hl (k := 8) rfl (by decide) rfl (fun ls hl => ?_)
                refine lv_goto (tgt := 36) zC.1 zC.2.1 dX5_apart_90 (by decide) ?_
                exact ih36 fs (max u (max ((cnt (τ 6 c 0) (τ 6 c 2) (τ 6 c 3) x) - (cnt (τ 6 d 0) (τ 6 d 2) (τ 6 d 3) x)) (-((cnt (τ 6 c 0) (τ 6 c 2) (τ 6 c 3) x) - (cnt (τ 6 d 0) (τ 6 d 2) (τ 6 d 3) x))))) (x + 1) (up (up (up (up (up (up (up (up σ36q 20 0 19 (τ 6 c 0)) 20 0 20 (τ 6 c 1)) 20 0 21 (τ 6 c 2)) 20 0 22 (τ 6 c 3)) 20 0 19 (τ 6 d 0)) 20 0 20 (τ 6 d 1)) 20 0 21 (τ 6 d 2)) 20 0 22 (τ 6 d 3)) H locs ls (by first | assumption | omega) (by rw [mxI_s hx.1, ← hu]) (by rw [bsI_s hx.1, ← hu, ← hf]; split <;> omega) hR36q (sC_up (sC_up (sC_up (sC_up (sC_up (sC_up (sC_up (sC_up hC36q (by decide)) (by decide)) (by decide)) (by decide)) (by decide)) (by decide)) (by decide)) (by decide)) (by omega) hG (lv_sub hl [4, 5, 6, 7, 8, 2, 1, 0] rfl)
              · refine lv_iload zC.1 zC.2.1 dX5_apart_69 (lv_at hl 8 rfl) ?_
                refine lv_goto (tgt := 76) zC.1 zC.2.1 dX5_apart_71 (by decide) ?_
                refine lv_istore (lv' := [(5, .int (zI x)), (8, .int (zI (max ((cnt (τ 6 c 0) (τ 6 c 2) (τ 6 c 3) x) - (cnt (τ 6 d 0) (τ 6 d 2) (τ 6 d 3) x)) (-((cnt (τ 6 c 0) (τ 6 c 2) (τ 6 c 3) x) - (cnt (τ 6 d 0) (τ 6 d 2) (τ 6 d 3) x)))))), (0, .ref (aM Γ)), (1, .int (zI c)), (2, .int (zI d)), (3, .int (zI a)), (4, .int (zI b)), (6, .int (zI u)), (7, .int (zI x))]) zC.1 zC.2.1 dX5_apart_76 hl (by decide) rfl (fun ls hl => ?_)
                refine lv_iload zC.1 zC.2.1 dX5_apart_78 (lv_at hl 7 rfl) ?_
                refine lv_iload zC.1 zC.2.1 dX5_apart_80 (lv_at hl 1 rfl) ?_
                refine zr_callS zC hG (c_X5_greater (σ := up (up (up (up (up (up (up (up σ36q 20 0 19 (τ 6 c 0)) 20 0 20 (τ 6 c 1)) 20 0 21 (τ 6 c 2)) 20 0 22 (τ 6 c 3)) 20 0 19 (τ 6 d 0)) 20 0 20 (τ 6 d 1)) 20 0 21 (τ 6 d 2)) 20 0 22 (τ 6 d 3)) (a := u) (b := max ((cnt (τ 6 c 0) (τ 6 c 2) (τ 6 c 3) x) - (cnt (τ 6 d 0) (τ 6 d 2) (τ 6 d 3) x)) (-((cnt (τ 6 c 0) (τ 6 c 2) (τ 6 c 3) x) - (cnt (τ 6 d 0) (τ 6 d 2) (τ 6 d 3) x)))) (by first | assumption | omega) (by first | assumption | omega)) mt_X5_greater wl_X5_175 ⟨by decide, by decide⟩ rfl hl.1 rfl (Nat.le_of_ble_eq_true rfl) dX5_apart_82 ⟨Nat.zero_le _, Nat.zero_le _⟩ (fun H locs hG => ?_)
                refine W.eq (g2 := F0 zm 85 ls [.int (zI (max u (max ((cnt (τ 6 c 0) (τ 6 c 2) (τ 6 c 3) x) - (cnt (τ 6 d 0) (τ 6 d 2) (τ 6 d 3) x)) (-((cnt (τ 6 c 0) (τ 6 c 2) (τ 6 c 3) x) - (cnt (τ 6 d 0) (τ 6 d 2) (τ 6 d 3) x))))))]) rfl ?_
                refine lv_istore (lv' := [(6, .int (zI (max u (max ((cnt (τ 6 c 0) (τ 6 c 2) (τ 6 c 3) x) - (cnt (τ 6 d 0) (τ 6 d 2) (τ 6 d 3) x)) (-((cnt (τ 6 c 0) (τ 6 c 2) (τ 6 c 3) x) - (cnt (τ 6 d 0) (τ 6 d 2) (τ 6 d 3) x))))))), (5, .int (zI x)), (8, .int (zI (max ((cnt (τ 6 c 0) (τ 6 c 2) (τ 6 c 3) x) - (cnt (τ 6 d 0) (τ 6 d 2) (τ 6 d 3) x)) (-((cnt (τ 6 c 0) (τ 6 c 2) (τ 6 c 3) x) - (cnt (τ 6 d 0) (τ 6 d 2) (τ 6 d 3) x)))))), (0, .ref (aM Γ)), (1, .int (zI c)), (2, .int (zI d)), (3, .int (zI a)), (4, .int (zI b)), (7, .int (zI x))]) zC.1 zC.2.1 dX5_apart_85 hl (by decide) rfl (fun ls hl => ?_)
                refine zr_iinc (lv' := [(7, .int (zI (x + 1))), (6, .int (zI (max u (max ((cnt (τ 6 c 0) (τ 6 c 2) (τ 6 c 3) x) - (cnt (τ 6 d 0) (τ 6 d 2) (τ 6 d 3) x)) (-((cnt (τ 6 c 0) (τ 6 c 2) (τ 6 c 3) x) - (cnt (τ 6 d 0) (τ 6 d 2) (τ 6 d 3) x))))))), (5, .int (zI x)), (8, .int (zI (max ((cnt (τ 6 c 0) (τ 6 c 2) (τ 6 c 3) x) - (cnt (τ 6 d 0) (τ 6 d 2) (τ 6 d 3) x)) (-((cnt (τ 6 c 0) (τ 6 c 2) (τ 6 c 3) x) - (cnt (τ 6 d 0) (τ 6 d 2) (τ 6 d 3) x)))))), (0, .ref (aM Γ)), (1, .int (zI c)), (2, .int (zI d)), (3, .int (zI a)), (4, .int (zI b))]) zC dX5_apart_87 hl (k := 8) rfl (by decide) rfl (fun ls hl => ?_)
                refine lv_goto (tgt := 36) zC.1 zC.2.1 dX5_apart_90 (by decide) ?_
                exact ih36 x (max u (max ((cnt (τ 6 c 0) (τ 6 c 2) (τ 6 c 3) x) - (cnt (τ 6 d 0) (τ 6 d 2) (τ 6 d 3) x)) (-((cnt (τ 6 c 0) (τ 6 c 2) (τ 6 c 3) x) - (cnt (τ 6 d 0) (τ 6 d 2) (τ 6 d 3) x))))) (x + 1) (up (up (up (up (up (up (up (up σ36q 20 0 19 (τ 6 c 0)) 20 0 20 (τ 6 c 1)) 20 0 21 (τ 6 c 2)) 20 0 22 (τ 6 c 3)) 20 0 19 (τ 6 d 0)) 20 0 20 (τ 6 d 1)) 20 0 21 (τ 6 d 2)) 20 0 22 (τ 6 d 3)) H locs ls (by first | assumption | omega) (by rw [mxI_s hx.1, ← hu]) (by rw [bsI_s hx.1, ← hu, ← hf]; split <;> omega) hR36q (sC_up (sC_up (sC_up (sC_up (sC_up (sC_up (sC_up (sC_up hC36q (by decide)) (by decide)) (by decide)) (by decide)) (by decide)) (by decide)) (by decide)) (by decide)) (by omega) hG (lv_sub hl [4, 5, 6, 7, 8, 2, 1, 0] rfl)
        exact loop36 ((b + 1 - a : Int).toNat + 1) a (-1) a σ H locs ls (by first | assumption | omega) (by rw [show (a - a).toNat = 0 by omega]; rfl) (by rw [show (a - a).toNat = 0 by omega]; rfl) hR (sC_r _) (by omega) hG (lv_sub hl [3, 4, 5, 6, 7, 2, 1, 0] rfl)
      · refine zr_iconst zC dX5_apart_25 ?_
        exact zm_iret zC zK hG dX5_apart_26 (by unfold rC_apart; (repeat' split) <;> first | rfl | omega) (by unfold mC_apart; (repeat' split) <;> first | exact hR | (exfalso; omega)) (sC_r _)

set_option maxHeartbeats 4000000 in
set_option maxRecDepth 100000 in
theorem c_X5_due {Γ : Gm} {zl : Launch} {A : Nat → Prop} {τ σ : Mm} {c t y : Int} (hR : Rel2 τ σ) (hI : IC τ) (hc : -2147483648 ≤ c ∧ c < 2147483648) (ht : -2147483648 ≤ t ∧ t < 2147483648) (hy : -2147483648 ≤ y ∧ y < 2147483648) : Fr Γ zl A yX5_due cX5_due 5 (some .int) 4 88 [.ref (aM Γ), .int (zI c), .int (zI t), .int (zI y)] σ (some (.int (zI (rC_due τ c t y)))) (mC_due τ c t y) := by
  refine Fr_of (by decide) (Nat.le_of_ble_eq_true rfl) ?_
  intro zp ze zs zm args below meth zc zQ H locs ls zC zK hG hl
  have hl : lv_has ls 5 [(0, .ref (aM Γ)), (1, .int (zI c)), (2, .int (zI t)), (3, .int (zI y))] := hl
  obtain ⟨hmany, htoday, -⟩ := id hI
  refine lv_aload_n zC.1 zC.2.1 dX5_due_0 rfl (lv_at hl 0 rfl) ?_
  refine lv_iload_n zC.1 zC.2.1 dX5_due_1 rfl (lv_at hl 1 rfl) ?_
  refine zr_callV zC hG (c_X5_isTown (τ := τ) (σ := σ) (c := c) hR hI (by first | assumption | omega)) mt_X5_isTown wl_X5_169 pM rfl rfl ⟨by decide, by decide⟩ rfl hl.1 rfl (Nat.le_of_ble_eq_true rfl) dX5_due_2 ⟨Nat.zero_le _, Nat.zero_le _⟩ (fun H locs hG => ?_)
  refine W.eq (g2 := F0 zm 5 ls [.int (zI (zB (isT τ c)))]) rfl ?_
  refine zr_ifeqB (tgt := 22) zC dX5_due_5 (by decide) (fun c5 => ?_) (fun c5 => ?_)
  · refine zr_iconst zC dX5_due_22 ?_
    exact zm_iret zC zK hG dX5_due_23 (by unfold rC_due; (repeat' split) <;> first | rfl | omega) (by unfold mC_due; (repeat' split) <;> first | exact hR | (exfalso; omega)) (sC_r _)
  · refine lv_iload_n zC.1 zC.2.1 dX5_due_8 rfl (lv_at hl 2 rfl) ?_
    refine zr_if_lt (tgt := 22) zC dX5_due_9 (by decide) (by omega) (fun c9 => ?_) (fun c9 => ?_)
    · refine zr_iconst zC dX5_due_22 ?_
      exact zm_iret zC zK hG dX5_due_23 (by unfold rC_due; (repeat' split) <;> first | rfl | omega) (by unfold mC_due; (repeat' split) <;> first | exact hR | (exfalso; omega)) (sC_r _)
    · refine lv_iload_n zC.1 zC.2.1 dX5_due_12 rfl (lv_at hl 3 rfl) ?_
      refine zr_iconst zC dX5_due_13 ?_
      refine zr_bipush zC dX5_due_14 (by decide +kernel) ?_
      refine zr_callS zC hG (c_X5_in (σ := σ) (v := y) (a := 0) (b := 50) (by first | assumption | omega) (by first | assumption | omega) (by first | assumption | omega)) mt_X5_in wl_X5_60 ⟨by decide, by decide⟩ rfl hl.1 rfl (Nat.le_of_ble_eq_true rfl) dX5_due_16 ⟨Nat.zero_le _, Nat.zero_le _⟩ (fun H locs hG => ?_)
      refine W.eq (g2 := F0 zm 19 ls [.int (zI (zB (0 ≤ y ∧ y ≤ 50)))]) rfl ?_
      refine zr_ifneB (tgt := 24) zC dX5_due_19 (by decide) (fun c19 => ?_) (fun c19 => ?_)
      · refine lv_aload_n zC.1 zC.2.1 dX5_due_24 rfl (lv_at hl 0 rfl) ?_
        refine lv_iload_n zC.1 zC.2.1 dX5_due_25 rfl (lv_at hl 1 rfl) ?_
        refine lv_iload_n zC.1 zC.2.1 dX5_due_26 rfl (lv_at hl 2 rfl) ?_
        refine zr_callV zC hG (c_X5_dayIn (τ := τ) (σ := σ) (c := c) (t := t) hR hI (by first | assumption | omega) (by first | assumption | omega)) mt_X5_dayIn wl_X5_185 pM rfl rfl ⟨by decide, by decide⟩ rfl hl.1 rfl (Nat.le_of_ble_eq_true rfl) dX5_due_27 ⟨Nat.zero_le _, Nat.zero_le _⟩ (fun H locs hG => ?_)
        refine W.eq (g2 := F0 zm 30 ls [.int (zI (dyM (dyD (τ 6 c 0) (τ 6 c 1) (τ 6 c 2) (τ 6 c 3) t)))]) rfl ?_
        have b27_0 := dyD_r (k := (τ 6 c 0)) (lp := (τ 6 c 1)) (o := (τ 6 c 2)) (g := (τ 6 c 3)) (t := t) (hI.2.2.2.2.2.2.1 c (by omega) (by omega)).2.1 (hI.2.2.2.2.2.2.1 c (by omega) (by omega)).2.2.1.1
        have b27_1 := dyM_s (dyD (τ 6 c 0) (τ 6 c 1) (τ 6 c 2) (τ 6 c 3) t)
        refine lv_istore (lv' := [(4, .int (zI (dyM (dyD (τ 6 c 0) (τ 6 c 1) (τ 6 c 2) (τ 6 c 3) t)))), (0, .ref (aM Γ)), (1, .int (zI c)), (2, .int (zI t)), (3, .int (zI y))]) zC.1 zC.2.1 dX5_due_30 hl (by decide) rfl (fun ls hl => ?_)
        refine lv_iload zC.1 zC.2.1 dX5_due_32 (lv_at hl 0 rfl) ?_
        refine zr_bipush zC dX5_due_34 (by decide +kernel) ?_
        refine zr_icmp_ne (tgt := 47) zC dX5_due_36 (by decide) (by omega) (fun c36 => ?_) (fun c36 => ?_)
        · obtain ⟨kca, kcb, kcc, kcd⟩ := hI.2.2.2.2.2.2.1 c (by omega) (by omega)
          have h36 := dyD_lt (t := t) (k := τ 6 c 0) (o := τ 6 c 2) kcb kcd (by omega)
          refine lv_aload_n zC.1 zC.2.1 dX5_due_47 rfl (lv_at hl 1 rfl) ?_
          refine lv_iload zC.1 zC.2.1 dX5_due_48 (lv_at hl 0 rfl) ?_
          refine zr_bipush zC dX5_due_50 (by decide +kernel) ?_
          refine lv_iload_n zC.1 zC.2.1 dX5_due_52 rfl (lv_at hl 4 rfl) ?_
          refine zr_imul zC dX5_due_53 ?_
          refine zr_iadd zC dX5_due_54 ?_
          refine zr_topi (y := dyD (τ 6 c 0) (τ 6 c 1) (τ 6 c 2) (τ 6 c 3) t + 100 * y) (by omega) ?_
          refine lv_aload_n zC.1 zC.2.1 dX5_due_55 rfl (lv_at hl 1 rfl) ?_
          refine lv_iload_n zC.1 zC.2.1 dX5_due_56 rfl (lv_at hl 3 rfl) ?_
          refine zr_sipush zC dX5_due_57 (by decide +kernel) ?_
          refine lv_iload_n zC.1 zC.2.1 dX5_due_60 rfl (lv_at hl 4 rfl) ?_
          refine zr_imul zC dX5_due_61 ?_
          refine zr_iadd zC dX5_due_62 ?_
          have k63 := hI.2.2.2.2.2.2.1 c (by omega) (by omega)
          obtain ⟨k63a, k63b, k63c, k63d⟩ := id k63
          refine zr_callV zC hG (c_X5_dayOfDate (σ := up (up (up (up σ 20 0 19 (τ 6 c 0)) 20 0 20 (τ 6 c 1)) 20 0 21 (τ 6 c 2)) 20 0 22 (τ 6 c 3)) (t := t + (1000 * y)) k63 (by first | assumption | omega)) mt_X5_dayOfDate wl_X5_163 pM rfl rfl ⟨by decide, by decide⟩ rfl hl.1 rfl (Nat.le_of_ble_eq_true rfl) dX5_due_63 ⟨Nat.zero_le _, Nat.zero_le _⟩ (fun H locs hG => ?_)
          refine W.eq (g2 := F0 zm 66 ls [.int (zI (dyM (dyD (τ 6 c 0) (τ 6 c 1) (τ 6 c 2) (τ 6 c 3) (t + (1000 * y))))), .int (zI (dyD (τ 6 c 0) (τ 6 c 1) (τ 6 c 2) (τ 6 c 3) t + 100 * y)), .ref (aM Γ)]) rfl ?_
          have b63_0 := dyD_r (k := (τ 6 c 0)) (lp := (τ 6 c 1)) (o := (τ 6 c 2)) (g := (τ 6 c 3)) (t := (t + (1000 * y))) (by omega) (by omega)
          have b63_1 := dyM_s (dyD (τ 6 c 0) (τ 6 c 1) (τ 6 c 2) (τ 6 c 3) (t + (1000 * y)))
          refine zr_callV zC hG (c_X5_ask (σ := up (up (up (up σ 20 0 19 (τ 6 c 0)) 20 0 20 (τ 6 c 1)) 20 0 21 (τ 6 c 2)) 20 0 22 (τ 6 c 3)) (v := dyD (τ 6 c 0) (τ 6 c 1) (τ 6 c 2) (τ 6 c 3) t + 100 * y) (w := dyM (dyD (τ 6 c 0) (τ 6 c 1) (τ 6 c 2) (τ 6 c 3) (t + (1000 * y))))) mt_X5_ask wl_X5_86 pM rfl rfl ⟨by decide, by decide⟩ rfl hl.1 rfl (Nat.le_of_ble_eq_true rfl) dX5_due_66 ⟨Nat.zero_le _, Nat.zero_le _⟩ (fun H locs hG => ?_)
          refine W.eq (g2 := F0 zm 69 ls [.int (zI (dyM (dyD (τ 6 c 0) (τ 6 c 1) (τ 6 c 2) (τ 6 c 3) (t + (1000 * y)))))]) rfl ?_
          exact zm_iret zC zK hG dX5_due_69 (by unfold rC_due; (repeat' split) <;> first | rfl | omega) (by unfold mC_due; (repeat' split) <;> first | exact (rl_ask hR) | (exfalso; omega)) (sC_up (sC_up (sC_up (sC_up (sC_up (sC_r _) (by decide)) (by decide)) (by decide)) (by decide)) (by decide))
        · refine lv_aload_n zC.1 zC.2.1 dX5_due_39 rfl (lv_at hl 1 rfl) ?_
          refine zr_iconst zC dX5_due_40 ?_
          refine zr_callV zC hG (c_X5_meet (σ := up (up (up (up σ 20 0 19 (τ 6 c 0)) 20 0 20 (τ 6 c 1)) 20 0 21 (τ 6 c 2)) 20 0 22 (τ 6 c 3)) (f := 4) (by first | assumption | omega)) mt_X5_meet wl_X5_68 pM rfl rfl ⟨by decide, by decide⟩ rfl hl.1 rfl (Nat.le_of_ble_eq_true rfl) dX5_due_41 ⟨Nat.zero_le _, Nat.zero_le _⟩ (fun H locs hG => ?_)
          refine W.eq (g2 := F0 zm 44 ls [.int (zI (-3))]) rfl ?_
          refine lv_goto (tgt := 69) zC.1 zC.2.1 dX5_due_44 (by decide) ?_
          exact zm_iret zC zK hG dX5_due_69 (by unfold rC_due; (repeat' split) <;> first | rfl | omega) (by unfold mC_due; (repeat' split) <;> first | exact (rl_fd hR (by omega)) | (exfalso; omega)) (sC_up (sC_up (sC_up (sC_up (sC_up (sC_up (sC_r _) (by decide)) (by decide)) (by decide)) (by decide)) (by decide)) (by decide))
      · refine zr_iconst zC dX5_due_22 ?_
        exact zm_iret zC zK hG dX5_due_23 (by unfold rC_due; (repeat' split) <;> first | rfl | omega) (by unfold mC_due; (repeat' split) <;> first | exact hR | (exfalso; omega)) (sC_r _)
