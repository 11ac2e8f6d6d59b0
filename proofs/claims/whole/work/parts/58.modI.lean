set_option maxHeartbeats 4000000 in
set_option maxRecDepth 100000 in
theorem c_X5_here {Γ : Gm} {zl : Launch} {A : Nat → Prop} {τ σ : Mm} {t x : Int} (hR : Rel2 τ σ) (hI : IC τ) (ht : 0 ≤ t ∧ t < 4) (hx : σ 20 0 16 = x) (hx2 : 0 ≤ x ∧ x ≤ 67) (hn : 0 ≤ τ 4 t 1 ∧ τ 4 t 1 ≤ 60) : Fn Γ zl A yX5_here cX5_here 2 (some .int) 0 0 [.ref (aM Γ), .int (zI t)] σ (some (.int (zI (hrI (fun q => τ 5 t q) (τ 4 t 1) x)))) σ := by
  refine Fn_of (by decide) (Nat.le_of_ble_eq_true rfl) ?_
  intro zp ze zs zm args below meth zc zQ H locs ls zC zK hG hl
  have hl : lv_has ls 2 [(0, .ref (aM Γ)), (1, .int (zI t))] := hl
  obtain ⟨hmany, htoday, -⟩ := id hI
  refine lv_aload_n zC.1 zC.2.1 dX5_here_0 rfl (lv_at hl 0 rfl) ?_
  refine gf_M_readAt (v := x) zC hG wl_X5_95 hx dX5_here_1 ?_
  refine lv_aload_n zC.1 zC.2.1 dX5_here_4 rfl (lv_at hl 0 rfl) ?_
  refine gf_M_lengths zC hG wl_X5_26 dX5_here_5 ?_
  refine lv_iload_n zC.1 zC.2.1 dX5_here_8 rfl (lv_at hl 1 rfl) ?_
  refine gi_m_lengths (v := szM (τ 4 t 1)) zC hG (by omega) (hR.2.2.2.2.1 t (by omega) (by omega)) dX5_here_9 ?_
  have f9 := hI.2.2.2.2.1 t (by omega) (by omega)
  have f9s := szM_s (τ 4 t 1)
  refine zr_icmp_ge (tgt := 30) zC dX5_here_10 (by decide) (by omega) (fun c10 => ?_) (fun c10 => ?_)
  · refine zr_bipush zC dX5_here_30 (by decide +kernel) ?_
    exact zr_iret zC zK hG dX5_here_32 (by unfold hrI; (repeat' split) <;> first | rfl | omega) rfl
  · refine lv_aload_n zC.1 zC.2.1 dX5_here_13 rfl (lv_at hl 0 rfl) ?_
    refine gf_M_texts zC hG wl_X5_29 dX5_here_14 ?_
    refine zr_bipush zC dX5_here_17 (by decide +kernel) ?_
    refine lv_iload_n zC.1 zC.2.1 dX5_here_19 rfl (lv_at hl 1 rfl) ?_
    refine zr_imul zC dX5_here_20 ?_
    refine lv_aload_n zC.1 zC.2.1 dX5_here_21 rfl (lv_at hl 0 rfl) ?_
    refine gf_M_readAt (v := x) zC hG wl_X5_95 hx dX5_here_22 ?_
    refine zr_iadd zC dX5_here_25 ?_
    refine gi_m_texts (v := τ 5 t x) zC hG (by omega) (hR.2.2.2.2.2.1 t x (by omega) (by omega) (by omega) (by omega)) dX5_here_26 ?_
    refine lv_goto (tgt := 32) zC.1 zC.2.1 dX5_here_27 (by decide) ?_
    exact zr_iret zC zK hG dX5_here_32 (by unfold hrI; (repeat' split) <;> first | rfl | omega) rfl

set_option maxHeartbeats 4000000 in
set_option maxRecDepth 100000 in
theorem c_X5_figure {Γ : Gm} {zl : Launch} {A : Nat → Prop} {τ σ : Mm} {t lo x : Int} (hR : Rel2 τ σ) (hI : IC τ) (ht : 0 ≤ t ∧ t < 4) (hlo : 0 ≤ lo ∧ lo ≤ 2) (hx : σ 20 0 16 = x) (hx2 : 0 ≤ x ∧ x ≤ 67) (hn : 0 ≤ τ 4 t 1 ∧ τ 4 t 1 ≤ 60) : Fn Γ zl A yX5_figure cX5_figure 4 (some .int) 1 22 [.ref (aM Γ), .int (zI t), .int (zI lo)] σ (some (.int (zI (fgI (fun q => τ 5 t q) (τ 4 t 1) lo x)))) (mFg σ x (fgI (fun q => τ 5 t q) (τ 4 t 1) lo x)) := by
  refine Fn_of (by decide) (Nat.le_of_ble_eq_true rfl) ?_
  intro zp ze zs zm args below meth zc zQ H locs ls zC zK hG hl
  have hl : lv_has ls 4 [(0, .ref (aM Γ)), (1, .int (zI t)), (2, .int (zI lo))] := hl
  obtain ⟨hmany, htoday, -⟩ := id hI
  refine lv_aload_n zC.1 zC.2.1 dX5_figure_0 rfl (lv_at hl 0 rfl) ?_
  refine lv_iload_n zC.1 zC.2.1 dX5_figure_1 rfl (lv_at hl 1 rfl) ?_
  refine zr_callV zC hG (c_X5_here (τ := τ) (σ := σ) (t := t) (x := x) hR hI (by first | assumption | omega) hx (by first | assumption | omega) (by first | assumption | omega)) mt_X5_here wl_X5_98 pM rfl rfl ⟨by decide, by decide⟩ rfl hl.1 rfl (Nat.le_of_ble_eq_true rfl) dX5_figure_2 ⟨Nat.zero_le _, Nat.zero_le _⟩ (fun H locs hG => ?_)
  refine W.eq (g2 := F0 zm 5 ls [.int (zI (hrI (fun q => τ 5 t q) (τ 4 t 1) x))]) rfl ?_
  have b2_0 := hr_r hI (t := t) (x := x) (by omega) (by omega)
  have b5 := fg_r (fun q => τ 5 t q) (τ 4 t 1) lo x
  refine zr_bipush zC dX5_figure_5 (by decide +kernel) ?_
  refine zr_isub zC dX5_figure_7 ?_
  refine lv_istore_n (lv' := [(3, .int (zI ((hrI (fun q => τ 5 t q) (τ 4 t 1) x) - 48))), (0, .ref (aM Γ)), (1, .int (zI t)), (2, .int (zI lo))]) zC.1 zC.2.1 dX5_figure_8 rfl hl (by decide) rfl (fun ls hl => ?_)
  refine lv_iload_n zC.1 zC.2.1 dX5_figure_9 rfl (lv_at hl 0 rfl) ?_
  refine lv_iload_n zC.1 zC.2.1 dX5_figure_10 rfl (lv_at hl 3 rfl) ?_
  refine zr_bipush zC dX5_figure_11 (by decide +kernel) ?_
  refine zr_callS zC hG (c_X5_in (σ := σ) (v := (hrI (fun q => τ 5 t q) (τ 4 t 1) x) - 48) (a := lo) (b := 9) (by first | assumption | omega) (by first | assumption | omega) (by first | assumption | omega)) mt_X5_in wl_X5_60 ⟨by decide, by decide⟩ rfl hl.1 rfl (Nat.le_of_ble_eq_true rfl) dX5_figure_13 ⟨Nat.zero_le _, Nat.zero_le _⟩ (fun H locs hG => ?_)
  refine W.eq (g2 := F0 zm 16 ls [.int (zI (zB (lo ≤ ((hrI (fun q => τ 5 t q) (τ 4 t 1) x) - 48) ∧ ((hrI (fun q => τ 5 t q) (τ 4 t 1) x) - 48) ≤ 9)))]) rfl ?_
  refine zr_ifneB (tgt := 22) zC dX5_figure_16 (by decide) (fun c16 => ?_) (fun c16 => ?_)
  · refine lv_aload_n zC.1 zC.2.1 dX5_figure_22 rfl (lv_at hl 1 rfl) ?_
    refine lv_dup zC.1 zC.2.1 dX5_figure_23 rfl ?_
    refine gf_M_readAt (v := x) zC hG wl_X5_95 hx dX5_figure_24 ?_
    refine zr_iconst zC dX5_figure_27 ?_
    refine zr_iadd zC dX5_figure_28 ?_
    refine pf_M_readAt zC hG wl_X5_95 dX5_figure_29 (fun H locs hG => ?_)
    refine lv_iload_n zC.1 zC.2.1 dX5_figure_32 rfl (lv_at hl 0 rfl) ?_
    exact zr_iret zC zK hG dX5_figure_33 (by unfold fgI; rw [if_pos (by omega)]) (by unfold fgI; rw [if_pos (by omega)]; exact mFg_1 (by omega) rfl)
  · refine zr_bipush zC dX5_figure_19 (by decide +kernel) ?_
    exact zr_iret zC zK hG dX5_figure_21 (by unfold fgI; rw [if_neg (by omega)]) (by unfold fgI; rw [if_neg (by omega)]; exact mFg_0 rfl)

set_option maxHeartbeats 4000000 in
set_option maxRecDepth 100000 in
theorem c_X5_readsTown {Γ : Gm} {zl : Launch} {A : Nat → Prop} {τ σ : Mm} {t x u : Int} (hR : Rel2 τ σ) (hI : IC τ) (ht : 0 ≤ t ∧ t < 4) (hx : σ 20 0 16 = x) (hu : σ 20 0 17 = u) (hx2 : 0 ≤ x ∧ x < τ 4 t 1) (hn : 0 ≤ τ 4 t 1 ∧ τ 4 t 1 ≤ 60) (hu2 : 0 ≤ u ∧ u ≤ 5) : Fp Γ zl A yX5_readsTown cX5_readsTown 6 (some .boolean) 2 45 [.ref (aM Γ), .int (zI t)] σ (some (.int (zI (zB (u ≠ 5 ∧ foI (fun q => τ 5 t q) (τ 4 t 1) x = -9))))) (phT (fun q => τ 5 t q) (τ 4 t 1) x u σ) := by
  refine Fp_of (by decide) (Nat.le_of_ble_eq_true rfl) ?_
  intro zp ze zs zm args below meth zc zQ H locs ls zC zK hG hl
  have hl : lv_has ls 6 [(0, .ref (aM Γ)), (1, .int (zI t))] := hl
  obtain ⟨hmany, htoday, -⟩ := id hI
  refine lv_aload_n zC.1 zC.2.1 dX5_readsTown_0 rfl (lv_at hl 0 rfl) ?_
  refine lv_iload_n zC.1 zC.2.1 dX5_readsTown_1 rfl (lv_at hl 1 rfl) ?_
  refine zr_callV zC hG (c_X5_here (τ := τ) (σ := σ) (t := t) (x := x) hR hI (by first | assumption | omega) hx (by first | assumption | omega) (by first | assumption | omega)) mt_X5_here wl_X5_98 pM rfl rfl ⟨by decide, by decide⟩ rfl hl.1 rfl (Nat.le_of_ble_eq_true rfl) dX5_readsTown_2 ⟨Nat.zero_le _, Nat.zero_le _⟩ (fun H locs hG => ?_)
  refine W.eq (g2 := F0 zm 5 ls [.int (zI (hrI (fun q => τ 5 t q) (τ 4 t 1) x))]) rfl ?_
  have b2_0 := hr_r hI (t := t) (x := x) (by omega) (by omega)
  have b5 := hI.2.2.2.2.2.1 t x (by omega) (by omega) (by omega) (by omega)
  refine zr_topi (y := τ 5 t x) (hr_1 (f := fun q => τ 5 t q) (by omega)) ?_
  refine zr_callS zC hG (c_X5_kindBy (σ := σ) (g := τ 5 t x) (by first | assumption | omega)) mt_X5_kindBy wl_X5_101 ⟨by decide, by decide⟩ rfl hl.1 rfl (Nat.le_of_ble_eq_true rfl) dX5_readsTown_5 ⟨Nat.zero_le _, Nat.zero_le _⟩ (fun H locs hG => ?_)
  refine W.eq (g2 := F0 zm 8 ls [.int (zI (kdB (τ 5 t x)))]) rfl ?_
  have b5_0 := kdB_r (τ 5 t x)
  refine lv_istore_n (lv' := [(2, .int (zI (kdB (τ 5 t x)))), (0, .ref (aM Γ)), (1, .int (zI t))]) zC.1 zC.2.1 dX5_readsTown_8 rfl hl (by decide) rfl (fun ls hl => ?_)
  refine lv_iload_n zC.1 zC.2.1 dX5_readsTown_9 rfl (lv_at hl 0 rfl) ?_
  refine zr_bipush zC dX5_readsTown_10 (by decide +kernel) ?_
  refine zr_icmp_eq (tgt := 23) zC dX5_readsTown_12 (by decide) (by omega) (fun c12 => ?_) (fun c12 => ?_)
  · have z12 : foI (fun q => τ 5 t q) (τ 4 t 1) x = x := (fo_f (f := (fun q => τ 5 t q)) 6 0 (Or.inr (by rw [show x + 0 = x by omega]; show ¬ ftP (τ 5 t x) 0; omega)) (by omega)).trans (by omega)
    refine zr_iconst zC dX5_readsTown_23 ?_
    exact zp_zret zC zK hG dX5_readsTown_24 (zB_f (by omega)) (Or.inl rfl) ⟨sP_r _, fun z => absurd z (by omega), fun _ => by rw [hx]; split <;> omega⟩
  · have e0 : foI (fun q => τ 5 t q) (τ 4 t 1) x = foP (fun q => τ 5 t q) (τ 4 t 1) x 6 1 := fo_t 6 0 1 rfl (by omega) (by rw [show x + 0 = x by omega]; show ftP (τ 5 t x) 0; omega)
    refine lv_aload_n zC.1 zC.2.1 dX5_readsTown_15 rfl (lv_at hl 1 rfl) ?_
    refine gf_M_readMany (v := u) zC hG wl_X5_104 hu dX5_readsTown_16 ?_
    refine zr_iconst zC dX5_readsTown_19 ?_
    refine zr_icmp_ne (tgt := 25) zC dX5_readsTown_20 (by decide) (by omega) (fun c20 => ?_) (fun c20 => ?_)
    · refine lv_aload_n zC.1 zC.2.1 dX5_readsTown_25 rfl (lv_at hl 1 rfl) ?_
      refine lv_dup zC.1 zC.2.1 dX5_readsTown_26 rfl ?_
      refine gf_M_readAt (v := x) zC hG wl_X5_95 hx dX5_readsTown_27 ?_
      refine zr_iconst zC dX5_readsTown_30 ?_
      refine zr_iadd zC dX5_readsTown_31 ?_
      refine pf_M_readAt zC hG wl_X5_95 dX5_readsTown_32 (fun H locs hG => ?_)
      refine zr_iconst zC dX5_readsTown_35 ?_
      refine lv_aload_n zC.1 zC.2.1 dX5_readsTown_36 rfl (lv_at hl 1 rfl) ?_
      refine gf_M_readMany (v := u) zC hG wl_X5_104 hu dX5_readsTown_37 ?_
      refine zr_imul zC dX5_readsTown_40 ?_
      refine lv_istore_n (lv' := [(3, .int (zI (4 * u))), (2, .int (zI (kdB (τ 5 t x)))), (0, .ref (aM Γ)), (1, .int (zI t))]) zC.1 zC.2.1 dX5_readsTown_41 rfl hl (by decide) rfl (fun ls hl => ?_)
      refine lv_aload_n zC.1 zC.2.1 dX5_readsTown_42 rfl (lv_at hl 2 rfl) ?_
      refine gf_M_read zC hG wl_X5_44 dX5_readsTown_43 ?_
      refine lv_iload_n zC.1 zC.2.1 dX5_readsTown_46 rfl (lv_at hl 0 rfl) ?_
      refine lv_iload_n zC.1 zC.2.1 dX5_readsTown_47 rfl (lv_at hl 1 rfl) ?_
      refine pi_m_read zC hG (by omega) dX5_readsTown_48 (fun H locs hG => ?_)
      refine lv_aload_n zC.1 zC.2.1 dX5_readsTown_49 rfl (lv_at hl 2 rfl) ?_
      refine gf_M_read zC hG wl_X5_44 dX5_readsTown_50 ?_
      refine lv_iload_n zC.1 zC.2.1 dX5_readsTown_53 rfl (lv_at hl 0 rfl) ?_
      refine zr_iconst zC dX5_readsTown_54 ?_
      refine zr_iadd zC dX5_readsTown_55 ?_
      refine zr_iconst zC dX5_readsTown_56 ?_
      refine pi_m_read zC hG (by omega) dX5_readsTown_57 (fun H locs hG => ?_)
      refine zr_iconst zC dX5_readsTown_58 ?_
      refine lv_istore (lv' := [(4, .int (zI 0)), (3, .int (zI (4 * u))), (2, .int (zI (kdB (τ 5 t x)))), (0, .ref (aM Γ)), (1, .int (zI t))]) zC.1 zC.2.1 dX5_readsTown_59 hl (by decide) rfl (fun ls hl => ?_)
      refine lv_iload zC.1 zC.2.1 dX5_readsTown_61 (lv_at hl 0 rfl) ?_
      refine zr_bipush zC dX5_readsTown_63 (by decide +kernel) ?_
      refine zr_icmp_ge (tgt := 159) zC dX5_readsTown_65 (by decide) (by omega) (fun c65 => ?_) (fun c65 => ?_)
      · exact absurd c65 (by omega)
      · refine lv_aload_n zC.1 zC.2.1 dX5_readsTown_68 rfl (lv_at hl 3 rfl) ?_
        refine lv_iload_n zC.1 zC.2.1 dX5_readsTown_69 rfl (lv_at hl 4 rfl) ?_
        refine lv_iload zC.1 zC.2.1 dX5_readsTown_70 (lv_at hl 0 rfl) ?_
        refine zr_if_ne (tgt := 79) zC dX5_readsTown_72 (by decide) (by omega) (fun c72 => ?_) (fun c72 => ?_)
        · exact absurd c72 (by omega)
        · refine zr_iconst zC dX5_readsTown_75 ?_
          refine lv_goto (tgt := 80) zC.1 zC.2.1 dX5_readsTown_76 (by decide) ?_
          refine zr_callV zC hG (c_X5_figure (τ := τ) (σ := up (up (up σ 20 0 16 (x + 1)) 31 0 (4 * u) (kdB (τ 5 t x))) 31 0 ((4 * u) + 2) 0) (t := t) (lo := 2) (x := (x + 1)) hR hI (by first | assumption | omega) (by first | assumption | omega) (by first | rfl | simp [up]) (by first | assumption | omega) (by first | assumption | omega)) mt_X5_figure wl_X5_107 pM rfl rfl ⟨by decide, by decide⟩ rfl hl.1 rfl (Nat.le_of_ble_eq_true rfl) dX5_readsTown_80 ⟨Nat.zero_le _, Nat.zero_le _⟩ (fun H locs hG => ?_)
          refine W.eq (g2 := F0 zm 83 ls [.int (zI (fgI (fun q => τ 5 t q) (τ 4 t 1) 2 (x + 1)))]) rfl ?_
          have b80_0 := fg_r (fun q => (τ 5 t q)) (τ 4 t 1) 2 (x + 1)
          refine lv_istore (lv' := [(5, .int (zI (fgI (fun q => τ 5 t q) (τ 4 t 1) 2 (x + 1)))), (4, .int (zI 0)), (3, .int (zI (4 * u))), (2, .int (zI (kdB (τ 5 t x)))), (0, .ref (aM Γ)), (1, .int (zI t))]) zC.1 zC.2.1 dX5_readsTown_83 hl (by decide) rfl (fun ls hl => ?_)
          refine lv_iload zC.1 zC.2.1 dX5_readsTown_85 (lv_at hl 0 rfl) ?_
          refine zr_bipush zC dX5_readsTown_87 (by decide +kernel) ?_
          refine zr_icmp_ne (tgt := 94) zC dX5_readsTown_89 (by decide) (by omega) (fun c89 => ?_) (fun c89 => ?_)
          · obtain ⟨g0a, g0b, g0c, g0d⟩ := fg_1 (f := (fun q => τ 5 t q)) (n := (τ 4 t 1)) (lo := 2) (x := x + 1) (by omega) (by omega)
            have e1 : foI (fun q => τ 5 t q) (τ 4 t 1) x = foP (fun q => τ 5 t q) (τ 4 t 1) x 5 2 := e0.trans (fo_t 5 1 2 rfl (by omega) (by omega))
            have hG := (show mFg (up (up (up σ 20 0 16 (x + 1)) 31 0 (4 * u) (kdB (τ 5 t x))) 31 0 ((4 * u) + 2) 0) (x + 1) (fgI (fun q => τ 5 t q) (τ 4 t 1) 2 (x + 1)) = up (up (up (up σ 20 0 16 (x + 1)) 31 0 (4 * u) (kdB (τ 5 t x))) 31 0 ((4 * u) + 2) 0) 20 0 16 (x + 2) from mFg_1 (by omega) (by omega)) ▸ hG
            refine lv_iload zC.1 zC.2.1 dX5_readsTown_94 (lv_at hl 1 rfl) ?_
            refine zr_if_ne (tgt := 112) zC dX5_readsTown_96 (by decide) (by omega) (fun c96 => ?_) (fun c96 => ?_)
            · exact absurd c96 (by omega)
            · refine lv_aload_n zC.1 zC.2.1 dX5_readsTown_99 rfl (lv_at hl 4 rfl) ?_
              refine gf_M_read zC hG wl_X5_44 dX5_readsTown_100 ?_
              refine lv_iload_n zC.1 zC.2.1 dX5_readsTown_103 rfl (lv_at hl 2 rfl) ?_
              refine zr_iconst zC dX5_readsTown_104 ?_
              refine zr_iadd zC dX5_readsTown_105 ?_
              refine lv_iload zC.1 zC.2.1 dX5_readsTown_106 (lv_at hl 0 rfl) ?_
              refine pi_m_read zC hG (by omega) dX5_readsTown_108 (fun H locs hG => ?_)
              refine lv_goto (tgt := 153) zC.1 zC.2.1 dX5_readsTown_109 (by decide) ?_
              refine zr_iinc (lv' := [(4, .int (zI 1)), (5, .int (zI (fgI (fun q => τ 5 t q) (τ 4 t 1) 2 (x + 1)))), (3, .int (zI (4 * u))), (2, .int (zI (kdB (τ 5 t x)))), (0, .ref (aM Γ)), (1, .int (zI t))]) zC dX5_readsTown_153 hl (k := 1) rfl (by decide) rfl (fun ls hl => ?_)
              refine lv_goto (tgt := 61) zC.1 zC.2.1 dX5_readsTown_156 (by decide) ?_
              refine lv_iload zC.1 zC.2.1 dX5_readsTown_61 (lv_at hl 0 rfl) ?_
              refine zr_bipush zC dX5_readsTown_63 (by decide +kernel) ?_
              refine zr_icmp_ge (tgt := 159) zC dX5_readsTown_65 (by decide) (by omega) (fun c65 => ?_) (fun c65 => ?_)
              · exact absurd c65 (by omega)
              · refine lv_aload_n zC.1 zC.2.1 dX5_readsTown_68 rfl (lv_at hl 4 rfl) ?_
                refine lv_iload_n zC.1 zC.2.1 dX5_readsTown_69 rfl (lv_at hl 5 rfl) ?_
                refine lv_iload zC.1 zC.2.1 dX5_readsTown_70 (lv_at hl 0 rfl) ?_
                refine zr_if_ne (tgt := 79) zC dX5_readsTown_72 (by decide) (by omega) (fun c72 => ?_) (fun c72 => ?_)
                · refine zr_iconst zC dX5_readsTown_79 ?_
                  refine zr_callV zC hG (c_X5_figure (τ := τ) (σ := up (up (up (up (up σ 20 0 16 (x + 1)) 31 0 (4 * u) (kdB (τ 5 t x))) 31 0 ((4 * u) + 2) 0) 20 0 16 (x + 2)) 31 0 ((4 * u) + 1) (fgI (fun q => τ 5 t q) (τ 4 t 1) 2 (x + 1))) (t := t) (lo := 0) (x := (x + 2)) hR hI (by first | assumption | omega) (by first | assumption | omega) (by first | rfl | simp [up]) (by first | assumption | omega) (by first | assumption | omega)) mt_X5_figure wl_X5_107 pM rfl rfl ⟨by decide, by decide⟩ rfl hl.1 rfl (Nat.le_of_ble_eq_true rfl) dX5_readsTown_80 ⟨Nat.zero_le _, Nat.zero_le _⟩ (fun H locs hG => ?_)
                  refine W.eq (g2 := F0 zm 83 ls [.int (zI (fgI (fun q => τ 5 t q) (τ 4 t 1) 0 (x + 2)))]) rfl ?_
                  have b80_0 := fg_r (fun q => (τ 5 t q)) (τ 4 t 1) 0 (x + 2)
                  refine lv_istore (lv' := [(5, .int (zI (fgI (fun q => τ 5 t q) (τ 4 t 1) 0 (x + 2)))), (4, .int (zI 1)), (3, .int (zI (4 * u))), (2, .int (zI (kdB (τ 5 t x)))), (0, .ref (aM Γ)), (1, .int (zI t))]) zC.1 zC.2.1 dX5_readsTown_83 hl (by decide) rfl (fun ls hl => ?_)
                  refine lv_iload zC.1 zC.2.1 dX5_readsTown_85 (lv_at hl 0 rfl) ?_
                  refine zr_bipush zC dX5_readsTown_87 (by decide +kernel) ?_
                  refine zr_icmp_ne (tgt := 94) zC dX5_readsTown_89 (by decide) (by omega) (fun c89 => ?_) (fun c89 => ?_)
                  · obtain ⟨g1a, g1b, g1c, g1d⟩ := fg_1 (f := (fun q => τ 5 t q)) (n := (τ 4 t 1)) (lo := 0) (x := x + 2) (by omega) (by omega)
                    have e2 : foI (fun q => τ 5 t q) (τ 4 t 1) x = foP (fun q => τ 5 t q) (τ 4 t 1) x 4 3 := e1.trans (fo_t 4 2 3 rfl (by omega) (by omega))
                    have hG := (show mFg (up (up (up (up (up σ 20 0 16 (x + 1)) 31 0 (4 * u) (kdB (τ 5 t x))) 31 0 ((4 * u) + 2) 0) 20 0 16 (x + 2)) 31 0 ((4 * u) + 1) (fgI (fun q => τ 5 t q) (τ 4 t 1) 2 (x + 1))) (x + 2) (fgI (fun q => τ 5 t q) (τ 4 t 1) 0 (x + 2)) = up (up (up (up (up (up σ 20 0 16 (x + 1)) 31 0 (4 * u) (kdB (τ 5 t x))) 31 0 ((4 * u) + 2) 0) 20 0 16 (x + 2)) 31 0 ((4 * u) + 1) (fgI (fun q => τ 5 t q) (τ 4 t 1) 2 (x + 1))) 20 0 16 (x + 3) from mFg_1 (by omega) (by omega)) ▸ hG
                    refine lv_iload zC.1 zC.2.1 dX5_readsTown_94 (lv_at hl 1 rfl) ?_
                    refine zr_if_ne (tgt := 112) zC dX5_readsTown_96 (by decide) (by omega) (fun c96 => ?_) (fun c96 => ?_)
                    · refine lv_iload zC.1 zC.2.1 dX5_readsTown_112 (lv_at hl 1 rfl) ?_
                      refine zr_iconst zC dX5_readsTown_114 ?_
                      refine zr_icmp_ge (tgt := 143) zC dX5_readsTown_115 (by decide) (by omega) (fun c115 => ?_) (fun c115 => ?_)
                      · exact absurd c115 (by omega)
                      · refine lv_aload_n zC.1 zC.2.1 dX5_readsTown_118 rfl (lv_at hl 4 rfl) ?_
                        refine gf_M_read zC hG wl_X5_44 dX5_readsTown_119 ?_
                        refine lv_iload_n zC.1 zC.2.1 dX5_readsTown_122 rfl (lv_at hl 2 rfl) ?_
                        refine zr_iconst zC dX5_readsTown_123 ?_
                        refine zr_iadd zC dX5_readsTown_124 ?_
                        refine zr_bipush zC dX5_readsTown_125 (by decide +kernel) ?_
                        refine lv_aload_n zC.1 zC.2.1 dX5_readsTown_127 rfl (lv_at hl 4 rfl) ?_
                        refine gf_M_read zC hG wl_X5_44 dX5_readsTown_128 ?_
                        refine lv_iload_n zC.1 zC.2.1 dX5_readsTown_131 rfl (lv_at hl 2 rfl) ?_
                        refine zr_iconst zC dX5_readsTown_132 ?_
                        refine zr_iadd zC dX5_readsTown_133 ?_
                        refine gi_m_read (v := (up (up (up (up (up σ 20 0 16 (x + 1)) 31 0 (4 * u) (kdB (τ 5 t x))) 31 0 ((4 * u) + 2) 0) 20 0 16 (x + 2)) 31 0 ((4 * u) + 1) (fgI (fun q => τ 5 t q) (τ 4 t 1) 2 (x + 1))) 31 0 ((4 * u) + 2)) zC hG (by omega) (by first | rfl | simp [up]) dX5_readsTown_134 ?_
                        refine zr_imul zC dX5_readsTown_135 ?_
                        refine lv_iload zC.1 zC.2.1 dX5_readsTown_136 (lv_at hl 0 rfl) ?_
                        refine zr_iadd zC dX5_readsTown_138 ?_
                        refine pi_m_read zC hG (by omega) dX5_readsTown_139 (fun H locs hG => ?_)
                        refine lv_goto (tgt := 153) zC.1 zC.2.1 dX5_readsTown_140 (by decide) ?_
                        refine zr_iinc (lv' := [(4, .int (zI 2)), (5, .int (zI (fgI (fun q => τ 5 t q) (τ 4 t 1) 0 (x + 2)))), (3, .int (zI (4 * u))), (2, .int (zI (kdB (τ 5 t x)))), (0, .ref (aM Γ)), (1, .int (zI t))]) zC dX5_readsTown_153 hl (k := 1) rfl (by decide) rfl (fun ls hl => ?_)
                        refine lv_goto (tgt := 61) zC.1 zC.2.1 dX5_readsTown_156 (by decide) ?_
                        refine lv_iload zC.1 zC.2.1 dX5_readsTown_61 (lv_at hl 0 rfl) ?_
                        refine zr_bipush zC dX5_readsTown_63 (by decide +kernel) ?_
                        refine zr_icmp_ge (tgt := 159) zC dX5_readsTown_65 (by decide) (by omega) (fun c65 => ?_) (fun c65 => ?_)
                        · exact absurd c65 (by omega)
                        · refine lv_aload_n zC.1 zC.2.1 dX5_readsTown_68 rfl (lv_at hl 4 rfl) ?_
                          refine lv_iload_n zC.1 zC.2.1 dX5_readsTown_69 rfl (lv_at hl 5 rfl) ?_
                          refine lv_iload zC.1 zC.2.1 dX5_readsTown_70 (lv_at hl 0 rfl) ?_
                          refine zr_if_ne (tgt := 79) zC dX5_readsTown_72 (by decide) (by omega) (fun c72 => ?_) (fun c72 => ?_)
                          · refine zr_iconst zC dX5_readsTown_79 ?_
                            refine zr_callV zC hG (c_X5_figure (τ := τ) (σ := up (up (up (up (up (up (up σ 20 0 16 (x + 1)) 31 0 (4 * u) (kdB (τ 5 t x))) 31 0 ((4 * u) + 2) 0) 20 0 16 (x + 2)) 31 0 ((4 * u) + 1) (fgI (fun q => τ 5 t q) (τ 4 t 1) 2 (x + 1))) 20 0 16 (x + 3)) 31 0 ((4 * u) + 2) ((10 * ((up (up (up (up (up σ 20 0 16 (x + 1)) 31 0 (4 * u) (kdB (τ 5 t x))) 31 0 ((4 * u) + 2) 0) 20 0 16 (x + 2)) 31 0 ((4 * u) + 1) (fgI (fun q => τ 5 t q) (τ 4 t 1) 2 (x + 1))) 31 0 ((4 * u) + 2))) + (fgI (fun q => τ 5 t q) (τ 4 t 1) 0 (x + 2)))) (t := t) (lo := 0) (x := (x + 3)) hR hI (by first | assumption | omega) (by first | assumption | omega) (by first | rfl | simp [up]) (by first | assumption | omega) (by first | assumption | omega)) mt_X5_figure wl_X5_107 pM rfl rfl ⟨by decide, by decide⟩ rfl hl.1 rfl (Nat.le_of_ble_eq_true rfl) dX5_readsTown_80 ⟨Nat.zero_le _, Nat.zero_le _⟩ (fun H locs hG => ?_)
                            refine W.eq (g2 := F0 zm 83 ls [.int (zI (fgI (fun q => τ 5 t q) (τ 4 t 1) 0 (x + 3)))]) rfl ?_
                            have b80_0 := fg_r (fun q => (τ 5 t q)) (τ 4 t 1) 0 (x + 3)
                            refine lv_istore (lv' := [(5, .int (zI (fgI (fun q => τ 5 t q) (τ 4 t 1) 0 (x + 3)))), (4, .int (zI 2)), (3, .int (zI (4 * u))), (2, .int (zI (kdB (τ 5 t x)))), (0, .ref (aM Γ)), (1, .int (zI t))]) zC.1 zC.2.1 dX5_readsTown_83 hl (by decide) rfl (fun ls hl => ?_)
                            refine lv_iload zC.1 zC.2.1 dX5_readsTown_85 (lv_at hl 0 rfl) ?_
                            refine zr_bipush zC dX5_readsTown_87 (by decide +kernel) ?_
                            refine zr_icmp_ne (tgt := 94) zC dX5_readsTown_89 (by decide) (by omega) (fun c89 => ?_) (fun c89 => ?_)
                            · obtain ⟨g2a, g2b, g2c, g2d⟩ := fg_1 (f := (fun q => τ 5 t q)) (n := (τ 4 t 1)) (lo := 0) (x := x + 3) (by omega) (by omega)
                              have e3 : foI (fun q => τ 5 t q) (τ 4 t 1) x = foP (fun q => τ 5 t q) (τ 4 t 1) x 3 4 := e2.trans (fo_t 3 3 4 rfl (by omega) (by omega))
                              have hG := (show mFg (up (up (up (up (up (up (up σ 20 0 16 (x + 1)) 31 0 (4 * u) (kdB (τ 5 t x))) 31 0 ((4 * u) + 2) 0) 20 0 16 (x + 2)) 31 0 ((4 * u) + 1) (fgI (fun q => τ 5 t q) (τ 4 t 1) 2 (x + 1))) 20 0 16 (x + 3)) 31 0 ((4 * u) + 2) ((10 * ((up (up (up (up (up σ 20 0 16 (x + 1)) 31 0 (4 * u) (kdB (τ 5 t x))) 31 0 ((4 * u) + 2) 0) 20 0 16 (x + 2)) 31 0 ((4 * u) + 1) (fgI (fun q => τ 5 t q) (τ 4 t 1) 2 (x + 1))) 31 0 ((4 * u) + 2))) + (fgI (fun q => τ 5 t q) (τ 4 t 1) 0 (x + 2)))) (x + 3) (fgI (fun q => τ 5 t q) (τ 4 t 1) 0 (x + 3)) = up (up (up (up (up (up (up (up σ 20 0 16 (x + 1)) 31 0 (4 * u) (kdB (τ 5 t x))) 31 0 ((4 * u) + 2) 0) 20 0 16 (x + 2)) 31 0 ((4 * u) + 1) (fgI (fun q => τ 5 t q) (τ 4 t 1) 2 (x + 1))) 20 0 16 (x + 3)) 31 0 ((4 * u) + 2) ((10 * ((up (up (up (up (up σ 20 0 16 (x + 1)) 31 0 (4 * u) (kdB (τ 5 t x))) 31 0 ((4 * u) + 2) 0) 20 0 16 (x + 2)) 31 0 ((4 * u) + 1) (fgI (fun q => τ 5 t q) (τ 4 t 1) 2 (x + 1))) 31 0 ((4 * u) + 2))) + (fgI (fun q => τ 5 t q) (τ 4 t 1) 0 (x + 2)))) 20 0 16 (x + 4) from mFg_1 (by omega) (by omega)) ▸ hG
                              refine lv_iload zC.1 zC.2.1 dX5_readsTown_94 (lv_at hl 1 rfl) ?_
                              refine zr_if_ne (tgt := 112) zC dX5_readsTown_96 (by decide) (by omega) (fun c96 => ?_) (fun c96 => ?_)
                              · refine lv_iload zC.1 zC.2.1 dX5_readsTown_112 (lv_at hl 1 rfl) ?_
                                refine zr_iconst zC dX5_readsTown_114 ?_
                                refine zr_icmp_ge (tgt := 143) zC dX5_readsTown_115 (by decide) (by omega) (fun c115 => ?_) (fun c115 => ?_)
                                · exact absurd c115 (by omega)
                                · refine lv_aload_n zC.1 zC.2.1 dX5_readsTown_118 rfl (lv_at hl 4 rfl) ?_
                                  refine gf_M_read zC hG wl_X5_44 dX5_readsTown_119 ?_
                                  refine lv_iload_n zC.1 zC.2.1 dX5_readsTown_122 rfl (lv_at hl 2 rfl) ?_
                                  refine zr_iconst zC dX5_readsTown_123 ?_
                                  refine zr_iadd zC dX5_readsTown_124 ?_
                                  refine zr_bipush zC dX5_readsTown_125 (by decide +kernel) ?_
                                  refine lv_aload_n zC.1 zC.2.1 dX5_readsTown_127 rfl (lv_at hl 4 rfl) ?_
                                  refine gf_M_read zC hG wl_X5_44 dX5_readsTown_128 ?_
                                  refine lv_iload_n zC.1 zC.2.1 dX5_readsTown_131 rfl (lv_at hl 2 rfl) ?_
                                  refine zr_iconst zC dX5_readsTown_132 ?_
                                  refine zr_iadd zC dX5_readsTown_133 ?_
                                  refine gi_m_read (v := ((10 * ((up (up (up (up (up σ 20 0 16 (x + 1)) 31 0 (4 * u) (kdB (τ 5 t x))) 31 0 ((4 * u) + 2) 0) 20 0 16 (x + 2)) 31 0 ((4 * u) + 1) (fgI (fun q => τ 5 t q) (τ 4 t 1) 2 (x + 1))) 31 0 ((4 * u) + 2))) + (fgI (fun q => τ 5 t q) (τ 4 t 1) 0 (x + 2)))) zC hG (by omega) (by first | rfl | simp [up]) dX5_readsTown_134 ?_
                                  refine zr_imul zC dX5_readsTown_135 ?_
                                  refine lv_iload zC.1 zC.2.1 dX5_readsTown_136 (lv_at hl 0 rfl) ?_
                                  refine zr_iadd zC dX5_readsTown_138 ?_
                                  refine pi_m_read zC hG (by omega) dX5_readsTown_139 (fun H locs hG => ?_)
                                  refine lv_goto (tgt := 153) zC.1 zC.2.1 dX5_readsTown_140 (by decide) ?_
                                  refine zr_iinc (lv' := [(4, .int (zI 3)), (5, .int (zI (fgI (fun q => τ 5 t q) (τ 4 t 1) 0 (x + 3)))), (3, .int (zI (4 * u))), (2, .int (zI (kdB (τ 5 t x)))), (0, .ref (aM Γ)), (1, .int (zI t))]) zC dX5_readsTown_153 hl (k := 1) rfl (by decide) rfl (fun ls hl => ?_)
                                  refine lv_goto (tgt := 61) zC.1 zC.2.1 dX5_readsTown_156 (by decide) ?_
                                  refine lv_iload zC.1 zC.2.1 dX5_readsTown_61 (lv_at hl 0 rfl) ?_
                                  refine zr_bipush zC dX5_readsTown_63 (by decide +kernel) ?_
                                  refine zr_icmp_ge (tgt := 159) zC dX5_readsTown_65 (by decide) (by omega) (fun c65 => ?_) (fun c65 => ?_)
                                  · exact absurd c65 (by omega)
                                  · refine lv_aload_n zC.1 zC.2.1 dX5_readsTown_68 rfl (lv_at hl 4 rfl) ?_
                                    refine lv_iload_n zC.1 zC.2.1 dX5_readsTown_69 rfl (lv_at hl 5 rfl) ?_
                                    refine lv_iload zC.1 zC.2.1 dX5_readsTown_70 (lv_at hl 0 rfl) ?_
                                    refine zr_if_ne (tgt := 79) zC dX5_readsTown_72 (by decide) (by omega) (fun c72 => ?_) (fun c72 => ?_)
                                    · refine zr_iconst zC dX5_readsTown_79 ?_
                                      refine zr_callV zC hG (c_X5_figure (τ := τ) (σ := up (up (up (up (up (up (up (up (up σ 20 0 16 (x + 1)) 31 0 (4 * u) (kdB (τ 5 t x))) 31 0 ((4 * u) + 2) 0) 20 0 16 (x + 2)) 31 0 ((4 * u) + 1) (fgI (fun q => τ 5 t q) (τ 4 t 1) 2 (x + 1))) 20 0 16 (x + 3)) 31 0 ((4 * u) + 2) ((10 * ((up (up (up (up (up σ 20 0 16 (x + 1)) 31 0 (4 * u) (kdB (τ 5 t x))) 31 0 ((4 * u) + 2) 0) 20 0 16 (x + 2)) 31 0 ((4 * u) + 1) (fgI (fun q => τ 5 t q) (τ 4 t 1) 2 (x + 1))) 31 0 ((4 * u) + 2))) + (fgI (fun q => τ 5 t q) (τ 4 t 1) 0 (x + 2)))) 20 0 16 (x + 4)) 31 0 ((4 * u) + 2) ((10 * ((10 * ((up (up (up (up (up σ 20 0 16 (x + 1)) 31 0 (4 * u) (kdB (τ 5 t x))) 31 0 ((4 * u) + 2) 0) 20 0 16 (x + 2)) 31 0 ((4 * u) + 1) (fgI (fun q => τ 5 t q) (τ 4 t 1) 2 (x + 1))) 31 0 ((4 * u) + 2))) + (fgI (fun q => τ 5 t q) (τ 4 t 1) 0 (x + 2)))) + (fgI (fun q => τ 5 t q) (τ 4 t 1) 0 (x + 3)))) (t := t) (lo := 0) (x := (x + 4)) hR hI (by first | assumption | omega) (by first | assumption | omega) (by first | rfl | simp [up]) (by first | assumption | omega) (by first | assumption | omega)) mt_X5_figure wl_X5_107 pM rfl rfl ⟨by decide, by decide⟩ rfl hl.1 rfl (Nat.le_of_ble_eq_true rfl) dX5_readsTown_80 ⟨Nat.zero_le _, Nat.zero_le _⟩ (fun H locs hG => ?_)
                                      refine W.eq (g2 := F0 zm 83 ls [.int (zI (fgI (fun q => τ 5 t q) (τ 4 t 1) 0 (x + 4)))]) rfl ?_
                                      have b80_0 := fg_r (fun q => (τ 5 t q)) (τ 4 t 1) 0 (x + 4)
                                      refine lv_istore (lv' := [(5, .int (zI (fgI (fun q => τ 5 t q) (τ 4 t 1) 0 (x + 4)))), (4, .int (zI 3)), (3, .int (zI (4 * u))), (2, .int (zI (kdB (τ 5 t x)))), (0, .ref (aM Γ)), (1, .int (zI t))]) zC.1 zC.2.1 dX5_readsTown_83 hl (by decide) rfl (fun ls hl => ?_)
                                      refine lv_iload zC.1 zC.2.1 dX5_readsTown_85 (lv_at hl 0 rfl) ?_
                                      refine zr_bipush zC dX5_readsTown_87 (by decide +kernel) ?_
                                      refine zr_icmp_ne (tgt := 94) zC dX5_readsTown_89 (by decide) (by omega) (fun c89 => ?_) (fun c89 => ?_)
                                      · obtain ⟨g3a, g3b, g3c, g3d⟩ := fg_1 (f := (fun q => τ 5 t q)) (n := (τ 4 t 1)) (lo := 0) (x := x + 4) (by omega) (by omega)
                                        have e4 : foI (fun q => τ 5 t q) (τ 4 t 1) x = foP (fun q => τ 5 t q) (τ 4 t 1) x 2 5 := e3.trans (fo_t 2 4 5 rfl (by omega) (by omega))
                                        have hG := (show mFg (up (up (up (up (up (up (up (up (up σ 20 0 16 (x + 1)) 31 0 (4 * u) (kdB (τ 5 t x))) 31 0 ((4 * u) + 2) 0) 20 0 16 (x + 2)) 31 0 ((4 * u) + 1) (fgI (fun q => τ 5 t q) (τ 4 t 1) 2 (x + 1))) 20 0 16 (x + 3)) 31 0 ((4 * u) + 2) ((10 * ((up (up (up (up (up σ 20 0 16 (x + 1)) 31 0 (4 * u) (kdB (τ 5 t x))) 31 0 ((4 * u) + 2) 0) 20 0 16 (x + 2)) 31 0 ((4 * u) + 1) (fgI (fun q => τ 5 t q) (τ 4 t 1) 2 (x + 1))) 31 0 ((4 * u) + 2))) + (fgI (fun q => τ 5 t q) (τ 4 t 1) 0 (x + 2)))) 20 0 16 (x + 4)) 31 0 ((4 * u) + 2) ((10 * ((10 * ((up (up (up (up (up σ 20 0 16 (x + 1)) 31 0 (4 * u) (kdB (τ 5 t x))) 31 0 ((4 * u) + 2) 0) 20 0 16 (x + 2)) 31 0 ((4 * u) + 1) (fgI (fun q => τ 5 t q) (τ 4 t 1) 2 (x + 1))) 31 0 ((4 * u) + 2))) + (fgI (fun q => τ 5 t q) (τ 4 t 1) 0 (x + 2)))) + (fgI (fun q => τ 5 t q) (τ 4 t 1) 0 (x + 3)))) (x + 4) (fgI (fun q => τ 5 t q) (τ 4 t 1) 0 (x + 4)) = up (up (up (up (up (up (up (up (up (up σ 20 0 16 (x + 1)) 31 0 (4 * u) (kdB (τ 5 t x))) 31 0 ((4 * u) + 2) 0) 20 0 16 (x + 2)) 31 0 ((4 * u) + 1) (fgI (fun q => τ 5 t q) (τ 4 t 1) 2 (x + 1))) 20 0 16 (x + 3)) 31 0 ((4 * u) + 2) ((10 * ((up (up (up (up (up σ 20 0 16 (x + 1)) 31 0 (4 * u) (kdB (τ 5 t x))) 31 0 ((4 * u) + 2) 0) 20 0 16 (x + 2)) 31 0 ((4 * u) + 1) (fgI (fun q => τ 5 t q) (τ 4 t 1) 2 (x + 1))) 31 0 ((4 * u) + 2))) + (fgI (fun q => τ 5 t q) (τ 4 t 1) 0 (x + 2)))) 20 0 16 (x + 4)) 31 0 ((4 * u) + 2) ((10 * ((10 * ((up (up (up (up (up σ 20 0 16 (x + 1)) 31 0 (4 * u) (kdB (τ 5 t x))) 31 0 ((4 * u) + 2) 0) 20 0 16 (x + 2)) 31 0 ((4 * u) + 1) (fgI (fun q => τ 5 t q) (τ 4 t 1) 2 (x + 1))) 31 0 ((4 * u) + 2))) + (fgI (fun q => τ 5 t q) (τ 4 t 1) 0 (x + 2)))) + (fgI (fun q => τ 5 t q) (τ 4 t 1) 0 (x + 3)))) 20 0 16 (x + 5) from mFg_1 (by omega) (by omega)) ▸ hG
                                        refine lv_iload zC.1 zC.2.1 dX5_readsTown_94 (lv_at hl 1 rfl) ?_
                                        refine zr_if_ne (tgt := 112) zC dX5_readsTown_96 (by decide) (by omega) (fun c96 => ?_) (fun c96 => ?_)
                                        · refine lv_iload zC.1 zC.2.1 dX5_readsTown_112 (lv_at hl 1 rfl) ?_
                                          refine zr_iconst zC dX5_readsTown_114 ?_
                                          refine zr_icmp_ge (tgt := 143) zC dX5_readsTown_115 (by decide) (by omega) (fun c115 => ?_) (fun c115 => ?_)
                                          · exact absurd c115 (by omega)
                                          · refine lv_aload_n zC.1 zC.2.1 dX5_readsTown_118 rfl (lv_at hl 4 rfl) ?_
                                            refine gf_M_read zC hG wl_X5_44 dX5_readsTown_119 ?_
                                            refine lv_iload_n zC.1 zC.2.1 dX5_readsTown_122 rfl (lv_at hl 2 rfl) ?_
                                            refine zr_iconst zC dX5_readsTown_123 ?_
                                            refine zr_iadd zC dX5_readsTown_124 ?_
                                            refine zr_bipush zC dX5_readsTown_125 (by decide +kernel) ?_
                                            refine lv_aload_n zC.1 zC.2.1 dX5_readsTown_127 rfl (lv_at hl 4 rfl) ?_
                                            refine gf_M_read zC hG wl_X5_44 dX5_readsTown_128 ?_
                                            refine lv_iload_n zC.1 zC.2.1 dX5_readsTown_131 rfl (lv_at hl 2 rfl) ?_
                                            refine zr_iconst zC dX5_readsTown_132 ?_
                                            refine zr_iadd zC dX5_readsTown_133 ?_
                                            refine gi_m_read (v := ((10 * ((10 * ((up (up (up (up (up σ 20 0 16 (x + 1)) 31 0 (4 * u) (kdB (τ 5 t x))) 31 0 ((4 * u) + 2) 0) 20 0 16 (x + 2)) 31 0 ((4 * u) + 1) (fgI (fun q => τ 5 t q) (τ 4 t 1) 2 (x + 1))) 31 0 ((4 * u) + 2))) + (fgI (fun q => τ 5 t q) (τ 4 t 1) 0 (x + 2)))) + (fgI (fun q => τ 5 t q) (τ 4 t 1) 0 (x + 3)))) zC hG (by omega) (by first | rfl | simp [up]) dX5_readsTown_134 ?_
                                            refine zr_imul zC dX5_readsTown_135 ?_
                                            refine lv_iload zC.1 zC.2.1 dX5_readsTown_136 (lv_at hl 0 rfl) ?_
                                            refine zr_iadd zC dX5_readsTown_138 ?_
                                            refine pi_m_read zC hG (by omega) dX5_readsTown_139 (fun H locs hG => ?_)
                                            refine lv_goto (tgt := 153) zC.1 zC.2.1 dX5_readsTown_140 (by decide) ?_
                                            refine zr_iinc (lv' := [(4, .int (zI 4)), (5, .int (zI (fgI (fun q => τ 5 t q) (τ 4 t 1) 0 (x + 4)))), (3, .int (zI (4 * u))), (2, .int (zI (kdB (τ 5 t x)))), (0, .ref (aM Γ)), (1, .int (zI t))]) zC dX5_readsTown_153 hl (k := 1) rfl (by decide) rfl (fun ls hl => ?_)
                                            refine lv_goto (tgt := 61) zC.1 zC.2.1 dX5_readsTown_156 (by decide) ?_
                                            refine lv_iload zC.1 zC.2.1 dX5_readsTown_61 (lv_at hl 0 rfl) ?_
                                            refine zr_bipush zC dX5_readsTown_63 (by decide +kernel) ?_
                                            refine zr_icmp_ge (tgt := 159) zC dX5_readsTown_65 (by decide) (by omega) (fun c65 => ?_) (fun c65 => ?_)
                                            · exact absurd c65 (by omega)
                                            · refine lv_aload_n zC.1 zC.2.1 dX5_readsTown_68 rfl (lv_at hl 4 rfl) ?_
                                              refine lv_iload_n zC.1 zC.2.1 dX5_readsTown_69 rfl (lv_at hl 5 rfl) ?_
                                              refine lv_iload zC.1 zC.2.1 dX5_readsTown_70 (lv_at hl 0 rfl) ?_
                                              refine zr_if_ne (tgt := 79) zC dX5_readsTown_72 (by decide) (by omega) (fun c72 => ?_) (fun c72 => ?_)
                                              · refine zr_iconst zC dX5_readsTown_79 ?_
                                                refine zr_callV zC hG (c_X5_figure (τ := τ) (σ := up (up (up (up (up (up (up (up (up (up (up σ 20 0 16 (x + 1)) 31 0 (4 * u) (kdB (τ 5 t x))) 31 0 ((4 * u) + 2) 0) 20 0 16 (x + 2)) 31 0 ((4 * u) + 1) (fgI (fun q => τ 5 t q) (τ 4 t 1) 2 (x + 1))) 20 0 16 (x + 3)) 31 0 ((4 * u) + 2) ((10 * ((up (up (up (up (up σ 20 0 16 (x + 1)) 31 0 (4 * u) (kdB (τ 5 t x))) 31 0 ((4 * u) + 2) 0) 20 0 16 (x + 2)) 31 0 ((4 * u) + 1) (fgI (fun q => τ 5 t q) (τ 4 t 1) 2 (x + 1))) 31 0 ((4 * u) + 2))) + (fgI (fun q => τ 5 t q) (τ 4 t 1) 0 (x + 2)))) 20 0 16 (x + 4)) 31 0 ((4 * u) + 2) ((10 * ((10 * ((up (up (up (up (up σ 20 0 16 (x + 1)) 31 0 (4 * u) (kdB (τ 5 t x))) 31 0 ((4 * u) + 2) 0) 20 0 16 (x + 2)) 31 0 ((4 * u) + 1) (fgI (fun q => τ 5 t q) (τ 4 t 1) 2 (x + 1))) 31 0 ((4 * u) + 2))) + (fgI (fun q => τ 5 t q) (τ 4 t 1) 0 (x + 2)))) + (fgI (fun q => τ 5 t q) (τ 4 t 1) 0 (x + 3)))) 20 0 16 (x + 5)) 31 0 ((4 * u) + 2) ((10 * ((10 * ((10 * ((up (up (up (up (up σ 20 0 16 (x + 1)) 31 0 (4 * u) (kdB (τ 5 t x))) 31 0 ((4 * u) + 2) 0) 20 0 16 (x + 2)) 31 0 ((4 * u) + 1) (fgI (fun q => τ 5 t q) (τ 4 t 1) 2 (x + 1))) 31 0 ((4 * u) + 2))) + (fgI (fun q => τ 5 t q) (τ 4 t 1) 0 (x + 2)))) + (fgI (fun q => τ 5 t q) (τ 4 t 1) 0 (x + 3)))) + (fgI (fun q => τ 5 t q) (τ 4 t 1) 0 (x + 4)))) (t := t) (lo := 0) (x := (x + 5)) hR hI (by first | assumption | omega) (by first | assumption | omega) (by first | rfl | simp [up]) (by first | assumption | omega) (by first | assumption | omega)) mt_X5_figure wl_X5_107 pM rfl rfl ⟨by decide, by decide⟩ rfl hl.1 rfl (Nat.le_of_ble_eq_true rfl) dX5_readsTown_80 ⟨Nat.zero_le _, Nat.zero_le _⟩ (fun H locs hG => ?_)
                                                refine W.eq (g2 := F0 zm 83 ls [.int (zI (fgI (fun q => τ 5 t q) (τ 4 t 1) 0 (x + 5)))]) rfl ?_
                                                have b80_0 := fg_r (fun q => (τ 5 t q)) (τ 4 t 1) 0 (x + 5)
                                                refine lv_istore (lv' := [(5, .int (zI (fgI (fun q => τ 5 t q) (τ 4 t 1) 0 (x + 5)))), (4, .int (zI 4)), (3, .int (zI (4 * u))), (2, .int (zI (kdB (τ 5 t x)))), (0, .ref (aM Γ)), (1, .int (zI t))]) zC.1 zC.2.1 dX5_readsTown_83 hl (by decide) rfl (fun ls hl => ?_)
                                                refine lv_iload zC.1 zC.2.1 dX5_readsTown_85 (lv_at hl 0 rfl) ?_
                                                refine zr_bipush zC dX5_readsTown_87 (by decide +kernel) ?_
                                                refine zr_icmp_ne (tgt := 94) zC dX5_readsTown_89 (by decide) (by omega) (fun c89 => ?_) (fun c89 => ?_)
                                                · obtain ⟨g4a, g4b, g4c, g4d⟩ := fg_1 (f := (fun q => τ 5 t q)) (n := (τ 4 t 1)) (lo := 0) (x := x + 5) (by omega) (by omega)
                                                  have e5 : foI (fun q => τ 5 t q) (τ 4 t 1) x = foP (fun q => τ 5 t q) (τ 4 t 1) x 1 6 := e4.trans (fo_t 1 5 6 rfl (by omega) (by omega))
                                                  have hG := (show mFg (up (up (up (up (up (up (up (up (up (up (up σ 20 0 16 (x + 1)) 31 0 (4 * u) (kdB (τ 5 t x))) 31 0 ((4 * u) + 2) 0) 20 0 16 (x + 2)) 31 0 ((4 * u) + 1) (fgI (fun q => τ 5 t q) (τ 4 t 1) 2 (x + 1))) 20 0 16 (x + 3)) 31 0 ((4 * u) + 2) ((10 * ((up (up (up (up (up σ 20 0 16 (x + 1)) 31 0 (4 * u) (kdB (τ 5 t x))) 31 0 ((4 * u) + 2) 0) 20 0 16 (x + 2)) 31 0 ((4 * u) + 1) (fgI (fun q => τ 5 t q) (τ 4 t 1) 2 (x + 1))) 31 0 ((4 * u) + 2))) + (fgI (fun q => τ 5 t q) (τ 4 t 1) 0 (x + 2)))) 20 0 16 (x + 4)) 31 0 ((4 * u) + 2) ((10 * ((10 * ((up (up (up (up (up σ 20 0 16 (x + 1)) 31 0 (4 * u) (kdB (τ 5 t x))) 31 0 ((4 * u) + 2) 0) 20 0 16 (x + 2)) 31 0 ((4 * u) + 1) (fgI (fun q => τ 5 t q) (τ 4 t 1) 2 (x + 1))) 31 0 ((4 * u) + 2))) + (fgI (fun q => τ 5 t q) (τ 4 t 1) 0 (x + 2)))) + (fgI (fun q => τ 5 t q) (τ 4 t 1) 0 (x + 3)))) 20 0 16 (x + 5)) 31 0 ((4 * u) + 2) ((10 * ((10 * ((10 * ((up (up (up (up (up σ 20 0 16 (x + 1)) 31 0 (4 * u) (kdB (τ 5 t x))) 31 0 ((4 * u) + 2) 0) 20 0 16 (x + 2)) 31 0 ((4 * u) + 1) (fgI (fun q => τ 5 t q) (τ 4 t 1) 2 (x + 1))) 31 0 ((4 * u) + 2))) + (fgI (fun q => τ 5 t q) (τ 4 t 1) 0 (x + 2)))) + (fgI (fun q => τ 5 t q) (τ 4 t 1) 0 (x + 3)))) + (fgI (fun q => τ 5 t q) (τ 4 t 1) 0 (x + 4)))) (x + 5) (fgI (fun q => τ 5 t q) (τ 4 t 1) 0 (x + 5)) = up (up (up (up (up (up (up (up (up (up (up (up σ 20 0 16 (x + 1)) 31 0 (4 * u) (kdB (τ 5 t x))) 31 0 ((4 * u) + 2) 0) 20 0 16 (x + 2)) 31 0 ((4 * u) + 1) (fgI (fun q => τ 5 t q) (τ 4 t 1) 2 (x + 1))) 20 0 16 (x + 3)) 31 0 ((4 * u) + 2) ((10 * ((up (up (up (up (up σ 20 0 16 (x + 1)) 31 0 (4 * u) (kdB (τ 5 t x))) 31 0 ((4 * u) + 2) 0) 20 0 16 (x + 2)) 31 0 ((4 * u) + 1) (fgI (fun q => τ 5 t q) (τ 4 t 1) 2 (x + 1))) 31 0 ((4 * u) + 2))) + (fgI (fun q => τ 5 t q) (τ 4 t 1) 0 (x + 2)))) 20 0 16 (x + 4)) 31 0 ((4 * u) + 2) ((10 * ((10 * ((up (up (up (up (up σ 20 0 16 (x + 1)) 31 0 (4 * u) (kdB (τ 5 t x))) 31 0 ((4 * u) + 2) 0) 20 0 16 (x + 2)) 31 0 ((4 * u) + 1) (fgI (fun q => τ 5 t q) (τ 4 t 1) 2 (x + 1))) 31 0 ((4 * u) + 2))) + (fgI (fun q => τ 5 t q) (τ 4 t 1) 0 (x + 2)))) + (fgI (fun q => τ 5 t q) (τ 4 t 1) 0 (x + 3)))) 20 0 16 (x + 5)) 31 0 ((4 * u) + 2) ((10 * ((10 * ((10 * ((up (up (up (up (up σ 20 0 16 (x + 1)) 31 0 (4 * u) (kdB (τ 5 t x))) 31 0 ((4 * u) + 2) 0) 20 0 16 (x + 2)) 31 0 ((4 * u) + 1) (fgI (fun q => τ 5 t q) (τ 4 t 1) 2 (x + 1))) 31 0 ((4 * u) + 2))) + (fgI (fun q => τ 5 t q) (τ 4 t 1) 0 (x + 2)))) + (fgI (fun q => τ 5 t q) (τ 4 t 1) 0 (x + 3)))) + (fgI (fun q => τ 5 t q) (τ 4 t 1) 0 (x + 4)))) 20 0 16 (x + 6) from mFg_1 (by omega) (by omega)) ▸ hG
                                                  refine lv_iload zC.1 zC.2.1 dX5_readsTown_94 (lv_at hl 1 rfl) ?_
                                                  refine zr_if_ne (tgt := 112) zC dX5_readsTown_96 (by decide) (by omega) (fun c96 => ?_) (fun c96 => ?_)
                                                  · refine lv_iload zC.1 zC.2.1 dX5_readsTown_112 (lv_at hl 1 rfl) ?_
                                                    refine zr_iconst zC dX5_readsTown_114 ?_
                                                    refine zr_icmp_ge (tgt := 143) zC dX5_readsTown_115 (by decide) (by omega) (fun c115 => ?_) (fun c115 => ?_)
                                                    · exact absurd c115 (by omega)
                                                    · refine lv_aload_n zC.1 zC.2.1 dX5_readsTown_118 rfl (lv_at hl 4 rfl) ?_
                                                      refine gf_M_read zC hG wl_X5_44 dX5_readsTown_119 ?_
                                                      refine lv_iload_n zC.1 zC.2.1 dX5_readsTown_122 rfl (lv_at hl 2 rfl) ?_
                                                      refine zr_iconst zC dX5_readsTown_123 ?_
                                                      refine zr_iadd zC dX5_readsTown_124 ?_
                                                      refine zr_bipush zC dX5_readsTown_125 (by decide +kernel) ?_
                                                      refine lv_aload_n zC.1 zC.2.1 dX5_readsTown_127 rfl (lv_at hl 4 rfl) ?_
                                                      refine gf_M_read zC hG wl_X5_44 dX5_readsTown_128 ?_
                                                      refine lv_iload_n zC.1 zC.2.1 dX5_readsTown_131 rfl (lv_at hl 2 rfl) ?_
                                                      refine zr_iconst zC dX5_readsTown_132 ?_
                                                      refine zr_iadd zC dX5_readsTown_133 ?_
                                                      refine gi_m_read (v := ((10 * ((10 * ((10 * ((up (up (up (up (up σ 20 0 16 (x + 1)) 31 0 (4 * u) (kdB (τ 5 t x))) 31 0 ((4 * u) + 2) 0) 20 0 16 (x + 2)) 31 0 ((4 * u) + 1) (fgI (fun q => τ 5 t q) (τ 4 t 1) 2 (x + 1))) 31 0 ((4 * u) + 2))) + (fgI (fun q => τ 5 t q) (τ 4 t 1) 0 (x + 2)))) + (fgI (fun q => τ 5 t q) (τ 4 t 1) 0 (x + 3)))) + (fgI (fun q => τ 5 t q) (τ 4 t 1) 0 (x + 4)))) zC hG (by omega) (by first | rfl | simp [up]) dX5_readsTown_134 ?_
                                                      refine zr_imul zC dX5_readsTown_135 ?_
                                                      refine lv_iload zC.1 zC.2.1 dX5_readsTown_136 (lv_at hl 0 rfl) ?_
                                                      refine zr_iadd zC dX5_readsTown_138 ?_
                                                      refine pi_m_read zC hG (by omega) dX5_readsTown_139 (fun H locs hG => ?_)
                                                      refine lv_goto (tgt := 153) zC.1 zC.2.1 dX5_readsTown_140 (by decide) ?_
                                                      refine zr_iinc (lv' := [(4, .int (zI 5)), (5, .int (zI (fgI (fun q => τ 5 t q) (τ 4 t 1) 0 (x + 5)))), (3, .int (zI (4 * u))), (2, .int (zI (kdB (τ 5 t x)))), (0, .ref (aM Γ)), (1, .int (zI t))]) zC dX5_readsTown_153 hl (k := 1) rfl (by decide) rfl (fun ls hl => ?_)
                                                      refine lv_goto (tgt := 61) zC.1 zC.2.1 dX5_readsTown_156 (by decide) ?_
                                                      refine lv_iload zC.1 zC.2.1 dX5_readsTown_61 (lv_at hl 0 rfl) ?_
                                                      refine zr_bipush zC dX5_readsTown_63 (by decide +kernel) ?_
                                                      refine zr_icmp_ge (tgt := 159) zC dX5_readsTown_65 (by decide) (by omega) (fun c65 => ?_) (fun c65 => ?_)
                                                      · exact absurd c65 (by omega)
                                                      · refine lv_aload_n zC.1 zC.2.1 dX5_readsTown_68 rfl (lv_at hl 4 rfl) ?_
                                                        refine lv_iload_n zC.1 zC.2.1 dX5_readsTown_69 rfl (lv_at hl 5 rfl) ?_
                                                        refine lv_iload zC.1 zC.2.1 dX5_readsTown_70 (lv_at hl 0 rfl) ?_
                                                        refine zr_if_ne (tgt := 79) zC dX5_readsTown_72 (by decide) (by omega) (fun c72 => ?_) (fun c72 => ?_)
                                                        · refine zr_iconst zC dX5_readsTown_79 ?_
                                                          refine zr_callV zC hG (c_X5_figure (τ := τ) (σ := up (up (up (up (up (up (up (up (up (up (up (up (up σ 20 0 16 (x + 1)) 31 0 (4 * u) (kdB (τ 5 t x))) 31 0 ((4 * u) + 2) 0) 20 0 16 (x + 2)) 31 0 ((4 * u) + 1) (fgI (fun q => τ 5 t q) (τ 4 t 1) 2 (x + 1))) 20 0 16 (x + 3)) 31 0 ((4 * u) + 2) ((10 * ((up (up (up (up (up σ 20 0 16 (x + 1)) 31 0 (4 * u) (kdB (τ 5 t x))) 31 0 ((4 * u) + 2) 0) 20 0 16 (x + 2)) 31 0 ((4 * u) + 1) (fgI (fun q => τ 5 t q) (τ 4 t 1) 2 (x + 1))) 31 0 ((4 * u) + 2))) + (fgI (fun q => τ 5 t q) (τ 4 t 1) 0 (x + 2)))) 20 0 16 (x + 4)) 31 0 ((4 * u) + 2) ((10 * ((10 * ((up (up (up (up (up σ 20 0 16 (x + 1)) 31 0 (4 * u) (kdB (τ 5 t x))) 31 0 ((4 * u) + 2) 0) 20 0 16 (x + 2)) 31 0 ((4 * u) + 1) (fgI (fun q => τ 5 t q) (τ 4 t 1) 2 (x + 1))) 31 0 ((4 * u) + 2))) + (fgI (fun q => τ 5 t q) (τ 4 t 1) 0 (x + 2)))) + (fgI (fun q => τ 5 t q) (τ 4 t 1) 0 (x + 3)))) 20 0 16 (x + 5)) 31 0 ((4 * u) + 2) ((10 * ((10 * ((10 * ((up (up (up (up (up σ 20 0 16 (x + 1)) 31 0 (4 * u) (kdB (τ 5 t x))) 31 0 ((4 * u) + 2) 0) 20 0 16 (x + 2)) 31 0 ((4 * u) + 1) (fgI (fun q => τ 5 t q) (τ 4 t 1) 2 (x + 1))) 31 0 ((4 * u) + 2))) + (fgI (fun q => τ 5 t q) (τ 4 t 1) 0 (x + 2)))) + (fgI (fun q => τ 5 t q) (τ 4 t 1) 0 (x + 3)))) + (fgI (fun q => τ 5 t q) (τ 4 t 1) 0 (x + 4)))) 20 0 16 (x + 6)) 31 0 ((4 * u) + 2) ((10 * ((10 * ((10 * ((10 * ((up (up (up (up (up σ 20 0 16 (x + 1)) 31 0 (4 * u) (kdB (τ 5 t x))) 31 0 ((4 * u) + 2) 0) 20 0 16 (x + 2)) 31 0 ((4 * u) + 1) (fgI (fun q => τ 5 t q) (τ 4 t 1) 2 (x + 1))) 31 0 ((4 * u) + 2))) + (fgI (fun q => τ 5 t q) (τ 4 t 1) 0 (x + 2)))) + (fgI (fun q => τ 5 t q) (τ 4 t 1) 0 (x + 3)))) + (fgI (fun q => τ 5 t q) (τ 4 t 1) 0 (x + 4)))) + (fgI (fun q => τ 5 t q) (τ 4 t 1) 0 (x + 5)))) (t := t) (lo := 0) (x := (x + 6)) hR hI (by first | assumption | omega) (by first | assumption | omega) (by first | rfl | simp [up]) (by first | assumption | omega) (by first | assumption | omega)) mt_X5_figure wl_X5_107 pM rfl rfl ⟨by decide, by decide⟩ rfl hl.1 rfl (Nat.le_of_ble_eq_true rfl) dX5_readsTown_80 ⟨Nat.zero_le _, Nat.zero_le _⟩ (fun H locs hG => ?_)
                                                          refine W.eq (g2 := F0 zm 83 ls [.int (zI (fgI (fun q => τ 5 t q) (τ 4 t 1) 0 (x + 6)))]) rfl ?_
                                                          have b80_0 := fg_r (fun q => (τ 5 t q)) (τ 4 t 1) 0 (x + 6)
                                                          refine lv_istore (lv' := [(5, .int (zI (fgI (fun q => τ 5 t q) (τ 4 t 1) 0 (x + 6)))), (4, .int (zI 5)), (3, .int (zI (4 * u))), (2, .int (zI (kdB (τ 5 t x)))), (0, .ref (aM Γ)), (1, .int (zI t))]) zC.1 zC.2.1 dX5_readsTown_83 hl (by decide) rfl (fun ls hl => ?_)
                                                          refine lv_iload zC.1 zC.2.1 dX5_readsTown_85 (lv_at hl 0 rfl) ?_
                                                          refine zr_bipush zC dX5_readsTown_87 (by decide +kernel) ?_
                                                          refine zr_icmp_ne (tgt := 94) zC dX5_readsTown_89 (by decide) (by omega) (fun c89 => ?_) (fun c89 => ?_)
                                                          · obtain ⟨g5a, g5b, g5c, g5d⟩ := fg_1 (f := (fun q => τ 5 t q)) (n := (τ 4 t 1)) (lo := 0) (x := x + 6) (by omega) (by omega)
                                                            have e6 : foI (fun q => τ 5 t q) (τ 4 t 1) x = foP (fun q => τ 5 t q) (τ 4 t 1) x 0 7 := e5.trans (fo_t 0 6 7 rfl (by omega) (by omega))
                                                            have hG := (show mFg (up (up (up (up (up (up (up (up (up (up (up (up (up σ 20 0 16 (x + 1)) 31 0 (4 * u) (kdB (τ 5 t x))) 31 0 ((4 * u) + 2) 0) 20 0 16 (x + 2)) 31 0 ((4 * u) + 1) (fgI (fun q => τ 5 t q) (τ 4 t 1) 2 (x + 1))) 20 0 16 (x + 3)) 31 0 ((4 * u) + 2) ((10 * ((up (up (up (up (up σ 20 0 16 (x + 1)) 31 0 (4 * u) (kdB (τ 5 t x))) 31 0 ((4 * u) + 2) 0) 20 0 16 (x + 2)) 31 0 ((4 * u) + 1) (fgI (fun q => τ 5 t q) (τ 4 t 1) 2 (x + 1))) 31 0 ((4 * u) + 2))) + (fgI (fun q => τ 5 t q) (τ 4 t 1) 0 (x + 2)))) 20 0 16 (x + 4)) 31 0 ((4 * u) + 2) ((10 * ((10 * ((up (up (up (up (up σ 20 0 16 (x + 1)) 31 0 (4 * u) (kdB (τ 5 t x))) 31 0 ((4 * u) + 2) 0) 20 0 16 (x + 2)) 31 0 ((4 * u) + 1) (fgI (fun q => τ 5 t q) (τ 4 t 1) 2 (x + 1))) 31 0 ((4 * u) + 2))) + (fgI (fun q => τ 5 t q) (τ 4 t 1) 0 (x + 2)))) + (fgI (fun q => τ 5 t q) (τ 4 t 1) 0 (x + 3)))) 20 0 16 (x + 5)) 31 0 ((4 * u) + 2) ((10 * ((10 * ((10 * ((up (up (up (up (up σ 20 0 16 (x + 1)) 31 0 (4 * u) (kdB (τ 5 t x))) 31 0 ((4 * u) + 2) 0) 20 0 16 (x + 2)) 31 0 ((4 * u) + 1) (fgI (fun q => τ 5 t q) (τ 4 t 1) 2 (x + 1))) 31 0 ((4 * u) + 2))) + (fgI (fun q => τ 5 t q) (τ 4 t 1) 0 (x + 2)))) + (fgI (fun q => τ 5 t q) (τ 4 t 1) 0 (x + 3)))) + (fgI (fun q => τ 5 t q) (τ 4 t 1) 0 (x + 4)))) 20 0 16 (x + 6)) 31 0 ((4 * u) + 2) ((10 * ((10 * ((10 * ((10 * ((up (up (up (up (up σ 20 0 16 (x + 1)) 31 0 (4 * u) (kdB (τ 5 t x))) 31 0 ((4 * u) + 2) 0) 20 0 16 (x + 2)) 31 0 ((4 * u) + 1) (fgI (fun q => τ 5 t q) (τ 4 t 1) 2 (x + 1))) 31 0 ((4 * u) + 2))) + (fgI (fun q => τ 5 t q) (τ 4 t 1) 0 (x + 2)))) + (fgI (fun q => τ 5 t q) (τ 4 t 1) 0 (x + 3)))) + (fgI (fun q => τ 5 t q) (τ 4 t 1) 0 (x + 4)))) + (fgI (fun q => τ 5 t q) (τ 4 t 1) 0 (x + 5)))) (x + 6) (fgI (fun q => τ 5 t q) (τ 4 t 1) 0 (x + 6)) = up (up (up (up (up (up (up (up (up (up (up (up (up (up σ 20 0 16 (x + 1)) 31 0 (4 * u) (kdB (τ 5 t x))) 31 0 ((4 * u) + 2) 0) 20 0 16 (x + 2)) 31 0 ((4 * u) + 1) (fgI (fun q => τ 5 t q) (τ 4 t 1) 2 (x + 1))) 20 0 16 (x + 3)) 31 0 ((4 * u) + 2) ((10 * ((up (up (up (up (up σ 20 0 16 (x + 1)) 31 0 (4 * u) (kdB (τ 5 t x))) 31 0 ((4 * u) + 2) 0) 20 0 16 (x + 2)) 31 0 ((4 * u) + 1) (fgI (fun q => τ 5 t q) (τ 4 t 1) 2 (x + 1))) 31 0 ((4 * u) + 2))) + (fgI (fun q => τ 5 t q) (τ 4 t 1) 0 (x + 2)))) 20 0 16 (x + 4)) 31 0 ((4 * u) + 2) ((10 * ((10 * ((up (up (up (up (up σ 20 0 16 (x + 1)) 31 0 (4 * u) (kdB (τ 5 t x))) 31 0 ((4 * u) + 2) 0) 20 0 16 (x + 2)) 31 0 ((4 * u) + 1) (fgI (fun q => τ 5 t q) (τ 4 t 1) 2 (x + 1))) 31 0 ((4 * u) + 2))) + (fgI (fun q => τ 5 t q) (τ 4 t 1) 0 (x + 2)))) + (fgI (fun q => τ 5 t q) (τ 4 t 1) 0 (x + 3)))) 20 0 16 (x + 5)) 31 0 ((4 * u) + 2) ((10 * ((10 * ((10 * ((up (up (up (up (up σ 20 0 16 (x + 1)) 31 0 (4 * u) (kdB (τ 5 t x))) 31 0 ((4 * u) + 2) 0) 20 0 16 (x + 2)) 31 0 ((4 * u) + 1) (fgI (fun q => τ 5 t q) (τ 4 t 1) 2 (x + 1))) 31 0 ((4 * u) + 2))) + (fgI (fun q => τ 5 t q) (τ 4 t 1) 0 (x + 2)))) + (fgI (fun q => τ 5 t q) (τ 4 t 1) 0 (x + 3)))) + (fgI (fun q => τ 5 t q) (τ 4 t 1) 0 (x + 4)))) 20 0 16 (x + 6)) 31 0 ((4 * u) + 2) ((10 * ((10 * ((10 * ((10 * ((up (up (up (up (up σ 20 0 16 (x + 1)) 31 0 (4 * u) (kdB (τ 5 t x))) 31 0 ((4 * u) + 2) 0) 20 0 16 (x + 2)) 31 0 ((4 * u) + 1) (fgI (fun q => τ 5 t q) (τ 4 t 1) 2 (x + 1))) 31 0 ((4 * u) + 2))) + (fgI (fun q => τ 5 t q) (τ 4 t 1) 0 (x + 2)))) + (fgI (fun q => τ 5 t q) (τ 4 t 1) 0 (x + 3)))) + (fgI (fun q => τ 5 t q) (τ 4 t 1) 0 (x + 4)))) + (fgI (fun q => τ 5 t q) (τ 4 t 1) 0 (x + 5)))) 20 0 16 (x + 7) from mFg_1 (by omega) (by omega)) ▸ hG
                                                            refine lv_iload zC.1 zC.2.1 dX5_readsTown_94 (lv_at hl 1 rfl) ?_
                                                            refine zr_if_ne (tgt := 112) zC dX5_readsTown_96 (by decide) (by omega) (fun c96 => ?_) (fun c96 => ?_)
                                                            · refine lv_iload zC.1 zC.2.1 dX5_readsTown_112 (lv_at hl 1 rfl) ?_
                                                              refine zr_iconst zC dX5_readsTown_114 ?_
                                                              refine zr_icmp_ge (tgt := 143) zC dX5_readsTown_115 (by decide) (by omega) (fun c115 => ?_) (fun c115 => ?_)
                                                              · refine lv_aload_n zC.1 zC.2.1 dX5_readsTown_143 rfl (lv_at hl 4 rfl) ?_
                                                                refine gf_M_read zC hG wl_X5_44 dX5_readsTown_144 ?_
                                                                refine lv_iload_n zC.1 zC.2.1 dX5_readsTown_147 rfl (lv_at hl 2 rfl) ?_
                                                                refine zr_iconst zC dX5_readsTown_148 ?_
                                                                refine zr_iadd zC dX5_readsTown_149 ?_
                                                                refine lv_iload zC.1 zC.2.1 dX5_readsTown_150 (lv_at hl 0 rfl) ?_
                                                                refine pi_m_read zC hG (by omega) dX5_readsTown_152 (fun H locs hG => ?_)
                                                                refine zr_iinc (lv' := [(4, .int (zI 6)), (5, .int (zI (fgI (fun q => τ 5 t q) (τ 4 t 1) 0 (x + 6)))), (3, .int (zI (4 * u))), (2, .int (zI (kdB (τ 5 t x)))), (0, .ref (aM Γ)), (1, .int (zI t))]) zC dX5_readsTown_153 hl (k := 1) rfl (by decide) rfl (fun ls hl => ?_)
                                                                refine lv_goto (tgt := 61) zC.1 zC.2.1 dX5_readsTown_156 (by decide) ?_
                                                                refine lv_iload zC.1 zC.2.1 dX5_readsTown_61 (lv_at hl 0 rfl) ?_
                                                                refine zr_bipush zC dX5_readsTown_63 (by decide +kernel) ?_
                                                                refine zr_icmp_ge (tgt := 159) zC dX5_readsTown_65 (by decide) (by omega) (fun c65 => ?_) (fun c65 => ?_)
                                                                · refine lv_aload_n zC.1 zC.2.1 dX5_readsTown_159 rfl (lv_at hl 4 rfl) ?_
                                                                  refine lv_dup zC.1 zC.2.1 dX5_readsTown_160 rfl ?_
                                                                  refine gf_M_readMany (v := u) zC hG wl_X5_104 hu dX5_readsTown_161 ?_
                                                                  refine zr_iconst zC dX5_readsTown_164 ?_
                                                                  refine zr_iadd zC dX5_readsTown_165 ?_
                                                                  refine pf_M_readMany zC hG wl_X5_104 dX5_readsTown_166 (fun H locs hG => ?_)
                                                                  refine zr_iconst zC dX5_readsTown_169 ?_
                                                                  exact zp_zret zC zK hG dX5_readsTown_170 (zB_t ⟨by omega, e6⟩) (Or.inr rfl) ⟨(sP_17 (sP_31 (sP_16 (sP_31 (sP_16 (sP_31 (sP_16 (sP_31 (sP_16 (sP_31 (sP_16 (sP_31 (sP_16 (sP_31 (sP_31 (sP_16 (sP_r _))))))))))))))))), fun _ => ⟨rfl, rfl, fun j h1 h2 => (by unfold up; (repeat rw [if_neg (by omega)])), (by unfold up; (repeat rw [if_neg (by omega)]); rw [if_pos (by omega)]), (by unfold up; (repeat rw [if_neg (by omega)]); rw [if_pos (by omega)]; omega), (by unfold up; (repeat rw [if_neg (by omega)]); rw [if_pos (by omega)]; unfold odr; dsimp only; omega), (by unfold up; (repeat rw [if_neg (by omega)]); rw [if_pos (by omega)]; omega)⟩, fun z => absurd (show u ≠ 5 ∧ foI (fun q => τ 5 t q) (τ 4 t 1) x = -9 from ⟨by omega, e6⟩) z⟩
                                                                · exact absurd c65 (by omega)
                                                              · exact absurd c115 (by omega)
                                                            · exact absurd c96 (by omega)
                                                          · have g9 := fg_0 (f := (fun q => τ 5 t q)) (n := (τ 4 t 1)) (lo := 0) (x := x + 6) (by omega) (by omega)
                                                            have e9 : foI (fun q => τ 5 t q) (τ 4 t 1) x = x + 6 := e5.trans (fo_f 0 6 (by omega) (by omega))
                                                            have hG := (show mFg (up (up (up (up (up (up (up (up (up (up (up (up (up σ 20 0 16 (x + 1)) 31 0 (4 * u) (kdB (τ 5 t x))) 31 0 ((4 * u) + 2) 0) 20 0 16 (x + 2)) 31 0 ((4 * u) + 1) (fgI (fun q => τ 5 t q) (τ 4 t 1) 2 (x + 1))) 20 0 16 (x + 3)) 31 0 ((4 * u) + 2) ((10 * ((up (up (up (up (up σ 20 0 16 (x + 1)) 31 0 (4 * u) (kdB (τ 5 t x))) 31 0 ((4 * u) + 2) 0) 20 0 16 (x + 2)) 31 0 ((4 * u) + 1) (fgI (fun q => τ 5 t q) (τ 4 t 1) 2 (x + 1))) 31 0 ((4 * u) + 2))) + (fgI (fun q => τ 5 t q) (τ 4 t 1) 0 (x + 2)))) 20 0 16 (x + 4)) 31 0 ((4 * u) + 2) ((10 * ((10 * ((up (up (up (up (up σ 20 0 16 (x + 1)) 31 0 (4 * u) (kdB (τ 5 t x))) 31 0 ((4 * u) + 2) 0) 20 0 16 (x + 2)) 31 0 ((4 * u) + 1) (fgI (fun q => τ 5 t q) (τ 4 t 1) 2 (x + 1))) 31 0 ((4 * u) + 2))) + (fgI (fun q => τ 5 t q) (τ 4 t 1) 0 (x + 2)))) + (fgI (fun q => τ 5 t q) (τ 4 t 1) 0 (x + 3)))) 20 0 16 (x + 5)) 31 0 ((4 * u) + 2) ((10 * ((10 * ((10 * ((up (up (up (up (up σ 20 0 16 (x + 1)) 31 0 (4 * u) (kdB (τ 5 t x))) 31 0 ((4 * u) + 2) 0) 20 0 16 (x + 2)) 31 0 ((4 * u) + 1) (fgI (fun q => τ 5 t q) (τ 4 t 1) 2 (x + 1))) 31 0 ((4 * u) + 2))) + (fgI (fun q => τ 5 t q) (τ 4 t 1) 0 (x + 2)))) + (fgI (fun q => τ 5 t q) (τ 4 t 1) 0 (x + 3)))) + (fgI (fun q => τ 5 t q) (τ 4 t 1) 0 (x + 4)))) 20 0 16 (x + 6)) 31 0 ((4 * u) + 2) ((10 * ((10 * ((10 * ((10 * ((up (up (up (up (up σ 20 0 16 (x + 1)) 31 0 (4 * u) (kdB (τ 5 t x))) 31 0 ((4 * u) + 2) 0) 20 0 16 (x + 2)) 31 0 ((4 * u) + 1) (fgI (fun q => τ 5 t q) (τ 4 t 1) 2 (x + 1))) 31 0 ((4 * u) + 2))) + (fgI (fun q => τ 5 t q) (τ 4 t 1) 0 (x + 2)))) + (fgI (fun q => τ 5 t q) (τ 4 t 1) 0 (x + 3)))) + (fgI (fun q => τ 5 t q) (τ 4 t 1) 0 (x + 4)))) + (fgI (fun q => τ 5 t q) (τ 4 t 1) 0 (x + 5)))) (x + 6) (fgI (fun q => τ 5 t q) (τ 4 t 1) 0 (x + 6)) = up (up (up (up (up (up (up (up (up (up (up (up (up σ 20 0 16 (x + 1)) 31 0 (4 * u) (kdB (τ 5 t x))) 31 0 ((4 * u) + 2) 0) 20 0 16 (x + 2)) 31 0 ((4 * u) + 1) (fgI (fun q => τ 5 t q) (τ 4 t 1) 2 (x + 1))) 20 0 16 (x + 3)) 31 0 ((4 * u) + 2) ((10 * ((up (up (up (up (up σ 20 0 16 (x + 1)) 31 0 (4 * u) (kdB (τ 5 t x))) 31 0 ((4 * u) + 2) 0) 20 0 16 (x + 2)) 31 0 ((4 * u) + 1) (fgI (fun q => τ 5 t q) (τ 4 t 1) 2 (x + 1))) 31 0 ((4 * u) + 2))) + (fgI (fun q => τ 5 t q) (τ 4 t 1) 0 (x + 2)))) 20 0 16 (x + 4)) 31 0 ((4 * u) + 2) ((10 * ((10 * ((up (up (up (up (up σ 20 0 16 (x + 1)) 31 0 (4 * u) (kdB (τ 5 t x))) 31 0 ((4 * u) + 2) 0) 20 0 16 (x + 2)) 31 0 ((4 * u) + 1) (fgI (fun q => τ 5 t q) (τ 4 t 1) 2 (x + 1))) 31 0 ((4 * u) + 2))) + (fgI (fun q => τ 5 t q) (τ 4 t 1) 0 (x + 2)))) + (fgI (fun q => τ 5 t q) (τ 4 t 1) 0 (x + 3)))) 20 0 16 (x + 5)) 31 0 ((4 * u) + 2) ((10 * ((10 * ((10 * ((up (up (up (up (up σ 20 0 16 (x + 1)) 31 0 (4 * u) (kdB (τ 5 t x))) 31 0 ((4 * u) + 2) 0) 20 0 16 (x + 2)) 31 0 ((4 * u) + 1) (fgI (fun q => τ 5 t q) (τ 4 t 1) 2 (x + 1))) 31 0 ((4 * u) + 2))) + (fgI (fun q => τ 5 t q) (τ 4 t 1) 0 (x + 2)))) + (fgI (fun q => τ 5 t q) (τ 4 t 1) 0 (x + 3)))) + (fgI (fun q => τ 5 t q) (τ 4 t 1) 0 (x + 4)))) 20 0 16 (x + 6)) 31 0 ((4 * u) + 2) ((10 * ((10 * ((10 * ((10 * ((up (up (up (up (up σ 20 0 16 (x + 1)) 31 0 (4 * u) (kdB (τ 5 t x))) 31 0 ((4 * u) + 2) 0) 20 0 16 (x + 2)) 31 0 ((4 * u) + 1) (fgI (fun q => τ 5 t q) (τ 4 t 1) 2 (x + 1))) 31 0 ((4 * u) + 2))) + (fgI (fun q => τ 5 t q) (τ 4 t 1) 0 (x + 2)))) + (fgI (fun q => τ 5 t q) (τ 4 t 1) 0 (x + 3)))) + (fgI (fun q => τ 5 t q) (τ 4 t 1) 0 (x + 4)))) + (fgI (fun q => τ 5 t q) (τ 4 t 1) 0 (x + 5))) from mFg_0 (by omega)) ▸ hG
                                                            refine zr_iconst zC dX5_readsTown_92 ?_
                                                            exact zp_zret zC zK hG dX5_readsTown_93 (zB_f (by omega)) (Or.inl rfl) ⟨(sP_31 (sP_16 (sP_31 (sP_16 (sP_31 (sP_16 (sP_31 (sP_16 (sP_31 (sP_16 (sP_31 (sP_31 (sP_16 (sP_r _)))))))))))))), fun z => absurd z (by omega), fun _ => by show x + 6 = _; rw [if_neg (by omega)]; omega⟩
                                                        · exact absurd c72 (by omega)
                                                  · exact absurd c96 (by omega)
                                                · have g9 := fg_0 (f := (fun q => τ 5 t q)) (n := (τ 4 t 1)) (lo := 0) (x := x + 5) (by omega) (by omega)
                                                  have e9 : foI (fun q => τ 5 t q) (τ 4 t 1) x = x + 5 := e4.trans (fo_f 1 5 (by omega) (by omega))
                                                  have hG := (show mFg (up (up (up (up (up (up (up (up (up (up (up σ 20 0 16 (x + 1)) 31 0 (4 * u) (kdB (τ 5 t x))) 31 0 ((4 * u) + 2) 0) 20 0 16 (x + 2)) 31 0 ((4 * u) + 1) (fgI (fun q => τ 5 t q) (τ 4 t 1) 2 (x + 1))) 20 0 16 (x + 3)) 31 0 ((4 * u) + 2) ((10 * ((up (up (up (up (up σ 20 0 16 (x + 1)) 31 0 (4 * u) (kdB (τ 5 t x))) 31 0 ((4 * u) + 2) 0) 20 0 16 (x + 2)) 31 0 ((4 * u) + 1) (fgI (fun q => τ 5 t q) (τ 4 t 1) 2 (x + 1))) 31 0 ((4 * u) + 2))) + (fgI (fun q => τ 5 t q) (τ 4 t 1) 0 (x + 2)))) 20 0 16 (x + 4)) 31 0 ((4 * u) + 2) ((10 * ((10 * ((up (up (up (up (up σ 20 0 16 (x + 1)) 31 0 (4 * u) (kdB (τ 5 t x))) 31 0 ((4 * u) + 2) 0) 20 0 16 (x + 2)) 31 0 ((4 * u) + 1) (fgI (fun q => τ 5 t q) (τ 4 t 1) 2 (x + 1))) 31 0 ((4 * u) + 2))) + (fgI (fun q => τ 5 t q) (τ 4 t 1) 0 (x + 2)))) + (fgI (fun q => τ 5 t q) (τ 4 t 1) 0 (x + 3)))) 20 0 16 (x + 5)) 31 0 ((4 * u) + 2) ((10 * ((10 * ((10 * ((up (up (up (up (up σ 20 0 16 (x + 1)) 31 0 (4 * u) (kdB (τ 5 t x))) 31 0 ((4 * u) + 2) 0) 20 0 16 (x + 2)) 31 0 ((4 * u) + 1) (fgI (fun q => τ 5 t q) (τ 4 t 1) 2 (x + 1))) 31 0 ((4 * u) + 2))) + (fgI (fun q => τ 5 t q) (τ 4 t 1) 0 (x + 2)))) + (fgI (fun q => τ 5 t q) (τ 4 t 1) 0 (x + 3)))) + (fgI (fun q => τ 5 t q) (τ 4 t 1) 0 (x + 4)))) (x + 5) (fgI (fun q => τ 5 t q) (τ 4 t 1) 0 (x + 5)) = up (up (up (up (up (up (up (up (up (up (up σ 20 0 16 (x + 1)) 31 0 (4 * u) (kdB (τ 5 t x))) 31 0 ((4 * u) + 2) 0) 20 0 16 (x + 2)) 31 0 ((4 * u) + 1) (fgI (fun q => τ 5 t q) (τ 4 t 1) 2 (x + 1))) 20 0 16 (x + 3)) 31 0 ((4 * u) + 2) ((10 * ((up (up (up (up (up σ 20 0 16 (x + 1)) 31 0 (4 * u) (kdB (τ 5 t x))) 31 0 ((4 * u) + 2) 0) 20 0 16 (x + 2)) 31 0 ((4 * u) + 1) (fgI (fun q => τ 5 t q) (τ 4 t 1) 2 (x + 1))) 31 0 ((4 * u) + 2))) + (fgI (fun q => τ 5 t q) (τ 4 t 1) 0 (x + 2)))) 20 0 16 (x + 4)) 31 0 ((4 * u) + 2) ((10 * ((10 * ((up (up (up (up (up σ 20 0 16 (x + 1)) 31 0 (4 * u) (kdB (τ 5 t x))) 31 0 ((4 * u) + 2) 0) 20 0 16 (x + 2)) 31 0 ((4 * u) + 1) (fgI (fun q => τ 5 t q) (τ 4 t 1) 2 (x + 1))) 31 0 ((4 * u) + 2))) + (fgI (fun q => τ 5 t q) (τ 4 t 1) 0 (x + 2)))) + (fgI (fun q => τ 5 t q) (τ 4 t 1) 0 (x + 3)))) 20 0 16 (x + 5)) 31 0 ((4 * u) + 2) ((10 * ((10 * ((10 * ((up (up (up (up (up σ 20 0 16 (x + 1)) 31 0 (4 * u) (kdB (τ 5 t x))) 31 0 ((4 * u) + 2) 0) 20 0 16 (x + 2)) 31 0 ((4 * u) + 1) (fgI (fun q => τ 5 t q) (τ 4 t 1) 2 (x + 1))) 31 0 ((4 * u) + 2))) + (fgI (fun q => τ 5 t q) (τ 4 t 1) 0 (x + 2)))) + (fgI (fun q => τ 5 t q) (τ 4 t 1) 0 (x + 3)))) + (fgI (fun q => τ 5 t q) (τ 4 t 1) 0 (x + 4))) from mFg_0 (by omega)) ▸ hG
                                                  refine zr_iconst zC dX5_readsTown_92 ?_
                                                  exact zp_zret zC zK hG dX5_readsTown_93 (zB_f (by omega)) (Or.inl rfl) ⟨(sP_31 (sP_16 (sP_31 (sP_16 (sP_31 (sP_16 (sP_31 (sP_16 (sP_31 (sP_31 (sP_16 (sP_r _)))))))))))), fun z => absurd z (by omega), fun _ => by show x + 5 = _; rw [if_neg (by omega)]; omega⟩
                                              · exact absurd c72 (by omega)
                                        · exact absurd c96 (by omega)
                                      · have g9 := fg_0 (f := (fun q => τ 5 t q)) (n := (τ 4 t 1)) (lo := 0) (x := x + 4) (by omega) (by omega)
                                        have e9 : foI (fun q => τ 5 t q) (τ 4 t 1) x = x + 4 := e3.trans (fo_f 2 4 (by omega) (by omega))
                                        have hG := (show mFg (up (up (up (up (up (up (up (up (up σ 20 0 16 (x + 1)) 31 0 (4 * u) (kdB (τ 5 t x))) 31 0 ((4 * u) + 2) 0) 20 0 16 (x + 2)) 31 0 ((4 * u) + 1) (fgI (fun q => τ 5 t q) (τ 4 t 1) 2 (x + 1))) 20 0 16 (x + 3)) 31 0 ((4 * u) + 2) ((10 * ((up (up (up (up (up σ 20 0 16 (x + 1)) 31 0 (4 * u) (kdB (τ 5 t x))) 31 0 ((4 * u) + 2) 0) 20 0 16 (x + 2)) 31 0 ((4 * u) + 1) (fgI (fun q => τ 5 t q) (τ 4 t 1) 2 (x + 1))) 31 0 ((4 * u) + 2))) + (fgI (fun q => τ 5 t q) (τ 4 t 1) 0 (x + 2)))) 20 0 16 (x + 4)) 31 0 ((4 * u) + 2) ((10 * ((10 * ((up (up (up (up (up σ 20 0 16 (x + 1)) 31 0 (4 * u) (kdB (τ 5 t x))) 31 0 ((4 * u) + 2) 0) 20 0 16 (x + 2)) 31 0 ((4 * u) + 1) (fgI (fun q => τ 5 t q) (τ 4 t 1) 2 (x + 1))) 31 0 ((4 * u) + 2))) + (fgI (fun q => τ 5 t q) (τ 4 t 1) 0 (x + 2)))) + (fgI (fun q => τ 5 t q) (τ 4 t 1) 0 (x + 3)))) (x + 4) (fgI (fun q => τ 5 t q) (τ 4 t 1) 0 (x + 4)) = up (up (up (up (up (up (up (up (up σ 20 0 16 (x + 1)) 31 0 (4 * u) (kdB (τ 5 t x))) 31 0 ((4 * u) + 2) 0) 20 0 16 (x + 2)) 31 0 ((4 * u) + 1) (fgI (fun q => τ 5 t q) (τ 4 t 1) 2 (x + 1))) 20 0 16 (x + 3)) 31 0 ((4 * u) + 2) ((10 * ((up (up (up (up (up σ 20 0 16 (x + 1)) 31 0 (4 * u) (kdB (τ 5 t x))) 31 0 ((4 * u) + 2) 0) 20 0 16 (x + 2)) 31 0 ((4 * u) + 1) (fgI (fun q => τ 5 t q) (τ 4 t 1) 2 (x + 1))) 31 0 ((4 * u) + 2))) + (fgI (fun q => τ 5 t q) (τ 4 t 1) 0 (x + 2)))) 20 0 16 (x + 4)) 31 0 ((4 * u) + 2) ((10 * ((10 * ((up (up (up (up (up σ 20 0 16 (x + 1)) 31 0 (4 * u) (kdB (τ 5 t x))) 31 0 ((4 * u) + 2) 0) 20 0 16 (x + 2)) 31 0 ((4 * u) + 1) (fgI (fun q => τ 5 t q) (τ 4 t 1) 2 (x + 1))) 31 0 ((4 * u) + 2))) + (fgI (fun q => τ 5 t q) (τ 4 t 1) 0 (x + 2)))) + (fgI (fun q => τ 5 t q) (τ 4 t 1) 0 (x + 3))) from mFg_0 (by omega)) ▸ hG
                                        refine zr_iconst zC dX5_readsTown_92 ?_
                                        exact zp_zret zC zK hG dX5_readsTown_93 (zB_f (by omega)) (Or.inl rfl) ⟨(sP_31 (sP_16 (sP_31 (sP_16 (sP_31 (sP_16 (sP_31 (sP_31 (sP_16 (sP_r _)))))))))), fun z => absurd z (by omega), fun _ => by show x + 4 = _; rw [if_neg (by omega)]; omega⟩
                                    · exact absurd c72 (by omega)
                              · exact absurd c96 (by omega)
                            · have g9 := fg_0 (f := (fun q => τ 5 t q)) (n := (τ 4 t 1)) (lo := 0) (x := x + 3) (by omega) (by omega)
                              have e9 : foI (fun q => τ 5 t q) (τ 4 t 1) x = x + 3 := e2.trans (fo_f 3 3 (by omega) (by omega))
                              have hG := (show mFg (up (up (up (up (up (up (up σ 20 0 16 (x + 1)) 31 0 (4 * u) (kdB (τ 5 t x))) 31 0 ((4 * u) + 2) 0) 20 0 16 (x + 2)) 31 0 ((4 * u) + 1) (fgI (fun q => τ 5 t q) (τ 4 t 1) 2 (x + 1))) 20 0 16 (x + 3)) 31 0 ((4 * u) + 2) ((10 * ((up (up (up (up (up σ 20 0 16 (x + 1)) 31 0 (4 * u) (kdB (τ 5 t x))) 31 0 ((4 * u) + 2) 0) 20 0 16 (x + 2)) 31 0 ((4 * u) + 1) (fgI (fun q => τ 5 t q) (τ 4 t 1) 2 (x + 1))) 31 0 ((4 * u) + 2))) + (fgI (fun q => τ 5 t q) (τ 4 t 1) 0 (x + 2)))) (x + 3) (fgI (fun q => τ 5 t q) (τ 4 t 1) 0 (x + 3)) = up (up (up (up (up (up (up σ 20 0 16 (x + 1)) 31 0 (4 * u) (kdB (τ 5 t x))) 31 0 ((4 * u) + 2) 0) 20 0 16 (x + 2)) 31 0 ((4 * u) + 1) (fgI (fun q => τ 5 t q) (τ 4 t 1) 2 (x + 1))) 20 0 16 (x + 3)) 31 0 ((4 * u) + 2) ((10 * ((up (up (up (up (up σ 20 0 16 (x + 1)) 31 0 (4 * u) (kdB (τ 5 t x))) 31 0 ((4 * u) + 2) 0) 20 0 16 (x + 2)) 31 0 ((4 * u) + 1) (fgI (fun q => τ 5 t q) (τ 4 t 1) 2 (x + 1))) 31 0 ((4 * u) + 2))) + (fgI (fun q => τ 5 t q) (τ 4 t 1) 0 (x + 2))) from mFg_0 (by omega)) ▸ hG
                              refine zr_iconst zC dX5_readsTown_92 ?_
                              exact zp_zret zC zK hG dX5_readsTown_93 (zB_f (by omega)) (Or.inl rfl) ⟨(sP_31 (sP_16 (sP_31 (sP_16 (sP_31 (sP_31 (sP_16 (sP_r _)))))))), fun z => absurd z (by omega), fun _ => by show x + 3 = _; rw [if_neg (by omega)]; omega⟩
                          · exact absurd c72 (by omega)
                    · exact absurd c96 (by omega)
                  · have g9 := fg_0 (f := (fun q => τ 5 t q)) (n := (τ 4 t 1)) (lo := 0) (x := x + 2) (by omega) (by omega)
                    have e9 : foI (fun q => τ 5 t q) (τ 4 t 1) x = x + 2 := e1.trans (fo_f 4 2 (by omega) (by omega))
                    have hG := (show mFg (up (up (up (up (up σ 20 0 16 (x + 1)) 31 0 (4 * u) (kdB (τ 5 t x))) 31 0 ((4 * u) + 2) 0) 20 0 16 (x + 2)) 31 0 ((4 * u) + 1) (fgI (fun q => τ 5 t q) (τ 4 t 1) 2 (x + 1))) (x + 2) (fgI (fun q => τ 5 t q) (τ 4 t 1) 0 (x + 2)) = up (up (up (up (up σ 20 0 16 (x + 1)) 31 0 (4 * u) (kdB (τ 5 t x))) 31 0 ((4 * u) + 2) 0) 20 0 16 (x + 2)) 31 0 ((4 * u) + 1) (fgI (fun q => τ 5 t q) (τ 4 t 1) 2 (x + 1)) from mFg_0 (by omega)) ▸ hG
                    refine zr_iconst zC dX5_readsTown_92 ?_
                    exact zp_zret zC zK hG dX5_readsTown_93 (zB_f (by omega)) (Or.inl rfl) ⟨(sP_31 (sP_16 (sP_31 (sP_31 (sP_16 (sP_r _)))))), fun z => absurd z (by omega), fun _ => by show x + 2 = _; rw [if_neg (by omega)]; omega⟩
                · exact absurd c72 (by omega)
          · have g9 := fg_0 (f := (fun q => τ 5 t q)) (n := (τ 4 t 1)) (lo := 2) (x := x + 1) (by omega) (by omega)
            have e9 : foI (fun q => τ 5 t q) (τ 4 t 1) x = x + 1 := e0.trans (fo_f 5 1 (by omega) (by omega))
            have hG := (show mFg (up (up (up σ 20 0 16 (x + 1)) 31 0 (4 * u) (kdB (τ 5 t x))) 31 0 ((4 * u) + 2) 0) (x + 1) (fgI (fun q => τ 5 t q) (τ 4 t 1) 2 (x + 1)) = up (up (up σ 20 0 16 (x + 1)) 31 0 (4 * u) (kdB (τ 5 t x))) 31 0 ((4 * u) + 2) 0 from mFg_0 (by omega)) ▸ hG
            refine zr_iconst zC dX5_readsTown_92 ?_
            exact zp_zret zC zK hG dX5_readsTown_93 (zB_f (by omega)) (Or.inl rfl) ⟨(sP_31 (sP_31 (sP_16 (sP_r _)))), fun z => absurd z (by omega), fun _ => by show x + 1 = _; rw [if_neg (by omega)]; omega⟩
    · refine zr_iconst zC dX5_readsTown_23 ?_
      exact zp_zret zC zK hG dX5_readsTown_24 (zB_f (by omega)) (Or.inl rfl) ⟨sP_r _, fun z => absurd z (by omega), fun _ => by rw [hx]; split <;> omega⟩

set_option maxHeartbeats 4000000 in
set_option maxRecDepth 100000 in
theorem c_X5_goesOn {Γ : Gm} {zl : Launch} {A : Nat → Prop} {τ σ : Mm} {t : Int} (hR : Rel2 τ σ) (hI : IC τ) (ht : 0 ≤ t ∧ t < 4) (hn : 0 ≤ τ 4 t 1 ∧ τ 4 t 1 ≤ 60) : Fp Γ zl A yX5_goesOn cX5_goesOn 2 (some .int) 3 70 [.ref (aM Γ), .int (zI t)] σ (some (.int (zI (ffI (fun q => τ 5 t q) (τ 4 t 1))))) (fun σ2 => (Rel2 τ σ2 ∧ sC σ σ2) ∧ (ffI (fun q => τ 5 t q) (τ 4 t 1) = -9 → σ2 20 0 17 = rdC (fun q => τ 5 t q) (τ 4 t 1) 61 0 0 ∧ ∀ c : Int, 0 ≤ c → c < rdC (fun q => τ 5 t q) (τ 4 t 1) 61 0 0 → σ2 31 0 (4 * c) = rdM (fun q => τ 5 t q) (τ 4 t 1) 61 0 0 τ 6 c 0 ∧ σ2 31 0 (4 * c + 1) = rdM (fun q => τ 5 t q) (τ 4 t 1) 61 0 0 τ 6 c 1 ∧ σ2 31 0 (4 * c + 2) = rdM (fun q => τ 5 t q) (τ 4 t 1) 61 0 0 τ 6 c 2 ∧ σ2 31 0 (4 * c + 3) = rdM (fun q => τ 5 t q) (τ 4 t 1) 61 0 0 τ 6 c 3)) := by
  refine Fp_of (by decide) (Nat.le_of_ble_eq_true rfl) ?_
  intro zp ze zs zm args below meth zc zQ H locs ls zC zK hG hl
  have hl : lv_has ls 2 [(0, .ref (aM Γ)), (1, .int (zI t))] := hl
  obtain ⟨hmany, htoday, -⟩ := id hI
  refine lv_aload_n zC.1 zC.2.1 dX5_goesOn_0 rfl (lv_at hl 0 rfl) ?_
  refine zr_iconst zC dX5_goesOn_1 ?_
  refine pf_M_readAt zC hG wl_X5_95 dX5_goesOn_2 (fun H locs hG => ?_)
  refine lv_aload_n zC.1 zC.2.1 dX5_goesOn_5 rfl (lv_at hl 0 rfl) ?_
  refine zr_iconst zC dX5_goesOn_6 ?_
  refine pf_M_readMany zC hG wl_X5_104 dX5_goesOn_7 (fun H locs hG => ?_)
  have loop10 : ∀ (nf : Nat) (σ10q : Mm) (H : Heap) (locs : List Loc) (ls : Array Slot), (0 ≤ σ10q 20 0 16 ∧ σ10q 20 0 16 ≤ 60) → (0 ≤ σ10q 20 0 17 ∧ σ10q 20 0 17 ≤ 5) → (goK (fun q => τ 5 t q) (τ 4 t 1) τ σ10q) → (Rel2 τ σ10q) → (sC σ σ10q) → (60 - σ10q 20 0 16 < (nf : Int)) → GM Γ A σ10q zs H locs → lv_has ls 2 [(0, .ref (aM Γ)), (1, .int (zI t))] → W zp zl ze { frames := 3, cells := 0, slots := 0, locals := 70 } zs zm args below meth zc H locs 0 0 zQ (F0 zm 10 ls []) := by
    intro nf
    induction nf with
    | zero =>
      intro σ10q H locs ls hx hu hK hR10q hC10q hm10 _ _
      exact absurd hm10 (by omega)
    | succ nf ih10 =>
      intro σ10q H locs ls hx hu hK hR10q hC10q hm10 hG hl
      refine lv_aload_n zC.1 zC.2.1 dX5_goesOn_10 rfl (lv_at hl 0 rfl) ?_
      refine gf_M_readAt (v := σ10q 20 0 16) zC hG wl_X5_95 (by first | rfl | simp [up]) dX5_goesOn_11 ?_
      refine lv_aload_n zC.1 zC.2.1 dX5_goesOn_14 rfl (lv_at hl 0 rfl) ?_
      refine gf_M_lengths zC hG wl_X5_26 dX5_goesOn_15 ?_
      refine lv_iload_n zC.1 zC.2.1 dX5_goesOn_18 rfl (lv_at hl 1 rfl) ?_
      refine gi_m_lengths (v := szM (τ 4 t 1)) zC hG (by omega) (hR10q.2.2.2.2.1 t (by omega) (by omega)) dX5_goesOn_19 ?_
      have f19 := hI.2.2.2.2.1 t (by omega) (by omega)
      have f19s := szM_s (τ 4 t 1)
      refine zr_icmp_ge (tgt := 59) zC dX5_goesOn_20 (by decide) (by omega) (fun c20 => ?_) (fun c20 => ?_)
      · refine zr_bipush zC dX5_goesOn_59 (by decide +kernel) ?_
        exact zp_iret zC zK hG dX5_goesOn_61 (go_e hK (by omega)).1 ⟨⟨hR10q, hC10q⟩, fun _ => (go_e hK (by omega)).2⟩
      · refine lv_aload_n zC.1 zC.2.1 dX5_goesOn_23 rfl (lv_at hl 0 rfl) ?_
        refine lv_iload_n zC.1 zC.2.1 dX5_goesOn_24 rfl (lv_at hl 1 rfl) ?_
        refine zr_callV zC hG (c_X5_here (τ := τ) (σ := σ10q) (t := t) (x := σ10q 20 0 16) hR10q hI (by first | assumption | omega) (by first | rfl | simp [up]) (by first | assumption | omega) (by first | assumption | omega)) mt_X5_here wl_X5_98 pM rfl rfl ⟨by decide, by decide⟩ rfl hl.1 rfl (Nat.le_of_ble_eq_true rfl) dX5_goesOn_25 ⟨Nat.zero_le _, Nat.zero_le _⟩ (fun H locs hG => ?_)
        refine W.eq (g2 := F0 zm 28 ls [.int (zI (hrI (fun q => τ 5 t q) (τ 4 t 1) (σ10q 20 0 16)))]) rfl ?_
        have b25_0 := hr_r hI (t := t) (x := (σ10q 20 0 16)) (by omega) (by omega)
        have b28 := hI.2.2.2.2.2.1 t (σ10q 20 0 16) (by omega) (by omega) (by omega) (by omega)
        refine zr_topi (y := τ 5 t (σ10q 20 0 16)) (hr_1 (f := fun q => τ 5 t q) (by omega)) ?_
        refine zr_bipush zC dX5_goesOn_28 (by decide +kernel) ?_
        refine zr_icmp_ne (tgt := 46) zC dX5_goesOn_30 (by decide) (by omega) (fun c30 => ?_) (fun c30 => ?_)
        · refine lv_aload_n zC.1 zC.2.1 dX5_goesOn_46 rfl (lv_at hl 0 rfl) ?_
          refine lv_iload_n zC.1 zC.2.1 dX5_goesOn_47 rfl (lv_at hl 1 rfl) ?_
          refine zp_callV zC hG (c_X5_readsTown (τ := τ) (σ := σ10q) (t := t) (x := σ10q 20 0 16) (u := σ10q 20 0 17) hR10q hI (by first | assumption | omega) (by first | rfl | simp [up]) (by first | rfl | simp [up]) (by first | assumption | omega) (by first | assumption | omega) (by first | assumption | omega)) mt_X5_readsTown wl_X5_110 pM rfl rfl ⟨by decide, by decide⟩ rfl hl.1 rfl (Nat.le_of_ble_eq_true rfl) dX5_goesOn_48 ⟨Nat.zero_le _, Nat.zero_le _⟩ (fun σ48 H locs hP48 hG => ?_)
          refine W.eq (g2 := F0 zm 51 ls [.int (zI (zB ((σ10q 20 0 17) ≠ 5 ∧ foI (fun q => τ 5 t q) (τ 4 t 1) (σ10q 20 0 16) = -9)))]) rfl ?_
          refine zr_ifneB (tgt := 10) zC dX5_goesOn_51 (by decide) (fun c51 => ?_) (fun c51 => ?_)
          · obtain ⟨gt1, gt2, gt3, gt4⟩ := go_t hK (by omega) (by omega) hu (by show τ 5 t (σ10q 20 0 16) ≠ 32; omega) hP48 c51
            exact ih10 σ48 H locs ls (by first | (show 0 ≤ σ10q 20 0 16 + 1 ∧ σ10q 20 0 16 + 1 ≤ 60; omega) | omega) (by first | exact hu | omega) (by first | exact go_b hK (by omega) (by omega) (by show τ 5 t (σ10q 20 0 16) = 32; omega) | exact gt1) (rl_sP hR10q hP48.1) (sC_t hC10q (sC_sP hP48.1)) (by first | (show 60 - (σ10q 20 0 16 + 1) < (nf : Int); omega) | omega) hG (lv_sub hl [0, 1] rfl)
          · have gf := go_f hK (by omega) (by omega) (by show τ 5 t (σ10q 20 0 16) ≠ 32; omega) c51
            have gp := hP48.2.2 c51
            refine lv_aload_n zC.1 zC.2.1 dX5_goesOn_54 rfl (lv_at hl 0 rfl) ?_
            refine gf_M_readAt (v := σ48 20 0 16) zC hG wl_X5_95 (by first | rfl | simp [up]) dX5_goesOn_55 ?_
            exact zp_iret zC zK hG dX5_goesOn_58 (gf.1.trans gp.symm) ⟨⟨(rl_sP hR10q hP48.1), (sC_t hC10q (sC_sP hP48.1))⟩, fun z => absurd z gf.2⟩
        · refine lv_aload_n zC.1 zC.2.1 dX5_goesOn_33 rfl (lv_at hl 0 rfl) ?_
          refine lv_dup zC.1 zC.2.1 dX5_goesOn_34 rfl ?_
          refine gf_M_readAt (v := σ10q 20 0 16) zC hG wl_X5_95 (by first | rfl | simp [up]) dX5_goesOn_35 ?_
          refine zr_iconst zC dX5_goesOn_38 ?_
          refine zr_iadd zC dX5_goesOn_39 ?_
          refine pf_M_readAt zC hG wl_X5_95 dX5_goesOn_40 (fun H locs hG => ?_)
          refine lv_goto (tgt := 10) zC.1 zC.2.1 dX5_goesOn_43 (by decide) ?_
          exact ih10 (up σ10q 20 0 16 ((σ10q 20 0 16) + 1)) H locs ls (by first | (show 0 ≤ σ10q 20 0 16 + 1 ∧ σ10q 20 0 16 + 1 ≤ 60; omega) | omega) (by first | exact hu | omega) (by first | exact go_b hK (by omega) (by omega) (by show τ 5 t (σ10q 20 0 16) = 32; omega) | exact gt1) hR10q (sC_up hC10q (by decide)) (by first | (show 60 - (σ10q 20 0 16 + 1) < (nf : Int); omega) | omega) hG (lv_sub hl [0, 1] rfl)
  exact loop10 ((60 - (up (up σ 20 0 16 0) 20 0 17 0) 20 0 16 : Int).toNat + 1) (up (up σ 20 0 16 0) 20 0 17 0) H locs ls (show (0 : Int) ≤ 0 ∧ (0 : Int) ≤ 60 by omega) (show (0 : Int) ≤ 0 ∧ (0 : Int) ≤ 5 by omega) (go_0 (fun q => τ 5 t q) (τ 4 t 1) τ σ) hR (sC_up (sC_up (sC_r _) (by decide)) (by decide)) (by omega) hG (lv_sub hl [0, 1] rfl)

set_option maxHeartbeats 4000000 in
set_option maxRecDepth 100000 in
theorem c_X5_fault {Γ : Gm} {zl : Launch} {A : Nat → Prop} {τ σ : Mm} {t : Int} (hR : Rel2 τ σ) (hI : IC τ) (ht : -2147483648 ≤ t ∧ t < 2147483648) : Fr Γ zl A yX5_fault cX5_fault 3 (some .int) 4 91 [.ref (aM Γ), .int (zI t)] σ (some (.int (zI (rC_fault τ t)))) (mC_fault τ t) := by
  refine Fr_of (by decide) (Nat.le_of_ble_eq_true rfl) ?_
  intro zp ze zs zm args below meth zc zQ H locs ls zC zK hG hl
  have hl : lv_has ls 3 [(0, .ref (aM Γ)), (1, .int (zI t))] := hl
  obtain ⟨hmany, htoday, -⟩ := id hI
  refine lv_aload_n zC.1 zC.2.1 dX5_fault_0 rfl (lv_at hl 0 rfl) ?_
  refine lv_iload_n zC.1 zC.2.1 dX5_fault_1 rfl (lv_at hl 1 rfl) ?_
  refine zm_callV zC hG (c_X5_askedText (τ := τ) (σ := σ) (t := t) hR hI (by first | assumption | omega)) mt_X5_askedText wl_X5_92 pM rfl rfl ⟨by decide, by decide⟩ rfl hl.1 rfl (Nat.le_of_ble_eq_true rfl) dX5_fault_2 ⟨Nat.zero_le _, Nat.zero_le _⟩ (fun σ2 H locs hR2 hC2 hG => ?_)
  refine W.eq (g2 := F0 zm 5 ls [.int (zI (rfT τ t))]) rfl ?_
  have b2_0 := rfT_r τ t
  refine lv_istore_n (lv' := [(2, .int (zI (rfT τ t))), (0, .ref (aM Γ)), (1, .int (zI t))]) zC.1 zC.2.1 dX5_fault_5 rfl hl (by decide) rfl (fun ls hl => ?_)
  refine lv_iload_n zC.1 zC.2.1 dX5_fault_6 rfl (lv_at hl 0 rfl) ?_
  refine zr_if_ge (tgt := 14) zC dX5_fault_7 (by decide) (by omega) (fun c7 => ?_) (fun c7 => ?_)
  · obtain ⟨h1, h2, h3⟩ := rfT_0 (show rfT τ t = 0 by omega)
    rw [h3] at hR2
    have h4 := hI.2.2.2.2.1 t (by omega) (by omega)
    refine lv_aload_n zC.1 zC.2.1 dX5_fault_14 rfl (lv_at hl 1 rfl) ?_
    refine lv_iload_n zC.1 zC.2.1 dX5_fault_15 rfl (lv_at hl 2 rfl) ?_
    refine zp_callV zC hG (c_X5_goesOn (τ := τ) (σ := σ2) (t := t) hR2 hI (by first | assumption | omega) (show 0 ≤ τ 4 t 1 ∧ τ 4 t 1 ≤ 60 by omega)) mt_X5_goesOn wl_X5_113 pM rfl rfl ⟨by decide, by decide⟩ rfl hl.1 rfl (Nat.le_of_ble_eq_true rfl) dX5_fault_16 ⟨Nat.zero_le _, Nat.zero_le _⟩ (fun σ16 H locs hP16 hG => ?_)
    refine W.eq (g2 := F0 zm 19 ls [.int (zI (ffI (fun q => τ 5 t q) (τ 4 t 1)))]) rfl ?_
    have b16_0 := ffG_r (f := fun q => (τ 5 t q)) (n := (τ 4 t 1)) (by omega) 61 0 0 (by omega)
    have b16_1 := show ffI (fun q => (τ 5 t q)) (τ 4 t 1) = ffG (fun q => (τ 5 t q)) (τ 4 t 1) 61 0 0 from rfl
    exact zm_iret zC zK hG dX5_fault_19 (by unfold rC_fault; rw [if_neg (by omega)]) (by unfold mC_fault; rw [h3]; exact hP16.1.1) (sC_t (sC_t (sC_r _) hC2) hP16.1.2)
  · refine lv_iload_n zC.1 zC.2.1 dX5_fault_10 rfl (lv_at hl 0 rfl) ?_
    refine lv_goto (tgt := 19) zC.1 zC.2.1 dX5_fault_11 (by decide) ?_
    exact zm_iret zC zK hG dX5_fault_19 (by unfold rC_fault; rw [if_pos (by omega)]) (by unfold mC_fault; exact hR2) (sC_t (sC_r _) hC2)

set_option maxHeartbeats 4000000 in
set_option maxRecDepth 100000 in
theorem c_X5_almanac {Γ : Gm} {zl : Launch} {A : Nat → Prop} {τ σ : Mm} {t : Int} (hR : Rel2 τ σ) (hI : IC τ) (ht : -2147483648 ≤ t ∧ t < 2147483648) : Fr Γ zl A yX5_almanac cX5_almanac 4 (some .int) 4 91 [.ref (aM Γ), .int (zI t)] σ (some (.int (zI (rC_almanac τ t)))) (mC_almanac τ t) := by
  refine Fr_of (by decide) (Nat.le_of_ble_eq_true rfl) ?_
  intro zp ze zs zm args below meth zc zQ H locs ls zC zK hG hl
  have hl : lv_has ls 4 [(0, .ref (aM Γ)), (1, .int (zI t))] := hl
  obtain ⟨hmany, htoday, -⟩ := id hI
  refine lv_aload_n zC.1 zC.2.1 dX5_almanac_0 rfl (lv_at hl 0 rfl) ?_
  refine lv_iload_n zC.1 zC.2.1 dX5_almanac_1 rfl (lv_at hl 1 rfl) ?_
  refine zm_callV zC hG (c_X5_askedText (τ := τ) (σ := σ) (t := t) hR hI (by first | assumption | omega)) mt_X5_askedText wl_X5_92 pM rfl rfl ⟨by decide, by decide⟩ rfl hl.1 rfl (Nat.le_of_ble_eq_true rfl) dX5_almanac_2 ⟨Nat.zero_le _, Nat.zero_le _⟩ (fun σ2 H locs hR2 hC2 hG => ?_)
  refine W.eq (g2 := F0 zm 5 ls [.int (zI (rfT τ t))]) rfl ?_
  have b2_0 := rfT_r τ t
  refine lv_istore_n (lv' := [(2, .int (zI (rfT τ t))), (0, .ref (aM Γ)), (1, .int (zI t))]) zC.1 zC.2.1 dX5_almanac_5 rfl hl (by decide) rfl (fun ls hl => ?_)
  refine lv_iload_n zC.1 zC.2.1 dX5_almanac_6 rfl (lv_at hl 0 rfl) ?_
  refine zr_if_ge (tgt := 12) zC dX5_almanac_7 (by decide) (by omega) (fun c7 => ?_) (fun c7 => ?_)
  · obtain ⟨h1, h2, h3⟩ := rfT_0 (show rfT τ t = 0 by omega)
    rw [h3] at hR2
    have h4 := hI.2.2.2.2.1 t (by omega) (by omega)
    refine lv_aload_n zC.1 zC.2.1 dX5_almanac_12 rfl (lv_at hl 1 rfl) ?_
    refine lv_iload_n zC.1 zC.2.1 dX5_almanac_13 rfl (lv_at hl 2 rfl) ?_
    refine zp_callV zC hG (c_X5_goesOn (τ := τ) (σ := σ2) (t := t) hR2 hI (by first | assumption | omega) (show 0 ≤ τ 4 t 1 ∧ τ 4 t 1 ≤ 60 by omega)) mt_X5_goesOn wl_X5_113 pM rfl rfl ⟨by decide, by decide⟩ rfl hl.1 rfl (Nat.le_of_ble_eq_true rfl) dX5_almanac_14 ⟨Nat.zero_le _, Nat.zero_le _⟩ (fun σ14 H locs hP14 hG => ?_)
    refine W.eq (g2 := F0 zm 17 ls [.int (zI (ffI (fun q => τ 5 t q) (τ 4 t 1)))]) rfl ?_
    have b14_0 := ffG_r (f := fun q => (τ 5 t q)) (n := (τ 4 t 1)) (by omega) 61 0 0 (by omega)
    have b14_1 := show ffI (fun q => (τ 5 t q)) (τ 4 t 1) = ffG (fun q => (τ 5 t q)) (τ 4 t 1) 61 0 0 from rfl
    refine zr_bipush zC dX5_almanac_17 (by decide +kernel) ?_
    refine zr_icmp_eq (tgt := 25) zC dX5_almanac_19 (by decide) (by omega) (fun c19 => ?_) (fun c19 => ?_)
    · obtain ⟨g1, g2⟩ := hP14.2 (by omega)
      have g0 := rdC_r (fun q => τ 5 t q) (τ 4 t 1) 61 0 0 (by omega) (by omega)
      have sc14 : sC σ σ14 := sC_t (sC_t (sC_r _) hC2) hP14.1.2
      refine lv_aload_n zC.1 zC.2.1 dX5_almanac_25 rfl (lv_at hl 1 rfl) ?_
      refine lv_aload_n zC.1 zC.2.1 dX5_almanac_26 rfl (lv_at hl 1 rfl) ?_
      refine gf_M_readMany (v := (rdC (fun q => τ 5 t q) (τ 4 t 1) 61 0 0)) zC hG wl_X5_104 g1 dX5_almanac_27 ?_
      refine pf_M_many zC hG wl_X5_116 dX5_almanac_30 (fun H locs hG => ?_)
      refine zr_iconst zC dX5_almanac_33 ?_
      refine lv_istore_n (lv' := [(3, .int (zI 0)), (2, .int (zI (rfT τ t))), (0, .ref (aM Γ)), (1, .int (zI t))]) zC.1 zC.2.1 dX5_almanac_34 rfl hl (by decide) rfl (fun ls hl => ?_)
      have loop35 : ∀ (nf : Nat) (q : Int) (H : Heap) (locs : List Loc) (ls : Array Slot), (0 ≤ q ∧ q ≤ (rdC (fun q => τ 5 t q) (τ 4 t 1) 61 0 0)) → ((rdC (fun j => τ 5 t j) (τ 4 t 1) 61 0 0) - q < (nf : Int)) → GM Γ A (mAl σ14 (rdC (fun q => τ 5 t q) (τ 4 t 1) 61 0 0) q) zs H locs → lv_has ls 4 [(0, .ref (aM Γ)), (1, .int (zI t)), (2, .int (zI (rfT τ t))), (3, .int (zI q))] → W zp zl ze { frames := 4, cells := 0, slots := 0, locals := 91 } zs zm args below meth zc H locs 0 0 zQ (F0 zm 35 ls []) := by
        intro nf
        induction nf with
        | zero =>
          intro q H locs ls hq hm35 _ _
          exact absurd hm35 (by omega)
        | succ nf ih35 =>
          intro q H locs ls hq hm35 hG hl
          refine lv_iload_n zC.1 zC.2.1 dX5_almanac_35 rfl (lv_at hl 3 rfl) ?_
          refine lv_aload_n zC.1 zC.2.1 dX5_almanac_36 rfl (lv_at hl 0 rfl) ?_
          refine gf_M_many (v := (rdC (fun q => τ 5 t q) (τ 4 t 1) 61 0 0)) zC hG wl_X5_116 rfl dX5_almanac_37 ?_
          refine zr_icmp_ge (tgt := 111) zC dX5_almanac_40 (by decide) (by omega) (fun c40 => ?_) (fun c40 => ?_)
          · refine lv_aload_n zC.1 zC.2.1 dX5_almanac_111 rfl (lv_at hl 0 rfl) ?_
            refine zr_iconst zC dX5_almanac_112 ?_
            refine pf_M_today zC hG wl_X5_119 dX5_almanac_113 (fun H locs hG => ?_)
            refine zr_iconst zC dX5_almanac_116 ?_
            refine lv_istore_n (lv' := [(3, .int (zI 0)), (0, .ref (aM Γ)), (1, .int (zI t)), (2, .int (zI (rfT τ t)))]) zC.1 zC.2.1 dX5_almanac_117 rfl hl (by decide) rfl (fun ls hl => ?_)
            refine lv_iload_n zC.1 zC.2.1 dX5_almanac_118 rfl (lv_at hl 0 rfl) ?_
            refine zr_iconst zC dX5_almanac_119 ?_
            refine zr_icmp_ge (tgt := 140) zC dX5_almanac_120 (by decide) (by omega) (fun c120 => ?_) (fun c120 => ?_)
            · exact absurd c120 (by omega)
            · refine lv_aload_n zC.1 zC.2.1 dX5_almanac_123 rfl (lv_at hl 1 rfl) ?_
              refine gf_M_kept zC hG wl_X5_47 dX5_almanac_124 ?_
              refine zr_bipush zC dX5_almanac_127 (by decide +kernel) ?_
              refine lv_iload_n zC.1 zC.2.1 dX5_almanac_129 rfl (lv_at hl 0 rfl) ?_
              refine zr_imul zC dX5_almanac_130 ?_
              refine zr_topi (y := 0) (by decide) ?_
              refine zr_bipush zC dX5_almanac_131 (by decide +kernel) ?_
              refine pi_m_kept zC hG (by omega) dX5_almanac_133 (fun H locs hG => ?_)
              refine zr_iinc (lv' := [(3, .int (zI 1)), (0, .ref (aM Γ)), (1, .int (zI t)), (2, .int (zI (rfT τ t)))]) zC dX5_almanac_134 hl (k := 0) rfl (by decide) rfl (fun ls hl => ?_)
              refine lv_goto (tgt := 118) zC.1 zC.2.1 dX5_almanac_137 (by decide) ?_
              refine lv_iload_n zC.1 zC.2.1 dX5_almanac_118 rfl (lv_at hl 0 rfl) ?_
              refine zr_iconst zC dX5_almanac_119 ?_
              refine zr_icmp_ge (tgt := 140) zC dX5_almanac_120 (by decide) (by omega) (fun c120 => ?_) (fun c120 => ?_)
              · exact absurd c120 (by omega)
              · refine lv_aload_n zC.1 zC.2.1 dX5_almanac_123 rfl (lv_at hl 1 rfl) ?_
                refine gf_M_kept zC hG wl_X5_47 dX5_almanac_124 ?_
                refine zr_bipush zC dX5_almanac_127 (by decide +kernel) ?_
                refine lv_iload_n zC.1 zC.2.1 dX5_almanac_129 rfl (lv_at hl 0 rfl) ?_
                refine zr_imul zC dX5_almanac_130 ?_
                refine zr_topi (y := 21) (by decide) ?_
                refine zr_bipush zC dX5_almanac_131 (by decide +kernel) ?_
                refine pi_m_kept zC hG (by omega) dX5_almanac_133 (fun H locs hG => ?_)
                refine zr_iinc (lv' := [(3, .int (zI 2)), (0, .ref (aM Γ)), (1, .int (zI t)), (2, .int (zI (rfT τ t)))]) zC dX5_almanac_134 hl (k := 0) rfl (by decide) rfl (fun ls hl => ?_)
                refine lv_goto (tgt := 118) zC.1 zC.2.1 dX5_almanac_137 (by decide) ?_
                refine lv_iload_n zC.1 zC.2.1 dX5_almanac_118 rfl (lv_at hl 0 rfl) ?_
                refine zr_iconst zC dX5_almanac_119 ?_
                refine zr_icmp_ge (tgt := 140) zC dX5_almanac_120 (by decide) (by omega) (fun c120 => ?_) (fun c120 => ?_)
                · exact absurd c120 (by omega)
                · refine lv_aload_n zC.1 zC.2.1 dX5_almanac_123 rfl (lv_at hl 1 rfl) ?_
                  refine gf_M_kept zC hG wl_X5_47 dX5_almanac_124 ?_
                  refine zr_bipush zC dX5_almanac_127 (by decide +kernel) ?_
                  refine lv_iload_n zC.1 zC.2.1 dX5_almanac_129 rfl (lv_at hl 0 rfl) ?_
                  refine zr_imul zC dX5_almanac_130 ?_
                  refine zr_topi (y := 42) (by decide) ?_
                  refine zr_bipush zC dX5_almanac_131 (by decide +kernel) ?_
                  refine pi_m_kept zC hG (by omega) dX5_almanac_133 (fun H locs hG => ?_)
                  refine zr_iinc (lv' := [(3, .int (zI 3)), (0, .ref (aM Γ)), (1, .int (zI t)), (2, .int (zI (rfT τ t)))]) zC dX5_almanac_134 hl (k := 0) rfl (by decide) rfl (fun ls hl => ?_)
                  refine lv_goto (tgt := 118) zC.1 zC.2.1 dX5_almanac_137 (by decide) ?_
                  refine lv_iload_n zC.1 zC.2.1 dX5_almanac_118 rfl (lv_at hl 0 rfl) ?_
                  refine zr_iconst zC dX5_almanac_119 ?_
                  refine zr_icmp_ge (tgt := 140) zC dX5_almanac_120 (by decide) (by omega) (fun c120 => ?_) (fun c120 => ?_)
                  · refine lv_aload_n zC.1 zC.2.1 dX5_almanac_140 rfl (lv_at hl 1 rfl) ?_
                    refine gf_M_many (v := (rdC (fun q => τ 5 t q) (τ 4 t 1) 61 0 0)) zC hG wl_X5_116 rfl dX5_almanac_141 ?_
                    exact zm_iret zC zK hG dX5_almanac_144 (by unfold rC_almanac; rw [if_neg (by omega), if_neg (by omega)]) (by unfold mC_almanac; rw [if_neg (by omega), if_neg (by omega), show q = (rdC (fun q => τ 5 t q) (τ 4 t 1) 61 0 0) by omega]; exact rl_al hP14.1.1 g2) (sC_up (sC_up (sC_up (sC_up (sC_al sc14) (by decide)) (by decide)) (by decide)) (by decide))
                  · exact absurd c120 (by omega)
          · refine lv_aload_n zC.1 zC.2.1 dX5_almanac_43 rfl (lv_at hl 0 rfl) ?_
            refine gf_M_kindOf zC hG wl_X5_32 dX5_almanac_44 ?_
            refine lv_iload_n zC.1 zC.2.1 dX5_almanac_47 rfl (lv_at hl 3 rfl) ?_
            refine lv_aload_n zC.1 zC.2.1 dX5_almanac_48 rfl (lv_at hl 0 rfl) ?_
            refine gf_M_read zC hG wl_X5_44 dX5_almanac_49 ?_
            refine zr_iconst zC dX5_almanac_52 ?_
            refine lv_iload_n zC.1 zC.2.1 dX5_almanac_53 rfl (lv_at hl 3 rfl) ?_
            refine zr_imul zC dX5_almanac_54 ?_
            refine gi_m_read (v := σ14 31 0 (4 * q)) zC hG (by omega) rfl dX5_almanac_55 ?_
            refine pi_m_kindOf zC hG (by omega) dX5_almanac_56 (fun H locs hG => ?_)
            refine lv_aload_n zC.1 zC.2.1 dX5_almanac_57 rfl (lv_at hl 0 rfl) ?_
            refine gf_M_leapOf zC hG wl_X5_35 dX5_almanac_58 ?_
            refine lv_iload_n zC.1 zC.2.1 dX5_almanac_61 rfl (lv_at hl 3 rfl) ?_
            refine lv_aload_n zC.1 zC.2.1 dX5_almanac_62 rfl (lv_at hl 0 rfl) ?_
            refine gf_M_read zC hG wl_X5_44 dX5_almanac_63 ?_
            refine zr_iconst zC dX5_almanac_66 ?_
            refine lv_iload_n zC.1 zC.2.1 dX5_almanac_67 rfl (lv_at hl 3 rfl) ?_
            refine zr_imul zC dX5_almanac_68 ?_
            refine zr_iconst zC dX5_almanac_69 ?_
            refine zr_iadd zC dX5_almanac_70 ?_
            refine gi_m_read (v := σ14 31 0 (4 * q + 1)) zC hG (by omega) rfl dX5_almanac_71 ?_
            refine pi_m_leapOf zC hG (by omega) dX5_almanac_72 (fun H locs hG => ?_)
            refine lv_aload_n zC.1 zC.2.1 dX5_almanac_73 rfl (lv_at hl 0 rfl) ?_
            refine gf_M_orderOf zC hG wl_X5_38 dX5_almanac_74 ?_
            refine lv_iload_n zC.1 zC.2.1 dX5_almanac_77 rfl (lv_at hl 3 rfl) ?_
            refine lv_aload_n zC.1 zC.2.1 dX5_almanac_78 rfl (lv_at hl 0 rfl) ?_
            refine gf_M_read zC hG wl_X5_44 dX5_almanac_79 ?_
            refine zr_iconst zC dX5_almanac_82 ?_
            refine lv_iload_n zC.1 zC.2.1 dX5_almanac_83 rfl (lv_at hl 3 rfl) ?_
            refine zr_imul zC dX5_almanac_84 ?_
            refine zr_iconst zC dX5_almanac_85 ?_
            refine zr_iadd zC dX5_almanac_86 ?_
            refine gi_m_read (v := σ14 31 0 (4 * q + 2)) zC hG (by omega) rfl dX5_almanac_87 ?_
            refine pi_m_orderOf zC hG (by omega) dX5_almanac_88 (fun H locs hG => ?_)
            refine lv_aload_n zC.1 zC.2.1 dX5_almanac_89 rfl (lv_at hl 0 rfl) ?_
            refine gf_M_gapOf zC hG wl_X5_41 dX5_almanac_90 ?_
            refine lv_iload_n zC.1 zC.2.1 dX5_almanac_93 rfl (lv_at hl 3 rfl) ?_
            refine lv_aload_n zC.1 zC.2.1 dX5_almanac_94 rfl (lv_at hl 0 rfl) ?_
            refine gf_M_read zC hG wl_X5_44 dX5_almanac_95 ?_
            refine zr_iconst zC dX5_almanac_98 ?_
            refine lv_iload_n zC.1 zC.2.1 dX5_almanac_99 rfl (lv_at hl 3 rfl) ?_
            refine zr_imul zC dX5_almanac_100 ?_
            refine zr_iconst zC dX5_almanac_101 ?_
            refine zr_iadd zC dX5_almanac_102 ?_
            refine gi_m_read (v := σ14 31 0 (4 * q + 3)) zC hG (by omega) rfl dX5_almanac_103 ?_
            refine pi_m_gapOf zC hG (by omega) dX5_almanac_104 (fun H locs hG => ?_)
            refine zr_iinc (lv' := [(3, .int (zI (q + 1))), (0, .ref (aM Γ)), (1, .int (zI t)), (2, .int (zI (rfT τ t)))]) zC dX5_almanac_105 hl (k := 3) rfl (by decide) rfl (fun ls hl => ?_)
            refine lv_goto (tgt := 35) zC.1 zC.2.1 dX5_almanac_108 (by decide) ?_
            exact ih35 (q + 1) H locs ls (by first | assumption | omega) (by omega) ((show up (up (up (up (mAl σ14 (rdC (fun q => τ 5 t q) (τ 4 t 1) 61 0 0) q) 27 0 q (σ14 31 0 (4 * q))) 28 0 q (σ14 31 0 (4 * q + 1))) 29 0 q (σ14 31 0 (4 * q + 2))) 30 0 q (σ14 31 0 (4 * q + 3)) = mAl σ14 (rdC (fun q => τ 5 t q) (τ 4 t 1) 61 0 0) (q + 1) from (mAl_s σ14 (rdC (fun q => τ 5 t q) (τ 4 t 1) 61 0 0) q (by omega))) ▸ hG) (lv_sub hl [1, 2, 3, 0] rfl)
      exact loop35 (((rdC (fun j => τ 5 t j) (τ 4 t 1) 61 0 0) - 0 : Int).toNat + 1) 0 H locs ls (by first | assumption | omega) (by omega) ((show up σ14 20 0 10 (rdC (fun q => τ 5 t q) (τ 4 t 1) 61 0 0) = mAl σ14 (rdC (fun q => τ 5 t q) (τ 4 t 1) 61 0 0) 0 from (mAl_0 σ14 (rdC (fun q => τ 5 t q) (τ 4 t 1) 61 0 0))) ▸ hG) (lv_sub hl [2, 3, 1, 0] rfl)
    · refine zr_bipush zC dX5_almanac_22 (by decide +kernel) ?_
      exact zm_iret zC zK hG dX5_almanac_24 (by unfold rC_almanac; rw [if_neg (by omega), if_pos (by omega)]) (by unfold mC_almanac; rw [if_neg (by omega), if_pos (by omega)]; exact hP14.1.1) (sC_t (sC_t (sC_r _) hC2) hP14.1.2)
  · refine lv_iload_n zC.1 zC.2.1 dX5_almanac_10 rfl (lv_at hl 0 rfl) ?_
    exact zm_iret zC zK hG dX5_almanac_11 (by unfold rC_almanac; rw [if_pos (by omega)]) (by unfold mC_almanac; rw [if_pos (by omega)]; exact hR2) (sC_t (sC_r _) hC2)
