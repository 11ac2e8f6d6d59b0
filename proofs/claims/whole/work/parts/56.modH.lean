set_option maxHeartbeats 4000000 in
set_option maxRecDepth 100000 in
theorem c_X5_keep {Γ : Gm} {zl : Launch} {A : Nat → Prop} {τ σ : Mm} {k : Int} (hR : Rel2 τ σ) (hI : IC τ) (hk : -2147483648 ≤ k ∧ k < 2147483648) : Fr Γ zl A yX5_keep cX5_keep 4 (some .int) 1 22 [.ref (aM Γ), .int (zI k)] σ (some (.int (zI (rC_keep τ k)))) (mC_keep τ k) := by
  refine Fr_of (by decide) (Nat.le_of_ble_eq_true rfl) ?_
  intro zp ze zs zm args below meth zc zQ H locs ls zC zK hG hl
  have hl : lv_has ls 4 [(0, .ref (aM Γ)), (1, .int (zI k))] := hl
  obtain ⟨hmany, htoday, -⟩ := id hI
  refine lv_iload_n zC.1 zC.2.1 dX5_keep_0 rfl (lv_at hl 1 rfl) ?_
  refine zr_iconst zC dX5_keep_1 ?_
  refine zr_iconst zC dX5_keep_2 ?_
  refine zr_callS zC hG (c_X5_in (σ := σ) (v := k) (a := 0) (b := 2) (by first | assumption | omega) (by first | assumption | omega) (by first | assumption | omega)) mt_X5_in wl_X5_60 ⟨by decide, by decide⟩ rfl hl.1 rfl (Nat.le_of_ble_eq_true rfl) dX5_keep_3 ⟨Nat.zero_le _, Nat.zero_le _⟩ (fun H locs hG => ?_)
  refine W.eq (g2 := F0 zm 6 ls [.int (zI (zB (0 ≤ k ∧ k ≤ 2)))]) rfl ?_
  refine zr_ifneB (tgt := 11) zC dX5_keep_6 (by decide) (fun c6 => ?_) (fun c6 => ?_)
  · refine lv_aload_n zC.1 zC.2.1 dX5_keep_11 rfl (lv_at hl 0 rfl) ?_
    refine gf_M_many (v := τ 0 0 6) zC hG wl_X5_116 hR.1.2.2.2.2.1 dX5_keep_12 ?_
    refine zr_if_ne (tgt := 21) zC dX5_keep_15 (by decide) (by omega) (fun c15 => ?_) (fun c15 => ?_)
    · refine zr_bipush zC dX5_keep_21 (by decide +kernel) ?_
      refine lv_iload_n zC.1 zC.2.1 dX5_keep_23 rfl (lv_at hl 1 rfl) ?_
      refine zr_imul zC dX5_keep_24 ?_
      refine lv_istore_n (lv' := [(2, .int (zI (21 * k))), (0, .ref (aM Γ)), (1, .int (zI k))]) zC.1 zC.2.1 dX5_keep_25 rfl hl (by decide) rfl (fun ls hl => ?_)
      refine lv_aload_n zC.1 zC.2.1 dX5_keep_26 rfl (lv_at hl 1 rfl) ?_
      refine gf_M_kept zC hG wl_X5_47 dX5_keep_27 ?_
      refine lv_iload_n zC.1 zC.2.1 dX5_keep_30 rfl (lv_at hl 0 rfl) ?_
      refine lv_aload_n zC.1 zC.2.1 dX5_keep_31 rfl (lv_at hl 1 rfl) ?_
      refine gf_M_today (v := τ 0 0 7) zC hG wl_X5_119 hR.1.2.2.2.2.2 dX5_keep_32 ?_
      refine pi_m_kept zC hG (by omega) dX5_keep_35 (fun H locs hG => ?_)
      refine zr_iconst zC dX5_keep_36 ?_
      refine lv_istore_n (lv' := [(3, .int (zI 0)), (2, .int (zI (21 * k))), (0, .ref (aM Γ)), (1, .int (zI k))]) zC.1 zC.2.1 dX5_keep_37 rfl hl (by decide) rfl (fun ls hl => ?_)
      have loop38 : ∀ (nf : Nat) (q : Int) (H : Heap) (locs : List Loc) (ls : Array Slot), (0 ≤ q ∧ q ≤ 5) → (5 - q < (nf : Int)) → GM Γ A (mKp σ k (τ 0 0 7) q) zs H locs → lv_has ls 4 [(0, .ref (aM Γ)), (1, .int (zI k)), (2, .int (zI (21 * k))), (3, .int (zI q))] → W zp zl ze { frames := 1, cells := 0, slots := 0, locals := 22 } zs zm args below meth zc H locs 0 0 zQ (F0 zm 38 ls []) := by
        intro nf
        induction nf with
        | zero =>
          intro q H locs ls hq hm38 _ _
          exact absurd hm38 (by omega)
        | succ nf ih38 =>
          intro q H locs ls hq hm38 hG hl
          refine lv_iload_n zC.1 zC.2.1 dX5_keep_38 rfl (lv_at hl 3 rfl) ?_
          refine zr_iconst zC dX5_keep_39 ?_
          refine zr_icmp_ge (tgt := 99) zC dX5_keep_40 (by decide) (by omega) (fun c40 => ?_) (fun c40 => ?_)
          · refine lv_aload_n zC.1 zC.2.1 dX5_keep_99 rfl (lv_at hl 0 rfl) ?_
            refine gf_M_today (v := τ 0 0 7) zC hG wl_X5_119 hR.1.2.2.2.2.2 dX5_keep_100 ?_
            exact zm_iret zC zK hG dX5_keep_103 (by unfold rC_keep; (repeat' split) <;> first | rfl | omega) (by unfold mC_keep; rw [if_neg (by omega), if_neg (by omega), show q = 5 by omega]; exact rl_kp hR hI (by omega)) (sC_kp (sC_r _))
          · refine lv_aload_n zC.1 zC.2.1 dX5_keep_43 rfl (lv_at hl 0 rfl) ?_
            refine gf_M_kept zC hG wl_X5_47 dX5_keep_44 ?_
            refine lv_iload_n zC.1 zC.2.1 dX5_keep_47 rfl (lv_at hl 2 rfl) ?_
            refine zr_iconst zC dX5_keep_48 ?_
            refine zr_iadd zC dX5_keep_49 ?_
            refine lv_iload_n zC.1 zC.2.1 dX5_keep_50 rfl (lv_at hl 3 rfl) ?_
            refine zr_iadd zC dX5_keep_51 ?_
            refine lv_aload_n zC.1 zC.2.1 dX5_keep_52 rfl (lv_at hl 0 rfl) ?_
            refine gf_M_leapOf zC hG wl_X5_35 dX5_keep_53 ?_
            refine lv_iload_n zC.1 zC.2.1 dX5_keep_56 rfl (lv_at hl 3 rfl) ?_
            refine gi_m_leapOf (v := σ 28 0 q) zC hG (by omega) rfl dX5_keep_57 ?_
            refine pi_m_kept zC hG (by omega) dX5_keep_58 (fun H locs hG => ?_)
            refine lv_aload_n zC.1 zC.2.1 dX5_keep_59 rfl (lv_at hl 0 rfl) ?_
            refine gf_M_kept zC hG wl_X5_47 dX5_keep_60 ?_
            refine lv_iload_n zC.1 zC.2.1 dX5_keep_63 rfl (lv_at hl 2 rfl) ?_
            refine zr_bipush zC dX5_keep_64 (by decide +kernel) ?_
            refine zr_iadd zC dX5_keep_66 ?_
            refine lv_iload_n zC.1 zC.2.1 dX5_keep_67 rfl (lv_at hl 3 rfl) ?_
            refine zr_iadd zC dX5_keep_68 ?_
            refine lv_aload_n zC.1 zC.2.1 dX5_keep_69 rfl (lv_at hl 0 rfl) ?_
            refine gf_M_orderOf zC hG wl_X5_38 dX5_keep_70 ?_
            refine lv_iload_n zC.1 zC.2.1 dX5_keep_73 rfl (lv_at hl 3 rfl) ?_
            refine gi_m_orderOf (v := σ 29 0 q) zC hG (by omega) rfl dX5_keep_74 ?_
            refine pi_m_kept zC hG (by omega) dX5_keep_75 (fun H locs hG => ?_)
            refine lv_aload_n zC.1 zC.2.1 dX5_keep_76 rfl (lv_at hl 0 rfl) ?_
            refine gf_M_kept zC hG wl_X5_47 dX5_keep_77 ?_
            refine lv_iload_n zC.1 zC.2.1 dX5_keep_80 rfl (lv_at hl 2 rfl) ?_
            refine zr_bipush zC dX5_keep_81 (by decide +kernel) ?_
            refine zr_iadd zC dX5_keep_83 ?_
            refine lv_iload_n zC.1 zC.2.1 dX5_keep_84 rfl (lv_at hl 3 rfl) ?_
            refine zr_iadd zC dX5_keep_85 ?_
            refine lv_aload_n zC.1 zC.2.1 dX5_keep_86 rfl (lv_at hl 0 rfl) ?_
            refine gf_M_gapOf zC hG wl_X5_41 dX5_keep_87 ?_
            refine lv_iload_n zC.1 zC.2.1 dX5_keep_90 rfl (lv_at hl 3 rfl) ?_
            refine gi_m_gapOf (v := σ 30 0 q) zC hG (by omega) rfl dX5_keep_91 ?_
            refine pi_m_kept zC hG (by omega) dX5_keep_92 (fun H locs hG => ?_)
            refine zr_iinc (lv' := [(3, .int (zI (q + 1))), (0, .ref (aM Γ)), (1, .int (zI k)), (2, .int (zI (21 * k)))]) zC dX5_keep_93 hl (k := 3) rfl (by decide) rfl (fun ls hl => ?_)
            refine lv_goto (tgt := 38) zC.1 zC.2.1 dX5_keep_96 (by decide) ?_
            exact ih38 (q + 1) H locs ls (by first | assumption | omega) (by omega) ((show up (up (up (mKp σ k (τ 0 0 7) q) 32 0 (((21 * k) + 1) + q) (σ 28 0 q)) 32 0 (((21 * k) + 6) + q) (σ 29 0 q)) 32 0 (((21 * k) + 11) + q) (σ 30 0 q) = mKp σ k (τ 0 0 7) (q + 1) from (mKp_s σ k (τ 0 0 7) q (by omega))) ▸ hG) (lv_sub hl [1, 2, 3, 0] rfl)
      exact loop38 ((5 - 0 : Int).toNat + 1) 0 H locs ls (by first | assumption | omega) (by omega) ((show up σ 32 0 (21 * k) (τ 0 0 7) = mKp σ k (τ 0 0 7) 0 from (mKp_0 σ k (τ 0 0 7))) ▸ hG) (lv_sub hl [2, 3, 1, 0] rfl)
    · refine zr_bipush zC dX5_keep_18 (by decide +kernel) ?_
      exact zm_iret zC zK hG dX5_keep_20 (by unfold rC_keep; (repeat' split) <;> first | rfl | omega) (by unfold mC_keep; (repeat' split) <;> first | exact hR | (exfalso; omega)) (sC_r _)
  · refine zr_iconst zC dX5_keep_9 ?_
    exact zm_iret zC zK hG dX5_keep_10 (by unfold rC_keep; (repeat' split) <;> first | rfl | omega) (by unfold mC_keep; (repeat' split) <;> first | exact hR | (exfalso; omega)) (sC_r _)

set_option maxHeartbeats 4000000 in
set_option maxRecDepth 100000 in
theorem c_X5_on {Γ : Gm} {zl : Launch} {A : Nat → Prop} {τ σ : Mm} {k : Int} (hR : Rel2 τ σ) (hI : IC τ) (hk : -2147483648 ≤ k ∧ k < 2147483648) : Fr Γ zl A yX5_on cX5_on 4 (some .int) 1 22 [.ref (aM Γ), .int (zI k)] σ (some (.int (zI (rC_on τ k)))) (mC_on τ k) := by
  refine Fr_of (by decide) (Nat.le_of_ble_eq_true rfl) ?_
  intro zp ze zs zm args below meth zc zQ H locs ls zC zK hG hl
  have hl : lv_has ls 4 [(0, .ref (aM Γ)), (1, .int (zI k))] := hl
  obtain ⟨hmany, htoday, -⟩ := id hI
  refine lv_iload_n zC.1 zC.2.1 dX5_on_0 rfl (lv_at hl 1 rfl) ?_
  refine zr_iconst zC dX5_on_1 ?_
  refine zr_iconst zC dX5_on_2 ?_
  refine zr_callS zC hG (c_X5_in (σ := σ) (v := k) (a := 0) (b := 2) (by first | assumption | omega) (by first | assumption | omega) (by first | assumption | omega)) mt_X5_in wl_X5_60 ⟨by decide, by decide⟩ rfl hl.1 rfl (Nat.le_of_ble_eq_true rfl) dX5_on_3 ⟨Nat.zero_le _, Nat.zero_le _⟩ (fun H locs hG => ?_)
  refine W.eq (g2 := F0 zm 6 ls [.int (zI (zB (0 ≤ k ∧ k ≤ 2)))]) rfl ?_
  refine zr_ifneB (tgt := 11) zC dX5_on_6 (by decide) (fun c6 => ?_) (fun c6 => ?_)
  · refine zr_bipush zC dX5_on_11 (by decide +kernel) ?_
    refine lv_iload_n zC.1 zC.2.1 dX5_on_13 rfl (lv_at hl 1 rfl) ?_
    refine zr_imul zC dX5_on_14 ?_
    refine lv_istore_n (lv' := [(2, .int (zI (21 * k))), (0, .ref (aM Γ)), (1, .int (zI k))]) zC.1 zC.2.1 dX5_on_15 rfl hl (by decide) rfl (fun ls hl => ?_)
    refine lv_aload_n zC.1 zC.2.1 dX5_on_16 rfl (lv_at hl 1 rfl) ?_
    refine gf_M_kept zC hG wl_X5_47 dX5_on_17 ?_
    refine lv_iload_n zC.1 zC.2.1 dX5_on_20 rfl (lv_at hl 0 rfl) ?_
    refine gi_m_kept (v := kpM (τ 7 k 3) (τ 7 k 4)) zC hG (by omega) (hR.2.2.2.2.2.2.2 k (by omega) (by omega)).1 dX5_on_21 ?_
    have k21 := kpM_s (τ 7 k 3) (τ 7 k 4)
    obtain ⟨k21c, k21d, -⟩ := hI.2.2.2.2.2.2.2 k (by omega) (by omega)
    refine zr_bipush zC dX5_on_22 (by decide +kernel) ?_
    refine zr_icmp_ne (tgt := 33) zC dX5_on_24 (by decide) (by omega) (fun c24 => ?_) (fun c24 => ?_)
    · refine lv_aload_n zC.1 zC.2.1 dX5_on_33 rfl (lv_at hl 1 rfl) ?_
      refine lv_aload_n zC.1 zC.2.1 dX5_on_34 rfl (lv_at hl 1 rfl) ?_
      refine gf_M_kept zC hG wl_X5_47 dX5_on_35 ?_
      refine lv_iload_n zC.1 zC.2.1 dX5_on_38 rfl (lv_at hl 0 rfl) ?_
      refine gi_m_kept (v := kpM (τ 7 k 3) (τ 7 k 4)) zC hG (by omega) (hR.2.2.2.2.2.2.2 k (by omega) (by omega)).1 dX5_on_39 ?_
      refine pf_M_today zC hG wl_X5_119 dX5_on_40 (fun H locs hG => ?_)
      refine zr_iconst zC dX5_on_43 ?_
      refine lv_istore_n (lv' := [(3, .int (zI 0)), (2, .int (zI (21 * k))), (0, .ref (aM Γ)), (1, .int (zI k))]) zC.1 zC.2.1 dX5_on_44 rfl hl (by decide) rfl (fun ls hl => ?_)
      have loop45 : ∀ (nf : Nat) (q : Int) (H : Heap) (locs : List Loc) (ls : Array Slot), (0 ≤ q ∧ q ≤ 5) → (5 - q < (nf : Int)) → GM Γ A (mOn σ k (kpM (τ 7 k 3) (τ 7 k 4)) q) zs H locs → lv_has ls 4 [(0, .ref (aM Γ)), (1, .int (zI k)), (2, .int (zI (21 * k))), (3, .int (zI q))] → W zp zl ze { frames := 1, cells := 0, slots := 0, locals := 22 } zs zm args below meth zc H locs 0 0 zQ (F0 zm 45 ls []) := by
        intro nf
        induction nf with
        | zero =>
          intro q H locs ls hq hm45 _ _
          exact absurd hm45 (by omega)
        | succ nf ih45 =>
          intro q H locs ls hq hm45 hG hl
          refine lv_iload_n zC.1 zC.2.1 dX5_on_45 rfl (lv_at hl 3 rfl) ?_
          refine zr_iconst zC dX5_on_46 ?_
          refine zr_icmp_ge (tgt := 106) zC dX5_on_47 (by decide) (by omega) (fun c47 => ?_) (fun c47 => ?_)
          · refine lv_aload_n zC.1 zC.2.1 dX5_on_106 rfl (lv_at hl 0 rfl) ?_
            refine gf_M_today (v := (kpM (τ 7 k 3) (τ 7 k 4))) zC hG wl_X5_119 rfl dX5_on_107 ?_
            exact zm_iret zC zK hG dX5_on_110 (by unfold rC_on; (repeat' split) <;> first | rfl | omega) (by unfold mC_on; rw [if_neg (by omega), if_neg (by omega), show q = 5 by omega]; exact rl_on hR hI (by omega) (by omega) (by omega)) (sC_on (sC_r _))
          · refine lv_aload_n zC.1 zC.2.1 dX5_on_50 rfl (lv_at hl 0 rfl) ?_
            refine gf_M_leapOf zC hG wl_X5_35 dX5_on_51 ?_
            refine lv_iload_n zC.1 zC.2.1 dX5_on_54 rfl (lv_at hl 3 rfl) ?_
            refine lv_aload_n zC.1 zC.2.1 dX5_on_55 rfl (lv_at hl 0 rfl) ?_
            refine gf_M_kept zC hG wl_X5_47 dX5_on_56 ?_
            refine lv_iload_n zC.1 zC.2.1 dX5_on_59 rfl (lv_at hl 2 rfl) ?_
            refine zr_iconst zC dX5_on_60 ?_
            refine zr_iadd zC dX5_on_61 ?_
            refine lv_iload_n zC.1 zC.2.1 dX5_on_62 rfl (lv_at hl 3 rfl) ?_
            refine zr_iadd zC dX5_on_63 ?_
            refine gi_m_kept (v := σ 32 0 (21 * k + 1 + q)) zC hG (by omega) rfl dX5_on_64 ?_
            refine pi_m_leapOf zC hG (by omega) dX5_on_65 (fun H locs hG => ?_)
            refine lv_aload_n zC.1 zC.2.1 dX5_on_66 rfl (lv_at hl 0 rfl) ?_
            refine gf_M_orderOf zC hG wl_X5_38 dX5_on_67 ?_
            refine lv_iload_n zC.1 zC.2.1 dX5_on_70 rfl (lv_at hl 3 rfl) ?_
            refine lv_aload_n zC.1 zC.2.1 dX5_on_71 rfl (lv_at hl 0 rfl) ?_
            refine gf_M_kept zC hG wl_X5_47 dX5_on_72 ?_
            refine lv_iload_n zC.1 zC.2.1 dX5_on_75 rfl (lv_at hl 2 rfl) ?_
            refine zr_bipush zC dX5_on_76 (by decide +kernel) ?_
            refine zr_iadd zC dX5_on_78 ?_
            refine lv_iload_n zC.1 zC.2.1 dX5_on_79 rfl (lv_at hl 3 rfl) ?_
            refine zr_iadd zC dX5_on_80 ?_
            refine gi_m_kept (v := σ 32 0 (21 * k + 6 + q)) zC hG (by omega) rfl dX5_on_81 ?_
            refine pi_m_orderOf zC hG (by omega) dX5_on_82 (fun H locs hG => ?_)
            refine lv_aload_n zC.1 zC.2.1 dX5_on_83 rfl (lv_at hl 0 rfl) ?_
            refine gf_M_gapOf zC hG wl_X5_41 dX5_on_84 ?_
            refine lv_iload_n zC.1 zC.2.1 dX5_on_87 rfl (lv_at hl 3 rfl) ?_
            refine lv_aload_n zC.1 zC.2.1 dX5_on_88 rfl (lv_at hl 0 rfl) ?_
            refine gf_M_kept zC hG wl_X5_47 dX5_on_89 ?_
            refine lv_iload_n zC.1 zC.2.1 dX5_on_92 rfl (lv_at hl 2 rfl) ?_
            refine zr_bipush zC dX5_on_93 (by decide +kernel) ?_
            refine zr_iadd zC dX5_on_95 ?_
            refine lv_iload_n zC.1 zC.2.1 dX5_on_96 rfl (lv_at hl 3 rfl) ?_
            refine zr_iadd zC dX5_on_97 ?_
            refine gi_m_kept (v := σ 32 0 (21 * k + 11 + q)) zC hG (by omega) rfl dX5_on_98 ?_
            refine pi_m_gapOf zC hG (by omega) dX5_on_99 (fun H locs hG => ?_)
            refine zr_iinc (lv' := [(3, .int (zI (q + 1))), (0, .ref (aM Γ)), (1, .int (zI k)), (2, .int (zI (21 * k)))]) zC dX5_on_100 hl (k := 3) rfl (by decide) rfl (fun ls hl => ?_)
            refine lv_goto (tgt := 45) zC.1 zC.2.1 dX5_on_103 (by decide) ?_
            exact ih45 (q + 1) H locs ls (by first | assumption | omega) (by omega) ((show up (up (up (mOn σ k (kpM (τ 7 k 3) (τ 7 k 4)) q) 28 0 q (σ 32 0 (21 * k + 1 + q))) 29 0 q (σ 32 0 (21 * k + 6 + q))) 30 0 q (σ 32 0 (21 * k + 11 + q)) = mOn σ k (kpM (τ 7 k 3) (τ 7 k 4)) (q + 1) from (mOn_s σ k (kpM (τ 7 k 3) (τ 7 k 4)) q (by omega))) ▸ hG) (lv_sub hl [1, 2, 3, 0] rfl)
      exact loop45 ((5 - 0 : Int).toNat + 1) 0 H locs ls (by first | assumption | omega) (by omega) ((show up σ 20 0 11 (kpM (τ 7 k 3) (τ 7 k 4)) = mOn σ k (kpM (τ 7 k 3) (τ 7 k 4)) 0 from (mOn_0 σ k (kpM (τ 7 k 3) (τ 7 k 4)))) ▸ hG) (lv_sub hl [2, 3, 1, 0] rfl)
    · refine lv_aload_n zC.1 zC.2.1 dX5_on_27 rfl (lv_at hl 1 rfl) ?_
      refine zr_iconst zC dX5_on_28 ?_
      refine zr_callV zC hG (c_X5_meet (σ := σ) (f := 1) (by first | assumption | omega)) mt_X5_meet wl_X5_68 pM rfl rfl ⟨by decide, by decide⟩ rfl hl.1 rfl (Nat.le_of_ble_eq_true rfl) dX5_on_29 ⟨Nat.zero_le _, Nat.zero_le _⟩ (fun H locs hG => ?_)
      refine W.eq (g2 := F0 zm 32 ls [.int (zI (-3))]) rfl ?_
      exact zm_iret zC zK hG dX5_on_32 (by unfold rC_on; (repeat' split) <;> first | rfl | omega) (by unfold mC_on; (repeat' split) <;> first | exact (rl_fd hR (by omega)) | (exfalso; omega)) (sC_up (sC_up (sC_r _) (by decide)) (by decide))
  · refine zr_iconst zC dX5_on_9 ?_
    exact zm_iret zC zK hG dX5_on_10 (by unfold rC_on; (repeat' split) <;> first | rfl | omega) (by unfold mC_on; (repeat' split) <;> first | exact hR | (exfalso; omega)) (sC_r _)

set_option maxHeartbeats 4000000 in
set_option maxRecDepth 100000 in
theorem c_X5_mix {Γ : Gm} {zl : Launch} {A : Nat → Prop} {σ : Mm} {v : Int} (hv : -2147483648 ≤ v ∧ v < 2147483648) : Fn Γ zl A yX5_mix cX5_mix 2 none 0 0 [.ref (aM Γ), .int (zI v)] σ none (up σ 20 0 24 (31 * (σ 20 0 24) + v)) := by
  refine Fn_of (by decide) (Nat.le_of_ble_eq_true rfl) ?_
  intro zp ze zs zm args below meth zc zQ H locs ls zC zK hG hl
  have hl : lv_has ls 2 [(0, .ref (aM Γ)), (1, .int (zI v))] := hl
  refine lv_aload_n zC.1 zC.2.1 dX5_mix_0 rfl (lv_at hl 0 rfl) ?_
  refine zr_ldc2 (z := 31) zC wl_X5_243 (by decide +kernel) dX5_mix_1 ?_
  refine lv_aload_n zC.1 zC.2.1 dX5_mix_4 rfl (lv_at hl 0 rfl) ?_
  refine gf_M_h0 (v := σ 20 0 24) zC hG wl_X5_245 rfl dX5_mix_5 ?_
  refine zr_lmul zC dX5_mix_8 ?_
  refine lv_iload_n zC.1 zC.2.1 dX5_mix_9 rfl (lv_at hl 1 rfl) ?_
  refine zr_i2l zC dX5_mix_10 (by omega) ?_
  refine zr_ladd zC dX5_mix_11 ?_
  refine pf_M_h0 zC hG wl_X5_245 dX5_mix_12 (fun H locs hG => ?_)
  exact zr_vret zC zK hG dX5_mix_15 rfl

set_option maxHeartbeats 4000000 in
set_option maxRecDepth 100000 in
theorem c_X5_townOf_x {Γ : Gm} {zl : Launch} {A : Nat → Prop} {τ σ : Mm} {c w : Int} (hR : Rel2 τ σ) (hI : IC τ) (hc : isT τ c) (hw : -2147483648 ≤ w ∧ w < 2147483648) : Fn Γ zl A yX5_townOf cX5_townOf 3 (some .int) 5 106 [.ref (aM Γ), .int (zI c), .int (zI w)] σ (some (.int (zI (oTn τ c w)))) (mTw τ σ c w) := by
  refine Fn_of (by decide) (Nat.le_of_ble_eq_true rfl) ?_
  intro zp ze zs zm args below meth zc zQ H locs ls zC zK hG hl
  have hl : lv_has ls 3 [(0, .ref (aM Γ)), (1, .int (zI c)), (2, .int (zI w))] := hl
  obtain ⟨hmany, htoday, -⟩ := id hI
  refine lv_iload_n zC.1 zC.2.1 dX5_townOf_0 rfl (lv_at hl 2 rfl) ?_
  refine zr_if_ne (tgt := 13) zC dX5_townOf_1 (by decide) (by omega) (fun c1 => ?_) (fun c1 => ?_)
  · refine lv_iload_n zC.1 zC.2.1 dX5_townOf_13 rfl (lv_at hl 2 rfl) ?_
    refine zr_iconst zC dX5_townOf_14 ?_
    refine zr_icmp_ne (tgt := 27) zC dX5_townOf_15 (by decide) (by omega) (fun c15 => ?_) (fun c15 => ?_)
    · refine lv_iload_n zC.1 zC.2.1 dX5_townOf_27 rfl (lv_at hl 2 rfl) ?_
      refine zr_iconst zC dX5_townOf_28 ?_
      refine zr_icmp_ne (tgt := 41) zC dX5_townOf_29 (by decide) (by omega) (fun c29 => ?_) (fun c29 => ?_)
      · refine lv_iload_n zC.1 zC.2.1 dX5_townOf_41 rfl (lv_at hl 2 rfl) ?_
        refine zr_iconst zC dX5_townOf_42 ?_
        refine zr_icmp_ne (tgt := 55) zC dX5_townOf_43 (by decide) (by omega) (fun c43 => ?_) (fun c43 => ?_)
        · refine lv_aload_n zC.1 zC.2.1 dX5_townOf_55 rfl (lv_at hl 0 rfl) ?_
          refine lv_iload_n zC.1 zC.2.1 dX5_townOf_56 rfl (lv_at hl 1 rfl) ?_
          refine lv_aload_n zC.1 zC.2.1 dX5_townOf_57 rfl (lv_at hl 0 rfl) ?_
          refine gf_M_today (v := τ 0 0 7) zC hG wl_X5_119 hR.1.2.2.2.2.2 dX5_townOf_58 ?_
          refine zr_callV zC hG (c_X5_dateIn (τ := τ) (σ := σ) (c := c) (d := τ 0 0 7) hR hI (by first | assumption | omega) (by first | assumption | omega)) mt_X5_dateIn wl_X5_166 pM rfl rfl ⟨by decide, by decide⟩ rfl hl.1 rfl (Nat.le_of_ble_eq_true rfl) dX5_townOf_61 ⟨Nat.zero_le _, Nat.zero_le _⟩ (fun H locs hG => ?_)
          refine W.eq (g2 := F0 zm 64 ls [.int (zI (dtD (τ 6 c 0) (τ 6 c 1) (τ 6 c 2) (τ 6 c 3) (τ 0 0 7)))]) rfl ?_
          have b61_0 := dtD_r (k := (τ 6 c 0)) (lp := (τ 6 c 1)) (o := (τ 6 c 2)) (g := (τ 6 c 3)) (d := (τ 0 0 7)) (by omega) (hI.2.2.2.2.2.2.1 c (by omega) (by omega)).2.1 (hI.2.2.2.2.2.2.1 c (by omega) (by omega)).2.2.2
          exact zr_iret zC zK hG dX5_townOf_64 (by unfold oTn; (repeat' split) <;> first | rfl | omega) (by unfold mTw; (repeat' split) <;> first | rfl | (exfalso; omega))
        · refine lv_aload_n zC.1 zC.2.1 dX5_townOf_46 rfl (lv_at hl 0 rfl) ?_
          refine gf_M_gapOf zC hG wl_X5_41 dX5_townOf_47 ?_
          refine lv_iload_n zC.1 zC.2.1 dX5_townOf_50 rfl (lv_at hl 1 rfl) ?_
          refine gi_m_gapOf (v := τ 6 c 3) zC hG (by omega) (hR.2.2.2.2.2.2.1 c (by omega) (by omega)).2.2.2 dX5_townOf_51 ?_
          obtain ⟨f51a, f51b, f51c, f51d⟩ := hI.2.2.2.2.2.2.1 c (by omega) (by omega)
          refine lv_goto (tgt := 64) zC.1 zC.2.1 dX5_townOf_52 (by decide) ?_
          exact zr_iret zC zK hG dX5_townOf_64 (by unfold oTn; (repeat' split) <;> first | rfl | omega) (by unfold mTw; (repeat' split) <;> first | rfl | (exfalso; omega))
      · refine lv_aload_n zC.1 zC.2.1 dX5_townOf_32 rfl (lv_at hl 0 rfl) ?_
        refine gf_M_orderOf zC hG wl_X5_38 dX5_townOf_33 ?_
        refine lv_iload_n zC.1 zC.2.1 dX5_townOf_36 rfl (lv_at hl 1 rfl) ?_
        refine gi_m_orderOf (v := τ 6 c 2) zC hG (by omega) (hR.2.2.2.2.2.2.1 c (by omega) (by omega)).2.2.1 dX5_townOf_37 ?_
        obtain ⟨f37a, f37b, f37c, f37d⟩ := hI.2.2.2.2.2.2.1 c (by omega) (by omega)
        refine lv_goto (tgt := 64) zC.1 zC.2.1 dX5_townOf_38 (by decide) ?_
        exact zr_iret zC zK hG dX5_townOf_64 (by unfold oTn; (repeat' split) <;> first | rfl | omega) (by unfold mTw; (repeat' split) <;> first | rfl | (exfalso; omega))
    · refine lv_aload_n zC.1 zC.2.1 dX5_townOf_18 rfl (lv_at hl 0 rfl) ?_
      refine gf_M_leapOf zC hG wl_X5_35 dX5_townOf_19 ?_
      refine lv_iload_n zC.1 zC.2.1 dX5_townOf_22 rfl (lv_at hl 1 rfl) ?_
      refine gi_m_leapOf (v := τ 6 c 1) zC hG (by omega) (hR.2.2.2.2.2.2.1 c (by omega) (by omega)).2.1 dX5_townOf_23 ?_
      obtain ⟨f23a, f23b, f23c, f23d⟩ := hI.2.2.2.2.2.2.1 c (by omega) (by omega)
      refine lv_goto (tgt := 64) zC.1 zC.2.1 dX5_townOf_24 (by decide) ?_
      exact zr_iret zC zK hG dX5_townOf_64 (by unfold oTn; (repeat' split) <;> first | rfl | omega) (by unfold mTw; (repeat' split) <;> first | rfl | (exfalso; omega))
  · refine lv_aload_n zC.1 zC.2.1 dX5_townOf_4 rfl (lv_at hl 0 rfl) ?_
    refine gf_M_kindOf zC hG wl_X5_32 dX5_townOf_5 ?_
    refine lv_iload_n zC.1 zC.2.1 dX5_townOf_8 rfl (lv_at hl 1 rfl) ?_
    refine gi_m_kindOf (v := τ 6 c 0) zC hG (by omega) (hR.2.2.2.2.2.2.1 c (by omega) (by omega)).1 dX5_townOf_9 ?_
    obtain ⟨f9a, f9b, f9c, f9d⟩ := hI.2.2.2.2.2.2.1 c (by omega) (by omega)
    refine lv_goto (tgt := 64) zC.1 zC.2.1 dX5_townOf_10 (by decide) ?_
    exact zr_iret zC zK hG dX5_townOf_64 (by unfold oTn; (repeat' split) <;> first | rfl | omega) (by unfold mTw; (repeat' split) <;> first | rfl | (exfalso; omega))

set_option maxHeartbeats 4000000 in
set_option maxRecDepth 100000 in
theorem c_X5_digest {Γ : Gm} {zl : Launch} {A : Nat → Prop} {τ σ : Mm} (hR : Rel2 τ σ) (hI : IC τ) : Fr Γ zl A yX5_digest cX5_digest 3 (some .long) 6 128 [.ref (aM Γ)] σ (some (.long (zL (rC_digest τ)))) τ := by
  refine Fr_of (by decide) (Nat.le_of_ble_eq_true rfl) ?_
  intro zp ze zs zm args below meth zc zQ H locs ls zC zK hG hl
  have hl : lv_has ls 3 [(0, .ref (aM Γ))] := hl
  obtain ⟨hmany, htoday, -⟩ := id hI
  refine lv_aload_n zC.1 zC.2.1 dX5_digest_0 rfl (lv_at hl 0 rfl) ?_
  refine zr_ldc2 (z := 17) zC wl_X5_248 (by decide +kernel) dX5_digest_1 ?_
  refine pf_M_h0 zC hG wl_X5_245 dX5_digest_4 (fun H locs hG => ?_)
  refine zr_iconst zC dX5_digest_7 ?_
  refine lv_istore_n (lv' := [(1, .int (zI 0)), (0, .ref (aM Γ))]) zC.1 zC.2.1 dX5_digest_8 rfl hl (by decide) rfl (fun ls hl => ?_)
  have loop9 : ∀ (nf : Nat) (q : Int) (σ9q : Mm) (H : Heap) (locs : List Loc) (ls : Array Slot), (0 ≤ q ∧ q ≤ 7) → (σ9q 20 0 24 = hsI (fun w => rC_count τ w) 17 q.toNat) → (Rel2 τ σ9q) → (sC σ σ9q) → (7 - q < (nf : Int)) → GM Γ A σ9q zs H locs → lv_has ls 3 [(0, .ref (aM Γ)), (1, .int (zI q))] → W zp zl ze { frames := 6, cells := 0, slots := 0, locals := 128 } zs zm args below meth zc H locs 0 0 zQ (F0 zm 9 ls []) := by
    intro nf
    induction nf with
    | zero =>
      intro q σ9q H locs ls hq hH hR9q hC9q hm9 _ _
      exact absurd hm9 (by omega)
    | succ nf ih9 =>
      intro q σ9q H locs ls hq hH hR9q hC9q hm9 hG hl
      refine lv_iload_n zC.1 zC.2.1 dX5_digest_9 rfl (lv_at hl 1 rfl) ?_
      refine zr_bipush zC dX5_digest_10 (by decide +kernel) ?_
      refine zr_icmp_gt (tgt := 30) zC dX5_digest_12 (by decide) (by omega) (fun c12 => ?_) (fun c12 => ?_)
      · refine zr_iconst zC dX5_digest_30 ?_
        refine lv_istore_n (lv' := [(1, .int (zI 0)), (0, .ref (aM Γ))]) zC.1 zC.2.1 dX5_digest_31 rfl hl (by decide) rfl (fun ls hl => ?_)
        have loop32 : ∀ (nf : Nat) (c : Int) (σ32q : Mm) (H : Heap) (locs : List Loc) (ls : Array Slot), (0 ≤ c ∧ c ≤ τ 0 0 6) → (σ32q 20 0 24 = dgT τ (hsI (fun w => rC_count τ w) 17 7) c.toNat) → (Rel2 τ σ32q) → (sC σ σ32q) → (6 - c < (nf : Int)) → GM Γ A σ32q zs H locs → lv_has ls 3 [(0, .ref (aM Γ)), (1, .int (zI c))] → W zp zl ze { frames := 6, cells := 0, slots := 0, locals := 128 } zs zm args below meth zc H locs 0 0 zQ (F0 zm 32 ls []) := by
          intro nf
          induction nf with
          | zero =>
            intro c σ32q H locs ls hc hH hR32q hC32q hm32 _ _
            exact absurd hm32 (by omega)
          | succ nf ih32 =>
            intro c σ32q H locs ls hc hH hR32q hC32q hm32 hG hl
            refine lv_iload_n zC.1 zC.2.1 dX5_digest_32 rfl (lv_at hl 1 rfl) ?_
            refine lv_aload_n zC.1 zC.2.1 dX5_digest_33 rfl (lv_at hl 0 rfl) ?_
            refine gf_M_many (v := τ 0 0 6) zC hG wl_X5_116 hR32q.1.2.2.2.2.1 dX5_digest_34 ?_
            refine zr_icmp_ge (tgt := 69) zC dX5_digest_37 (by decide) (by omega) (fun c37 => ?_) (fun c37 => ?_)
            · refine zr_iconst zC dX5_digest_69 ?_
              refine lv_istore_n (lv' := [(1, .int (zI 0)), (0, .ref (aM Γ))]) zC.1 zC.2.1 dX5_digest_70 rfl hl (by decide) rfl (fun ls hl => ?_)
              have loop71 : ∀ (nf : Nat) (k : Int) (σ71q : Mm) (H : Heap) (locs : List Loc) (ls : Array Slot), (0 ≤ k ∧ k ≤ 3) → (σ71q 20 0 24 = hsI (fun k => if τ 7 k 3 = 0 then -1 else τ 7 k 4) (dgT τ (hsI (fun w => rC_count τ w) 17 7) (τ 0 0 6).toNat) k.toNat) → (Rel2 τ σ71q) → (sC σ σ71q) → (3 - k < (nf : Int)) → GM Γ A σ71q zs H locs → lv_has ls 3 [(0, .ref (aM Γ)), (1, .int (zI k))] → W zp zl ze { frames := 6, cells := 0, slots := 0, locals := 128 } zs zm args below meth zc H locs 0 0 zQ (F0 zm 71 ls []) := by
                intro nf
                induction nf with
                | zero =>
                  intro k σ71q H locs ls hk hH hR71q hC71q hm71 _ _
                  exact absurd hm71 (by omega)
                | succ nf ih71 =>
                  intro k σ71q H locs ls hk hH hR71q hC71q hm71 hG hl
                  refine lv_iload_n zC.1 zC.2.1 dX5_digest_71 rfl (lv_at hl 1 rfl) ?_
                  refine zr_iconst zC dX5_digest_72 ?_
                  refine zr_icmp_ge (tgt := 113) zC dX5_digest_73 (by decide) (by omega) (fun c73 => ?_) (fun c73 => ?_)
                  · refine zr_iconst zC dX5_digest_113 ?_
                    refine lv_istore_n (lv' := [(1, .int (zI 0)), (0, .ref (aM Γ))]) zC.1 zC.2.1 dX5_digest_114 rfl hl (by decide) rfl (fun ls hl => ?_)
                    have loop115 : ∀ (nf : Nat) (r : Int) (σ115q : Mm) (H : Heap) (locs : List Loc) (ls : Array Slot), (0 ≤ r ∧ r ≤ 6) → (σ115q 20 0 24 = dgR τ (dgK τ (dgT τ (hsI (fun w => rC_count τ w) 17 7) (τ 0 0 6).toNat)) r.toNat) → (Rel2 τ σ115q) → (sC σ σ115q) → (6 - r < (nf : Int)) → GM Γ A σ115q zs H locs → lv_has ls 3 [(0, .ref (aM Γ)), (1, .int (zI r))] → W zp zl ze { frames := 6, cells := 0, slots := 0, locals := 128 } zs zm args below meth zc H locs 0 0 zQ (F0 zm 115 ls []) := by
                      intro nf
                      induction nf with
                      | zero =>
                        intro r σ115q H locs ls hr hH hR115q hC115q hm115 _ _
                        exact absurd hm115 (by omega)
                      | succ nf ih115 =>
                        intro r σ115q H locs ls hr hH hR115q hC115q hm115 hG hl
                        refine lv_iload_n zC.1 zC.2.1 dX5_digest_115 rfl (lv_at hl 1 rfl) ?_
                        refine zr_bipush zC dX5_digest_116 (by decide +kernel) ?_
                        refine zr_icmp_ge (tgt := 178) zC dX5_digest_118 (by decide) (by omega) (fun c118 => ?_) (fun c118 => ?_)
                        · refine zr_iconst zC dX5_digest_178 ?_
                          refine lv_istore_n (lv' := [(1, .int (zI 0)), (0, .ref (aM Γ))]) zC.1 zC.2.1 dX5_digest_179 rfl hl (by decide) rfl (fun ls hl => ?_)
                          have loop180 : ∀ (nf : Nat) (t : Int) (σ180q : Mm) (H : Heap) (locs : List Loc) (ls : Array Slot), (0 ≤ t ∧ t ≤ 4) → (σ180q 20 0 24 = dgX τ (dgR τ (dgK τ (dgT τ (hsI (fun w => rC_count τ w) 17 7) (τ 0 0 6).toNat)) 6) t.toNat) → (Rel2 τ σ180q) → (sC σ σ180q) → (4 - t < (nf : Int)) → GM Γ A σ180q zs H locs → lv_has ls 3 [(0, .ref (aM Γ)), (1, .int (zI t))] → W zp zl ze { frames := 6, cells := 0, slots := 0, locals := 128 } zs zm args below meth zc H locs 0 0 zQ (F0 zm 180 ls []) := by
                            intro nf
                            induction nf with
                            | zero =>
                              intro t σ180q H locs ls ht hH hR180q hC180q hm180 _ _
                              exact absurd hm180 (by omega)
                            | succ nf ih180 =>
                              intro t σ180q H locs ls ht hH hR180q hC180q hm180 hG hl
                              refine lv_iload_n zC.1 zC.2.1 dX5_digest_180 rfl (lv_at hl 1 rfl) ?_
                              refine zr_iconst zC dX5_digest_181 ?_
                              refine zr_icmp_ge (tgt := 247) zC dX5_digest_182 (by decide) (by omega) (fun c182 => ?_) (fun c182 => ?_)
                              · refine lv_aload_n zC.1 zC.2.1 dX5_digest_247 rfl (lv_at hl 0 rfl) ?_
                                refine gf_M_h0 (v := σ180q 20 0 24) zC hG wl_X5_245 (by first | rfl | simp [up]) dX5_digest_248 ?_
                                exact zm_lret zC zK hG dX5_digest_251 (by unfold rC_digest; rw [hH, show t.toNat = 4 by omega]) hR180q hC180q
                              · refine lv_aload_n zC.1 zC.2.1 dX5_digest_185 rfl (lv_at hl 0 rfl) ?_
                                refine lv_aload_n zC.1 zC.2.1 dX5_digest_186 rfl (lv_at hl 0 rfl) ?_
                                refine gf_M_lengths zC hG wl_X5_26 dX5_digest_187 ?_
                                refine lv_iload_n zC.1 zC.2.1 dX5_digest_190 rfl (lv_at hl 1 rfl) ?_
                                refine gi_m_lengths (v := szM (τ 4 t 1)) zC hG (by omega) (hR180q.2.2.2.2.1 t (by omega) (by omega)) dX5_digest_191 ?_
                                have f191 := hI.2.2.2.2.1 t (by omega) (by omega)
                                have f191s := szM_s (τ 4 t 1)
                                refine zr_if_ge (tgt := 199) zC dX5_digest_192 (by decide) (by omega) (fun c192 => ?_) (fun c192 => ?_)
                                · refine lv_aload_n zC.1 zC.2.1 dX5_digest_199 rfl (lv_at hl 0 rfl) ?_
                                  refine gf_M_lengths zC hG wl_X5_26 dX5_digest_200 ?_
                                  refine lv_iload_n zC.1 zC.2.1 dX5_digest_203 rfl (lv_at hl 1 rfl) ?_
                                  refine gi_m_lengths (v := szM (τ 4 t 1)) zC hG (by omega) (hR180q.2.2.2.2.1 t (by omega) (by omega)) dX5_digest_204 ?_
                                  have f204 := hI.2.2.2.2.1 t (by omega) (by omega)
                                  have f204s := szM_s (τ 4 t 1)
                                  refine zr_callV zC hG (c_X5_mix (σ := σ180q) (v := szM (τ 4 t 1)) (by first | assumption | omega)) mt_X5_mix wl_X5_250 pM rfl rfl ⟨by decide, by decide⟩ rfl hl.1 rfl (Nat.le_of_ble_eq_true rfl) dX5_digest_205 ⟨Nat.zero_le _, Nat.zero_le _⟩ (fun H locs hG => ?_)
                                  refine W.eq (g2 := F0 zm 208 ls []) rfl ?_
                                  refine zr_iconst zC dX5_digest_208 ?_
                                  refine lv_istore_n (lv' := [(2, .int (zI 0)), (0, .ref (aM Γ)), (1, .int (zI t))]) zC.1 zC.2.1 dX5_digest_209 rfl hl (by decide) rfl (fun ls hl => ?_)
                                  have loop210 : ∀ (nf : Nat) (j : Int) (σ210q : Mm) (H : Heap) (locs : List Loc) (ls : Array Slot), (0 ≤ j ∧ j ≤ 60 ∧ (j ≤ τ 4 t 1 ∨ j = 0)) → (σ210q 20 0 24 = hsI (fun j => τ 5 t j) (31 * dgX τ (dgR τ (dgK τ (dgT τ (hsI (fun w => rC_count τ w) 17 7) (τ 0 0 6).toNat)) 6) t.toNat + τ 4 t 1) j.toNat) → (Rel2 τ σ210q) → (sC σ σ210q) → (61 - j < (nf : Int)) → GM Γ A σ210q zs H locs → lv_has ls 3 [(0, .ref (aM Γ)), (1, .int (zI t)), (2, .int (zI j))] → W zp zl ze { frames := 6, cells := 0, slots := 0, locals := 128 } zs zm args below meth zc H locs 0 0 zQ (F0 zm 210 ls []) := by
                                    intro nf
                                    induction nf with
                                    | zero =>
                                      intro j σ210q H locs ls hj hH hR210q hC210q hm210 _ _
                                      exact absurd hm210 (by omega)
                                    | succ nf ih210 =>
                                      intro j σ210q H locs ls hj hH hR210q hC210q hm210 hG hl
                                      have b210 := hI.2.2.2.2.1 t (by omega) (by omega)
                                      refine lv_iload_n zC.1 zC.2.1 dX5_digest_210 rfl (lv_at hl 2 rfl) ?_
                                      refine lv_aload_n zC.1 zC.2.1 dX5_digest_211 rfl (lv_at hl 0 rfl) ?_
                                      refine gf_M_lengths zC hG wl_X5_26 dX5_digest_212 ?_
                                      refine lv_iload_n zC.1 zC.2.1 dX5_digest_215 rfl (lv_at hl 1 rfl) ?_
                                      refine gi_m_lengths (v := szM (τ 4 t 1)) zC hG (by omega) (hR210q.2.2.2.2.1 t (by omega) (by omega)) dX5_digest_216 ?_
                                      have f216 := hI.2.2.2.2.1 t (by omega) (by omega)
                                      have f216s := szM_s (τ 4 t 1)
                                      refine zr_icmp_ge (tgt := 241) zC dX5_digest_217 (by decide) (by omega) (fun c217 => ?_) (fun c217 => ?_)
                                      · refine zr_iinc (lv' := [(1, .int (zI (t + 1))), (0, .ref (aM Γ)), (2, .int (zI j))]) zC dX5_digest_241 hl (k := 1) rfl (by decide) rfl (fun ls hl => ?_)
                                        refine lv_goto (tgt := 180) zC.1 zC.2.1 dX5_digest_244 (by decide) ?_
                                        exact ih180 (t + 1) σ210q H locs ls (by first | assumption | omega) (by rw [dgX_s ht.1]; exact hH.trans (by rw [show j.toNat = (τ 4 t 1).toNat by omega])) hR210q hC210q (by omega) hG (lv_sub hl [1, 0] rfl)
                                      · refine lv_aload_n zC.1 zC.2.1 dX5_digest_220 rfl (lv_at hl 0 rfl) ?_
                                        refine lv_aload_n zC.1 zC.2.1 dX5_digest_221 rfl (lv_at hl 0 rfl) ?_
                                        refine gf_M_texts zC hG wl_X5_29 dX5_digest_222 ?_
                                        refine zr_bipush zC dX5_digest_225 (by decide +kernel) ?_
                                        refine lv_iload_n zC.1 zC.2.1 dX5_digest_227 rfl (lv_at hl 1 rfl) ?_
                                        refine zr_imul zC dX5_digest_228 ?_
                                        refine lv_iload_n zC.1 zC.2.1 dX5_digest_229 rfl (lv_at hl 2 rfl) ?_
                                        refine zr_iadd zC dX5_digest_230 ?_
                                        refine gi_m_texts (v := τ 5 t j) zC hG (by omega) (hR210q.2.2.2.2.2.1 t j (by omega) (by omega) (by omega) (by omega)) dX5_digest_231 ?_
                                        have b232 := hI.2.2.2.2.2.1 t j (by omega) (by omega) (by omega) (by omega)
                                        refine zr_callV zC hG (c_X5_mix (σ := σ210q) (v := τ 5 t j) (by first | assumption | omega)) mt_X5_mix wl_X5_250 pM rfl rfl ⟨by decide, by decide⟩ rfl hl.1 rfl (Nat.le_of_ble_eq_true rfl) dX5_digest_232 ⟨Nat.zero_le _, Nat.zero_le _⟩ (fun H locs hG => ?_)
                                        refine W.eq (g2 := F0 zm 235 ls []) rfl ?_
                                        refine zr_iinc (lv' := [(2, .int (zI (j + 1))), (0, .ref (aM Γ)), (1, .int (zI t))]) zC dX5_digest_235 hl (k := 2) rfl (by decide) rfl (fun ls hl => ?_)
                                        refine lv_goto (tgt := 210) zC.1 zC.2.1 dX5_digest_238 (by decide) ?_
                                        exact ih210 (j + 1) (up σ210q 20 0 24 (31 * (σ210q 20 0 24) + (τ 5 t j))) H locs ls (by first | assumption | omega) (by rw [up_s, hH, hsI_s hj.1]) hR210q (sC_up hC210q (by decide)) (by omega) hG (lv_sub hl [1, 2, 0] rfl)
                                  exact loop210 ((61 - 0 : Int).toNat + 1) 0 (up σ180q 20 0 24 (31 * (σ180q 20 0 24) + (szM (τ 4 t 1)))) H locs ls (by first | assumption | omega) (by rw [up_s, hH]; show _ = 31 * dgX τ (dgR τ (dgK τ (dgT τ (hsI (fun w => rC_count τ w) 17 7) (τ 0 0 6).toNat)) 6) t.toNat + τ 4 t 1; omega) hR180q (sC_up hC180q (by decide)) (by omega) hG (lv_sub hl [1, 2, 0] rfl)
                                · refine zr_iconst zC dX5_digest_195 ?_
                                  refine lv_goto (tgt := 205) zC.1 zC.2.1 dX5_digest_196 (by decide) ?_
                                  refine zr_callV zC hG (c_X5_mix (σ := σ180q) (v := (-1)) (by first | assumption | omega)) mt_X5_mix wl_X5_250 pM rfl rfl ⟨by decide, by decide⟩ rfl hl.1 rfl (Nat.le_of_ble_eq_true rfl) dX5_digest_205 ⟨Nat.zero_le _, Nat.zero_le _⟩ (fun H locs hG => ?_)
                                  refine W.eq (g2 := F0 zm 208 ls []) rfl ?_
                                  refine zr_iconst zC dX5_digest_208 ?_
                                  refine lv_istore_n (lv' := [(2, .int (zI 0)), (0, .ref (aM Γ)), (1, .int (zI t))]) zC.1 zC.2.1 dX5_digest_209 rfl hl (by decide) rfl (fun ls hl => ?_)
                                  have loop210 : ∀ (nf : Nat) (j : Int) (σ210q : Mm) (H : Heap) (locs : List Loc) (ls : Array Slot), (0 ≤ j ∧ j ≤ 60 ∧ (j ≤ τ 4 t 1 ∨ j = 0)) → (σ210q 20 0 24 = hsI (fun j => τ 5 t j) (31 * dgX τ (dgR τ (dgK τ (dgT τ (hsI (fun w => rC_count τ w) 17 7) (τ 0 0 6).toNat)) 6) t.toNat + τ 4 t 1) j.toNat) → (Rel2 τ σ210q) → (sC σ σ210q) → (61 - j < (nf : Int)) → GM Γ A σ210q zs H locs → lv_has ls 3 [(0, .ref (aM Γ)), (1, .int (zI t)), (2, .int (zI j))] → W zp zl ze { frames := 6, cells := 0, slots := 0, locals := 128 } zs zm args below meth zc H locs 0 0 zQ (F0 zm 210 ls []) := by
                                    intro nf
                                    induction nf with
                                    | zero =>
                                      intro j σ210q H locs ls hj hH hR210q hC210q hm210 _ _
                                      exact absurd hm210 (by omega)
                                    | succ nf ih210 =>
                                      intro j σ210q H locs ls hj hH hR210q hC210q hm210 hG hl
                                      have b210 := hI.2.2.2.2.1 t (by omega) (by omega)
                                      refine lv_iload_n zC.1 zC.2.1 dX5_digest_210 rfl (lv_at hl 2 rfl) ?_
                                      refine lv_aload_n zC.1 zC.2.1 dX5_digest_211 rfl (lv_at hl 0 rfl) ?_
                                      refine gf_M_lengths zC hG wl_X5_26 dX5_digest_212 ?_
                                      refine lv_iload_n zC.1 zC.2.1 dX5_digest_215 rfl (lv_at hl 1 rfl) ?_
                                      refine gi_m_lengths (v := szM (τ 4 t 1)) zC hG (by omega) (hR210q.2.2.2.2.1 t (by omega) (by omega)) dX5_digest_216 ?_
                                      have f216 := hI.2.2.2.2.1 t (by omega) (by omega)
                                      have f216s := szM_s (τ 4 t 1)
                                      refine zr_icmp_ge (tgt := 241) zC dX5_digest_217 (by decide) (by omega) (fun c217 => ?_) (fun c217 => ?_)
                                      · refine zr_iinc (lv' := [(1, .int (zI (t + 1))), (0, .ref (aM Γ)), (2, .int (zI j))]) zC dX5_digest_241 hl (k := 1) rfl (by decide) rfl (fun ls hl => ?_)
                                        refine lv_goto (tgt := 180) zC.1 zC.2.1 dX5_digest_244 (by decide) ?_
                                        exact ih180 (t + 1) σ210q H locs ls (by first | assumption | omega) (by rw [dgX_s ht.1]; exact hH.trans (by rw [show j.toNat = (τ 4 t 1).toNat by omega])) hR210q hC210q (by omega) hG (lv_sub hl [1, 0] rfl)
                                      · refine lv_aload_n zC.1 zC.2.1 dX5_digest_220 rfl (lv_at hl 0 rfl) ?_
                                        refine lv_aload_n zC.1 zC.2.1 dX5_digest_221 rfl (lv_at hl 0 rfl) ?_
                                        refine gf_M_texts zC hG wl_X5_29 dX5_digest_222 ?_
                                        refine zr_bipush zC dX5_digest_225 (by decide +kernel) ?_
                                        refine lv_iload_n zC.1 zC.2.1 dX5_digest_227 rfl (lv_at hl 1 rfl) ?_
                                        refine zr_imul zC dX5_digest_228 ?_
                                        refine lv_iload_n zC.1 zC.2.1 dX5_digest_229 rfl (lv_at hl 2 rfl) ?_
                                        refine zr_iadd zC dX5_digest_230 ?_
                                        refine gi_m_texts (v := τ 5 t j) zC hG (by omega) (hR210q.2.2.2.2.2.1 t j (by omega) (by omega) (by omega) (by omega)) dX5_digest_231 ?_
                                        have b232 := hI.2.2.2.2.2.1 t j (by omega) (by omega) (by omega) (by omega)
                                        refine zr_callV zC hG (c_X5_mix (σ := σ210q) (v := τ 5 t j) (by first | assumption | omega)) mt_X5_mix wl_X5_250 pM rfl rfl ⟨by decide, by decide⟩ rfl hl.1 rfl (Nat.le_of_ble_eq_true rfl) dX5_digest_232 ⟨Nat.zero_le _, Nat.zero_le _⟩ (fun H locs hG => ?_)
                                        refine W.eq (g2 := F0 zm 235 ls []) rfl ?_
                                        refine zr_iinc (lv' := [(2, .int (zI (j + 1))), (0, .ref (aM Γ)), (1, .int (zI t))]) zC dX5_digest_235 hl (k := 2) rfl (by decide) rfl (fun ls hl => ?_)
                                        refine lv_goto (tgt := 210) zC.1 zC.2.1 dX5_digest_238 (by decide) ?_
                                        exact ih210 (j + 1) (up σ210q 20 0 24 (31 * (σ210q 20 0 24) + (τ 5 t j))) H locs ls (by first | assumption | omega) (by rw [up_s, hH, hsI_s hj.1]) hR210q (sC_up hC210q (by decide)) (by omega) hG (lv_sub hl [1, 2, 0] rfl)
                                  exact loop210 ((61 - 0 : Int).toNat + 1) 0 (up σ180q 20 0 24 (31 * (σ180q 20 0 24) + (-1))) H locs ls (by first | assumption | omega) (by rw [up_s, hH]; show _ = 31 * dgX τ (dgR τ (dgK τ (dgT τ (hsI (fun w => rC_count τ w) 17 7) (τ 0 0 6).toNat)) 6) t.toNat + τ 4 t 1; omega) hR180q (sC_up hC180q (by decide)) (by omega) hG (lv_sub hl [1, 2, 0] rfl)
                          exact loop180 ((4 - 0 : Int).toNat + 1) 0 σ115q H locs ls (by first | assumption | omega) (hH.trans (by rw [show r = 6 by omega]; rfl)) hR115q hC115q (by omega) hG (lv_sub hl [1, 0] rfl)
                        · refine lv_aload_n zC.1 zC.2.1 dX5_digest_121 rfl (lv_at hl 0 rfl) ?_
                          refine lv_aload_n zC.1 zC.2.1 dX5_digest_122 rfl (lv_at hl 0 rfl) ?_
                          refine gf_M_sizes zC hG wl_X5_17 dX5_digest_123 ?_
                          refine lv_iload_n zC.1 zC.2.1 dX5_digest_126 rfl (lv_at hl 1 rfl) ?_
                          refine gi_m_sizes (v := szM (τ 2 r 1)) zC hG (by omega) (hR115q.2.2.1 r (by omega) (by omega)) dX5_digest_127 ?_
                          have f127 := hI.2.2.1 r (by omega) (by omega)
                          have f127s := szM_s (τ 2 r 1)
                          refine zr_if_ge (tgt := 135) zC dX5_digest_128 (by decide) (by omega) (fun c128 => ?_) (fun c128 => ?_)
                          · refine lv_aload_n zC.1 zC.2.1 dX5_digest_135 rfl (lv_at hl 0 rfl) ?_
                            refine gf_M_sizes zC hG wl_X5_17 dX5_digest_136 ?_
                            refine lv_iload_n zC.1 zC.2.1 dX5_digest_139 rfl (lv_at hl 1 rfl) ?_
                            refine gi_m_sizes (v := szM (τ 2 r 1)) zC hG (by omega) (hR115q.2.2.1 r (by omega) (by omega)) dX5_digest_140 ?_
                            have f140 := hI.2.2.1 r (by omega) (by omega)
                            have f140s := szM_s (τ 2 r 1)
                            refine zr_callV zC hG (c_X5_mix (σ := σ115q) (v := szM (τ 2 r 1)) (by first | assumption | omega)) mt_X5_mix wl_X5_250 pM rfl rfl ⟨by decide, by decide⟩ rfl hl.1 rfl (Nat.le_of_ble_eq_true rfl) dX5_digest_141 ⟨Nat.zero_le _, Nat.zero_le _⟩ (fun H locs hG => ?_)
                            refine W.eq (g2 := F0 zm 144 ls []) rfl ?_
                            refine zr_iconst zC dX5_digest_144 ?_
                            refine lv_istore_n (lv' := [(2, .int (zI 0)), (0, .ref (aM Γ)), (1, .int (zI r))]) zC.1 zC.2.1 dX5_digest_145 rfl hl (by decide) rfl (fun ls hl => ?_)
                            have loop146 : ∀ (nf : Nat) (j : Int) (σ146q : Mm) (H : Heap) (locs : List Loc) (ls : Array Slot), (0 ≤ j ∧ j ≤ 40 ∧ (j ≤ τ 2 r 1 ∨ j = 0)) → (σ146q 20 0 24 = hsI (fun j => τ 3 r j) (31 * dgR τ (dgK τ (dgT τ (hsI (fun w => rC_count τ w) 17 7) (τ 0 0 6).toNat)) r.toNat + τ 2 r 1) j.toNat) → (Rel2 τ σ146q) → (sC σ σ146q) → (41 - j < (nf : Int)) → GM Γ A σ146q zs H locs → lv_has ls 3 [(0, .ref (aM Γ)), (1, .int (zI r)), (2, .int (zI j))] → W zp zl ze { frames := 6, cells := 0, slots := 0, locals := 128 } zs zm args below meth zc H locs 0 0 zQ (F0 zm 146 ls []) := by
                              intro nf
                              induction nf with
                              | zero =>
                                intro j σ146q H locs ls hj hH hR146q hC146q hm146 _ _
                                exact absurd hm146 (by omega)
                              | succ nf ih146 =>
                                intro j σ146q H locs ls hj hH hR146q hC146q hm146 hG hl
                                have b146 := hI.2.2.1 r (by omega) (by omega)
                                refine lv_iload_n zC.1 zC.2.1 dX5_digest_146 rfl (lv_at hl 2 rfl) ?_
                                refine lv_aload_n zC.1 zC.2.1 dX5_digest_147 rfl (lv_at hl 0 rfl) ?_
                                refine gf_M_sizes zC hG wl_X5_17 dX5_digest_148 ?_
                                refine lv_iload_n zC.1 zC.2.1 dX5_digest_151 rfl (lv_at hl 1 rfl) ?_
                                refine gi_m_sizes (v := szM (τ 2 r 1)) zC hG (by omega) (hR146q.2.2.1 r (by omega) (by omega)) dX5_digest_152 ?_
                                have f152 := hI.2.2.1 r (by omega) (by omega)
                                have f152s := szM_s (τ 2 r 1)
                                refine zr_icmp_ge (tgt := 172) zC dX5_digest_153 (by decide) (by omega) (fun c153 => ?_) (fun c153 => ?_)
                                · refine zr_iinc (lv' := [(1, .int (zI (r + 1))), (0, .ref (aM Γ)), (2, .int (zI j))]) zC dX5_digest_172 hl (k := 1) rfl (by decide) rfl (fun ls hl => ?_)
                                  refine lv_goto (tgt := 115) zC.1 zC.2.1 dX5_digest_175 (by decide) ?_
                                  exact ih115 (r + 1) σ146q H locs ls (by first | assumption | omega) (by rw [dgR_s hr.1]; exact hH.trans (by rw [show j.toNat = (τ 2 r 1).toNat by omega])) hR146q hC146q (by omega) hG (lv_sub hl [1, 0] rfl)
                                · refine lv_aload_n zC.1 zC.2.1 dX5_digest_156 rfl (lv_at hl 0 rfl) ?_
                                  refine lv_aload_n zC.1 zC.2.1 dX5_digest_157 rfl (lv_at hl 0 rfl) ?_
                                  refine lv_iload_n zC.1 zC.2.1 dX5_digest_158 rfl (lv_at hl 1 rfl) ?_
                                  refine lv_iload_n zC.1 zC.2.1 dX5_digest_159 rfl (lv_at hl 2 rfl) ?_
                                  refine zr_callV zC hG (c_X5_rowAt (τ := τ) (σ := σ146q) (r := r) (x := j) hR146q hI (by first | assumption | omega) (by first | assumption | omega)) mt_X5_rowAt wl_X5_82 pM rfl rfl ⟨by decide, by decide⟩ rfl hl.1 rfl (Nat.le_of_ble_eq_true rfl) dX5_digest_160 ⟨Nat.zero_le _, Nat.zero_le _⟩ (fun H locs hG => ?_)
                                  refine W.eq (g2 := F0 zm 163 ls [.int (zI (τ 3 r j)), .ref (aM Γ)]) rfl ?_
                                  have b160_0 := hI.2.2.2.1 r j (by omega) (by omega) (by omega) (by omega)
                                  refine zr_callV zC hG (c_X5_mix (σ := σ146q) (v := τ 3 r j) (by first | assumption | omega)) mt_X5_mix wl_X5_250 pM rfl rfl ⟨by decide, by decide⟩ rfl hl.1 rfl (Nat.le_of_ble_eq_true rfl) dX5_digest_163 ⟨Nat.zero_le _, Nat.zero_le _⟩ (fun H locs hG => ?_)
                                  refine W.eq (g2 := F0 zm 166 ls []) rfl ?_
                                  refine zr_iinc (lv' := [(2, .int (zI (j + 1))), (0, .ref (aM Γ)), (1, .int (zI r))]) zC dX5_digest_166 hl (k := 2) rfl (by decide) rfl (fun ls hl => ?_)
                                  refine lv_goto (tgt := 146) zC.1 zC.2.1 dX5_digest_169 (by decide) ?_
                                  exact ih146 (j + 1) (up σ146q 20 0 24 (31 * (σ146q 20 0 24) + (τ 3 r j))) H locs ls (by first | assumption | omega) (by rw [up_s, hH, hsI_s hj.1]) hR146q (sC_up hC146q (by decide)) (by omega) hG (lv_sub hl [1, 2, 0] rfl)
                            exact loop146 ((41 - 0 : Int).toNat + 1) 0 (up σ115q 20 0 24 (31 * (σ115q 20 0 24) + (szM (τ 2 r 1)))) H locs ls (by first | assumption | omega) (by rw [up_s, hH]; show _ = 31 * dgR τ (dgK τ (dgT τ (hsI (fun w => rC_count τ w) 17 7) (τ 0 0 6).toNat)) r.toNat + τ 2 r 1; omega) hR115q (sC_up hC115q (by decide)) (by omega) hG (lv_sub hl [1, 2, 0] rfl)
                          · refine zr_iconst zC dX5_digest_131 ?_
                            refine lv_goto (tgt := 141) zC.1 zC.2.1 dX5_digest_132 (by decide) ?_
                            refine zr_callV zC hG (c_X5_mix (σ := σ115q) (v := (-1)) (by first | assumption | omega)) mt_X5_mix wl_X5_250 pM rfl rfl ⟨by decide, by decide⟩ rfl hl.1 rfl (Nat.le_of_ble_eq_true rfl) dX5_digest_141 ⟨Nat.zero_le _, Nat.zero_le _⟩ (fun H locs hG => ?_)
                            refine W.eq (g2 := F0 zm 144 ls []) rfl ?_
                            refine zr_iconst zC dX5_digest_144 ?_
                            refine lv_istore_n (lv' := [(2, .int (zI 0)), (0, .ref (aM Γ)), (1, .int (zI r))]) zC.1 zC.2.1 dX5_digest_145 rfl hl (by decide) rfl (fun ls hl => ?_)
                            have loop146 : ∀ (nf : Nat) (j : Int) (σ146q : Mm) (H : Heap) (locs : List Loc) (ls : Array Slot), (0 ≤ j ∧ j ≤ 40 ∧ (j ≤ τ 2 r 1 ∨ j = 0)) → (σ146q 20 0 24 = hsI (fun j => τ 3 r j) (31 * dgR τ (dgK τ (dgT τ (hsI (fun w => rC_count τ w) 17 7) (τ 0 0 6).toNat)) r.toNat + τ 2 r 1) j.toNat) → (Rel2 τ σ146q) → (sC σ σ146q) → (41 - j < (nf : Int)) → GM Γ A σ146q zs H locs → lv_has ls 3 [(0, .ref (aM Γ)), (1, .int (zI r)), (2, .int (zI j))] → W zp zl ze { frames := 6, cells := 0, slots := 0, locals := 128 } zs zm args below meth zc H locs 0 0 zQ (F0 zm 146 ls []) := by
                              intro nf
                              induction nf with
                              | zero =>
                                intro j σ146q H locs ls hj hH hR146q hC146q hm146 _ _
                                exact absurd hm146 (by omega)
                              | succ nf ih146 =>
                                intro j σ146q H locs ls hj hH hR146q hC146q hm146 hG hl
                                have b146 := hI.2.2.1 r (by omega) (by omega)
                                refine lv_iload_n zC.1 zC.2.1 dX5_digest_146 rfl (lv_at hl 2 rfl) ?_
                                refine lv_aload_n zC.1 zC.2.1 dX5_digest_147 rfl (lv_at hl 0 rfl) ?_
                                refine gf_M_sizes zC hG wl_X5_17 dX5_digest_148 ?_
                                refine lv_iload_n zC.1 zC.2.1 dX5_digest_151 rfl (lv_at hl 1 rfl) ?_
                                refine gi_m_sizes (v := szM (τ 2 r 1)) zC hG (by omega) (hR146q.2.2.1 r (by omega) (by omega)) dX5_digest_152 ?_
                                have f152 := hI.2.2.1 r (by omega) (by omega)
                                have f152s := szM_s (τ 2 r 1)
                                refine zr_icmp_ge (tgt := 172) zC dX5_digest_153 (by decide) (by omega) (fun c153 => ?_) (fun c153 => ?_)
                                · refine zr_iinc (lv' := [(1, .int (zI (r + 1))), (0, .ref (aM Γ)), (2, .int (zI j))]) zC dX5_digest_172 hl (k := 1) rfl (by decide) rfl (fun ls hl => ?_)
                                  refine lv_goto (tgt := 115) zC.1 zC.2.1 dX5_digest_175 (by decide) ?_
                                  exact ih115 (r + 1) σ146q H locs ls (by first | assumption | omega) (by rw [dgR_s hr.1]; exact hH.trans (by rw [show j.toNat = (τ 2 r 1).toNat by omega])) hR146q hC146q (by omega) hG (lv_sub hl [1, 0] rfl)
                                · refine lv_aload_n zC.1 zC.2.1 dX5_digest_156 rfl (lv_at hl 0 rfl) ?_
                                  refine lv_aload_n zC.1 zC.2.1 dX5_digest_157 rfl (lv_at hl 0 rfl) ?_
                                  refine lv_iload_n zC.1 zC.2.1 dX5_digest_158 rfl (lv_at hl 1 rfl) ?_
                                  refine lv_iload_n zC.1 zC.2.1 dX5_digest_159 rfl (lv_at hl 2 rfl) ?_
                                  refine zr_callV zC hG (c_X5_rowAt (τ := τ) (σ := σ146q) (r := r) (x := j) hR146q hI (by first | assumption | omega) (by first | assumption | omega)) mt_X5_rowAt wl_X5_82 pM rfl rfl ⟨by decide, by decide⟩ rfl hl.1 rfl (Nat.le_of_ble_eq_true rfl) dX5_digest_160 ⟨Nat.zero_le _, Nat.zero_le _⟩ (fun H locs hG => ?_)
                                  refine W.eq (g2 := F0 zm 163 ls [.int (zI (τ 3 r j)), .ref (aM Γ)]) rfl ?_
                                  have b160_0 := hI.2.2.2.1 r j (by omega) (by omega) (by omega) (by omega)
                                  refine zr_callV zC hG (c_X5_mix (σ := σ146q) (v := τ 3 r j) (by first | assumption | omega)) mt_X5_mix wl_X5_250 pM rfl rfl ⟨by decide, by decide⟩ rfl hl.1 rfl (Nat.le_of_ble_eq_true rfl) dX5_digest_163 ⟨Nat.zero_le _, Nat.zero_le _⟩ (fun H locs hG => ?_)
                                  refine W.eq (g2 := F0 zm 166 ls []) rfl ?_
                                  refine zr_iinc (lv' := [(2, .int (zI (j + 1))), (0, .ref (aM Γ)), (1, .int (zI r))]) zC dX5_digest_166 hl (k := 2) rfl (by decide) rfl (fun ls hl => ?_)
                                  refine lv_goto (tgt := 146) zC.1 zC.2.1 dX5_digest_169 (by decide) ?_
                                  exact ih146 (j + 1) (up σ146q 20 0 24 (31 * (σ146q 20 0 24) + (τ 3 r j))) H locs ls (by first | assumption | omega) (by rw [up_s, hH, hsI_s hj.1]) hR146q (sC_up hC146q (by decide)) (by omega) hG (lv_sub hl [1, 2, 0] rfl)
                            exact loop146 ((41 - 0 : Int).toNat + 1) 0 (up σ115q 20 0 24 (31 * (σ115q 20 0 24) + (-1))) H locs ls (by first | assumption | omega) (by rw [up_s, hH]; show _ = 31 * dgR τ (dgK τ (dgT τ (hsI (fun w => rC_count τ w) 17 7) (τ 0 0 6).toNat)) r.toNat + τ 2 r 1; omega) hR115q (sC_up hC115q (by decide)) (by omega) hG (lv_sub hl [1, 2, 0] rfl)
                    exact loop115 ((6 - 0 : Int).toNat + 1) 0 σ71q H locs ls (by first | assumption | omega) (hH.trans (by rw [show k = 3 by omega]; rfl)) hR71q hC71q (by omega) hG (lv_sub hl [1, 0] rfl)
                  · refine lv_aload_n zC.1 zC.2.1 dX5_digest_76 rfl (lv_at hl 0 rfl) ?_
                    refine lv_aload_n zC.1 zC.2.1 dX5_digest_77 rfl (lv_at hl 0 rfl) ?_
                    refine gf_M_kept zC hG wl_X5_47 dX5_digest_78 ?_
                    refine zr_bipush zC dX5_digest_81 (by decide +kernel) ?_
                    refine lv_iload_n zC.1 zC.2.1 dX5_digest_83 rfl (lv_at hl 1 rfl) ?_
                    refine zr_imul zC dX5_digest_84 ?_
                    refine gi_m_kept (v := kpM (τ 7 k 3) (τ 7 k 4)) zC hG (by omega) (hR71q.2.2.2.2.2.2.2 k (by omega) (by omega)).1 dX5_digest_85 ?_
                    have k85 := kpM_s (τ 7 k 3) (τ 7 k 4)
                    obtain ⟨k85c, k85d, -⟩ := hI.2.2.2.2.2.2.2 k (by omega) (by omega)
                    refine zr_bipush zC dX5_digest_86 (by decide +kernel) ?_
                    refine zr_icmp_ne (tgt := 95) zC dX5_digest_88 (by decide) (by omega) (fun c88 => ?_) (fun c88 => ?_)
                    · refine lv_aload_n zC.1 zC.2.1 dX5_digest_95 rfl (lv_at hl 0 rfl) ?_
                      refine gf_M_kept zC hG wl_X5_47 dX5_digest_96 ?_
                      refine zr_bipush zC dX5_digest_99 (by decide +kernel) ?_
                      refine lv_iload_n zC.1 zC.2.1 dX5_digest_101 rfl (lv_at hl 1 rfl) ?_
                      refine zr_imul zC dX5_digest_102 ?_
                      refine gi_m_kept (v := kpM (τ 7 k 3) (τ 7 k 4)) zC hG (by omega) (hR71q.2.2.2.2.2.2.2 k (by omega) (by omega)).1 dX5_digest_103 ?_
                      refine zr_callV zC hG (c_X5_mix (σ := σ71q) (v := kpM (τ 7 k 3) (τ 7 k 4)) (by first | assumption | omega)) mt_X5_mix wl_X5_250 pM rfl rfl ⟨by decide, by decide⟩ rfl hl.1 rfl (Nat.le_of_ble_eq_true rfl) dX5_digest_104 ⟨Nat.zero_le _, Nat.zero_le _⟩ (fun H locs hG => ?_)
                      refine W.eq (g2 := F0 zm 107 ls []) rfl ?_
                      refine zr_iinc (lv' := [(1, .int (zI (k + 1))), (0, .ref (aM Γ))]) zC dX5_digest_107 hl (k := 1) rfl (by decide) rfl (fun ls hl => ?_)
                      refine lv_goto (tgt := 71) zC.1 zC.2.1 dX5_digest_110 (by decide) ?_
                      exact ih71 (k + 1) (up σ71q 20 0 24 (31 * (σ71q 20 0 24) + (kpM (τ 7 k 3) (τ 7 k 4)))) H locs ls (by first | assumption | omega) (by rw [up_s, hH, hsI_s hk.1]; first | rw [if_pos (by omega)] | (rw [if_neg (by omega)]; omega)) hR71q (sC_up hC71q (by decide)) (by omega) hG (lv_sub hl [1, 0] rfl)
                    · refine zr_iconst zC dX5_digest_91 ?_
                      refine lv_goto (tgt := 104) zC.1 zC.2.1 dX5_digest_92 (by decide) ?_
                      refine zr_callV zC hG (c_X5_mix (σ := σ71q) (v := (-1)) (by first | assumption | omega)) mt_X5_mix wl_X5_250 pM rfl rfl ⟨by decide, by decide⟩ rfl hl.1 rfl (Nat.le_of_ble_eq_true rfl) dX5_digest_104 ⟨Nat.zero_le _, Nat.zero_le _⟩ (fun H locs hG => ?_)
                      refine W.eq (g2 := F0 zm 107 ls []) rfl ?_
                      refine zr_iinc (lv' := [(1, .int (zI (k + 1))), (0, .ref (aM Γ))]) zC dX5_digest_107 hl (k := 1) rfl (by decide) rfl (fun ls hl => ?_)
                      refine lv_goto (tgt := 71) zC.1 zC.2.1 dX5_digest_110 (by decide) ?_
                      exact ih71 (k + 1) (up σ71q 20 0 24 (31 * (σ71q 20 0 24) + (-1))) H locs ls (by first | assumption | omega) (by rw [up_s, hH, hsI_s hk.1]; first | rw [if_pos (by omega)] | (rw [if_neg (by omega)]; omega)) hR71q (sC_up hC71q (by decide)) (by omega) hG (lv_sub hl [1, 0] rfl)
              exact loop71 ((3 - 0 : Int).toNat + 1) 0 σ32q H locs ls (by first | assumption | omega) (hH.trans (by rw [show c = τ 0 0 6 by omega]; rfl)) hR32q hC32q (by omega) hG (lv_sub hl [1, 0] rfl)
            · refine zr_iconst zC dX5_digest_40 ?_
              refine lv_istore_n (lv' := [(2, .int (zI 0)), (0, .ref (aM Γ)), (1, .int (zI c))]) zC.1 zC.2.1 dX5_digest_41 rfl hl (by decide) rfl (fun ls hl => ?_)
              have loop42 : ∀ (nf : Nat) (w : Int) (σ42q : Mm) (H : Heap) (locs : List Loc) (ls : Array Slot), (0 ≤ w ∧ w ≤ 5) → (σ42q 20 0 24 = hsI (fun w => oTn τ c w) (dgT τ (hsI (fun w => rC_count τ w) 17 7) c.toNat) w.toNat) → (Rel2 τ σ42q) → (sC σ σ42q) → (5 - w < (nf : Int)) → GM Γ A σ42q zs H locs → lv_has ls 3 [(0, .ref (aM Γ)), (1, .int (zI c)), (2, .int (zI w))] → W zp zl ze { frames := 6, cells := 0, slots := 0, locals := 128 } zs zm args below meth zc H locs 0 0 zQ (F0 zm 42 ls []) := by
                intro nf
                induction nf with
                | zero =>
                  intro w σ42q H locs ls hw hH hR42q hC42q hm42 _ _
                  exact absurd hm42 (by omega)
                | succ nf ih42 =>
                  intro w σ42q H locs ls hw hH hR42q hC42q hm42 hG hl
                  refine lv_iload_n zC.1 zC.2.1 dX5_digest_42 rfl (lv_at hl 2 rfl) ?_
                  refine zr_iconst zC dX5_digest_43 ?_
                  refine zr_icmp_gt (tgt := 63) zC dX5_digest_44 (by decide) (by omega) (fun c44 => ?_) (fun c44 => ?_)
                  · refine zr_iinc (lv' := [(1, .int (zI (c + 1))), (0, .ref (aM Γ)), (2, .int (zI w))]) zC dX5_digest_63 hl (k := 1) rfl (by decide) rfl (fun ls hl => ?_)
                    refine lv_goto (tgt := 32) zC.1 zC.2.1 dX5_digest_66 (by decide) ?_
                    exact ih32 (c + 1) σ42q H locs ls (by first | assumption | omega) (by rw [dgT_s hc.1]; exact hH.trans (by rw [show w = 5 by omega]; rfl)) hR42q hC42q (by omega) hG (lv_sub hl [1, 0] rfl)
                  · refine lv_aload_n zC.1 zC.2.1 dX5_digest_47 rfl (lv_at hl 0 rfl) ?_
                    refine lv_aload_n zC.1 zC.2.1 dX5_digest_48 rfl (lv_at hl 0 rfl) ?_
                    refine lv_iload_n zC.1 zC.2.1 dX5_digest_49 rfl (lv_at hl 1 rfl) ?_
                    refine lv_iload_n zC.1 zC.2.1 dX5_digest_50 rfl (lv_at hl 2 rfl) ?_
                    refine zr_callV zC hG (c_X5_townOf_x (τ := τ) (σ := σ42q) (c := c) (w := w) hR42q hI (by first | assumption | omega) (by first | assumption | omega)) mt_X5_townOf wl_X5_172 pM rfl rfl ⟨by decide, by decide⟩ rfl hl.1 rfl (Nat.le_of_ble_eq_true rfl) dX5_digest_51 ⟨Nat.zero_le _, Nat.zero_le _⟩ (fun H locs hG => ?_)
                    refine W.eq (g2 := F0 zm 54 ls [.int (zI (oTn τ c w)), .ref (aM Γ)]) rfl ?_
                    have b51_0 := oTn_r hI (c := c) (w := w) (by omega)
                    refine zr_callV zC hG (c_X5_mix (σ := mTw τ σ42q c w) (v := oTn τ c w) (by first | assumption | omega)) mt_X5_mix wl_X5_250 pM rfl rfl ⟨by decide, by decide⟩ rfl hl.1 rfl (Nat.le_of_ble_eq_true rfl) dX5_digest_54 ⟨Nat.zero_le _, Nat.zero_le _⟩ (fun H locs hG => ?_)
                    refine W.eq (g2 := F0 zm 57 ls []) rfl ?_
                    refine zr_iinc (lv' := [(2, .int (zI (w + 1))), (0, .ref (aM Γ)), (1, .int (zI c))]) zC dX5_digest_57 hl (k := 2) rfl (by decide) rfl (fun ls hl => ?_)
                    refine lv_goto (tgt := 42) zC.1 zC.2.1 dX5_digest_60 (by decide) ?_
                    exact ih42 (w + 1) (up (mTw τ σ42q c w) 20 0 24 (31 * ((mTw τ σ42q c w) 20 0 24) + (oTn τ c w))) H locs ls (by first | assumption | omega) (by rw [up_s, tw_h, hH, hsI_s hw.1]) (rl_tw hR42q) (sC_up (sC_tw hC42q) (by decide)) (by omega) hG (lv_sub hl [1, 2, 0] rfl)
              exact loop42 ((5 - 0 : Int).toNat + 1) 0 σ32q H locs ls (by first | assumption | omega) hH hR32q hC32q (by omega) hG (lv_sub hl [1, 2, 0] rfl)
        exact loop32 ((6 - 0 : Int).toNat + 1) 0 σ9q H locs ls (by first | assumption | omega) (hH.trans (by rw [show q = 7 by omega]; rfl)) hR9q hC9q (by omega) hG (lv_sub hl [1, 0] rfl)
      · refine lv_aload_n zC.1 zC.2.1 dX5_digest_15 rfl (lv_at hl 0 rfl) ?_
        refine lv_aload_n zC.1 zC.2.1 dX5_digest_16 rfl (lv_at hl 0 rfl) ?_
        refine lv_iload_n zC.1 zC.2.1 dX5_digest_17 rfl (lv_at hl 1 rfl) ?_
        refine zr_callV zC hG (c_X5_tells (τ := τ) (σ := σ9q) (w := q) hR9q hI (by first | assumption | omega)) mt_X5_tells wl_X5_240 pM rfl rfl ⟨by decide, by decide⟩ rfl hl.1 rfl (Nat.le_of_ble_eq_true rfl) dX5_digest_18 ⟨Nat.zero_le _, Nat.zero_le _⟩ (fun H locs hG => ?_)
        refine W.eq (g2 := F0 zm 21 ls [.int (zI (rC_count τ q)), .ref (aM Γ)]) rfl ?_
        have b18_0 := count_r hI q
        refine zr_callV zC hG (c_X5_mix (σ := σ9q) (v := rC_count τ q) (by first | assumption | omega)) mt_X5_mix wl_X5_250 pM rfl rfl ⟨by decide, by decide⟩ rfl hl.1 rfl (Nat.le_of_ble_eq_true rfl) dX5_digest_21 ⟨Nat.zero_le _, Nat.zero_le _⟩ (fun H locs hG => ?_)
        refine W.eq (g2 := F0 zm 24 ls []) rfl ?_
        refine zr_iinc (lv' := [(1, .int (zI (q + 1))), (0, .ref (aM Γ))]) zC dX5_digest_24 hl (k := 1) rfl (by decide) rfl (fun ls hl => ?_)
        refine lv_goto (tgt := 9) zC.1 zC.2.1 dX5_digest_27 (by decide) ?_
        exact ih9 (q + 1) (up σ9q 20 0 24 (31 * (σ9q 20 0 24) + (rC_count τ q))) H locs ls (by first | assumption | omega) (by rw [up_s, hH, hsI_s hq.1]) hR9q (sC_up hC9q (by decide)) (by omega) hG (lv_sub hl [1, 0] rfl)
  exact loop9 ((7 - 0 : Int).toNat + 1) 0 (up σ 20 0 24 17) H locs ls (by first | assumption | omega) rfl hR (sC_up (sC_r _) (by decide)) (by omega) hG (lv_sub hl [1, 0] rfl)
