set_option maxHeartbeats 4000000 in
set_option maxRecDepth 100000 in
theorem c_X4_change {Γ : Gm} {zl : Launch} {A : Nat → Prop} {σ : Mm} {c r a b : Int} (hI : IC σ) (hc : -2147483648 ≤ c ∧ c < 2147483648) (hr : -2147483648 ≤ r ∧ r < 2147483648) (ha : -2147483648 ≤ a ∧ a < 2147483648) (hb : -2147483648 ≤ b ∧ b < 2147483648) : Fn Γ zl A yX4_change cX4_change 10 (some .int) 6 140 [.ref (aL Γ), .int (zI c), .int (zI r), .int (zI a), .int (zI b)] σ (some (.int (zI (rC_change σ c r a b)))) (mC_change σ c r a b) := by
  refine Fn_of (by decide) (Nat.le_of_ble_eq_true rfl) ?_
  intro zp ze zs zm args below meth zc zQ H locs ls zC zK hG hl
  have hl : lv_has ls 10 [(0, .ref (aL Γ)), (1, .int (zI c)), (2, .int (zI r)), (3, .int (zI a)), (4, .int (zI b))] := hl
  obtain ⟨hmany, htoday, -⟩ := id hI
  refine lv_aload_n zC.1 zC.2.1 dX4_change_0 rfl (lv_at hl 0 rfl) ?_
  refine lv_iload_n zC.1 zC.2.1 dX4_change_1 rfl (lv_at hl 1 rfl) ?_
  refine zr_callV zC hG (c_X4_isTown (σ := σ) (c := c) hI (by first | assumption | omega)) mt_X4_isTown wl_X4_128 pL rfl rfl ⟨by decide, by decide⟩ rfl hl.1 rfl (Nat.le_of_ble_eq_true rfl) dX4_change_2 ⟨Nat.zero_le _, Nat.zero_le _⟩ (fun H locs hG => ?_)
  refine W.eq (g2 := F0 zm 5 ls [.int (zI (zB (isT σ c)))]) rfl ?_
  refine zr_ifeqB (tgt := 41) zC dX4_change_5 (by decide) (fun c5 => ?_) (fun c5 => ?_)
  · refine zr_iconst zC dX4_change_41 ?_
    exact zr_iret zC zK hG dX4_change_42 (by unfold rC_change; (repeat' split) <;> first | rfl | omega) (by unfold mC_change; (repeat' split) <;> first | rfl | (exfalso; omega))
  · refine lv_iload_n zC.1 zC.2.1 dX4_change_8 rfl (lv_at hl 2 rfl) ?_
    refine zr_callS zC hG (c_X4_isRow (σ := σ) (v := r) (by first | assumption | omega)) mt_X4_isRow wl_X4_65 ⟨by decide, by decide⟩ rfl hl.1 rfl (Nat.le_of_ble_eq_true rfl) dX4_change_9 ⟨Nat.zero_le _, Nat.zero_le _⟩ (fun H locs hG => ?_)
    refine W.eq (g2 := F0 zm 12 ls [.int (zI (zB (0 ≤ r ∧ r < 6)))]) rfl ?_
    refine zr_ifeqB (tgt := 41) zC dX4_change_12 (by decide) (fun c12 => ?_) (fun c12 => ?_)
    · refine zr_iconst zC dX4_change_41 ?_
      exact zr_iret zC zK hG dX4_change_42 (by unfold rC_change; (repeat' split) <;> first | rfl | omega) (by unfold mC_change; (repeat' split) <;> first | rfl | (exfalso; omega))
    · refine lv_iload_n zC.1 zC.2.1 dX4_change_15 rfl (lv_at hl 3 rfl) ?_
      refine lv_iload zC.1 zC.2.1 dX4_change_16 (lv_at hl 4 rfl) ?_
      refine zr_callS zC hG (c_X4_isSpan (σ := σ) (a := a) (b := b) (by first | assumption | omega) (by first | assumption | omega)) mt_X4_isSpan wl_X4_197 ⟨by decide, by decide⟩ rfl hl.1 rfl (Nat.le_of_ble_eq_true rfl) dX4_change_18 ⟨Nat.zero_le _, Nat.zero_le _⟩ (fun H locs hG => ?_)
      refine W.eq (g2 := F0 zm 21 ls [.int (zI (zB (0 ≤ a ∧ a ≤ b ∧ b ≤ 19999)))]) rfl ?_
      refine zr_ifeqB (tgt := 41) zC dX4_change_21 (by decide) (fun c21 => ?_) (fun c21 => ?_)
      · refine zr_iconst zC dX4_change_41 ?_
        exact zr_iret zC zK hG dX4_change_42 (by unfold rC_change; (repeat' split) <;> first | rfl | omega) (by unfold mC_change; (repeat' split) <;> first | rfl | (exfalso; omega))
      · refine lv_iload zC.1 zC.2.1 dX4_change_24 (lv_at hl 4 rfl) ?_
        refine zr_sipush zC dX4_change_26 (by decide +kernel) ?_
        refine zr_icmp_gt (tgt := 41) zC dX4_change_29 (by decide) (by omega) (fun c29 => ?_) (fun c29 => ?_)
        · refine zr_iconst zC dX4_change_41 ?_
          exact zr_iret zC zK hG dX4_change_42 (by unfold rC_change; (repeat' split) <;> first | rfl | omega) (by unfold mC_change; (repeat' split) <;> first | rfl | (exfalso; omega))
        · refine lv_iload zC.1 zC.2.1 dX4_change_32 (lv_at hl 4 rfl) ?_
          refine lv_iload_n zC.1 zC.2.1 dX4_change_34 rfl (lv_at hl 3 rfl) ?_
          refine zr_isub zC dX4_change_35 ?_
          refine zr_bipush zC dX4_change_36 (by decide +kernel) ?_
          refine zr_icmp_lt (tgt := 43) zC dX4_change_38 (by decide) (by omega) (fun c38 => ?_) (fun c38 => ?_)
          · refine lv_aload_n zC.1 zC.2.1 dX4_change_43 rfl (lv_at hl 0 rfl) ?_
            refine lv_iload_n zC.1 zC.2.1 dX4_change_44 rfl (lv_at hl 2 rfl) ?_
            refine zr_callV zC hG (c_X4_refusedContracts (σ := σ) (r := r) hI (by first | assumption | omega)) mt_X4_refusedContracts wl_X4_227 pL rfl rfl ⟨by decide, by decide⟩ rfl hl.1 rfl (Nat.le_of_ble_eq_true rfl) dX4_change_45 ⟨Nat.zero_le _, Nat.zero_le _⟩ (fun H locs hG => ?_)
            refine W.eq (g2 := F0 zm 48 ls [.int (zI (rfC σ r))]) rfl ?_
            have b45_0 := rfC_r σ r
            refine lv_istore (lv' := [(5, .int (zI (rfC σ r))), (0, .ref (aL Γ)), (1, .int (zI c)), (2, .int (zI r)), (3, .int (zI a)), (4, .int (zI b))]) zC.1 zC.2.1 dX4_change_48 hl (by decide) rfl (fun ls hl => ?_)
            refine lv_iload zC.1 zC.2.1 dX4_change_50 (lv_at hl 0 rfl) ?_
            refine zr_if_eq (tgt := 58) zC dX4_change_52 (by decide) (by omega) (fun c52 => ?_) (fun c52 => ?_)
            · obtain ⟨h1, h2, h3, h4, h5⟩ := rfC_0 c52
              rw [h3] at hG
              have h6 := hI.2.2.1 r (by omega) (by omega)
              refine lv_aload_n zC.1 zC.2.1 dX4_change_58 rfl (lv_at hl 1 rfl) ?_
              refine gf_L_trial zC hG wl_X4_34 dX4_change_59 ?_
              refine lv_aload_n zC.1 zC.2.1 dX4_change_62 rfl (lv_at hl 1 rfl) ?_
              refine gf_L_towns zC hG wl_X4_23 dX4_change_63 ?_
              refine lv_iload_n zC.1 zC.2.1 dX4_change_66 rfl (lv_at hl 2 rfl) ?_
              refine gr_To zC hG (by omega) dX4_change_67 ?_
              have k68 := hI.2.2.2.2.2.2.1 c (by omega) (by omega)
              obtain ⟨k68a, k68b, k68c, k68d⟩ := id k68
              refine zr_callV zC hG (c_X0_becomeLike (σ := σ) (i := 5) (j := c) (by first | assumption | omega) (by first | assumption | omega)) mt_X0_becomeLike wl_X4_238 (pCal (by first | assumption | omega)) rfl rfl ⟨by decide, by decide⟩ rfl hl.1 rfl (Nat.le_of_ble_eq_true rfl) dX4_change_68 ⟨Nat.zero_le _, Nat.zero_le _⟩ (fun H locs hG => ?_)
              refine W.eq (g2 := F0 zm 71 ls []) rfl ?_
              obtain ⟨kca, kcb, kcc, kcd⟩ := hI.2.2.2.2.2.2.1 c (by omega) (by omega)
              have hG := (show up (up (up (up σ 6 5 0 (σ 6 c 0)) 6 5 1 (σ 6 c 1)) 6 5 2 (σ 6 c 2)) 6 5 3 (σ 6 c 3) = mTr σ (σ 6 c 0) (σ 6 c 1) (σ 6 c 2) (σ 6 c 3) from mTr_0 _ _ _ _ _) ▸ hG
              refine zr_bipush zC dX4_change_71 (by decide +kernel) ?_
              refine lv_istore (lv' := [(6, .int (zI 40)), (5, .int (zI (rfC σ r))), (0, .ref (aL Γ)), (1, .int (zI c)), (2, .int (zI r)), (3, .int (zI a)), (4, .int (zI b))]) zC.1 zC.2.1 dX4_change_73 hl (by decide) rfl (fun ls hl => ?_)
              refine lv_iload_n zC.1 zC.2.1 dX4_change_75 rfl (lv_at hl 5 rfl) ?_
              refine lv_istore (lv' := [(7, .int (zI a)), (6, .int (zI 40)), (5, .int (zI (rfC σ r))), (0, .ref (aL Γ)), (1, .int (zI c)), (2, .int (zI r)), (3, .int (zI a)), (4, .int (zI b))]) zC.1 zC.2.1 dX4_change_76 hl (by decide) rfl (fun ls hl => ?_)
              refine lv_iload_n zC.1 zC.2.1 dX4_change_78 rfl (lv_at hl 6 rfl) ?_
              refine lv_istore (lv' := [(8, .int (zI a)), (7, .int (zI a)), (6, .int (zI 40)), (5, .int (zI (rfC σ r))), (0, .ref (aL Γ)), (1, .int (zI c)), (2, .int (zI r)), (3, .int (zI a)), (4, .int (zI b))]) zC.1 zC.2.1 dX4_change_79 hl (by decide) rfl (fun ls hl => ?_)
              have loop81 : ∀ (nf : Nat) (u bs x : Int) (H : Heap) (locs : List Loc) (ls : Array Slot), (a ≤ x ∧ x ≤ b + 1) → (u = mnI (fun z => chF σ r c z) a (x - a).toNat) → (bs = bmI (fun z => chF σ r c z) a a (x - a).toNat) → (b + 1 - x < (nf : Int)) → GM Γ A (mTr σ (σ 6 c 0) (σ 6 c 1) (chO σ c a x) (σ 6 c 3)) zs H locs → lv_has ls 10 [(0, .ref (aL Γ)), (1, .int (zI c)), (2, .int (zI r)), (3, .int (zI a)), (4, .int (zI b)), (6, .int (zI u)), (7, .int (zI bs)), (8, .int (zI x))] → W zp zl ze { frames := 6, cells := 0, slots := 0, locals := 140 } zs zm args below meth zc H locs 0 0 zQ (F0 zm 81 ls []) := by
                intro nf
                induction nf with
                | zero =>
                  intro u bs x H locs ls hx hu hb hm81 _ _
                  exact absurd hm81 (by omega)
                | succ nf ih81 =>
                  intro u bs x H locs ls hx hu hb hm81 hG hl
                  have b81 := mnI_b (f := (fun z => chF σ r c z)) (a := a) (n := (x - a).toNat) (fun z _ _ => (ctI_r _ _ _).1)
                  rw [← hu] at b81
                  have b81c := ctI_r (fun q => chQ σ r c x q) 0 (σ 2 r 1 / 3).toNat
                  have b81d : chF σ r c x = ctI (fun q => chQ σ r c x q) 0 (σ 2 r 1 / 3).toNat := rfl
                  refine lv_iload zC.1 zC.2.1 dX4_change_81 (lv_at hl 7 rfl) ?_
                  refine lv_iload zC.1 zC.2.1 dX4_change_83 (lv_at hl 4 rfl) ?_
                  refine zr_icmp_gt (tgt := 131) zC dX4_change_85 (by decide) (by omega) (fun c85 => ?_) (fun c85 => ?_)
                  · refine lv_aload_n zC.1 zC.2.1 dX4_change_131 rfl (lv_at hl 0 rfl) ?_
                    refine lv_iload zC.1 zC.2.1 dX4_change_132 (lv_at hl 5 rfl) ?_
                    refine pf_L_told zC hG wl_X4_49 dX4_change_134 (fun H locs hG => ?_)
                    refine lv_iload zC.1 zC.2.1 dX4_change_137 (lv_at hl 6 rfl) ?_
                    exact zr_iret zC zK hG dX4_change_139 (by unfold rC_change; rw [if_neg (by omega), if_neg (fun z => z c52), hb, show x = b + 1 by omega]) (by unfold mC_change; rw [if_neg (by omega), if_neg (fun z => z c52), hu, show x = b + 1 by omega, show chO σ c a (b + 1) = b from (by unfold chO; rw [if_neg (by omega)]; omega)])
                  · refine lv_aload_n zC.1 zC.2.1 dX4_change_88 rfl (lv_at hl 0 rfl) ?_
                    refine gf_L_trial zC hG wl_X4_34 dX4_change_89 ?_
                    refine lv_iload zC.1 zC.2.1 dX4_change_92 (lv_at hl 7 rfl) ?_
                    refine pf_Cal_order zC hG (by first | assumption | omega) wl_X4_144 dX4_change_94 (fun H locs hG => ?_)
                    have hG := (show up (mTr σ (σ 6 c 0) (σ 6 c 1) (chO σ c a x) (σ 6 c 3)) 6 5 2 x = mTr σ (σ 6 c 0) (σ 6 c 1) x (σ 6 c 3) from mTr_o _ _ _ _ _ _) ▸ hG
                    refine lv_aload_n zC.1 zC.2.1 dX4_change_97 rfl (lv_at hl 0 rfl) ?_
                    refine lv_aload_n zC.1 zC.2.1 dX4_change_98 rfl (lv_at hl 0 rfl) ?_
                    refine gf_L_rows zC hG wl_X4_11 dX4_change_99 ?_
                    refine lv_iload_n zC.1 zC.2.1 dX4_change_102 rfl (lv_at hl 2 rfl) ?_
                    refine gr_Rs zC hG (by omega) dX4_change_103 ?_
                    refine lv_iload_n zC.1 zC.2.1 dX4_change_104 rfl (lv_at hl 1 rfl) ?_
                    refine zr_callV zC hG (c_X4_quarrelsOnTrial (σ := mTr σ (σ 6 c 0) (σ 6 c 1) x (σ 6 c 3)) (i := r) (tr := c) (IC_tr hI) (by first | assumption | omega) (show 0 ≤ σ 2 r 1 by omega) (fun q a1 a2 => h5 q a1 a2) (by omega) (CalOK_tr kca kcb (by omega) kcd)) mt_X4_quarrelsOnTrial wl_X4_242 pL rfl rfl ⟨by decide, by decide⟩ rfl hl.1 rfl (Nat.le_of_ble_eq_true rfl) dX4_change_105 ⟨Nat.zero_le _, Nat.zero_le _⟩ (fun H locs hG => ?_)
                    refine W.eq (g2 := F0 zm 108 ls [.int (zI (ctI (fun q => qAt (mTr σ (σ 6 c 0) (σ 6 c 1) x (σ 6 c 3)) r q c) 0 ((mTr σ (σ 6 c 0) (σ 6 c 1) x (σ 6 c 3)) 2 r 1 / 3).toNat))]) rfl ?_
                    have b105_0 := ctI_r (fun q => qAt (mTr σ (σ 6 c 0) (σ 6 c 1) x (σ 6 c 3)) r q c) 0 ((σ 2 r 1) / 3).toNat
                    refine zr_topi (y := chF σ r c x) (chF_eq hI h5 (by omega)) ?_
                    refine lv_istore (lv' := [(9, .int (zI (chF σ r c x))), (0, .ref (aL Γ)), (1, .int (zI c)), (2, .int (zI r)), (3, .int (zI a)), (4, .int (zI b)), (6, .int (zI u)), (7, .int (zI bs)), (8, .int (zI x))]) zC.1 zC.2.1 dX4_change_108 hl (by decide) rfl (fun ls hl => ?_)
                    refine lv_iload zC.1 zC.2.1 dX4_change_110 (lv_at hl 0 rfl) ?_
                    refine lv_iload zC.1 zC.2.1 dX4_change_112 (lv_at hl 6 rfl) ?_
                    refine zr_icmp_ge (tgt := 125) zC dX4_change_114 (by decide) (by omega) (fun c114 => ?_) (fun c114 => ?_)
                    · refine zr_iinc (lv' := [(8, .int (zI (x + 1))), (9, .int (zI (chF σ r c x))), (0, .ref (aL Γ)), (1, .int (zI c)), (2, .int (zI r)), (3, .int (zI a)), (4, .int (zI b)), (6, .int (zI u)), (7, .int (zI bs))]) zC dX4_change_125 hl (k := 8) rfl (by decide) rfl (fun ls hl => ?_)
                      refine lv_goto (tgt := 81) zC.1 zC.2.1 dX4_change_128 (by decide) ?_
                      exact ih81 u bs (x + 1) H locs ls (by first | assumption | omega) (by rw [mnI_s hx.1, ← hu]; omega) (by rw [bmI_s hx.1, ← hu, ← hb]; split <;> omega) (by omega) ((show mTr σ (σ 6 c 0) (σ 6 c 1) x (σ 6 c 3) = mTr σ (σ 6 c 0) (σ 6 c 1) (chO σ c a (x + 1)) (σ 6 c 3) from (by rw [show chO σ c a (x + 1) = x from (by unfold chO; rw [if_neg (by omega)]; omega)])) ▸ hG) (lv_sub hl [2, 3, 4, 5, 6, 7, 8, 0] rfl)
                    · refine lv_iload zC.1 zC.2.1 dX4_change_117 (lv_at hl 0 rfl) ?_
                      refine lv_istore (lv' := [(6, .int (zI (chF σ r c x))), (9, .int (zI (chF σ r c x))), (0, .ref (aL Γ)), (1, .int (zI c)), (2, .int (zI r)), (3, .int (zI a)), (4, .int (zI b)), (7, .int (zI bs)), (8, .int (zI x))]) zC.1 zC.2.1 dX4_change_119 hl (by decide) rfl (fun ls hl => ?_)
                      refine lv_iload zC.1 zC.2.1 dX4_change_121 (lv_at hl 8 rfl) ?_
                      refine lv_istore (lv' := [(7, .int (zI x)), (6, .int (zI (chF σ r c x))), (9, .int (zI (chF σ r c x))), (0, .ref (aL Γ)), (1, .int (zI c)), (2, .int (zI r)), (3, .int (zI a)), (4, .int (zI b)), (8, .int (zI x))]) zC.1 zC.2.1 dX4_change_123 hl (by decide) rfl (fun ls hl => ?_)
                      refine zr_iinc (lv' := [(8, .int (zI (x + 1))), (7, .int (zI x)), (6, .int (zI (chF σ r c x))), (9, .int (zI (chF σ r c x))), (0, .ref (aL Γ)), (1, .int (zI c)), (2, .int (zI r)), (3, .int (zI a)), (4, .int (zI b))]) zC dX4_change_125 hl (k := 8) rfl (by decide) rfl (fun ls hl => ?_)
                      refine lv_goto (tgt := 81) zC.1 zC.2.1 dX4_change_128 (by decide) ?_
                      exact ih81 (chF σ r c x) x (x + 1) H locs ls (by first | assumption | omega) (by rw [mnI_s hx.1, ← hu]; omega) (by rw [bmI_s hx.1, ← hu, ← hb]; split <;> omega) (by omega) ((show mTr σ (σ 6 c 0) (σ 6 c 1) x (σ 6 c 3) = mTr σ (σ 6 c 0) (σ 6 c 1) (chO σ c a (x + 1)) (σ 6 c 3) from (by rw [show chO σ c a (x + 1) = x from (by unfold chO; rw [if_neg (by omega)]; omega)])) ▸ hG) (lv_sub hl [4, 5, 6, 7, 8, 2, 1, 0] rfl)
              exact loop81 ((b + 1 - a : Int).toNat + 1) 40 a a H locs ls (by first | assumption | omega) (by rw [show (a - a).toNat = 0 by omega]; rfl) (by rw [show (a - a).toNat = 0 by omega]; rfl) (by omega) ((show mTr σ (σ 6 c 0) (σ 6 c 1) (σ 6 c 2) (σ 6 c 3) = mTr σ (σ 6 c 0) (σ 6 c 1) (chO σ c a a) (σ 6 c 3) from (by unfold chO; rw [if_pos rfl])) ▸ hG) (lv_sub hl [4, 5, 6, 7, 8, 2, 1, 0] rfl)
            · refine lv_iload zC.1 zC.2.1 dX4_change_55 (lv_at hl 0 rfl) ?_
              exact zr_iret zC zK hG dX4_change_57 (by unfold rC_change; rw [if_neg (by omega), if_pos c52]) (by unfold mC_change; rw [if_neg (by omega), if_pos c52])
          · refine zr_iconst zC dX4_change_41 ?_
            exact zr_iret zC zK hG dX4_change_42 (by unfold rC_change; (repeat' split) <;> first | rfl | omega) (by unfold mC_change; (repeat' split) <;> first | rfl | (exfalso; omega))

set_option maxHeartbeats 4000000 in
set_option maxRecDepth 100000 in
theorem c_X4_areLetters {Γ : Gm} {zl : Launch} {A : Nat → Prop} {σ : Mm} {i : Int} (hi : 0 ≤ i ∧ i < 6) (hs : -1 ≤ σ 2 i 1 ∧ σ 2 i 1 ≤ 40) (hs0 : 0 ≤ σ 2 i 1) (hs2 : σ 2 i 1 % 2 = 0) (hc : ∀ j : Int, 0 ≤ j → j < 40 → -2147483648 ≤ σ 3 i j ∧ σ 3 i j < 2147483648) : Fn Γ zl A yX4_areLetters cX4_areLetters 2 (some .boolean) 1 20 [.ref (aRow Γ i)] σ (some (.int (zI (zB (ctI (fun q => ¬ lOK σ i q) 0 ((σ 2 i 1) / 2).toNat = 0))))) σ := by
  refine Fn_of (by decide) (Nat.le_of_ble_eq_true rfl) ?_
  intro zp ze zs zm args below meth zc zQ H locs ls zC zK hG hl
  have hl : lv_has ls 2 [(0, .ref (aRow Γ i))] := hl
  refine zr_iconst zC dX4_areLetters_0 ?_
  refine lv_istore_n (lv' := [(1, .int (zI 0)), (0, .ref (aRow Γ i))]) zC.1 zC.2.1 dX4_areLetters_1 rfl hl (by decide) rfl (fun ls hl => ?_)
  have loop2 : ∀ (nf : Nat) (w : Int) (H : Heap) (locs : List Loc) (ls : Array Slot), (0 ≤ w ∧ w ≤ σ 2 i 1 ∧ w % 2 = 0) → (∀ q, 0 ≤ q → 2 * q < w → lOK σ i q) → (40 - w < (nf : Int)) → GM Γ A σ zs H locs → lv_has ls 2 [(0, .ref (aRow Γ i)), (1, .int (zI w))] → W zp zl ze { frames := 1, cells := 0, slots := 0, locals := 20 } zs zm args below meth zc H locs 0 0 zQ (F0 zm 2 ls []) := by
    intro nf
    induction nf with
    | zero =>
      intro w H locs ls hw hz hm2 _ _
      exact absurd hm2 (by omega)
    | succ nf ih2 =>
      intro w H locs ls hw hz hm2 hG hl
      refine lv_iload_n zC.1 zC.2.1 dX4_areLetters_2 rfl (lv_at hl 1 rfl) ?_
      refine zr_iconst zC dX4_areLetters_3 ?_
      refine zr_iadd zC dX4_areLetters_4 ?_
      refine lv_aload_n zC.1 zC.2.1 dX4_areLetters_5 rfl (lv_at hl 0 rfl) ?_
      refine gf_Row_size (v := σ 2 i 1) zC hG (by first | assumption | omega) wl_X4_87 rfl dX4_areLetters_6 ?_
      refine zr_icmp_ge (tgt := 43) zC dX4_areLetters_9 (by decide) (by omega) (fun c9 => ?_) (fun c9 => ?_)
      · refine zr_iconst zC dX4_areLetters_43 ?_
        exact zr_zret zC zK hG dX4_areLetters_44 (zB_t (ctI_z (fun q h1 h2 z => z (hz q h1 (by omega))))) (Or.inr rfl) rfl
      · refine lv_aload_n zC.1 zC.2.1 dX4_areLetters_12 rfl (lv_at hl 0 rfl) ?_
        refine gf_Row_places zC hG (by first | assumption | omega) wl_X4_81 dX4_areLetters_13 ?_
        refine lv_iload_n zC.1 zC.2.1 dX4_areLetters_16 rfl (lv_at hl 1 rfl) ?_
        have f17 := hc w (by omega) (by omega)
        have f17b := hc (w + 1) (by omega) (by omega)
        refine gi_Pl (v := σ 3 i w) zC hG (by first | assumption | omega) (by omega) rfl dX4_areLetters_17 ?_
        refine zr_callS zC hG (c_X4_isDay (σ := σ) (v := σ 3 i w) (by first | assumption | omega)) mt_X4_isDay wl_X4_168 ⟨by decide, by decide⟩ rfl hl.1 rfl (Nat.le_of_ble_eq_true rfl) dX4_areLetters_18 ⟨Nat.zero_le _, Nat.zero_le _⟩ (fun H locs hG => ?_)
        refine W.eq (g2 := F0 zm 21 ls [.int (zI (zB (0 ≤ (σ 3 i w) ∧ (σ 3 i w) ≤ 19999)))]) rfl ?_
        refine zr_ifeqB (tgt := 35) zC dX4_areLetters_21 (by decide) (fun c21 => ?_) (fun c21 => ?_)
        · refine zr_iconst zC dX4_areLetters_35 ?_
          exact zr_zret zC zK hG dX4_areLetters_36 (zB_f (ctI_nz (y := w / 2) (by omega) (by (try dsimp only); unfold lOK; rw [show 2 * (w / 2) = w by omega]; omega) (by omega))) (Or.inl rfl) rfl
        · refine lv_aload_n zC.1 zC.2.1 dX4_areLetters_24 rfl (lv_at hl 0 rfl) ?_
          refine gf_Row_places zC hG (by first | assumption | omega) wl_X4_81 dX4_areLetters_25 ?_
          refine lv_iload_n zC.1 zC.2.1 dX4_areLetters_28 rfl (lv_at hl 1 rfl) ?_
          refine zr_iconst zC dX4_areLetters_29 ?_
          refine zr_iadd zC dX4_areLetters_30 ?_
          refine gi_Pl (v := σ 3 i (w + 1)) zC hG (by first | assumption | omega) (by omega) rfl dX4_areLetters_31 ?_
          refine zr_if_ge (tgt := 37) zC dX4_areLetters_32 (by decide) (by omega) (fun c32 => ?_) (fun c32 => ?_)
          · refine zr_iinc (lv' := [(1, .int (zI (w + 2))), (0, .ref (aRow Γ i))]) zC dX4_areLetters_37 hl (k := 1) rfl (by decide) rfl (fun ls hl => ?_)
            refine lv_goto (tgt := 2) zC.1 zC.2.1 dX4_areLetters_40 (by decide) ?_
            exact ih2 (w + 2) H locs ls (by first | assumption | omega) (fun q h1 h2 => by by_cases v : 2 * q < w; exact hz q h1 v; rw [show q = w / 2 by omega]; unfold lOK; rw [show 2 * (w / 2) = w by omega]; omega) (by omega) hG (lv_sub hl [1, 0] rfl)
          · refine zr_iconst zC dX4_areLetters_35 ?_
            exact zr_zret zC zK hG dX4_areLetters_36 (zB_f (ctI_nz (y := w / 2) (by omega) (by (try dsimp only); unfold lOK; rw [show 2 * (w / 2) = w by omega]; omega) (by omega))) (Or.inl rfl) rfl
  exact loop2 ((40 - 0 : Int).toNat + 1) 0 H locs ls (by first | assumption | omega) (fun q h1 h2 => by omega) (by omega) hG (lv_sub hl [1, 0] rfl)

set_option maxHeartbeats 4000000 in
set_option maxRecDepth 100000 in
theorem c_X4_writesAll {Γ : Gm} {zl : Launch} {A : Nat → Prop} {σ : Mm} {j i : Int} (hj : 0 ≤ j ∧ j < 6) (hoj : CalOK σ j) (hi : 0 ≤ i ∧ i < 6) (hs : -1 ≤ σ 2 i 1 ∧ σ 2 i 1 ≤ 40) (hs0 : 0 ≤ σ 2 i 1) (hs2 : σ 2 i 1 % 2 = 0) (hc : ∀ j : Int, 0 ≤ j → j < 40 → -2147483648 ≤ σ 3 i j ∧ σ 3 i j < 2147483648) (hlq : ∀ q, 0 ≤ q → q < σ 2 i 1 / 2 → lOK σ i q) : Fn Γ zl A yX4_writesAll cX4_writesAll 3 (some .boolean) 4 86 [.ref (aCal Γ j), .ref (aRow Γ i)] σ (some (.int (zI (zB (ctI (wrP σ i (σ 6 j 0) (σ 6 j 1) (σ 6 j 2) (σ 6 j 3)) 0 ((σ 2 i 1) / 2).toNat = 0))))) σ := by
  refine Fn_of (by decide) (Nat.le_of_ble_eq_true rfl) ?_
  intro zp ze zs zm args below meth zc zQ H locs ls zC zK hG hl
  have hl : lv_has ls 3 [(0, .ref (aCal Γ j)), (1, .ref (aRow Γ i))] := hl
  obtain ⟨g1, g2, g3, g4⟩ := id hoj
  refine zr_iconst zC dX4_writesAll_0 ?_
  refine lv_istore_n (lv' := [(2, .int (zI 0)), (0, .ref (aCal Γ j)), (1, .ref (aRow Γ i))]) zC.1 zC.2.1 dX4_writesAll_1 rfl hl (by decide) rfl (fun ls hl => ?_)
  have loop2 : ∀ (nf : Nat) (w : Int) (H : Heap) (locs : List Loc) (ls : Array Slot), (0 ≤ w ∧ w ≤ σ 2 i 1 ∧ w % 2 = 0) → (∀ q, 0 ≤ q → 2 * q < w → ¬ wrP σ i (σ 6 j 0) (σ 6 j 1) (σ 6 j 2) (σ 6 j 3) q) → (40 - w < (nf : Int)) → GM Γ A σ zs H locs → lv_has ls 3 [(0, .ref (aCal Γ j)), (1, .ref (aRow Γ i)), (2, .int (zI w))] → W zp zl ze { frames := 4, cells := 0, slots := 0, locals := 86 } zs zm args below meth zc H locs 0 0 zQ (F0 zm 2 ls []) := by
    intro nf
    induction nf with
    | zero =>
      intro w H locs ls hw hz hm2 _ _
      exact absurd hm2 (by omega)
    | succ nf ih2 =>
      intro w H locs ls hw hz hm2 hG hl
      refine lv_iload_n zC.1 zC.2.1 dX4_writesAll_2 rfl (lv_at hl 2 rfl) ?_
      refine zr_iconst zC dX4_writesAll_3 ?_
      refine zr_iadd zC dX4_writesAll_4 ?_
      refine lv_aload_n zC.1 zC.2.1 dX4_writesAll_5 rfl (lv_at hl 1 rfl) ?_
      refine gf_Row_size (v := σ 2 i 1) zC hG (by first | assumption | omega) wl_X4_87 rfl dX4_writesAll_6 ?_
      refine zr_icmp_ge (tgt := 41) zC dX4_writesAll_9 (by decide) (by omega) (fun c9 => ?_) (fun c9 => ?_)
      · refine zr_iconst zC dX4_writesAll_41 ?_
        exact zr_zret zC zK hG dX4_writesAll_42 (zB_t (ctI_z (fun q h1 h2 => hz q h1 (by omega)))) (Or.inr rfl) rfl
      · obtain ⟨l1, l2, l3⟩ := hlq (w / 2) (by omega) (by omega)
        rw [show 2 * (w / 2) = w by omega] at l1 l2 l3
        have f12 := hc (w + 1) (by omega) (by omega)
        refine lv_aload_n zC.1 zC.2.1 dX4_writesAll_12 rfl (lv_at hl 0 rfl) ?_
        refine lv_aload_n zC.1 zC.2.1 dX4_writesAll_13 rfl (lv_at hl 1 rfl) ?_
        refine gf_Row_places zC hG (by first | assumption | omega) wl_X4_81 dX4_writesAll_14 ?_
        refine lv_iload_n zC.1 zC.2.1 dX4_writesAll_17 rfl (lv_at hl 2 rfl) ?_
        refine gi_Pl (v := σ 3 i w) zC hG (by first | assumption | omega) (by omega) rfl dX4_writesAll_18 ?_
        refine zr_callV zC hG (c_X0_dateOn (σ := σ) (i := j) (d := σ 3 i w) (by first | assumption | omega) hoj (by first | assumption | omega)) mt_X0_dateOn wl_X4_171 (pCal (by first | assumption | omega)) rfl rfl ⟨by decide, by decide⟩ rfl hl.1 rfl (Nat.le_of_ble_eq_true rfl) dX4_writesAll_19 ⟨Nat.zero_le _, Nat.zero_le _⟩ (fun H locs hG => ?_)
        refine W.eq (g2 := F0 zm 22 ls [.int (zI (dtD (σ 6 j 0) (σ 6 j 1) (σ 6 j 2) (σ 6 j 3) (σ 3 i w)))]) rfl ?_
        have b19_0 := dtD_r (k := (σ 6 j 0)) (lp := (σ 6 j 1)) (o := (σ 6 j 2)) (g := (σ 6 j 3)) (d := (σ 3 i w)) (by omega) (by omega) (by omega)
        refine lv_aload_n zC.1 zC.2.1 dX4_writesAll_22 rfl (lv_at hl 1 rfl) ?_
        refine gf_Row_places zC hG (by first | assumption | omega) wl_X4_81 dX4_writesAll_23 ?_
        refine lv_iload_n zC.1 zC.2.1 dX4_writesAll_26 rfl (lv_at hl 2 rfl) ?_
        refine zr_iconst zC dX4_writesAll_27 ?_
        refine zr_iadd zC dX4_writesAll_28 ?_
        refine gi_Pl (v := σ 3 i (w + 1)) zC hG (by first | assumption | omega) (by omega) rfl dX4_writesAll_29 ?_
        refine zr_icmp_eq (tgt := 35) zC dX4_writesAll_30 (by decide) (by omega) (fun c30 => ?_) (fun c30 => ?_)
        · refine zr_iinc (lv' := [(2, .int (zI (w + 2))), (0, .ref (aCal Γ j)), (1, .ref (aRow Γ i))]) zC dX4_writesAll_35 hl (k := 2) rfl (by decide) rfl (fun ls hl => ?_)
          refine lv_goto (tgt := 2) zC.1 zC.2.1 dX4_writesAll_38 (by decide) ?_
          exact ih2 (w + 2) H locs ls (by first | assumption | omega) (fun q h1 h2 => by by_cases v : 2 * q < w; exact hz q h1 v; rw [show q = w / 2 by omega]; unfold wrP; rw [show 2 * (w / 2) = w by omega]; exact fun z => z c30) (by omega) hG (lv_sub hl [1, 2, 0] rfl)
        · refine zr_iconst zC dX4_writesAll_33 ?_
          exact zr_zret zC zK hG dX4_writesAll_34 (zB_f (ctI_nz (y := w / 2) (by omega) (by unfold wrP; rw [show 2 * (w / 2) = w by omega]; exact c30) (by omega))) (Or.inl rfl) rfl
  exact loop2 ((40 - 0 : Int).toNat + 1) 0 H locs ls (by first | assumption | omega) (fun q h1 h2 => by omega) (by omega) hG (lv_sub hl [1, 2, 0] rfl)

set_option maxHeartbeats 4000000 in
set_option maxRecDepth 100000 in
theorem c_X4_kinds {Γ : Gm} {zl : Launch} {A : Nat → Prop} {σ : Mm} {c r : Int} (hI : IC σ) (hc : -2147483648 ≤ c ∧ c < 2147483648) (hr : -2147483648 ≤ r ∧ r < 2147483648) : Fn Γ zl A yX4_kinds cX4_kinds 6 (some .int) 5 108 [.ref (aL Γ), .int (zI c), .int (zI r)] σ (some (.int (zI (rC_kinds σ c r)))) (mC_kinds σ c r) := by
  refine Fn_of (by decide) (Nat.le_of_ble_eq_true rfl) ?_
  intro zp ze zs zm args below meth zc zQ H locs ls zC zK hG hl
  have hl : lv_has ls 6 [(0, .ref (aL Γ)), (1, .int (zI c)), (2, .int (zI r))] := hl
  obtain ⟨hmany, htoday, -⟩ := id hI
  refine lv_aload_n zC.1 zC.2.1 dX4_kinds_0 rfl (lv_at hl 0 rfl) ?_
  refine lv_iload_n zC.1 zC.2.1 dX4_kinds_1 rfl (lv_at hl 1 rfl) ?_
  refine zr_callV zC hG (c_X4_isTown (σ := σ) (c := c) hI (by first | assumption | omega)) mt_X4_isTown wl_X4_128 pL rfl rfl ⟨by decide, by decide⟩ rfl hl.1 rfl (Nat.le_of_ble_eq_true rfl) dX4_kinds_2 ⟨Nat.zero_le _, Nat.zero_le _⟩ (fun H locs hG => ?_)
  refine W.eq (g2 := F0 zm 5 ls [.int (zI (zB (isT σ c)))]) rfl ?_
  refine zr_ifneB (tgt := 10) zC dX4_kinds_5 (by decide) (fun c5 => ?_) (fun c5 => ?_)
  · refine lv_aload_n zC.1 zC.2.1 dX4_kinds_10 rfl (lv_at hl 0 rfl) ?_
    refine lv_iload_n zC.1 zC.2.1 dX4_kinds_11 rfl (lv_at hl 2 rfl) ?_
    refine zr_callV zC hG (c_X4_refusedRow (σ := σ) (r := r) hI (by first | assumption | omega)) mt_X4_refusedRow wl_X4_84 pL rfl rfl ⟨by decide, by decide⟩ rfl hl.1 rfl (Nat.le_of_ble_eq_true rfl) dX4_kinds_12 ⟨Nat.zero_le _, Nat.zero_le _⟩ (fun H locs hG => ?_)
    refine W.eq (g2 := F0 zm 15 ls [.int (zI (rfR σ r))]) rfl ?_
    have b12_0 := rfR_r σ r
    refine lv_istore_n (lv' := [(3, .int (zI (rfR σ r))), (0, .ref (aL Γ)), (1, .int (zI c)), (2, .int (zI r))]) zC.1 zC.2.1 dX4_kinds_15 rfl hl (by decide) rfl (fun ls hl => ?_)
    refine lv_iload_n zC.1 zC.2.1 dX4_kinds_16 rfl (lv_at hl 0 rfl) ?_
    refine zr_if_eq (tgt := 22) zC dX4_kinds_17 (by decide) (by omega) (fun c17 => ?_) (fun c17 => ?_)
    · obtain ⟨h1, h2, h3⟩ := rfR_0 c17
      rw [h3] at hG
      have h4 := hI.2.2.1 r (by omega) (by omega)
      refine lv_aload_n zC.1 zC.2.1 dX4_kinds_22 rfl (lv_at hl 1 rfl) ?_
      refine gf_L_rows zC hG wl_X4_11 dX4_kinds_23 ?_
      refine lv_iload_n zC.1 zC.2.1 dX4_kinds_26 rfl (lv_at hl 3 rfl) ?_
      refine gr_Rs zC hG (by omega) dX4_kinds_27 ?_
      refine gf_Row_size (v := σ 2 r 1) zC hG (by first | assumption | omega) wl_X4_87 rfl dX4_kinds_28 ?_
      have f28 := hI.2.2.1 r (by omega) (by omega)
      refine zr_iconst zC dX4_kinds_31 ?_
      refine zr_irem zC dX4_kinds_32 (by omega) ?_
      refine zr_if_eq (tgt := 42) zC dX4_kinds_33 (by decide) (by omega) (fun c33 => ?_) (fun c33 => ?_)
      · refine lv_aload_n zC.1 zC.2.1 dX4_kinds_42 rfl (lv_at hl 1 rfl) ?_
        refine gf_L_rows zC hG wl_X4_11 dX4_kinds_43 ?_
        refine lv_iload_n zC.1 zC.2.1 dX4_kinds_46 rfl (lv_at hl 3 rfl) ?_
        refine gr_Rs zC hG (by omega) dX4_kinds_47 ?_
        refine zr_callS zC hG (c_X4_areLetters (σ := σ) (i := r) (by first | assumption | omega) (show -1 ≤ σ 2 r 1 ∧ σ 2 r 1 ≤ 40 by omega) (show 0 ≤ σ 2 r 1 by omega) (show σ 2 r 1 % 2 = 0 by omega) (fun j h1 h2 => hI.2.2.2.1 r j (by omega) (by omega) h1 h2)) mt_X4_areLetters wl_X4_255 ⟨by decide, by decide⟩ rfl hl.1 rfl (Nat.le_of_ble_eq_true rfl) dX4_kinds_48 ⟨Nat.zero_le _, Nat.zero_le _⟩ (fun H locs hG => ?_)
        refine W.eq (g2 := F0 zm 51 ls [.int (zI (zB (ctI (fun q => ¬ lOK σ r q) 0 ((σ 2 r 1) / 2).toNat = 0)))]) rfl ?_
        refine zr_ifneB (tgt := 60) zC dX4_kinds_51 (by decide) (fun c51 => ?_) (fun c51 => ?_)
        · obtain ⟨kca, kcb, kcc, kcd⟩ := hI.2.2.2.2.2.2.1 c (by omega) (by omega)
          refine zr_iconst zC dX4_kinds_60 ?_
          refine lv_istore (lv' := [(4, .int (zI 0)), (3, .int (zI (rfR σ r))), (0, .ref (aL Γ)), (1, .int (zI c)), (2, .int (zI r))]) zC.1 zC.2.1 dX4_kinds_61 hl (by decide) rfl (fun ls hl => ?_)
          refine lv_aload_n zC.1 zC.2.1 dX4_kinds_63 rfl (lv_at hl 2 rfl) ?_
          refine gf_L_trial zC hG wl_X4_34 dX4_kinds_64 ?_
          refine lv_aload_n zC.1 zC.2.1 dX4_kinds_67 rfl (lv_at hl 2 rfl) ?_
          refine gf_L_towns zC hG wl_X4_23 dX4_kinds_68 ?_
          refine lv_iload_n zC.1 zC.2.1 dX4_kinds_71 rfl (lv_at hl 3 rfl) ?_
          refine gr_To zC hG (by omega) dX4_kinds_72 ?_
          have k73 := hI.2.2.2.2.2.2.1 c (by omega) (by omega)
          obtain ⟨k73a, k73b, k73c, k73d⟩ := id k73
          refine zr_callV zC hG (c_X0_becomeLike (σ := σ) (i := 5) (j := c) (by first | assumption | omega) (by first | assumption | omega)) mt_X0_becomeLike wl_X4_238 (pCal (by first | assumption | omega)) rfl rfl ⟨by decide, by decide⟩ rfl hl.1 rfl (Nat.le_of_ble_eq_true rfl) dX4_kinds_73 ⟨Nat.zero_le _, Nat.zero_le _⟩ (fun H locs hG => ?_)
          refine W.eq (g2 := F0 zm 76 ls []) rfl ?_
          have hG := (show up (up (up (up σ 6 5 0 (σ 6 c 0)) 6 5 1 (σ 6 c 1)) 6 5 2 (σ 6 c 2)) 6 5 3 (σ 6 c 3) = mTr σ (σ 6 c 0) (σ 6 c 1) (σ 6 c 2) (σ 6 c 3) from mTr_0 _ _ _ _ _) ▸ hG
          refine zr_iconst zC dX4_kinds_76 ?_
          refine lv_istore (lv' := [(5, .int (zI 0)), (4, .int (zI 0)), (3, .int (zI (rfR σ r))), (0, .ref (aL Γ)), (1, .int (zI c)), (2, .int (zI r))]) zC.1 zC.2.1 dX4_kinds_77 hl (by decide) rfl (fun ls hl => ?_)
          have loop79 : ∀ (nf : Nat) (u x : Int) (H : Heap) (locs : List Loc) (ls : Array Slot), (0 ≤ x ∧ x ≤ 6) → (u = bts (fun z => kdP σ c r z) x.toNat) → (6 - x < (nf : Int)) → GM Γ A (mTr σ (kdO σ c x) (σ 6 c 1) (σ 6 c 2) (σ 6 c 3)) zs H locs → lv_has ls 6 [(0, .ref (aL Γ)), (1, .int (zI c)), (2, .int (zI r)), (4, .int (zI u)), (5, .int (zI x))] → W zp zl ze { frames := 5, cells := 0, slots := 0, locals := 108 } zs zm args below meth zc H locs 0 0 zQ (F0 zm 79 ls []) := by
            intro nf
            induction nf with
            | zero =>
              intro u x H locs ls hx hu hm79 _ _
              exact absurd hm79 (by omega)
            | succ nf ih79 =>
              intro u x H locs ls hx hu hm79 hG hl
              have b79 := bts_r (fun z => kdP σ c r z) x.toNat
              rw [← hu] at b79
              refine lv_iload zC.1 zC.2.1 dX4_kinds_79 (lv_at hl 4 rfl) ?_
              refine zr_bipush zC dX4_kinds_81 (by decide +kernel) ?_
              refine zr_icmp_ge (tgt := 126) zC dX4_kinds_83 (by decide) (by omega) (fun c83 => ?_) (fun c83 => ?_)
              · refine lv_iload zC.1 zC.2.1 dX4_kinds_126 (lv_at hl 3 rfl) ?_
                exact zr_iret zC zK hG dX4_kinds_128 (by unfold rC_kinds; rw [if_neg (fun z => z c5), if_neg (fun z => z c17), if_neg (fun z => z c33), if_pos c51, hu, show x = 6 by omega]; rfl) (by unfold mC_kinds; rw [if_neg (fun z => z c5), if_neg (fun z => z c17), if_neg (fun z => z c33), if_pos c51, show x = 6 by omega]; rfl)
              · refine lv_aload_n zC.1 zC.2.1 dX4_kinds_86 rfl (lv_at hl 0 rfl) ?_
                refine gf_L_trial zC hG wl_X4_34 dX4_kinds_87 ?_
                refine lv_iload zC.1 zC.2.1 dX4_kinds_90 (lv_at hl 4 rfl) ?_
                refine pf_Cal_kind zC hG (by first | assumption | omega) wl_X4_258 dX4_kinds_92 (fun H locs hG => ?_)
                have hG := (show up (mTr σ (kdO σ c x) (σ 6 c 1) (σ 6 c 2) (σ 6 c 3)) 6 5 0 x = mTr σ x (σ 6 c 1) (σ 6 c 2) (σ 6 c 3) from mTr_k _ _ _ _ _ _) ▸ hG
                refine lv_aload_n zC.1 zC.2.1 dX4_kinds_95 rfl (lv_at hl 0 rfl) ?_
                refine gf_L_trial zC hG wl_X4_34 dX4_kinds_96 ?_
                refine lv_aload_n zC.1 zC.2.1 dX4_kinds_99 rfl (lv_at hl 0 rfl) ?_
                refine gf_L_rows zC hG wl_X4_11 dX4_kinds_100 ?_
                refine lv_iload_n zC.1 zC.2.1 dX4_kinds_103 rfl (lv_at hl 2 rfl) ?_
                refine gr_Rs zC hG (by omega) dX4_kinds_104 ?_
                refine zr_callS zC hG (c_X4_writesAll (σ := mTr σ x (σ 6 c 1) (σ 6 c 2) (σ 6 c 3)) (j := 5) (i := r) (by omega) (CalOK_tr (by omega) kcb kcc kcd) (by first | assumption | omega) (show -1 ≤ σ 2 r 1 ∧ σ 2 r 1 ≤ 40 by omega) (show 0 ≤ σ 2 r 1 by omega) (show σ 2 r 1 % 2 = 0 by omega) (fun j h1 h2 => hI.2.2.2.1 r j (by omega) (by omega) h1 h2) (fun q a1 a2 => Classical.byContradiction (fun z => ctI_all c51 q a1 (by have a3 : q < σ 2 r 1 / 2 := a2; omega) z))) mt_X4_writesAll wl_X4_261 ⟨by decide, by decide⟩ rfl hl.1 rfl (Nat.le_of_ble_eq_true rfl) dX4_kinds_105 ⟨Nat.zero_le _, Nat.zero_le _⟩ (fun H locs hG => ?_)
                refine W.eq (g2 := F0 zm 108 ls [.int (zI (zB (ctI (wrP (mTr σ x (σ 6 c 1) (σ 6 c 2) (σ 6 c 3)) r ((mTr σ x (σ 6 c 1) (σ 6 c 2) (σ 6 c 3)) 6 5 0) ((mTr σ x (σ 6 c 1) (σ 6 c 2) (σ 6 c 3)) 6 5 1) ((mTr σ x (σ 6 c 1) (σ 6 c 2) (σ 6 c 3)) 6 5 2) ((mTr σ x (σ 6 c 1) (σ 6 c 2) (σ 6 c 3)) 6 5 3)) 0 ((σ 2 r 1) / 2).toNat = 0)))]) rfl ?_
                refine zr_ifeqB (tgt := 120) zC dX4_kinds_108 (by decide) (fun c108 => ?_) (fun c108 => ?_)
                · have c108 : ¬ kdP σ c r x := c108
                  refine zr_iinc (lv' := [(5, .int (zI (x + 1))), (0, .ref (aL Γ)), (1, .int (zI c)), (2, .int (zI r)), (4, .int (zI u))]) zC dX4_kinds_120 hl (k := 4) rfl (by decide) rfl (fun ls hl => ?_)
                  refine lv_goto (tgt := 79) zC.1 zC.2.1 dX4_kinds_123 (by decide) ?_
                  exact ih79 u (x + 1) H locs ls (by first | assumption | omega) (by rw [bts_s hx.1, ← hu]; first | rw [if_pos c108] | (rw [if_neg c108]; omega)) (by omega) ((show mTr σ x (σ 6 c 1) (σ 6 c 2) (σ 6 c 3) = mTr σ (kdO σ c (x + 1)) (σ 6 c 1) (σ 6 c 2) (σ 6 c 3) from (by rw [show kdO σ c (x + 1) = x from (by unfold kdO; rw [if_neg (by omega)]; omega)])) ▸ hG) (lv_sub hl [1, 2, 3, 4, 0] rfl)
                · have c108 : kdP σ c r x := c108
                  refine lv_iload zC.1 zC.2.1 dX4_kinds_111 (lv_at hl 3 rfl) ?_
                  refine zr_iconst zC dX4_kinds_113 ?_
                  refine lv_iload zC.1 zC.2.1 dX4_kinds_114 (lv_at hl 4 rfl) ?_
                  refine zr_shl1 zC dX4_kinds_116 (by omega) ?_
                  refine zr_ior zC dX4_kinds_117 b79 (by omega) ?_
                  refine lv_istore (lv' := [(4, .int (zI (u + 2 ^ x.toNat))), (0, .ref (aL Γ)), (1, .int (zI c)), (2, .int (zI r)), (5, .int (zI x))]) zC.1 zC.2.1 dX4_kinds_118 hl (by decide) rfl (fun ls hl => ?_)
                  refine zr_iinc (lv' := [(5, .int (zI (x + 1))), (4, .int (zI (u + 2 ^ x.toNat))), (0, .ref (aL Γ)), (1, .int (zI c)), (2, .int (zI r))]) zC dX4_kinds_120 hl (k := 4) rfl (by decide) rfl (fun ls hl => ?_)
                  refine lv_goto (tgt := 79) zC.1 zC.2.1 dX4_kinds_123 (by decide) ?_
                  exact ih79 (u + 2 ^ x.toNat) (x + 1) H locs ls (by first | assumption | omega) (by rw [bts_s hx.1, ← hu]; first | rw [if_pos c108] | (rw [if_neg c108]; omega)) (by omega) ((show mTr σ x (σ 6 c 1) (σ 6 c 2) (σ 6 c 3) = mTr σ (kdO σ c (x + 1)) (σ 6 c 1) (σ 6 c 2) (σ 6 c 3) from (by rw [show kdO σ c (x + 1) = x from (by unfold kdO; rw [if_neg (by omega)]; omega)])) ▸ hG) (lv_sub hl [2, 3, 4, 1, 0] rfl)
          exact loop79 ((6 - 0 : Int).toNat + 1) 0 0 H locs ls (by first | assumption | omega) rfl (by omega) ((show mTr σ (σ 6 c 0) (σ 6 c 1) (σ 6 c 2) (σ 6 c 3) = mTr σ (kdO σ c 0) (σ 6 c 1) (σ 6 c 2) (σ 6 c 3) from (by unfold kdO; rw [if_pos rfl])) ▸ hG) (lv_sub hl [3, 4, 5, 1, 0] rfl)
        · refine lv_aload_n zC.1 zC.2.1 dX4_kinds_54 rfl (lv_at hl 1 rfl) ?_
          refine zr_iconst zC dX4_kinds_55 ?_
          refine zr_callV zC hG (c_X4_found (σ := σ) (f := 3) hI (by first | assumption | omega)) mt_X4_found wl_X4_69 pL rfl rfl ⟨by decide, by decide⟩ rfl hl.1 rfl (Nat.le_of_ble_eq_true rfl) dX4_kinds_56 ⟨Nat.zero_le _, Nat.zero_le _⟩ (fun H locs hG => ?_)
          refine W.eq (g2 := F0 zm 59 ls [.int (zI (-3))]) rfl ?_
          exact zr_iret zC zK hG dX4_kinds_59 (by unfold rC_kinds; rw [if_neg (fun z => z c5), if_neg (fun z => z c17), if_neg (fun z => z c33), if_neg c51]) (by unfold mC_kinds; rw [if_neg (fun z => z c5), if_neg (fun z => z c17), if_neg (fun z => z c33), if_neg c51])
      · refine lv_aload_n zC.1 zC.2.1 dX4_kinds_36 rfl (lv_at hl 1 rfl) ?_
        refine zr_iconst zC dX4_kinds_37 ?_
        refine zr_callV zC hG (c_X4_found (σ := σ) (f := 5) hI (by first | assumption | omega)) mt_X4_found wl_X4_69 pL rfl rfl ⟨by decide, by decide⟩ rfl hl.1 rfl (Nat.le_of_ble_eq_true rfl) dX4_kinds_38 ⟨Nat.zero_le _, Nat.zero_le _⟩ (fun H locs hG => ?_)
        refine W.eq (g2 := F0 zm 41 ls [.int (zI (-3))]) rfl ?_
        exact zr_iret zC zK hG dX4_kinds_41 (by unfold rC_kinds; rw [if_neg (fun z => z c5), if_neg (fun z => z c17), if_pos c33]) (by unfold mC_kinds; rw [if_neg (fun z => z c5), if_neg (fun z => z c17), if_pos c33])
    · refine lv_iload_n zC.1 zC.2.1 dX4_kinds_20 rfl (lv_at hl 0 rfl) ?_
      exact zr_iret zC zK hG dX4_kinds_21 (by unfold rC_kinds; rw [if_neg (fun z => z c5), if_pos c17]) (by unfold mC_kinds; rw [if_neg (fun z => z c5), if_pos c17])
  · refine zr_iconst zC dX4_kinds_8 ?_
    exact zr_iret zC zK hG dX4_kinds_9 (by unfold rC_kinds; (repeat' split) <;> first | rfl | omega) (by unfold mC_kinds; (repeat' split) <;> first | rfl | (exfalso; omega))
