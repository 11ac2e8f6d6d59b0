set_option maxHeartbeats 4000000 in
set_option maxRecDepth 100000 in
theorem c_X4_left {Γ : Gm} {zl : Launch} {A : Nat → Prop} {σ : Mm} {c r : Int} (hI : IC σ) (hc : -2147483648 ≤ c ∧ c < 2147483648) (hr : -2147483648 ≤ r ∧ r < 2147483648) : Fn Γ zl A yX4_left cX4_left 7 (some .int) 3 65 [.ref (aL Γ), .int (zI c), .int (zI r)] σ (some (.int (zI (rC_left σ c r)))) (mC_left σ c r) := by
  refine Fn_of (by decide) (Nat.le_of_ble_eq_true rfl) ?_
  intro zp ze zs zm args below meth zc zQ H locs ls zC zK hG hl
  have hl : lv_has ls 7 [(0, .ref (aL Γ)), (1, .int (zI c)), (2, .int (zI r))] := hl
  obtain ⟨hmany, htoday, -⟩ := id hI
  refine lv_aload_n zC.1 zC.2.1 dX4_left_0 rfl (lv_at hl 0 rfl) ?_
  refine lv_iload_n zC.1 zC.2.1 dX4_left_1 rfl (lv_at hl 1 rfl) ?_
  refine zr_callV zC hG (c_X4_isTown (σ := σ) (c := c) hI (by first | assumption | omega)) mt_X4_isTown wl_X4_128 pL rfl rfl ⟨by decide, by decide⟩ rfl hl.1 rfl (Nat.le_of_ble_eq_true rfl) dX4_left_2 ⟨Nat.zero_le _, Nat.zero_le _⟩ (fun H locs hG => ?_)
  refine W.eq (g2 := F0 zm 5 ls [.int (zI (zB (isT σ c)))]) rfl ?_
  refine zr_ifeqB (tgt := 15) zC dX4_left_5 (by decide) (fun c5 => ?_) (fun c5 => ?_)
  · refine zr_iconst zC dX4_left_15 ?_
    exact zr_iret zC zK hG dX4_left_16 (by unfold rC_left; (repeat' split) <;> first | rfl | omega) (by unfold mC_left; (repeat' split) <;> first | rfl | (exfalso; omega))
  · refine lv_iload_n zC.1 zC.2.1 dX4_left_8 rfl (lv_at hl 2 rfl) ?_
    refine zr_callS zC hG (c_X4_isRow (σ := σ) (v := r) (by first | assumption | omega)) mt_X4_isRow wl_X4_65 ⟨by decide, by decide⟩ rfl hl.1 rfl (Nat.le_of_ble_eq_true rfl) dX4_left_9 ⟨Nat.zero_le _, Nat.zero_le _⟩ (fun H locs hG => ?_)
    refine W.eq (g2 := F0 zm 12 ls [.int (zI (zB (0 ≤ r ∧ r < 6)))]) rfl ?_
    refine zr_ifneB (tgt := 17) zC dX4_left_12 (by decide) (fun c12 => ?_) (fun c12 => ?_)
    · obtain ⟨kca, kcb, kcc, kcd⟩ := hI.2.2.2.2.2.2.1 c (by omega) (by omega)
      have ktc := tCut_r (σ 6 c 0)
      refine lv_aload_n zC.1 zC.2.1 dX4_left_17 rfl (lv_at hl 0 rfl) ?_
      refine gf_L_towns zC hG wl_X4_23 dX4_left_18 ?_
      refine lv_iload_n zC.1 zC.2.1 dX4_left_21 rfl (lv_at hl 1 rfl) ?_
      refine gr_To zC hG (by omega) dX4_left_22 ?_
      refine lv_astore_n (lv' := [(3, .ref (aCal Γ c)), (0, .ref (aL Γ)), (1, .int (zI c)), (2, .int (zI r))]) zC.1 zC.2.1 dX4_left_23 rfl hl (by decide) rfl (fun ls hl => ?_)
      refine lv_aload_n zC.1 zC.2.1 dX4_left_24 rfl (lv_at hl 1 rfl) ?_
      refine gf_L_rows zC hG wl_X4_11 dX4_left_25 ?_
      refine lv_iload_n zC.1 zC.2.1 dX4_left_28 rfl (lv_at hl 3 rfl) ?_
      refine gr_Rs zC hG (by omega) dX4_left_29 ?_
      refine zr_iconst zC dX4_left_30 ?_
      refine zr_callV zC hG (c_X2_renew (σ := σ) (i := r) (n := 0) (by first | assumption | omega)) mt_X2_renew wl_X4_73 (pRow (by first | assumption | omega)) rfl rfl ⟨by decide, by decide⟩ rfl hl.1 rfl (Nat.le_of_ble_eq_true rfl) dX4_left_31 ⟨Nat.zero_le _, Nat.zero_le _⟩ (fun H locs hG => ?_)
      refine W.eq (g2 := F0 zm 34 ls []) rfl ?_
      refine zr_iconst zC dX4_left_34 ?_
      refine lv_istore (lv' := [(4, .int (zI 1)), (3, .ref (aCal Γ c)), (0, .ref (aL Γ)), (1, .int (zI c)), (2, .int (zI r))]) zC.1 zC.2.1 dX4_left_35 hl (by decide) rfl (fun ls hl => ?_)
      refine lv_iload zC.1 zC.2.1 dX4_left_37 (lv_at hl 0 rfl) ?_
      refine lv_aload_n zC.1 zC.2.1 dX4_left_39 rfl (lv_at hl 1 rfl) ?_
      have k40 := hI.2.2.2.2.2.2.1 c (by omega) (by omega)
      obtain ⟨k40a, k40b, k40c, k40d⟩ := id k40
      refine zr_callV zC hG (c_X0_timesCut (σ := mFill (up σ 2 r 1 0) 3 r 40 0) (i := c) (by first | assumption | omega) k40) mt_X0_timesCut wl_X4_185 (pCal (by first | assumption | omega)) rfl rfl ⟨by decide, by decide⟩ rfl hl.1 rfl (Nat.le_of_ble_eq_true rfl) dX4_left_40 ⟨Nat.zero_le _, Nat.zero_le _⟩ (fun H locs hG => ?_)
      refine W.eq (g2 := F0 zm 43 ls [.int (zI (tCut (σ 6 c 0))), .int (zI 1)]) rfl ?_
      have b40_0 := tCut_r (σ 6 c 0)
      refine zr_icmp_gt (tgt := 96) zC dX4_left_43 (by decide) (by omega) (fun c43 => ?_) (fun c43 => ?_)
      · refine lv_aload_n zC.1 zC.2.1 dX4_left_96 rfl (lv_at hl 2 rfl) ?_
        refine gf_L_rows zC hG wl_X4_11 dX4_left_97 ?_
        refine lv_iload_n zC.1 zC.2.1 dX4_left_100 rfl (lv_at hl 4 rfl) ?_
        refine gr_Rs zC hG (by omega) dX4_left_101 ?_
        refine gf_Row_size (v := 0) zC hG (by first | assumption | omega) wl_X4_87 (by first | exact mRw_n _ _ _ _ | simp [mFill, up]) dX4_left_102 ?_
        have f102 := hI.2.2.1 r (by omega) (by omega)
        exact zr_iret zC zK hG dX4_left_105 (by unfold rC_left; rw [if_neg (by omega)]; first | (rw [show tCut (σ 6 c 0) = 0 by omega]; omega) | (rw [show tCut (σ 6 c 0) = 1 by omega]; omega) | (rw [show tCut (σ 6 c 0) = 2 by omega]; omega)) (by unfold mC_left; rw [if_neg (by omega)]; first | (rw [show tCut (σ 6 c 0) = 0 by omega, Int.zero_mul]; exact (mRw_0 _ _ _).symm) | rw [show tCut (σ 6 c 0) = 1 by omega, Int.one_mul, show σ 6 c 3 = q by omega] | rw [show tCut (σ 6 c 0) = 2 by omega, show 2 * σ 6 c 3 = σ 6 c 3 + q by omega])
      · refine lv_aload_n zC.1 zC.2.1 dX4_left_46 rfl (lv_at hl 1 rfl) ?_
        refine lv_iload zC.1 zC.2.1 dX4_left_47 (lv_at hl 0 rfl) ?_
        have k49 := hI.2.2.2.2.2.2.1 c (by omega) (by omega)
        obtain ⟨k49a, k49b, k49c, k49d⟩ := id k49
        refine zr_callV zC hG (c_X0_firstLeftOut (σ := mFill (up σ 2 r 1 0) 3 r 40 0) (i := c) (u := 1) (by first | assumption | omega) k49 (by first | assumption | omega)) mt_X0_firstLeftOut wl_X4_188 (pCal (by first | assumption | omega)) rfl rfl ⟨by decide, by decide⟩ rfl hl.1 rfl (Nat.le_of_ble_eq_true rfl) dX4_left_49 ⟨Nat.zero_le _, Nat.zero_le _⟩ (fun H locs hG => ?_)
        refine W.eq (g2 := F0 zm 52 ls [.int (zI (dcut (σ 6 c 2) 1 + (1 - 1) * (σ 6 c 3)))]) rfl ?_
        have b49_0 := (show (σ 6 c 2) ≤ dcut (σ 6 c 2) 1 ∧ dcut (σ 6 c 2) 1 ≤ (σ 6 c 2) + 1000 by unfold dcut; split <;> omega)
        refine lv_istore (lv' := [(5, .int (zI (dcut (σ 6 c 2) 1 + (1 - 1) * (σ 6 c 3)))), (4, .int (zI 1)), (3, .ref (aCal Γ c)), (0, .ref (aL Γ)), (1, .int (zI c)), (2, .int (zI r))]) zC.1 zC.2.1 dX4_left_52 hl (by decide) rfl (fun ls hl => ?_)
        refine zr_iconst zC dX4_left_54 ?_
        refine lv_istore (lv' := [(6, .int (zI 0)), (5, .int (zI (dcut (σ 6 c 2) 1 + (1 - 1) * (σ 6 c 3)))), (4, .int (zI 1)), (3, .ref (aCal Γ c)), (0, .ref (aL Γ)), (1, .int (zI c)), (2, .int (zI r))]) zC.1 zC.2.1 dX4_left_55 hl (by decide) rfl (fun ls hl => ?_)
        have loop57u1 : ∀ (nf : Nat) (q : Int) (H : Heap) (locs : List Loc) (ls : Array Slot), (0 ≤ q ∧ q ≤ σ 6 c 3) → (9 - q < (nf : Int)) → GM Γ A (mRw σ r q (fun j => dtC (σ 6 c 0) (σ 6 c 1) (σ 6 c 2 + j + (if j < σ 6 c 3 then 0 else 1000)))) zs H locs → lv_has ls 7 [(0, .ref (aL Γ)), (1, .int (zI c)), (2, .int (zI r)), (3, .ref (aCal Γ c)), (4, .int (zI 1)), (5, .int (zI (dcut (σ 6 c 2) 1 + (1 - 1) * (σ 6 c 3)))), (6, .int (zI q))] → W zp zl ze { frames := 3, cells := 0, slots := 0, locals := 65 } zs zm args below meth zc H locs 0 0 zQ (F0 zm 57 ls []) := by
          intro nf
          induction nf with
          | zero =>
            intro q H locs ls hq hm57 _ _
            exact absurd hm57 (by omega)
          | succ nf ih57u1 =>
            intro q H locs ls hq hm57 hG hl
            refine lv_iload zC.1 zC.2.1 dX4_left_57 (lv_at hl 6 rfl) ?_
            refine lv_aload_n zC.1 zC.2.1 dX4_left_59 rfl (lv_at hl 3 rfl) ?_
            refine gf_Cal_gap (v := σ 6 c 3) zC hG (by first | assumption | omega) wl_X4_147 (by first | rfl | simp [up]) dX4_left_60 ?_
            obtain ⟨f60a, f60b, f60c, f60d⟩ := hI.2.2.2.2.2.2.1 c (by omega) (by omega)
            refine zr_icmp_ge (tgt := 90) zC dX4_left_63 (by decide) (by omega) (fun c63 => ?_) (fun c63 => ?_)
            · refine zr_iinc (lv' := [(4, .int (zI 2)), (0, .ref (aL Γ)), (1, .int (zI c)), (2, .int (zI r)), (3, .ref (aCal Γ c)), (5, .int (zI (dcut (σ 6 c 2) 1 + (1 - 1) * (σ 6 c 3)))), (6, .int (zI q))]) zC dX4_left_90 hl (k := 4) rfl (by decide) rfl (fun ls hl => ?_)
              refine lv_goto (tgt := 37) zC.1 zC.2.1 dX4_left_93 (by decide) ?_
              refine lv_iload zC.1 zC.2.1 dX4_left_37 (lv_at hl 0 rfl) ?_
              refine lv_aload_n zC.1 zC.2.1 dX4_left_39 rfl (lv_at hl 4 rfl) ?_
              have k40 := hI.2.2.2.2.2.2.1 c (by omega) (by omega)
              obtain ⟨k40a, k40b, k40c, k40d⟩ := id k40
              refine zr_callV zC hG (c_X0_timesCut (σ := mRw σ r q (fun j => dtC (σ 6 c 0) (σ 6 c 1) (σ 6 c 2 + j + (if j < σ 6 c 3 then 0 else 1000)))) (i := c) (by first | assumption | omega) k40) mt_X0_timesCut wl_X4_185 (pCal (by first | assumption | omega)) rfl rfl ⟨by decide, by decide⟩ rfl hl.1 rfl (Nat.le_of_ble_eq_true rfl) dX4_left_40 ⟨Nat.zero_le _, Nat.zero_le _⟩ (fun H locs hG => ?_)
              refine W.eq (g2 := F0 zm 43 ls [.int (zI (tCut (σ 6 c 0))), .int (zI 2)]) rfl ?_
              have b40_0 := tCut_r (σ 6 c 0)
              refine zr_icmp_gt (tgt := 96) zC dX4_left_43 (by decide) (by omega) (fun c43 => ?_) (fun c43 => ?_)
              · refine lv_aload_n zC.1 zC.2.1 dX4_left_96 rfl (lv_at hl 1 rfl) ?_
                refine gf_L_rows zC hG wl_X4_11 dX4_left_97 ?_
                refine lv_iload_n zC.1 zC.2.1 dX4_left_100 rfl (lv_at hl 3 rfl) ?_
                refine gr_Rs zC hG (by omega) dX4_left_101 ?_
                refine gf_Row_size (v := q) zC hG (by first | assumption | omega) wl_X4_87 (by first | exact mRw_n _ _ _ _ | simp [mFill, up]) dX4_left_102 ?_
                have f102 := hI.2.2.1 r (by omega) (by omega)
                exact zr_iret zC zK hG dX4_left_105 (by unfold rC_left; rw [if_neg (by omega)]; first | (rw [show tCut (σ 6 c 0) = 0 by omega]; omega) | (rw [show tCut (σ 6 c 0) = 1 by omega]; omega) | (rw [show tCut (σ 6 c 0) = 2 by omega]; omega)) (by unfold mC_left; rw [if_neg (by omega)]; first | (rw [show tCut (σ 6 c 0) = 0 by omega, Int.zero_mul]; exact (mRw_0 _ _ _).symm) | rw [show tCut (σ 6 c 0) = 1 by omega, Int.one_mul, show σ 6 c 3 = q by omega] | rw [show tCut (σ 6 c 0) = 2 by omega, show 2 * σ 6 c 3 = σ 6 c 3 + q by omega])
              · refine lv_aload_n zC.1 zC.2.1 dX4_left_46 rfl (lv_at hl 4 rfl) ?_
                refine lv_iload zC.1 zC.2.1 dX4_left_47 (lv_at hl 0 rfl) ?_
                have k49 := hI.2.2.2.2.2.2.1 c (by omega) (by omega)
                obtain ⟨k49a, k49b, k49c, k49d⟩ := id k49
                refine zr_callV zC hG (c_X0_firstLeftOut (σ := mRw σ r q (fun j => dtC (σ 6 c 0) (σ 6 c 1) (σ 6 c 2 + j + (if j < σ 6 c 3 then 0 else 1000)))) (i := c) (u := 2) (by first | assumption | omega) k49 (by first | assumption | omega)) mt_X0_firstLeftOut wl_X4_188 (pCal (by first | assumption | omega)) rfl rfl ⟨by decide, by decide⟩ rfl hl.1 rfl (Nat.le_of_ble_eq_true rfl) dX4_left_49 ⟨Nat.zero_le _, Nat.zero_le _⟩ (fun H locs hG => ?_)
                refine W.eq (g2 := F0 zm 52 ls [.int (zI (dcut (σ 6 c 2) 2 + (2 - 1) * (σ 6 c 3)))]) rfl ?_
                have b49_0 := (show (σ 6 c 2) ≤ dcut (σ 6 c 2) 2 ∧ dcut (σ 6 c 2) 2 ≤ (σ 6 c 2) + 1000 by unfold dcut; split <;> omega)
                refine lv_istore (lv' := [(5, .int (zI (dcut (σ 6 c 2) 2 + (2 - 1) * (σ 6 c 3)))), (4, .int (zI 2)), (0, .ref (aL Γ)), (1, .int (zI c)), (2, .int (zI r)), (3, .ref (aCal Γ c)), (6, .int (zI q))]) zC.1 zC.2.1 dX4_left_52 hl (by decide) rfl (fun ls hl => ?_)
                refine zr_iconst zC dX4_left_54 ?_
                refine lv_istore (lv' := [(6, .int (zI 0)), (5, .int (zI (dcut (σ 6 c 2) 2 + (2 - 1) * (σ 6 c 3)))), (4, .int (zI 2)), (0, .ref (aL Γ)), (1, .int (zI c)), (2, .int (zI r)), (3, .ref (aCal Γ c))]) zC.1 zC.2.1 dX4_left_55 hl (by decide) rfl (fun ls hl => ?_)
                have loop57u2 : ∀ (nf : Nat) (q : Int) (H : Heap) (locs : List Loc) (ls : Array Slot), (0 ≤ q ∧ q ≤ σ 6 c 3) → (9 - q < (nf : Int)) → GM Γ A (mRw σ r (σ 6 c 3 + q) (fun j => dtC (σ 6 c 0) (σ 6 c 1) (σ 6 c 2 + j + (if j < σ 6 c 3 then 0 else 1000)))) zs H locs → lv_has ls 7 [(0, .ref (aL Γ)), (1, .int (zI c)), (2, .int (zI r)), (3, .ref (aCal Γ c)), (4, .int (zI 2)), (5, .int (zI (dcut (σ 6 c 2) 2 + (2 - 1) * (σ 6 c 3)))), (6, .int (zI q))] → W zp zl ze { frames := 3, cells := 0, slots := 0, locals := 65 } zs zm args below meth zc H locs 0 0 zQ (F0 zm 57 ls []) := by
                  intro nf
                  induction nf with
                  | zero =>
                    intro q H locs ls hq hm57 _ _
                    exact absurd hm57 (by omega)
                  | succ nf ih57u2 =>
                    intro q H locs ls hq hm57 hG hl
                    refine lv_iload zC.1 zC.2.1 dX4_left_57 (lv_at hl 6 rfl) ?_
                    refine lv_aload_n zC.1 zC.2.1 dX4_left_59 rfl (lv_at hl 3 rfl) ?_
                    refine gf_Cal_gap (v := σ 6 c 3) zC hG (by first | assumption | omega) wl_X4_147 (by first | rfl | simp [up]) dX4_left_60 ?_
                    obtain ⟨f60a, f60b, f60c, f60d⟩ := hI.2.2.2.2.2.2.1 c (by omega) (by omega)
                    refine zr_icmp_ge (tgt := 90) zC dX4_left_63 (by decide) (by omega) (fun c63 => ?_) (fun c63 => ?_)
                    · refine zr_iinc (lv' := [(4, .int (zI 3)), (0, .ref (aL Γ)), (1, .int (zI c)), (2, .int (zI r)), (3, .ref (aCal Γ c)), (5, .int (zI (dcut (σ 6 c 2) 2 + (2 - 1) * (σ 6 c 3)))), (6, .int (zI q))]) zC dX4_left_90 hl (k := 4) rfl (by decide) rfl (fun ls hl => ?_)
                      refine lv_goto (tgt := 37) zC.1 zC.2.1 dX4_left_93 (by decide) ?_
                      refine lv_iload zC.1 zC.2.1 dX4_left_37 (lv_at hl 0 rfl) ?_
                      refine lv_aload_n zC.1 zC.2.1 dX4_left_39 rfl (lv_at hl 4 rfl) ?_
                      have k40 := hI.2.2.2.2.2.2.1 c (by omega) (by omega)
                      obtain ⟨k40a, k40b, k40c, k40d⟩ := id k40
                      refine zr_callV zC hG (c_X0_timesCut (σ := mRw σ r (σ 6 c 3 + q) (fun j => dtC (σ 6 c 0) (σ 6 c 1) (σ 6 c 2 + j + (if j < σ 6 c 3 then 0 else 1000)))) (i := c) (by first | assumption | omega) k40) mt_X0_timesCut wl_X4_185 (pCal (by first | assumption | omega)) rfl rfl ⟨by decide, by decide⟩ rfl hl.1 rfl (Nat.le_of_ble_eq_true rfl) dX4_left_40 ⟨Nat.zero_le _, Nat.zero_le _⟩ (fun H locs hG => ?_)
                      refine W.eq (g2 := F0 zm 43 ls [.int (zI (tCut (σ 6 c 0))), .int (zI 3)]) rfl ?_
                      have b40_0 := tCut_r (σ 6 c 0)
                      refine zr_icmp_gt (tgt := 96) zC dX4_left_43 (by decide) (by omega) (fun c43 => ?_) (fun c43 => ?_)
                      · refine lv_aload_n zC.1 zC.2.1 dX4_left_96 rfl (lv_at hl 1 rfl) ?_
                        refine gf_L_rows zC hG wl_X4_11 dX4_left_97 ?_
                        refine lv_iload_n zC.1 zC.2.1 dX4_left_100 rfl (lv_at hl 3 rfl) ?_
                        refine gr_Rs zC hG (by omega) dX4_left_101 ?_
                        refine gf_Row_size (v := σ 6 c 3 + q) zC hG (by first | assumption | omega) wl_X4_87 (by first | exact mRw_n _ _ _ _ | simp [mFill, up]) dX4_left_102 ?_
                        have f102 := hI.2.2.1 r (by omega) (by omega)
                        exact zr_iret zC zK hG dX4_left_105 (by unfold rC_left; rw [if_neg (by omega)]; first | (rw [show tCut (σ 6 c 0) = 0 by omega]; omega) | (rw [show tCut (σ 6 c 0) = 1 by omega]; omega) | (rw [show tCut (σ 6 c 0) = 2 by omega]; omega)) (by unfold mC_left; rw [if_neg (by omega)]; first | (rw [show tCut (σ 6 c 0) = 0 by omega, Int.zero_mul]; exact (mRw_0 _ _ _).symm) | rw [show tCut (σ 6 c 0) = 1 by omega, Int.one_mul, show σ 6 c 3 = q by omega] | rw [show tCut (σ 6 c 0) = 2 by omega, show 2 * σ 6 c 3 = σ 6 c 3 + q by omega])
                      · exact absurd c43 (by omega)
                    · refine lv_aload_n zC.1 zC.2.1 dX4_left_66 rfl (lv_at hl 0 rfl) ?_
                      refine gf_L_rows zC hG wl_X4_11 dX4_left_67 ?_
                      refine lv_iload_n zC.1 zC.2.1 dX4_left_70 rfl (lv_at hl 2 rfl) ?_
                      refine gr_Rs zC hG (by omega) dX4_left_71 ?_
                      refine lv_aload_n zC.1 zC.2.1 dX4_left_72 rfl (lv_at hl 3 rfl) ?_
                      refine lv_iload zC.1 zC.2.1 dX4_left_73 (lv_at hl 5 rfl) ?_
                      refine lv_iload zC.1 zC.2.1 dX4_left_75 (lv_at hl 6 rfl) ?_
                      refine zr_iadd zC dX4_left_77 ?_
                      have k78 := hI.2.2.2.2.2.2.1 c (by omega) (by omega)
                      obtain ⟨k78a, k78b, k78c, k78d⟩ := id k78
                      refine zr_callV zC hG (c_X0_dateOfCount (σ := mRw σ r (σ 6 c 3 + q) (fun j => dtC (σ 6 c 0) (σ 6 c 1) (σ 6 c 2 + j + (if j < σ 6 c 3 then 0 else 1000)))) (i := c) (n := (dcut (σ 6 c 2) 2 + (2 - 1) * (σ 6 c 3)) + q) (by first | assumption | omega) k78 (by first | assumption | omega)) mt_X0_dateOfCount wl_X4_191 (pCal (by first | assumption | omega)) rfl rfl ⟨by decide, by decide⟩ rfl hl.1 rfl (Nat.le_of_ble_eq_true rfl) dX4_left_78 ⟨Nat.zero_le _, Nat.zero_le _⟩ (fun H locs hG => ?_)
                      refine W.eq (g2 := F0 zm 81 ls [.int (zI (dtC (σ 6 c 0) (σ 6 c 1) ((dcut (σ 6 c 2) 2 + (2 - 1) * (σ 6 c 3)) + q))), .ref (aRow Γ r)]) rfl ?_
                      have b78_0 := dtC_r (k := (σ 6 c 0)) (lp := (σ 6 c 1)) (n := ((dcut (σ 6 c 2) 2 + (2 - 1) * (σ 6 c 3)) + q)) (by omega) (by omega)
                      refine zr_callV zC hG (c_X2_add (σ := mRw σ r (σ 6 c 3 + q) (fun j => dtC (σ 6 c 0) (σ 6 c 1) (σ 6 c 2 + j + (if j < σ 6 c 3 then 0 else 1000)))) (i := r) (v := dtC (σ 6 c 0) (σ 6 c 1) ((dcut (σ 6 c 2) 2 + (2 - 1) * (σ 6 c 3)) + q)) (by first | assumption | omega) (by rw [mRw_n]; omega) (by rw [mRw_n]; omega)) mt_X2_add wl_X4_194 (pRow (by first | assumption | omega)) rfl rfl ⟨by decide, by decide⟩ rfl hl.1 rfl (Nat.le_of_ble_eq_true rfl) dX4_left_81 ⟨Nat.zero_le _, Nat.zero_le _⟩ (fun H locs hG => ?_)
                      refine W.eq (g2 := F0 zm 84 ls []) rfl ?_
                      refine zr_iinc (lv' := [(6, .int (zI (q + 1))), (0, .ref (aL Γ)), (1, .int (zI c)), (2, .int (zI r)), (3, .ref (aCal Γ c)), (4, .int (zI 2)), (5, .int (zI (dcut (σ 6 c 2) 2 + (2 - 1) * (σ 6 c 3))))]) zC dX4_left_84 hl (k := 6) rfl (by decide) rfl (fun ls hl => ?_)
                      refine lv_goto (tgt := 57) zC.1 zC.2.1 dX4_left_87 (by decide) ?_
                      exact ih57u2 (q + 1) H locs ls (by first | assumption | omega) (by omega) ((show up (up (mRw σ r (σ 6 c 3 + q) (fun j => dtC (σ 6 c 0) (σ 6 c 1) (σ 6 c 2 + j + (if j < σ 6 c 3 then 0 else 1000)))) 3 r ((mRw σ r (σ 6 c 3 + q) (fun j => dtC (σ 6 c 0) (σ 6 c 1) (σ 6 c 2 + j + (if j < σ 6 c 3 then 0 else 1000)))) 2 r 1) (dtC (σ 6 c 0) (σ 6 c 1) ((dcut (σ 6 c 2) 2 + (2 - 1) * (σ 6 c 3)) + q))) 2 r 1 (((mRw σ r (σ 6 c 3 + q) (fun j => dtC (σ 6 c 0) (σ 6 c 1) (σ 6 c 2 + j + (if j < σ 6 c 3 then 0 else 1000)))) 2 r 1) + 1) = mRw σ r (σ 6 c 3 + (q + 1)) (fun j => dtC (σ 6 c 0) (σ 6 c 1) (σ 6 c 2 + j + (if j < σ 6 c 3 then 0 else 1000))) from (by rw [← Int.add_assoc]; exact mRw_s _ _ _ _ _ (by omega) (by (try dsimp only); rw [if_neg (by omega)]; unfold dcut; rw [if_neg (by decide)]; congr 1; omega))) ▸ hG) (lv_sub hl [1, 2, 3, 4, 5, 6, 0] rfl)
                exact loop57u2 ((9 - 0 : Int).toNat + 1) 0 H locs ls (by first | assumption | omega) (by omega) ((show mRw σ r q (fun j => dtC (σ 6 c 0) (σ 6 c 1) (σ 6 c 2 + j + (if j < σ 6 c 3 then 0 else 1000))) = mRw σ r (σ 6 c 3 + 0) (fun j => dtC (σ 6 c 0) (σ 6 c 1) (σ 6 c 2 + j + (if j < σ 6 c 3 then 0 else 1000))) from (by rw [show σ 6 c 3 + 0 = q by omega])) ▸ hG) (lv_sub hl [3, 4, 5, 6, 2, 1, 0] rfl)
            · refine lv_aload_n zC.1 zC.2.1 dX4_left_66 rfl (lv_at hl 0 rfl) ?_
              refine gf_L_rows zC hG wl_X4_11 dX4_left_67 ?_
              refine lv_iload_n zC.1 zC.2.1 dX4_left_70 rfl (lv_at hl 2 rfl) ?_
              refine gr_Rs zC hG (by omega) dX4_left_71 ?_
              refine lv_aload_n zC.1 zC.2.1 dX4_left_72 rfl (lv_at hl 3 rfl) ?_
              refine lv_iload zC.1 zC.2.1 dX4_left_73 (lv_at hl 5 rfl) ?_
              refine lv_iload zC.1 zC.2.1 dX4_left_75 (lv_at hl 6 rfl) ?_
              refine zr_iadd zC dX4_left_77 ?_
              have k78 := hI.2.2.2.2.2.2.1 c (by omega) (by omega)
              obtain ⟨k78a, k78b, k78c, k78d⟩ := id k78
              refine zr_callV zC hG (c_X0_dateOfCount (σ := mRw σ r q (fun j => dtC (σ 6 c 0) (σ 6 c 1) (σ 6 c 2 + j + (if j < σ 6 c 3 then 0 else 1000)))) (i := c) (n := (dcut (σ 6 c 2) 1 + (1 - 1) * (σ 6 c 3)) + q) (by first | assumption | omega) k78 (by first | assumption | omega)) mt_X0_dateOfCount wl_X4_191 (pCal (by first | assumption | omega)) rfl rfl ⟨by decide, by decide⟩ rfl hl.1 rfl (Nat.le_of_ble_eq_true rfl) dX4_left_78 ⟨Nat.zero_le _, Nat.zero_le _⟩ (fun H locs hG => ?_)
              refine W.eq (g2 := F0 zm 81 ls [.int (zI (dtC (σ 6 c 0) (σ 6 c 1) ((dcut (σ 6 c 2) 1 + (1 - 1) * (σ 6 c 3)) + q))), .ref (aRow Γ r)]) rfl ?_
              have b78_0 := dtC_r (k := (σ 6 c 0)) (lp := (σ 6 c 1)) (n := ((dcut (σ 6 c 2) 1 + (1 - 1) * (σ 6 c 3)) + q)) (by omega) (by omega)
              refine zr_callV zC hG (c_X2_add (σ := mRw σ r q (fun j => dtC (σ 6 c 0) (σ 6 c 1) (σ 6 c 2 + j + (if j < σ 6 c 3 then 0 else 1000)))) (i := r) (v := dtC (σ 6 c 0) (σ 6 c 1) ((dcut (σ 6 c 2) 1 + (1 - 1) * (σ 6 c 3)) + q)) (by first | assumption | omega) (by rw [mRw_n]; omega) (by rw [mRw_n]; omega)) mt_X2_add wl_X4_194 (pRow (by first | assumption | omega)) rfl rfl ⟨by decide, by decide⟩ rfl hl.1 rfl (Nat.le_of_ble_eq_true rfl) dX4_left_81 ⟨Nat.zero_le _, Nat.zero_le _⟩ (fun H locs hG => ?_)
              refine W.eq (g2 := F0 zm 84 ls []) rfl ?_
              refine zr_iinc (lv' := [(6, .int (zI (q + 1))), (0, .ref (aL Γ)), (1, .int (zI c)), (2, .int (zI r)), (3, .ref (aCal Γ c)), (4, .int (zI 1)), (5, .int (zI (dcut (σ 6 c 2) 1 + (1 - 1) * (σ 6 c 3))))]) zC dX4_left_84 hl (k := 6) rfl (by decide) rfl (fun ls hl => ?_)
              refine lv_goto (tgt := 57) zC.1 zC.2.1 dX4_left_87 (by decide) ?_
              exact ih57u1 (q + 1) H locs ls (by first | assumption | omega) (by omega) ((show up (up (mRw σ r q (fun j => dtC (σ 6 c 0) (σ 6 c 1) (σ 6 c 2 + j + (if j < σ 6 c 3 then 0 else 1000)))) 3 r ((mRw σ r q (fun j => dtC (σ 6 c 0) (σ 6 c 1) (σ 6 c 2 + j + (if j < σ 6 c 3 then 0 else 1000)))) 2 r 1) (dtC (σ 6 c 0) (σ 6 c 1) ((dcut (σ 6 c 2) 1 + (1 - 1) * (σ 6 c 3)) + q))) 2 r 1 (((mRw σ r q (fun j => dtC (σ 6 c 0) (σ 6 c 1) (σ 6 c 2 + j + (if j < σ 6 c 3 then 0 else 1000)))) 2 r 1) + 1) = mRw σ r (q + 1) (fun j => dtC (σ 6 c 0) (σ 6 c 1) (σ 6 c 2 + j + (if j < σ 6 c 3 then 0 else 1000))) from (mRw_s _ _ _ _ _ (by omega) (by (try dsimp only); rw [if_pos (by omega)]; unfold dcut; rw [if_pos rfl]; congr 1; omega))) ▸ hG) (lv_sub hl [1, 2, 3, 4, 5, 6, 0] rfl)
        exact loop57u1 ((9 - 0 : Int).toNat + 1) 0 H locs ls (by first | assumption | omega) (by omega) ((show mFill (up σ 2 r 1 0) 3 r 40 0 = mRw σ r 0 (fun j => dtC (σ 6 c 0) (σ 6 c 1) (σ 6 c 2 + j + (if j < σ 6 c 3 then 0 else 1000))) from (mRw_0 _ _ _)) ▸ hG) (lv_sub hl [4, 5, 6, 3, 2, 1, 0] rfl)
    · refine zr_iconst zC dX4_left_15 ?_
      exact zr_iret zC zK hG dX4_left_16 (by unfold rC_left; (repeat' split) <;> first | rfl | omega) (by unfold mC_left; (repeat' split) <;> first | rfl | (exfalso; omega))

set_option maxHeartbeats 4000000 in
set_option maxRecDepth 100000 in
theorem c_X4_dates {Γ : Gm} {zl : Launch} {A : Nat → Prop} {σ : Mm} {c a b r : Int} (hI : IC σ) (hc : -2147483648 ≤ c ∧ c < 2147483648) (ha : -2147483648 ≤ a ∧ a < 2147483648) (hb : -2147483648 ≤ b ∧ b < 2147483648) (hr : -2147483648 ≤ r ∧ r < 2147483648) : Fn Γ zl A yX4_dates cX4_dates 6 (some .int) 4 86 [.ref (aL Γ), .int (zI c), .int (zI a), .int (zI b), .int (zI r)] σ (some (.int (zI (rC_dates σ c a b r)))) (mC_dates σ c a b r) := by
  refine Fn_of (by decide) (Nat.le_of_ble_eq_true rfl) ?_
  intro zp ze zs zm args below meth zc zQ H locs ls zC zK hG hl
  have hl : lv_has ls 6 [(0, .ref (aL Γ)), (1, .int (zI c)), (2, .int (zI a)), (3, .int (zI b)), (4, .int (zI r))] := hl
  obtain ⟨hmany, htoday, -⟩ := id hI
  refine lv_aload_n zC.1 zC.2.1 dX4_dates_0 rfl (lv_at hl 0 rfl) ?_
  refine lv_iload_n zC.1 zC.2.1 dX4_dates_1 rfl (lv_at hl 1 rfl) ?_
  refine zr_callV zC hG (c_X4_isTown (σ := σ) (c := c) hI (by first | assumption | omega)) mt_X4_isTown wl_X4_128 pL rfl rfl ⟨by decide, by decide⟩ rfl hl.1 rfl (Nat.le_of_ble_eq_true rfl) dX4_dates_2 ⟨Nat.zero_le _, Nat.zero_le _⟩ (fun H locs hG => ?_)
  refine W.eq (g2 := F0 zm 5 ls [.int (zI (zB (isT σ c)))]) rfl ?_
  refine zr_ifeqB (tgt := 32) zC dX4_dates_5 (by decide) (fun c5 => ?_) (fun c5 => ?_)
  · refine zr_iconst zC dX4_dates_32 ?_
    exact zr_iret zC zK hG dX4_dates_33 (by unfold rC_dates; (repeat' split) <;> first | rfl | omega) (by unfold mC_dates; (repeat' split) <;> first | rfl | (exfalso; omega))
  · refine lv_iload_n zC.1 zC.2.1 dX4_dates_8 rfl (lv_at hl 2 rfl) ?_
    refine lv_iload_n zC.1 zC.2.1 dX4_dates_9 rfl (lv_at hl 3 rfl) ?_
    refine zr_callS zC hG (c_X4_isSpan (σ := σ) (a := a) (b := b) (by first | assumption | omega) (by first | assumption | omega)) mt_X4_isSpan wl_X4_197 ⟨by decide, by decide⟩ rfl hl.1 rfl (Nat.le_of_ble_eq_true rfl) dX4_dates_10 ⟨Nat.zero_le _, Nat.zero_le _⟩ (fun H locs hG => ?_)
    refine W.eq (g2 := F0 zm 13 ls [.int (zI (zB (0 ≤ a ∧ a ≤ b ∧ b ≤ 19999)))]) rfl ?_
    refine zr_ifeqB (tgt := 32) zC dX4_dates_13 (by decide) (fun c13 => ?_) (fun c13 => ?_)
    · refine zr_iconst zC dX4_dates_32 ?_
      exact zr_iret zC zK hG dX4_dates_33 (by unfold rC_dates; (repeat' split) <;> first | rfl | omega) (by unfold mC_dates; (repeat' split) <;> first | rfl | (exfalso; omega))
    · refine lv_iload_n zC.1 zC.2.1 dX4_dates_16 rfl (lv_at hl 3 rfl) ?_
      refine lv_iload_n zC.1 zC.2.1 dX4_dates_17 rfl (lv_at hl 2 rfl) ?_
      refine zr_isub zC dX4_dates_18 ?_
      refine zr_bipush zC dX4_dates_19 (by decide +kernel) ?_
      refine zr_icmp_ge (tgt := 32) zC dX4_dates_21 (by decide) (by omega) (fun c21 => ?_) (fun c21 => ?_)
      · refine zr_iconst zC dX4_dates_32 ?_
        exact zr_iret zC zK hG dX4_dates_33 (by unfold rC_dates; (repeat' split) <;> first | rfl | omega) (by unfold mC_dates; (repeat' split) <;> first | rfl | (exfalso; omega))
      · refine lv_iload zC.1 zC.2.1 dX4_dates_24 (lv_at hl 4 rfl) ?_
        refine zr_callS zC hG (c_X4_isRow (σ := σ) (v := r) (by first | assumption | omega)) mt_X4_isRow wl_X4_65 ⟨by decide, by decide⟩ rfl hl.1 rfl (Nat.le_of_ble_eq_true rfl) dX4_dates_26 ⟨Nat.zero_le _, Nat.zero_le _⟩ (fun H locs hG => ?_)
        refine W.eq (g2 := F0 zm 29 ls [.int (zI (zB (0 ≤ r ∧ r < 6)))]) rfl ?_
        refine zr_ifneB (tgt := 34) zC dX4_dates_29 (by decide) (fun c29 => ?_) (fun c29 => ?_)
        · refine lv_aload_n zC.1 zC.2.1 dX4_dates_34 rfl (lv_at hl 0 rfl) ?_
          refine gf_L_rows zC hG wl_X4_11 dX4_dates_35 ?_
          refine lv_iload zC.1 zC.2.1 dX4_dates_38 (lv_at hl 4 rfl) ?_
          refine gr_Rs zC hG (by omega) dX4_dates_40 ?_
          refine zr_iconst zC dX4_dates_41 ?_
          refine zr_callV zC hG (c_X2_renew (σ := σ) (i := r) (n := 0) (by first | assumption | omega)) mt_X2_renew wl_X4_73 (pRow (by first | assumption | omega)) rfl rfl ⟨by decide, by decide⟩ rfl hl.1 rfl (Nat.le_of_ble_eq_true rfl) dX4_dates_42 ⟨Nat.zero_le _, Nat.zero_le _⟩ (fun H locs hG => ?_)
          refine W.eq (g2 := F0 zm 45 ls []) rfl ?_
          refine lv_iload_n zC.1 zC.2.1 dX4_dates_45 rfl (lv_at hl 2 rfl) ?_
          refine lv_istore (lv' := [(5, .int (zI a)), (0, .ref (aL Γ)), (1, .int (zI c)), (2, .int (zI a)), (3, .int (zI b)), (4, .int (zI r))]) zC.1 zC.2.1 dX4_dates_46 hl (by decide) rfl (fun ls hl => ?_)
          have loop48 : ∀ (nf : Nat) (x : Int) (H : Heap) (locs : List Loc) (ls : Array Slot), (a ≤ x ∧ x ≤ b + 1) → (b + 1 - x < (nf : Int)) → GM Γ A (mRw σ r (x - a) (fun j => dtD (σ 6 c 0) (σ 6 c 1) (σ 6 c 2) (σ 6 c 3) (a + j))) zs H locs → lv_has ls 6 [(0, .ref (aL Γ)), (1, .int (zI c)), (2, .int (zI a)), (3, .int (zI b)), (4, .int (zI r)), (5, .int (zI x))] → W zp zl ze { frames := 4, cells := 0, slots := 0, locals := 86 } zs zm args below meth zc H locs 0 0 zQ (F0 zm 48 ls []) := by
            intro nf
            induction nf with
            | zero =>
              intro x H locs ls hx hm48 _ _
              exact absurd hm48 (by omega)
            | succ nf ih48 =>
              intro x H locs ls hx hm48 hG hl
              refine lv_iload zC.1 zC.2.1 dX4_dates_48 (lv_at hl 5 rfl) ?_
              refine lv_iload_n zC.1 zC.2.1 dX4_dates_50 rfl (lv_at hl 3 rfl) ?_
              refine zr_icmp_gt (tgt := 81) zC dX4_dates_51 (by decide) (by omega) (fun c51 => ?_) (fun c51 => ?_)
              · refine lv_aload_n zC.1 zC.2.1 dX4_dates_81 rfl (lv_at hl 0 rfl) ?_
                refine gf_L_rows zC hG wl_X4_11 dX4_dates_82 ?_
                refine lv_iload zC.1 zC.2.1 dX4_dates_85 (lv_at hl 4 rfl) ?_
                refine gr_Rs zC hG (by omega) dX4_dates_87 ?_
                refine gf_Row_size (v := x - a) zC hG (by first | assumption | omega) wl_X4_87 (mRw_n _ _ _ _) dX4_dates_88 ?_
                have f88 := hI.2.2.1 r (by omega) (by omega)
                exact zr_iret zC zK hG dX4_dates_91 (by unfold rC_dates; rw [if_neg (by omega)]; omega) (by unfold mC_dates; rw [if_neg (by omega), show x = b + 1 by omega])
              · refine lv_aload_n zC.1 zC.2.1 dX4_dates_54 rfl (lv_at hl 0 rfl) ?_
                refine gf_L_rows zC hG wl_X4_11 dX4_dates_55 ?_
                refine lv_iload zC.1 zC.2.1 dX4_dates_58 (lv_at hl 4 rfl) ?_
                refine gr_Rs zC hG (by omega) dX4_dates_60 ?_
                refine lv_aload_n zC.1 zC.2.1 dX4_dates_61 rfl (lv_at hl 0 rfl) ?_
                refine gf_L_towns zC hG wl_X4_23 dX4_dates_62 ?_
                refine lv_iload_n zC.1 zC.2.1 dX4_dates_65 rfl (lv_at hl 1 rfl) ?_
                refine gr_To zC hG (by omega) dX4_dates_66 ?_
                refine lv_iload zC.1 zC.2.1 dX4_dates_67 (lv_at hl 5 rfl) ?_
                have k69 := hI.2.2.2.2.2.2.1 c (by omega) (by omega)
                obtain ⟨k69a, k69b, k69c, k69d⟩ := id k69
                refine zr_callV zC hG (c_X0_dateOn (σ := mRw σ r (x - a) (fun j => dtD (σ 6 c 0) (σ 6 c 1) (σ 6 c 2) (σ 6 c 3) (a + j))) (i := c) (d := x) (by first | assumption | omega) k69 (by first | assumption | omega)) mt_X0_dateOn wl_X4_171 (pCal (by first | assumption | omega)) rfl rfl ⟨by decide, by decide⟩ rfl hl.1 rfl (Nat.le_of_ble_eq_true rfl) dX4_dates_69 ⟨Nat.zero_le _, Nat.zero_le _⟩ (fun H locs hG => ?_)
                refine W.eq (g2 := F0 zm 72 ls [.int (zI (dtD (σ 6 c 0) (σ 6 c 1) (σ 6 c 2) (σ 6 c 3) x)), .ref (aRow Γ r)]) rfl ?_
                have b69_0 := dtD_r (k := (σ 6 c 0)) (lp := (σ 6 c 1)) (o := (σ 6 c 2)) (g := (σ 6 c 3)) (d := x) (by omega) (by omega) (by omega)
                refine zr_callV zC hG (c_X2_add (σ := mRw σ r (x - a) (fun j => dtD (σ 6 c 0) (σ 6 c 1) (σ 6 c 2) (σ 6 c 3) (a + j))) (i := r) (v := dtD (σ 6 c 0) (σ 6 c 1) (σ 6 c 2) (σ 6 c 3) x) (by first | assumption | omega) (by rw [mRw_n]; omega) (by rw [mRw_n]; omega)) mt_X2_add wl_X4_194 (pRow (by first | assumption | omega)) rfl rfl ⟨by decide, by decide⟩ rfl hl.1 rfl (Nat.le_of_ble_eq_true rfl) dX4_dates_72 ⟨Nat.zero_le _, Nat.zero_le _⟩ (fun H locs hG => ?_)
                refine W.eq (g2 := F0 zm 75 ls []) rfl ?_
                refine zr_iinc (lv' := [(5, .int (zI (x + 1))), (0, .ref (aL Γ)), (1, .int (zI c)), (2, .int (zI a)), (3, .int (zI b)), (4, .int (zI r))]) zC dX4_dates_75 hl (k := 5) rfl (by decide) rfl (fun ls hl => ?_)
                refine lv_goto (tgt := 48) zC.1 zC.2.1 dX4_dates_78 (by decide) ?_
                exact ih48 (x + 1) H locs ls (by first | assumption | omega) (by omega) ((show up (up (mRw σ r (x - a) (fun j => dtD (σ 6 c 0) (σ 6 c 1) (σ 6 c 2) (σ 6 c 3) (a + j))) 3 r ((mRw σ r (x - a) (fun j => dtD (σ 6 c 0) (σ 6 c 1) (σ 6 c 2) (σ 6 c 3) (a + j))) 2 r 1) (dtD (σ 6 c 0) (σ 6 c 1) (σ 6 c 2) (σ 6 c 3) x)) 2 r 1 (((mRw σ r (x - a) (fun j => dtD (σ 6 c 0) (σ 6 c 1) (σ 6 c 2) (σ 6 c 3) (a + j))) 2 r 1) + 1) = mRw σ r ((x + 1) - a) (fun j => dtD (σ 6 c 0) (σ 6 c 1) (σ 6 c 2) (σ 6 c 3) (a + j)) from (by rw [show x + 1 - a = x - a + 1 by omega]; exact mRw_s _ _ _ _ _ (by omega) (by (try dsimp only); congr 1; omega))) ▸ hG) (lv_sub hl [1, 2, 3, 4, 5, 0] rfl)
          exact loop48 ((b + 1 - a : Int).toNat + 1) a H locs ls (by first | assumption | omega) (by omega) ((show mFill (up σ 2 r 1 0) 3 r 40 0 = mRw σ r (a - a) (fun j => dtD (σ 6 c 0) (σ 6 c 1) (σ 6 c 2) (σ 6 c 3) (a + j)) from (by rw [show a - a = 0 by omega]; exact mRw_0 _ _ _)) ▸ hG) (lv_sub hl [1, 2, 3, 4, 5, 0] rfl)
        · refine zr_iconst zC dX4_dates_32 ?_
          exact zr_iret zC zK hG dX4_dates_33 (by unfold rC_dates; (repeat' split) <;> first | rfl | omega) (by unfold mC_dates; (repeat' split) <;> first | rfl | (exfalso; omega))

set_option maxHeartbeats 4000000 in
set_option maxRecDepth 100000 in
theorem c_X4_refusedContracts {Γ : Gm} {zl : Launch} {A : Nat → Prop} {σ : Mm} {r : Int} (hI : IC σ) (hr : -2147483648 ≤ r ∧ r < 2147483648) : Fn Γ zl A yX4_refusedContracts cX4_refusedContracts 5 (some .int) 2 42 [.ref (aL Γ), .int (zI r)] σ (some (.int (zI (rfC σ r)))) (mRc σ r) := by
  refine Fn_of (by decide) (Nat.le_of_ble_eq_true rfl) ?_
  intro zp ze zs zm args below meth zc zQ H locs ls zC zK hG hl
  have hl : lv_has ls 5 [(0, .ref (aL Γ)), (1, .int (zI r))] := hl
  obtain ⟨hmany, htoday, -⟩ := id hI
  refine lv_aload_n zC.1 zC.2.1 dX4_refusedContracts_0 rfl (lv_at hl 0 rfl) ?_
  refine lv_iload_n zC.1 zC.2.1 dX4_refusedContracts_1 rfl (lv_at hl 1 rfl) ?_
  refine zr_callV zC hG (c_X4_refusedRow (σ := σ) (r := r) hI (by first | assumption | omega)) mt_X4_refusedRow wl_X4_84 pL rfl rfl ⟨by decide, by decide⟩ rfl hl.1 rfl (Nat.le_of_ble_eq_true rfl) dX4_refusedContracts_2 ⟨Nat.zero_le _, Nat.zero_le _⟩ (fun H locs hG => ?_)
  refine W.eq (g2 := F0 zm 5 ls [.int (zI (rfR σ r))]) rfl ?_
  have b2_0 := rfR_r σ r
  refine lv_istore_n (lv' := [(2, .int (zI (rfR σ r))), (0, .ref (aL Γ)), (1, .int (zI r))]) zC.1 zC.2.1 dX4_refusedContracts_5 rfl hl (by decide) rfl (fun ls hl => ?_)
  refine lv_iload_n zC.1 zC.2.1 dX4_refusedContracts_6 rfl (lv_at hl 0 rfl) ?_
  refine zr_if_eq (tgt := 12) zC dX4_refusedContracts_7 (by decide) (by omega) (fun c7 => ?_) (fun c7 => ?_)
  · obtain ⟨h1, h2, h3⟩ := rfR_0 c7
    rw [h3] at hG
    have h4 := hI.2.2.1 r (by omega) (by omega)
    refine lv_aload_n zC.1 zC.2.1 dX4_refusedContracts_12 rfl (lv_at hl 1 rfl) ?_
    refine gf_L_rows zC hG wl_X4_11 dX4_refusedContracts_13 ?_
    refine lv_iload_n zC.1 zC.2.1 dX4_refusedContracts_16 rfl (lv_at hl 2 rfl) ?_
    refine gr_Rs zC hG (by omega) dX4_refusedContracts_17 ?_
    refine gf_Row_size (v := σ 2 r 1) zC hG (by first | assumption | omega) wl_X4_87 rfl dX4_refusedContracts_18 ?_
    have f18 := hI.2.2.1 r (by omega) (by omega)
    refine zr_iconst zC dX4_refusedContracts_21 ?_
    refine zr_irem zC dX4_refusedContracts_22 (by omega) ?_
    refine zr_if_eq (tgt := 32) zC dX4_refusedContracts_23 (by decide) (by omega) (fun c23 => ?_) (fun c23 => ?_)
    · refine lv_aload_n zC.1 zC.2.1 dX4_refusedContracts_32 rfl (lv_at hl 1 rfl) ?_
      refine gf_L_rows zC hG wl_X4_11 dX4_refusedContracts_33 ?_
      refine lv_iload_n zC.1 zC.2.1 dX4_refusedContracts_36 rfl (lv_at hl 2 rfl) ?_
      refine gr_Rs zC hG (by omega) dX4_refusedContracts_37 ?_
      refine gf_Row_places zC hG (by first | assumption | omega) wl_X4_81 dX4_refusedContracts_38 ?_
      refine lv_astore_n (lv' := [(3, .ref (aPl Γ r)), (2, .int (zI (rfR σ r))), (0, .ref (aL Γ)), (1, .int (zI r))]) zC.1 zC.2.1 dX4_refusedContracts_41 rfl hl (by decide) rfl (fun ls hl => ?_)
      refine zr_iconst zC dX4_refusedContracts_42 ?_
      refine lv_istore (lv' := [(4, .int (zI 0)), (3, .ref (aPl Γ r)), (2, .int (zI (rfR σ r))), (0, .ref (aL Γ)), (1, .int (zI r))]) zC.1 zC.2.1 dX4_refusedContracts_43 hl (by decide) rfl (fun ls hl => ?_)
      have loop45 : ∀ (nf : Nat) (w : Int) (H : Heap) (locs : List Loc) (ls : Array Slot), (0 ≤ w ∧ w ≤ σ 2 r 1 ∧ w % 3 = 0) → (∀ q, 0 ≤ q → 3 * q < w → cOK σ r q) → (40 - w < (nf : Int)) → GM Γ A σ zs H locs → lv_has ls 5 [(0, .ref (aL Γ)), (1, .int (zI r)), (3, .ref (aPl Γ r)), (4, .int (zI w))] → W zp zl ze { frames := 2, cells := 0, slots := 0, locals := 42 } zs zm args below meth zc H locs 0 0 zQ (F0 zm 45 ls []) := by
        intro nf
        induction nf with
        | zero =>
          intro w H locs ls hw hz hm45 _ _
          exact absurd hm45 (by omega)
        | succ nf ih45 =>
          intro w H locs ls hw hz hm45 hG hl
          refine lv_iload zC.1 zC.2.1 dX4_refusedContracts_45 (lv_at hl 3 rfl) ?_
          refine zr_iconst zC dX4_refusedContracts_47 ?_
          refine zr_iadd zC dX4_refusedContracts_48 ?_
          refine lv_aload_n zC.1 zC.2.1 dX4_refusedContracts_49 rfl (lv_at hl 0 rfl) ?_
          refine gf_L_rows zC hG wl_X4_11 dX4_refusedContracts_50 ?_
          refine lv_iload_n zC.1 zC.2.1 dX4_refusedContracts_53 rfl (lv_at hl 1 rfl) ?_
          refine gr_Rs zC hG (by omega) dX4_refusedContracts_54 ?_
          refine gf_Row_size (v := σ 2 r 1) zC hG (by first | assumption | omega) wl_X4_87 rfl dX4_refusedContracts_55 ?_
          have f55 := hI.2.2.1 r (by omega) (by omega)
          refine zr_icmp_ge (tgt := 105) zC dX4_refusedContracts_58 (by decide) (by omega) (fun c58 => ?_) (fun c58 => ?_)
          · refine zr_iconst zC dX4_refusedContracts_105 ?_
            exact zr_iret zC zK hG dX4_refusedContracts_106 (by unfold rfC; rw [if_neg (fun z => z c7), if_neg (fun z => z c23), if_pos (ctI_z (fun q h1 h2 z => z (hz q h1 (by omega))))]) (by unfold mRc; rw [if_neg (fun z => z c7), if_neg (fun z => z c23), if_pos (ctI_z (fun q h1 h2 z => z (hz q h1 (by omega))))])
          · refine lv_aload_n zC.1 zC.2.1 dX4_refusedContracts_61 rfl (lv_at hl 0 rfl) ?_
            refine lv_aload_n zC.1 zC.2.1 dX4_refusedContracts_62 rfl (lv_at hl 2 rfl) ?_
            refine lv_iload zC.1 zC.2.1 dX4_refusedContracts_63 (lv_at hl 3 rfl) ?_
            refine gi_Pl (v := σ 3 r w) zC hG (by first | assumption | omega) (by omega) rfl dX4_refusedContracts_65 ?_
            have f65 := hI.2.2.2.1 r w (by omega) (by omega) (by omega) (by omega)
            refine zr_callV zC hG (c_X4_isTown (σ := σ) (c := σ 3 r w) hI (by first | assumption | omega)) mt_X4_isTown wl_X4_128 pL rfl rfl ⟨by decide, by decide⟩ rfl hl.1 rfl (Nat.le_of_ble_eq_true rfl) dX4_refusedContracts_66 ⟨Nat.zero_le _, Nat.zero_le _⟩ (fun H locs hG => ?_)
            refine W.eq (g2 := F0 zm 69 ls [.int (zI (zB (isT σ (σ 3 r w))))]) rfl ?_
            refine zr_ifeqB (tgt := 93) zC dX4_refusedContracts_69 (by decide) (fun c69 => ?_) (fun c69 => ?_)
            · refine lv_aload_n zC.1 zC.2.1 dX4_refusedContracts_93 rfl (lv_at hl 0 rfl) ?_
              refine zr_iconst zC dX4_refusedContracts_94 ?_
              refine zr_callV zC hG (c_X4_found (σ := σ) (f := 3) hI (by first | assumption | omega)) mt_X4_found wl_X4_69 pL rfl rfl ⟨by decide, by decide⟩ rfl hl.1 rfl (Nat.le_of_ble_eq_true rfl) dX4_refusedContracts_95 ⟨Nat.zero_le _, Nat.zero_le _⟩ (fun H locs hG => ?_)
              refine W.eq (g2 := F0 zm 98 ls [.int (zI (-3))]) rfl ?_
              exact zr_iret zC zK hG dX4_refusedContracts_98 (by unfold rfC; rw [if_neg (fun z => z c7), if_neg (fun z => z c23), if_neg (ctI_nz (y := w / 3) (by omega) (by (try dsimp only); unfold cOK; rw [show 3 * (w / 3) = w by omega]; omega) (by omega))]) (by unfold mRc; rw [if_neg (fun z => z c7), if_neg (fun z => z c23), if_neg (ctI_nz (y := w / 3) (by omega) (by (try dsimp only); unfold cOK; rw [show 3 * (w / 3) = w by omega]; omega) (by omega))])
            · refine lv_aload_n zC.1 zC.2.1 dX4_refusedContracts_72 rfl (lv_at hl 2 rfl) ?_
              refine lv_iload zC.1 zC.2.1 dX4_refusedContracts_73 (lv_at hl 3 rfl) ?_
              refine zr_iconst zC dX4_refusedContracts_75 ?_
              refine zr_iadd zC dX4_refusedContracts_76 ?_
              refine gi_Pl (v := σ 3 r (w + 1)) zC hG (by first | assumption | omega) (by omega) rfl dX4_refusedContracts_77 ?_
              have f77 := hI.2.2.2.1 r (w + 1) (by omega) (by omega) (by omega) (by omega)
              refine zr_if_lt (tgt := 93) zC dX4_refusedContracts_78 (by decide) (by omega) (fun c78 => ?_) (fun c78 => ?_)
              · refine lv_aload_n zC.1 zC.2.1 dX4_refusedContracts_93 rfl (lv_at hl 0 rfl) ?_
                refine zr_iconst zC dX4_refusedContracts_94 ?_
                refine zr_callV zC hG (c_X4_found (σ := σ) (f := 3) hI (by first | assumption | omega)) mt_X4_found wl_X4_69 pL rfl rfl ⟨by decide, by decide⟩ rfl hl.1 rfl (Nat.le_of_ble_eq_true rfl) dX4_refusedContracts_95 ⟨Nat.zero_le _, Nat.zero_le _⟩ (fun H locs hG => ?_)
                refine W.eq (g2 := F0 zm 98 ls [.int (zI (-3))]) rfl ?_
                exact zr_iret zC zK hG dX4_refusedContracts_98 (by unfold rfC; rw [if_neg (fun z => z c7), if_neg (fun z => z c23), if_neg (ctI_nz (y := w / 3) (by omega) (by (try dsimp only); unfold cOK; rw [show 3 * (w / 3) = w by omega]; omega) (by omega))]) (by unfold mRc; rw [if_neg (fun z => z c7), if_neg (fun z => z c23), if_neg (ctI_nz (y := w / 3) (by omega) (by (try dsimp only); unfold cOK; rw [show 3 * (w / 3) = w by omega]; omega) (by omega))])
              · refine lv_aload_n zC.1 zC.2.1 dX4_refusedContracts_81 rfl (lv_at hl 2 rfl) ?_
                refine lv_iload zC.1 zC.2.1 dX4_refusedContracts_82 (lv_at hl 3 rfl) ?_
                refine zr_iconst zC dX4_refusedContracts_84 ?_
                refine zr_iadd zC dX4_refusedContracts_85 ?_
                refine gi_Pl (v := σ 3 r (w + 2)) zC hG (by first | assumption | omega) (by omega) rfl dX4_refusedContracts_86 ?_
                have f86 := hI.2.2.2.1 r (w + 2) (by omega) (by omega) (by omega) (by omega)
                refine zr_callS zC hG (c_X4_isYearsDue (σ := σ) (v := σ 3 r (w + 2)) (by first | assumption | omega)) mt_X4_isYearsDue wl_X4_224 ⟨by decide, by decide⟩ rfl hl.1 rfl (Nat.le_of_ble_eq_true rfl) dX4_refusedContracts_87 ⟨Nat.zero_le _, Nat.zero_le _⟩ (fun H locs hG => ?_)
                refine W.eq (g2 := F0 zm 90 ls [.int (zI (zB (0 ≤ (σ 3 r (w + 2)) ∧ (σ 3 r (w + 2)) ≤ 50)))]) rfl ?_
                refine zr_ifneB (tgt := 99) zC dX4_refusedContracts_90 (by decide) (fun c90 => ?_) (fun c90 => ?_)
                · refine zr_iinc (lv' := [(4, .int (zI (w + 3))), (0, .ref (aL Γ)), (1, .int (zI r)), (3, .ref (aPl Γ r))]) zC dX4_refusedContracts_99 hl (k := 3) rfl (by decide) rfl (fun ls hl => ?_)
                  refine lv_goto (tgt := 45) zC.1 zC.2.1 dX4_refusedContracts_102 (by decide) ?_
                  exact ih45 (w + 3) H locs ls (by first | assumption | omega) (fun q h1 h2 => by by_cases v : 3 * q < w; exact hz q h1 v; rw [show q = w / 3 by omega]; unfold cOK; rw [show 3 * (w / 3) = w by omega]; omega) (by omega) hG (lv_sub hl [1, 2, 3, 0] rfl)
                · refine lv_aload_n zC.1 zC.2.1 dX4_refusedContracts_93 rfl (lv_at hl 0 rfl) ?_
                  refine zr_iconst zC dX4_refusedContracts_94 ?_
                  refine zr_callV zC hG (c_X4_found (σ := σ) (f := 3) hI (by first | assumption | omega)) mt_X4_found wl_X4_69 pL rfl rfl ⟨by decide, by decide⟩ rfl hl.1 rfl (Nat.le_of_ble_eq_true rfl) dX4_refusedContracts_95 ⟨Nat.zero_le _, Nat.zero_le _⟩ (fun H locs hG => ?_)
                  refine W.eq (g2 := F0 zm 98 ls [.int (zI (-3))]) rfl ?_
                  exact zr_iret zC zK hG dX4_refusedContracts_98 (by unfold rfC; rw [if_neg (fun z => z c7), if_neg (fun z => z c23), if_neg (ctI_nz (y := w / 3) (by omega) (by (try dsimp only); unfold cOK; rw [show 3 * (w / 3) = w by omega]; omega) (by omega))]) (by unfold mRc; rw [if_neg (fun z => z c7), if_neg (fun z => z c23), if_neg (ctI_nz (y := w / 3) (by omega) (by (try dsimp only); unfold cOK; rw [show 3 * (w / 3) = w by omega]; omega) (by omega))])
      exact loop45 ((40 - 0 : Int).toNat + 1) 0 H locs ls (by first | assumption | omega) (fun q h1 h2 => by omega) (by omega) hG (lv_sub hl [3, 4, 1, 0] rfl)
    · refine lv_aload_n zC.1 zC.2.1 dX4_refusedContracts_26 rfl (lv_at hl 1 rfl) ?_
      refine zr_iconst zC dX4_refusedContracts_27 ?_
      refine zr_callV zC hG (c_X4_found (σ := σ) (f := 5) hI (by first | assumption | omega)) mt_X4_found wl_X4_69 pL rfl rfl ⟨by decide, by decide⟩ rfl hl.1 rfl (Nat.le_of_ble_eq_true rfl) dX4_refusedContracts_28 ⟨Nat.zero_le _, Nat.zero_le _⟩ (fun H locs hG => ?_)
      refine W.eq (g2 := F0 zm 31 ls [.int (zI (-3))]) rfl ?_
      exact zr_iret zC zK hG dX4_refusedContracts_31 (by unfold rfC; rw [if_neg (fun z => z c7), if_pos c23]) (by unfold mRc; rw [if_neg (fun z => z c7), if_pos c23])
  · refine lv_iload_n zC.1 zC.2.1 dX4_refusedContracts_10 rfl (lv_at hl 0 rfl) ?_
    exact zr_iret zC zK hG dX4_refusedContracts_11 (by unfold rfC; rw [if_pos c7]) (by unfold mRc; rw [if_pos c7])

set_option maxHeartbeats 4000000 in
set_option maxRecDepth 100000 in
theorem c_X4_hasMissingDate {Γ : Gm} {zl : Launch} {A : Nat → Prop} {σ : Mm} {i : Int} (hI : IC σ) (hi : 0 ≤ i ∧ i < 6) (hs0 : 0 ≤ σ 2 i 1) (hv : ∀ q, 0 ≤ q → q < σ 2 i 1 / 3 → cOK σ i q) (h3 : σ 2 i 1 % 3 = 0) : Fn Γ zl A yX4_hasMissingDate cX4_hasMissingDate 3 (some .boolean) 4 88 [.ref (aL Γ), .ref (aRow Γ i)] σ (some (.int (zI (zB (ctI (fun q => dyD (σ 6 (σ 3 i (3 * q)) 0) (σ 6 (σ 3 i (3 * q)) 1) (σ 6 (σ 3 i (3 * q)) 2) (σ 6 (σ 3 i (3 * q)) 3) (σ 3 i (3 * q + 1)) = -1) 0 (σ 2 i 1 / 3).toNat ≠ 0))))) σ := by
  refine Fn_of (by decide) (Nat.le_of_ble_eq_true rfl) ?_
  intro zp ze zs zm args below meth zc zQ H locs ls zC zK hG hl
  have hl : lv_has ls 3 [(0, .ref (aL Γ)), (1, .ref (aRow Γ i))] := hl
  obtain ⟨hmany, htoday, -⟩ := id hI
  have h4 := hI.2.2.1 i (by omega) (by omega)
  refine zr_iconst zC dX4_hasMissingDate_0 ?_
  refine lv_istore_n (lv' := [(2, .int (zI 0)), (0, .ref (aL Γ)), (1, .ref (aRow Γ i))]) zC.1 zC.2.1 dX4_hasMissingDate_1 rfl hl (by decide) rfl (fun ls hl => ?_)
  have loop2 : ∀ (nf : Nat) (w : Int) (H : Heap) (locs : List Loc) (ls : Array Slot), (0 ≤ w ∧ w ≤ σ 2 i 1 ∧ w % 3 = 0) → (∀ q, 0 ≤ q → 3 * q < w → ¬ (fun q => dyD (σ 6 (σ 3 i (3 * q)) 0) (σ 6 (σ 3 i (3 * q)) 1) (σ 6 (σ 3 i (3 * q)) 2) (σ 6 (σ 3 i (3 * q)) 3) (σ 3 i (3 * q + 1)) = -1) q) → (40 - w < (nf : Int)) → GM Γ A σ zs H locs → lv_has ls 3 [(0, .ref (aL Γ)), (1, .ref (aRow Γ i)), (2, .int (zI w))] → W zp zl ze { frames := 4, cells := 0, slots := 0, locals := 88 } zs zm args below meth zc H locs 0 0 zQ (F0 zm 2 ls []) := by
    intro nf
    induction nf with
    | zero =>
      intro w H locs ls hw hz hm2 _ _
      exact absurd hm2 (by omega)
    | succ nf ih2 =>
      intro w H locs ls hw hz hm2 hG hl
      refine lv_iload_n zC.1 zC.2.1 dX4_hasMissingDate_2 rfl (lv_at hl 2 rfl) ?_
      refine zr_iconst zC dX4_hasMissingDate_3 ?_
      refine zr_iadd zC dX4_hasMissingDate_4 ?_
      refine lv_aload_n zC.1 zC.2.1 dX4_hasMissingDate_5 rfl (lv_at hl 1 rfl) ?_
      refine gf_Row_size (v := σ 2 i 1) zC hG (by first | assumption | omega) wl_X4_87 rfl dX4_hasMissingDate_6 ?_
      have f6 := hI.2.2.1 i (by omega) (by omega)
      refine zr_icmp_ge (tgt := 46) zC dX4_hasMissingDate_9 (by decide) (by omega) (fun c9 => ?_) (fun c9 => ?_)
      · refine zr_iconst zC dX4_hasMissingDate_46 ?_
        exact zr_zret zC zK hG dX4_hasMissingDate_47 (zB_f (fun z => z (ctI_z (fun q h1 h2 => hz q h1 (by omega))))) (Or.inl rfl) rfl
      · obtain ⟨v1, v2, v3, v4⟩ := hv (w / 3) (by omega) (by omega)
        rw [show 3 * (w / 3) = w by omega] at v1 v2 v3 v4
        refine lv_aload_n zC.1 zC.2.1 dX4_hasMissingDate_12 rfl (lv_at hl 0 rfl) ?_
        refine gf_L_towns zC hG wl_X4_23 dX4_hasMissingDate_13 ?_
        refine lv_aload_n zC.1 zC.2.1 dX4_hasMissingDate_16 rfl (lv_at hl 1 rfl) ?_
        refine gf_Row_places zC hG (by first | assumption | omega) wl_X4_81 dX4_hasMissingDate_17 ?_
        refine lv_iload_n zC.1 zC.2.1 dX4_hasMissingDate_20 rfl (lv_at hl 2 rfl) ?_
        refine gi_Pl (v := σ 3 i w) zC hG (by first | assumption | omega) (by omega) rfl dX4_hasMissingDate_21 ?_
        have f21 := hI.2.2.2.1 i w (by omega) (by omega) (by omega) (by omega)
        refine gr_To zC hG (by omega) dX4_hasMissingDate_22 ?_
        refine lv_aload_n zC.1 zC.2.1 dX4_hasMissingDate_23 rfl (lv_at hl 1 rfl) ?_
        refine gf_Row_places zC hG (by first | assumption | omega) wl_X4_81 dX4_hasMissingDate_24 ?_
        refine lv_iload_n zC.1 zC.2.1 dX4_hasMissingDate_27 rfl (lv_at hl 2 rfl) ?_
        refine zr_iconst zC dX4_hasMissingDate_28 ?_
        refine zr_iadd zC dX4_hasMissingDate_29 ?_
        refine gi_Pl (v := σ 3 i (w + 1)) zC hG (by first | assumption | omega) (by omega) rfl dX4_hasMissingDate_30 ?_
        have f30 := hI.2.2.2.1 i (w + 1) (by omega) (by omega) (by omega) (by omega)
        have k31 := hI.2.2.2.2.2.2.1 (σ 3 i w) (by omega) (by omega)
        obtain ⟨k31a, k31b, k31c, k31d⟩ := id k31
        refine zr_callV zC hG (c_X0_dayOfDate (σ := σ) (i := σ 3 i w) (t := σ 3 i (w + 1)) (by first | assumption | omega) k31 (by first | assumption | omega)) mt_X0_dayOfDate wl_X4_174 (pCal (by first | assumption | omega)) rfl rfl ⟨by decide, by decide⟩ rfl hl.1 rfl (Nat.le_of_ble_eq_true rfl) dX4_hasMissingDate_31 ⟨Nat.zero_le _, Nat.zero_le _⟩ (fun H locs hG => ?_)
        refine W.eq (g2 := F0 zm 34 ls [.int (zI (dyD (σ 6 (σ 3 i w) 0) (σ 6 (σ 3 i w) 1) (σ 6 (σ 3 i w) 2) (σ 6 (σ 3 i w) 3) (σ 3 i (w + 1))))]) rfl ?_
        have b31_0 := dyD_r (k := (σ 6 (σ 3 i w) 0)) (lp := (σ 6 (σ 3 i w) 1)) (o := (σ 6 (σ 3 i w) 2)) (g := (σ 6 (σ 3 i w) 3)) (t := (σ 3 i (w + 1))) (by omega) (by omega)
        refine zr_iconst zC dX4_hasMissingDate_34 ?_
        refine zr_icmp_ne (tgt := 40) zC dX4_hasMissingDate_35 (by decide) (by omega) (fun c35 => ?_) (fun c35 => ?_)
        · refine zr_iinc (lv' := [(2, .int (zI (w + 3))), (0, .ref (aL Γ)), (1, .ref (aRow Γ i))]) zC dX4_hasMissingDate_40 hl (k := 2) rfl (by decide) rfl (fun ls hl => ?_)
          refine lv_goto (tgt := 2) zC.1 zC.2.1 dX4_hasMissingDate_43 (by decide) ?_
          exact ih2 (w + 3) H locs ls (by first | assumption | omega) (fun q h1 h2 => by by_cases v : 3 * q < w; exact hz q h1 v; rw [show q = w / 3 by omega]; (try dsimp only); rw [show 3 * (w / 3) = w by omega]; exact c35) (by omega) hG (lv_sub hl [1, 2, 0] rfl)
        · refine zr_iconst zC dX4_hasMissingDate_38 ?_
          exact zr_zret zC zK hG dX4_hasMissingDate_39 (zB_t (ctI_nz (y := w / 3) (by omega) (by (try dsimp only); rw [show 3 * (w / 3) = w by omega]; exact c35) (by omega))) (Or.inr rfl) rfl
  exact loop2 ((40 - 0 : Int).toNat + 1) 0 H locs ls (by first | assumption | omega) (fun q h1 h2 => by omega) (by omega) hG (lv_sub hl [1, 2, 0] rfl)

set_option maxHeartbeats 4000000 in
set_option maxRecDepth 100000 in
theorem c_X4_quarrelsAt {Γ : Gm} {zl : Launch} {A : Nat → Prop} {σ : Mm} {i q tr : Int} (hI : IC σ) (hi : 0 ≤ i ∧ i < 6) (hq : 0 ≤ q ∧ 3 * q + 2 < 40) (htr : -2147483648 ≤ tr ∧ tr < 2147483648) (hv : cOK σ i q) (h5 : σ 3 i (3 * q) = tr → CalOK σ 5) : Fn Γ zl A yX4_quarrelsAt cX4_quarrelsAt 9 (some .boolean) 4 88 [.ref (aL Γ), .ref (aRow Γ i), .int (zI q), .int (zI tr)] σ (some (.int (zI (zB (qAt σ i q tr))))) σ := by
  refine Fn_of (by decide) (Nat.le_of_ble_eq_true rfl) ?_
  intro zp ze zs zm args below meth zc zQ H locs ls zC zK hG hl
  have hl : lv_has ls 9 [(0, .ref (aL Γ)), (1, .ref (aRow Γ i)), (2, .int (zI q)), (3, .int (zI tr))] := hl
  obtain ⟨hmany, htoday, -⟩ := id hI
  obtain ⟨v1, v2, v3, v4⟩ := hv
  refine lv_aload_n zC.1 zC.2.1 dX4_quarrelsAt_0 rfl (lv_at hl 1 rfl) ?_
  refine gf_Row_places zC hG (by first | assumption | omega) wl_X4_81 dX4_quarrelsAt_1 ?_
  refine zr_iconst zC dX4_quarrelsAt_4 ?_
  refine lv_iload_n zC.1 zC.2.1 dX4_quarrelsAt_5 rfl (lv_at hl 2 rfl) ?_
  refine zr_imul zC dX4_quarrelsAt_6 ?_
  refine gi_Pl (v := σ 3 i (3 * q)) zC hG (by first | assumption | omega) (by omega) rfl dX4_quarrelsAt_7 ?_
  have f7 := hI.2.2.2.1 i (3 * q) (by omega) (by omega) (by omega) (by omega)
  refine lv_istore (lv' := [(4, .int (zI (σ 3 i (3 * q)))), (0, .ref (aL Γ)), (1, .ref (aRow Γ i)), (2, .int (zI q)), (3, .int (zI tr))]) zC.1 zC.2.1 dX4_quarrelsAt_8 hl (by decide) rfl (fun ls hl => ?_)
  refine lv_aload_n zC.1 zC.2.1 dX4_quarrelsAt_10 rfl (lv_at hl 2 rfl) ?_
  refine gf_Row_places zC hG (by first | assumption | omega) wl_X4_81 dX4_quarrelsAt_11 ?_
  refine zr_iconst zC dX4_quarrelsAt_14 ?_
  refine lv_iload_n zC.1 zC.2.1 dX4_quarrelsAt_15 rfl (lv_at hl 3 rfl) ?_
  refine zr_imul zC dX4_quarrelsAt_16 ?_
  refine zr_iconst zC dX4_quarrelsAt_17 ?_
  refine zr_iadd zC dX4_quarrelsAt_18 ?_
  refine gi_Pl (v := σ 3 i ((3 * q) + 1)) zC hG (by first | assumption | omega) (by omega) rfl dX4_quarrelsAt_19 ?_
  have f19 := hI.2.2.2.1 i ((3 * q) + 1) (by omega) (by omega) (by omega) (by omega)
  refine lv_istore (lv' := [(5, .int (zI (σ 3 i ((3 * q) + 1)))), (4, .int (zI (σ 3 i (3 * q)))), (0, .ref (aL Γ)), (1, .ref (aRow Γ i)), (2, .int (zI q)), (3, .int (zI tr))]) zC.1 zC.2.1 dX4_quarrelsAt_20 hl (by decide) rfl (fun ls hl => ?_)
  refine lv_aload_n zC.1 zC.2.1 dX4_quarrelsAt_22 rfl (lv_at hl 3 rfl) ?_
  refine gf_Row_places zC hG (by first | assumption | omega) wl_X4_81 dX4_quarrelsAt_23 ?_
  refine zr_iconst zC dX4_quarrelsAt_26 ?_
  refine lv_iload_n zC.1 zC.2.1 dX4_quarrelsAt_27 rfl (lv_at hl 4 rfl) ?_
  refine zr_imul zC dX4_quarrelsAt_28 ?_
  refine zr_iconst zC dX4_quarrelsAt_29 ?_
  refine zr_iadd zC dX4_quarrelsAt_30 ?_
  refine gi_Pl (v := σ 3 i ((3 * q) + 2)) zC hG (by first | assumption | omega) (by omega) rfl dX4_quarrelsAt_31 ?_
  have f31 := hI.2.2.2.1 i ((3 * q) + 2) (by omega) (by omega) (by omega) (by omega)
  refine lv_istore (lv' := [(6, .int (zI (σ 3 i ((3 * q) + 2)))), (5, .int (zI (σ 3 i ((3 * q) + 1)))), (4, .int (zI (σ 3 i (3 * q)))), (0, .ref (aL Γ)), (1, .ref (aRow Γ i)), (2, .int (zI q)), (3, .int (zI tr))]) zC.1 zC.2.1 dX4_quarrelsAt_32 hl (by decide) rfl (fun ls hl => ?_)
  refine lv_iload zC.1 zC.2.1 dX4_quarrelsAt_34 (lv_at hl 2 rfl) ?_
  refine lv_iload_n zC.1 zC.2.1 dX4_quarrelsAt_36 rfl (lv_at hl 6 rfl) ?_
  refine zr_icmp_ne (tgt := 47) zC dX4_quarrelsAt_37 (by decide) (by omega) (fun c37 => ?_) (fun c37 => ?_)
  · have e37 : qI σ i q tr = σ 3 i (3 * q) := by unfold qI; rw [if_neg c37]
    refine lv_aload_n zC.1 zC.2.1 dX4_quarrelsAt_47 rfl (lv_at hl 3 rfl) ?_
    refine gf_L_towns zC hG wl_X4_23 dX4_quarrelsAt_48 ?_
    refine lv_iload zC.1 zC.2.1 dX4_quarrelsAt_51 (lv_at hl 2 rfl) ?_
    refine gr_To zC hG (by omega) dX4_quarrelsAt_53 ?_
    refine lv_astore (lv' := [(7, .ref (aCal Γ (σ 3 i (3 * q)))), (6, .int (zI (σ 3 i ((3 * q) + 2)))), (5, .int (zI (σ 3 i ((3 * q) + 1)))), (4, .int (zI (σ 3 i (3 * q)))), (0, .ref (aL Γ)), (1, .ref (aRow Γ i)), (2, .int (zI q)), (3, .int (zI tr))]) zC.1 zC.2.1 dX4_quarrelsAt_54 hl (by decide) rfl (fun ls hl => ?_)
    refine lv_aload zC.1 zC.2.1 dX4_quarrelsAt_56 (lv_at hl 0 rfl) ?_
    refine lv_iload zC.1 zC.2.1 dX4_quarrelsAt_58 (lv_at hl 2 rfl) ?_
    have k60 := hI.2.2.2.2.2.2.1 (σ 3 i (3 * q)) (by omega) (by omega)
    obtain ⟨k60a, k60b, k60c, k60d⟩ := id k60
    refine zr_callV zC hG (c_X0_dayOfDate (σ := σ) (i := σ 3 i (3 * q)) (t := σ 3 i ((3 * q) + 1)) (by first | assumption | omega) k60 (by first | assumption | omega)) mt_X0_dayOfDate wl_X4_174 (pCal (by first | assumption | omega)) rfl rfl ⟨by decide, by decide⟩ rfl hl.1 rfl (Nat.le_of_ble_eq_true rfl) dX4_quarrelsAt_60 ⟨Nat.zero_le _, Nat.zero_le _⟩ (fun H locs hG => ?_)
    refine W.eq (g2 := F0 zm 63 ls [.int (zI (dyD (σ 6 (σ 3 i (3 * q)) 0) (σ 6 (σ 3 i (3 * q)) 1) (σ 6 (σ 3 i (3 * q)) 2) (σ 6 (σ 3 i (3 * q)) 3) (σ 3 i ((3 * q) + 1))))]) rfl ?_
    have b60_0 := dyD_r (k := (σ 6 (σ 3 i (3 * q)) 0)) (lp := (σ 6 (σ 3 i (3 * q)) 1)) (o := (σ 6 (σ 3 i (3 * q)) 2)) (g := (σ 6 (σ 3 i (3 * q)) 3)) (t := (σ 3 i ((3 * q) + 1))) (by omega) (by omega)
    refine lv_istore (lv' := [(8, .int (zI (dyD (σ 6 (σ 3 i (3 * q)) 0) (σ 6 (σ 3 i (3 * q)) 1) (σ 6 (σ 3 i (3 * q)) 2) (σ 6 (σ 3 i (3 * q)) 3) (σ 3 i ((3 * q) + 1))))), (7, .ref (aCal Γ (σ 3 i (3 * q)))), (6, .int (zI (σ 3 i ((3 * q) + 2)))), (5, .int (zI (σ 3 i ((3 * q) + 1)))), (4, .int (zI (σ 3 i (3 * q)))), (0, .ref (aL Γ)), (1, .ref (aRow Γ i)), (2, .int (zI q)), (3, .int (zI tr))]) zC.1 zC.2.1 dX4_quarrelsAt_63 hl (by decide) rfl (fun ls hl => ?_)
    refine lv_iload zC.1 zC.2.1 dX4_quarrelsAt_65 (lv_at hl 0 rfl) ?_
    refine zr_iconst zC dX4_quarrelsAt_67 ?_
    refine zr_icmp_ne (tgt := 73) zC dX4_quarrelsAt_68 (by decide) (by omega) (fun c68 => ?_) (fun c68 => ?_)
    · have h68 := dyD_lt (by omega) (by omega) c68
      refine lv_aload zC.1 zC.2.1 dX4_quarrelsAt_73 (lv_at hl 1 rfl) ?_
      refine lv_iload zC.1 zC.2.1 dX4_quarrelsAt_75 (lv_at hl 3 rfl) ?_
      refine zr_sipush zC dX4_quarrelsAt_77 (by decide +kernel) ?_
      refine lv_iload zC.1 zC.2.1 dX4_quarrelsAt_80 (lv_at hl 2 rfl) ?_
      refine zr_imul zC dX4_quarrelsAt_82 ?_
      refine zr_iadd zC dX4_quarrelsAt_83 ?_
      have k84 := hI.2.2.2.2.2.2.1 (σ 3 i (3 * q)) (by omega) (by omega)
      obtain ⟨k84a, k84b, k84c, k84d⟩ := id k84
      refine zr_callV zC hG (c_X0_dayOfDate (σ := σ) (i := σ 3 i (3 * q)) (t := (σ 3 i ((3 * q) + 1)) + (1000 * (σ 3 i ((3 * q) + 2)))) (by first | assumption | omega) k84 (by first | assumption | omega)) mt_X0_dayOfDate wl_X4_174 (pCal (by first | assumption | omega)) rfl rfl ⟨by decide, by decide⟩ rfl hl.1 rfl (Nat.le_of_ble_eq_true rfl) dX4_quarrelsAt_84 ⟨Nat.zero_le _, Nat.zero_le _⟩ (fun H locs hG => ?_)
      refine W.eq (g2 := F0 zm 87 ls [.int (zI (dyD (σ 6 (σ 3 i (3 * q)) 0) (σ 6 (σ 3 i (3 * q)) 1) (σ 6 (σ 3 i (3 * q)) 2) (σ 6 (σ 3 i (3 * q)) 3) ((σ 3 i ((3 * q) + 1)) + (1000 * (σ 3 i ((3 * q) + 2))))))]) rfl ?_
      have b84_0 := dyD_r (k := (σ 6 (σ 3 i (3 * q)) 0)) (lp := (σ 6 (σ 3 i (3 * q)) 1)) (o := (σ 6 (σ 3 i (3 * q)) 2)) (g := (σ 6 (σ 3 i (3 * q)) 3)) (t := ((σ 3 i ((3 * q) + 1)) + (1000 * (σ 3 i ((3 * q) + 2))))) (by omega) (by omega)
      refine lv_iload zC.1 zC.2.1 dX4_quarrelsAt_87 (lv_at hl 0 rfl) ?_
      refine zr_bipush zC dX4_quarrelsAt_89 (by decide +kernel) ?_
      refine lv_iload zC.1 zC.2.1 dX4_quarrelsAt_91 (lv_at hl 2 rfl) ?_
      refine zr_imul zC dX4_quarrelsAt_93 ?_
      refine zr_iadd zC dX4_quarrelsAt_94 ?_
      refine zr_icmp_eq (tgt := 102) zC dX4_quarrelsAt_95 (by decide) (by omega) (fun c95 => ?_) (fun c95 => ?_)
      · refine zr_iconst zC dX4_quarrelsAt_102 ?_
        exact zr_zret zC zK hG dX4_quarrelsAt_103 (zB_f (by unfold qAt qrC; rw [e37]; omega)) (Or.inl rfl) rfl
      · refine zr_iconst zC dX4_quarrelsAt_98 ?_
        refine lv_goto (tgt := 103) zC.1 zC.2.1 dX4_quarrelsAt_99 (by decide) ?_
        exact zr_zret zC zK hG dX4_quarrelsAt_103 (zB_t (by unfold qAt qrC; rw [e37]; exact Or.inr c95)) (Or.inr rfl) rfl
    · refine zr_iconst zC dX4_quarrelsAt_71 ?_
      exact zr_zret zC zK hG dX4_quarrelsAt_72 (zB_t (by unfold qAt qrC; rw [e37]; exact Or.inl c68)) (Or.inr rfl) rfl
  · have h55 := h5 c37
    obtain ⟨t1, t2, t3, t4⟩ := id h55
    have e37 : qI σ i q tr = 5 := by unfold qI; rw [if_pos c37]
    refine lv_aload_n zC.1 zC.2.1 dX4_quarrelsAt_40 rfl (lv_at hl 3 rfl) ?_
    refine gf_L_trial zC hG wl_X4_34 dX4_quarrelsAt_41 ?_
    refine lv_goto (tgt := 54) zC.1 zC.2.1 dX4_quarrelsAt_44 (by decide) ?_
    refine lv_astore (lv' := [(7, .ref (aCal Γ 5)), (6, .int (zI (σ 3 i ((3 * q) + 2)))), (5, .int (zI (σ 3 i ((3 * q) + 1)))), (4, .int (zI (σ 3 i (3 * q)))), (0, .ref (aL Γ)), (1, .ref (aRow Γ i)), (2, .int (zI q)), (3, .int (zI tr))]) zC.1 zC.2.1 dX4_quarrelsAt_54 hl (by decide) rfl (fun ls hl => ?_)
    refine lv_aload zC.1 zC.2.1 dX4_quarrelsAt_56 (lv_at hl 0 rfl) ?_
    refine lv_iload zC.1 zC.2.1 dX4_quarrelsAt_58 (lv_at hl 2 rfl) ?_
    refine zr_callV zC hG (c_X0_dayOfDate (σ := σ) (i := 5) (t := σ 3 i ((3 * q) + 1)) (by first | assumption | omega) (by first | assumption | omega) (by first | assumption | omega)) mt_X0_dayOfDate wl_X4_174 (pCal (by first | assumption | omega)) rfl rfl ⟨by decide, by decide⟩ rfl hl.1 rfl (Nat.le_of_ble_eq_true rfl) dX4_quarrelsAt_60 ⟨Nat.zero_le _, Nat.zero_le _⟩ (fun H locs hG => ?_)
    refine W.eq (g2 := F0 zm 63 ls [.int (zI (dyD (σ 6 5 0) (σ 6 5 1) (σ 6 5 2) (σ 6 5 3) (σ 3 i ((3 * q) + 1))))]) rfl ?_
    have b60_0 := dyD_r (k := (σ 6 5 0)) (lp := (σ 6 5 1)) (o := (σ 6 5 2)) (g := (σ 6 5 3)) (t := (σ 3 i ((3 * q) + 1))) (by omega) (by omega)
    refine lv_istore (lv' := [(8, .int (zI (dyD (σ 6 5 0) (σ 6 5 1) (σ 6 5 2) (σ 6 5 3) (σ 3 i ((3 * q) + 1))))), (7, .ref (aCal Γ 5)), (6, .int (zI (σ 3 i ((3 * q) + 2)))), (5, .int (zI (σ 3 i ((3 * q) + 1)))), (4, .int (zI (σ 3 i (3 * q)))), (0, .ref (aL Γ)), (1, .ref (aRow Γ i)), (2, .int (zI q)), (3, .int (zI tr))]) zC.1 zC.2.1 dX4_quarrelsAt_63 hl (by decide) rfl (fun ls hl => ?_)
    refine lv_iload zC.1 zC.2.1 dX4_quarrelsAt_65 (lv_at hl 0 rfl) ?_
    refine zr_iconst zC dX4_quarrelsAt_67 ?_
    refine zr_icmp_ne (tgt := 73) zC dX4_quarrelsAt_68 (by decide) (by omega) (fun c68 => ?_) (fun c68 => ?_)
    · have h68 := dyD_lt (by omega) (by omega) c68
      refine lv_aload zC.1 zC.2.1 dX4_quarrelsAt_73 (lv_at hl 1 rfl) ?_
      refine lv_iload zC.1 zC.2.1 dX4_quarrelsAt_75 (lv_at hl 3 rfl) ?_
      refine zr_sipush zC dX4_quarrelsAt_77 (by decide +kernel) ?_
      refine lv_iload zC.1 zC.2.1 dX4_quarrelsAt_80 (lv_at hl 2 rfl) ?_
      refine zr_imul zC dX4_quarrelsAt_82 ?_
      refine zr_iadd zC dX4_quarrelsAt_83 ?_
      refine zr_callV zC hG (c_X0_dayOfDate (σ := σ) (i := 5) (t := (σ 3 i ((3 * q) + 1)) + (1000 * (σ 3 i ((3 * q) + 2)))) (by first | assumption | omega) (by first | assumption | omega) (by first | assumption | omega)) mt_X0_dayOfDate wl_X4_174 (pCal (by first | assumption | omega)) rfl rfl ⟨by decide, by decide⟩ rfl hl.1 rfl (Nat.le_of_ble_eq_true rfl) dX4_quarrelsAt_84 ⟨Nat.zero_le _, Nat.zero_le _⟩ (fun H locs hG => ?_)
      refine W.eq (g2 := F0 zm 87 ls [.int (zI (dyD (σ 6 5 0) (σ 6 5 1) (σ 6 5 2) (σ 6 5 3) ((σ 3 i ((3 * q) + 1)) + (1000 * (σ 3 i ((3 * q) + 2))))))]) rfl ?_
      have b84_0 := dyD_r (k := (σ 6 5 0)) (lp := (σ 6 5 1)) (o := (σ 6 5 2)) (g := (σ 6 5 3)) (t := ((σ 3 i ((3 * q) + 1)) + (1000 * (σ 3 i ((3 * q) + 2))))) (by omega) (by omega)
      refine lv_iload zC.1 zC.2.1 dX4_quarrelsAt_87 (lv_at hl 0 rfl) ?_
      refine zr_bipush zC dX4_quarrelsAt_89 (by decide +kernel) ?_
      refine lv_iload zC.1 zC.2.1 dX4_quarrelsAt_91 (lv_at hl 2 rfl) ?_
      refine zr_imul zC dX4_quarrelsAt_93 ?_
      refine zr_iadd zC dX4_quarrelsAt_94 ?_
      refine zr_icmp_eq (tgt := 102) zC dX4_quarrelsAt_95 (by decide) (by omega) (fun c95 => ?_) (fun c95 => ?_)
      · refine zr_iconst zC dX4_quarrelsAt_102 ?_
        exact zr_zret zC zK hG dX4_quarrelsAt_103 (zB_f (by unfold qAt qrC; rw [e37]; omega)) (Or.inl rfl) rfl
      · refine zr_iconst zC dX4_quarrelsAt_98 ?_
        refine lv_goto (tgt := 103) zC.1 zC.2.1 dX4_quarrelsAt_99 (by decide) ?_
        exact zr_zret zC zK hG dX4_quarrelsAt_103 (zB_t (by unfold qAt qrC; rw [e37]; exact Or.inr c95)) (Or.inr rfl) rfl
    · refine zr_iconst zC dX4_quarrelsAt_71 ?_
      exact zr_zret zC zK hG dX4_quarrelsAt_72 (zB_t (by unfold qAt qrC; rw [e37]; exact Or.inl c68)) (Or.inr rfl) rfl

set_option maxHeartbeats 4000000 in
set_option maxRecDepth 100000 in
theorem c_X4_quarrelsOnTrial {Γ : Gm} {zl : Launch} {A : Nat → Prop} {σ : Mm} {i tr : Int} (hI : IC σ) (hi : 0 ≤ i ∧ i < 6) (hs0 : 0 ≤ σ 2 i 1) (hv : ∀ q, 0 ≤ q → q < σ 2 i 1 / 3 → cOK σ i q) (htr : -2147483648 ≤ tr ∧ tr < 2147483648) (h5 : CalOK σ 5) : Fn Γ zl A yX4_quarrelsOnTrial cX4_quarrelsOnTrial 5 (some .int) 5 116 [.ref (aL Γ), .ref (aRow Γ i), .int (zI tr)] σ (some (.int (zI (ctI (fun q => qAt σ i q tr) 0 (σ 2 i 1 / 3).toNat)))) σ := by
  refine Fn_of (by decide) (Nat.le_of_ble_eq_true rfl) ?_
  intro zp ze zs zm args below meth zc zQ H locs ls zC zK hG hl
  have hl : lv_has ls 5 [(0, .ref (aL Γ)), (1, .ref (aRow Γ i)), (2, .int (zI tr))] := hl
  obtain ⟨hmany, htoday, -⟩ := id hI
  have h4 := hI.2.2.1 i (by omega) (by omega)
  refine zr_iconst zC dX4_quarrelsOnTrial_0 ?_
  refine lv_istore_n (lv' := [(3, .int (zI 0)), (0, .ref (aL Γ)), (1, .ref (aRow Γ i)), (2, .int (zI tr))]) zC.1 zC.2.1 dX4_quarrelsOnTrial_1 rfl hl (by decide) rfl (fun ls hl => ?_)
  refine zr_iconst zC dX4_quarrelsOnTrial_2 ?_
  refine lv_istore (lv' := [(4, .int (zI 0)), (3, .int (zI 0)), (0, .ref (aL Γ)), (1, .ref (aRow Γ i)), (2, .int (zI tr))]) zC.1 zC.2.1 dX4_quarrelsOnTrial_3 hl (by decide) rfl (fun ls hl => ?_)
  have loop5 : ∀ (nf : Nat) (u x : Int) (H : Heap) (locs : List Loc) (ls : Array Slot), (0 ≤ x ∧ x ≤ σ 2 i 1 / 3) → (u = ctI (fun q => qAt σ i q tr) 0 (x - 0).toNat) → (14 - x < (nf : Int)) → GM Γ A σ zs H locs → lv_has ls 5 [(0, .ref (aL Γ)), (1, .ref (aRow Γ i)), (2, .int (zI tr)), (3, .int (zI u)), (4, .int (zI x))] → W zp zl ze { frames := 5, cells := 0, slots := 0, locals := 116 } zs zm args below meth zc H locs 0 0 zQ (F0 zm 5 ls []) := by
    intro nf
    induction nf with
    | zero =>
      intro u x H locs ls hx hu hm5 _ _
      exact absurd hm5 (by omega)
    | succ nf ih5 =>
      intro u x H locs ls hx hu hm5 hG hl
      refine lv_iload zC.1 zC.2.1 dX4_quarrelsOnTrial_5 (lv_at hl 4 rfl) ?_
      refine lv_aload_n zC.1 zC.2.1 dX4_quarrelsOnTrial_7 rfl (lv_at hl 1 rfl) ?_
      refine gf_Row_size (v := σ 2 i 1) zC hG (by first | assumption | omega) wl_X4_87 rfl dX4_quarrelsOnTrial_8 ?_
      have f8 := hI.2.2.1 i (by omega) (by omega)
      refine zr_iconst zC dX4_quarrelsOnTrial_11 ?_
      refine zr_idiv zC dX4_quarrelsOnTrial_12 (by omega) ?_
      refine zr_icmp_ge (tgt := 36) zC dX4_quarrelsOnTrial_13 (by decide) (by omega) (fun c13 => ?_) (fun c13 => ?_)
      · refine lv_iload_n zC.1 zC.2.1 dX4_quarrelsOnTrial_36 rfl (lv_at hl 3 rfl) ?_
        exact zr_iret zC zK hG dX4_quarrelsOnTrial_37 (by rw [hu]; congr 1; omega) rfl
      · refine lv_aload_n zC.1 zC.2.1 dX4_quarrelsOnTrial_16 rfl (lv_at hl 0 rfl) ?_
        refine lv_aload_n zC.1 zC.2.1 dX4_quarrelsOnTrial_17 rfl (lv_at hl 1 rfl) ?_
        refine lv_iload zC.1 zC.2.1 dX4_quarrelsOnTrial_18 (lv_at hl 4 rfl) ?_
        refine lv_iload_n zC.1 zC.2.1 dX4_quarrelsOnTrial_20 rfl (lv_at hl 2 rfl) ?_
        refine zr_callV zC hG (c_X4_quarrelsAt (σ := σ) (i := i) (q := x) (tr := tr) hI (by first | assumption | omega) (by first | assumption | omega) (by first | assumption | omega) (hv x (by omega) (by omega)) (fun _ => h5)) mt_X4_quarrelsAt wl_X4_234 pL rfl rfl ⟨by decide, by decide⟩ rfl hl.1 rfl (Nat.le_of_ble_eq_true rfl) dX4_quarrelsOnTrial_21 ⟨Nat.zero_le _, Nat.zero_le _⟩ (fun H locs hG => ?_)
        refine W.eq (g2 := F0 zm 24 ls [.int (zI (zB (qAt σ i x tr)))]) rfl ?_
        refine zr_ifeqB (tgt := 30) zC dX4_quarrelsOnTrial_24 (by decide) (fun c24 => ?_) (fun c24 => ?_)
        · refine zr_iinc (lv' := [(4, .int (zI (x + 1))), (0, .ref (aL Γ)), (1, .ref (aRow Γ i)), (2, .int (zI tr)), (3, .int (zI u))]) zC dX4_quarrelsOnTrial_30 hl (k := 4) rfl (by decide) rfl (fun ls hl => ?_)
          refine lv_goto (tgt := 5) zC.1 zC.2.1 dX4_quarrelsOnTrial_33 (by decide) ?_
          exact ih5 u (x + 1) H locs ls (by first | assumption | omega) (by rw [ctI_s hx.1, ← hu]; first | rw [zB_t c24] | (rw [zB_f c24]; omega)) (by omega) hG (lv_sub hl [1, 2, 3, 4, 0] rfl)
        · refine zr_iinc (lv' := [(3, .int (zI (u + 1))), (0, .ref (aL Γ)), (1, .ref (aRow Γ i)), (2, .int (zI tr)), (4, .int (zI x))]) zC dX4_quarrelsOnTrial_27 hl (k := 3) rfl (by decide) rfl (fun ls hl => ?_)
          refine zr_iinc (lv' := [(4, .int (zI (x + 1))), (3, .int (zI (u + 1))), (0, .ref (aL Γ)), (1, .ref (aRow Γ i)), (2, .int (zI tr))]) zC dX4_quarrelsOnTrial_30 hl (k := 4) rfl (by decide) rfl (fun ls hl => ?_)
          refine lv_goto (tgt := 5) zC.1 zC.2.1 dX4_quarrelsOnTrial_33 (by decide) ?_
          exact ih5 (u + 1) (x + 1) H locs ls (by first | assumption | omega) (by rw [ctI_s hx.1, ← hu]; first | rw [zB_t c24] | (rw [zB_f c24]; omega)) (by omega) hG (lv_sub hl [2, 3, 4, 1, 0] rfl)
  exact loop5 ((14 - 0 : Int).toNat + 1) 0 0 H locs ls (by first | assumption | omega) rfl (by omega) hG (lv_sub hl [2, 3, 4, 1, 0] rfl)

set_option maxHeartbeats 4000000 in
set_option maxRecDepth 100000 in
theorem c_X4_quarrels {Γ : Gm} {zl : Launch} {A : Nat → Prop} {σ : Mm} {r : Int} (hI : IC σ) (hr : -2147483648 ≤ r ∧ r < 2147483648) : Fn Γ zl A yX4_quarrels cX4_quarrels 6 (some .int) 5 116 [.ref (aL Γ), .int (zI r)] σ (some (.int (zI (rC_quarrels σ r)))) (mC_quarrels σ r) := by
  refine Fn_of (by decide) (Nat.le_of_ble_eq_true rfl) ?_
  intro zp ze zs zm args below meth zc zQ H locs ls zC zK hG hl
  have hl : lv_has ls 6 [(0, .ref (aL Γ)), (1, .int (zI r))] := hl
  obtain ⟨hmany, htoday, -⟩ := id hI
  refine lv_aload_n zC.1 zC.2.1 dX4_quarrels_0 rfl (lv_at hl 0 rfl) ?_
  refine lv_iload_n zC.1 zC.2.1 dX4_quarrels_1 rfl (lv_at hl 1 rfl) ?_
  refine zr_callV zC hG (c_X4_refusedContracts (σ := σ) (r := r) hI (by first | assumption | omega)) mt_X4_refusedContracts wl_X4_227 pL rfl rfl ⟨by decide, by decide⟩ rfl hl.1 rfl (Nat.le_of_ble_eq_true rfl) dX4_quarrels_2 ⟨Nat.zero_le _, Nat.zero_le _⟩ (fun H locs hG => ?_)
  refine W.eq (g2 := F0 zm 5 ls [.int (zI (rfC σ r))]) rfl ?_
  have b2_0 := rfC_r σ r
  refine lv_istore_n (lv' := [(2, .int (zI (rfC σ r))), (0, .ref (aL Γ)), (1, .int (zI r))]) zC.1 zC.2.1 dX4_quarrels_5 rfl hl (by decide) rfl (fun ls hl => ?_)
  refine lv_iload_n zC.1 zC.2.1 dX4_quarrels_6 rfl (lv_at hl 0 rfl) ?_
  refine zr_if_eq (tgt := 12) zC dX4_quarrels_7 (by decide) (by omega) (fun c7 => ?_) (fun c7 => ?_)
  · obtain ⟨h1, h2, h3, h4, h5⟩ := rfC_0 c7
    rw [h3] at hG
    have h6 := hI.2.2.1 r (by omega) (by omega)
    refine lv_aload_n zC.1 zC.2.1 dX4_quarrels_12 rfl (lv_at hl 1 rfl) ?_
    refine lv_aload_n zC.1 zC.2.1 dX4_quarrels_13 rfl (lv_at hl 1 rfl) ?_
    refine gf_L_rows zC hG wl_X4_11 dX4_quarrels_14 ?_
    refine lv_iload_n zC.1 zC.2.1 dX4_quarrels_17 rfl (lv_at hl 2 rfl) ?_
    refine gr_Rs zC hG (by omega) dX4_quarrels_18 ?_
    refine zr_callV zC hG (c_X4_hasMissingDate (σ := σ) (i := r) hI (by first | assumption | omega) (by omega) h5 h4) mt_X4_hasMissingDate wl_X4_230 pL rfl rfl ⟨by decide, by decide⟩ rfl hl.1 rfl (Nat.le_of_ble_eq_true rfl) dX4_quarrels_19 ⟨Nat.zero_le _, Nat.zero_le _⟩ (fun H locs hG => ?_)
    refine W.eq (g2 := F0 zm 22 ls [.int (zI (zB (ctI (fun q => dyD (σ 6 (σ 3 r (3 * q)) 0) (σ 6 (σ 3 r (3 * q)) 1) (σ 6 (σ 3 r (3 * q)) 2) (σ 6 (σ 3 r (3 * q)) 3) (σ 3 r (3 * q + 1)) = -1) 0 (σ 2 r 1 / 3).toNat ≠ 0)))]) rfl ?_
    refine zr_ifeqB (tgt := 31) zC dX4_quarrels_22 (by decide) (fun c22 => ?_) (fun c22 => ?_)
    · refine zr_iconst zC dX4_quarrels_31 ?_
      refine lv_istore_n (lv' := [(3, .int (zI 0)), (2, .int (zI (rfC σ r))), (0, .ref (aL Γ)), (1, .int (zI r))]) zC.1 zC.2.1 dX4_quarrels_32 rfl hl (by decide) rfl (fun ls hl => ?_)
      refine zr_bipush zC dX4_quarrels_33 (by decide +kernel) ?_
      refine lv_istore (lv' := [(4, .int (zI (-9))), (3, .int (zI 0)), (2, .int (zI (rfC σ r))), (0, .ref (aL Γ)), (1, .int (zI r))]) zC.1 zC.2.1 dX4_quarrels_35 hl (by decide) rfl (fun ls hl => ?_)
      refine zr_iconst zC dX4_quarrels_37 ?_
      refine lv_istore (lv' := [(5, .int (zI 0)), (4, .int (zI (-9))), (3, .int (zI 0)), (2, .int (zI (rfC σ r))), (0, .ref (aL Γ)), (1, .int (zI r))]) zC.1 zC.2.1 dX4_quarrels_38 hl (by decide) rfl (fun ls hl => ?_)
      have loop40 : ∀ (nf : Nat) (u fs x : Int) (H : Heap) (locs : List Loc) (ls : Array Slot), (0 ≤ x ∧ x ≤ σ 2 r 1 / 3) → (u = ctI (fun q => qAt σ r q (-9)) 0 (x - 0).toNat) → (fs = fstI (fun q => qAt σ r q (-9)) 0 (x - 0).toNat) → (14 - x < (nf : Int)) → GM Γ A σ zs H locs → lv_has ls 6 [(0, .ref (aL Γ)), (1, .int (zI r)), (3, .int (zI u)), (4, .int (zI fs)), (5, .int (zI x))] → W zp zl ze { frames := 5, cells := 0, slots := 0, locals := 116 } zs zm args below meth zc H locs 0 0 zQ (F0 zm 40 ls []) := by
        intro nf
        induction nf with
        | zero =>
          intro u fs x H locs ls hx hu hf hm40 _ _
          exact absurd hm40 (by omega)
        | succ nf ih40 =>
          intro u fs x H locs ls hx hu hf hm40 hG hl
          have b40 := fstI_r (fun q => qAt σ r q (-9)) (a := 0) (by omega) (x - 0).toNat
          rw [← hf] at b40
          refine lv_iload zC.1 zC.2.1 dX4_quarrels_40 (lv_at hl 4 rfl) ?_
          refine lv_aload_n zC.1 zC.2.1 dX4_quarrels_42 rfl (lv_at hl 0 rfl) ?_
          refine gf_L_rows zC hG wl_X4_11 dX4_quarrels_43 ?_
          refine lv_iload_n zC.1 zC.2.1 dX4_quarrels_46 rfl (lv_at hl 1 rfl) ?_
          refine gr_Rs zC hG (by omega) dX4_quarrels_47 ?_
          refine gf_Row_size (v := σ 2 r 1) zC hG (by first | assumption | omega) wl_X4_87 rfl dX4_quarrels_48 ?_
          have f48 := hI.2.2.1 r (by omega) (by omega)
          refine zr_iconst zC dX4_quarrels_51 ?_
          refine zr_idiv zC dX4_quarrels_52 (by omega) ?_
          refine zr_icmp_ge (tgt := 98) zC dX4_quarrels_53 (by decide) (by omega) (fun c53 => ?_) (fun c53 => ?_)
          · refine lv_aload_n zC.1 zC.2.1 dX4_quarrels_98 rfl (lv_at hl 0 rfl) ?_
            refine lv_iload zC.1 zC.2.1 dX4_quarrels_99 (lv_at hl 3 rfl) ?_
            refine pf_L_told zC hG wl_X4_49 dX4_quarrels_101 (fun H locs hG => ?_)
            refine lv_iload_n zC.1 zC.2.1 dX4_quarrels_104 rfl (lv_at hl 2 rfl) ?_
            exact zr_iret zC zK hG dX4_quarrels_105 (by unfold rC_quarrels; rw [if_neg (fun z => z c7), if_neg c22, hu, show x = σ 2 r 1 / 3 by omega]) (by unfold mC_quarrels; rw [if_neg (fun z => z c7), if_neg c22, hf, show x = σ 2 r 1 / 3 by omega])
          · refine lv_aload_n zC.1 zC.2.1 dX4_quarrels_56 rfl (lv_at hl 0 rfl) ?_
            refine lv_aload_n zC.1 zC.2.1 dX4_quarrels_57 rfl (lv_at hl 0 rfl) ?_
            refine gf_L_rows zC hG wl_X4_11 dX4_quarrels_58 ?_
            refine lv_iload_n zC.1 zC.2.1 dX4_quarrels_61 rfl (lv_at hl 1 rfl) ?_
            refine gr_Rs zC hG (by omega) dX4_quarrels_62 ?_
            refine lv_iload zC.1 zC.2.1 dX4_quarrels_63 (lv_at hl 4 rfl) ?_
            refine zr_bipush zC dX4_quarrels_65 (by decide +kernel) ?_
            refine zr_callV zC hG (c_X4_quarrelsAt (σ := σ) (i := r) (q := x) (tr := (-9)) hI (by first | assumption | omega) (by first | assumption | omega) (by first | assumption | omega) (h5 x (by omega) (by omega)) (fun z => by have := (h5 x (by omega) (by omega)).1.1; omega)) mt_X4_quarrelsAt wl_X4_234 pL rfl rfl ⟨by decide, by decide⟩ rfl hl.1 rfl (Nat.le_of_ble_eq_true rfl) dX4_quarrels_67 ⟨Nat.zero_le _, Nat.zero_le _⟩ (fun H locs hG => ?_)
            refine W.eq (g2 := F0 zm 70 ls [.int (zI (zB (qAt σ r x (-9))))]) rfl ?_
            refine zr_ifeqB (tgt := 92) zC dX4_quarrels_70 (by decide) (fun c70 => ?_) (fun c70 => ?_)
            · refine zr_iinc (lv' := [(5, .int (zI (x + 1))), (0, .ref (aL Γ)), (1, .int (zI r)), (3, .int (zI u)), (4, .int (zI fs))]) zC dX4_quarrels_92 hl (k := 4) rfl (by decide) rfl (fun ls hl => ?_)
              refine lv_goto (tgt := 40) zC.1 zC.2.1 dX4_quarrels_95 (by decide) ?_
              exact ih40 u fs (x + 1) H locs ls (by first | assumption | omega) (by rw [ctI_s hx.1, ← hu]; first | rw [zB_t c70] | (rw [zB_f c70]; omega)) (by rw [fstI_s hx.1, ← hf]; first | (rw [if_neg c70]; split <;> omega) | (rw [if_pos c70]; split <;> omega)) (by omega) hG (lv_sub hl [1, 2, 3, 4, 0] rfl)
            · refine zr_iinc (lv' := [(3, .int (zI (u + 1))), (0, .ref (aL Γ)), (1, .int (zI r)), (4, .int (zI fs)), (5, .int (zI x))]) zC dX4_quarrels_73 hl (k := 2) rfl (by decide) rfl (fun ls hl => ?_)
              refine lv_iload zC.1 zC.2.1 dX4_quarrels_76 (lv_at hl 3 rfl) ?_
              refine zr_bipush zC dX4_quarrels_78 (by decide +kernel) ?_
              refine zr_icmp_ne (tgt := 88) zC dX4_quarrels_80 (by decide) (by omega) (fun c80 => ?_) (fun c80 => ?_)
              · refine lv_iload zC.1 zC.2.1 dX4_quarrels_88 (lv_at hl 3 rfl) ?_
                refine lv_istore (lv' := [(4, .int (zI fs)), (3, .int (zI (u + 1))), (0, .ref (aL Γ)), (1, .int (zI r)), (5, .int (zI x))]) zC.1 zC.2.1 dX4_quarrels_90 hl (by decide) rfl (fun ls hl => ?_)
                refine zr_iinc (lv' := [(5, .int (zI (x + 1))), (4, .int (zI fs)), (3, .int (zI (u + 1))), (0, .ref (aL Γ)), (1, .int (zI r))]) zC dX4_quarrels_92 hl (k := 4) rfl (by decide) rfl (fun ls hl => ?_)
                refine lv_goto (tgt := 40) zC.1 zC.2.1 dX4_quarrels_95 (by decide) ?_
                exact ih40 (u + 1) fs (x + 1) H locs ls (by first | assumption | omega) (by rw [ctI_s hx.1, ← hu]; first | rw [zB_t c70] | (rw [zB_f c70]; omega)) (by rw [fstI_s hx.1, ← hf]; first | (rw [if_neg c70]; split <;> omega) | (rw [if_pos c70]; split <;> omega)) (by omega) hG (lv_sub hl [3, 4, 2, 1, 0] rfl)
              · refine lv_iload zC.1 zC.2.1 dX4_quarrels_83 (lv_at hl 4 rfl) ?_
                refine lv_goto (tgt := 90) zC.1 zC.2.1 dX4_quarrels_85 (by decide) ?_
                refine lv_istore (lv' := [(4, .int (zI x)), (3, .int (zI (u + 1))), (0, .ref (aL Γ)), (1, .int (zI r)), (5, .int (zI x))]) zC.1 zC.2.1 dX4_quarrels_90 hl (by decide) rfl (fun ls hl => ?_)
                refine zr_iinc (lv' := [(5, .int (zI (x + 1))), (4, .int (zI x)), (3, .int (zI (u + 1))), (0, .ref (aL Γ)), (1, .int (zI r))]) zC dX4_quarrels_92 hl (k := 4) rfl (by decide) rfl (fun ls hl => ?_)
                refine lv_goto (tgt := 40) zC.1 zC.2.1 dX4_quarrels_95 (by decide) ?_
                exact ih40 (u + 1) x (x + 1) H locs ls (by first | assumption | omega) (by rw [ctI_s hx.1, ← hu]; first | rw [zB_t c70] | (rw [zB_f c70]; omega)) (by rw [fstI_s hx.1, ← hf]; first | (rw [if_neg c70]; split <;> omega) | (rw [if_pos c70]; split <;> omega)) (by omega) hG (lv_sub hl [3, 4, 2, 1, 0] rfl)
      exact loop40 ((14 - 0 : Int).toNat + 1) 0 (-9) 0 H locs ls (by first | assumption | omega) rfl rfl (by omega) hG (lv_sub hl [4, 5, 2, 1, 0] rfl)
    · refine lv_aload_n zC.1 zC.2.1 dX4_quarrels_25 rfl (lv_at hl 1 rfl) ?_
      refine zr_iconst zC dX4_quarrels_26 ?_
      refine zr_callV zC hG (c_X4_found (σ := σ) (f := 3) hI (by first | assumption | omega)) mt_X4_found wl_X4_69 pL rfl rfl ⟨by decide, by decide⟩ rfl hl.1 rfl (Nat.le_of_ble_eq_true rfl) dX4_quarrels_27 ⟨Nat.zero_le _, Nat.zero_le _⟩ (fun H locs hG => ?_)
      refine W.eq (g2 := F0 zm 30 ls [.int (zI (-3))]) rfl ?_
      exact zr_iret zC zK hG dX4_quarrels_30 (by unfold rC_quarrels; rw [if_neg (fun z => z c7), if_pos c22]) (by unfold mC_quarrels; rw [if_neg (fun z => z c7), if_pos c22])
  · refine lv_iload_n zC.1 zC.2.1 dX4_quarrels_10 rfl (lv_at hl 0 rfl) ?_
    exact zr_iret zC zK hG dX4_quarrels_11 (by unfold rC_quarrels; rw [if_pos c7]) (by unfold mC_quarrels; rw [if_pos c7])
