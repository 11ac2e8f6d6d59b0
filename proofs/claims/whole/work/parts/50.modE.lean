set_option maxHeartbeats 4000000 in
set_option maxRecDepth 100000 in
theorem c_X5_row_x {Γ : Gm} {zl : Launch} {A : Nat → Prop} {σ : Mm} {r n : Int} (hr : 0 ≤ r ∧ r < 6) (hn : 0 ≤ n ∧ n ≤ 40) : Fn Γ zl A yX5_row cX5_row 4 (some .int) 2 42 [.ref (aM Γ), .int (zI r), .int (zI n)] σ (some (.int (zI n))) (mRwM σ r n 40) := by
  refine Fn_of (by decide) (Nat.le_of_ble_eq_true rfl) ?_
  intro zp ze zs zm args below meth zc zQ H locs ls zC zK hG hl
  have hl : lv_has ls 4 [(0, .ref (aM Γ)), (1, .int (zI r)), (2, .int (zI n))] := hl
  refine lv_iload_n zC.1 zC.2.1 dX5_row_0 rfl (lv_at hl 1 rfl) ?_
  refine zr_callS zC hG (c_X5_isRow (σ := σ) (v := r) (by first | assumption | omega)) mt_X5_isRow wl_X5_64 ⟨by decide, by decide⟩ rfl hl.1 rfl (Nat.le_of_ble_eq_true rfl) dX5_row_1 ⟨Nat.zero_le _, Nat.zero_le _⟩ (fun H locs hG => ?_)
  refine W.eq (g2 := F0 zm 4 ls [.int (zI (zB (0 ≤ r ∧ r ≤ 5)))]) rfl ?_
  refine zr_ifeqB (tgt := 13) zC dX5_row_4 (by decide) (fun c4 => ?_) (fun c4 => ?_)
  · exact absurd c4 (by omega)
  · refine lv_iload_n zC.1 zC.2.1 dX5_row_7 rfl (lv_at hl 2 rfl) ?_
    refine zr_bipush zC dX5_row_8 (by decide +kernel) ?_
    refine zr_icmp_le (tgt := 15) zC dX5_row_10 (by decide) (by omega) (fun c10 => ?_) (fun c10 => ?_)
    · refine lv_iload_n zC.1 zC.2.1 dX5_row_15 rfl (lv_at hl 2 rfl) ?_
      refine zr_if_ge (tgt := 25) zC dX5_row_16 (by decide) (by omega) (fun c16 => ?_) (fun c16 => ?_)
      · refine lv_aload_n zC.1 zC.2.1 dX5_row_25 rfl (lv_at hl 0 rfl) ?_
        refine gf_M_sizes zC hG wl_X5_17 dX5_row_26 ?_
        refine lv_iload_n zC.1 zC.2.1 dX5_row_29 rfl (lv_at hl 1 rfl) ?_
        refine lv_iload_n zC.1 zC.2.1 dX5_row_30 rfl (lv_at hl 2 rfl) ?_
        refine pi_m_sizes zC hG (by omega) dX5_row_31 (fun H locs hG => ?_)
        refine zr_iconst zC dX5_row_32 ?_
        refine lv_istore_n (lv' := [(3, .int (zI 0)), (0, .ref (aM Γ)), (1, .int (zI r)), (2, .int (zI n))]) zC.1 zC.2.1 dX5_row_33 rfl hl (by decide) rfl (fun ls hl => ?_)
        have loop34 : ∀ (nf : Nat) (k : Int) (H : Heap) (locs : List Loc) (ls : Array Slot), (0 ≤ k ∧ k ≤ 40) → (40 - k < (nf : Int)) → GM Γ A (mRwM σ r n k) zs H locs → lv_has ls 4 [(0, .ref (aM Γ)), (1, .int (zI r)), (2, .int (zI n)), (3, .int (zI k))] → W zp zl ze { frames := 2, cells := 0, slots := 0, locals := 42 } zs zm args below meth zc H locs 0 0 zQ (F0 zm 34 ls []) := by
          intro nf
          induction nf with
          | zero =>
            intro k H locs ls hk hm34 _ _
            exact absurd hm34 (by omega)
          | succ nf ih34 =>
            intro k H locs ls hk hm34 hG hl
            refine lv_iload_n zC.1 zC.2.1 dX5_row_34 rfl (lv_at hl 3 rfl) ?_
            refine zr_bipush zC dX5_row_35 (by decide +kernel) ?_
            refine zr_icmp_ge (tgt := 53) zC dX5_row_37 (by decide) (by omega) (fun c37 => ?_) (fun c37 => ?_)
            · refine lv_iload_n zC.1 zC.2.1 dX5_row_53 rfl (lv_at hl 2 rfl) ?_
              exact zr_iret zC zK hG dX5_row_54 rfl (by rw [show k = 40 by omega])
            · refine lv_aload_n zC.1 zC.2.1 dX5_row_40 rfl (lv_at hl 0 rfl) ?_
              refine lv_iload_n zC.1 zC.2.1 dX5_row_41 rfl (lv_at hl 1 rfl) ?_
              refine lv_iload_n zC.1 zC.2.1 dX5_row_42 rfl (lv_at hl 3 rfl) ?_
              refine zr_iconst zC dX5_row_43 ?_
              refine zr_callV zC hG (c_X5_setRow (σ := mRwM σ r n k) (r := r) (x := k) (v := 0) (by first | assumption | omega) (by first | assumption | omega)) mt_X5_setRow wl_X5_75 pM rfl rfl ⟨by decide, by decide⟩ rfl hl.1 rfl (Nat.le_of_ble_eq_true rfl) dX5_row_44 ⟨Nat.zero_le _, Nat.zero_le _⟩ (fun H locs hG => ?_)
              refine W.eq (g2 := F0 zm 47 ls []) rfl ?_
              refine zr_iinc (lv' := [(3, .int (zI (k + 1))), (0, .ref (aM Γ)), (1, .int (zI r)), (2, .int (zI n))]) zC dX5_row_47 hl (k := 3) rfl (by decide) rfl (fun ls hl => ?_)
              refine lv_goto (tgt := 34) zC.1 zC.2.1 dX5_row_50 (by decide) ?_
              exact ih34 (k + 1) H locs ls (by first | assumption | omega) (by omega) ((show up (mRwM σ r n k) 23 0 ((40 * r) + k) 0 = mRwM σ r n (k + 1) from (mRwM_s _ _ _ _ (by omega))) ▸ hG) (lv_sub hl [1, 2, 3, 0] rfl)
        exact loop34 ((40 - 0 : Int).toNat + 1) 0 H locs ls (by first | assumption | omega) (by omega) ((show up σ 22 0 r n = mRwM σ r n 0 from (mRwM_0 _ _ _)) ▸ hG) (lv_sub hl [1, 2, 3, 0] rfl)
      · exact absurd c16 (by omega)
    · exact absurd c10 (by omega)

set_option maxHeartbeats 4000000 in
set_option maxRecDepth 100000 in
theorem c_X5_left {Γ : Gm} {zl : Launch} {A : Nat → Prop} {τ σ : Mm} {c r : Int} (hR : Rel2 τ σ) (hI : IC τ) (hc : -2147483648 ≤ c ∧ c < 2147483648) (hr : -2147483648 ≤ r ∧ r < 2147483648) : Fr Γ zl A yX5_left cX5_left 5 (some .int) 3 65 [.ref (aM Γ), .int (zI c), .int (zI r)] σ (some (.int (zI (rC_left τ c r)))) (mC_left τ c r) := by
  refine Fr_of (by decide) (Nat.le_of_ble_eq_true rfl) ?_
  intro zp ze zs zm args below meth zc zQ H locs ls zC zK hG hl
  have hl : lv_has ls 5 [(0, .ref (aM Γ)), (1, .int (zI c)), (2, .int (zI r))] := hl
  obtain ⟨hmany, htoday, -⟩ := id hI
  refine lv_aload_n zC.1 zC.2.1 dX5_left_0 rfl (lv_at hl 0 rfl) ?_
  refine lv_iload_n zC.1 zC.2.1 dX5_left_1 rfl (lv_at hl 1 rfl) ?_
  refine zr_callV zC hG (c_X5_isTown (τ := τ) (σ := σ) (c := c) hR hI (by first | assumption | omega)) mt_X5_isTown wl_X5_169 pM rfl rfl ⟨by decide, by decide⟩ rfl hl.1 rfl (Nat.le_of_ble_eq_true rfl) dX5_left_2 ⟨Nat.zero_le _, Nat.zero_le _⟩ (fun H locs hG => ?_)
  refine W.eq (g2 := F0 zm 5 ls [.int (zI (zB (isT τ c)))]) rfl ?_
  refine zr_ifeqB (tgt := 15) zC dX5_left_5 (by decide) (fun c5 => ?_) (fun c5 => ?_)
  · refine zr_iconst zC dX5_left_15 ?_
    exact zm_iret zC zK hG dX5_left_16 (by unfold rC_left; (repeat' split) <;> first | rfl | omega) (by unfold mC_left; (repeat' split) <;> first | exact hR | (exfalso; omega)) (sC_r _)
  · refine lv_iload_n zC.1 zC.2.1 dX5_left_8 rfl (lv_at hl 2 rfl) ?_
    refine zr_callS zC hG (c_X5_isRow (σ := σ) (v := r) (by first | assumption | omega)) mt_X5_isRow wl_X5_64 ⟨by decide, by decide⟩ rfl hl.1 rfl (Nat.le_of_ble_eq_true rfl) dX5_left_9 ⟨Nat.zero_le _, Nat.zero_le _⟩ (fun H locs hG => ?_)
    refine W.eq (g2 := F0 zm 12 ls [.int (zI (zB (0 ≤ r ∧ r ≤ 5)))]) rfl ?_
    refine zr_ifneB (tgt := 17) zC dX5_left_12 (by decide) (fun c12 => ?_) (fun c12 => ?_)
    · refine lv_aload_n zC.1 zC.2.1 dX5_left_17 rfl (lv_at hl 0 rfl) ?_
      refine lv_iload_n zC.1 zC.2.1 dX5_left_18 rfl (lv_at hl 1 rfl) ?_
      refine zr_callV zC hG (c_X5_take (τ := τ) (σ := σ) (c := c) hR hI (by first | assumption | omega)) mt_X5_take wl_X5_141 pM rfl rfl ⟨by decide, by decide⟩ rfl hl.1 rfl (Nat.le_of_ble_eq_true rfl) dX5_left_19 ⟨Nat.zero_le _, Nat.zero_le _⟩ (fun H locs hG => ?_)
      refine W.eq (g2 := F0 zm 22 ls []) rfl ?_
      refine lv_aload_n zC.1 zC.2.1 dX5_left_22 rfl (lv_at hl 0 rfl) ?_
      have k23 := hI.2.2.2.2.2.2.1 c (by omega) (by omega)
      obtain ⟨k23a, k23b, k23c, k23d⟩ := id k23
      refine zr_callV zC hG (c_X5_cuts (σ := up (up (up (up σ 20 0 19 (τ 6 c 0)) 20 0 20 (τ 6 c 1)) 20 0 21 (τ 6 c 2)) 20 0 22 (τ 6 c 3)) k23) mt_X5_cuts wl_X5_148 pM rfl rfl ⟨by decide, by decide⟩ rfl hl.1 rfl (Nat.le_of_ble_eq_true rfl) dX5_left_23 ⟨Nat.zero_le _, Nat.zero_le _⟩ (fun H locs hG => ?_)
      refine W.eq (g2 := F0 zm 26 ls [.int (zI (zB (ctP (τ 6 c 0))))]) rfl ?_
      refine zr_ifneB (tgt := 33) zC dX5_left_26 (by decide) (fun c26 => ?_) (fun c26 => ?_)
      · refine lv_aload_n zC.1 zC.2.1 dX5_left_33 rfl (lv_at hl 0 rfl) ?_
        refine gf_M_kind (v := (τ 6 c 0)) zC hG wl_X5_125 (by first | rfl | simp [up]) dX5_left_34 ?_
        refine zr_iconst zC dX5_left_37 ?_
        refine zr_icmp_ne (tgt := 50) zC dX5_left_38 (by decide) (by omega) (fun c38 => ?_) (fun c38 => ?_)
        · refine lv_aload_n zC.1 zC.2.1 dX5_left_50 rfl (lv_at hl 0 rfl) ?_
          refine gf_M_gap (v := (τ 6 c 3)) zC hG wl_X5_134 (by first | rfl | simp [up]) dX5_left_51 ?_
          refine zr_topi (y := tCut (τ 6 c 0) * τ 6 c 3) (by rcases tCut_c (τ 6 c 0) with ⟨h, h2⟩ | ⟨h, h2⟩ | ⟨h, h2⟩ <;> rw [h] <;> omega) ?_
          refine lv_istore_n (lv' := [(3, .int (zI (tCut (τ 6 c 0) * τ 6 c 3))), (0, .ref (aM Γ)), (1, .int (zI c)), (2, .int (zI r))]) zC.1 zC.2.1 dX5_left_54 rfl hl (by decide) rfl (fun ls hl => ?_)
          obtain ⟨kca, kcb, kcc, kcd⟩ := hI.2.2.2.2.2.2.1 c (by omega) (by omega)
          have b55 := tCut_g (k := τ 6 c 0) kcd
          refine lv_aload_n zC.1 zC.2.1 dX5_left_55 rfl (lv_at hl 1 rfl) ?_
          refine lv_iload_n zC.1 zC.2.1 dX5_left_56 rfl (lv_at hl 3 rfl) ?_
          refine lv_iload_n zC.1 zC.2.1 dX5_left_57 rfl (lv_at hl 0 rfl) ?_
          refine zr_callV zC hG (c_X5_row_x (σ := up (up (up (up σ 20 0 19 (τ 6 c 0)) 20 0 20 (τ 6 c 1)) 20 0 21 (τ 6 c 2)) 20 0 22 (τ 6 c 3)) (r := r) (n := tCut (τ 6 c 0) * τ 6 c 3) (by first | assumption | omega) (by first | assumption | omega)) mt_X5_row wl_X5_188 pM rfl rfl ⟨by decide, by decide⟩ rfl hl.1 rfl (Nat.le_of_ble_eq_true rfl) dX5_left_58 ⟨Nat.zero_le _, Nat.zero_le _⟩ (fun H locs hG => ?_)
          refine W.eq (g2 := F0 zm 61 ls [.int (zI (tCut (τ 6 c 0) * τ 6 c 3))]) rfl ?_
          refine lv_pop zC.1 zC.2.1 dX5_left_61 rfl ?_
          refine zr_iconst zC dX5_left_62 ?_
          refine lv_istore (lv' := [(4, .int (zI 0)), (3, .int (zI (tCut (τ 6 c 0) * τ 6 c 3))), (0, .ref (aM Γ)), (1, .int (zI c)), (2, .int (zI r))]) zC.1 zC.2.1 dX5_left_63 hl (by decide) rfl (fun ls hl => ?_)
          have loop65 : ∀ (nf : Nat) (k : Int) (σ65q : Mm) (H : Heap) (locs : List Loc) (ls : Array Slot), (0 ≤ k ∧ k ≤ tCut (τ 6 c 0) * τ 6 c 3) → (Rel2 (mRq τ r (tCut (τ 6 c 0) * τ 6 c 3) k (fun j => dtC (τ 6 c 0) (τ 6 c 1) (τ 6 c 2 + j + (if j < τ 6 c 3 then 0 else 1000)))) σ65q) → (sC σ σ65q) → (σ65q 20 0 19 = τ 6 c 0 ∧ σ65q 20 0 20 = τ 6 c 1 ∧ σ65q 20 0 21 = τ 6 c 2 ∧ σ65q 20 0 22 = τ 6 c 3) → (tCut (τ 6 c 0) * τ 6 c 3 - k < (nf : Int)) → GM Γ A σ65q zs H locs → lv_has ls 5 [(0, .ref (aM Γ)), (1, .int (zI c)), (2, .int (zI r)), (3, .int (zI (tCut (τ 6 c 0) * τ 6 c 3))), (4, .int (zI k))] → W zp zl ze { frames := 3, cells := 0, slots := 0, locals := 65 } zs zm args below meth zc H locs 0 0 zQ (F0 zm 65 ls []) := by
            intro nf
            induction nf with
            | zero =>
              intro k σ65q H locs ls hk hR65q hC65q hS65q hm65 _ _
              exact absurd hm65 (by omega)
            | succ nf ih65 =>
              intro k σ65q H locs ls hk hR65q hC65q hS65q hm65 hG hl
              refine lv_iload zC.1 zC.2.1 dX5_left_65 (lv_at hl 4 rfl) ?_
              refine lv_iload_n zC.1 zC.2.1 dX5_left_67 rfl (lv_at hl 3 rfl) ?_
              refine zr_icmp_ge (tgt := 112) zC dX5_left_68 (by decide) (by omega) (fun c68 => ?_) (fun c68 => ?_)
              · refine lv_iload_n zC.1 zC.2.1 dX5_left_112 rfl (lv_at hl 3 rfl) ?_
                exact zm_iret zC zK hG dX5_left_113 (by unfold rC_left; rw [if_neg (by omega)]) (by unfold mC_left; rw [if_neg (by omega), ← mRq_n]; rw [show k = tCut (τ 6 c 0) * τ 6 c 3 by omega] at hR65q; exact hR65q) hC65q
              · refine lv_aload_n zC.1 zC.2.1 dX5_left_71 rfl (lv_at hl 0 rfl) ?_
                refine lv_iload_n zC.1 zC.2.1 dX5_left_72 rfl (lv_at hl 2 rfl) ?_
                refine lv_iload zC.1 zC.2.1 dX5_left_73 (lv_at hl 4 rfl) ?_
                refine lv_aload_n zC.1 zC.2.1 dX5_left_75 rfl (lv_at hl 0 rfl) ?_
                refine lv_aload_n zC.1 zC.2.1 dX5_left_76 rfl (lv_at hl 0 rfl) ?_
                refine gf_M_order (v := τ 6 c 2) zC hG wl_X5_131 hS65q.2.2.1 dX5_left_77 ?_
                refine lv_iload zC.1 zC.2.1 dX5_left_80 (lv_at hl 4 rfl) ?_
                refine zr_iadd zC dX5_left_82 ?_
                refine lv_iload zC.1 zC.2.1 dX5_left_83 (lv_at hl 4 rfl) ?_
                refine lv_aload_n zC.1 zC.2.1 dX5_left_85 rfl (lv_at hl 0 rfl) ?_
                refine gf_M_gap (v := τ 6 c 3) zC hG wl_X5_134 hS65q.2.2.2 dX5_left_86 ?_
                refine zr_icmp_ge (tgt := 96) zC dX5_left_89 (by decide) (by omega) (fun c89 => ?_) (fun c89 => ?_)
                · refine zr_sipush zC dX5_left_96 (by decide +kernel) ?_
                  refine zr_iadd zC dX5_left_99 ?_
                  refine zr_callV zC hG (c_X5_dateOfCount (σ := σ65q) (n := ((τ 6 c 2) + k) + 1000) (CalM_of hS65q ⟨kca, kcb, kcc, kcd⟩) (by first | assumption | omega)) mt_X5_dateOfCount wl_X5_154 pM rfl rfl ⟨by decide, by decide⟩ rfl hl.1 rfl (Nat.le_of_ble_eq_true rfl) dX5_left_100 ⟨Nat.zero_le _, Nat.zero_le _⟩ (fun H locs hG => ?_)
                  refine W.eq (g2 := F0 zm 103 ls [.int (zI (dtC (σ65q 20 0 19) (σ65q 20 0 20) (((τ 6 c 2) + k) + 1000))), .int (zI k), .int (zI r), .ref (aM Γ)]) rfl ?_
                  have b100_0 := dtC_r (k := (σ65q 20 0 19)) (lp := (σ65q 20 0 20)) (n := (((τ 6 c 2) + k) + 1000)) (by omega) (by omega)
                  refine zr_topi (y := dtC (τ 6 c 0) (τ 6 c 1) (τ 6 c 2 + k + (if k < τ 6 c 3 then 0 else 1000))) (by rw [hS65q.1, hS65q.2.1]; congr 1; split <;> omega) ?_
                  refine zr_callV zC hG (c_X5_setRow (σ := σ65q) (r := r) (x := k) (v := dtC (τ 6 c 0) (τ 6 c 1) (τ 6 c 2 + k + (if k < τ 6 c 3 then 0 else 1000))) (by first | assumption | omega) (by first | assumption | omega)) mt_X5_setRow wl_X5_75 pM rfl rfl ⟨by decide, by decide⟩ rfl hl.1 rfl (Nat.le_of_ble_eq_true rfl) dX5_left_103 ⟨Nat.zero_le _, Nat.zero_le _⟩ (fun H locs hG => ?_)
                  refine W.eq (g2 := F0 zm 106 ls []) rfl ?_
                  refine zr_iinc (lv' := [(4, .int (zI (k + 1))), (0, .ref (aM Γ)), (1, .int (zI c)), (2, .int (zI r)), (3, .int (zI (tCut (τ 6 c 0) * τ 6 c 3)))]) zC dX5_left_106 hl (k := 4) rfl (by decide) rfl (fun ls hl => ?_)
                  refine lv_goto (tgt := 65) zC.1 zC.2.1 dX5_left_109 (by decide) ?_
                  exact ih65 (k + 1) (up σ65q 23 0 ((40 * r) + k) (dtC (τ 6 c 0) (τ 6 c 1) (τ 6 c 2 + k + (if k < τ 6 c 3 then 0 else 1000)))) H locs ls (by first | assumption | omega) ((show up (mRq τ r (tCut (τ 6 c 0) * τ 6 c 3) k (fun j => dtC (τ 6 c 0) (τ 6 c 1) (τ 6 c 2 + j + (if j < τ 6 c 3 then 0 else 1000)))) 3 r k (dtC (τ 6 c 0) (τ 6 c 1) (τ 6 c 2 + k + (if k < τ 6 c 3 then 0 else 1000))) = mRq τ r (tCut (τ 6 c 0) * τ 6 c 3) (k + 1) (fun j => dtC (τ 6 c 0) (τ 6 c 1) (τ 6 c 2 + j + (if j < τ 6 c 3 then 0 else 1000))) from (mRq_s _ _ _ _ _ _ (by omega) rfl)) ▸ (rl_row hR65q (by omega) (by omega))) (sC_up hC65q (by decide)) hS65q (by omega) hG (lv_sub hl [1, 2, 3, 4, 0] rfl)
                · refine zr_iconst zC dX5_left_92 ?_
                  refine lv_goto (tgt := 99) zC.1 zC.2.1 dX5_left_93 (by decide) ?_
                  refine zr_iadd zC dX5_left_99 ?_
                  refine zr_callV zC hG (c_X5_dateOfCount (σ := σ65q) (n := ((τ 6 c 2) + k) + 0) (CalM_of hS65q ⟨kca, kcb, kcc, kcd⟩) (by first | assumption | omega)) mt_X5_dateOfCount wl_X5_154 pM rfl rfl ⟨by decide, by decide⟩ rfl hl.1 rfl (Nat.le_of_ble_eq_true rfl) dX5_left_100 ⟨Nat.zero_le _, Nat.zero_le _⟩ (fun H locs hG => ?_)
                  refine W.eq (g2 := F0 zm 103 ls [.int (zI (dtC (σ65q 20 0 19) (σ65q 20 0 20) (((τ 6 c 2) + k) + 0))), .int (zI k), .int (zI r), .ref (aM Γ)]) rfl ?_
                  have b100_0 := dtC_r (k := (σ65q 20 0 19)) (lp := (σ65q 20 0 20)) (n := (((τ 6 c 2) + k) + 0)) (by omega) (by omega)
                  refine zr_topi (y := dtC (τ 6 c 0) (τ 6 c 1) (τ 6 c 2 + k + (if k < τ 6 c 3 then 0 else 1000))) (by rw [hS65q.1, hS65q.2.1]; congr 1; split <;> omega) ?_
                  refine zr_callV zC hG (c_X5_setRow (σ := σ65q) (r := r) (x := k) (v := dtC (τ 6 c 0) (τ 6 c 1) (τ 6 c 2 + k + (if k < τ 6 c 3 then 0 else 1000))) (by first | assumption | omega) (by first | assumption | omega)) mt_X5_setRow wl_X5_75 pM rfl rfl ⟨by decide, by decide⟩ rfl hl.1 rfl (Nat.le_of_ble_eq_true rfl) dX5_left_103 ⟨Nat.zero_le _, Nat.zero_le _⟩ (fun H locs hG => ?_)
                  refine W.eq (g2 := F0 zm 106 ls []) rfl ?_
                  refine zr_iinc (lv' := [(4, .int (zI (k + 1))), (0, .ref (aM Γ)), (1, .int (zI c)), (2, .int (zI r)), (3, .int (zI (tCut (τ 6 c 0) * τ 6 c 3)))]) zC dX5_left_106 hl (k := 4) rfl (by decide) rfl (fun ls hl => ?_)
                  refine lv_goto (tgt := 65) zC.1 zC.2.1 dX5_left_109 (by decide) ?_
                  exact ih65 (k + 1) (up σ65q 23 0 ((40 * r) + k) (dtC (τ 6 c 0) (τ 6 c 1) (τ 6 c 2 + k + (if k < τ 6 c 3 then 0 else 1000)))) H locs ls (by first | assumption | omega) ((show up (mRq τ r (tCut (τ 6 c 0) * τ 6 c 3) k (fun j => dtC (τ 6 c 0) (τ 6 c 1) (τ 6 c 2 + j + (if j < τ 6 c 3 then 0 else 1000)))) 3 r k (dtC (τ 6 c 0) (τ 6 c 1) (τ 6 c 2 + k + (if k < τ 6 c 3 then 0 else 1000))) = mRq τ r (tCut (τ 6 c 0) * τ 6 c 3) (k + 1) (fun j => dtC (τ 6 c 0) (τ 6 c 1) (τ 6 c 2 + j + (if j < τ 6 c 3 then 0 else 1000))) from (mRq_s _ _ _ _ _ _ (by omega) rfl)) ▸ (rl_row hR65q (by omega) (by omega))) (sC_up hC65q (by decide)) hS65q (by omega) hG (lv_sub hl [1, 2, 3, 4, 0] rfl)
          exact loop65 ((tCut (τ 6 c 0) * τ 6 c 3 - 0 : Int).toNat + 1) 0 (mRwM (up (up (up (up σ 20 0 19 (τ 6 c 0)) 20 0 20 (τ 6 c 1)) 20 0 21 (τ 6 c 2)) 20 0 22 (τ 6 c 3)) r (tCut (τ 6 c 0) * τ 6 c 3) 40) H locs ls (by first | assumption | omega) ((show mFill (up τ 2 r 1 (tCut (τ 6 c 0) * τ 6 c 3)) 3 r 40 0 = mRq τ r (tCut (τ 6 c 0) * τ 6 c 3) 0 (fun j => dtC (τ 6 c 0) (τ 6 c 1) (τ 6 c 2 + j + (if j < τ 6 c 3 then 0 else 1000))) from (mRq_0 _ _ _ _)) ▸ (rl_rw hR (by omega) (by omega))) (sC_rw (sC_up (sC_up (sC_up (sC_up (sC_r _) (by decide)) (by decide)) (by decide)) (by decide))) ⟨rfl, rfl, rfl, rfl⟩ (by omega) hG (lv_sub hl [2, 3, 4, 1, 0] rfl)
        · refine zr_iconst zC dX5_left_41 ?_
          refine lv_aload_n zC.1 zC.2.1 dX5_left_42 rfl (lv_at hl 0 rfl) ?_
          refine gf_M_gap (v := (τ 6 c 3)) zC hG wl_X5_134 (by first | rfl | simp [up]) dX5_left_43 ?_
          refine zr_imul zC dX5_left_46 ?_
          refine lv_goto (tgt := 54) zC.1 zC.2.1 dX5_left_47 (by decide) ?_
          refine zr_topi (y := tCut (τ 6 c 0) * τ 6 c 3) (by rcases tCut_c (τ 6 c 0) with ⟨h, h2⟩ | ⟨h, h2⟩ | ⟨h, h2⟩ <;> rw [h] <;> omega) ?_
          refine lv_istore_n (lv' := [(3, .int (zI (tCut (τ 6 c 0) * τ 6 c 3))), (0, .ref (aM Γ)), (1, .int (zI c)), (2, .int (zI r))]) zC.1 zC.2.1 dX5_left_54 rfl hl (by decide) rfl (fun ls hl => ?_)
          obtain ⟨kca, kcb, kcc, kcd⟩ := hI.2.2.2.2.2.2.1 c (by omega) (by omega)
          have b55 := tCut_g (k := τ 6 c 0) kcd
          refine lv_aload_n zC.1 zC.2.1 dX5_left_55 rfl (lv_at hl 1 rfl) ?_
          refine lv_iload_n zC.1 zC.2.1 dX5_left_56 rfl (lv_at hl 3 rfl) ?_
          refine lv_iload_n zC.1 zC.2.1 dX5_left_57 rfl (lv_at hl 0 rfl) ?_
          refine zr_callV zC hG (c_X5_row_x (σ := up (up (up (up σ 20 0 19 (τ 6 c 0)) 20 0 20 (τ 6 c 1)) 20 0 21 (τ 6 c 2)) 20 0 22 (τ 6 c 3)) (r := r) (n := tCut (τ 6 c 0) * τ 6 c 3) (by first | assumption | omega) (by first | assumption | omega)) mt_X5_row wl_X5_188 pM rfl rfl ⟨by decide, by decide⟩ rfl hl.1 rfl (Nat.le_of_ble_eq_true rfl) dX5_left_58 ⟨Nat.zero_le _, Nat.zero_le _⟩ (fun H locs hG => ?_)
          refine W.eq (g2 := F0 zm 61 ls [.int (zI (tCut (τ 6 c 0) * τ 6 c 3))]) rfl ?_
          refine lv_pop zC.1 zC.2.1 dX5_left_61 rfl ?_
          refine zr_iconst zC dX5_left_62 ?_
          refine lv_istore (lv' := [(4, .int (zI 0)), (3, .int (zI (tCut (τ 6 c 0) * τ 6 c 3))), (0, .ref (aM Γ)), (1, .int (zI c)), (2, .int (zI r))]) zC.1 zC.2.1 dX5_left_63 hl (by decide) rfl (fun ls hl => ?_)
          have loop65 : ∀ (nf : Nat) (k : Int) (σ65q : Mm) (H : Heap) (locs : List Loc) (ls : Array Slot), (0 ≤ k ∧ k ≤ tCut (τ 6 c 0) * τ 6 c 3) → (Rel2 (mRq τ r (tCut (τ 6 c 0) * τ 6 c 3) k (fun j => dtC (τ 6 c 0) (τ 6 c 1) (τ 6 c 2 + j + (if j < τ 6 c 3 then 0 else 1000)))) σ65q) → (sC σ σ65q) → (σ65q 20 0 19 = τ 6 c 0 ∧ σ65q 20 0 20 = τ 6 c 1 ∧ σ65q 20 0 21 = τ 6 c 2 ∧ σ65q 20 0 22 = τ 6 c 3) → (tCut (τ 6 c 0) * τ 6 c 3 - k < (nf : Int)) → GM Γ A σ65q zs H locs → lv_has ls 5 [(0, .ref (aM Γ)), (1, .int (zI c)), (2, .int (zI r)), (3, .int (zI (tCut (τ 6 c 0) * τ 6 c 3))), (4, .int (zI k))] → W zp zl ze { frames := 3, cells := 0, slots := 0, locals := 65 } zs zm args below meth zc H locs 0 0 zQ (F0 zm 65 ls []) := by
            intro nf
            induction nf with
            | zero =>
              intro k σ65q H locs ls hk hR65q hC65q hS65q hm65 _ _
              exact absurd hm65 (by omega)
            | succ nf ih65 =>
              intro k σ65q H locs ls hk hR65q hC65q hS65q hm65 hG hl
              refine lv_iload zC.1 zC.2.1 dX5_left_65 (lv_at hl 4 rfl) ?_
              refine lv_iload_n zC.1 zC.2.1 dX5_left_67 rfl (lv_at hl 3 rfl) ?_
              refine zr_icmp_ge (tgt := 112) zC dX5_left_68 (by decide) (by omega) (fun c68 => ?_) (fun c68 => ?_)
              · refine lv_iload_n zC.1 zC.2.1 dX5_left_112 rfl (lv_at hl 3 rfl) ?_
                exact zm_iret zC zK hG dX5_left_113 (by unfold rC_left; rw [if_neg (by omega)]) (by unfold mC_left; rw [if_neg (by omega), ← mRq_n]; rw [show k = tCut (τ 6 c 0) * τ 6 c 3 by omega] at hR65q; exact hR65q) hC65q
              · refine lv_aload_n zC.1 zC.2.1 dX5_left_71 rfl (lv_at hl 0 rfl) ?_
                refine lv_iload_n zC.1 zC.2.1 dX5_left_72 rfl (lv_at hl 2 rfl) ?_
                refine lv_iload zC.1 zC.2.1 dX5_left_73 (lv_at hl 4 rfl) ?_
                refine lv_aload_n zC.1 zC.2.1 dX5_left_75 rfl (lv_at hl 0 rfl) ?_
                refine lv_aload_n zC.1 zC.2.1 dX5_left_76 rfl (lv_at hl 0 rfl) ?_
                refine gf_M_order (v := τ 6 c 2) zC hG wl_X5_131 hS65q.2.2.1 dX5_left_77 ?_
                refine lv_iload zC.1 zC.2.1 dX5_left_80 (lv_at hl 4 rfl) ?_
                refine zr_iadd zC dX5_left_82 ?_
                refine lv_iload zC.1 zC.2.1 dX5_left_83 (lv_at hl 4 rfl) ?_
                refine lv_aload_n zC.1 zC.2.1 dX5_left_85 rfl (lv_at hl 0 rfl) ?_
                refine gf_M_gap (v := τ 6 c 3) zC hG wl_X5_134 hS65q.2.2.2 dX5_left_86 ?_
                refine zr_icmp_ge (tgt := 96) zC dX5_left_89 (by decide) (by omega) (fun c89 => ?_) (fun c89 => ?_)
                · refine zr_sipush zC dX5_left_96 (by decide +kernel) ?_
                  refine zr_iadd zC dX5_left_99 ?_
                  refine zr_callV zC hG (c_X5_dateOfCount (σ := σ65q) (n := ((τ 6 c 2) + k) + 1000) (CalM_of hS65q ⟨kca, kcb, kcc, kcd⟩) (by first | assumption | omega)) mt_X5_dateOfCount wl_X5_154 pM rfl rfl ⟨by decide, by decide⟩ rfl hl.1 rfl (Nat.le_of_ble_eq_true rfl) dX5_left_100 ⟨Nat.zero_le _, Nat.zero_le _⟩ (fun H locs hG => ?_)
                  refine W.eq (g2 := F0 zm 103 ls [.int (zI (dtC (σ65q 20 0 19) (σ65q 20 0 20) (((τ 6 c 2) + k) + 1000))), .int (zI k), .int (zI r), .ref (aM Γ)]) rfl ?_
                  have b100_0 := dtC_r (k := (σ65q 20 0 19)) (lp := (σ65q 20 0 20)) (n := (((τ 6 c 2) + k) + 1000)) (by omega) (by omega)
                  refine zr_topi (y := dtC (τ 6 c 0) (τ 6 c 1) (τ 6 c 2 + k + (if k < τ 6 c 3 then 0 else 1000))) (by rw [hS65q.1, hS65q.2.1]; congr 1; split <;> omega) ?_
                  refine zr_callV zC hG (c_X5_setRow (σ := σ65q) (r := r) (x := k) (v := dtC (τ 6 c 0) (τ 6 c 1) (τ 6 c 2 + k + (if k < τ 6 c 3 then 0 else 1000))) (by first | assumption | omega) (by first | assumption | omega)) mt_X5_setRow wl_X5_75 pM rfl rfl ⟨by decide, by decide⟩ rfl hl.1 rfl (Nat.le_of_ble_eq_true rfl) dX5_left_103 ⟨Nat.zero_le _, Nat.zero_le _⟩ (fun H locs hG => ?_)
                  refine W.eq (g2 := F0 zm 106 ls []) rfl ?_
                  refine zr_iinc (lv' := [(4, .int (zI (k + 1))), (0, .ref (aM Γ)), (1, .int (zI c)), (2, .int (zI r)), (3, .int (zI (tCut (τ 6 c 0) * τ 6 c 3)))]) zC dX5_left_106 hl (k := 4) rfl (by decide) rfl (fun ls hl => ?_)
                  refine lv_goto (tgt := 65) zC.1 zC.2.1 dX5_left_109 (by decide) ?_
                  exact ih65 (k + 1) (up σ65q 23 0 ((40 * r) + k) (dtC (τ 6 c 0) (τ 6 c 1) (τ 6 c 2 + k + (if k < τ 6 c 3 then 0 else 1000)))) H locs ls (by first | assumption | omega) ((show up (mRq τ r (tCut (τ 6 c 0) * τ 6 c 3) k (fun j => dtC (τ 6 c 0) (τ 6 c 1) (τ 6 c 2 + j + (if j < τ 6 c 3 then 0 else 1000)))) 3 r k (dtC (τ 6 c 0) (τ 6 c 1) (τ 6 c 2 + k + (if k < τ 6 c 3 then 0 else 1000))) = mRq τ r (tCut (τ 6 c 0) * τ 6 c 3) (k + 1) (fun j => dtC (τ 6 c 0) (τ 6 c 1) (τ 6 c 2 + j + (if j < τ 6 c 3 then 0 else 1000))) from (mRq_s _ _ _ _ _ _ (by omega) rfl)) ▸ (rl_row hR65q (by omega) (by omega))) (sC_up hC65q (by decide)) hS65q (by omega) hG (lv_sub hl [1, 2, 3, 4, 0] rfl)
                · refine zr_iconst zC dX5_left_92 ?_
                  refine lv_goto (tgt := 99) zC.1 zC.2.1 dX5_left_93 (by decide) ?_
                  refine zr_iadd zC dX5_left_99 ?_
                  refine zr_callV zC hG (c_X5_dateOfCount (σ := σ65q) (n := ((τ 6 c 2) + k) + 0) (CalM_of hS65q ⟨kca, kcb, kcc, kcd⟩) (by first | assumption | omega)) mt_X5_dateOfCount wl_X5_154 pM rfl rfl ⟨by decide, by decide⟩ rfl hl.1 rfl (Nat.le_of_ble_eq_true rfl) dX5_left_100 ⟨Nat.zero_le _, Nat.zero_le _⟩ (fun H locs hG => ?_)
                  refine W.eq (g2 := F0 zm 103 ls [.int (zI (dtC (σ65q 20 0 19) (σ65q 20 0 20) (((τ 6 c 2) + k) + 0))), .int (zI k), .int (zI r), .ref (aM Γ)]) rfl ?_
                  have b100_0 := dtC_r (k := (σ65q 20 0 19)) (lp := (σ65q 20 0 20)) (n := (((τ 6 c 2) + k) + 0)) (by omega) (by omega)
                  refine zr_topi (y := dtC (τ 6 c 0) (τ 6 c 1) (τ 6 c 2 + k + (if k < τ 6 c 3 then 0 else 1000))) (by rw [hS65q.1, hS65q.2.1]; congr 1; split <;> omega) ?_
                  refine zr_callV zC hG (c_X5_setRow (σ := σ65q) (r := r) (x := k) (v := dtC (τ 6 c 0) (τ 6 c 1) (τ 6 c 2 + k + (if k < τ 6 c 3 then 0 else 1000))) (by first | assumption | omega) (by first | assumption | omega)) mt_X5_setRow wl_X5_75 pM rfl rfl ⟨by decide, by decide⟩ rfl hl.1 rfl (Nat.le_of_ble_eq_true rfl) dX5_left_103 ⟨Nat.zero_le _, Nat.zero_le _⟩ (fun H locs hG => ?_)
                  refine W.eq (g2 := F0 zm 106 ls []) rfl ?_
                  refine zr_iinc (lv' := [(4, .int (zI (k + 1))), (0, .ref (aM Γ)), (1, .int (zI c)), (2, .int (zI r)), (3, .int (zI (tCut (τ 6 c 0) * τ 6 c 3)))]) zC dX5_left_106 hl (k := 4) rfl (by decide) rfl (fun ls hl => ?_)
                  refine lv_goto (tgt := 65) zC.1 zC.2.1 dX5_left_109 (by decide) ?_
                  exact ih65 (k + 1) (up σ65q 23 0 ((40 * r) + k) (dtC (τ 6 c 0) (τ 6 c 1) (τ 6 c 2 + k + (if k < τ 6 c 3 then 0 else 1000)))) H locs ls (by first | assumption | omega) ((show up (mRq τ r (tCut (τ 6 c 0) * τ 6 c 3) k (fun j => dtC (τ 6 c 0) (τ 6 c 1) (τ 6 c 2 + j + (if j < τ 6 c 3 then 0 else 1000)))) 3 r k (dtC (τ 6 c 0) (τ 6 c 1) (τ 6 c 2 + k + (if k < τ 6 c 3 then 0 else 1000))) = mRq τ r (tCut (τ 6 c 0) * τ 6 c 3) (k + 1) (fun j => dtC (τ 6 c 0) (τ 6 c 1) (τ 6 c 2 + j + (if j < τ 6 c 3 then 0 else 1000))) from (mRq_s _ _ _ _ _ _ (by omega) rfl)) ▸ (rl_row hR65q (by omega) (by omega))) (sC_up hC65q (by decide)) hS65q (by omega) hG (lv_sub hl [1, 2, 3, 4, 0] rfl)
          exact loop65 ((tCut (τ 6 c 0) * τ 6 c 3 - 0 : Int).toNat + 1) 0 (mRwM (up (up (up (up σ 20 0 19 (τ 6 c 0)) 20 0 20 (τ 6 c 1)) 20 0 21 (τ 6 c 2)) 20 0 22 (τ 6 c 3)) r (tCut (τ 6 c 0) * τ 6 c 3) 40) H locs ls (by first | assumption | omega) ((show mFill (up τ 2 r 1 (tCut (τ 6 c 0) * τ 6 c 3)) 3 r 40 0 = mRq τ r (tCut (τ 6 c 0) * τ 6 c 3) 0 (fun j => dtC (τ 6 c 0) (τ 6 c 1) (τ 6 c 2 + j + (if j < τ 6 c 3 then 0 else 1000))) from (mRq_0 _ _ _ _)) ▸ (rl_rw hR (by omega) (by omega))) (sC_rw (sC_up (sC_up (sC_up (sC_up (sC_r _) (by decide)) (by decide)) (by decide)) (by decide))) ⟨rfl, rfl, rfl, rfl⟩ (by omega) hG (lv_sub hl [2, 3, 4, 1, 0] rfl)
      · refine zr_iconst zC dX5_left_29 ?_
        refine lv_goto (tgt := 54) zC.1 zC.2.1 dX5_left_30 (by decide) ?_
        refine zr_topi (y := tCut (τ 6 c 0) * τ 6 c 3) (by rcases tCut_c (τ 6 c 0) with ⟨h, h2⟩ | ⟨h, h2⟩ | ⟨h, h2⟩ <;> rw [h] <;> omega) ?_
        refine lv_istore_n (lv' := [(3, .int (zI (tCut (τ 6 c 0) * τ 6 c 3))), (0, .ref (aM Γ)), (1, .int (zI c)), (2, .int (zI r))]) zC.1 zC.2.1 dX5_left_54 rfl hl (by decide) rfl (fun ls hl => ?_)
        obtain ⟨kca, kcb, kcc, kcd⟩ := hI.2.2.2.2.2.2.1 c (by omega) (by omega)
        have b55 := tCut_g (k := τ 6 c 0) kcd
        refine lv_aload_n zC.1 zC.2.1 dX5_left_55 rfl (lv_at hl 1 rfl) ?_
        refine lv_iload_n zC.1 zC.2.1 dX5_left_56 rfl (lv_at hl 3 rfl) ?_
        refine lv_iload_n zC.1 zC.2.1 dX5_left_57 rfl (lv_at hl 0 rfl) ?_
        refine zr_callV zC hG (c_X5_row_x (σ := up (up (up (up σ 20 0 19 (τ 6 c 0)) 20 0 20 (τ 6 c 1)) 20 0 21 (τ 6 c 2)) 20 0 22 (τ 6 c 3)) (r := r) (n := tCut (τ 6 c 0) * τ 6 c 3) (by first | assumption | omega) (by first | assumption | omega)) mt_X5_row wl_X5_188 pM rfl rfl ⟨by decide, by decide⟩ rfl hl.1 rfl (Nat.le_of_ble_eq_true rfl) dX5_left_58 ⟨Nat.zero_le _, Nat.zero_le _⟩ (fun H locs hG => ?_)
        refine W.eq (g2 := F0 zm 61 ls [.int (zI (tCut (τ 6 c 0) * τ 6 c 3))]) rfl ?_
        refine lv_pop zC.1 zC.2.1 dX5_left_61 rfl ?_
        refine zr_iconst zC dX5_left_62 ?_
        refine lv_istore (lv' := [(4, .int (zI 0)), (3, .int (zI (tCut (τ 6 c 0) * τ 6 c 3))), (0, .ref (aM Γ)), (1, .int (zI c)), (2, .int (zI r))]) zC.1 zC.2.1 dX5_left_63 hl (by decide) rfl (fun ls hl => ?_)
        have loop65 : ∀ (nf : Nat) (k : Int) (σ65q : Mm) (H : Heap) (locs : List Loc) (ls : Array Slot), (0 ≤ k ∧ k ≤ tCut (τ 6 c 0) * τ 6 c 3) → (Rel2 (mRq τ r (tCut (τ 6 c 0) * τ 6 c 3) k (fun j => dtC (τ 6 c 0) (τ 6 c 1) (τ 6 c 2 + j + (if j < τ 6 c 3 then 0 else 1000)))) σ65q) → (sC σ σ65q) → (σ65q 20 0 19 = τ 6 c 0 ∧ σ65q 20 0 20 = τ 6 c 1 ∧ σ65q 20 0 21 = τ 6 c 2 ∧ σ65q 20 0 22 = τ 6 c 3) → (tCut (τ 6 c 0) * τ 6 c 3 - k < (nf : Int)) → GM Γ A σ65q zs H locs → lv_has ls 5 [(0, .ref (aM Γ)), (1, .int (zI c)), (2, .int (zI r)), (3, .int (zI (tCut (τ 6 c 0) * τ 6 c 3))), (4, .int (zI k))] → W zp zl ze { frames := 3, cells := 0, slots := 0, locals := 65 } zs zm args below meth zc H locs 0 0 zQ (F0 zm 65 ls []) := by
          intro nf
          induction nf with
          | zero =>
            intro k σ65q H locs ls hk hR65q hC65q hS65q hm65 _ _
            exact absurd hm65 (by omega)
          | succ nf ih65 =>
            intro k σ65q H locs ls hk hR65q hC65q hS65q hm65 hG hl
            refine lv_iload zC.1 zC.2.1 dX5_left_65 (lv_at hl 4 rfl) ?_
            refine lv_iload_n zC.1 zC.2.1 dX5_left_67 rfl (lv_at hl 3 rfl) ?_
            refine zr_icmp_ge (tgt := 112) zC dX5_left_68 (by decide) (by omega) (fun c68 => ?_) (fun c68 => ?_)
            · refine lv_iload_n zC.1 zC.2.1 dX5_left_112 rfl (lv_at hl 3 rfl) ?_
              exact zm_iret zC zK hG dX5_left_113 (by unfold rC_left; rw [if_neg (by omega)]) (by unfold mC_left; rw [if_neg (by omega), ← mRq_n]; rw [show k = tCut (τ 6 c 0) * τ 6 c 3 by omega] at hR65q; exact hR65q) hC65q
            · refine lv_aload_n zC.1 zC.2.1 dX5_left_71 rfl (lv_at hl 0 rfl) ?_
              refine lv_iload_n zC.1 zC.2.1 dX5_left_72 rfl (lv_at hl 2 rfl) ?_
              refine lv_iload zC.1 zC.2.1 dX5_left_73 (lv_at hl 4 rfl) ?_
              refine lv_aload_n zC.1 zC.2.1 dX5_left_75 rfl (lv_at hl 0 rfl) ?_
              refine lv_aload_n zC.1 zC.2.1 dX5_left_76 rfl (lv_at hl 0 rfl) ?_
              refine gf_M_order (v := τ 6 c 2) zC hG wl_X5_131 hS65q.2.2.1 dX5_left_77 ?_
              refine lv_iload zC.1 zC.2.1 dX5_left_80 (lv_at hl 4 rfl) ?_
              refine zr_iadd zC dX5_left_82 ?_
              refine lv_iload zC.1 zC.2.1 dX5_left_83 (lv_at hl 4 rfl) ?_
              refine lv_aload_n zC.1 zC.2.1 dX5_left_85 rfl (lv_at hl 0 rfl) ?_
              refine gf_M_gap (v := τ 6 c 3) zC hG wl_X5_134 hS65q.2.2.2 dX5_left_86 ?_
              refine zr_icmp_ge (tgt := 96) zC dX5_left_89 (by decide) (by omega) (fun c89 => ?_) (fun c89 => ?_)
              · refine zr_sipush zC dX5_left_96 (by decide +kernel) ?_
                refine zr_iadd zC dX5_left_99 ?_
                refine zr_callV zC hG (c_X5_dateOfCount (σ := σ65q) (n := ((τ 6 c 2) + k) + 1000) (CalM_of hS65q ⟨kca, kcb, kcc, kcd⟩) (by first | assumption | omega)) mt_X5_dateOfCount wl_X5_154 pM rfl rfl ⟨by decide, by decide⟩ rfl hl.1 rfl (Nat.le_of_ble_eq_true rfl) dX5_left_100 ⟨Nat.zero_le _, Nat.zero_le _⟩ (fun H locs hG => ?_)
                refine W.eq (g2 := F0 zm 103 ls [.int (zI (dtC (σ65q 20 0 19) (σ65q 20 0 20) (((τ 6 c 2) + k) + 1000))), .int (zI k), .int (zI r), .ref (aM Γ)]) rfl ?_
                have b100_0 := dtC_r (k := (σ65q 20 0 19)) (lp := (σ65q 20 0 20)) (n := (((τ 6 c 2) + k) + 1000)) (by omega) (by omega)
                refine zr_topi (y := dtC (τ 6 c 0) (τ 6 c 1) (τ 6 c 2 + k + (if k < τ 6 c 3 then 0 else 1000))) (by rw [hS65q.1, hS65q.2.1]; congr 1; split <;> omega) ?_
                refine zr_callV zC hG (c_X5_setRow (σ := σ65q) (r := r) (x := k) (v := dtC (τ 6 c 0) (τ 6 c 1) (τ 6 c 2 + k + (if k < τ 6 c 3 then 0 else 1000))) (by first | assumption | omega) (by first | assumption | omega)) mt_X5_setRow wl_X5_75 pM rfl rfl ⟨by decide, by decide⟩ rfl hl.1 rfl (Nat.le_of_ble_eq_true rfl) dX5_left_103 ⟨Nat.zero_le _, Nat.zero_le _⟩ (fun H locs hG => ?_)
                refine W.eq (g2 := F0 zm 106 ls []) rfl ?_
                refine zr_iinc (lv' := [(4, .int (zI (k + 1))), (0, .ref (aM Γ)), (1, .int (zI c)), (2, .int (zI r)), (3, .int (zI (tCut (τ 6 c 0) * τ 6 c 3)))]) zC dX5_left_106 hl (k := 4) rfl (by decide) rfl (fun ls hl => ?_)
                refine lv_goto (tgt := 65) zC.1 zC.2.1 dX5_left_109 (by decide) ?_
                exact ih65 (k + 1) (up σ65q 23 0 ((40 * r) + k) (dtC (τ 6 c 0) (τ 6 c 1) (τ 6 c 2 + k + (if k < τ 6 c 3 then 0 else 1000)))) H locs ls (by first | assumption | omega) ((show up (mRq τ r (tCut (τ 6 c 0) * τ 6 c 3) k (fun j => dtC (τ 6 c 0) (τ 6 c 1) (τ 6 c 2 + j + (if j < τ 6 c 3 then 0 else 1000)))) 3 r k (dtC (τ 6 c 0) (τ 6 c 1) (τ 6 c 2 + k + (if k < τ 6 c 3 then 0 else 1000))) = mRq τ r (tCut (τ 6 c 0) * τ 6 c 3) (k + 1) (fun j => dtC (τ 6 c 0) (τ 6 c 1) (τ 6 c 2 + j + (if j < τ 6 c 3 then 0 else 1000))) from (mRq_s _ _ _ _ _ _ (by omega) rfl)) ▸ (rl_row hR65q (by omega) (by omega))) (sC_up hC65q (by decide)) hS65q (by omega) hG (lv_sub hl [1, 2, 3, 4, 0] rfl)
              · refine zr_iconst zC dX5_left_92 ?_
                refine lv_goto (tgt := 99) zC.1 zC.2.1 dX5_left_93 (by decide) ?_
                refine zr_iadd zC dX5_left_99 ?_
                refine zr_callV zC hG (c_X5_dateOfCount (σ := σ65q) (n := ((τ 6 c 2) + k) + 0) (CalM_of hS65q ⟨kca, kcb, kcc, kcd⟩) (by first | assumption | omega)) mt_X5_dateOfCount wl_X5_154 pM rfl rfl ⟨by decide, by decide⟩ rfl hl.1 rfl (Nat.le_of_ble_eq_true rfl) dX5_left_100 ⟨Nat.zero_le _, Nat.zero_le _⟩ (fun H locs hG => ?_)
                refine W.eq (g2 := F0 zm 103 ls [.int (zI (dtC (σ65q 20 0 19) (σ65q 20 0 20) (((τ 6 c 2) + k) + 0))), .int (zI k), .int (zI r), .ref (aM Γ)]) rfl ?_
                have b100_0 := dtC_r (k := (σ65q 20 0 19)) (lp := (σ65q 20 0 20)) (n := (((τ 6 c 2) + k) + 0)) (by omega) (by omega)
                refine zr_topi (y := dtC (τ 6 c 0) (τ 6 c 1) (τ 6 c 2 + k + (if k < τ 6 c 3 then 0 else 1000))) (by rw [hS65q.1, hS65q.2.1]; congr 1; split <;> omega) ?_
                refine zr_callV zC hG (c_X5_setRow (σ := σ65q) (r := r) (x := k) (v := dtC (τ 6 c 0) (τ 6 c 1) (τ 6 c 2 + k + (if k < τ 6 c 3 then 0 else 1000))) (by first | assumption | omega) (by first | assumption | omega)) mt_X5_setRow wl_X5_75 pM rfl rfl ⟨by decide, by decide⟩ rfl hl.1 rfl (Nat.le_of_ble_eq_true rfl) dX5_left_103 ⟨Nat.zero_le _, Nat.zero_le _⟩ (fun H locs hG => ?_)
                refine W.eq (g2 := F0 zm 106 ls []) rfl ?_
                refine zr_iinc (lv' := [(4, .int (zI (k + 1))), (0, .ref (aM Γ)), (1, .int (zI c)), (2, .int (zI r)), (3, .int (zI (tCut (τ 6 c 0) * τ 6 c 3)))]) zC dX5_left_106 hl (k := 4) rfl (by decide) rfl (fun ls hl => ?_)
                refine lv_goto (tgt := 65) zC.1 zC.2.1 dX5_left_109 (by decide) ?_
                exact ih65 (k + 1) (up σ65q 23 0 ((40 * r) + k) (dtC (τ 6 c 0) (τ 6 c 1) (τ 6 c 2 + k + (if k < τ 6 c 3 then 0 else 1000)))) H locs ls (by first | assumption | omega) ((show up (mRq τ r (tCut (τ 6 c 0) * τ 6 c 3) k (fun j => dtC (τ 6 c 0) (τ 6 c 1) (τ 6 c 2 + j + (if j < τ 6 c 3 then 0 else 1000)))) 3 r k (dtC (τ 6 c 0) (τ 6 c 1) (τ 6 c 2 + k + (if k < τ 6 c 3 then 0 else 1000))) = mRq τ r (tCut (τ 6 c 0) * τ 6 c 3) (k + 1) (fun j => dtC (τ 6 c 0) (τ 6 c 1) (τ 6 c 2 + j + (if j < τ 6 c 3 then 0 else 1000))) from (mRq_s _ _ _ _ _ _ (by omega) rfl)) ▸ (rl_row hR65q (by omega) (by omega))) (sC_up hC65q (by decide)) hS65q (by omega) hG (lv_sub hl [1, 2, 3, 4, 0] rfl)
        exact loop65 ((tCut (τ 6 c 0) * τ 6 c 3 - 0 : Int).toNat + 1) 0 (mRwM (up (up (up (up σ 20 0 19 (τ 6 c 0)) 20 0 20 (τ 6 c 1)) 20 0 21 (τ 6 c 2)) 20 0 22 (τ 6 c 3)) r (tCut (τ 6 c 0) * τ 6 c 3) 40) H locs ls (by first | assumption | omega) ((show mFill (up τ 2 r 1 (tCut (τ 6 c 0) * τ 6 c 3)) 3 r 40 0 = mRq τ r (tCut (τ 6 c 0) * τ 6 c 3) 0 (fun j => dtC (τ 6 c 0) (τ 6 c 1) (τ 6 c 2 + j + (if j < τ 6 c 3 then 0 else 1000))) from (mRq_0 _ _ _ _)) ▸ (rl_rw hR (by omega) (by omega))) (sC_rw (sC_up (sC_up (sC_up (sC_up (sC_r _) (by decide)) (by decide)) (by decide)) (by decide))) ⟨rfl, rfl, rfl, rfl⟩ (by omega) hG (lv_sub hl [2, 3, 4, 1, 0] rfl)
    · refine zr_iconst zC dX5_left_15 ?_
      exact zm_iret zC zK hG dX5_left_16 (by unfold rC_left; (repeat' split) <;> first | rfl | omega) (by unfold mC_left; (repeat' split) <;> first | exact hR | (exfalso; omega)) (sC_r _)

set_option maxHeartbeats 4000000 in
set_option maxRecDepth 100000 in
theorem c_X5_dates {Γ : Gm} {zl : Launch} {A : Nat → Prop} {τ σ : Mm} {c a b r : Int} (hR : Rel2 τ σ) (hI : IC τ) (hc : -2147483648 ≤ c ∧ c < 2147483648) (ha : -2147483648 ≤ a ∧ a < 2147483648) (hb : -2147483648 ≤ b ∧ b < 2147483648) (hr : -2147483648 ≤ r ∧ r < 2147483648) : Fr Γ zl A yX5_dates cX5_dates 6 (some .int) 5 106 [.ref (aM Γ), .int (zI c), .int (zI a), .int (zI b), .int (zI r)] σ (some (.int (zI (rC_dates τ c a b r)))) (mC_dates τ c a b r) := by
  refine Fr_of (by decide) (Nat.le_of_ble_eq_true rfl) ?_
  intro zp ze zs zm args below meth zc zQ H locs ls zC zK hG hl
  have hl : lv_has ls 6 [(0, .ref (aM Γ)), (1, .int (zI c)), (2, .int (zI a)), (3, .int (zI b)), (4, .int (zI r))] := hl
  obtain ⟨hmany, htoday, -⟩ := id hI
  refine lv_aload_n zC.1 zC.2.1 dX5_dates_0 rfl (lv_at hl 0 rfl) ?_
  refine lv_iload_n zC.1 zC.2.1 dX5_dates_1 rfl (lv_at hl 1 rfl) ?_
  refine zr_callV zC hG (c_X5_isTown (τ := τ) (σ := σ) (c := c) hR hI (by first | assumption | omega)) mt_X5_isTown wl_X5_169 pM rfl rfl ⟨by decide, by decide⟩ rfl hl.1 rfl (Nat.le_of_ble_eq_true rfl) dX5_dates_2 ⟨Nat.zero_le _, Nat.zero_le _⟩ (fun H locs hG => ?_)
  refine W.eq (g2 := F0 zm 5 ls [.int (zI (zB (isT τ c)))]) rfl ?_
  refine zr_ifeqB (tgt := 32) zC dX5_dates_5 (by decide) (fun c5 => ?_) (fun c5 => ?_)
  · refine zr_iconst zC dX5_dates_32 ?_
    exact zm_iret zC zK hG dX5_dates_33 (by unfold rC_dates; (repeat' split) <;> first | rfl | omega) (by unfold mC_dates; (repeat' split) <;> first | exact hR | (exfalso; omega)) (sC_r _)
  · refine lv_iload_n zC.1 zC.2.1 dX5_dates_8 rfl (lv_at hl 2 rfl) ?_
    refine lv_iload_n zC.1 zC.2.1 dX5_dates_9 rfl (lv_at hl 3 rfl) ?_
    refine zr_callS zC hG (c_X5_areDays (σ := σ) (a := a) (b := b) (by first | assumption | omega) (by first | assumption | omega)) mt_X5_areDays wl_X5_191 ⟨by decide, by decide⟩ rfl hl.1 rfl (Nat.le_of_ble_eq_true rfl) dX5_dates_10 ⟨Nat.zero_le _, Nat.zero_le _⟩ (fun H locs hG => ?_)
    refine W.eq (g2 := F0 zm 13 ls [.int (zI (zB (0 ≤ a ∧ a ≤ b ∧ b ≤ 19999)))]) rfl ?_
    refine zr_ifeqB (tgt := 32) zC dX5_dates_13 (by decide) (fun c13 => ?_) (fun c13 => ?_)
    · refine zr_iconst zC dX5_dates_32 ?_
      exact zm_iret zC zK hG dX5_dates_33 (by unfold rC_dates; (repeat' split) <;> first | rfl | omega) (by unfold mC_dates; (repeat' split) <;> first | exact hR | (exfalso; omega)) (sC_r _)
    · refine lv_iload_n zC.1 zC.2.1 dX5_dates_16 rfl (lv_at hl 3 rfl) ?_
      refine lv_iload_n zC.1 zC.2.1 dX5_dates_17 rfl (lv_at hl 2 rfl) ?_
      refine zr_isub zC dX5_dates_18 ?_
      refine zr_bipush zC dX5_dates_19 (by decide +kernel) ?_
      refine zr_icmp_ge (tgt := 32) zC dX5_dates_21 (by decide) (by omega) (fun c21 => ?_) (fun c21 => ?_)
      · refine zr_iconst zC dX5_dates_32 ?_
        exact zm_iret zC zK hG dX5_dates_33 (by unfold rC_dates; (repeat' split) <;> first | rfl | omega) (by unfold mC_dates; (repeat' split) <;> first | exact hR | (exfalso; omega)) (sC_r _)
      · refine lv_iload zC.1 zC.2.1 dX5_dates_24 (lv_at hl 4 rfl) ?_
        refine zr_callS zC hG (c_X5_isRow (σ := σ) (v := r) (by first | assumption | omega)) mt_X5_isRow wl_X5_64 ⟨by decide, by decide⟩ rfl hl.1 rfl (Nat.le_of_ble_eq_true rfl) dX5_dates_26 ⟨Nat.zero_le _, Nat.zero_le _⟩ (fun H locs hG => ?_)
        refine W.eq (g2 := F0 zm 29 ls [.int (zI (zB (0 ≤ r ∧ r ≤ 5)))]) rfl ?_
        refine zr_ifneB (tgt := 34) zC dX5_dates_29 (by decide) (fun c29 => ?_) (fun c29 => ?_)
        · refine lv_aload_n zC.1 zC.2.1 dX5_dates_34 rfl (lv_at hl 0 rfl) ?_
          refine lv_iload zC.1 zC.2.1 dX5_dates_35 (lv_at hl 4 rfl) ?_
          refine lv_iload_n zC.1 zC.2.1 dX5_dates_37 rfl (lv_at hl 3 rfl) ?_
          refine lv_iload_n zC.1 zC.2.1 dX5_dates_38 rfl (lv_at hl 2 rfl) ?_
          refine zr_isub zC dX5_dates_39 ?_
          refine zr_iconst zC dX5_dates_40 ?_
          refine zr_iadd zC dX5_dates_41 ?_
          refine zr_topi (y := b + 1 - a) (by omega) ?_
          refine zr_callV zC hG (c_X5_row_x (σ := σ) (r := r) (n := b + 1 - a) (by first | assumption | omega) (by first | assumption | omega)) mt_X5_row wl_X5_188 pM rfl rfl ⟨by decide, by decide⟩ rfl hl.1 rfl (Nat.le_of_ble_eq_true rfl) dX5_dates_42 ⟨Nat.zero_le _, Nat.zero_le _⟩ (fun H locs hG => ?_)
          refine W.eq (g2 := F0 zm 45 ls [.int (zI (b + 1 - a))]) rfl ?_
          refine lv_pop zC.1 zC.2.1 dX5_dates_45 rfl ?_
          refine lv_iload_n zC.1 zC.2.1 dX5_dates_46 rfl (lv_at hl 2 rfl) ?_
          refine lv_istore (lv' := [(5, .int (zI a)), (0, .ref (aM Γ)), (1, .int (zI c)), (2, .int (zI a)), (3, .int (zI b)), (4, .int (zI r))]) zC.1 zC.2.1 dX5_dates_47 hl (by decide) rfl (fun ls hl => ?_)
          have loop49 : ∀ (nf : Nat) (d : Int) (σ49q : Mm) (H : Heap) (locs : List Loc) (ls : Array Slot), (a ≤ d ∧ d ≤ b + 1) → (Rel2 (mRq τ r (b + 1 - a) (d - a) (fun j => dtD (τ 6 c 0) (τ 6 c 1) (τ 6 c 2) (τ 6 c 3) (a + j))) σ49q) → (sC σ σ49q) → (b + 1 - d < (nf : Int)) → GM Γ A σ49q zs H locs → lv_has ls 6 [(0, .ref (aM Γ)), (1, .int (zI c)), (2, .int (zI a)), (3, .int (zI b)), (4, .int (zI r)), (5, .int (zI d))] → W zp zl ze { frames := 5, cells := 0, slots := 0, locals := 106 } zs zm args below meth zc H locs 0 0 zQ (F0 zm 49 ls []) := by
            intro nf
            induction nf with
            | zero =>
              intro d σ49q H locs ls hd hR49q hC49q hm49 _ _
              exact absurd hm49 (by omega)
            | succ nf ih49 =>
              intro d σ49q H locs ls hd hR49q hC49q hm49 hG hl
              obtain ⟨kca, kcb, kcc, kcd⟩ := hI.2.2.2.2.2.2.1 c (by omega) (by omega)
              have hI2 : IC (mRq τ r (b + 1 - a) (d - a) (fun j => dtD (τ 6 c 0) (τ 6 c 1) (τ 6 c 2) (τ 6 c 3) (a + j))) := IC_rq hI (by omega) (fun j h1 h2 h3 => by have := dtD_r (k := τ 6 c 0) (lp := τ 6 c 1) (o := τ 6 c 2) (g := τ 6 c 3) (d := a + j) (by omega) kcb kcd; omega)
              refine lv_iload zC.1 zC.2.1 dX5_dates_49 (lv_at hl 5 rfl) ?_
              refine lv_iload_n zC.1 zC.2.1 dX5_dates_51 rfl (lv_at hl 3 rfl) ?_
              refine zr_icmp_gt (tgt := 78) zC dX5_dates_52 (by decide) (by omega) (fun c52 => ?_) (fun c52 => ?_)
              · refine lv_iload_n zC.1 zC.2.1 dX5_dates_78 rfl (lv_at hl 3 rfl) ?_
                refine lv_iload_n zC.1 zC.2.1 dX5_dates_79 rfl (lv_at hl 2 rfl) ?_
                refine zr_isub zC dX5_dates_80 ?_
                refine zr_iconst zC dX5_dates_81 ?_
                refine zr_iadd zC dX5_dates_82 ?_
                exact zm_iret zC zK hG dX5_dates_83 (by unfold rC_dates; rw [if_neg (by omega)]; omega) (by unfold mC_dates; rw [if_neg (by omega), ← mRq_n]; rw [show d - a = b + 1 - a by omega] at hR49q; exact hR49q) hC49q
              · refine lv_aload_n zC.1 zC.2.1 dX5_dates_55 rfl (lv_at hl 0 rfl) ?_
                refine lv_iload zC.1 zC.2.1 dX5_dates_56 (lv_at hl 4 rfl) ?_
                refine lv_iload zC.1 zC.2.1 dX5_dates_58 (lv_at hl 5 rfl) ?_
                refine lv_iload_n zC.1 zC.2.1 dX5_dates_60 rfl (lv_at hl 2 rfl) ?_
                refine zr_isub zC dX5_dates_61 ?_
                refine lv_aload_n zC.1 zC.2.1 dX5_dates_62 rfl (lv_at hl 0 rfl) ?_
                refine lv_iload_n zC.1 zC.2.1 dX5_dates_63 rfl (lv_at hl 1 rfl) ?_
                refine lv_iload zC.1 zC.2.1 dX5_dates_64 (lv_at hl 5 rfl) ?_
                refine zr_callV zC hG (c_X5_dateIn (τ := mRq τ r (b + 1 - a) (d - a) (fun j => dtD (τ 6 c 0) (τ 6 c 1) (τ 6 c 2) (τ 6 c 3) (a + j))) (σ := σ49q) (c := c) (d := d) hR49q hI2 (show 0 ≤ c ∧ c < τ 0 0 6 by omega) (by first | assumption | omega)) mt_X5_dateIn wl_X5_166 pM rfl rfl ⟨by decide, by decide⟩ rfl hl.1 rfl (Nat.le_of_ble_eq_true rfl) dX5_dates_66 ⟨Nat.zero_le _, Nat.zero_le _⟩ (fun H locs hG => ?_)
                refine W.eq (g2 := F0 zm 69 ls [.int (zI (dtD ((mRq τ r (b + 1 - a) (d - a) (fun j => dtD (τ 6 c 0) (τ 6 c 1) (τ 6 c 2) (τ 6 c 3) (a + j))) 6 c 0) ((mRq τ r (b + 1 - a) (d - a) (fun j => dtD (τ 6 c 0) (τ 6 c 1) (τ 6 c 2) (τ 6 c 3) (a + j))) 6 c 1) ((mRq τ r (b + 1 - a) (d - a) (fun j => dtD (τ 6 c 0) (τ 6 c 1) (τ 6 c 2) (τ 6 c 3) (a + j))) 6 c 2) ((mRq τ r (b + 1 - a) (d - a) (fun j => dtD (τ 6 c 0) (τ 6 c 1) (τ 6 c 2) (τ 6 c 3) (a + j))) 6 c 3) d)), .int (zI (d - a)), .int (zI r), .ref (aM Γ)]) rfl ?_
                have b66_0 := dtD_r (k := (τ 6 c 0)) (lp := (τ 6 c 1)) (o := (τ 6 c 2)) (g := (τ 6 c 3)) (d := d) (by omega) (hI.2.2.2.2.2.2.1 c (by omega) (by omega)).2.1 (hI.2.2.2.2.2.2.1 c (by omega) (by omega)).2.2.2
                refine zr_callV zC hG (c_X5_setRow (σ := up (up (up (up σ49q 20 0 19 (τ 6 c 0)) 20 0 20 (τ 6 c 1)) 20 0 21 (τ 6 c 2)) 20 0 22 (τ 6 c 3)) (r := r) (x := d - a) (v := dtD ((mRq τ r (b + 1 - a) (d - a) (fun j => dtD (τ 6 c 0) (τ 6 c 1) (τ 6 c 2) (τ 6 c 3) (a + j))) 6 c 0) ((mRq τ r (b + 1 - a) (d - a) (fun j => dtD (τ 6 c 0) (τ 6 c 1) (τ 6 c 2) (τ 6 c 3) (a + j))) 6 c 1) ((mRq τ r (b + 1 - a) (d - a) (fun j => dtD (τ 6 c 0) (τ 6 c 1) (τ 6 c 2) (τ 6 c 3) (a + j))) 6 c 2) ((mRq τ r (b + 1 - a) (d - a) (fun j => dtD (τ 6 c 0) (τ 6 c 1) (τ 6 c 2) (τ 6 c 3) (a + j))) 6 c 3) d) (by first | assumption | omega) (by first | assumption | omega)) mt_X5_setRow wl_X5_75 pM rfl rfl ⟨by decide, by decide⟩ rfl hl.1 rfl (Nat.le_of_ble_eq_true rfl) dX5_dates_69 ⟨Nat.zero_le _, Nat.zero_le _⟩ (fun H locs hG => ?_)
                refine W.eq (g2 := F0 zm 72 ls []) rfl ?_
                refine zr_iinc (lv' := [(5, .int (zI (d + 1))), (0, .ref (aM Γ)), (1, .int (zI c)), (2, .int (zI a)), (3, .int (zI b)), (4, .int (zI r))]) zC dX5_dates_72 hl (k := 5) rfl (by decide) rfl (fun ls hl => ?_)
                refine lv_goto (tgt := 49) zC.1 zC.2.1 dX5_dates_75 (by decide) ?_
                exact ih49 (d + 1) (up (up (up (up (up σ49q 20 0 19 (τ 6 c 0)) 20 0 20 (τ 6 c 1)) 20 0 21 (τ 6 c 2)) 20 0 22 (τ 6 c 3)) 23 0 ((40 * r) + (d - a)) (dtD ((mRq τ r (b + 1 - a) (d - a) (fun j => dtD (τ 6 c 0) (τ 6 c 1) (τ 6 c 2) (τ 6 c 3) (a + j))) 6 c 0) ((mRq τ r (b + 1 - a) (d - a) (fun j => dtD (τ 6 c 0) (τ 6 c 1) (τ 6 c 2) (τ 6 c 3) (a + j))) 6 c 1) ((mRq τ r (b + 1 - a) (d - a) (fun j => dtD (τ 6 c 0) (τ 6 c 1) (τ 6 c 2) (τ 6 c 3) (a + j))) 6 c 2) ((mRq τ r (b + 1 - a) (d - a) (fun j => dtD (τ 6 c 0) (τ 6 c 1) (τ 6 c 2) (τ 6 c 3) (a + j))) 6 c 3) d)) H locs ls (by first | assumption | omega) ((show up (mRq τ r (b + 1 - a) (d - a) (fun j => dtD (τ 6 c 0) (τ 6 c 1) (τ 6 c 2) (τ 6 c 3) (a + j))) 3 r (d - a) (dtD ((mRq τ r (b + 1 - a) (d - a) (fun j => dtD (τ 6 c 0) (τ 6 c 1) (τ 6 c 2) (τ 6 c 3) (a + j))) 6 c 0) ((mRq τ r (b + 1 - a) (d - a) (fun j => dtD (τ 6 c 0) (τ 6 c 1) (τ 6 c 2) (τ 6 c 3) (a + j))) 6 c 1) ((mRq τ r (b + 1 - a) (d - a) (fun j => dtD (τ 6 c 0) (τ 6 c 1) (τ 6 c 2) (τ 6 c 3) (a + j))) 6 c 2) ((mRq τ r (b + 1 - a) (d - a) (fun j => dtD (τ 6 c 0) (τ 6 c 1) (τ 6 c 2) (τ 6 c 3) (a + j))) 6 c 3) d) = mRq τ r (b + 1 - a) ((d + 1) - a) (fun j => dtD (τ 6 c 0) (τ 6 c 1) (τ 6 c 2) (τ 6 c 3) (a + j)) from (by rw [show d + 1 - a = d - a + 1 by omega]; exact mRq_s _ _ _ _ _ _ (by omega) (by show _ = dtD _ _ _ _ (a + (d - a)); congr 1; omega))) ▸ (rl_row hR49q (by omega) (by omega))) (sC_up (sC_up (sC_up (sC_up (sC_up hC49q (by decide)) (by decide)) (by decide)) (by decide)) (by decide)) (by omega) hG (lv_sub hl [1, 2, 3, 4, 5, 0] rfl)
          exact loop49 ((b + 1 - a : Int).toNat + 1) a (mRwM σ r (b + 1 - a) 40) H locs ls (by first | assumption | omega) ((show mFill (up τ 2 r 1 (b + 1 - a)) 3 r 40 0 = mRq τ r (b + 1 - a) (a - a) (fun j => dtD (τ 6 c 0) (τ 6 c 1) (τ 6 c 2) (τ 6 c 3) (a + j)) from (by rw [show a - a = 0 by omega]; exact mRq_0 _ _ _ _)) ▸ (rl_rw hR (by omega) (by omega))) (sC_rw (sC_r _)) (by omega) hG (lv_sub hl [1, 2, 3, 4, 5, 0] rfl)
        · refine zr_iconst zC dX5_dates_32 ?_
          exact zm_iret zC zK hG dX5_dates_33 (by unfold rC_dates; (repeat' split) <;> first | rfl | omega) (by unfold mC_dates; (repeat' split) <;> first | exact hR | (exfalso; omega)) (sC_r _)
