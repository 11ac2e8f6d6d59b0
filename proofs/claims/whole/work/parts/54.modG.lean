set_option maxHeartbeats 4000000 in
set_option maxRecDepth 100000 in
theorem c_X5_askedContracts {Γ : Gm} {zl : Launch} {A : Nat → Prop} {τ σ : Mm} {r w : Int} (hR : Rel2 τ σ) (hI : IC τ) (hr : -2147483648 ≤ r ∧ r < 2147483648) (hw : w = 0 ∨ w = 1) : Fr Γ zl A yX5_askedContracts cX5_askedContracts 6 (some .int) 4 88 [.ref (aM Γ), .int (zI r), .int (zI w)] σ (some (.int (zI (aC τ r w)))) (mAC τ r w) := by
  refine Fr_of (by decide) (Nat.le_of_ble_eq_true rfl) ?_
  intro zp ze zs zm args below meth zc zQ H locs ls zC zK hG hl
  have hl : lv_has ls 6 [(0, .ref (aM Γ)), (1, .int (zI r)), (2, .int (zI w))] := hl
  obtain ⟨hmany, htoday, -⟩ := id hI
  refine lv_aload_n zC.1 zC.2.1 dX5_askedContracts_0 rfl (lv_at hl 0 rfl) ?_
  refine lv_iload_n zC.1 zC.2.1 dX5_askedContracts_1 rfl (lv_at hl 1 rfl) ?_
  refine zm_callV zC hG (c_X5_askedRow (τ := τ) (σ := σ) (r := r) hR hI (by first | assumption | omega)) mt_X5_askedRow wl_X5_79 pM rfl rfl ⟨by decide, by decide⟩ rfl hl.1 rfl (Nat.le_of_ble_eq_true rfl) dX5_askedContracts_2 ⟨Nat.zero_le _, Nat.zero_le _⟩ (fun σ2 H locs hR2 hC2 hG => ?_)
  refine W.eq (g2 := F0 zm 5 ls [.int (zI (rfR τ r))]) rfl ?_
  have b2_0 := rfR_r τ r
  refine lv_istore_n (lv' := [(3, .int (zI (rfR τ r))), (0, .ref (aM Γ)), (1, .int (zI r)), (2, .int (zI w))]) zC.1 zC.2.1 dX5_askedContracts_5 rfl hl (by decide) rfl (fun ls hl => ?_)
  refine lv_iload_n zC.1 zC.2.1 dX5_askedContracts_6 rfl (lv_at hl 0 rfl) ?_
  refine zr_if_ge (tgt := 12) zC dX5_askedContracts_7 (by decide) (by omega) (fun c7 => ?_) (fun c7 => ?_)
  · obtain ⟨h1, h2, h3⟩ := rfR_0 (show rfR τ r = 0 by omega)
    rw [h3] at hR2
    have h6 := hI.2.2.1 r (by omega) (by omega)
    refine lv_aload_n zC.1 zC.2.1 dX5_askedContracts_12 rfl (lv_at hl 1 rfl) ?_
    refine gf_M_sizes zC hG wl_X5_17 dX5_askedContracts_13 ?_
    refine lv_iload_n zC.1 zC.2.1 dX5_askedContracts_16 rfl (lv_at hl 2 rfl) ?_
    refine gi_m_sizes (v := szM (τ 2 r 1)) zC hG (by omega) (hR2.2.2.1 r (by omega) (by omega)) dX5_askedContracts_17 ?_
    have f17 := hI.2.2.1 r (by omega) (by omega)
    have f17s := szM_s (τ 2 r 1)
    refine zr_iconst zC dX5_askedContracts_18 ?_
    refine zr_irem zC dX5_askedContracts_19 (by omega) ?_
    refine zr_if_eq (tgt := 29) zC dX5_askedContracts_20 (by decide) (by omega) (fun c20 => ?_) (fun c20 => ?_)
    · refine zr_iconst zC dX5_askedContracts_29 ?_
      refine lv_istore (lv' := [(4, .int (zI 0)), (3, .int (zI (rfR τ r))), (0, .ref (aM Γ)), (1, .int (zI r)), (2, .int (zI w))]) zC.1 zC.2.1 dX5_askedContracts_30 hl (by decide) rfl (fun ls hl => ?_)
      have loop32 : ∀ (nf : Nat) (p : Int) (σ32q : Mm) (H : Heap) (locs : List Loc) (ls : Array Slot), (0 ≤ p ∧ p ≤ τ 2 r 1 ∧ p % 3 = 0) → (∀ q, 0 ≤ q → 3 * q < p → cOK τ r q ∧ (w ≠ 0 → ¬ nDy τ r q)) → (Rel2 τ σ32q) → (sC σ σ32q) → (τ 2 r 1 - p < (nf : Int)) → GM Γ A σ32q zs H locs → lv_has ls 6 [(0, .ref (aM Γ)), (1, .int (zI r)), (2, .int (zI w)), (4, .int (zI p))] → W zp zl ze { frames := 4, cells := 0, slots := 0, locals := 88 } zs zm args below meth zc H locs 0 0 zQ (F0 zm 32 ls []) := by
        intro nf
        induction nf with
        | zero =>
          intro p σ32q H locs ls hp hv hR32q hC32q hm32 _ _
          exact absurd hm32 (by omega)
        | succ nf ih32 =>
          intro p σ32q H locs ls hp hv hR32q hC32q hm32 hG hl
          refine lv_iload zC.1 zC.2.1 dX5_askedContracts_32 (lv_at hl 3 rfl) ?_
          refine lv_aload_n zC.1 zC.2.1 dX5_askedContracts_34 rfl (lv_at hl 0 rfl) ?_
          refine gf_M_sizes zC hG wl_X5_17 dX5_askedContracts_35 ?_
          refine lv_iload_n zC.1 zC.2.1 dX5_askedContracts_38 rfl (lv_at hl 1 rfl) ?_
          refine gi_m_sizes (v := szM (τ 2 r 1)) zC hG (by omega) (hR32q.2.2.1 r (by omega) (by omega)) dX5_askedContracts_39 ?_
          have f39 := hI.2.2.1 r (by omega) (by omega)
          have f39s := szM_s (τ 2 r 1)
          refine zr_icmp_ge (tgt := 140) zC dX5_askedContracts_40 (by decide) (by omega) (fun c40 => ?_) (fun c40 => ?_)
          · refine zr_iconst zC dX5_askedContracts_140 ?_
            exact zm_iret zC zK hG dX5_askedContracts_141 (aC_0 (w := w) (show rfR τ r = 0 by omega) (by omega) (fun q h1 h2 => hv q h1 (by omega))).1 (by rw [(aC_0 (w := w) (show rfR τ r = 0 by omega) (by omega) (fun q h1 h2 => hv q h1 (by omega))).2]; exact hR32q) hC32q
          · refine lv_aload_n zC.1 zC.2.1 dX5_askedContracts_43 rfl (lv_at hl 0 rfl) ?_
            refine lv_aload_n zC.1 zC.2.1 dX5_askedContracts_44 rfl (lv_at hl 0 rfl) ?_
            refine lv_iload_n zC.1 zC.2.1 dX5_askedContracts_45 rfl (lv_at hl 1 rfl) ?_
            refine lv_iload zC.1 zC.2.1 dX5_askedContracts_46 (lv_at hl 3 rfl) ?_
            refine zr_callV zC hG (c_X5_rowAt (τ := τ) (σ := σ32q) (r := r) (x := p) hR32q hI (by first | assumption | omega) (by first | assumption | omega)) mt_X5_rowAt wl_X5_82 pM rfl rfl ⟨by decide, by decide⟩ rfl hl.1 rfl (Nat.le_of_ble_eq_true rfl) dX5_askedContracts_48 ⟨Nat.zero_le _, Nat.zero_le _⟩ (fun H locs hG => ?_)
            refine W.eq (g2 := F0 zm 51 ls [.int (zI (τ 3 r p)), .ref (aM Γ)]) rfl ?_
            have b48_0 := hI.2.2.2.1 r p (by omega) (by omega) (by omega) (by omega)
            refine zr_callV zC hG (c_X5_isTown (τ := τ) (σ := σ32q) (c := τ 3 r p) hR32q hI (by first | assumption | omega)) mt_X5_isTown wl_X5_169 pM rfl rfl ⟨by decide, by decide⟩ rfl hl.1 rfl (Nat.le_of_ble_eq_true rfl) dX5_askedContracts_51 ⟨Nat.zero_le _, Nat.zero_le _⟩ (fun H locs hG => ?_)
            refine W.eq (g2 := F0 zm 54 ls [.int (zI (zB (isT τ (τ 3 r p))))]) rfl ?_
            refine zr_ifeqB (tgt := 91) zC dX5_askedContracts_54 (by decide) (fun c54 => ?_) (fun c54 => ?_)
            · refine zr_iconst zC dX5_askedContracts_91 ?_
              refine lv_istore (lv' := [(5, .int (zI 0)), (0, .ref (aM Γ)), (1, .int (zI r)), (2, .int (zI w)), (4, .int (zI p))]) zC.1 zC.2.1 dX5_askedContracts_92 hl (by decide) rfl (fun ls hl => ?_)
              refine lv_iload zC.1 zC.2.1 dX5_askedContracts_94 (lv_at hl 0 rfl) ?_
              refine zr_if_eq (tgt := 128) zC dX5_askedContracts_96 (by decide) (by omega) (fun c96 => ?_) (fun c96 => ?_)
              · refine lv_aload_n zC.1 zC.2.1 dX5_askedContracts_128 rfl (lv_at hl 1 rfl) ?_
                refine zr_iconst zC dX5_askedContracts_129 ?_
                refine zr_callV zC hG (c_X5_meet (σ := σ32q) (f := 3) (by first | assumption | omega)) mt_X5_meet wl_X5_68 pM rfl rfl ⟨by decide, by decide⟩ rfl hl.1 rfl (Nat.le_of_ble_eq_true rfl) dX5_askedContracts_130 ⟨Nat.zero_le _, Nat.zero_le _⟩ (fun H locs hG => ?_)
                refine W.eq (g2 := F0 zm 133 ls [.int (zI (-3))]) rfl ?_
                exact zm_iret zC zK hG dX5_askedContracts_133 (aC_3 (w := w) (q := p / 3) (show rfR τ r = 0 by omega) (by omega) (by omega) (by show ¬ (isT τ (τ 3 r (3 * (p / 3))) ∧ 0 ≤ τ 3 r (3 * (p / 3) + 1) ∧ 0 ≤ τ 3 r (3 * (p / 3) + 2) ∧ τ 3 r (3 * (p / 3) + 2) ≤ 50) ∨ (w ≠ 0 ∧ dyD (τ 6 (τ 3 r (3 * (p / 3))) 0) (τ 6 (τ 3 r (3 * (p / 3))) 1) (τ 6 (τ 3 r (3 * (p / 3))) 2) (τ 6 (τ 3 r (3 * (p / 3))) 3) (τ 3 r (3 * (p / 3) + 1)) = -1); rw [show 3 * (p / 3) = p by omega]; omega)).1 (by rw [(aC_3 (w := w) (q := p / 3) (show rfR τ r = 0 by omega) (by omega) (by omega) (by show ¬ (isT τ (τ 3 r (3 * (p / 3))) ∧ 0 ≤ τ 3 r (3 * (p / 3) + 1) ∧ 0 ≤ τ 3 r (3 * (p / 3) + 2) ∧ τ 3 r (3 * (p / 3) + 2) ≤ 50) ∨ (w ≠ 0 ∧ dyD (τ 6 (τ 3 r (3 * (p / 3))) 0) (τ 6 (τ 3 r (3 * (p / 3))) 1) (τ 6 (τ 3 r (3 * (p / 3))) 2) (τ 6 (τ 3 r (3 * (p / 3))) 3) (τ 3 r (3 * (p / 3) + 1)) = -1); rw [show 3 * (p / 3) = p by omega]; omega)).2]; exact (rl_fd hR32q (by omega))) (sC_up (sC_up hC32q (by decide)) (by decide))
              · exact absurd c96 (by omega)
            · refine lv_aload_n zC.1 zC.2.1 dX5_askedContracts_57 rfl (lv_at hl 0 rfl) ?_
              refine lv_iload_n zC.1 zC.2.1 dX5_askedContracts_58 rfl (lv_at hl 1 rfl) ?_
              refine lv_iload zC.1 zC.2.1 dX5_askedContracts_59 (lv_at hl 3 rfl) ?_
              refine zr_iconst zC dX5_askedContracts_61 ?_
              refine zr_iadd zC dX5_askedContracts_62 ?_
              refine zr_callV zC hG (c_X5_rowAt (τ := τ) (σ := σ32q) (r := r) (x := p + 1) hR32q hI (by first | assumption | omega) (by first | assumption | omega)) mt_X5_rowAt wl_X5_82 pM rfl rfl ⟨by decide, by decide⟩ rfl hl.1 rfl (Nat.le_of_ble_eq_true rfl) dX5_askedContracts_63 ⟨Nat.zero_le _, Nat.zero_le _⟩ (fun H locs hG => ?_)
              refine W.eq (g2 := F0 zm 66 ls [.int (zI (τ 3 r (p + 1)))]) rfl ?_
              have b63_0 := hI.2.2.2.1 r (p + 1) (by omega) (by omega) (by omega) (by omega)
              refine zr_if_lt (tgt := 91) zC dX5_askedContracts_66 (by decide) (by omega) (fun c66 => ?_) (fun c66 => ?_)
              · refine zr_iconst zC dX5_askedContracts_91 ?_
                refine lv_istore (lv' := [(5, .int (zI 0)), (0, .ref (aM Γ)), (1, .int (zI r)), (2, .int (zI w)), (4, .int (zI p))]) zC.1 zC.2.1 dX5_askedContracts_92 hl (by decide) rfl (fun ls hl => ?_)
                refine lv_iload zC.1 zC.2.1 dX5_askedContracts_94 (lv_at hl 0 rfl) ?_
                refine zr_if_eq (tgt := 128) zC dX5_askedContracts_96 (by decide) (by omega) (fun c96 => ?_) (fun c96 => ?_)
                · refine lv_aload_n zC.1 zC.2.1 dX5_askedContracts_128 rfl (lv_at hl 1 rfl) ?_
                  refine zr_iconst zC dX5_askedContracts_129 ?_
                  refine zr_callV zC hG (c_X5_meet (σ := σ32q) (f := 3) (by first | assumption | omega)) mt_X5_meet wl_X5_68 pM rfl rfl ⟨by decide, by decide⟩ rfl hl.1 rfl (Nat.le_of_ble_eq_true rfl) dX5_askedContracts_130 ⟨Nat.zero_le _, Nat.zero_le _⟩ (fun H locs hG => ?_)
                  refine W.eq (g2 := F0 zm 133 ls [.int (zI (-3))]) rfl ?_
                  exact zm_iret zC zK hG dX5_askedContracts_133 (aC_3 (w := w) (q := p / 3) (show rfR τ r = 0 by omega) (by omega) (by omega) (by show ¬ (isT τ (τ 3 r (3 * (p / 3))) ∧ 0 ≤ τ 3 r (3 * (p / 3) + 1) ∧ 0 ≤ τ 3 r (3 * (p / 3) + 2) ∧ τ 3 r (3 * (p / 3) + 2) ≤ 50) ∨ (w ≠ 0 ∧ dyD (τ 6 (τ 3 r (3 * (p / 3))) 0) (τ 6 (τ 3 r (3 * (p / 3))) 1) (τ 6 (τ 3 r (3 * (p / 3))) 2) (τ 6 (τ 3 r (3 * (p / 3))) 3) (τ 3 r (3 * (p / 3) + 1)) = -1); rw [show 3 * (p / 3) = p by omega]; omega)).1 (by rw [(aC_3 (w := w) (q := p / 3) (show rfR τ r = 0 by omega) (by omega) (by omega) (by show ¬ (isT τ (τ 3 r (3 * (p / 3))) ∧ 0 ≤ τ 3 r (3 * (p / 3) + 1) ∧ 0 ≤ τ 3 r (3 * (p / 3) + 2) ∧ τ 3 r (3 * (p / 3) + 2) ≤ 50) ∨ (w ≠ 0 ∧ dyD (τ 6 (τ 3 r (3 * (p / 3))) 0) (τ 6 (τ 3 r (3 * (p / 3))) 1) (τ 6 (τ 3 r (3 * (p / 3))) 2) (τ 6 (τ 3 r (3 * (p / 3))) 3) (τ 3 r (3 * (p / 3) + 1)) = -1); rw [show 3 * (p / 3) = p by omega]; omega)).2]; exact (rl_fd hR32q (by omega))) (sC_up (sC_up hC32q (by decide)) (by decide))
                · exact absurd c96 (by omega)
              · refine lv_aload_n zC.1 zC.2.1 dX5_askedContracts_69 rfl (lv_at hl 0 rfl) ?_
                refine lv_iload_n zC.1 zC.2.1 dX5_askedContracts_70 rfl (lv_at hl 1 rfl) ?_
                refine lv_iload zC.1 zC.2.1 dX5_askedContracts_71 (lv_at hl 3 rfl) ?_
                refine zr_iconst zC dX5_askedContracts_73 ?_
                refine zr_iadd zC dX5_askedContracts_74 ?_
                refine zr_callV zC hG (c_X5_rowAt (τ := τ) (σ := σ32q) (r := r) (x := p + 2) hR32q hI (by first | assumption | omega) (by first | assumption | omega)) mt_X5_rowAt wl_X5_82 pM rfl rfl ⟨by decide, by decide⟩ rfl hl.1 rfl (Nat.le_of_ble_eq_true rfl) dX5_askedContracts_75 ⟨Nat.zero_le _, Nat.zero_le _⟩ (fun H locs hG => ?_)
                refine W.eq (g2 := F0 zm 78 ls [.int (zI (τ 3 r (p + 2)))]) rfl ?_
                have b75_0 := hI.2.2.2.1 r (p + 2) (by omega) (by omega) (by omega) (by omega)
                refine zr_iconst zC dX5_askedContracts_78 ?_
                refine zr_bipush zC dX5_askedContracts_79 (by decide +kernel) ?_
                refine zr_callS zC hG (c_X5_in (σ := σ32q) (v := τ 3 r (p + 2)) (a := 0) (b := 50) (by first | assumption | omega) (by first | assumption | omega) (by first | assumption | omega)) mt_X5_in wl_X5_60 ⟨by decide, by decide⟩ rfl hl.1 rfl (Nat.le_of_ble_eq_true rfl) dX5_askedContracts_81 ⟨Nat.zero_le _, Nat.zero_le _⟩ (fun H locs hG => ?_)
                refine W.eq (g2 := F0 zm 84 ls [.int (zI (zB (0 ≤ (τ 3 r (p + 2)) ∧ (τ 3 r (p + 2)) ≤ 50)))]) rfl ?_
                refine zr_ifeqB (tgt := 91) zC dX5_askedContracts_84 (by decide) (fun c84 => ?_) (fun c84 => ?_)
                · refine zr_iconst zC dX5_askedContracts_91 ?_
                  refine lv_istore (lv' := [(5, .int (zI 0)), (0, .ref (aM Γ)), (1, .int (zI r)), (2, .int (zI w)), (4, .int (zI p))]) zC.1 zC.2.1 dX5_askedContracts_92 hl (by decide) rfl (fun ls hl => ?_)
                  refine lv_iload zC.1 zC.2.1 dX5_askedContracts_94 (lv_at hl 0 rfl) ?_
                  refine zr_if_eq (tgt := 128) zC dX5_askedContracts_96 (by decide) (by omega) (fun c96 => ?_) (fun c96 => ?_)
                  · refine lv_aload_n zC.1 zC.2.1 dX5_askedContracts_128 rfl (lv_at hl 1 rfl) ?_
                    refine zr_iconst zC dX5_askedContracts_129 ?_
                    refine zr_callV zC hG (c_X5_meet (σ := σ32q) (f := 3) (by first | assumption | omega)) mt_X5_meet wl_X5_68 pM rfl rfl ⟨by decide, by decide⟩ rfl hl.1 rfl (Nat.le_of_ble_eq_true rfl) dX5_askedContracts_130 ⟨Nat.zero_le _, Nat.zero_le _⟩ (fun H locs hG => ?_)
                    refine W.eq (g2 := F0 zm 133 ls [.int (zI (-3))]) rfl ?_
                    exact zm_iret zC zK hG dX5_askedContracts_133 (aC_3 (w := w) (q := p / 3) (show rfR τ r = 0 by omega) (by omega) (by omega) (by show ¬ (isT τ (τ 3 r (3 * (p / 3))) ∧ 0 ≤ τ 3 r (3 * (p / 3) + 1) ∧ 0 ≤ τ 3 r (3 * (p / 3) + 2) ∧ τ 3 r (3 * (p / 3) + 2) ≤ 50) ∨ (w ≠ 0 ∧ dyD (τ 6 (τ 3 r (3 * (p / 3))) 0) (τ 6 (τ 3 r (3 * (p / 3))) 1) (τ 6 (τ 3 r (3 * (p / 3))) 2) (τ 6 (τ 3 r (3 * (p / 3))) 3) (τ 3 r (3 * (p / 3) + 1)) = -1); rw [show 3 * (p / 3) = p by omega]; omega)).1 (by rw [(aC_3 (w := w) (q := p / 3) (show rfR τ r = 0 by omega) (by omega) (by omega) (by show ¬ (isT τ (τ 3 r (3 * (p / 3))) ∧ 0 ≤ τ 3 r (3 * (p / 3) + 1) ∧ 0 ≤ τ 3 r (3 * (p / 3) + 2) ∧ τ 3 r (3 * (p / 3) + 2) ≤ 50) ∨ (w ≠ 0 ∧ dyD (τ 6 (τ 3 r (3 * (p / 3))) 0) (τ 6 (τ 3 r (3 * (p / 3))) 1) (τ 6 (τ 3 r (3 * (p / 3))) 2) (τ 6 (τ 3 r (3 * (p / 3))) 3) (τ 3 r (3 * (p / 3) + 1)) = -1); rw [show 3 * (p / 3) = p by omega]; omega)).2]; exact (rl_fd hR32q (by omega))) (sC_up (sC_up hC32q (by decide)) (by decide))
                  · exact absurd c96 (by omega)
                · refine zr_iconst zC dX5_askedContracts_87 ?_
                  refine lv_goto (tgt := 92) zC.1 zC.2.1 dX5_askedContracts_88 (by decide) ?_
                  refine lv_istore (lv' := [(5, .int (zI 1)), (0, .ref (aM Γ)), (1, .int (zI r)), (2, .int (zI w)), (4, .int (zI p))]) zC.1 zC.2.1 dX5_askedContracts_92 hl (by decide) rfl (fun ls hl => ?_)
                  refine lv_iload zC.1 zC.2.1 dX5_askedContracts_94 (lv_at hl 0 rfl) ?_
                  refine zr_if_eq (tgt := 128) zC dX5_askedContracts_96 (by decide) (by omega) (fun c96 => ?_) (fun c96 => ?_)
                  · exact absurd c96 (by omega)
                  · refine lv_iload_n zC.1 zC.2.1 dX5_askedContracts_99 rfl (lv_at hl 3 rfl) ?_
                    refine zr_if_eq (tgt := 134) zC dX5_askedContracts_100 (by decide) (by omega) (fun c100 => ?_) (fun c100 => ?_)
                    · refine zr_iinc (lv' := [(4, .int (zI (p + 3))), (5, .int (zI 1)), (0, .ref (aM Γ)), (1, .int (zI r)), (2, .int (zI w))]) zC dX5_askedContracts_134 hl (k := 4) rfl (by decide) rfl (fun ls hl => ?_)
                      refine lv_goto (tgt := 32) zC.1 zC.2.1 dX5_askedContracts_137 (by decide) ?_
                      exact ih32 (p + 3) σ32q H locs ls (by first | assumption | omega) (fun q h1 h2 => by by_cases z : 3 * q < p; exact hv q h1 z; have e : 3 * q = p := (by omega); show (isT τ (τ 3 r (3 * q)) ∧ 0 ≤ τ 3 r (3 * q + 1) ∧ 0 ≤ τ 3 r (3 * q + 2) ∧ τ 3 r (3 * q + 2) ≤ 50) ∧ (w ≠ 0 → ¬ dyD (τ 6 (τ 3 r (3 * q)) 0) (τ 6 (τ 3 r (3 * q)) 1) (τ 6 (τ 3 r (3 * q)) 2) (τ 6 (τ 3 r (3 * q)) 3) (τ 3 r (3 * q + 1)) = -1); rw [e]; exact ⟨by omega, fun z2 => by omega⟩) hR32q hC32q (by omega) hG (lv_sub hl [2, 3, 4, 0] rfl)
                    · refine lv_aload_n zC.1 zC.2.1 dX5_askedContracts_103 rfl (lv_at hl 1 rfl) ?_
                      refine lv_aload_n zC.1 zC.2.1 dX5_askedContracts_104 rfl (lv_at hl 1 rfl) ?_
                      refine lv_iload_n zC.1 zC.2.1 dX5_askedContracts_105 rfl (lv_at hl 2 rfl) ?_
                      refine lv_iload zC.1 zC.2.1 dX5_askedContracts_106 (lv_at hl 4 rfl) ?_
                      refine zr_callV zC hG (c_X5_rowAt (τ := τ) (σ := σ32q) (r := r) (x := p) hR32q hI (by first | assumption | omega) (by first | assumption | omega)) mt_X5_rowAt wl_X5_82 pM rfl rfl ⟨by decide, by decide⟩ rfl hl.1 rfl (Nat.le_of_ble_eq_true rfl) dX5_askedContracts_108 ⟨Nat.zero_le _, Nat.zero_le _⟩ (fun H locs hG => ?_)
                      refine W.eq (g2 := F0 zm 111 ls [.int (zI (τ 3 r p)), .ref (aM Γ)]) rfl ?_
                      have b108_0 := hI.2.2.2.1 r p (by omega) (by omega) (by omega) (by omega)
                      refine lv_aload_n zC.1 zC.2.1 dX5_askedContracts_111 rfl (lv_at hl 1 rfl) ?_
                      refine lv_iload_n zC.1 zC.2.1 dX5_askedContracts_112 rfl (lv_at hl 2 rfl) ?_
                      refine lv_iload zC.1 zC.2.1 dX5_askedContracts_113 (lv_at hl 4 rfl) ?_
                      refine zr_iconst zC dX5_askedContracts_115 ?_
                      refine zr_iadd zC dX5_askedContracts_116 ?_
                      refine zr_callV zC hG (c_X5_rowAt (τ := τ) (σ := σ32q) (r := r) (x := p + 1) hR32q hI (by first | assumption | omega) (by first | assumption | omega)) mt_X5_rowAt wl_X5_82 pM rfl rfl ⟨by decide, by decide⟩ rfl hl.1 rfl (Nat.le_of_ble_eq_true rfl) dX5_askedContracts_117 ⟨Nat.zero_le _, Nat.zero_le _⟩ (fun H locs hG => ?_)
                      refine W.eq (g2 := F0 zm 120 ls [.int (zI (τ 3 r (p + 1))), .int (zI (τ 3 r p)), .ref (aM Γ)]) rfl ?_
                      have b117_0 := hI.2.2.2.1 r (p + 1) (by omega) (by omega) (by omega) (by omega)
                      refine zr_callV zC hG (c_X5_dayIn (τ := τ) (σ := σ32q) (c := τ 3 r p) (t := τ 3 r (p + 1)) hR32q hI (by first | assumption | omega) (by first | assumption | omega)) mt_X5_dayIn wl_X5_185 pM rfl rfl ⟨by decide, by decide⟩ rfl hl.1 rfl (Nat.le_of_ble_eq_true rfl) dX5_askedContracts_120 ⟨Nat.zero_le _, Nat.zero_le _⟩ (fun H locs hG => ?_)
                      refine W.eq (g2 := F0 zm 123 ls [.int (zI (dyM (dyD (τ 6 (τ 3 r p) 0) (τ 6 (τ 3 r p) 1) (τ 6 (τ 3 r p) 2) (τ 6 (τ 3 r p) 3) (τ 3 r (p + 1)))))]) rfl ?_
                      have b120_0 := dyD_r (k := (τ 6 (τ 3 r p) 0)) (lp := (τ 6 (τ 3 r p) 1)) (o := (τ 6 (τ 3 r p) 2)) (g := (τ 6 (τ 3 r p) 3)) (t := (τ 3 r (p + 1))) (hI.2.2.2.2.2.2.1 (τ 3 r p) (by omega) (by omega)).2.1 (hI.2.2.2.2.2.2.1 (τ 3 r p) (by omega) (by omega)).2.2.1.1
                      have b120_1 := dyM_s (dyD (τ 6 (τ 3 r p) 0) (τ 6 (τ 3 r p) 1) (τ 6 (τ 3 r p) 2) (τ 6 (τ 3 r p) 3) (τ 3 r (p + 1)))
                      refine zr_bipush zC dX5_askedContracts_123 (by decide +kernel) ?_
                      refine zr_icmp_ne (tgt := 134) zC dX5_askedContracts_125 (by decide) (by omega) (fun c125 => ?_) (fun c125 => ?_)
                      · refine zr_iinc (lv' := [(4, .int (zI (p + 3))), (5, .int (zI 1)), (0, .ref (aM Γ)), (1, .int (zI r)), (2, .int (zI w))]) zC dX5_askedContracts_134 hl (k := 4) rfl (by decide) rfl (fun ls hl => ?_)
                        refine lv_goto (tgt := 32) zC.1 zC.2.1 dX5_askedContracts_137 (by decide) ?_
                        exact ih32 (p + 3) (up (up (up (up σ32q 20 0 19 (τ 6 (τ 3 r p) 0)) 20 0 20 (τ 6 (τ 3 r p) 1)) 20 0 21 (τ 6 (τ 3 r p) 2)) 20 0 22 (τ 6 (τ 3 r p) 3)) H locs ls (by first | assumption | omega) (fun q h1 h2 => by by_cases z : 3 * q < p; exact hv q h1 z; have e : 3 * q = p := (by omega); show (isT τ (τ 3 r (3 * q)) ∧ 0 ≤ τ 3 r (3 * q + 1) ∧ 0 ≤ τ 3 r (3 * q + 2) ∧ τ 3 r (3 * q + 2) ≤ 50) ∧ (w ≠ 0 → ¬ dyD (τ 6 (τ 3 r (3 * q)) 0) (τ 6 (τ 3 r (3 * q)) 1) (τ 6 (τ 3 r (3 * q)) 2) (τ 6 (τ 3 r (3 * q)) 3) (τ 3 r (3 * q + 1)) = -1); rw [e]; exact ⟨by omega, fun z2 => by omega⟩) hR32q (sC_up (sC_up (sC_up (sC_up hC32q (by decide)) (by decide)) (by decide)) (by decide)) (by omega) hG (lv_sub hl [2, 3, 4, 0] rfl)
                      · refine lv_aload_n zC.1 zC.2.1 dX5_askedContracts_128 rfl (lv_at hl 1 rfl) ?_
                        refine zr_iconst zC dX5_askedContracts_129 ?_
                        refine zr_callV zC hG (c_X5_meet (σ := up (up (up (up σ32q 20 0 19 (τ 6 (τ 3 r p) 0)) 20 0 20 (τ 6 (τ 3 r p) 1)) 20 0 21 (τ 6 (τ 3 r p) 2)) 20 0 22 (τ 6 (τ 3 r p) 3)) (f := 3) (by first | assumption | omega)) mt_X5_meet wl_X5_68 pM rfl rfl ⟨by decide, by decide⟩ rfl hl.1 rfl (Nat.le_of_ble_eq_true rfl) dX5_askedContracts_130 ⟨Nat.zero_le _, Nat.zero_le _⟩ (fun H locs hG => ?_)
                        refine W.eq (g2 := F0 zm 133 ls [.int (zI (-3))]) rfl ?_
                        exact zm_iret zC zK hG dX5_askedContracts_133 (aC_3 (w := w) (q := p / 3) (show rfR τ r = 0 by omega) (by omega) (by omega) (by show ¬ (isT τ (τ 3 r (3 * (p / 3))) ∧ 0 ≤ τ 3 r (3 * (p / 3) + 1) ∧ 0 ≤ τ 3 r (3 * (p / 3) + 2) ∧ τ 3 r (3 * (p / 3) + 2) ≤ 50) ∨ (w ≠ 0 ∧ dyD (τ 6 (τ 3 r (3 * (p / 3))) 0) (τ 6 (τ 3 r (3 * (p / 3))) 1) (τ 6 (τ 3 r (3 * (p / 3))) 2) (τ 6 (τ 3 r (3 * (p / 3))) 3) (τ 3 r (3 * (p / 3) + 1)) = -1); rw [show 3 * (p / 3) = p by omega]; omega)).1 (by rw [(aC_3 (w := w) (q := p / 3) (show rfR τ r = 0 by omega) (by omega) (by omega) (by show ¬ (isT τ (τ 3 r (3 * (p / 3))) ∧ 0 ≤ τ 3 r (3 * (p / 3) + 1) ∧ 0 ≤ τ 3 r (3 * (p / 3) + 2) ∧ τ 3 r (3 * (p / 3) + 2) ≤ 50) ∨ (w ≠ 0 ∧ dyD (τ 6 (τ 3 r (3 * (p / 3))) 0) (τ 6 (τ 3 r (3 * (p / 3))) 1) (τ 6 (τ 3 r (3 * (p / 3))) 2) (τ 6 (τ 3 r (3 * (p / 3))) 3) (τ 3 r (3 * (p / 3) + 1)) = -1); rw [show 3 * (p / 3) = p by omega]; omega)).2]; exact (rl_fd hR32q (by omega))) (sC_up (sC_up (sC_up (sC_up (sC_up (sC_up hC32q (by decide)) (by decide)) (by decide)) (by decide)) (by decide)) (by decide))
      exact loop32 ((τ 2 r 1 - 0 : Int).toNat + 1) 0 σ2 H locs ls (by first | assumption | omega) (fun q h1 h2 => by omega) hR2 (sC_t (sC_r _) hC2) (by omega) hG (lv_sub hl [2, 3, 4, 0] rfl)
    · refine lv_aload_n zC.1 zC.2.1 dX5_askedContracts_23 rfl (lv_at hl 1 rfl) ?_
      refine zr_iconst zC dX5_askedContracts_24 ?_
      refine zr_callV zC hG (c_X5_meet (σ := σ2) (f := 5) (by first | assumption | omega)) mt_X5_meet wl_X5_68 pM rfl rfl ⟨by decide, by decide⟩ rfl hl.1 rfl (Nat.le_of_ble_eq_true rfl) dX5_askedContracts_25 ⟨Nat.zero_le _, Nat.zero_le _⟩ (fun H locs hG => ?_)
      refine W.eq (g2 := F0 zm 28 ls [.int (zI (-3))]) rfl ?_
      exact zm_iret zC zK hG dX5_askedContracts_28 (aC_5 (w := w) (show rfR τ r = 0 by omega) (by omega)).1 (by rw [(aC_5 (w := w) (show rfR τ r = 0 by omega) (by omega)).2]; exact (rl_fd hR2 (by omega))) (sC_up (sC_up (sC_t (sC_r _) hC2) (by decide)) (by decide))
  · refine lv_iload_n zC.1 zC.2.1 dX5_askedContracts_10 rfl (lv_at hl 0 rfl) ?_
    exact zm_iret zC zK hG dX5_askedContracts_11 (aC_1 (w := w) (show rfR τ r ≠ 0 by omega)).1 (by rw [(aC_1 (w := w) (show rfR τ r ≠ 0 by omega)).2]; exact hR2) (sC_t (sC_r _) hC2)

set_option maxHeartbeats 4000000 in
set_option maxRecDepth 100000 in
theorem c_X5_quarrels {Γ : Gm} {zl : Launch} {A : Nat → Prop} {τ σ : Mm} {r : Int} (hR : Rel2 τ σ) (hI : IC τ) (hr : -2147483648 ≤ r ∧ r < 2147483648) : Fr Γ zl A yX5_quarrels cX5_quarrels 5 (some .int) 6 135 [.ref (aM Γ), .int (zI r)] σ (some (.int (zI (rC_quarrels τ r)))) (mC_quarrels τ r) := by
  refine Fr_of (by decide) (Nat.le_of_ble_eq_true rfl) ?_
  intro zp ze zs zm args below meth zc zQ H locs ls zC zK hG hl
  have hl : lv_has ls 5 [(0, .ref (aM Γ)), (1, .int (zI r))] := hl
  obtain ⟨hmany, htoday, -⟩ := id hI
  refine lv_aload_n zC.1 zC.2.1 dX5_quarrels_0 rfl (lv_at hl 0 rfl) ?_
  refine lv_iload_n zC.1 zC.2.1 dX5_quarrels_1 rfl (lv_at hl 1 rfl) ?_
  refine zr_iconst zC dX5_quarrels_2 ?_
  refine zm_callV zC hG (c_X5_askedContracts (τ := τ) (σ := σ) (r := r) (w := 1) hR hI (by first | assumption | omega) (by first | assumption | omega)) mt_X5_askedContracts wl_X5_210 pM rfl rfl ⟨by decide, by decide⟩ rfl hl.1 rfl (Nat.le_of_ble_eq_true rfl) dX5_quarrels_3 ⟨Nat.zero_le _, Nat.zero_le _⟩ (fun σ3 H locs hR3 hC3 hG => ?_)
  refine W.eq (g2 := F0 zm 6 ls [.int (zI (aC τ r 1))]) rfl ?_
  have b3_0 := aC_r τ r 1
  refine lv_istore_n (lv' := [(2, .int (zI (aC τ r 1))), (0, .ref (aM Γ)), (1, .int (zI r))]) zC.1 zC.2.1 dX5_quarrels_6 rfl hl (by decide) rfl (fun ls hl => ?_)
  refine lv_iload_n zC.1 zC.2.1 dX5_quarrels_7 rfl (lv_at hl 0 rfl) ?_
  refine zr_if_ge (tgt := 13) zC dX5_quarrels_8 (by decide) (by omega) (fun c8 => ?_) (fun c8 => ?_)
  · obtain ⟨h1, h2, h2b, h3, h4, h5, h6, h7⟩ := qu_0 hI (show aC τ r 1 = 0 by omega)
    rw [h5] at hR3
    refine zr_bipush zC dX5_quarrels_13 (by decide +kernel) ?_
    refine lv_istore_n (lv' := [(3, .int (zI (-9))), (2, .int (zI (aC τ r 1))), (0, .ref (aM Γ)), (1, .int (zI r))]) zC.1 zC.2.1 dX5_quarrels_15 rfl hl (by decide) rfl (fun ls hl => ?_)
    refine lv_aload_n zC.1 zC.2.1 dX5_quarrels_16 rfl (lv_at hl 2 rfl) ?_
    refine gf_M_sizes zC hG wl_X5_17 dX5_quarrels_17 ?_
    refine lv_iload_n zC.1 zC.2.1 dX5_quarrels_20 rfl (lv_at hl 3 rfl) ?_
    refine gi_m_sizes (v := szM (τ 2 r 1)) zC hG (by omega) (hR3.2.2.1 r (by omega) (by omega)) dX5_quarrels_21 ?_
    have f21 := hI.2.2.1 r (by omega) (by omega)
    have f21s := szM_s (τ 2 r 1)
    refine zr_iconst zC dX5_quarrels_22 ?_
    refine zr_isub zC dX5_quarrels_23 ?_
    refine lv_istore (lv' := [(4, .int (zI ((szM (τ 2 r 1)) - 3))), (3, .int (zI (-9))), (2, .int (zI (aC τ r 1))), (0, .ref (aM Γ)), (1, .int (zI r))]) zC.1 zC.2.1 dX5_quarrels_24 hl (by decide) rfl (fun ls hl => ?_)
    have loop26 : ∀ (nf : Nat) (fs p : Int) (σ26q : Mm) (H : Heap) (locs : List Loc) (ls : Array Slot), (-3 ≤ p ∧ p ≤ τ 2 r 1 - 3 ∧ p % 3 = 0) → ((fs = -9 ∧ ∀ z, p / 3 < z → z < τ 2 r 1 / 3 → ¬ (fun q => qrX τ r (3 * q)) z) ∨ (p / 3 < fs ∧ fs < τ 2 r 1 / 3 ∧ (fun q => qrX τ r (3 * q)) fs ∧ ∀ z, p / 3 < z → z < fs → ¬ (fun q => qrX τ r (3 * q)) z)) → (Rel2 τ σ26q) → (sC σ σ26q) → (p + 3 < (nf : Int)) → GM Γ A σ26q zs H locs → lv_has ls 5 [(0, .ref (aM Γ)), (1, .int (zI r)), (3, .int (zI fs)), (4, .int (zI p))] → W zp zl ze { frames := 6, cells := 0, slots := 0, locals := 135 } zs zm args below meth zc H locs 0 0 zQ (F0 zm 26 ls []) := by
      intro nf
      induction nf with
      | zero =>
        intro fs p σ26q H locs ls hp hf hR26q hC26q hm26 _ _
        exact absurd hm26 (by omega)
      | succ nf ih26 =>
        intro fs p σ26q H locs ls hp hf hR26q hC26q hm26 hG hl
        refine lv_iload zC.1 zC.2.1 dX5_quarrels_26 (lv_at hl 3 rfl) ?_
        refine zr_if_lt (tgt := 56) zC dX5_quarrels_28 (by decide) (by omega) (fun c28 => ?_) (fun c28 => ?_)
        · refine lv_aload_n zC.1 zC.2.1 dX5_quarrels_56 rfl (lv_at hl 0 rfl) ?_
          refine lv_iload_n zC.1 zC.2.1 dX5_quarrels_57 rfl (lv_at hl 2 rfl) ?_
          refine lv_aload_n zC.1 zC.2.1 dX5_quarrels_58 rfl (lv_at hl 0 rfl) ?_
          refine lv_iload_n zC.1 zC.2.1 dX5_quarrels_59 rfl (lv_at hl 1 rfl) ?_
          refine zm_callV zC hG (c_X5_quarrelMany (τ := τ) (σ := σ26q) (r := r) hR26q hI (by first | assumption | omega) ⟨h2, h3⟩ h4) mt_X5_quarrelMany wl_X5_214 pM rfl rfl ⟨by decide, by decide⟩ rfl hl.1 rfl (Nat.le_of_ble_eq_true rfl) dX5_quarrels_60 ⟨Nat.zero_le _, Nat.zero_le _⟩ (fun σ60 H locs hR60 hC60 hG => ?_)
          refine W.eq (g2 := F0 zm 63 ls [.int (zI (ctI (fun q => qrX τ r (3 * q)) 0 (τ 2 r 1 / 3).toNat)), .int (zI fs), .ref (aM Γ)]) rfl ?_
          have b60_0 := ctI_r (fun q => qrX τ r (3 * q)) 0 ((τ 2 r 1) / 3).toNat
          refine zr_callV zC hG (c_X5_ask (σ := σ60) (v := fs) (w := ctI (fun q => qrX τ r (3 * q)) 0 (τ 2 r 1 / 3).toNat)) mt_X5_ask wl_X5_86 pM rfl rfl ⟨by decide, by decide⟩ rfl hl.1 rfl (Nat.le_of_ble_eq_true rfl) dX5_quarrels_63 ⟨Nat.zero_le _, Nat.zero_le _⟩ (fun H locs hG => ?_)
          refine W.eq (g2 := F0 zm 66 ls [.int (zI (ctI (fun q => qrX τ r (3 * q)) 0 (τ 2 r 1 / 3).toNat))]) rfl ?_
          exact zm_iret zC zK hG dX5_quarrels_66 h6 (by rw [h7, show fstI (fun q => qrX τ r (3 * q)) 0 (τ 2 r 1 / 3).toNat = fs from (by rcases hf with ⟨g1, g2⟩ | ⟨g1, g2, g3, g4⟩; (rw [g1]; exact fstI_no (P := (fun q => qrX τ r (3 * q))) (fun z h1 h2 => g2 z (by omega) (by omega))); exact fstI_yes (P := (fun q => qrX τ r (3 * q))) (y := fs) (by omega) (by omega) g3 (fun z h1 h2 => g4 z (by omega) h2) (by omega))]; exact (rl_ask hR60)) (sC_up (sC_t hC26q hC60) (by decide))
        · obtain ⟨g1, g2, g3, g4⟩ := h4 (p / 3) (by omega) (by omega)
          rw [show 3 * (p / 3) = p by omega] at g1 g2 g3 g4
          refine lv_aload_n zC.1 zC.2.1 dX5_quarrels_31 rfl (lv_at hl 0 rfl) ?_
          refine lv_iload_n zC.1 zC.2.1 dX5_quarrels_32 rfl (lv_at hl 1 rfl) ?_
          refine lv_iload zC.1 zC.2.1 dX5_quarrels_33 (lv_at hl 3 rfl) ?_
          refine zm_callV zC hG (c_X5_doesQuarrel (τ := τ) (σ := σ26q) (r := r) (x := p) hR26q hI (by first | assumption | omega) (by first | assumption | omega) (by first | assumption | omega) (by first | assumption | omega) (by first | assumption | omega)) mt_X5_doesQuarrel wl_X5_207 pM rfl rfl ⟨by decide, by decide⟩ rfl hl.1 rfl (Nat.le_of_ble_eq_true rfl) dX5_quarrels_35 ⟨Nat.zero_le _, Nat.zero_le _⟩ (fun σ35 H locs hR35 hC35 hG => ?_)
          refine W.eq (g2 := F0 zm 38 ls [.int (zI (zB (qrX τ r p)))]) rfl ?_
          refine zr_ifeqB (tgt := 48) zC dX5_quarrels_38 (by decide) (fun c38 => ?_) (fun c38 => ?_)
          · have w38 : ¬ qrX τ r (3 * (p / 3)) := by rw [show 3 * (p / 3) = p by omega]; exact c38
            refine lv_iload_n zC.1 zC.2.1 dX5_quarrels_48 rfl (lv_at hl 2 rfl) ?_
            refine lv_istore_n (lv' := [(3, .int (zI fs)), (0, .ref (aM Γ)), (1, .int (zI r)), (4, .int (zI p))]) zC.1 zC.2.1 dX5_quarrels_49 rfl hl (by decide) rfl (fun ls hl => ?_)
            refine zr_iinc (lv' := [(4, .int (zI (p + (-3)))), (3, .int (zI fs)), (0, .ref (aM Γ)), (1, .int (zI r))]) zC dX5_quarrels_50 hl (k := 3) rfl (by decide) rfl (fun ls hl => ?_)
            refine lv_goto (tgt := 26) zC.1 zC.2.1 dX5_quarrels_53 (by decide) ?_
            exact ih26 fs (p + (-3)) σ35 H locs ls (by first | assumption | omega) (by first | exact Or.inr ⟨by omega, by omega, w38, fun z h1 h2 => by omega⟩ | (rcases hf with ⟨g1, g2⟩ | ⟨g1, g2, g3, g4⟩; exact Or.inl ⟨g1, fun z h1 h2 => by by_cases w : p / 3 < z; exact g2 z w h2; rw [show z = p / 3 by omega]; exact w38⟩; exact Or.inr ⟨by omega, g2, g3, fun z h1 h2 => by by_cases w : p / 3 < z; exact g4 z w h2; rw [show z = p / 3 by omega]; exact w38⟩)) hR35 (sC_t hC26q hC35) (by omega) hG (lv_sub hl [2, 3, 1, 0] rfl)
          · have w38 : qrX τ r (3 * (p / 3)) := by rw [show 3 * (p / 3) = p by omega]; exact c38
            refine lv_iload zC.1 zC.2.1 dX5_quarrels_41 (lv_at hl 3 rfl) ?_
            refine zr_iconst zC dX5_quarrels_43 ?_
            refine zr_idiv zC dX5_quarrels_44 (by omega) ?_
            refine lv_goto (tgt := 49) zC.1 zC.2.1 dX5_quarrels_45 (by decide) ?_
            refine lv_istore_n (lv' := [(3, .int (zI (p / 3))), (0, .ref (aM Γ)), (1, .int (zI r)), (4, .int (zI p))]) zC.1 zC.2.1 dX5_quarrels_49 rfl hl (by decide) rfl (fun ls hl => ?_)
            refine zr_iinc (lv' := [(4, .int (zI (p + (-3)))), (3, .int (zI (p / 3))), (0, .ref (aM Γ)), (1, .int (zI r))]) zC dX5_quarrels_50 hl (k := 3) rfl (by decide) rfl (fun ls hl => ?_)
            refine lv_goto (tgt := 26) zC.1 zC.2.1 dX5_quarrels_53 (by decide) ?_
            exact ih26 (p / 3) (p + (-3)) σ35 H locs ls (by first | assumption | omega) (by first | exact Or.inr ⟨by omega, by omega, w38, fun z h1 h2 => by omega⟩ | (rcases hf with ⟨g1, g2⟩ | ⟨g1, g2, g3, g4⟩; exact Or.inl ⟨g1, fun z h1 h2 => by by_cases w : p / 3 < z; exact g2 z w h2; rw [show z = p / 3 by omega]; exact w38⟩; exact Or.inr ⟨by omega, g2, g3, fun z h1 h2 => by by_cases w : p / 3 < z; exact g4 z w h2; rw [show z = p / 3 by omega]; exact w38⟩)) hR35 (sC_t hC26q hC35) (by omega) hG (lv_sub hl [2, 3, 1, 0] rfl)
    exact loop26 ((((szM (τ 2 r 1)) - 3) + 3 : Int).toNat + 1) (-9) ((szM (τ 2 r 1)) - 3) σ3 H locs ls (by first | assumption | omega) (Or.inl ⟨rfl, fun z h1 h2 => by omega⟩) hR3 (sC_t (sC_r _) hC3) (by omega) hG (lv_sub hl [3, 4, 1, 0] rfl)
  · obtain ⟨h1, h2⟩ := qu_1 c8
    refine lv_iload_n zC.1 zC.2.1 dX5_quarrels_11 rfl (lv_at hl 0 rfl) ?_
    exact zm_iret zC zK hG dX5_quarrels_12 h1 (by rw [h2]; exact hR3) (sC_t (sC_r _) hC3)

set_option maxHeartbeats 4000000 in
set_option maxRecDepth 100000 in
theorem c_X5_change {Γ : Gm} {zl : Launch} {A : Nat → Prop} {τ σ : Mm} {c r a b : Int} (hR : Rel2 τ σ) (hI : IC τ) (hc : -2147483648 ≤ c ∧ c < 2147483648) (hr : -2147483648 ≤ r ∧ r < 2147483648) (ha : -2147483648 ≤ a ∧ a < 2147483648) (hb : -2147483648 ≤ b ∧ b < 2147483648) : Fr Γ zl A yX5_change cX5_change 11 (some .int) 6 135 [.ref (aM Γ), .int (zI c), .int (zI r), .int (zI a), .int (zI b)] σ (some (.int (zI (rC_change τ c r a b)))) (mC_change τ c r a b) := by
  refine Fr_of (by decide) (Nat.le_of_ble_eq_true rfl) ?_
  intro zp ze zs zm args below meth zc zQ H locs ls zC zK hG hl
  have hl : lv_has ls 11 [(0, .ref (aM Γ)), (1, .int (zI c)), (2, .int (zI r)), (3, .int (zI a)), (4, .int (zI b))] := hl
  obtain ⟨hmany, htoday, -⟩ := id hI
  refine lv_aload_n zC.1 zC.2.1 dX5_change_0 rfl (lv_at hl 0 rfl) ?_
  refine lv_iload_n zC.1 zC.2.1 dX5_change_1 rfl (lv_at hl 1 rfl) ?_
  refine zr_callV zC hG (c_X5_isTown (τ := τ) (σ := σ) (c := c) hR hI (by first | assumption | omega)) mt_X5_isTown wl_X5_169 pM rfl rfl ⟨by decide, by decide⟩ rfl hl.1 rfl (Nat.le_of_ble_eq_true rfl) dX5_change_2 ⟨Nat.zero_le _, Nat.zero_le _⟩ (fun H locs hG => ?_)
  refine W.eq (g2 := F0 zm 5 ls [.int (zI (zB (isT τ c)))]) rfl ?_
  refine zr_ifeqB (tgt := 42) zC dX5_change_5 (by decide) (fun c5 => ?_) (fun c5 => ?_)
  · refine zr_iconst zC dX5_change_42 ?_
    exact zm_iret zC zK hG dX5_change_43 (by unfold rC_change; (repeat' split) <;> first | rfl | omega) (by unfold mC_change; (repeat' split) <;> first | exact hR | (exfalso; omega)) (sC_r _)
  · refine lv_iload_n zC.1 zC.2.1 dX5_change_8 rfl (lv_at hl 2 rfl) ?_
    refine zr_callS zC hG (c_X5_isRow (σ := σ) (v := r) (by first | assumption | omega)) mt_X5_isRow wl_X5_64 ⟨by decide, by decide⟩ rfl hl.1 rfl (Nat.le_of_ble_eq_true rfl) dX5_change_9 ⟨Nat.zero_le _, Nat.zero_le _⟩ (fun H locs hG => ?_)
    refine W.eq (g2 := F0 zm 12 ls [.int (zI (zB (0 ≤ r ∧ r ≤ 5)))]) rfl ?_
    refine zr_ifeqB (tgt := 42) zC dX5_change_12 (by decide) (fun c12 => ?_) (fun c12 => ?_)
    · refine zr_iconst zC dX5_change_42 ?_
      exact zm_iret zC zK hG dX5_change_43 (by unfold rC_change; (repeat' split) <;> first | rfl | omega) (by unfold mC_change; (repeat' split) <;> first | exact hR | (exfalso; omega)) (sC_r _)
    · refine lv_iload_n zC.1 zC.2.1 dX5_change_15 rfl (lv_at hl 3 rfl) ?_
      refine zr_if_lt (tgt := 42) zC dX5_change_16 (by decide) (by omega) (fun c16 => ?_) (fun c16 => ?_)
      · refine zr_iconst zC dX5_change_42 ?_
        exact zm_iret zC zK hG dX5_change_43 (by unfold rC_change; (repeat' split) <;> first | rfl | omega) (by unfold mC_change; (repeat' split) <;> first | exact hR | (exfalso; omega)) (sC_r _)
      · refine lv_iload_n zC.1 zC.2.1 dX5_change_19 rfl (lv_at hl 3 rfl) ?_
        refine lv_iload zC.1 zC.2.1 dX5_change_20 (lv_at hl 4 rfl) ?_
        refine zr_icmp_gt (tgt := 42) zC dX5_change_22 (by decide) (by omega) (fun c22 => ?_) (fun c22 => ?_)
        · refine zr_iconst zC dX5_change_42 ?_
          exact zm_iret zC zK hG dX5_change_43 (by unfold rC_change; (repeat' split) <;> first | rfl | omega) (by unfold mC_change; (repeat' split) <;> first | exact hR | (exfalso; omega)) (sC_r _)
        · refine lv_iload zC.1 zC.2.1 dX5_change_25 (lv_at hl 4 rfl) ?_
          refine zr_sipush zC dX5_change_27 (by decide +kernel) ?_
          refine zr_icmp_gt (tgt := 42) zC dX5_change_30 (by decide) (by omega) (fun c30 => ?_) (fun c30 => ?_)
          · refine zr_iconst zC dX5_change_42 ?_
            exact zm_iret zC zK hG dX5_change_43 (by unfold rC_change; (repeat' split) <;> first | rfl | omega) (by unfold mC_change; (repeat' split) <;> first | exact hR | (exfalso; omega)) (sC_r _)
          · refine lv_iload zC.1 zC.2.1 dX5_change_33 (lv_at hl 4 rfl) ?_
            refine lv_iload_n zC.1 zC.2.1 dX5_change_35 rfl (lv_at hl 3 rfl) ?_
            refine zr_isub zC dX5_change_36 ?_
            refine zr_bipush zC dX5_change_37 (by decide +kernel) ?_
            refine zr_icmp_lt (tgt := 44) zC dX5_change_39 (by decide) (by omega) (fun c39 => ?_) (fun c39 => ?_)
            · refine lv_aload_n zC.1 zC.2.1 dX5_change_44 rfl (lv_at hl 0 rfl) ?_
              refine lv_iload_n zC.1 zC.2.1 dX5_change_45 rfl (lv_at hl 2 rfl) ?_
              refine zr_iconst zC dX5_change_46 ?_
              refine zm_callV zC hG (c_X5_askedContracts (τ := τ) (σ := σ) (r := r) (w := 0) hR hI (by first | assumption | omega) (by first | assumption | omega)) mt_X5_askedContracts wl_X5_210 pM rfl rfl ⟨by decide, by decide⟩ rfl hl.1 rfl (Nat.le_of_ble_eq_true rfl) dX5_change_47 ⟨Nat.zero_le _, Nat.zero_le _⟩ (fun σ47 H locs hR47 hC47 hG => ?_)
              refine W.eq (g2 := F0 zm 50 ls [.int (zI (aC τ r 0))]) rfl ?_
              have b47_0 := aC_r τ r 0
              refine lv_istore (lv' := [(5, .int (zI (aC τ r 0))), (0, .ref (aM Γ)), (1, .int (zI c)), (2, .int (zI r)), (3, .int (zI a)), (4, .int (zI b))]) zC.1 zC.2.1 dX5_change_50 hl (by decide) rfl (fun ls hl => ?_)
              refine lv_iload zC.1 zC.2.1 dX5_change_52 (lv_at hl 0 rfl) ?_
              refine zr_if_ge (tgt := 60) zC dX5_change_54 (by decide) (by omega) (fun c54 => ?_) (fun c54 => ?_)
              · have h0c : rfC τ r = 0 := by have := (aC_w0 τ r).1; omega
                obtain ⟨h1, h2, h3, h4, h5⟩ := rfC_0 h0c
                have h6 := hI.2.2.1 r (by omega) (by omega)
                rw [(aC_w0 τ r).2, h3] at hR47
                refine lv_aload_n zC.1 zC.2.1 dX5_change_60 rfl (lv_at hl 1 rfl) ?_
                refine gf_M_orderOf zC hG wl_X5_38 dX5_change_61 ?_
                refine lv_iload_n zC.1 zC.2.1 dX5_change_64 rfl (lv_at hl 2 rfl) ?_
                refine gi_m_orderOf (v := τ 6 c 2) zC hG (by omega) (hR47.2.2.2.2.2.2.1 c (by omega) (by omega)).2.2.1 dX5_change_65 ?_
                obtain ⟨f65a, f65b, f65c, f65d⟩ := hI.2.2.2.2.2.2.1 c (by omega) (by omega)
                refine lv_istore (lv' := [(6, .int (zI (τ 6 c 2))), (5, .int (zI (aC τ r 0))), (0, .ref (aM Γ)), (1, .int (zI c)), (2, .int (zI r)), (3, .int (zI a)), (4, .int (zI b))]) zC.1 zC.2.1 dX5_change_66 hl (by decide) rfl (fun ls hl => ?_)
                refine lv_iload_n zC.1 zC.2.1 dX5_change_68 rfl (lv_at hl 5 rfl) ?_
                refine lv_istore (lv' := [(7, .int (zI a)), (6, .int (zI (τ 6 c 2))), (5, .int (zI (aC τ r 0))), (0, .ref (aM Γ)), (1, .int (zI c)), (2, .int (zI r)), (3, .int (zI a)), (4, .int (zI b))]) zC.1 zC.2.1 dX5_change_69 hl (by decide) rfl (fun ls hl => ?_)
                refine zr_bipush zC dX5_change_71 (by decide +kernel) ?_
                refine lv_istore (lv' := [(8, .int (zI 40)), (7, .int (zI a)), (6, .int (zI (τ 6 c 2))), (5, .int (zI (aC τ r 0))), (0, .ref (aM Γ)), (1, .int (zI c)), (2, .int (zI r)), (3, .int (zI a)), (4, .int (zI b))]) zC.1 zC.2.1 dX5_change_73 hl (by decide) rfl (fun ls hl => ?_)
                refine lv_iload_n zC.1 zC.2.1 dX5_change_75 rfl (lv_at hl 7 rfl) ?_
                refine lv_istore (lv' := [(9, .int (zI a)), (8, .int (zI 40)), (7, .int (zI a)), (6, .int (zI (τ 6 c 2))), (5, .int (zI (aC τ r 0))), (0, .ref (aM Γ)), (1, .int (zI c)), (2, .int (zI r)), (3, .int (zI a)), (4, .int (zI b))]) zC.1 zC.2.1 dX5_change_76 hl (by decide) rfl (fun ls hl => ?_)
                have loop78 : ∀ (nf : Nat) (bs u x : Int) (σ78q : Mm) (H : Heap) (locs : List Loc) (ls : Array Slot), (a ≤ x ∧ x ≤ b + 1) → (u = mnI (fun z => chF τ r c z) a (x - a).toNat) → (bs = bmI (fun z => chF τ r c z) a a (x - a).toNat) → (Rel2 (up τ 6 c 2 (chO τ c a x)) σ78q) → (sC σ σ78q) → (b + 1 - x < (nf : Int)) → GM Γ A σ78q zs H locs → lv_has ls 11 [(0, .ref (aM Γ)), (1, .int (zI c)), (2, .int (zI r)), (3, .int (zI a)), (4, .int (zI b)), (6, .int (zI (τ 6 c 2))), (7, .int (zI bs)), (8, .int (zI u)), (9, .int (zI x))] → W zp zl ze { frames := 6, cells := 0, slots := 0, locals := 135 } zs zm args below meth zc H locs 0 0 zQ (F0 zm 78 ls []) := by
                  intro nf
                  induction nf with
                  | zero =>
                    intro bs u x σ78q H locs ls hx hu hb hR78q hC78q hm78 _ _
                    exact absurd hm78 (by omega)
                  | succ nf ih78 =>
                    intro bs u x σ78q H locs ls hx hu hb hR78q hC78q hm78 hG hl
                    have b78 := mnI_b (f := (fun z => chF τ r c z)) (a := a) (n := (x - a).toNat) (fun z _ _ => (ctI_r _ _ _).1)
                    rw [← hu] at b78
                    have b78c := ctI_r (fun q => chQ τ r c x q) 0 (τ 2 r 1 / 3).toNat
                    have b78d : chF τ r c x = ctI (fun q => chQ τ r c x q) 0 (τ 2 r 1 / 3).toNat := rfl
                    refine lv_iload zC.1 zC.2.1 dX5_change_78 (lv_at hl 8 rfl) ?_
                    refine lv_iload zC.1 zC.2.1 dX5_change_80 (lv_at hl 4 rfl) ?_
                    refine zr_icmp_gt (tgt := 138) zC dX5_change_82 (by decide) (by omega) (fun c82 => ?_) (fun c82 => ?_)
                    · refine lv_aload_n zC.1 zC.2.1 dX5_change_138 rfl (lv_at hl 0 rfl) ?_
                      refine gf_M_orderOf zC hG wl_X5_38 dX5_change_139 ?_
                      refine lv_iload_n zC.1 zC.2.1 dX5_change_142 rfl (lv_at hl 1 rfl) ?_
                      refine lv_iload zC.1 zC.2.1 dX5_change_143 (lv_at hl 5 rfl) ?_
                      refine pi_m_orderOf zC hG (by omega) dX5_change_145 (fun H locs hG => ?_)
                      refine lv_aload_n zC.1 zC.2.1 dX5_change_146 rfl (lv_at hl 0 rfl) ?_
                      refine lv_iload zC.1 zC.2.1 dX5_change_147 (lv_at hl 7 rfl) ?_
                      refine lv_iload zC.1 zC.2.1 dX5_change_149 (lv_at hl 6 rfl) ?_
                      refine zr_callV zC hG (c_X5_ask (σ := up σ78q 29 0 c (τ 6 c 2)) (v := u) (w := bs)) mt_X5_ask wl_X5_86 pM rfl rfl ⟨by decide, by decide⟩ rfl hl.1 rfl (Nat.le_of_ble_eq_true rfl) dX5_change_151 ⟨Nat.zero_le _, Nat.zero_le _⟩ (fun H locs hG => ?_)
                      refine W.eq (g2 := F0 zm 154 ls [.int (zI bs)]) rfl ?_
                      exact zm_iret zC zK hG dX5_change_154 (by unfold rC_change; rw [if_neg (by omega), if_neg (fun z => z h0c), hb, show x = b + 1 by omega]) (by unfold mC_change; rw [if_neg (by omega), if_neg (fun z => z h0c), show mnI (fun z => chF τ r c z) a (b + 1 - a).toNat = u from (by rw [hu, show x = b + 1 by omega])]; have h9 := rl_ord (c := c) (v := τ 6 c 2) hR78q; rw [ch_b] at h9; exact rl_ask (rl_tr h9 hI)) (sC_up (sC_up hC78q (by decide)) (by decide))
                    · refine lv_aload_n zC.1 zC.2.1 dX5_change_85 rfl (lv_at hl 0 rfl) ?_
                      refine gf_M_orderOf zC hG wl_X5_38 dX5_change_86 ?_
                      refine lv_iload_n zC.1 zC.2.1 dX5_change_89 rfl (lv_at hl 1 rfl) ?_
                      refine lv_iload zC.1 zC.2.1 dX5_change_90 (lv_at hl 8 rfl) ?_
                      refine pi_m_orderOf zC hG (by omega) dX5_change_92 (fun H locs hG => ?_)
                      refine lv_aload_n zC.1 zC.2.1 dX5_change_93 rfl (lv_at hl 0 rfl) ?_
                      refine lv_iload_n zC.1 zC.2.1 dX5_change_94 rfl (lv_at hl 2 rfl) ?_
                      refine zm_callV zC hG (c_X5_quarrelMany (τ := up (up τ 6 c 2 (chO τ c a x)) 6 c 2 x) (σ := up σ78q 29 0 c x) (r := r) (rl_ord hR78q) (IC_ord (IC_ord hI (by unfold chO; have := (hI.2.2.2.2.2.2.1 c (by omega) (by omega)).2.2.1; split <;> omega)) (by omega)) (by first | assumption | omega) (show 0 ≤ τ 2 r 1 ∧ τ 2 r 1 % 3 = 0 by omega) (fun q h1 h2 => h5 q h1 h2)) mt_X5_quarrelMany wl_X5_214 pM rfl rfl ⟨by decide, by decide⟩ rfl hl.1 rfl (Nat.le_of_ble_eq_true rfl) dX5_change_95 ⟨Nat.zero_le _, Nat.zero_le _⟩ (fun σ95 H locs hR95 hC95 hG => ?_)
                      refine W.eq (g2 := F0 zm 98 ls [.int (zI (ctI (fun q => qrX (up (up τ 6 c 2 (chO τ c a x)) 6 c 2 x) r (3 * q)) 0 ((up (up τ 6 c 2 (chO τ c a x)) 6 c 2 x) 2 r 1 / 3).toNat))]) rfl ?_
                      have b95_0 := ctI_r (fun q => qrX (up (up τ 6 c 2 (chO τ c a x)) 6 c 2 x) r (3 * q)) 0 (((up τ 6 c 2 (chO τ c a x)) 2 r 1) / 3).toNat
                      refine zr_topi (y := chF τ r c x) (ch_m τ r c x (chO τ c a x)) ?_
                      refine lv_istore (lv' := [(10, .int (zI (chF τ r c x))), (0, .ref (aM Γ)), (1, .int (zI c)), (2, .int (zI r)), (3, .int (zI a)), (4, .int (zI b)), (6, .int (zI (τ 6 c 2))), (7, .int (zI bs)), (8, .int (zI u)), (9, .int (zI x))]) zC.1 zC.2.1 dX5_change_98 hl (by decide) rfl (fun ls hl => ?_)
                      refine lv_iload zC.1 zC.2.1 dX5_change_100 (lv_at hl 0 rfl) ?_
                      refine lv_iload zC.1 zC.2.1 dX5_change_102 (lv_at hl 8 rfl) ?_
                      refine zr_icmp_ge (tgt := 112) zC dX5_change_104 (by decide) (by omega) (fun c104 => ?_) (fun c104 => ?_)
                      · refine lv_iload zC.1 zC.2.1 dX5_change_112 (lv_at hl 7 rfl) ?_
                        refine lv_istore (lv' := [(7, .int (zI bs)), (10, .int (zI (chF τ r c x))), (0, .ref (aM Γ)), (1, .int (zI c)), (2, .int (zI r)), (3, .int (zI a)), (4, .int (zI b)), (6, .int (zI (τ 6 c 2))), (8, .int (zI u)), (9, .int (zI x))]) zC.1 zC.2.1 dX5_change_114 hl (by decide) rfl (fun ls hl => ?_)
                        refine lv_iload zC.1 zC.2.1 dX5_change_116 (lv_at hl 1 rfl) ?_
                        refine lv_iload zC.1 zC.2.1 dX5_change_118 (lv_at hl 8 rfl) ?_
                        refine zr_icmp_ge (tgt := 128) zC dX5_change_120 (by decide) (by omega) (fun c120 => ?_) (fun c120 => ?_)
                        · refine lv_iload zC.1 zC.2.1 dX5_change_128 (lv_at hl 8 rfl) ?_
                          refine lv_istore (lv' := [(8, .int (zI u)), (7, .int (zI bs)), (10, .int (zI (chF τ r c x))), (0, .ref (aM Γ)), (1, .int (zI c)), (2, .int (zI r)), (3, .int (zI a)), (4, .int (zI b)), (6, .int (zI (τ 6 c 2))), (9, .int (zI x))]) zC.1 zC.2.1 dX5_change_130 hl (by decide) rfl (fun ls hl => ?_)
                          refine zr_iinc (lv' := [(9, .int (zI (x + 1))), (8, .int (zI u)), (7, .int (zI bs)), (10, .int (zI (chF τ r c x))), (0, .ref (aM Γ)), (1, .int (zI c)), (2, .int (zI r)), (3, .int (zI a)), (4, .int (zI b)), (6, .int (zI (τ 6 c 2)))]) zC dX5_change_132 hl (k := 9) rfl (by decide) rfl (fun ls hl => ?_)
                          refine lv_goto (tgt := 78) zC.1 zC.2.1 dX5_change_135 (by decide) ?_
                          exact ih78 bs u (x + 1) σ95 H locs ls (by first | assumption | omega) (by rw [mnI_s hx.1, ← hu]; omega) (by rw [bmI_s hx.1, ← hu, ← hb]; split <;> omega) ((show up (up τ 6 c 2 (chO τ c a x)) 6 c 2 x = up τ 6 c 2 (chO τ c a (x + 1)) from (ch_s τ c a x (by omega) _)) ▸ hR95) (sC_t (sC_up hC78q (by decide)) hC95) (by omega) hG (lv_sub hl [4, 5, 6, 7, 8, 9, 2, 1, 0] rfl)
                        · refine lv_iload zC.1 zC.2.1 dX5_change_123 (lv_at hl 1 rfl) ?_
                          refine lv_goto (tgt := 130) zC.1 zC.2.1 dX5_change_125 (by decide) ?_
                          refine lv_istore (lv' := [(8, .int (zI (chF τ r c x))), (7, .int (zI bs)), (10, .int (zI (chF τ r c x))), (0, .ref (aM Γ)), (1, .int (zI c)), (2, .int (zI r)), (3, .int (zI a)), (4, .int (zI b)), (6, .int (zI (τ 6 c 2))), (9, .int (zI x))]) zC.1 zC.2.1 dX5_change_130 hl (by decide) rfl (fun ls hl => ?_)
                          refine zr_iinc (lv' := [(9, .int (zI (x + 1))), (8, .int (zI (chF τ r c x))), (7, .int (zI bs)), (10, .int (zI (chF τ r c x))), (0, .ref (aM Γ)), (1, .int (zI c)), (2, .int (zI r)), (3, .int (zI a)), (4, .int (zI b)), (6, .int (zI (τ 6 c 2)))]) zC dX5_change_132 hl (k := 9) rfl (by decide) rfl (fun ls hl => ?_)
                          refine lv_goto (tgt := 78) zC.1 zC.2.1 dX5_change_135 (by decide) ?_
                          exact ih78 bs (chF τ r c x) (x + 1) σ95 H locs ls (by first | assumption | omega) (by rw [mnI_s hx.1, ← hu]; omega) (by rw [bmI_s hx.1, ← hu, ← hb]; split <;> omega) ((show up (up τ 6 c 2 (chO τ c a x)) 6 c 2 x = up τ 6 c 2 (chO τ c a (x + 1)) from (ch_s τ c a x (by omega) _)) ▸ hR95) (sC_t (sC_up hC78q (by decide)) hC95) (by omega) hG (lv_sub hl [4, 5, 6, 7, 8, 9, 2, 1, 0] rfl)
                      · refine lv_iload zC.1 zC.2.1 dX5_change_107 (lv_at hl 9 rfl) ?_
                        refine lv_goto (tgt := 114) zC.1 zC.2.1 dX5_change_109 (by decide) ?_
                        refine lv_istore (lv' := [(7, .int (zI x)), (10, .int (zI (chF τ r c x))), (0, .ref (aM Γ)), (1, .int (zI c)), (2, .int (zI r)), (3, .int (zI a)), (4, .int (zI b)), (6, .int (zI (τ 6 c 2))), (8, .int (zI u)), (9, .int (zI x))]) zC.1 zC.2.1 dX5_change_114 hl (by decide) rfl (fun ls hl => ?_)
                        refine lv_iload zC.1 zC.2.1 dX5_change_116 (lv_at hl 1 rfl) ?_
                        refine lv_iload zC.1 zC.2.1 dX5_change_118 (lv_at hl 8 rfl) ?_
                        refine zr_icmp_ge (tgt := 128) zC dX5_change_120 (by decide) (by omega) (fun c120 => ?_) (fun c120 => ?_)
                        · refine lv_iload zC.1 zC.2.1 dX5_change_128 (lv_at hl 8 rfl) ?_
                          refine lv_istore (lv' := [(8, .int (zI u)), (7, .int (zI x)), (10, .int (zI (chF τ r c x))), (0, .ref (aM Γ)), (1, .int (zI c)), (2, .int (zI r)), (3, .int (zI a)), (4, .int (zI b)), (6, .int (zI (τ 6 c 2))), (9, .int (zI x))]) zC.1 zC.2.1 dX5_change_130 hl (by decide) rfl (fun ls hl => ?_)
                          refine zr_iinc (lv' := [(9, .int (zI (x + 1))), (8, .int (zI u)), (7, .int (zI x)), (10, .int (zI (chF τ r c x))), (0, .ref (aM Γ)), (1, .int (zI c)), (2, .int (zI r)), (3, .int (zI a)), (4, .int (zI b)), (6, .int (zI (τ 6 c 2)))]) zC dX5_change_132 hl (k := 9) rfl (by decide) rfl (fun ls hl => ?_)
                          refine lv_goto (tgt := 78) zC.1 zC.2.1 dX5_change_135 (by decide) ?_
                          exact ih78 x u (x + 1) σ95 H locs ls (by first | assumption | omega) (by rw [mnI_s hx.1, ← hu]; omega) (by rw [bmI_s hx.1, ← hu, ← hb]; split <;> omega) ((show up (up τ 6 c 2 (chO τ c a x)) 6 c 2 x = up τ 6 c 2 (chO τ c a (x + 1)) from (ch_s τ c a x (by omega) _)) ▸ hR95) (sC_t (sC_up hC78q (by decide)) hC95) (by omega) hG (lv_sub hl [4, 5, 6, 7, 8, 9, 2, 1, 0] rfl)
                        · refine lv_iload zC.1 zC.2.1 dX5_change_123 (lv_at hl 1 rfl) ?_
                          refine lv_goto (tgt := 130) zC.1 zC.2.1 dX5_change_125 (by decide) ?_
                          refine lv_istore (lv' := [(8, .int (zI (chF τ r c x))), (7, .int (zI x)), (10, .int (zI (chF τ r c x))), (0, .ref (aM Γ)), (1, .int (zI c)), (2, .int (zI r)), (3, .int (zI a)), (4, .int (zI b)), (6, .int (zI (τ 6 c 2))), (9, .int (zI x))]) zC.1 zC.2.1 dX5_change_130 hl (by decide) rfl (fun ls hl => ?_)
                          refine zr_iinc (lv' := [(9, .int (zI (x + 1))), (8, .int (zI (chF τ r c x))), (7, .int (zI x)), (10, .int (zI (chF τ r c x))), (0, .ref (aM Γ)), (1, .int (zI c)), (2, .int (zI r)), (3, .int (zI a)), (4, .int (zI b)), (6, .int (zI (τ 6 c 2)))]) zC dX5_change_132 hl (k := 9) rfl (by decide) rfl (fun ls hl => ?_)
                          refine lv_goto (tgt := 78) zC.1 zC.2.1 dX5_change_135 (by decide) ?_
                          exact ih78 x (chF τ r c x) (x + 1) σ95 H locs ls (by first | assumption | omega) (by rw [mnI_s hx.1, ← hu]; omega) (by rw [bmI_s hx.1, ← hu, ← hb]; split <;> omega) ((show up (up τ 6 c 2 (chO τ c a x)) 6 c 2 x = up τ 6 c 2 (chO τ c a (x + 1)) from (ch_s τ c a x (by omega) _)) ▸ hR95) (sC_t (sC_up hC78q (by decide)) hC95) (by omega) hG (lv_sub hl [4, 5, 6, 7, 8, 9, 2, 1, 0] rfl)
                exact loop78 ((b + 1 - a : Int).toNat + 1) a 40 a σ47 H locs ls (by first | assumption | omega) (by rw [show (a - a).toNat = 0 by omega]; rfl) (by rw [show (a - a).toNat = 0 by omega]; rfl) ((show τ = up τ 6 c 2 (chO τ c a a) from (ch_0 τ c a)) ▸ hR47) (sC_t (sC_r _) hC47) (by omega) hG (lv_sub hl [5, 6, 7, 8, 9, 3, 2, 1, 0] rfl)
              · obtain ⟨h1, h2⟩ := aC_w0 τ r
                refine lv_iload zC.1 zC.2.1 dX5_change_57 (lv_at hl 0 rfl) ?_
                exact zm_iret zC zK hG dX5_change_59 (by unfold rC_change; rw [if_neg (by omega), if_pos (by omega)]; omega) (by unfold mC_change; rw [if_neg (by omega), if_pos (by omega), ← h2]; exact hR47) (sC_t (sC_r _) hC47)
            · refine zr_iconst zC dX5_change_42 ?_
              exact zm_iret zC zK hG dX5_change_43 (by unfold rC_change; (repeat' split) <;> first | rfl | omega) (by unfold mC_change; (repeat' split) <;> first | exact hR | (exfalso; omega)) (sC_r _)

set_option maxHeartbeats 4000000 in
set_option maxRecDepth 100000 in
theorem c_X5_rent {Γ : Gm} {zl : Launch} {A : Nat → Prop} {τ σ : Mm} {c v a b : Int} (hR : Rel2 τ σ) (hI : IC τ) (hc : -2147483648 ≤ c ∧ c < 2147483648) (hv : -2147483648 ≤ v ∧ v < 2147483648) (ha : -2147483648 ≤ a ∧ a < 2147483648) (hb : -2147483648 ≤ b ∧ b < 2147483648) : Fr Γ zl A yX5_rent cX5_rent 10 (some .int) 5 106 [.ref (aM Γ), .int (zI c), .int (zI v), .int (zI a), .int (zI b)] σ (some (.int (zI (rC_rent τ c v a b)))) (mC_rent τ c v a b) := by
  refine Fr_of (by decide) (Nat.le_of_ble_eq_true rfl) ?_
  intro zp ze zs zm args below meth zc zQ H locs ls zC zK hG hl
  have hl : lv_has ls 10 [(0, .ref (aM Γ)), (1, .int (zI c)), (2, .int (zI v)), (3, .int (zI a)), (4, .int (zI b))] := hl
  obtain ⟨hmany, htoday, -⟩ := id hI
  refine lv_aload_n zC.1 zC.2.1 dX5_rent_0 rfl (lv_at hl 0 rfl) ?_
  refine lv_iload_n zC.1 zC.2.1 dX5_rent_1 rfl (lv_at hl 1 rfl) ?_
  refine zr_callV zC hG (c_X5_isTown (τ := τ) (σ := σ) (c := c) hR hI (by first | assumption | omega)) mt_X5_isTown wl_X5_169 pM rfl rfl ⟨by decide, by decide⟩ rfl hl.1 rfl (Nat.le_of_ble_eq_true rfl) dX5_rent_2 ⟨Nat.zero_le _, Nat.zero_le _⟩ (fun H locs hG => ?_)
  refine W.eq (g2 := F0 zm 5 ls [.int (zI (zB (isT τ c)))]) rfl ?_
  refine zr_ifeqB (tgt := 38) zC dX5_rent_5 (by decide) (fun c5 => ?_) (fun c5 => ?_)
  · refine zr_iconst zC dX5_rent_38 ?_
    exact zm_iret zC zK hG dX5_rent_39 (by unfold rC_rent; (repeat' split) <;> first | rfl | omega) (by unfold mC_rent; (repeat' split) <;> first | exact hR | (exfalso; omega)) (sC_r _)
  · refine lv_iload_n zC.1 zC.2.1 dX5_rent_8 rfl (lv_at hl 2 rfl) ?_
    refine zr_iconst zC dX5_rent_9 ?_
    refine zr_sipush zC dX5_rent_10 (by decide +kernel) ?_
    refine zr_callS zC hG (c_X5_in (σ := σ) (v := v) (a := 0) (b := 9999) (by first | assumption | omega) (by first | assumption | omega) (by first | assumption | omega)) mt_X5_in wl_X5_60 ⟨by decide, by decide⟩ rfl hl.1 rfl (Nat.le_of_ble_eq_true rfl) dX5_rent_13 ⟨Nat.zero_le _, Nat.zero_le _⟩ (fun H locs hG => ?_)
    refine W.eq (g2 := F0 zm 16 ls [.int (zI (zB (0 ≤ v ∧ v ≤ 9999)))]) rfl ?_
    refine zr_ifeqB (tgt := 38) zC dX5_rent_16 (by decide) (fun c16 => ?_) (fun c16 => ?_)
    · refine zr_iconst zC dX5_rent_38 ?_
      exact zm_iret zC zK hG dX5_rent_39 (by unfold rC_rent; (repeat' split) <;> first | rfl | omega) (by unfold mC_rent; (repeat' split) <;> first | exact hR | (exfalso; omega)) (sC_r _)
    · refine lv_iload_n zC.1 zC.2.1 dX5_rent_19 rfl (lv_at hl 3 rfl) ?_
      refine lv_iload zC.1 zC.2.1 dX5_rent_20 (lv_at hl 4 rfl) ?_
      refine zr_callS zC hG (c_X5_areDays (σ := σ) (a := a) (b := b) (by first | assumption | omega) (by first | assumption | omega)) mt_X5_areDays wl_X5_191 ⟨by decide, by decide⟩ rfl hl.1 rfl (Nat.le_of_ble_eq_true rfl) dX5_rent_22 ⟨Nat.zero_le _, Nat.zero_le _⟩ (fun H locs hG => ?_)
      refine W.eq (g2 := F0 zm 25 ls [.int (zI (zB (0 ≤ a ∧ a ≤ b ∧ b ≤ 19999)))]) rfl ?_
      refine zr_ifeqB (tgt := 38) zC dX5_rent_25 (by decide) (fun c25 => ?_) (fun c25 => ?_)
      · refine zr_iconst zC dX5_rent_38 ?_
        exact zm_iret zC zK hG dX5_rent_39 (by unfold rC_rent; (repeat' split) <;> first | rfl | omega) (by unfold mC_rent; (repeat' split) <;> first | exact hR | (exfalso; omega)) (sC_r _)
      · refine lv_iload zC.1 zC.2.1 dX5_rent_28 (lv_at hl 4 rfl) ?_
        refine lv_iload_n zC.1 zC.2.1 dX5_rent_30 rfl (lv_at hl 3 rfl) ?_
        refine zr_isub zC dX5_rent_31 ?_
        refine zr_sipush zC dX5_rent_32 (by decide +kernel) ?_
        refine zr_icmp_le (tgt := 40) zC dX5_rent_35 (by decide) (by omega) (fun c35 => ?_) (fun c35 => ?_)
        · refine zr_ldc2 (z := 494900) zC wl_X5_217 (by decide +kernel) dX5_rent_40 ?_
          refine lv_lstore (lv' := [(5, .long (zL 494900)), (0, .ref (aM Γ)), (1, .int (zI c)), (2, .int (zI v)), (3, .int (zI a)), (4, .int (zI b))]) zC.1 zC.2.1 dX5_rent_43 hl (by decide) rfl (fun ls hl => ?_)
          refine zr_lconst (z := 0) zC dX5_rent_45 (by decide +kernel) ?_
          refine lv_lstore (lv' := [(7, .long (zL 0)), (5, .long (zL 494900)), (0, .ref (aM Γ)), (1, .int (zI c)), (2, .int (zI v)), (3, .int (zI a)), (4, .int (zI b))]) zC.1 zC.2.1 dX5_rent_46 hl (by decide) rfl (fun ls hl => ?_)
          refine lv_iload_n zC.1 zC.2.1 dX5_rent_48 rfl (lv_at hl 5 rfl) ?_
          refine lv_istore (lv' := [(9, .int (zI a)), (7, .long (zL 0)), (5, .long (zL 494900)), (0, .ref (aM Γ)), (1, .int (zI c)), (2, .int (zI v)), (3, .int (zI a)), (4, .int (zI b))]) zC.1 zC.2.1 dX5_rent_49 hl (by decide) rfl (fun ls hl => ?_)
          have loop51 : ∀ (nf : Nat) (u x : Int) (σ51q : Mm) (H : Heap) (locs : List Loc) (ls : Array Slot), (a ≤ x ∧ x ≤ b) → (u = v * smI (fun j => rtQ (lenY (τ 6 c 0) (τ 6 c 1) (dtD (τ 6 c 0) (τ 6 c 1) (τ 6 c 2) (τ 6 c 3) (a + j) / 1000))) (x - a).toNat) → (Rel2 τ σ51q) → (sC σ σ51q) → (b - x < (nf : Int)) → GM Γ A σ51q zs H locs → lv_has ls 10 [(0, .ref (aM Γ)), (1, .int (zI c)), (2, .int (zI v)), (3, .int (zI a)), (4, .int (zI b)), (5, .long (zL 494900)), (7, .long (zL u)), (9, .int (zI x))] → W zp zl ze { frames := 5, cells := 0, slots := 0, locals := 106 } zs zm args below meth zc H locs 0 0 zQ (F0 zm 51 ls []) := by
            intro nf
            induction nf with
            | zero =>
              intro u x σ51q H locs ls hx hu hR51q hC51q hm51 _ _
              exact absurd hm51 (by omega)
            | succ nf ih51 =>
              intro u x σ51q H locs ls hx hu hR51q hC51q hm51 hG hl
              refine lv_iload zC.1 zC.2.1 dX5_rent_51 (lv_at hl 7 rfl) ?_
              refine lv_iload zC.1 zC.2.1 dX5_rent_53 (lv_at hl 4 rfl) ?_
              refine zr_icmp_ge (tgt := 91) zC dX5_rent_55 (by decide) (by omega) (fun c55 => ?_) (fun c55 => ?_)
              · have b55 := sm_b (f := (fun j => rtQ (lenY (τ 6 c 0) (τ 6 c 1) (dtD (τ 6 c 0) (τ 6 c 1) (τ 6 c 2) (τ 6 c 3) (a + j) / 1000)))) (fun j => by have := rtQ_r (lenY (τ 6 c 0) (τ 6 c 1) (dtD (τ 6 c 0) (τ 6 c 1) (τ 6 c 2) (τ 6 c 3) (a + j) / 1000)); omega) (x - a).toNat
                have b55b := mul_r (a := v) (b := smI (fun j => rtQ (lenY (τ 6 c 0) (τ 6 c 1) (dtD (τ 6 c 0) (τ 6 c 1) (τ 6 c 2) (τ 6 c 3) (a + j) / 1000))) (x - a).toNat) (m := 9999) (n := 5050 * 400) (by omega) (by omega)
                rw [← hu] at b55b
                refine lv_aload_n zC.1 zC.2.1 dX5_rent_91 rfl (lv_at hl 0 rfl) ?_
                refine lv_lload zC.1 zC.2.1 dX5_rent_92 (lv_at hl 6 rfl) ?_
                refine lv_lload zC.1 zC.2.1 dX5_rent_94 (lv_at hl 5 rfl) ?_
                refine zr_callV zC hG (c_X5_part (σ := σ51q) (a := u) (b := 494900) (by first | assumption | omega) (by first | assumption | omega)) mt_X5_part wl_X5_219 pM rfl rfl ⟨by decide, by decide⟩ rfl hl.1 rfl (Nat.le_of_ble_eq_true rfl) dX5_rent_96 ⟨Nat.zero_le _, Nat.zero_le _⟩ (fun H locs hG => ?_)
                refine W.eq (g2 := F0 zm 99 ls [.int (zI 1)]) rfl ?_
                exact zm_iret zC zK hG dX5_rent_99 (by unfold rC_rent; (repeat' split) <;> first | rfl | omega) (by unfold mC_rent; rw [if_neg (by omega)]; unfold mFr; have s1 := rt_sum (k := τ 6 c 0) (lp := τ 6 c 1) (a := a) (d := fun z => dtD (τ 6 c 0) (τ 6 c 1) (τ 6 c 2) (τ 6 c 3) z) (b - a).toNat; have s2 := ctI_r (fun z => lenY (τ 6 c 0) (τ 6 c 1) (dtD (τ 6 c 0) (τ 6 c 1) (τ 6 c 2) (τ 6 c 3) z / 1000) = 101) a (b - a).toNat; have s3 := shL_r (τ 6 c 0); rw [show (((b - a).toNat : Nat) : Int) = b - a by omega] at s1 s2; rw [show x - a = b - a by omega] at hu; obtain ⟨e1, e2⟩ := rt_eq (k := τ 6 c 0) (A := v * ((b - a - ctI (fun z => lenY (τ 6 c 0) (τ 6 c 1) (dtD (τ 6 c 0) (τ 6 c 1) (τ 6 c 2) (τ 6 c 3) z / 1000) = 101) a (b - a).toNat) * 101 + ctI (fun z => lenY (τ 6 c 0) (τ 6 c 1) (dtD (τ 6 c 0) (τ 6 c 1) (τ 6 c 2) (τ 6 c 3) z / 1000) = 101) a (b - a).toNat * shL (τ 6 c 0))) (u := u) (Int.mul_nonneg (by omega) (Int.add_nonneg (by omega) (Int.mul_nonneg (by omega) (by omega)))) (hu.trans ((congrArg (fun q => v * q) s1).trans (Int.mul_left_comm _ _ _))); rw [← e1, ← e2]; exact (rl_low (rl_upp hR51q))) (sC_up (sC_up hC51q (by decide)) (by decide))
              · refine lv_lload zC.1 zC.2.1 dX5_rent_58 (lv_at hl 6 rfl) ?_
                refine lv_iload_n zC.1 zC.2.1 dX5_rent_60 rfl (lv_at hl 2 rfl) ?_
                refine zr_i2l zC dX5_rent_61 (by omega) ?_
                refine lv_lload zC.1 zC.2.1 dX5_rent_62 (lv_at hl 5 rfl) ?_
                refine lv_aload_n zC.1 zC.2.1 dX5_rent_64 rfl (lv_at hl 0 rfl) ?_
                refine lv_aload_n zC.1 zC.2.1 dX5_rent_65 rfl (lv_at hl 0 rfl) ?_
                refine lv_iload_n zC.1 zC.2.1 dX5_rent_66 rfl (lv_at hl 1 rfl) ?_
                refine lv_iload zC.1 zC.2.1 dX5_rent_67 (lv_at hl 7 rfl) ?_
                refine zr_callV zC hG (c_X5_dateIn (τ := τ) (σ := σ51q) (c := c) (d := x) hR51q hI (by first | assumption | omega) (by first | assumption | omega)) mt_X5_dateIn wl_X5_166 pM rfl rfl ⟨by decide, by decide⟩ rfl hl.1 rfl (Nat.le_of_ble_eq_true rfl) dX5_rent_69 ⟨Nat.zero_le _, Nat.zero_le _⟩ (fun H locs hG => ?_)
                refine W.eq (g2 := F0 zm 72 ls [.int (zI (dtD (τ 6 c 0) (τ 6 c 1) (τ 6 c 2) (τ 6 c 3) x)), .ref (aM Γ), .long (zL 494900), .long (zL v), .long (zL u)]) rfl ?_
                have b69_0 := dtD_r (k := (τ 6 c 0)) (lp := (τ 6 c 1)) (o := (τ 6 c 2)) (g := (τ 6 c 3)) (d := x) (by omega) (hI.2.2.2.2.2.2.1 c (by omega) (by omega)).2.1 (hI.2.2.2.2.2.2.1 c (by omega) (by omega)).2.2.2
                refine zr_sipush zC dX5_rent_72 (by decide +kernel) ?_
                refine zr_idiv zC dX5_rent_75 (by omega) ?_
                have k76 := hI.2.2.2.2.2.2.1 c (by omega) (by omega)
                obtain ⟨k76a, k76b, k76c, k76d⟩ := id k76
                refine zr_callV zC hG (c_X5_yearDays (σ := up (up (up (up σ51q 20 0 19 (τ 6 c 0)) 20 0 20 (τ 6 c 1)) 20 0 21 (τ 6 c 2)) 20 0 22 (τ 6 c 3)) (y := (dtD (τ 6 c 0) (τ 6 c 1) (τ 6 c 2) (τ 6 c 3) x) / 1000) k76 (by first | assumption | omega)) mt_X5_yearDays wl_X5_160 pM rfl rfl ⟨by decide, by decide⟩ rfl hl.1 rfl (Nat.le_of_ble_eq_true rfl) dX5_rent_76 ⟨Nat.zero_le _, Nat.zero_le _⟩ (fun H locs hG => ?_)
                refine W.eq (g2 := F0 zm 79 ls [.int (zI (lenY (τ 6 c 0) (τ 6 c 1) ((dtD (τ 6 c 0) (τ 6 c 1) (τ 6 c 2) (τ 6 c 3) x) / 1000))), .long (zL 494900), .long (zL v), .long (zL u)]) rfl ?_
                have b76_0 := lenY_r (τ 6 c 0) (τ 6 c 1) ((dtD (τ 6 c 0) (τ 6 c 1) (τ 6 c 2) (τ 6 c 3) x) / 1000)
                refine zr_i2l zC dX5_rent_79 (by omega) ?_
                refine zr_ldiv zC dX5_rent_80 (by omega) ?_
                refine zr_topl (y := rtQ (lenY (τ 6 c 0) (τ 6 c 1) ((dtD (τ 6 c 0) (τ 6 c 1) (τ 6 c 2) (τ 6 c 3) x) / 1000))) (rt_d _ _ _) ?_
                refine zr_lmul zC dX5_rent_81 ?_
                refine zr_ladd zC dX5_rent_82 ?_
                refine lv_lstore (lv' := [(7, .long (zL (u + (v * (rtQ (lenY (τ 6 c 0) (τ 6 c 1) ((dtD (τ 6 c 0) (τ 6 c 1) (τ 6 c 2) (τ 6 c 3) x) / 1000))))))), (0, .ref (aM Γ)), (1, .int (zI c)), (2, .int (zI v)), (3, .int (zI a)), (4, .int (zI b)), (5, .long (zL 494900)), (9, .int (zI x))]) zC.1 zC.2.1 dX5_rent_83 hl (by decide) rfl (fun ls hl => ?_)
                refine zr_iinc (lv' := [(9, .int (zI (x + 1))), (7, .long (zL (u + (v * (rtQ (lenY (τ 6 c 0) (τ 6 c 1) ((dtD (τ 6 c 0) (τ 6 c 1) (τ 6 c 2) (τ 6 c 3) x) / 1000))))))), (0, .ref (aM Γ)), (1, .int (zI c)), (2, .int (zI v)), (3, .int (zI a)), (4, .int (zI b)), (5, .long (zL 494900))]) zC dX5_rent_85 hl (k := 7) rfl (by decide) rfl (fun ls hl => ?_)
                refine lv_goto (tgt := 51) zC.1 zC.2.1 dX5_rent_88 (by decide) ?_
                exact ih51 (u + (v * (rtQ (lenY (τ 6 c 0) (τ 6 c 1) ((dtD (τ 6 c 0) (τ 6 c 1) (τ 6 c 2) (τ 6 c 3) x) / 1000))))) (x + 1) (up (up (up (up σ51q 20 0 19 (τ 6 c 0)) 20 0 20 (τ 6 c 1)) 20 0 21 (τ 6 c 2)) 20 0 22 (τ 6 c 3)) H locs ls (by first | assumption | omega) (by rw [show x + 1 - a = x - a + 1 by omega, smI_s (by omega), Int.mul_add, ← hu, show a + (x - a) = x by omega]) hR51q (sC_up (sC_up (sC_up (sC_up hC51q (by decide)) (by decide)) (by decide)) (by decide)) (by omega) hG (lv_sub hl [2, 3, 4, 5, 6, 7, 1, 0] rfl)
          exact loop51 ((b - a : Int).toNat + 1) 0 a σ H locs ls (by first | assumption | omega) (by rw [show (a - a).toNat = 0 by omega]; show 0 = v * 0; omega) hR (sC_r _) (by omega) hG (lv_sub hl [3, 4, 5, 6, 7, 2, 1, 0] rfl)
        · refine zr_iconst zC dX5_rent_38 ?_
          exact zm_iret zC zK hG dX5_rent_39 (by unfold rC_rent; (repeat' split) <;> first | rfl | omega) (by unfold mC_rent; (repeat' split) <;> first | exact hR | (exfalso; omega)) (sC_r _)

set_option maxHeartbeats 4000000 in
set_option maxRecDepth 100000 in
theorem c_X5_kinds {Γ : Gm} {zl : Launch} {A : Nat → Prop} {τ σ : Mm} {c r : Int} (hR : Rel2 τ σ) (hI : IC τ) (hc : -2147483648 ≤ c ∧ c < 2147483648) (hr : -2147483648 ≤ r ∧ r < 2147483648) : Fr Γ zl A yX5_kinds cX5_kinds 8 (some .int) 4 84 [.ref (aM Γ), .int (zI c), .int (zI r)] σ (some (.int (zI (rC_kinds τ c r)))) (mC_kinds τ c r) := by
  refine Fr_of (by decide) (Nat.le_of_ble_eq_true rfl) ?_
  intro zp ze zs zm args below meth zc zQ H locs ls zC zK hG hl
  have hl : lv_has ls 8 [(0, .ref (aM Γ)), (1, .int (zI c)), (2, .int (zI r))] := hl
  obtain ⟨hmany, htoday, -⟩ := id hI
  refine lv_aload_n zC.1 zC.2.1 dX5_kinds_0 rfl (lv_at hl 0 rfl) ?_
  refine lv_iload_n zC.1 zC.2.1 dX5_kinds_1 rfl (lv_at hl 1 rfl) ?_
  refine zr_callV zC hG (c_X5_isTown (τ := τ) (σ := σ) (c := c) hR hI (by first | assumption | omega)) mt_X5_isTown wl_X5_169 pM rfl rfl ⟨by decide, by decide⟩ rfl hl.1 rfl (Nat.le_of_ble_eq_true rfl) dX5_kinds_2 ⟨Nat.zero_le _, Nat.zero_le _⟩ (fun H locs hG => ?_)
  refine W.eq (g2 := F0 zm 5 ls [.int (zI (zB (isT τ c)))]) rfl ?_
  refine zr_ifneB (tgt := 10) zC dX5_kinds_5 (by decide) (fun c5 => ?_) (fun c5 => ?_)
  · refine lv_aload_n zC.1 zC.2.1 dX5_kinds_10 rfl (lv_at hl 0 rfl) ?_
    refine lv_iload_n zC.1 zC.2.1 dX5_kinds_11 rfl (lv_at hl 2 rfl) ?_
    refine zm_callV zC hG (c_X5_askedRow (τ := τ) (σ := σ) (r := r) hR hI (by first | assumption | omega)) mt_X5_askedRow wl_X5_79 pM rfl rfl ⟨by decide, by decide⟩ rfl hl.1 rfl (Nat.le_of_ble_eq_true rfl) dX5_kinds_12 ⟨Nat.zero_le _, Nat.zero_le _⟩ (fun σ12 H locs hR12 hC12 hG => ?_)
    refine W.eq (g2 := F0 zm 15 ls [.int (zI (rfR τ r))]) rfl ?_
    have b12_0 := rfR_r τ r
    refine lv_istore_n (lv' := [(3, .int (zI (rfR τ r))), (0, .ref (aM Γ)), (1, .int (zI c)), (2, .int (zI r))]) zC.1 zC.2.1 dX5_kinds_15 rfl hl (by decide) rfl (fun ls hl => ?_)
    refine lv_iload_n zC.1 zC.2.1 dX5_kinds_16 rfl (lv_at hl 0 rfl) ?_
    refine zr_if_ge (tgt := 22) zC dX5_kinds_17 (by decide) (by omega) (fun c17 => ?_) (fun c17 => ?_)
    · obtain ⟨h1, h2, h3⟩ := rfR_0 (show rfR τ r = 0 by omega)
      rw [h3] at hR12
      have h6 := hI.2.2.1 r (by omega) (by omega)
      refine lv_aload_n zC.1 zC.2.1 dX5_kinds_22 rfl (lv_at hl 1 rfl) ?_
      refine gf_M_sizes zC hG wl_X5_17 dX5_kinds_23 ?_
      refine lv_iload_n zC.1 zC.2.1 dX5_kinds_26 rfl (lv_at hl 3 rfl) ?_
      refine gi_m_sizes (v := szM (τ 2 r 1)) zC hG (by omega) (hR12.2.2.1 r (by omega) (by omega)) dX5_kinds_27 ?_
      have f27 := hI.2.2.1 r (by omega) (by omega)
      have f27s := szM_s (τ 2 r 1)
      refine zr_iconst zC dX5_kinds_28 ?_
      refine zr_irem zC dX5_kinds_29 (by omega) ?_
      refine zr_if_eq (tgt := 39) zC dX5_kinds_30 (by decide) (by omega) (fun c30 => ?_) (fun c30 => ?_)
      · refine zr_iconst zC dX5_kinds_39 ?_
        refine lv_istore (lv' := [(4, .int (zI 0)), (3, .int (zI (rfR τ r))), (0, .ref (aM Γ)), (1, .int (zI c)), (2, .int (zI r))]) zC.1 zC.2.1 dX5_kinds_40 hl (by decide) rfl (fun ls hl => ?_)
        have loop42 : ∀ (nf : Nat) (p : Int) (H : Heap) (locs : List Loc) (ls : Array Slot), (0 ≤ p ∧ p ≤ τ 2 r 1 ∧ p % 2 = 0) → (∀ q, 0 ≤ q → 2 * q < p → lOK τ r q) → (τ 2 r 1 - p < (nf : Int)) → GM Γ A σ12 zs H locs → lv_has ls 8 [(0, .ref (aM Γ)), (1, .int (zI c)), (2, .int (zI r)), (4, .int (zI p))] → W zp zl ze { frames := 4, cells := 0, slots := 0, locals := 84 } zs zm args below meth zc H locs 0 0 zQ (F0 zm 42 ls []) := by
          intro nf
          induction nf with
          | zero =>
            intro p H locs ls hp hv hm42 _ _
            exact absurd hm42 (by omega)
          | succ nf ih42 =>
            intro p H locs ls hp hv hm42 hG hl
            refine lv_iload zC.1 zC.2.1 dX5_kinds_42 (lv_at hl 3 rfl) ?_
            refine lv_aload_n zC.1 zC.2.1 dX5_kinds_44 rfl (lv_at hl 0 rfl) ?_
            refine gf_M_sizes zC hG wl_X5_17 dX5_kinds_45 ?_
            refine lv_iload_n zC.1 zC.2.1 dX5_kinds_48 rfl (lv_at hl 2 rfl) ?_
            refine gi_m_sizes (v := szM (τ 2 r 1)) zC hG (by omega) (hR12.2.2.1 r (by omega) (by omega)) dX5_kinds_49 ?_
            have f49 := hI.2.2.1 r (by omega) (by omega)
            have f49s := szM_s (τ 2 r 1)
            refine zr_icmp_ge (tgt := 90) zC dX5_kinds_50 (by decide) (by omega) (fun c50 => ?_) (fun c50 => ?_)
            · have al : ctI (fun q => ¬ lOK τ r q) 0 (τ 2 r 1 / 2).toNat = 0 := ctI_z (P := (fun q => ¬ lOK τ r q)) (fun q h1 h2 z => z (hv q h1 (by omega)))
              have av : ∀ q, 0 ≤ q → q < τ 2 r 1 / 2 → lOK τ r q := fun q h1 h2 => hv q h1 (by omega)
              obtain ⟨kca, kcb, kcc, kcd⟩ := hI.2.2.2.2.2.2.1 c (by omega) (by omega)
              refine lv_aload_n zC.1 zC.2.1 dX5_kinds_90 rfl (lv_at hl 0 rfl) ?_
              refine lv_iload_n zC.1 zC.2.1 dX5_kinds_91 rfl (lv_at hl 1 rfl) ?_
              refine zr_callV zC hG (c_X5_take (τ := τ) (σ := σ12) (c := c) hR12 hI (by first | assumption | omega)) mt_X5_take wl_X5_141 pM rfl rfl ⟨by decide, by decide⟩ rfl hl.1 rfl (Nat.le_of_ble_eq_true rfl) dX5_kinds_92 ⟨Nat.zero_le _, Nat.zero_le _⟩ (fun H locs hG => ?_)
              refine W.eq (g2 := F0 zm 95 ls []) rfl ?_
              refine zr_iconst zC dX5_kinds_95 ?_
              refine lv_istore (lv' := [(4, .int (zI 0)), (0, .ref (aM Γ)), (1, .int (zI c)), (2, .int (zI r))]) zC.1 zC.2.1 dX5_kinds_96 hl (by decide) rfl (fun ls hl => ?_)
              refine zr_iconst zC dX5_kinds_98 ?_
              refine lv_istore (lv' := [(5, .int (zI 0)), (4, .int (zI 0)), (0, .ref (aM Γ)), (1, .int (zI c)), (2, .int (zI r))]) zC.1 zC.2.1 dX5_kinds_99 hl (by decide) rfl (fun ls hl => ?_)
              have loop101 : ∀ (nf : Nat) (u x : Int) (σ101q : Mm) (H : Heap) (locs : List Loc) (ls : Array Slot), (0 ≤ x ∧ x ≤ 6) → (u = bts (fun z => kdP τ c r z) x.toNat) → (σ101q 20 0 20 = τ 6 c 1 ∧ σ101q 20 0 21 = τ 6 c 2 ∧ σ101q 20 0 22 = τ 6 c 3) → (Rel2 τ σ101q) → (sC σ σ101q) → (6 - x < (nf : Int)) → GM Γ A σ101q zs H locs → lv_has ls 8 [(0, .ref (aM Γ)), (1, .int (zI c)), (2, .int (zI r)), (4, .int (zI u)), (5, .int (zI x))] → W zp zl ze { frames := 4, cells := 0, slots := 0, locals := 84 } zs zm args below meth zc H locs 0 0 zQ (F0 zm 101 ls []) := by
                intro nf
                induction nf with
                | zero =>
                  intro u x σ101q H locs ls hx hu hS hR101q hC101q hm101 _ _
                  exact absurd hm101 (by omega)
                | succ nf ih101 =>
                  intro u x σ101q H locs ls hx hu hS hR101q hC101q hm101 hG hl
                  have b101 := bts_r (fun z => kdP τ c r z) x.toNat
                  rw [← hu] at b101
                  refine lv_iload zC.1 zC.2.1 dX5_kinds_101 (lv_at hl 4 rfl) ?_
                  refine zr_iconst zC dX5_kinds_103 ?_
                  refine zr_icmp_gt (tgt := 195) zC dX5_kinds_104 (by decide) (by omega) (fun c104 => ?_) (fun c104 => ?_)
                  · refine lv_iload zC.1 zC.2.1 dX5_kinds_195 (lv_at hl 3 rfl) ?_
                    exact zm_iret zC zK hG dX5_kinds_197 (by unfold rC_kinds; rw [if_neg (by omega), if_neg (by omega), if_neg (by omega), if_pos al, hu, show x = 6 by omega]; rfl) (by unfold mC_kinds; rw [if_neg (by omega), if_neg (by omega), if_neg (by omega), if_pos al]; exact rl_tr hR101q hI) hC101q
                  · refine lv_aload_n zC.1 zC.2.1 dX5_kinds_107 rfl (lv_at hl 0 rfl) ?_
                    refine lv_iload zC.1 zC.2.1 dX5_kinds_108 (lv_at hl 4 rfl) ?_
                    refine pf_M_kind zC hG wl_X5_125 dX5_kinds_110 (fun H locs hG => ?_)
                    refine zr_iconst zC dX5_kinds_113 ?_
                    refine lv_istore (lv' := [(6, .int (zI 1)), (0, .ref (aM Γ)), (1, .int (zI c)), (2, .int (zI r)), (4, .int (zI u)), (5, .int (zI x))]) zC.1 zC.2.1 dX5_kinds_114 hl (by decide) rfl (fun ls hl => ?_)
                    refine zr_iconst zC dX5_kinds_116 ?_
                    refine lv_istore (lv' := [(7, .int (zI 0)), (6, .int (zI 1)), (0, .ref (aM Γ)), (1, .int (zI c)), (2, .int (zI r)), (4, .int (zI u)), (5, .int (zI x))]) zC.1 zC.2.1 dX5_kinds_117 hl (by decide) rfl (fun ls hl => ?_)
                    have loop119 : ∀ (nf : Nat) (f q : Int) (H : Heap) (locs : List Loc) (ls : Array Slot), (0 ≤ q ∧ q ≤ τ 2 r 1 ∧ q % 2 = 0) → ((f = 1 ∧ ctI (wrP τ r x (τ 6 c 1) (τ 6 c 2) (τ 6 c 3)) 0 (q / 2 - 0).toNat = 0) ∨ (f = 0 ∧ ctI (wrP τ r x (τ 6 c 1) (τ 6 c 2) (τ 6 c 3)) 0 (q / 2 - 0).toNat ≠ 0)) → (τ 2 r 1 - q < (nf : Int)) → GM Γ A (up σ101q 20 0 19 x) zs H locs → lv_has ls 8 [(0, .ref (aM Γ)), (1, .int (zI c)), (2, .int (zI r)), (4, .int (zI u)), (5, .int (zI x)), (6, .int (zI f)), (7, .int (zI q))] → W zp zl ze { frames := 4, cells := 0, slots := 0, locals := 84 } zs zm args below meth zc H locs 0 0 zQ (F0 zm 119 ls []) := by
                      intro nf
                      induction nf with
                      | zero =>
                        intro f q H locs ls hq hf hm119 _ _
                        exact absurd hm119 (by omega)
                      | succ nf ih119 =>
                        intro f q H locs ls hq hf hm119 hG hl
                        refine lv_iload zC.1 zC.2.1 dX5_kinds_119 (lv_at hl 6 rfl) ?_
                        refine lv_aload_n zC.1 zC.2.1 dX5_kinds_121 rfl (lv_at hl 0 rfl) ?_
                        refine gf_M_sizes zC hG wl_X5_17 dX5_kinds_122 ?_
                        refine lv_iload_n zC.1 zC.2.1 dX5_kinds_125 rfl (lv_at hl 2 rfl) ?_
                        refine gi_m_sizes (v := szM (τ 2 r 1)) zC hG (by omega) (hR101q.2.2.1 r (by omega) (by omega)) dX5_kinds_126 ?_
                        have f126 := hI.2.2.1 r (by omega) (by omega)
                        have f126s := szM_s (τ 2 r 1)
                        refine zr_icmp_ge (tgt := 171) zC dX5_kinds_127 (by decide) (by omega) (fun c127 => ?_) (fun c127 => ?_)
                        · refine lv_iload zC.1 zC.2.1 dX5_kinds_171 (lv_at hl 3 rfl) ?_
                          refine lv_iload zC.1 zC.2.1 dX5_kinds_173 (lv_at hl 5 rfl) ?_
                          refine zr_if_eq (tgt := 185) zC dX5_kinds_175 (by decide) (by omega) (fun c175 => ?_) (fun c175 => ?_)
                          · have w175 : ¬ kdP τ c r x := by show ¬ ctI (wrP τ r x (τ 6 c 1) (τ 6 c 2) (τ 6 c 3)) 0 (τ 2 r 1 / 2).toNat = 0; rw [show τ 2 r 1 / 2 = q / 2 - 0 by omega]; omega
                            refine zr_iconst zC dX5_kinds_185 ?_
                            refine zr_ior0 zC dX5_kinds_186 ?_
                            refine lv_istore (lv' := [(4, .int (zI u)), (0, .ref (aM Γ)), (1, .int (zI c)), (2, .int (zI r)), (5, .int (zI x)), (6, .int (zI f)), (7, .int (zI q))]) zC.1 zC.2.1 dX5_kinds_187 hl (by decide) rfl (fun ls hl => ?_)
                            refine zr_iinc (lv' := [(5, .int (zI (x + 1))), (4, .int (zI u)), (0, .ref (aM Γ)), (1, .int (zI c)), (2, .int (zI r)), (6, .int (zI f)), (7, .int (zI q))]) zC dX5_kinds_189 hl (k := 4) rfl (by decide) rfl (fun ls hl => ?_)
                            refine lv_goto (tgt := 101) zC.1 zC.2.1 dX5_kinds_192 (by decide) ?_
                            exact ih101 u (x + 1) (up σ101q 20 0 19 x) H locs ls (by first | assumption | omega) (by rw [bts_s hx.1, ← hu]; first | rw [if_pos w175] | (rw [if_neg w175]; omega)) hS hR101q (sC_up hC101q (by decide)) (by omega) hG (lv_sub hl [2, 3, 4, 1, 0] rfl)
                          · have w175 : kdP τ c r x := by show ctI (wrP τ r x (τ 6 c 1) (τ 6 c 2) (τ 6 c 3)) 0 (τ 2 r 1 / 2).toNat = 0; rw [show τ 2 r 1 / 2 = q / 2 - 0 by omega]; omega
                            refine zr_iconst zC dX5_kinds_178 ?_
                            refine lv_iload zC.1 zC.2.1 dX5_kinds_179 (lv_at hl 4 rfl) ?_
                            refine zr_shl1 zC dX5_kinds_181 (by omega) ?_
                            refine lv_goto (tgt := 186) zC.1 zC.2.1 dX5_kinds_182 (by decide) ?_
                            refine zr_ior zC dX5_kinds_186 b101 (by omega) ?_
                            refine lv_istore (lv' := [(4, .int (zI (u + 2 ^ x.toNat))), (0, .ref (aM Γ)), (1, .int (zI c)), (2, .int (zI r)), (5, .int (zI x)), (6, .int (zI f)), (7, .int (zI q))]) zC.1 zC.2.1 dX5_kinds_187 hl (by decide) rfl (fun ls hl => ?_)
                            refine zr_iinc (lv' := [(5, .int (zI (x + 1))), (4, .int (zI (u + 2 ^ x.toNat))), (0, .ref (aM Γ)), (1, .int (zI c)), (2, .int (zI r)), (6, .int (zI f)), (7, .int (zI q))]) zC dX5_kinds_189 hl (k := 4) rfl (by decide) rfl (fun ls hl => ?_)
                            refine lv_goto (tgt := 101) zC.1 zC.2.1 dX5_kinds_192 (by decide) ?_
                            exact ih101 (u + 2 ^ x.toNat) (x + 1) (up σ101q 20 0 19 x) H locs ls (by first | assumption | omega) (by rw [bts_s hx.1, ← hu]; first | rw [if_pos w175] | (rw [if_neg w175]; omega)) hS hR101q (sC_up hC101q (by decide)) (by omega) hG (lv_sub hl [2, 3, 4, 1, 0] rfl)
                        · obtain ⟨g1, g2, g3⟩ := av (q / 2) (by omega) (by omega)
                          rw [show 2 * (q / 2) = q by omega] at g1 g2 g3
                          refine lv_iload zC.1 zC.2.1 dX5_kinds_130 (lv_at hl 5 rfl) ?_
                          refine zr_if_eq (tgt := 162) zC dX5_kinds_132 (by decide) (by omega) (fun c132 => ?_) (fun c132 => ?_)
                          · refine zr_iconst zC dX5_kinds_162 ?_
                            refine lv_istore (lv' := [(6, .int (zI 0)), (0, .ref (aM Γ)), (1, .int (zI c)), (2, .int (zI r)), (4, .int (zI u)), (5, .int (zI x)), (7, .int (zI q))]) zC.1 zC.2.1 dX5_kinds_163 hl (by decide) rfl (fun ls hl => ?_)
                            refine zr_iinc (lv' := [(7, .int (zI (q + 2))), (6, .int (zI 0)), (0, .ref (aM Γ)), (1, .int (zI c)), (2, .int (zI r)), (4, .int (zI u)), (5, .int (zI x))]) zC dX5_kinds_165 hl (k := 6) rfl (by decide) rfl (fun ls hl => ?_)
                            refine lv_goto (tgt := 119) zC.1 zC.2.1 dX5_kinds_168 (by decide) ?_
                            exact ih119 0 (q + 2) H locs ls (by first | assumption | omega) (by have h8 := ctI_r (wrP τ r x (τ 6 c 1) (τ 6 c 2) (τ 6 c 3)) 0 (q / 2 - 0).toNat; have h9 := zB_rng (wrP τ r x (τ 6 c 1) (τ 6 c 2) (τ 6 c 3) (q / 2)); rw [show (q + 2) / 2 = q / 2 + 1 by omega, ctI_s (by omega)]; (try rw [zB_t w155]); (try rw [zB_f w155]); omega) (by omega) hG (lv_sub hl [2, 3, 4, 5, 6, 1, 0] rfl)
                          · refine lv_aload_n zC.1 zC.2.1 dX5_kinds_135 rfl (lv_at hl 0 rfl) ?_
                            refine lv_aload_n zC.1 zC.2.1 dX5_kinds_136 rfl (lv_at hl 0 rfl) ?_
                            refine lv_iload_n zC.1 zC.2.1 dX5_kinds_137 rfl (lv_at hl 2 rfl) ?_
                            refine lv_iload zC.1 zC.2.1 dX5_kinds_138 (lv_at hl 6 rfl) ?_
                            refine zr_callV zC hG (c_X5_rowAt (τ := τ) (σ := up σ101q 20 0 19 x) (r := r) (x := q) hR101q hI (by first | assumption | omega) (by first | assumption | omega)) mt_X5_rowAt wl_X5_82 pM rfl rfl ⟨by decide, by decide⟩ rfl hl.1 rfl (Nat.le_of_ble_eq_true rfl) dX5_kinds_140 ⟨Nat.zero_le _, Nat.zero_le _⟩ (fun H locs hG => ?_)
                            refine W.eq (g2 := F0 zm 143 ls [.int (zI (τ 3 r q)), .ref (aM Γ)]) rfl ?_
                            have b140_0 := hI.2.2.2.1 r q (by omega) (by omega) (by omega) (by omega)
                            refine zr_callV zC hG (c_X5_dateOfDay (σ := up σ101q 20 0 19 x) (d := τ 3 r q) (CalM_k hS ⟨kca, kcb, kcc, kcd⟩ (by omega)) (by first | assumption | omega)) mt_X5_dateOfDay wl_X5_157 pM rfl rfl ⟨by decide, by decide⟩ rfl hl.1 rfl (Nat.le_of_ble_eq_true rfl) dX5_kinds_143 ⟨Nat.zero_le _, Nat.zero_le _⟩ (fun H locs hG => ?_)
                            refine W.eq (g2 := F0 zm 146 ls [.int (zI (dtD x (σ101q 20 0 20) (σ101q 20 0 21) (σ101q 20 0 22) (τ 3 r q)))]) rfl ?_
                            have b143_0 := dtD_r (k := x) (lp := (σ101q 20 0 20)) (o := (σ101q 20 0 21)) (g := (σ101q 20 0 22)) (d := (τ 3 r q)) (by omega) (by omega) (by omega)
                            have b146 := dtD_r (k := x) (lp := τ 6 c 1) (o := τ 6 c 2) (g := τ 6 c 3) (d := τ 3 r q) (by omega) kcb kcd
                            refine zr_topi (y := dtD x (τ 6 c 1) (τ 6 c 2) (τ 6 c 3) (τ 3 r q)) (by rw [hS.1, hS.2.1, hS.2.2]) ?_
                            refine lv_aload_n zC.1 zC.2.1 dX5_kinds_146 rfl (lv_at hl 0 rfl) ?_
                            refine lv_iload_n zC.1 zC.2.1 dX5_kinds_147 rfl (lv_at hl 2 rfl) ?_
                            refine lv_iload zC.1 zC.2.1 dX5_kinds_148 (lv_at hl 6 rfl) ?_
                            refine zr_iconst zC dX5_kinds_150 ?_
                            refine zr_iadd zC dX5_kinds_151 ?_
                            refine zr_callV zC hG (c_X5_rowAt (τ := τ) (σ := up σ101q 20 0 19 x) (r := r) (x := q + 1) hR101q hI (by first | assumption | omega) (by first | assumption | omega)) mt_X5_rowAt wl_X5_82 pM rfl rfl ⟨by decide, by decide⟩ rfl hl.1 rfl (Nat.le_of_ble_eq_true rfl) dX5_kinds_152 ⟨Nat.zero_le _, Nat.zero_le _⟩ (fun H locs hG => ?_)
                            refine W.eq (g2 := F0 zm 155 ls [.int (zI (τ 3 r (q + 1))), .int (zI (dtD x (τ 6 c 1) (τ 6 c 2) (τ 6 c 3) (τ 3 r q)))]) rfl ?_
                            have b152_0 := hI.2.2.2.1 r (q + 1) (by omega) (by omega) (by omega) (by omega)
                            refine zr_icmp_ne (tgt := 162) zC dX5_kinds_155 (by decide) (by omega) (fun c155 => ?_) (fun c155 => ?_)
                            · have w155 : wrP τ r x (τ 6 c 1) (τ 6 c 2) (τ 6 c 3) (q / 2) := by show ¬ dtD x (τ 6 c 1) (τ 6 c 2) (τ 6 c 3) (τ 3 r (2 * (q / 2))) = τ 3 r (2 * (q / 2) + 1); rw [show 2 * (q / 2) = q by omega]; omega
                              refine zr_iconst zC dX5_kinds_162 ?_
                              refine lv_istore (lv' := [(6, .int (zI 0)), (0, .ref (aM Γ)), (1, .int (zI c)), (2, .int (zI r)), (4, .int (zI u)), (5, .int (zI x)), (7, .int (zI q))]) zC.1 zC.2.1 dX5_kinds_163 hl (by decide) rfl (fun ls hl => ?_)
                              refine zr_iinc (lv' := [(7, .int (zI (q + 2))), (6, .int (zI 0)), (0, .ref (aM Γ)), (1, .int (zI c)), (2, .int (zI r)), (4, .int (zI u)), (5, .int (zI x))]) zC dX5_kinds_165 hl (k := 6) rfl (by decide) rfl (fun ls hl => ?_)
                              refine lv_goto (tgt := 119) zC.1 zC.2.1 dX5_kinds_168 (by decide) ?_
                              exact ih119 0 (q + 2) H locs ls (by first | assumption | omega) (by have h8 := ctI_r (wrP τ r x (τ 6 c 1) (τ 6 c 2) (τ 6 c 3)) 0 (q / 2 - 0).toNat; have h9 := zB_rng (wrP τ r x (τ 6 c 1) (τ 6 c 2) (τ 6 c 3) (q / 2)); rw [show (q + 2) / 2 = q / 2 + 1 by omega, ctI_s (by omega)]; (try rw [zB_t w155]); (try rw [zB_f w155]); omega) (by omega) hG (lv_sub hl [2, 3, 4, 5, 6, 1, 0] rfl)
                            · have w155 : ¬ wrP τ r x (τ 6 c 1) (τ 6 c 2) (τ 6 c 3) (q / 2) := by show ¬ ¬ dtD x (τ 6 c 1) (τ 6 c 2) (τ 6 c 3) (τ 3 r (2 * (q / 2))) = τ 3 r (2 * (q / 2) + 1); rw [show 2 * (q / 2) = q by omega]; omega
                              refine zr_iconst zC dX5_kinds_158 ?_
                              refine lv_goto (tgt := 163) zC.1 zC.2.1 dX5_kinds_159 (by decide) ?_
                              refine lv_istore (lv' := [(6, .int (zI 1)), (0, .ref (aM Γ)), (1, .int (zI c)), (2, .int (zI r)), (4, .int (zI u)), (5, .int (zI x)), (7, .int (zI q))]) zC.1 zC.2.1 dX5_kinds_163 hl (by decide) rfl (fun ls hl => ?_)
                              refine zr_iinc (lv' := [(7, .int (zI (q + 2))), (6, .int (zI 1)), (0, .ref (aM Γ)), (1, .int (zI c)), (2, .int (zI r)), (4, .int (zI u)), (5, .int (zI x))]) zC dX5_kinds_165 hl (k := 6) rfl (by decide) rfl (fun ls hl => ?_)
                              refine lv_goto (tgt := 119) zC.1 zC.2.1 dX5_kinds_168 (by decide) ?_
                              exact ih119 1 (q + 2) H locs ls (by first | assumption | omega) (by have h8 := ctI_r (wrP τ r x (τ 6 c 1) (τ 6 c 2) (τ 6 c 3)) 0 (q / 2 - 0).toNat; have h9 := zB_rng (wrP τ r x (τ 6 c 1) (τ 6 c 2) (τ 6 c 3) (q / 2)); rw [show (q + 2) / 2 = q / 2 + 1 by omega, ctI_s (by omega)]; (try rw [zB_t w155]); (try rw [zB_f w155]); omega) (by omega) hG (lv_sub hl [2, 3, 4, 5, 6, 1, 0] rfl)
                    exact loop119 ((τ 2 r 1 - 0 : Int).toNat + 1) 1 0 H locs ls (by first | assumption | omega) (Or.inl ⟨rfl, rfl⟩) (by omega) hG (lv_sub hl [2, 3, 4, 5, 6, 1, 0] rfl)
              exact loop101 ((6 - 0 : Int).toNat + 1) 0 0 (up (up (up (up σ12 20 0 19 (τ 6 c 0)) 20 0 20 (τ 6 c 1)) 20 0 21 (τ 6 c 2)) 20 0 22 (τ 6 c 3)) H locs ls (by first | assumption | omega) rfl ⟨rfl, rfl, rfl⟩ hR12 (sC_up (sC_up (sC_up (sC_up (sC_t (sC_r _) hC12) (by decide)) (by decide)) (by decide)) (by decide)) (by omega) hG (lv_sub hl [2, 3, 4, 1, 0] rfl)
            · refine lv_aload_n zC.1 zC.2.1 dX5_kinds_53 rfl (lv_at hl 0 rfl) ?_
              refine lv_iload_n zC.1 zC.2.1 dX5_kinds_54 rfl (lv_at hl 2 rfl) ?_
              refine lv_iload zC.1 zC.2.1 dX5_kinds_55 (lv_at hl 3 rfl) ?_
              refine zr_callV zC hG (c_X5_rowAt (τ := τ) (σ := σ12) (r := r) (x := p) hR12 hI (by first | assumption | omega) (by first | assumption | omega)) mt_X5_rowAt wl_X5_82 pM rfl rfl ⟨by decide, by decide⟩ rfl hl.1 rfl (Nat.le_of_ble_eq_true rfl) dX5_kinds_57 ⟨Nat.zero_le _, Nat.zero_le _⟩ (fun H locs hG => ?_)
              refine W.eq (g2 := F0 zm 60 ls [.int (zI (τ 3 r p))]) rfl ?_
              have b57_0 := hI.2.2.2.1 r p (by omega) (by omega) (by omega) (by omega)
              refine zr_callS zC hG (c_X5_isDay (σ := σ12) (v := τ 3 r p) (by first | assumption | omega)) mt_X5_isDay wl_X5_122 ⟨by decide, by decide⟩ rfl hl.1 rfl (Nat.le_of_ble_eq_true rfl) dX5_kinds_60 ⟨Nat.zero_le _, Nat.zero_le _⟩ (fun H locs hG => ?_)
              refine W.eq (g2 := F0 zm 63 ls [.int (zI (zB (0 ≤ (τ 3 r p) ∧ (τ 3 r p) ≤ 19999)))]) rfl ?_
              refine zr_ifeqB (tgt := 78) zC dX5_kinds_63 (by decide) (fun c63 => ?_) (fun c63 => ?_)
              · have nl : ¬ ctI (fun q => ¬ lOK τ r q) 0 (τ 2 r 1 / 2).toNat = 0 := ctI_nz (P := (fun q => ¬ lOK τ r q)) (y := p / 2) (by omega) (by show ¬ (0 ≤ τ 3 r (2 * (p / 2)) ∧ τ 3 r (2 * (p / 2)) ≤ 19999 ∧ 0 ≤ τ 3 r (2 * (p / 2) + 1)); rw [show 2 * (p / 2) = p by omega]; omega) (by omega)
                refine lv_aload_n zC.1 zC.2.1 dX5_kinds_78 rfl (lv_at hl 0 rfl) ?_
                refine zr_iconst zC dX5_kinds_79 ?_
                refine zr_callV zC hG (c_X5_meet (σ := σ12) (f := 3) (by first | assumption | omega)) mt_X5_meet wl_X5_68 pM rfl rfl ⟨by decide, by decide⟩ rfl hl.1 rfl (Nat.le_of_ble_eq_true rfl) dX5_kinds_80 ⟨Nat.zero_le _, Nat.zero_le _⟩ (fun H locs hG => ?_)
                refine W.eq (g2 := F0 zm 83 ls [.int (zI (-3))]) rfl ?_
                exact zm_iret zC zK hG dX5_kinds_83 (by unfold rC_kinds; rw [if_neg (by omega), if_neg (by omega), if_neg (by omega), if_neg nl]) (by unfold mC_kinds; rw [if_neg (by omega), if_neg (by omega), if_neg (by omega), if_neg nl]; exact (rl_fd hR12 (by omega))) (sC_up (sC_up (sC_t (sC_r _) hC12) (by decide)) (by decide))
              · refine lv_aload_n zC.1 zC.2.1 dX5_kinds_66 rfl (lv_at hl 0 rfl) ?_
                refine lv_iload_n zC.1 zC.2.1 dX5_kinds_67 rfl (lv_at hl 2 rfl) ?_
                refine lv_iload zC.1 zC.2.1 dX5_kinds_68 (lv_at hl 3 rfl) ?_
                refine zr_iconst zC dX5_kinds_70 ?_
                refine zr_iadd zC dX5_kinds_71 ?_
                refine zr_callV zC hG (c_X5_rowAt (τ := τ) (σ := σ12) (r := r) (x := p + 1) hR12 hI (by first | assumption | omega) (by first | assumption | omega)) mt_X5_rowAt wl_X5_82 pM rfl rfl ⟨by decide, by decide⟩ rfl hl.1 rfl (Nat.le_of_ble_eq_true rfl) dX5_kinds_72 ⟨Nat.zero_le _, Nat.zero_le _⟩ (fun H locs hG => ?_)
                refine W.eq (g2 := F0 zm 75 ls [.int (zI (τ 3 r (p + 1)))]) rfl ?_
                have b72_0 := hI.2.2.2.1 r (p + 1) (by omega) (by omega) (by omega) (by omega)
                refine zr_if_ge (tgt := 84) zC dX5_kinds_75 (by decide) (by omega) (fun c75 => ?_) (fun c75 => ?_)
                · refine zr_iinc (lv' := [(4, .int (zI (p + 2))), (0, .ref (aM Γ)), (1, .int (zI c)), (2, .int (zI r))]) zC dX5_kinds_84 hl (k := 3) rfl (by decide) rfl (fun ls hl => ?_)
                  refine lv_goto (tgt := 42) zC.1 zC.2.1 dX5_kinds_87 (by decide) ?_
                  exact ih42 (p + 2) H locs ls (by first | assumption | omega) (fun q h1 h2 => by by_cases z : 2 * q < p; exact hv q h1 z; have e : 2 * q = p := (by omega); show 0 ≤ τ 3 r (2 * q) ∧ τ 3 r (2 * q) ≤ 19999 ∧ 0 ≤ τ 3 r (2 * q + 1); rw [e]; omega) (by omega) hG (lv_sub hl [1, 2, 3, 0] rfl)
                · have nl : ¬ ctI (fun q => ¬ lOK τ r q) 0 (τ 2 r 1 / 2).toNat = 0 := ctI_nz (P := (fun q => ¬ lOK τ r q)) (y := p / 2) (by omega) (by show ¬ (0 ≤ τ 3 r (2 * (p / 2)) ∧ τ 3 r (2 * (p / 2)) ≤ 19999 ∧ 0 ≤ τ 3 r (2 * (p / 2) + 1)); rw [show 2 * (p / 2) = p by omega]; omega) (by omega)
                  refine lv_aload_n zC.1 zC.2.1 dX5_kinds_78 rfl (lv_at hl 0 rfl) ?_
                  refine zr_iconst zC dX5_kinds_79 ?_
                  refine zr_callV zC hG (c_X5_meet (σ := σ12) (f := 3) (by first | assumption | omega)) mt_X5_meet wl_X5_68 pM rfl rfl ⟨by decide, by decide⟩ rfl hl.1 rfl (Nat.le_of_ble_eq_true rfl) dX5_kinds_80 ⟨Nat.zero_le _, Nat.zero_le _⟩ (fun H locs hG => ?_)
                  refine W.eq (g2 := F0 zm 83 ls [.int (zI (-3))]) rfl ?_
                  exact zm_iret zC zK hG dX5_kinds_83 (by unfold rC_kinds; rw [if_neg (by omega), if_neg (by omega), if_neg (by omega), if_neg nl]) (by unfold mC_kinds; rw [if_neg (by omega), if_neg (by omega), if_neg (by omega), if_neg nl]; exact (rl_fd hR12 (by omega))) (sC_up (sC_up (sC_t (sC_r _) hC12) (by decide)) (by decide))
        exact loop42 ((τ 2 r 1 - 0 : Int).toNat + 1) 0 H locs ls (by first | assumption | omega) (fun q h1 h2 => by omega) (by omega) hG (lv_sub hl [2, 3, 4, 0] rfl)
      · refine lv_aload_n zC.1 zC.2.1 dX5_kinds_33 rfl (lv_at hl 1 rfl) ?_
        refine zr_iconst zC dX5_kinds_34 ?_
        refine zr_callV zC hG (c_X5_meet (σ := σ12) (f := 5) (by first | assumption | omega)) mt_X5_meet wl_X5_68 pM rfl rfl ⟨by decide, by decide⟩ rfl hl.1 rfl (Nat.le_of_ble_eq_true rfl) dX5_kinds_35 ⟨Nat.zero_le _, Nat.zero_le _⟩ (fun H locs hG => ?_)
        refine W.eq (g2 := F0 zm 38 ls [.int (zI (-3))]) rfl ?_
        exact zm_iret zC zK hG dX5_kinds_38 (by unfold rC_kinds; (repeat' split) <;> first | rfl | omega) (by unfold mC_kinds; (repeat' split) <;> first | exact (rl_fd hR12 (by omega)) | (exfalso; omega)) (sC_up (sC_up (sC_t (sC_r _) hC12) (by decide)) (by decide))
    · refine lv_iload_n zC.1 zC.2.1 dX5_kinds_20 rfl (lv_at hl 0 rfl) ?_
      exact zm_iret zC zK hG dX5_kinds_21 (by unfold rC_kinds; (repeat' split) <;> first | rfl | omega) (by unfold mC_kinds; (repeat' split) <;> first | exact hR12 | (exfalso; omega)) (sC_t (sC_r _) hC12)
  · refine zr_iconst zC dX5_kinds_8 ?_
    exact zm_iret zC zK hG dX5_kinds_9 (by unfold rC_kinds; (repeat' split) <;> first | rfl | omega) (by unfold mC_kinds; (repeat' split) <;> first | exact hR | (exfalso; omega)) (sC_r _)
