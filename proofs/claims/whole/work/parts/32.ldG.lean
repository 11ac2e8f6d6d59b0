set_option maxHeartbeats 4000000 in
set_option maxRecDepth 100000 in
theorem c_X3_kindOf {Γ : Gm} {zl : Launch} {A : Nat → Prop} {σ : Mm} {g : Int} (hg : -1000 ≤ g ∧ g ≤ 1000) : Fn Γ zl A yX3_kindOf cX3_kindOf 2 (some .int) 0 0 [.int (zI g)] σ (some (.int (zI (kdB g)))) σ := by
  refine Fn_of (by decide) (Nat.le_of_ble_eq_true rfl) ?_
  intro zp ze zs zm args below meth zc zQ H locs ls zC zK hG hl
  have hl : lv_has ls 2 [(0, .int (zI g))] := hl
  refine zr_iconst zC dX3_kindOf_0 ?_
  refine lv_istore_n (lv' := [(1, .int (zI 0)), (0, .int (zI g))]) zC.1 zC.2.1 dX3_kindOf_1 rfl hl (by decide) rfl (fun ls hl => ?_)
  refine lv_iload_n zC.1 zC.2.1 dX3_kindOf_2 rfl (lv_at hl 0 rfl) ?_
  refine zr_bipush zC dX3_kindOf_3 (by decide +kernel) ?_
  refine zr_icmp_ge (tgt := 25) zC dX3_kindOf_5 (by decide) (by omega) (fun c5 => ?_) (fun c5 => ?_)
  · exact absurd c5 (by omega)
  · refine zr_stLetters zC hG dX3_kindOf_8 ?_
    refine lv_iload_n zC.1 zC.2.1 dX3_kindOf_11 rfl (lv_at hl 0 rfl) ?_
    refine zr_tabC (f := tLet) zC hG hG.2.2.2.2.1.1.2 (by omega) dX3_kindOf_12 ?_
    refine zr_topi (y := 99) (by decide) ?_
    refine lv_iload_n zC.1 zC.2.1 dX3_kindOf_13 rfl (lv_at hl 1 rfl) ?_
    refine zr_icmp_ne (tgt := 19) zC dX3_kindOf_14 (by decide) (by omega) (fun c14 => ?_) (fun c14 => ?_)
    · refine zr_iinc (lv' := [(1, .int (zI 1)), (0, .int (zI g))]) zC dX3_kindOf_19 hl (k := 0) rfl (by decide) rfl (fun ls hl => ?_)
      refine lv_goto (tgt := 2) zC.1 zC.2.1 dX3_kindOf_22 (by decide) ?_
      refine lv_iload_n zC.1 zC.2.1 dX3_kindOf_2 rfl (lv_at hl 0 rfl) ?_
      refine zr_bipush zC dX3_kindOf_3 (by decide +kernel) ?_
      refine zr_icmp_ge (tgt := 25) zC dX3_kindOf_5 (by decide) (by omega) (fun c5 => ?_) (fun c5 => ?_)
      · exact absurd c5 (by omega)
      · refine zr_stLetters zC hG dX3_kindOf_8 ?_
        refine lv_iload_n zC.1 zC.2.1 dX3_kindOf_11 rfl (lv_at hl 0 rfl) ?_
        refine zr_tabC (f := tLet) zC hG hG.2.2.2.2.1.1.2 (by omega) dX3_kindOf_12 ?_
        refine zr_topi (y := 108) (by decide) ?_
        refine lv_iload_n zC.1 zC.2.1 dX3_kindOf_13 rfl (lv_at hl 1 rfl) ?_
        refine zr_icmp_ne (tgt := 19) zC dX3_kindOf_14 (by decide) (by omega) (fun c14 => ?_) (fun c14 => ?_)
        · refine zr_iinc (lv' := [(1, .int (zI 2)), (0, .int (zI g))]) zC dX3_kindOf_19 hl (k := 0) rfl (by decide) rfl (fun ls hl => ?_)
          refine lv_goto (tgt := 2) zC.1 zC.2.1 dX3_kindOf_22 (by decide) ?_
          refine lv_iload_n zC.1 zC.2.1 dX3_kindOf_2 rfl (lv_at hl 0 rfl) ?_
          refine zr_bipush zC dX3_kindOf_3 (by decide +kernel) ?_
          refine zr_icmp_ge (tgt := 25) zC dX3_kindOf_5 (by decide) (by omega) (fun c5 => ?_) (fun c5 => ?_)
          · exact absurd c5 (by omega)
          · refine zr_stLetters zC hG dX3_kindOf_8 ?_
            refine lv_iload_n zC.1 zC.2.1 dX3_kindOf_11 rfl (lv_at hl 0 rfl) ?_
            refine zr_tabC (f := tLet) zC hG hG.2.2.2.2.1.1.2 (by omega) dX3_kindOf_12 ?_
            refine zr_topi (y := 120) (by decide) ?_
            refine lv_iload_n zC.1 zC.2.1 dX3_kindOf_13 rfl (lv_at hl 1 rfl) ?_
            refine zr_icmp_ne (tgt := 19) zC dX3_kindOf_14 (by decide) (by omega) (fun c14 => ?_) (fun c14 => ?_)
            · refine zr_iinc (lv' := [(1, .int (zI 3)), (0, .int (zI g))]) zC dX3_kindOf_19 hl (k := 0) rfl (by decide) rfl (fun ls hl => ?_)
              refine lv_goto (tgt := 2) zC.1 zC.2.1 dX3_kindOf_22 (by decide) ?_
              refine lv_iload_n zC.1 zC.2.1 dX3_kindOf_2 rfl (lv_at hl 0 rfl) ?_
              refine zr_bipush zC dX3_kindOf_3 (by decide +kernel) ?_
              refine zr_icmp_ge (tgt := 25) zC dX3_kindOf_5 (by decide) (by omega) (fun c5 => ?_) (fun c5 => ?_)
              · exact absurd c5 (by omega)
              · refine zr_stLetters zC hG dX3_kindOf_8 ?_
                refine lv_iload_n zC.1 zC.2.1 dX3_kindOf_11 rfl (lv_at hl 0 rfl) ?_
                refine zr_tabC (f := tLet) zC hG hG.2.2.2.2.1.1.2 (by omega) dX3_kindOf_12 ?_
                refine zr_topi (y := 109) (by decide) ?_
                refine lv_iload_n zC.1 zC.2.1 dX3_kindOf_13 rfl (lv_at hl 1 rfl) ?_
                refine zr_icmp_ne (tgt := 19) zC dX3_kindOf_14 (by decide) (by omega) (fun c14 => ?_) (fun c14 => ?_)
                · refine zr_iinc (lv' := [(1, .int (zI 4)), (0, .int (zI g))]) zC dX3_kindOf_19 hl (k := 0) rfl (by decide) rfl (fun ls hl => ?_)
                  refine lv_goto (tgt := 2) zC.1 zC.2.1 dX3_kindOf_22 (by decide) ?_
                  refine lv_iload_n zC.1 zC.2.1 dX3_kindOf_2 rfl (lv_at hl 0 rfl) ?_
                  refine zr_bipush zC dX3_kindOf_3 (by decide +kernel) ?_
                  refine zr_icmp_ge (tgt := 25) zC dX3_kindOf_5 (by decide) (by omega) (fun c5 => ?_) (fun c5 => ?_)
                  · exact absurd c5 (by omega)
                  · refine zr_stLetters zC hG dX3_kindOf_8 ?_
                    refine lv_iload_n zC.1 zC.2.1 dX3_kindOf_11 rfl (lv_at hl 0 rfl) ?_
                    refine zr_tabC (f := tLet) zC hG hG.2.2.2.2.1.1.2 (by omega) dX3_kindOf_12 ?_
                    refine zr_topi (y := 111) (by decide) ?_
                    refine lv_iload_n zC.1 zC.2.1 dX3_kindOf_13 rfl (lv_at hl 1 rfl) ?_
                    refine zr_icmp_ne (tgt := 19) zC dX3_kindOf_14 (by decide) (by omega) (fun c14 => ?_) (fun c14 => ?_)
                    · refine zr_iinc (lv' := [(1, .int (zI 5)), (0, .int (zI g))]) zC dX3_kindOf_19 hl (k := 0) rfl (by decide) rfl (fun ls hl => ?_)
                      refine lv_goto (tgt := 2) zC.1 zC.2.1 dX3_kindOf_22 (by decide) ?_
                      refine lv_iload_n zC.1 zC.2.1 dX3_kindOf_2 rfl (lv_at hl 0 rfl) ?_
                      refine zr_bipush zC dX3_kindOf_3 (by decide +kernel) ?_
                      refine zr_icmp_ge (tgt := 25) zC dX3_kindOf_5 (by decide) (by omega) (fun c5 => ?_) (fun c5 => ?_)
                      · exact absurd c5 (by omega)
                      · refine zr_stLetters zC hG dX3_kindOf_8 ?_
                        refine lv_iload_n zC.1 zC.2.1 dX3_kindOf_11 rfl (lv_at hl 0 rfl) ?_
                        refine zr_tabC (f := tLet) zC hG hG.2.2.2.2.1.1.2 (by omega) dX3_kindOf_12 ?_
                        refine zr_topi (y := 100) (by decide) ?_
                        refine lv_iload_n zC.1 zC.2.1 dX3_kindOf_13 rfl (lv_at hl 1 rfl) ?_
                        refine zr_icmp_ne (tgt := 19) zC dX3_kindOf_14 (by decide) (by omega) (fun c14 => ?_) (fun c14 => ?_)
                        · refine zr_iinc (lv' := [(1, .int (zI 6)), (0, .int (zI g))]) zC dX3_kindOf_19 hl (k := 0) rfl (by decide) rfl (fun ls hl => ?_)
                          refine lv_goto (tgt := 2) zC.1 zC.2.1 dX3_kindOf_22 (by decide) ?_
                          refine lv_iload_n zC.1 zC.2.1 dX3_kindOf_2 rfl (lv_at hl 0 rfl) ?_
                          refine zr_bipush zC dX3_kindOf_3 (by decide +kernel) ?_
                          refine zr_icmp_ge (tgt := 25) zC dX3_kindOf_5 (by decide) (by omega) (fun c5 => ?_) (fun c5 => ?_)
                          · refine zr_bipush zC dX3_kindOf_25 (by decide +kernel) ?_
                            exact zr_iret zC zK hG dX3_kindOf_27 (by unfold kdB; (repeat' split) <;> omega) rfl
                          · exact absurd c5 (by omega)
                        · refine lv_iload_n zC.1 zC.2.1 dX3_kindOf_17 rfl (lv_at hl 0 rfl) ?_
                          exact zr_iret zC zK hG dX3_kindOf_18 (by unfold kdB; (repeat' split) <;> omega) rfl
                    · refine lv_iload_n zC.1 zC.2.1 dX3_kindOf_17 rfl (lv_at hl 0 rfl) ?_
                      exact zr_iret zC zK hG dX3_kindOf_18 (by unfold kdB; (repeat' split) <;> omega) rfl
                · refine lv_iload_n zC.1 zC.2.1 dX3_kindOf_17 rfl (lv_at hl 0 rfl) ?_
                  exact zr_iret zC zK hG dX3_kindOf_18 (by unfold kdB; (repeat' split) <;> omega) rfl
            · refine lv_iload_n zC.1 zC.2.1 dX3_kindOf_17 rfl (lv_at hl 0 rfl) ?_
              exact zr_iret zC zK hG dX3_kindOf_18 (by unfold kdB; (repeat' split) <;> omega) rfl
        · refine lv_iload_n zC.1 zC.2.1 dX3_kindOf_17 rfl (lv_at hl 0 rfl) ?_
          exact zr_iret zC zK hG dX3_kindOf_18 (by unfold kdB; (repeat' split) <;> omega) rfl
    · refine lv_iload_n zC.1 zC.2.1 dX3_kindOf_17 rfl (lv_at hl 0 rfl) ?_
      exact zr_iret zC zK hG dX3_kindOf_18 (by unfold kdB; (repeat' split) <;> omega) rfl

set_option maxHeartbeats 4000000 in
set_option maxRecDepth 100000 in
theorem c_X3_fits {Γ : Gm} {zl : Launch} {A : Nat → Prop} {σ : Mm} {g p : Int} (hg : -128 ≤ g ∧ g < 128) (hp : 0 ≤ p ∧ p ≤ 6) : Fn Γ zl A yX3_fits cX3_fits 3 (some .boolean) 1 21 [.int (zI g), .int (zI p)] σ (some (.int (zI (zB (ftP g p))))) σ := by
  refine Fn_of (by decide) (Nat.le_of_ble_eq_true rfl) ?_
  intro zp ze zs zm args below meth zc zQ H locs ls zC zK hG hl
  have hl : lv_has ls 3 [(0, .int (zI g)), (1, .int (zI p))] := hl
  refine lv_iload_n zC.1 zC.2.1 dX3_fits_0 rfl (lv_at hl 1 rfl) ?_
  refine zr_if_ne (tgt := 19) zC dX3_fits_1 (by decide) (by omega) (fun c1 => ?_) (fun c1 => ?_)
  · refine lv_iload_n zC.1 zC.2.1 dX3_fits_19 rfl (lv_at hl 0 rfl) ?_
    refine zr_bipush zC dX3_fits_20 (by decide +kernel) ?_
    refine zr_isub zC dX3_fits_22 ?_
    refine lv_istore_n (lv' := [(2, .int (zI (g - 48))), (0, .int (zI g)), (1, .int (zI p))]) zC.1 zC.2.1 dX3_fits_23 rfl hl (by decide) rfl (fun ls hl => ?_)
    refine lv_iload_n zC.1 zC.2.1 dX3_fits_24 rfl (lv_at hl 2 rfl) ?_
    refine zr_iconst zC dX3_fits_25 ?_
    refine zr_icmp_ne (tgt := 36) zC dX3_fits_26 (by decide) (by omega) (fun c26 => ?_) (fun c26 => ?_)
    · refine lv_iload_n zC.1 zC.2.1 dX3_fits_36 rfl (lv_at hl 0 rfl) ?_
      refine zr_if_lt (tgt := 50) zC dX3_fits_37 (by decide) (by omega) (fun c37 => ?_) (fun c37 => ?_)
      · refine zr_iconst zC dX3_fits_50 ?_
        exact zr_zret zC zK hG dX3_fits_51 (zB_f (by omega)) (Or.inl rfl) rfl
      · refine lv_iload_n zC.1 zC.2.1 dX3_fits_40 rfl (lv_at hl 0 rfl) ?_
        refine zr_bipush zC dX3_fits_41 (by decide +kernel) ?_
        refine zr_icmp_gt (tgt := 50) zC dX3_fits_43 (by decide) (by omega) (fun c43 => ?_) (fun c43 => ?_)
        · refine zr_iconst zC dX3_fits_50 ?_
          exact zr_zret zC zK hG dX3_fits_51 (zB_f (by omega)) (Or.inl rfl) rfl
        · refine zr_iconst zC dX3_fits_46 ?_
          refine lv_goto (tgt := 51) zC.1 zC.2.1 dX3_fits_47 (by decide) ?_
          exact zr_zret zC zK hG dX3_fits_51 (zB_t (by omega)) (Or.inr rfl) rfl
    · refine lv_iload_n zC.1 zC.2.1 dX3_fits_29 rfl (lv_at hl 0 rfl) ?_
      refine zr_callSN zC hG (c_X4_isLeap (σ := σ) (v := g - 48) (by first | assumption | omega)) mt_X4_isLeap hG.2.2.2.2.2.2.2.2.1 ⟨by decide, by decide⟩ rfl hl.1 rfl (Nat.le_of_ble_eq_true rfl) dX3_fits_30 ⟨Nat.zero_le _, Nat.zero_le _⟩ (fun H locs hG => ?_)
      refine W.eq (g2 := F0 zm 33 ls [.int (zI (zB (2 ≤ (g - 48) ∧ (g - 48) ≤ 9)))]) rfl ?_
      refine lv_goto (tgt := 51) zC.1 zC.2.1 dX3_fits_33 (by decide) ?_
      exact zr_zret zC zK hG dX3_fits_51 (zB_c (by constructor <;> omega)) (by have := zB_rng (2 ≤ (g - 48) ∧ (g - 48) ≤ 9); omega) rfl
  · refine lv_iload_n zC.1 zC.2.1 dX3_fits_4 rfl (lv_at hl 0 rfl) ?_
    refine zr_callS zC hG (c_X3_kindOf (σ := σ) (g := g) (by first | assumption | omega)) mt_X3_kindOf wl_X3_27 ⟨by decide, by decide⟩ rfl hl.1 rfl (Nat.le_of_ble_eq_true rfl) dX3_fits_5 ⟨Nat.zero_le _, Nat.zero_le _⟩ (fun H locs hG => ?_)
    refine W.eq (g2 := F0 zm 8 ls [.int (zI (kdB g))]) rfl ?_
    have b5_0 := kdB_r g
    refine zr_bipush zC dX3_fits_8 (by decide +kernel) ?_
    refine zr_icmp_eq (tgt := 17) zC dX3_fits_10 (by decide) (by omega) (fun c10 => ?_) (fun c10 => ?_)
    · refine zr_iconst zC dX3_fits_17 ?_
      exact zr_zret zC zK hG dX3_fits_18 (zB_f (by omega)) (Or.inl rfl) rfl
    · refine zr_iconst zC dX3_fits_13 ?_
      refine lv_goto (tgt := 18) zC.1 zC.2.1 dX3_fits_14 (by decide) ?_
      exact zr_zret zC zK hG dX3_fits_18 (zB_t (by omega)) (Or.inr rfl) rfl

set_option maxHeartbeats 4000000 in
set_option maxRecDepth 100000 in
theorem c_X3_faultOfItem {Γ : Gm} {zl : Launch} {A : Nat → Prop} {σ : Mm} {i x : Int} (hi : 0 ≤ i ∧ i < 4) (hs : -1 ≤ σ 4 i 1 ∧ σ 4 i 1 ≤ 60) (hc : ∀ j : Int, 0 ≤ j → j < 60 → -128 ≤ σ 5 i j ∧ σ 5 i j < 128) (hx : 0 ≤ x ∧ x < σ 4 i 1) : Fn Γ zl A yX3_faultOfItem cX3_faultOfItem 3 (some .int) 2 43 [.ref (aTx Γ i), .int (zI x)] σ (some (.int (zI (foI (fun q => (σ 5 i q)) (σ 4 i 1) x)))) σ := by
  refine Fn_of (by decide) (Nat.le_of_ble_eq_true rfl) ?_
  intro zp ze zs zm args below meth zc zQ H locs ls zC zK hG hl
  have hl : lv_has ls 3 [(0, .ref (aTx Γ i)), (1, .int (zI x))] := hl
  refine lv_iload_n zC.1 zC.2.1 dX3_faultOfItem_0 rfl (lv_at hl 1 rfl) ?_
  refine lv_istore_n (lv' := [(2, .int (zI x)), (0, .ref (aTx Γ i)), (1, .int (zI x))]) zC.1 zC.2.1 dX3_faultOfItem_1 rfl hl (by decide) rfl (fun ls hl => ?_)
  have loop2 : ∀ (nf : Nat) (w : Int) (H : Heap) (locs : List Loc) (ls : Array Slot), (x ≤ w ∧ w ≤ x + 7 ∧ w ≤ 60) → (foI (fun q => σ 5 i q) (σ 4 i 1) x = foP (fun q => σ 5 i q) (σ 4 i 1) x (x + 7 - w).toNat (w - x)) → (x + 7 - w < (nf : Int)) → GM Γ A σ zs H locs → lv_has ls 3 [(0, .ref (aTx Γ i)), (1, .int (zI x)), (2, .int (zI w))] → W zp zl ze { frames := 2, cells := 0, slots := 0, locals := 43 } zs zm args below meth zc H locs 0 0 zQ (F0 zm 2 ls []) := by
    intro nf
    induction nf with
    | zero =>
      intro w H locs ls hw hr hm2 _ _
      exact absurd hm2 (by omega)
    | succ nf ih2 =>
      intro w H locs ls hw hr hm2 hG hl
      refine lv_iload_n zC.1 zC.2.1 dX3_faultOfItem_2 rfl (lv_at hl 2 rfl) ?_
      refine lv_iload_n zC.1 zC.2.1 dX3_faultOfItem_3 rfl (lv_at hl 1 rfl) ?_
      refine zr_bipush zC dX3_faultOfItem_4 (by decide +kernel) ?_
      refine zr_iadd zC dX3_faultOfItem_6 ?_
      refine zr_icmp_ge (tgt := 46) zC dX3_faultOfItem_7 (by decide) (by omega) (fun c7 => ?_) (fun c7 => ?_)
      · refine zr_bipush zC dX3_faultOfItem_46 (by decide +kernel) ?_
        exact zr_iret zC zK hG dX3_faultOfItem_48 (by rw [hr, show (x + 7 - w).toNat = 0 by omega]; rfl) rfl
      · refine lv_iload_n zC.1 zC.2.1 dX3_faultOfItem_10 rfl (lv_at hl 2 rfl) ?_
        refine lv_aload_n zC.1 zC.2.1 dX3_faultOfItem_11 rfl (lv_at hl 0 rfl) ?_
        refine gf_Tx_size (v := σ 4 i 1) zC hG (by first | assumption | omega) wl_X3_15 rfl dX3_faultOfItem_12 ?_
        refine zr_icmp_lt (tgt := 23) zC dX3_faultOfItem_15 (by decide) (by omega) (fun c15 => ?_) (fun c15 => ?_)
        · refine lv_aload_n zC.1 zC.2.1 dX3_faultOfItem_23 rfl (lv_at hl 0 rfl) ?_
          refine gf_Tx_signs zC hG (by first | assumption | omega) wl_X3_9 dX3_faultOfItem_24 ?_
          refine lv_iload_n zC.1 zC.2.1 dX3_faultOfItem_27 rfl (lv_at hl 2 rfl) ?_
          refine gi_Sg (v := σ 5 i w) zC hG (by first | assumption | omega) (by omega) rfl dX3_faultOfItem_28 ?_
          have f29 := hc w (by omega) (by omega)
          refine lv_iload_n zC.1 zC.2.1 dX3_faultOfItem_29 rfl (lv_at hl 2 rfl) ?_
          refine lv_iload_n zC.1 zC.2.1 dX3_faultOfItem_30 rfl (lv_at hl 1 rfl) ?_
          refine zr_isub zC dX3_faultOfItem_31 ?_
          refine zr_callS zC hG (c_X3_fits (σ := σ) (g := σ 5 i w) (p := w - x) (by first | assumption | omega) (by first | assumption | omega)) mt_X3_fits wl_X3_23 ⟨by decide, by decide⟩ rfl hl.1 rfl (Nat.le_of_ble_eq_true rfl) dX3_faultOfItem_32 ⟨Nat.zero_le _, Nat.zero_le _⟩ (fun H locs hG => ?_)
          refine W.eq (g2 := F0 zm 35 ls [.int (zI (zB (ftP (σ 5 i w) (w - x))))]) rfl ?_
          refine zr_ifneB (tgt := 40) zC dX3_faultOfItem_35 (by decide) (fun c35 => ?_) (fun c35 => ?_)
          · refine zr_iinc (lv' := [(2, .int (zI (w + 1))), (0, .ref (aTx Γ i)), (1, .int (zI x))]) zC dX3_faultOfItem_40 hl (k := 2) rfl (by decide) rfl (fun ls hl => ?_)
            refine lv_goto (tgt := 2) zC.1 zC.2.1 dX3_faultOfItem_43 (by decide) ?_
            exact ih2 (w + 1) H locs ls (by first | assumption | omega) (by rw [hr, foP_s (by omega), if_neg (by omega), if_pos c35]) (by omega) hG (lv_sub hl [1, 2, 0] rfl)
          · refine lv_iload_n zC.1 zC.2.1 dX3_faultOfItem_38 rfl (lv_at hl 2 rfl) ?_
            exact zr_iret zC zK hG dX3_faultOfItem_39 (by rw [hr, foP_s (by omega), if_neg (by omega), if_neg c35]) rfl
        · refine lv_aload_n zC.1 zC.2.1 dX3_faultOfItem_18 rfl (lv_at hl 0 rfl) ?_
          refine gf_Tx_size (v := σ 4 i 1) zC hG (by first | assumption | omega) wl_X3_15 rfl dX3_faultOfItem_19 ?_
          exact zr_iret zC zK hG dX3_faultOfItem_22 (by rw [hr, foP_s (by omega), if_pos (by omega)]) rfl
  exact loop2 ((x + 7 - x : Int).toNat + 1) x H locs ls (by first | assumption | omega) (by rw [show (x + 7 - x).toNat = 7 by omega, show x - x = 0 by omega]; rfl) (by omega) hG (lv_sub hl [1, 2, 0] rfl)

set_option maxHeartbeats 4000000 in
set_option maxRecDepth 100000 in
theorem c_X3_firstFault {Γ : Gm} {zl : Launch} {A : Nat → Prop} {σ : Mm} {i : Int} (hi : 0 ≤ i ∧ i < 4) (hs : -1 ≤ σ 4 i 1 ∧ σ 4 i 1 ≤ 60) (hc : ∀ j : Int, 0 ≤ j → j < 60 → -128 ≤ σ 5 i j ∧ σ 5 i j < 128) : Fn Γ zl A yX3_firstFault cX3_firstFault 4 (some .int) 3 65 [.ref (aTx Γ i)] σ (some (.int (zI (ffI (fun q => (σ 5 i q)) (σ 4 i 1))))) σ := by
  refine Fn_of (by decide) (Nat.le_of_ble_eq_true rfl) ?_
  intro zp ze zs zm args below meth zc zQ H locs ls zC zK hG hl
  have hl : lv_has ls 4 [(0, .ref (aTx Γ i))] := hl
  refine zr_iconst zC dX3_firstFault_0 ?_
  refine lv_istore_n (lv' := [(1, .int (zI 0)), (0, .ref (aTx Γ i))]) zC.1 zC.2.1 dX3_firstFault_1 rfl hl (by decide) rfl (fun ls hl => ?_)
  refine zr_iconst zC dX3_firstFault_2 ?_
  refine lv_istore_n (lv' := [(2, .int (zI 0)), (1, .int (zI 0)), (0, .ref (aTx Γ i))]) zC.1 zC.2.1 dX3_firstFault_3 rfl hl (by decide) rfl (fun ls hl => ?_)
  have loop4 : ∀ (nf : Nat) (u x : Int) (H : Heap) (locs : List Loc) (ls : Array Slot), (0 ≤ x ∧ x ≤ 67) → (0 ≤ u ∧ u ≤ 5) → (∃ k : Nat, 61 ≤ x + k ∧ ffI (fun q => σ 5 i q) (σ 4 i 1) = ffG (fun q => σ 5 i q) (σ 4 i 1) k x u) → (67 - x < (nf : Int)) → GM Γ A σ zs H locs → lv_has ls 4 [(0, .ref (aTx Γ i)), (1, .int (zI u)), (2, .int (zI x))] → W zp zl ze { frames := 3, cells := 0, slots := 0, locals := 65 } zs zm args below meth zc H locs 0 0 zQ (F0 zm 4 ls []) := by
    intro nf
    induction nf with
    | zero =>
      intro u x H locs ls hx hu hr hm4 _ _
      exact absurd hm4 (by omega)
    | succ nf ih4 =>
      intro u x H locs ls hx hu hr hm4 hG hl
      refine lv_iload_n zC.1 zC.2.1 dX3_firstFault_4 rfl (lv_at hl 2 rfl) ?_
      refine lv_aload_n zC.1 zC.2.1 dX3_firstFault_5 rfl (lv_at hl 0 rfl) ?_
      refine gf_Tx_size (v := σ 4 i 1) zC hG (by first | assumption | omega) wl_X3_15 rfl dX3_firstFault_6 ?_
      refine zr_icmp_ge (tgt := 58) zC dX3_firstFault_9 (by decide) (by omega) (fun c9 => ?_) (fun c9 => ?_)
      · refine zr_bipush zC dX3_firstFault_58 (by decide +kernel) ?_
        exact zr_iret zC zK hG dX3_firstFault_60 (by obtain ⟨k, _, hr3⟩ := hr; rw [hr3, ffG_e (by omega)]) rfl
      · obtain ⟨k1, hk1, hr1⟩ := hr
        obtain ⟨k, rfl⟩ : ∃ k, k1 = k + 1 := ⟨k1 - 1, by omega⟩
        have hr2 := hr1
        refine lv_aload_n zC.1 zC.2.1 dX3_firstFault_12 rfl (lv_at hl 0 rfl) ?_
        refine gf_Tx_signs zC hG (by first | assumption | omega) wl_X3_9 dX3_firstFault_13 ?_
        refine lv_iload_n zC.1 zC.2.1 dX3_firstFault_16 rfl (lv_at hl 2 rfl) ?_
        refine gi_Sg (v := σ 5 i x) zC hG (by first | assumption | omega) (by omega) rfl dX3_firstFault_17 ?_
        have f18 := hc x (by omega) (by omega)
        refine zr_bipush zC dX3_firstFault_18 (by decide +kernel) ?_
        refine zr_icmp_eq (tgt := 52) zC dX3_firstFault_20 (by decide) (by omega) (fun c20 => ?_) (fun c20 => ?_)
        · refine zr_iinc (lv' := [(2, .int (zI (x + 1))), (0, .ref (aTx Γ i)), (1, .int (zI u))]) zC dX3_firstFault_52 hl (k := 2) rfl (by decide) rfl (fun ls hl => ?_)
          refine lv_goto (tgt := 4) zC.1 zC.2.1 dX3_firstFault_55 (by decide) ?_
          exact ih4 u (x + 1) H locs ls (by first | assumption | omega) (by first | assumption | omega) ⟨k, by omega, by first | rw [hr2, ffG, if_neg (by omega), if_pos c20] | rw [show x + 6 + 1 = x + 7 by omega, hr2, ffG, if_neg (by omega), if_neg c20, if_neg c25, if_pos c41]⟩ (by omega) hG (lv_sub hl [1, 2, 0] rfl)
        · refine lv_iload_n zC.1 zC.2.1 dX3_firstFault_23 rfl (lv_at hl 1 rfl) ?_
          refine zr_iconst zC dX3_firstFault_24 ?_
          refine zr_icmp_ne (tgt := 32) zC dX3_firstFault_25 (by decide) (by omega) (fun c25 => ?_) (fun c25 => ?_)
          · refine lv_aload_n zC.1 zC.2.1 dX3_firstFault_32 rfl (lv_at hl 0 rfl) ?_
            refine lv_iload_n zC.1 zC.2.1 dX3_firstFault_33 rfl (lv_at hl 2 rfl) ?_
            refine zr_callV zC hG (c_X3_faultOfItem (σ := σ) (i := i) (x := x) (by first | assumption | omega) hs hc (by first | assumption | omega)) mt_X3_faultOfItem wl_X3_19 (pTx (by first | assumption | omega)) rfl rfl ⟨by decide, by decide⟩ rfl hl.1 rfl (Nat.le_of_ble_eq_true rfl) dX3_firstFault_34 ⟨Nat.zero_le _, Nat.zero_le _⟩ (fun H locs hG => ?_)
            refine W.eq (g2 := F0 zm 37 ls [.int (zI (foI (fun q => (σ 5 i q)) (σ 4 i 1) x))]) rfl ?_
            have b34_0 := foP_r (f := fun q => (σ 5 i q)) (n := (σ 4 i 1)) (s := x) (by omega) (by omega) (by omega) 7 0 (by omega)
            have b34_1 := (show foI (fun q => (σ 5 i q)) (σ 4 i 1) x = foP (fun q => (σ 5 i q)) (σ 4 i 1) x 7 0 from rfl)
            refine lv_istore_n (lv' := [(3, .int (zI (foI (fun q => (σ 5 i q)) (σ 4 i 1) x))), (0, .ref (aTx Γ i)), (1, .int (zI u)), (2, .int (zI x))]) zC.1 zC.2.1 dX3_firstFault_37 rfl hl (by decide) rfl (fun ls hl => ?_)
            refine lv_iload_n zC.1 zC.2.1 dX3_firstFault_38 rfl (lv_at hl 0 rfl) ?_
            refine zr_bipush zC dX3_firstFault_39 (by decide +kernel) ?_
            refine zr_icmp_eq (tgt := 46) zC dX3_firstFault_41 (by decide) (by omega) (fun c41 => ?_) (fun c41 => ?_)
            · refine zr_iinc (lv' := [(1, .int (zI (u + 1))), (3, .int (zI (foI (fun q => (σ 5 i q)) (σ 4 i 1) x))), (0, .ref (aTx Γ i)), (2, .int (zI x))]) zC dX3_firstFault_46 hl (k := 2) rfl (by decide) rfl (fun ls hl => ?_)
              refine zr_iinc (lv' := [(2, .int (zI (x + 6))), (1, .int (zI (u + 1))), (3, .int (zI (foI (fun q => (σ 5 i q)) (σ 4 i 1) x))), (0, .ref (aTx Γ i))]) zC dX3_firstFault_49 hl (k := 3) rfl (by decide) rfl (fun ls hl => ?_)
              refine zr_iinc (lv' := [(2, .int (zI ((x + 6) + 1))), (1, .int (zI (u + 1))), (3, .int (zI (foI (fun q => (σ 5 i q)) (σ 4 i 1) x))), (0, .ref (aTx Γ i))]) zC dX3_firstFault_52 hl (k := 0) rfl (by decide) rfl (fun ls hl => ?_)
              refine lv_goto (tgt := 4) zC.1 zC.2.1 dX3_firstFault_55 (by decide) ?_
              exact ih4 (u + 1) ((x + 6) + 1) H locs ls (by first | assumption | omega) (by first | assumption | omega) ⟨k, by omega, by first | rw [hr2, ffG, if_neg (by omega), if_pos c20] | rw [show x + 6 + 1 = x + 7 by omega, hr2, ffG, if_neg (by omega), if_neg c20, if_neg c25, if_pos c41]⟩ (by omega) hG (lv_sub hl [3, 1, 0] rfl)
            · refine lv_iload_n zC.1 zC.2.1 dX3_firstFault_44 rfl (lv_at hl 0 rfl) ?_
              exact zr_iret zC zK hG dX3_firstFault_45 (by rw [hr2, ffG, if_neg (by omega), if_neg c20]; first | rw [if_neg c25, if_neg c41] | rw [if_pos c25]) rfl
          · refine lv_iload_n zC.1 zC.2.1 dX3_firstFault_28 rfl (lv_at hl 2 rfl) ?_
            refine lv_goto (tgt := 37) zC.1 zC.2.1 dX3_firstFault_29 (by decide) ?_
            refine lv_istore_n (lv' := [(3, .int (zI x)), (0, .ref (aTx Γ i)), (1, .int (zI u)), (2, .int (zI x))]) zC.1 zC.2.1 dX3_firstFault_37 rfl hl (by decide) rfl (fun ls hl => ?_)
            refine lv_iload_n zC.1 zC.2.1 dX3_firstFault_38 rfl (lv_at hl 0 rfl) ?_
            refine zr_bipush zC dX3_firstFault_39 (by decide +kernel) ?_
            refine zr_icmp_eq (tgt := 46) zC dX3_firstFault_41 (by decide) (by omega) (fun c41 => ?_) (fun c41 => ?_)
            · exact absurd c41 (by omega)
            · refine lv_iload_n zC.1 zC.2.1 dX3_firstFault_44 rfl (lv_at hl 0 rfl) ?_
              exact zr_iret zC zK hG dX3_firstFault_45 (by rw [hr2, ffG, if_neg (by omega), if_neg c20]; first | rw [if_neg c25, if_neg c41] | rw [if_pos c25]) rfl
  exact loop4 ((67 - 0 : Int).toNat + 1) 0 0 H locs ls (by first | assumption | omega) (by first | assumption | omega) ⟨61, by omega, rfl⟩ (by omega) hG (lv_sub hl [2, 1, 0] rfl)

set_option maxHeartbeats 4000000 in
set_option maxRecDepth 100000 in
theorem c_X3_readItem {Γ : Gm} {zl : Launch} {A : Nat → Prop} {σ : Mm} {i x j : Int} (hi : 0 ≤ i ∧ i < 4) (hs : -1 ≤ σ 4 i 1 ∧ σ 4 i 1 ≤ 60) (hc : ∀ j : Int, 0 ≤ j → j < 60 → -128 ≤ σ 5 i j ∧ σ 5 i j < 128) (hx : 0 ≤ x ∧ x + 7 ≤ 60) (hj : 0 ≤ j ∧ j < 6) : Fn Γ zl A yX3_readItem cX3_readItem 4 none 1 21 [.ref (aTx Γ i), .int (zI x), .ref (aCal Γ j)] σ none (rdI σ (fun q => σ 5 i q) x j) := by
  refine Fn_of (by decide) (Nat.le_of_ble_eq_true rfl) ?_
  intro zp ze zs zm args below meth zc zQ H locs ls zC zK hG hl
  have hl : lv_has ls 4 [(0, .ref (aTx Γ i)), (1, .int (zI x)), (2, .ref (aCal Γ j))] := hl
  refine lv_aload_n zC.1 zC.2.1 dX3_readItem_0 rfl (lv_at hl 2 rfl) ?_
  refine zr_iconst zC dX3_readItem_1 ?_
  refine lv_aload_n zC.1 zC.2.1 dX3_readItem_2 rfl (lv_at hl 0 rfl) ?_
  refine gf_Tx_signs zC hG (by first | assumption | omega) wl_X3_9 dX3_readItem_3 ?_
  refine lv_iload_n zC.1 zC.2.1 dX3_readItem_6 rfl (lv_at hl 1 rfl) ?_
  have fa := hc x (by omega) (by omega)
  refine gi_Sg (v := σ 5 i x) zC hG (by first | assumption | omega) (by omega) rfl dX3_readItem_7 ?_
  refine zr_callS zC hG (c_X3_kindOf (σ := σ) (g := σ 5 i x) (by first | assumption | omega)) mt_X3_kindOf wl_X3_27 ⟨by decide, by decide⟩ rfl hl.1 rfl (Nat.le_of_ble_eq_true rfl) dX3_readItem_8 ⟨Nat.zero_le _, Nat.zero_le _⟩ (fun H locs hG => ?_)
  refine W.eq (g2 := F0 zm 11 ls [.int (zI (kdB (σ 5 i x))), .int (zI 0), .ref (aCal Γ j)]) rfl ?_
  have b8_0 := kdB_r (σ 5 i x)
  refine zr_max zC wl_X3_42 (by omega) ⟨by decide, Nat.le_of_ble_eq_true rfl, Nat.zero_le _, Nat.zero_le _⟩ hl.1 dX3_readItem_11 ?_
  refine pf_Cal_kind zC hG (by first | assumption | omega) wl_X3_48 dX3_readItem_14 (fun H locs hG => ?_)
  refine lv_aload_n zC.1 zC.2.1 dX3_readItem_17 rfl (lv_at hl 2 rfl) ?_
  refine lv_aload_n zC.1 zC.2.1 dX3_readItem_18 rfl (lv_at hl 0 rfl) ?_
  refine gf_Tx_signs zC hG (by first | assumption | omega) wl_X3_9 dX3_readItem_19 ?_
  refine lv_iload_n zC.1 zC.2.1 dX3_readItem_22 rfl (lv_at hl 1 rfl) ?_
  refine zr_iconst zC dX3_readItem_23 ?_
  refine zr_iadd zC dX3_readItem_24 ?_
  have fa := hc (x + 1) (by omega) (by omega)
  refine gi_Sg (v := σ 5 i (x + 1)) zC hG (by first | assumption | omega) (by omega) (by first | rfl | simp [up]) dX3_readItem_25 ?_
  refine zr_bipush zC dX3_readItem_26 (by decide +kernel) ?_
  refine zr_isub zC dX3_readItem_28 ?_
  refine pf_Cal_leap zC hG (by first | assumption | omega) wl_X3_53 dX3_readItem_29 (fun H locs hG => ?_)
  refine lv_aload_n zC.1 zC.2.1 dX3_readItem_32 rfl (lv_at hl 2 rfl) ?_
  refine zr_iconst zC dX3_readItem_33 ?_
  refine pf_Cal_order zC hG (by first | assumption | omega) wl_X3_56 dX3_readItem_34 (fun H locs hG => ?_)
  refine zr_iconst zC dX3_readItem_37 ?_
  refine lv_istore_n (lv' := [(3, .int (zI 2)), (0, .ref (aTx Γ i)), (1, .int (zI x)), (2, .ref (aCal Γ j))]) zC.1 zC.2.1 dX3_readItem_38 rfl hl (by decide) rfl (fun ls hl => ?_)
  refine lv_iload_n zC.1 zC.2.1 dX3_readItem_39 rfl (lv_at hl 0 rfl) ?_
  refine zr_iconst zC dX3_readItem_40 ?_
  refine zr_icmp_gt (tgt := 73) zC dX3_readItem_41 (by decide) (by omega) (fun c41 => ?_) (fun c41 => ?_)
  · exact absurd c41 (by omega)
  · refine lv_aload_n zC.1 zC.2.1 dX3_readItem_44 rfl (lv_at hl 3 rfl) ?_
    refine zr_bipush zC dX3_readItem_45 (by decide +kernel) ?_
    refine lv_aload_n zC.1 zC.2.1 dX3_readItem_47 rfl (lv_at hl 3 rfl) ?_
    refine gf_Cal_order (v := 0) zC hG (by first | assumption | omega) wl_X3_56 (by first | rfl | simp [up]) dX3_readItem_48 ?_
    refine zr_imul zC dX3_readItem_51 ?_
    refine zr_topi (y := 0) (by decide) ?_
    refine lv_aload_n zC.1 zC.2.1 dX3_readItem_52 rfl (lv_at hl 1 rfl) ?_
    refine gf_Tx_signs zC hG (by first | assumption | omega) wl_X3_9 dX3_readItem_53 ?_
    refine lv_iload_n zC.1 zC.2.1 dX3_readItem_56 rfl (lv_at hl 2 rfl) ?_
    refine lv_iload_n zC.1 zC.2.1 dX3_readItem_57 rfl (lv_at hl 0 rfl) ?_
    refine zr_iadd zC dX3_readItem_58 ?_
    have fa := hc (x + 2) (by omega) (by omega)
    refine gi_Sg (v := σ 5 i (x + 2)) zC hG (by first | assumption | omega) (by omega) (by first | rfl | simp [up]) dX3_readItem_59 ?_
    refine zr_iadd zC dX3_readItem_60 ?_
    refine zr_bipush zC dX3_readItem_61 (by decide +kernel) ?_
    refine zr_isub zC dX3_readItem_63 ?_
    refine pf_Cal_order zC hG (by first | assumption | omega) wl_X3_56 dX3_readItem_64 (fun H locs hG => ?_)
    refine zr_iinc (lv' := [(3, .int (zI 3)), (0, .ref (aTx Γ i)), (1, .int (zI x)), (2, .ref (aCal Γ j))]) zC dX3_readItem_67 hl (k := 0) rfl (by decide) rfl (fun ls hl => ?_)
    refine lv_goto (tgt := 39) zC.1 zC.2.1 dX3_readItem_70 (by decide) ?_
    refine lv_iload_n zC.1 zC.2.1 dX3_readItem_39 rfl (lv_at hl 0 rfl) ?_
    refine zr_iconst zC dX3_readItem_40 ?_
    refine zr_icmp_gt (tgt := 73) zC dX3_readItem_41 (by decide) (by omega) (fun c41 => ?_) (fun c41 => ?_)
    · exact absurd c41 (by omega)
    · refine lv_aload_n zC.1 zC.2.1 dX3_readItem_44 rfl (lv_at hl 3 rfl) ?_
      refine zr_bipush zC dX3_readItem_45 (by decide +kernel) ?_
      refine lv_aload_n zC.1 zC.2.1 dX3_readItem_47 rfl (lv_at hl 3 rfl) ?_
      refine gf_Cal_order (v := ((0 + (σ 5 i (x + 2))) - 48)) zC hG (by first | assumption | omega) wl_X3_56 (by first | rfl | simp [up]) dX3_readItem_48 ?_
      refine zr_imul zC dX3_readItem_51 ?_
      refine lv_aload_n zC.1 zC.2.1 dX3_readItem_52 rfl (lv_at hl 1 rfl) ?_
      refine gf_Tx_signs zC hG (by first | assumption | omega) wl_X3_9 dX3_readItem_53 ?_
      refine lv_iload_n zC.1 zC.2.1 dX3_readItem_56 rfl (lv_at hl 2 rfl) ?_
      refine lv_iload_n zC.1 zC.2.1 dX3_readItem_57 rfl (lv_at hl 0 rfl) ?_
      refine zr_iadd zC dX3_readItem_58 ?_
      have fa := hc (x + 3) (by omega) (by omega)
      refine gi_Sg (v := σ 5 i (x + 3)) zC hG (by first | assumption | omega) (by omega) (by first | rfl | simp [up]) dX3_readItem_59 ?_
      refine zr_iadd zC dX3_readItem_60 ?_
      refine zr_bipush zC dX3_readItem_61 (by decide +kernel) ?_
      refine zr_isub zC dX3_readItem_63 ?_
      refine pf_Cal_order zC hG (by first | assumption | omega) wl_X3_56 dX3_readItem_64 (fun H locs hG => ?_)
      refine zr_iinc (lv' := [(3, .int (zI 4)), (0, .ref (aTx Γ i)), (1, .int (zI x)), (2, .ref (aCal Γ j))]) zC dX3_readItem_67 hl (k := 0) rfl (by decide) rfl (fun ls hl => ?_)
      refine lv_goto (tgt := 39) zC.1 zC.2.1 dX3_readItem_70 (by decide) ?_
      refine lv_iload_n zC.1 zC.2.1 dX3_readItem_39 rfl (lv_at hl 0 rfl) ?_
      refine zr_iconst zC dX3_readItem_40 ?_
      refine zr_icmp_gt (tgt := 73) zC dX3_readItem_41 (by decide) (by omega) (fun c41 => ?_) (fun c41 => ?_)
      · exact absurd c41 (by omega)
      · refine lv_aload_n zC.1 zC.2.1 dX3_readItem_44 rfl (lv_at hl 3 rfl) ?_
        refine zr_bipush zC dX3_readItem_45 (by decide +kernel) ?_
        refine lv_aload_n zC.1 zC.2.1 dX3_readItem_47 rfl (lv_at hl 3 rfl) ?_
        refine gf_Cal_order (v := (((10 * ((0 + (σ 5 i (x + 2))) - 48)) + (σ 5 i (x + 3))) - 48)) zC hG (by first | assumption | omega) wl_X3_56 (by first | rfl | simp [up]) dX3_readItem_48 ?_
        refine zr_imul zC dX3_readItem_51 ?_
        refine lv_aload_n zC.1 zC.2.1 dX3_readItem_52 rfl (lv_at hl 1 rfl) ?_
        refine gf_Tx_signs zC hG (by first | assumption | omega) wl_X3_9 dX3_readItem_53 ?_
        refine lv_iload_n zC.1 zC.2.1 dX3_readItem_56 rfl (lv_at hl 2 rfl) ?_
        refine lv_iload_n zC.1 zC.2.1 dX3_readItem_57 rfl (lv_at hl 0 rfl) ?_
        refine zr_iadd zC dX3_readItem_58 ?_
        have fa := hc (x + 4) (by omega) (by omega)
        refine gi_Sg (v := σ 5 i (x + 4)) zC hG (by first | assumption | omega) (by omega) (by first | rfl | simp [up]) dX3_readItem_59 ?_
        refine zr_iadd zC dX3_readItem_60 ?_
        refine zr_bipush zC dX3_readItem_61 (by decide +kernel) ?_
        refine zr_isub zC dX3_readItem_63 ?_
        refine pf_Cal_order zC hG (by first | assumption | omega) wl_X3_56 dX3_readItem_64 (fun H locs hG => ?_)
        refine zr_iinc (lv' := [(3, .int (zI 5)), (0, .ref (aTx Γ i)), (1, .int (zI x)), (2, .ref (aCal Γ j))]) zC dX3_readItem_67 hl (k := 0) rfl (by decide) rfl (fun ls hl => ?_)
        refine lv_goto (tgt := 39) zC.1 zC.2.1 dX3_readItem_70 (by decide) ?_
        refine lv_iload_n zC.1 zC.2.1 dX3_readItem_39 rfl (lv_at hl 0 rfl) ?_
        refine zr_iconst zC dX3_readItem_40 ?_
        refine zr_icmp_gt (tgt := 73) zC dX3_readItem_41 (by decide) (by omega) (fun c41 => ?_) (fun c41 => ?_)
        · exact absurd c41 (by omega)
        · refine lv_aload_n zC.1 zC.2.1 dX3_readItem_44 rfl (lv_at hl 3 rfl) ?_
          refine zr_bipush zC dX3_readItem_45 (by decide +kernel) ?_
          refine lv_aload_n zC.1 zC.2.1 dX3_readItem_47 rfl (lv_at hl 3 rfl) ?_
          refine gf_Cal_order (v := (((10 * (((10 * ((0 + (σ 5 i (x + 2))) - 48)) + (σ 5 i (x + 3))) - 48)) + (σ 5 i (x + 4))) - 48)) zC hG (by first | assumption | omega) wl_X3_56 (by first | rfl | simp [up]) dX3_readItem_48 ?_
          refine zr_imul zC dX3_readItem_51 ?_
          refine lv_aload_n zC.1 zC.2.1 dX3_readItem_52 rfl (lv_at hl 1 rfl) ?_
          refine gf_Tx_signs zC hG (by first | assumption | omega) wl_X3_9 dX3_readItem_53 ?_
          refine lv_iload_n zC.1 zC.2.1 dX3_readItem_56 rfl (lv_at hl 2 rfl) ?_
          refine lv_iload_n zC.1 zC.2.1 dX3_readItem_57 rfl (lv_at hl 0 rfl) ?_
          refine zr_iadd zC dX3_readItem_58 ?_
          have fa := hc (x + 5) (by omega) (by omega)
          refine gi_Sg (v := σ 5 i (x + 5)) zC hG (by first | assumption | omega) (by omega) (by first | rfl | simp [up]) dX3_readItem_59 ?_
          refine zr_iadd zC dX3_readItem_60 ?_
          refine zr_bipush zC dX3_readItem_61 (by decide +kernel) ?_
          refine zr_isub zC dX3_readItem_63 ?_
          refine pf_Cal_order zC hG (by first | assumption | omega) wl_X3_56 dX3_readItem_64 (fun H locs hG => ?_)
          refine zr_iinc (lv' := [(3, .int (zI 6)), (0, .ref (aTx Γ i)), (1, .int (zI x)), (2, .ref (aCal Γ j))]) zC dX3_readItem_67 hl (k := 0) rfl (by decide) rfl (fun ls hl => ?_)
          refine lv_goto (tgt := 39) zC.1 zC.2.1 dX3_readItem_70 (by decide) ?_
          refine lv_iload_n zC.1 zC.2.1 dX3_readItem_39 rfl (lv_at hl 0 rfl) ?_
          refine zr_iconst zC dX3_readItem_40 ?_
          refine zr_icmp_gt (tgt := 73) zC dX3_readItem_41 (by decide) (by omega) (fun c41 => ?_) (fun c41 => ?_)
          · refine lv_aload_n zC.1 zC.2.1 dX3_readItem_73 rfl (lv_at hl 3 rfl) ?_
            refine lv_aload_n zC.1 zC.2.1 dX3_readItem_74 rfl (lv_at hl 1 rfl) ?_
            refine gf_Tx_signs zC hG (by first | assumption | omega) wl_X3_9 dX3_readItem_75 ?_
            refine lv_iload_n zC.1 zC.2.1 dX3_readItem_78 rfl (lv_at hl 2 rfl) ?_
            refine zr_bipush zC dX3_readItem_79 (by decide +kernel) ?_
            refine zr_iadd zC dX3_readItem_81 ?_
            have fa := hc (x + 6) (by omega) (by omega)
            refine gi_Sg (v := σ 5 i (x + 6)) zC hG (by first | assumption | omega) (by omega) (by first | rfl | simp [up]) dX3_readItem_82 ?_
            refine zr_bipush zC dX3_readItem_83 (by decide +kernel) ?_
            refine zr_isub zC dX3_readItem_85 ?_
            refine pf_Cal_gap zC hG (by first | assumption | omega) wl_X3_59 dX3_readItem_86 (fun H locs hG => ?_)
            exact zr_vret zC zK hG dX3_readItem_89 (by simp only [up_up]; rfl)
          · exact absurd c41 (by omega)

set_option maxHeartbeats 4000000 in
set_option maxRecDepth 100000 in
theorem c_X3_readInto {Γ : Gm} {zl : Launch} {A : Nat → Prop} {σ : Mm} {i : Int} (hi : 0 ≤ i ∧ i < 4) (hs : -1 ≤ σ 4 i 1 ∧ σ 4 i 1 ≤ 60) (hc : ∀ j : Int, 0 ≤ j → j < 60 → -128 ≤ σ 5 i j ∧ σ 5 i j < 128) : Fn Γ zl A yX3_readInto cX3_readInto 4 (some .int) 2 44 [.ref (aTx Γ i), .ref (aTo Γ)] σ (some (.int (zI (rdC (fun q => (σ 5 i q)) (σ 4 i 1) 61 0 0)))) (rdM (fun q => σ 5 i q) (σ 4 i 1) 61 0 0 σ) := by
  refine Fn_of (by decide) (Nat.le_of_ble_eq_true rfl) ?_
  intro zp ze zs zm args below meth zc zQ H locs ls zC zK hG hl
  have hl : lv_has ls 4 [(0, .ref (aTx Γ i)), (1, .ref (aTo Γ))] := hl
  refine zr_iconst zC dX3_readInto_0 ?_
  refine lv_istore_n (lv' := [(2, .int (zI 0)), (0, .ref (aTx Γ i)), (1, .ref (aTo Γ))]) zC.1 zC.2.1 dX3_readInto_1 rfl hl (by decide) rfl (fun ls hl => ?_)
  refine zr_iconst zC dX3_readInto_2 ?_
  refine lv_istore_n (lv' := [(3, .int (zI 0)), (2, .int (zI 0)), (0, .ref (aTx Γ i)), (1, .ref (aTo Γ))]) zC.1 zC.2.1 dX3_readInto_3 rfl hl (by decide) rfl (fun ls hl => ?_)
  have loop4 : ∀ (nf : Nat) (u x : Int) (σq : Mm) (H : Heap) (locs : List Loc) (ls : Array Slot), (0 ≤ x ∧ x ≤ 67) → (0 ≤ u ∧ u ≤ 5) → (σq 4 i 1 = σ 4 i 1 ∧ ∀ j, σq 5 i j = σ 5 i j) → (∃ k : Nat, 61 ≤ x + k ∧ rdM (fun q => σ 5 i q) (σ 4 i 1) 61 0 0 σ = rdM (fun q => σ 5 i q) (σ 4 i 1) k x u σq ∧ rdC (fun q => σ 5 i q) (σ 4 i 1) 61 0 0 = rdC (fun q => σ 5 i q) (σ 4 i 1) k x u) → (67 - x < (nf : Int)) → GM Γ A σq zs H locs → lv_has ls 4 [(0, .ref (aTx Γ i)), (1, .ref (aTo Γ)), (2, .int (zI u)), (3, .int (zI x))] → W zp zl ze { frames := 2, cells := 0, slots := 0, locals := 44 } zs zm args below meth zc H locs 0 0 zQ (F0 zm 4 ls []) := by
    intro nf
    induction nf with
    | zero =>
      intro u x σq H locs ls hx hu hq9 hr hm4 _ _
      exact absurd hm4 (by omega)
    | succ nf ih4 =>
      intro u x σq H locs ls hx hu hq9 hr hm4 hG hl
      refine lv_iload_n zC.1 zC.2.1 dX3_readInto_4 rfl (lv_at hl 3 rfl) ?_
      refine zr_bipush zC dX3_readInto_5 (by decide +kernel) ?_
      refine zr_iadd zC dX3_readInto_7 ?_
      refine lv_aload_n zC.1 zC.2.1 dX3_readInto_8 rfl (lv_at hl 0 rfl) ?_
      refine gf_Tx_size (v := σ 4 i 1) zC hG (by first | assumption | omega) wl_X3_15 hq9.1 dX3_readInto_9 ?_
      refine zr_icmp_gt (tgt := 52) zC dX3_readInto_12 (by decide) (by omega) (fun c12 => ?_) (fun c12 => ?_)
      · refine lv_iload_n zC.1 zC.2.1 dX3_readInto_52 rfl (lv_at hl 2 rfl) ?_
        exact zr_iret zC zK hG dX3_readInto_53 (by obtain ⟨k, _, _, hr5⟩ := hr; rw [hr5, rdC_e (by omega)]) (by obtain ⟨k, _, hr4, _⟩ := hr; rw [hr4, rdM_e (by omega)])
      · refine lv_iload_n zC.1 zC.2.1 dX3_readInto_15 rfl (lv_at hl 2 rfl) ?_
        refine lv_aload_n zC.1 zC.2.1 dX3_readInto_16 rfl (lv_at hl 1 rfl) ?_
        refine gl_To zC hG dX3_readInto_17 ?_
        refine zr_icmp_ge (tgt := 52) zC dX3_readInto_18 (by decide) (by omega) (fun c18 => ?_) (fun c18 => ?_)
        · refine lv_iload_n zC.1 zC.2.1 dX3_readInto_52 rfl (lv_at hl 2 rfl) ?_
          exact zr_iret zC zK hG dX3_readInto_53 (by obtain ⟨k, _, _, hr5⟩ := hr; rw [hr5, rdC_e (by omega)]) (by obtain ⟨k, _, hr4, _⟩ := hr; rw [hr4, rdM_e (by omega)])
        · obtain ⟨k1, hk1, hr1, hr1b⟩ := hr
          obtain ⟨k, rfl⟩ : ∃ k, k1 = k + 1 := ⟨k1 - 1, by omega⟩
          have hr2 := hr1
          have hr3 := hr1b
          refine lv_aload_n zC.1 zC.2.1 dX3_readInto_21 rfl (lv_at hl 0 rfl) ?_
          refine gf_Tx_signs zC hG (by first | assumption | omega) wl_X3_9 dX3_readInto_22 ?_
          refine lv_iload_n zC.1 zC.2.1 dX3_readInto_25 rfl (lv_at hl 3 rfl) ?_
          refine gi_Sg (v := σ 5 i x) zC hG (by first | assumption | omega) (by omega) (hq9.2 x) dX3_readInto_26 ?_
          have f27 := hc x (by omega) (by omega)
          refine zr_bipush zC dX3_readInto_27 (by decide +kernel) ?_
          refine zr_icmp_eq (tgt := 46) zC dX3_readInto_29 (by decide) (by omega) (fun c29 => ?_) (fun c29 => ?_)
          · refine zr_iinc (lv' := [(3, .int (zI (x + 1))), (0, .ref (aTx Γ i)), (1, .ref (aTo Γ)), (2, .int (zI u))]) zC dX3_readInto_46 hl (k := 3) rfl (by decide) rfl (fun ls hl => ?_)
            refine lv_goto (tgt := 4) zC.1 zC.2.1 dX3_readInto_49 (by decide) ?_
            exact ih4 u (x + 1) σq H locs ls (by first | assumption | omega) (by first | assumption | omega) hq9 ⟨k, by omega, by first | rw [hr2, rdM, if_pos (by omega), if_pos c29] | rw [show x + 6 + 1 = x + 7 by omega, hr2, rdM, if_pos (by omega), if_neg c29, show (fun q => σq 5 i q) = (fun q => σ 5 i q) from funext hq9.2], by first | rw [hr3, rdC, if_pos (by omega), if_pos c29] | rw [show x + 6 + 1 = x + 7 by omega, hr3, rdC, if_pos (by omega), if_neg c29]⟩ (by omega) hG (lv_sub hl [1, 2, 3, 0] rfl)
          · refine lv_aload_n zC.1 zC.2.1 dX3_readInto_32 rfl (lv_at hl 0 rfl) ?_
            refine lv_iload_n zC.1 zC.2.1 dX3_readInto_33 rfl (lv_at hl 3 rfl) ?_
            refine lv_aload_n zC.1 zC.2.1 dX3_readInto_34 rfl (lv_at hl 1 rfl) ?_
            refine lv_iload_n zC.1 zC.2.1 dX3_readInto_35 rfl (lv_at hl 2 rfl) ?_
            refine gr_To zC hG (by omega) dX3_readInto_36 ?_
            refine zr_callV zC hG (c_X3_readItem (σ := σq) (i := i) (x := x) (j := u) (by first | assumption | omega) (by rw [hq9.1]; exact hs) (fun j a b => by rw [hq9.2 j]; exact hc j a b) (by first | assumption | omega) (by first | assumption | omega)) mt_X3_readItem wl_X3_38 (pTx (by first | assumption | omega)) rfl rfl ⟨by decide, by decide⟩ rfl hl.1 rfl (Nat.le_of_ble_eq_true rfl) dX3_readInto_37 ⟨Nat.zero_le _, Nat.zero_le _⟩ (fun H locs hG => ?_)
            refine W.eq (g2 := F0 zm 40 ls []) rfl ?_
            refine zr_iinc (lv' := [(2, .int (zI (u + 1))), (0, .ref (aTx Γ i)), (1, .ref (aTo Γ)), (3, .int (zI x))]) zC dX3_readInto_40 hl (k := 2) rfl (by decide) rfl (fun ls hl => ?_)
            refine zr_iinc (lv' := [(3, .int (zI (x + 6))), (2, .int (zI (u + 1))), (0, .ref (aTx Γ i)), (1, .ref (aTo Γ))]) zC dX3_readInto_43 hl (k := 3) rfl (by decide) rfl (fun ls hl => ?_)
            refine zr_iinc (lv' := [(3, .int (zI ((x + 6) + 1))), (2, .int (zI (u + 1))), (0, .ref (aTx Γ i)), (1, .ref (aTo Γ))]) zC dX3_readInto_46 hl (k := 0) rfl (by decide) rfl (fun ls hl => ?_)
            refine lv_goto (tgt := 4) zC.1 zC.2.1 dX3_readInto_49 (by decide) ?_
            exact ih4 (u + 1) ((x + 6) + 1) (rdI σq (fun q => σq 5 i q) x u) H locs ls (by first | assumption | omega) (by first | assumption | omega) hq9 ⟨k, by omega, by first | rw [hr2, rdM, if_pos (by omega), if_pos c29] | rw [show x + 6 + 1 = x + 7 by omega, hr2, rdM, if_pos (by omega), if_neg c29, show (fun q => σq 5 i q) = (fun q => σ 5 i q) from funext hq9.2], by first | rw [hr3, rdC, if_pos (by omega), if_pos c29] | rw [show x + 6 + 1 = x + 7 by omega, hr3, rdC, if_pos (by omega), if_neg c29]⟩ (by omega) hG (lv_sub hl [2, 3, 1, 0] rfl)
  exact loop4 ((67 - 0 : Int).toNat + 1) 0 0 σ H locs ls (by first | assumption | omega) (by first | assumption | omega) ⟨rfl, fun _ => rfl⟩ ⟨61, by omega, rfl, rfl⟩ (by omega) hG (lv_sub hl [2, 3, 1, 0] rfl)

set_option maxHeartbeats 4000000 in
set_option maxRecDepth 100000 in
theorem c_X4_fault {Γ : Gm} {zl : Launch} {A : Nat → Prop} {σ : Mm} {t : Int} (hI : IC σ) (ht : -2147483648 ≤ t ∧ t < 2147483648) : Fn Γ zl A yX4_fault cX4_fault 3 (some .int) 4 88 [.ref (aL Γ), .int (zI t)] σ (some (.int (zI (rC_fault σ t)))) (mC_fault σ t) := by
  refine Fn_of (by decide) (Nat.le_of_ble_eq_true rfl) ?_
  intro zp ze zs zm args below meth zc zQ H locs ls zC zK hG hl
  have hl : lv_has ls 3 [(0, .ref (aL Γ)), (1, .int (zI t))] := hl
  obtain ⟨hmany, htoday, -⟩ := id hI
  refine lv_aload_n zC.1 zC.2.1 dX4_fault_0 rfl (lv_at hl 0 rfl) ?_
  refine lv_iload_n zC.1 zC.2.1 dX4_fault_1 rfl (lv_at hl 1 rfl) ?_
  refine zr_callV zC hG (c_X4_refusedText (σ := σ) (t := t) hI (by first | assumption | omega)) mt_X4_refusedText wl_X4_108 pL rfl rfl ⟨by decide, by decide⟩ rfl hl.1 rfl (Nat.le_of_ble_eq_true rfl) dX4_fault_2 ⟨Nat.zero_le _, Nat.zero_le _⟩ (fun H locs hG => ?_)
  refine W.eq (g2 := F0 zm 5 ls [.int (zI (rfT σ t))]) rfl ?_
  have b2_0 := rfT_r σ t
  refine lv_istore_n (lv' := [(2, .int (zI (rfT σ t))), (0, .ref (aL Γ)), (1, .int (zI t))]) zC.1 zC.2.1 dX4_fault_5 rfl hl (by decide) rfl (fun ls hl => ?_)
  refine lv_iload_n zC.1 zC.2.1 dX4_fault_6 rfl (lv_at hl 0 rfl) ?_
  refine zr_if_eq (tgt := 14) zC dX4_fault_7 (by decide) (by omega) (fun c7 => ?_) (fun c7 => ?_)
  · obtain ⟨h1, h2, h3⟩ := rfT_0 c7
    rw [h3] at hG
    have h4 := hI.2.2.2.2.1 t (by omega) (by omega)
    refine lv_aload_n zC.1 zC.2.1 dX4_fault_14 rfl (lv_at hl 1 rfl) ?_
    refine gf_L_texts zC hG wl_X4_17 dX4_fault_15 ?_
    refine lv_iload_n zC.1 zC.2.1 dX4_fault_18 rfl (lv_at hl 2 rfl) ?_
    refine gr_Ts zC hG (by omega) dX4_fault_19 ?_
    refine zr_callV zC hG (c_X3_firstFault (σ := σ) (i := t) (by first | assumption | omega) (hI.2.2.2.2.1 t (by omega) (by omega)) (fun j h1 h2 => hI.2.2.2.2.2.1 t j (by omega) (by omega) h1 h2)) mt_X3_firstFault wl_X4_116 (pTx (by first | assumption | omega)) rfl rfl ⟨by decide, by decide⟩ rfl hl.1 rfl (Nat.le_of_ble_eq_true rfl) dX4_fault_20 ⟨Nat.zero_le _, Nat.zero_le _⟩ (fun H locs hG => ?_)
    refine W.eq (g2 := F0 zm 23 ls [.int (zI (ffI (fun q => (σ 5 t q)) (σ 4 t 1)))]) rfl ?_
    have b20_0 := ffG_r (f := fun q => (σ 5 t q)) (n := (σ 4 t 1)) (by omega) 61 0 0 (by omega)
    have b20_1 := (show ffI (fun q => (σ 5 t q)) (σ 4 t 1) = ffG (fun q => (σ 5 t q)) (σ 4 t 1) 61 0 0 from rfl)
    exact zr_iret zC zK hG dX4_fault_23 (by unfold rC_fault; (repeat' split) <;> first | rfl | omega) (by unfold mC_fault; first | rfl | exact h3)
  · refine lv_iload_n zC.1 zC.2.1 dX4_fault_10 rfl (lv_at hl 0 rfl) ?_
    refine lv_goto (tgt := 23) zC.1 zC.2.1 dX4_fault_11 (by decide) ?_
    exact zr_iret zC zK hG dX4_fault_23 (by unfold rC_fault; (repeat' split) <;> first | rfl | omega) (by unfold mC_fault; first | rfl | exact h3)

set_option maxHeartbeats 4000000 in
set_option maxRecDepth 100000 in
theorem c_X4_almanac {Γ : Gm} {zl : Launch} {A : Nat → Prop} {σ : Mm} {t : Int} (hI : IC σ) (ht : -2147483648 ≤ t ∧ t < 2147483648) : Fn Γ zl A yX4_almanac cX4_almanac 4 (some .int) 4 88 [.ref (aL Γ), .int (zI t)] σ (some (.int (zI (rC_almanac σ t)))) (mC_almanac σ t) := by
  refine Fn_of (by decide) (Nat.le_of_ble_eq_true rfl) ?_
  intro zp ze zs zm args below meth zc zQ H locs ls zC zK hG hl
  have hl : lv_has ls 4 [(0, .ref (aL Γ)), (1, .int (zI t))] := hl
  obtain ⟨hmany, htoday, -⟩ := id hI
  refine lv_aload_n zC.1 zC.2.1 dX4_almanac_0 rfl (lv_at hl 0 rfl) ?_
  refine lv_iload_n zC.1 zC.2.1 dX4_almanac_1 rfl (lv_at hl 1 rfl) ?_
  refine zr_callV zC hG (c_X4_refusedText (σ := σ) (t := t) hI (by first | assumption | omega)) mt_X4_refusedText wl_X4_108 pL rfl rfl ⟨by decide, by decide⟩ rfl hl.1 rfl (Nat.le_of_ble_eq_true rfl) dX4_almanac_2 ⟨Nat.zero_le _, Nat.zero_le _⟩ (fun H locs hG => ?_)
  refine W.eq (g2 := F0 zm 5 ls [.int (zI (rfT σ t))]) rfl ?_
  have b2_0 := rfT_r σ t
  refine lv_istore_n (lv' := [(2, .int (zI (rfT σ t))), (0, .ref (aL Γ)), (1, .int (zI t))]) zC.1 zC.2.1 dX4_almanac_5 rfl hl (by decide) rfl (fun ls hl => ?_)
  refine lv_iload_n zC.1 zC.2.1 dX4_almanac_6 rfl (lv_at hl 0 rfl) ?_
  refine zr_if_eq (tgt := 12) zC dX4_almanac_7 (by decide) (by omega) (fun c7 => ?_) (fun c7 => ?_)
  · obtain ⟨h1, h2, h3⟩ := rfT_0 c7
    rw [h3] at hG
    have h4 := hI.2.2.2.2.1 t (by omega) (by omega)
    refine lv_aload_n zC.1 zC.2.1 dX4_almanac_12 rfl (lv_at hl 1 rfl) ?_
    refine gf_L_texts zC hG wl_X4_17 dX4_almanac_13 ?_
    refine lv_iload_n zC.1 zC.2.1 dX4_almanac_16 rfl (lv_at hl 2 rfl) ?_
    refine gr_Ts zC hG (by omega) dX4_almanac_17 ?_
    refine zr_callV zC hG (c_X3_firstFault (σ := σ) (i := t) (by first | assumption | omega) (hI.2.2.2.2.1 t (by omega) (by omega)) (fun j h1 h2 => hI.2.2.2.2.2.1 t j (by omega) (by omega) h1 h2)) mt_X3_firstFault wl_X4_116 (pTx (by first | assumption | omega)) rfl rfl ⟨by decide, by decide⟩ rfl hl.1 rfl (Nat.le_of_ble_eq_true rfl) dX4_almanac_18 ⟨Nat.zero_le _, Nat.zero_le _⟩ (fun H locs hG => ?_)
    refine W.eq (g2 := F0 zm 21 ls [.int (zI (ffI (fun q => (σ 5 t q)) (σ 4 t 1)))]) rfl ?_
    have b18_0 := ffG_r (f := fun q => (σ 5 t q)) (n := (σ 4 t 1)) (by omega) 61 0 0 (by omega)
    have b18_1 := (show ffI (fun q => (σ 5 t q)) (σ 4 t 1) = ffG (fun q => (σ 5 t q)) (σ 4 t 1) 61 0 0 from rfl)
    refine zr_bipush zC dX4_almanac_21 (by decide +kernel) ?_
    refine zr_icmp_eq (tgt := 29) zC dX4_almanac_23 (by decide) (by omega) (fun c23 => ?_) (fun c23 => ?_)
    · refine lv_aload_n zC.1 zC.2.1 dX4_almanac_29 rfl (lv_at hl 1 rfl) ?_
      refine lv_aload_n zC.1 zC.2.1 dX4_almanac_30 rfl (lv_at hl 1 rfl) ?_
      refine gf_L_texts zC hG wl_X4_17 dX4_almanac_31 ?_
      refine lv_iload_n zC.1 zC.2.1 dX4_almanac_34 rfl (lv_at hl 2 rfl) ?_
      refine gr_Ts zC hG (by omega) dX4_almanac_35 ?_
      refine lv_aload_n zC.1 zC.2.1 dX4_almanac_36 rfl (lv_at hl 1 rfl) ?_
      refine gf_L_towns zC hG wl_X4_23 dX4_almanac_37 ?_
      refine zr_callV zC hG (c_X3_readInto (σ := σ) (i := t) (by first | assumption | omega) (hI.2.2.2.2.1 t (by omega) (by omega)) (fun j h1 h2 => hI.2.2.2.2.2.1 t j (by omega) (by omega) h1 h2)) mt_X3_readInto wl_X4_120 (pTx (by first | assumption | omega)) rfl rfl ⟨by decide, by decide⟩ rfl hl.1 rfl (Nat.le_of_ble_eq_true rfl) dX4_almanac_40 ⟨Nat.zero_le _, Nat.zero_le _⟩ (fun H locs hG => ?_)
      refine W.eq (g2 := F0 zm 43 ls [.int (zI (rdC (fun q => (σ 5 t q)) (σ 4 t 1) 61 0 0)), .ref (aL Γ)]) rfl ?_
      refine pf_L_townCount zC hG wl_X4_42 dX4_almanac_43 (fun H locs hG => ?_)
      refine lv_aload_n zC.1 zC.2.1 dX4_almanac_46 rfl (lv_at hl 1 rfl) ?_
      refine zr_iconst zC dX4_almanac_47 ?_
      refine pf_L_today zC hG wl_X4_46 dX4_almanac_48 (fun H locs hG => ?_)
      refine zr_iconst zC dX4_almanac_51 ?_
      refine lv_istore_n (lv' := [(3, .int (zI 0)), (2, .int (zI (rfT σ t))), (0, .ref (aL Γ)), (1, .int (zI t))]) zC.1 zC.2.1 dX4_almanac_52 rfl hl (by decide) rfl (fun ls hl => ?_)
      refine lv_iload_n zC.1 zC.2.1 dX4_almanac_53 rfl (lv_at hl 0 rfl) ?_
      refine zr_iconst zC dX4_almanac_54 ?_
      refine zr_icmp_ge (tgt := 74) zC dX4_almanac_55 (by decide) (by omega) (fun c55 => ?_) (fun c55 => ?_)
      · exact absurd c55 (by omega)
      · refine lv_aload_n zC.1 zC.2.1 dX4_almanac_58 rfl (lv_at hl 2 rfl) ?_
        refine gf_L_kept zC hG wl_X4_29 dX4_almanac_59 ?_
        refine lv_iload_n zC.1 zC.2.1 dX4_almanac_62 rfl (lv_at hl 0 rfl) ?_
        refine gr_Ks zC hG (by omega) dX4_almanac_63 ?_
        refine zr_iconst zC dX4_almanac_64 ?_
        refine pf_Kp_isThere zC hG (by first | assumption | omega) wl_X4_124 (by first | exact Or.inl rfl | exact Or.inr rfl | omega) dX4_almanac_65 (fun H locs hG => ?_)
        refine zr_iinc (lv' := [(3, .int (zI 1)), (2, .int (zI (rfT σ t))), (0, .ref (aL Γ)), (1, .int (zI t))]) zC dX4_almanac_68 hl (k := 0) rfl (by decide) rfl (fun ls hl => ?_)
        refine lv_goto (tgt := 53) zC.1 zC.2.1 dX4_almanac_71 (by decide) ?_
        refine lv_iload_n zC.1 zC.2.1 dX4_almanac_53 rfl (lv_at hl 0 rfl) ?_
        refine zr_iconst zC dX4_almanac_54 ?_
        refine zr_icmp_ge (tgt := 74) zC dX4_almanac_55 (by decide) (by omega) (fun c55 => ?_) (fun c55 => ?_)
        · exact absurd c55 (by omega)
        · refine lv_aload_n zC.1 zC.2.1 dX4_almanac_58 rfl (lv_at hl 2 rfl) ?_
          refine gf_L_kept zC hG wl_X4_29 dX4_almanac_59 ?_
          refine lv_iload_n zC.1 zC.2.1 dX4_almanac_62 rfl (lv_at hl 0 rfl) ?_
          refine gr_Ks zC hG (by omega) dX4_almanac_63 ?_
          refine zr_iconst zC dX4_almanac_64 ?_
          refine pf_Kp_isThere zC hG (by first | assumption | omega) wl_X4_124 (by first | exact Or.inl rfl | exact Or.inr rfl | omega) dX4_almanac_65 (fun H locs hG => ?_)
          refine zr_iinc (lv' := [(3, .int (zI 2)), (2, .int (zI (rfT σ t))), (0, .ref (aL Γ)), (1, .int (zI t))]) zC dX4_almanac_68 hl (k := 0) rfl (by decide) rfl (fun ls hl => ?_)
          refine lv_goto (tgt := 53) zC.1 zC.2.1 dX4_almanac_71 (by decide) ?_
          refine lv_iload_n zC.1 zC.2.1 dX4_almanac_53 rfl (lv_at hl 0 rfl) ?_
          refine zr_iconst zC dX4_almanac_54 ?_
          refine zr_icmp_ge (tgt := 74) zC dX4_almanac_55 (by decide) (by omega) (fun c55 => ?_) (fun c55 => ?_)
          · exact absurd c55 (by omega)
          · refine lv_aload_n zC.1 zC.2.1 dX4_almanac_58 rfl (lv_at hl 2 rfl) ?_
            refine gf_L_kept zC hG wl_X4_29 dX4_almanac_59 ?_
            refine lv_iload_n zC.1 zC.2.1 dX4_almanac_62 rfl (lv_at hl 0 rfl) ?_
            refine gr_Ks zC hG (by omega) dX4_almanac_63 ?_
            refine zr_iconst zC dX4_almanac_64 ?_
            refine pf_Kp_isThere zC hG (by first | assumption | omega) wl_X4_124 (by first | exact Or.inl rfl | exact Or.inr rfl | omega) dX4_almanac_65 (fun H locs hG => ?_)
            refine zr_iinc (lv' := [(3, .int (zI 3)), (2, .int (zI (rfT σ t))), (0, .ref (aL Γ)), (1, .int (zI t))]) zC dX4_almanac_68 hl (k := 0) rfl (by decide) rfl (fun ls hl => ?_)
            refine lv_goto (tgt := 53) zC.1 zC.2.1 dX4_almanac_71 (by decide) ?_
            refine lv_iload_n zC.1 zC.2.1 dX4_almanac_53 rfl (lv_at hl 0 rfl) ?_
            refine zr_iconst zC dX4_almanac_54 ?_
            refine zr_icmp_ge (tgt := 74) zC dX4_almanac_55 (by decide) (by omega) (fun c55 => ?_) (fun c55 => ?_)
            · refine lv_aload_n zC.1 zC.2.1 dX4_almanac_74 rfl (lv_at hl 2 rfl) ?_
              refine gf_L_townCount (v := (rdC (fun q => (σ 5 t q)) (σ 4 t 1) 61 0 0)) zC hG wl_X4_42 (by first | rfl | simp [up]) dX4_almanac_75 ?_
              exact zr_iret zC zK hG dX4_almanac_78 (by unfold rC_almanac; (repeat' split) <;> first | rfl | omega) (by unfold mC_almanac; (repeat' split) <;> first | rfl | (exfalso; omega))
            · exact absurd c55 (by omega)
    · refine zr_bipush zC dX4_almanac_26 (by decide +kernel) ?_
      exact zr_iret zC zK hG dX4_almanac_28 (by unfold rC_almanac; (repeat' split) <;> first | rfl | omega) (by unfold mC_almanac; (repeat' split) <;> first | rfl | (exfalso; omega))
  · refine lv_iload_n zC.1 zC.2.1 dX4_almanac_10 rfl (lv_at hl 0 rfl) ?_
    exact zr_iret zC zK hG dX4_almanac_11 (by unfold rC_almanac; (repeat' split) <;> first | rfl | omega) (by unfold mC_almanac; (repeat' split) <;> first | rfl | (exfalso; omega))
