set_option maxHeartbeats 4000000 in
set_option maxRecDepth 100000 in
theorem c_X5_in {Γ : Gm} {zl : Launch} {A : Nat → Prop} {σ : Mm} {v a b : Int} (hv : -2147483648 ≤ v ∧ v < 2147483648) (ha : -2147483648 ≤ a ∧ a < 2147483648) (hb : -2147483648 ≤ b ∧ b < 2147483648) : Fn Γ zl A yX5_in cX5_in 3 (some .boolean) 0 0 [.int (zI v), .int (zI a), .int (zI b)] σ (some (.int (zI (zB (a ≤ v ∧ v ≤ b))))) σ := by
  refine Fn_of (by decide) (Nat.le_of_ble_eq_true rfl) ?_
  intro zp ze zs zm args below meth zc zQ H locs ls zC zK hG hl
  have hl : lv_has ls 3 [(0, .int (zI v)), (1, .int (zI a)), (2, .int (zI b))] := hl
  refine lv_iload_n zC.1 zC.2.1 dX5_in_0 rfl (lv_at hl 0 rfl) ?_
  refine lv_iload_n zC.1 zC.2.1 dX5_in_1 rfl (lv_at hl 1 rfl) ?_
  refine zr_icmp_lt (tgt := 14) zC dX5_in_2 (by decide) (by omega) (fun c2 => ?_) (fun c2 => ?_)
  · refine zr_iconst zC dX5_in_14 ?_
    exact zr_zret zC zK hG dX5_in_15 (zB_f (by omega)) (Or.inl rfl) rfl
  · refine lv_iload_n zC.1 zC.2.1 dX5_in_5 rfl (lv_at hl 0 rfl) ?_
    refine lv_iload_n zC.1 zC.2.1 dX5_in_6 rfl (lv_at hl 2 rfl) ?_
    refine zr_icmp_gt (tgt := 14) zC dX5_in_7 (by decide) (by omega) (fun c7 => ?_) (fun c7 => ?_)
    · refine zr_iconst zC dX5_in_14 ?_
      exact zr_zret zC zK hG dX5_in_15 (zB_f (by omega)) (Or.inl rfl) rfl
    · refine zr_iconst zC dX5_in_10 ?_
      refine lv_goto (tgt := 15) zC.1 zC.2.1 dX5_in_11 (by decide) ?_
      exact zr_zret zC zK hG dX5_in_15 (zB_t (by omega)) (Or.inr rfl) rfl

set_option maxHeartbeats 4000000 in
set_option maxRecDepth 100000 in
theorem c_X5_greater {Γ : Gm} {zl : Launch} {A : Nat → Prop} {σ : Mm} {a b : Int} (ha : -2147483648 ≤ a ∧ a < 2147483648) (hb : -2147483648 ≤ b ∧ b < 2147483648) : Fn Γ zl A yX5_greater cX5_greater 2 (some .int) 0 0 [.int (zI a), .int (zI b)] σ (some (.int (zI (max a b)))) σ := by
  refine Fn_of (by decide) (Nat.le_of_ble_eq_true rfl) ?_
  intro zp ze zs zm args below meth zc zQ H locs ls zC zK hG hl
  have hl : lv_has ls 2 [(0, .int (zI a)), (1, .int (zI b))] := hl
  refine lv_iload_n zC.1 zC.2.1 dX5_greater_0 rfl (lv_at hl 0 rfl) ?_
  refine lv_iload_n zC.1 zC.2.1 dX5_greater_1 rfl (lv_at hl 1 rfl) ?_
  refine zr_icmp_le (tgt := 9) zC dX5_greater_2 (by decide) (by omega) (fun c2 => ?_) (fun c2 => ?_)
  · refine lv_iload_n zC.1 zC.2.1 dX5_greater_9 rfl (lv_at hl 1 rfl) ?_
    exact zr_iret zC zK hG dX5_greater_10 (by omega) rfl
  · refine lv_iload_n zC.1 zC.2.1 dX5_greater_5 rfl (lv_at hl 0 rfl) ?_
    refine lv_goto (tgt := 10) zC.1 zC.2.1 dX5_greater_6 (by decide) ?_
    exact zr_iret zC zK hG dX5_greater_10 (by omega) rfl

set_option maxHeartbeats 4000000 in
set_option maxRecDepth 100000 in
theorem c_X5_apartOf {Γ : Gm} {zl : Launch} {A : Nat → Prop} {σ : Mm} {a b : Int} (ha : -100000000 ≤ a ∧ a ≤ 100000000) (hb : -100000000 ≤ b ∧ b ≤ 100000000) : Fn Γ zl A yX5_apartOf cX5_apartOf 2 (some .int) 0 0 [.int (zI a), .int (zI b)] σ (some (.int (zI (max (a - b) (-(a - b)))))) σ := by
  refine Fn_of (by decide) (Nat.le_of_ble_eq_true rfl) ?_
  intro zp ze zs zm args below meth zc zQ H locs ls zC zK hG hl
  have hl : lv_has ls 2 [(0, .int (zI a)), (1, .int (zI b))] := hl
  refine lv_iload_n zC.1 zC.2.1 dX5_apartOf_0 rfl (lv_at hl 0 rfl) ?_
  refine lv_iload_n zC.1 zC.2.1 dX5_apartOf_1 rfl (lv_at hl 1 rfl) ?_
  refine zr_icmp_le (tgt := 11) zC dX5_apartOf_2 (by decide) (by omega) (fun c2 => ?_) (fun c2 => ?_)
  · refine lv_iload_n zC.1 zC.2.1 dX5_apartOf_11 rfl (lv_at hl 1 rfl) ?_
    refine lv_iload_n zC.1 zC.2.1 dX5_apartOf_12 rfl (lv_at hl 0 rfl) ?_
    refine zr_isub zC dX5_apartOf_13 ?_
    exact zr_iret zC zK hG dX5_apartOf_14 (by omega) rfl
  · refine lv_iload_n zC.1 zC.2.1 dX5_apartOf_5 rfl (lv_at hl 0 rfl) ?_
    refine lv_iload_n zC.1 zC.2.1 dX5_apartOf_6 rfl (lv_at hl 1 rfl) ?_
    refine zr_isub zC dX5_apartOf_7 ?_
    refine lv_goto (tgt := 14) zC.1 zC.2.1 dX5_apartOf_8 (by decide) ?_
    exact zr_iret zC zK hG dX5_apartOf_14 (by omega) rfl

set_option maxHeartbeats 4000000 in
set_option maxRecDepth 100000 in
theorem c_X5_isRow {Γ : Gm} {zl : Launch} {A : Nat → Prop} {σ : Mm} {v : Int} (hv : -2147483648 ≤ v ∧ v < 2147483648) : Fn Γ zl A yX5_isRow cX5_isRow 1 (some .boolean) 1 22 [.int (zI v)] σ (some (.int (zI (zB (0 ≤ v ∧ v ≤ 5))))) σ := by
  refine Fn_of (by decide) (Nat.le_of_ble_eq_true rfl) ?_
  intro zp ze zs zm args below meth zc zQ H locs ls zC zK hG hl
  have hl : lv_has ls 1 [(0, .int (zI v))] := hl
  refine lv_iload_n zC.1 zC.2.1 dX5_isRow_0 rfl (lv_at hl 0 rfl) ?_
  refine zr_iconst zC dX5_isRow_1 ?_
  refine zr_iconst zC dX5_isRow_2 ?_
  refine zr_callS zC hG (c_X5_in (σ := σ) (v := v) (a := 0) (b := 5) (by first | assumption | omega) (by first | assumption | omega) (by first | assumption | omega)) mt_X5_in wl_X5_60 ⟨by decide, by decide⟩ rfl hl.1 rfl (Nat.le_of_ble_eq_true rfl) dX5_isRow_3 ⟨Nat.zero_le _, Nat.zero_le _⟩ (fun H locs hG => ?_)
  refine W.eq (g2 := F0 zm 6 ls [.int (zI (zB (0 ≤ v ∧ v ≤ 5)))]) rfl ?_
  exact zr_zret zC zK hG dX5_isRow_6 rfl (by have := zB_rng (0 ≤ v ∧ v ≤ 5); omega) rfl

set_option maxHeartbeats 4000000 in
set_option maxRecDepth 100000 in
theorem c_X5_isText {Γ : Gm} {zl : Launch} {A : Nat → Prop} {σ : Mm} {v : Int} (hv : -2147483648 ≤ v ∧ v < 2147483648) : Fn Γ zl A yX5_isText cX5_isText 1 (some .boolean) 1 22 [.int (zI v)] σ (some (.int (zI (zB (0 ≤ v ∧ v ≤ 3))))) σ := by
  refine Fn_of (by decide) (Nat.le_of_ble_eq_true rfl) ?_
  intro zp ze zs zm args below meth zc zQ H locs ls zC zK hG hl
  have hl : lv_has ls 1 [(0, .int (zI v))] := hl
  refine lv_iload_n zC.1 zC.2.1 dX5_isText_0 rfl (lv_at hl 0 rfl) ?_
  refine zr_iconst zC dX5_isText_1 ?_
  refine zr_iconst zC dX5_isText_2 ?_
  refine zr_callS zC hG (c_X5_in (σ := σ) (v := v) (a := 0) (b := 3) (by first | assumption | omega) (by first | assumption | omega) (by first | assumption | omega)) mt_X5_in wl_X5_60 ⟨by decide, by decide⟩ rfl hl.1 rfl (Nat.le_of_ble_eq_true rfl) dX5_isText_3 ⟨Nat.zero_le _, Nat.zero_le _⟩ (fun H locs hG => ?_)
  refine W.eq (g2 := F0 zm 6 ls [.int (zI (zB (0 ≤ v ∧ v ≤ 3)))]) rfl ?_
  exact zr_zret zC zK hG dX5_isText_6 rfl (by have := zB_rng (0 ≤ v ∧ v ≤ 3); omega) rfl

set_option maxHeartbeats 4000000 in
set_option maxRecDepth 100000 in
theorem c_X5_isDay {Γ : Gm} {zl : Launch} {A : Nat → Prop} {σ : Mm} {v : Int} (hv : -2147483648 ≤ v ∧ v < 2147483648) : Fn Γ zl A yX5_isDay cX5_isDay 1 (some .boolean) 1 22 [.int (zI v)] σ (some (.int (zI (zB (0 ≤ v ∧ v ≤ 19999))))) σ := by
  refine Fn_of (by decide) (Nat.le_of_ble_eq_true rfl) ?_
  intro zp ze zs zm args below meth zc zQ H locs ls zC zK hG hl
  have hl : lv_has ls 1 [(0, .int (zI v))] := hl
  refine lv_iload_n zC.1 zC.2.1 dX5_isDay_0 rfl (lv_at hl 0 rfl) ?_
  refine zr_iconst zC dX5_isDay_1 ?_
  refine zr_sipush zC dX5_isDay_2 (by decide +kernel) ?_
  refine zr_callS zC hG (c_X5_in (σ := σ) (v := v) (a := 0) (b := 19999) (by first | assumption | omega) (by first | assumption | omega) (by first | assumption | omega)) mt_X5_in wl_X5_60 ⟨by decide, by decide⟩ rfl hl.1 rfl (Nat.le_of_ble_eq_true rfl) dX5_isDay_5 ⟨Nat.zero_le _, Nat.zero_le _⟩ (fun H locs hG => ?_)
  refine W.eq (g2 := F0 zm 8 ls [.int (zI (zB (0 ≤ v ∧ v ≤ 19999)))]) rfl ?_
  exact zr_zret zC zK hG dX5_isDay_8 rfl (by have := zB_rng (0 ≤ v ∧ v ≤ 19999); omega) rfl

set_option maxHeartbeats 4000000 in
set_option maxRecDepth 100000 in
theorem c_X5_areDays {Γ : Gm} {zl : Launch} {A : Nat → Prop} {σ : Mm} {a b : Int} (ha : -2147483648 ≤ a ∧ a < 2147483648) (hb : -2147483648 ≤ b ∧ b < 2147483648) : Fn Γ zl A yX5_areDays cX5_areDays 2 (some .boolean) 2 42 [.int (zI a), .int (zI b)] σ (some (.int (zI (zB (0 ≤ a ∧ a ≤ b ∧ b ≤ 19999))))) σ := by
  refine Fn_of (by decide) (Nat.le_of_ble_eq_true rfl) ?_
  intro zp ze zs zm args below meth zc zQ H locs ls zC zK hG hl
  have hl : lv_has ls 2 [(0, .int (zI a)), (1, .int (zI b))] := hl
  refine lv_iload_n zC.1 zC.2.1 dX5_areDays_0 rfl (lv_at hl 0 rfl) ?_
  refine zr_callS zC hG (c_X5_isDay (σ := σ) (v := a) (by first | assumption | omega)) mt_X5_isDay wl_X5_122 ⟨by decide, by decide⟩ rfl hl.1 rfl (Nat.le_of_ble_eq_true rfl) dX5_areDays_1 ⟨Nat.zero_le _, Nat.zero_le _⟩ (fun H locs hG => ?_)
  refine W.eq (g2 := F0 zm 4 ls [.int (zI (zB (0 ≤ a ∧ a ≤ 19999)))]) rfl ?_
  refine zr_ifeqB (tgt := 23) zC dX5_areDays_4 (by decide) (fun c4 => ?_) (fun c4 => ?_)
  · refine zr_iconst zC dX5_areDays_23 ?_
    exact zr_zret zC zK hG dX5_areDays_24 (zB_f (by omega)) (Or.inl rfl) rfl
  · refine lv_iload_n zC.1 zC.2.1 dX5_areDays_7 rfl (lv_at hl 1 rfl) ?_
    refine zr_callS zC hG (c_X5_isDay (σ := σ) (v := b) (by first | assumption | omega)) mt_X5_isDay wl_X5_122 ⟨by decide, by decide⟩ rfl hl.1 rfl (Nat.le_of_ble_eq_true rfl) dX5_areDays_8 ⟨Nat.zero_le _, Nat.zero_le _⟩ (fun H locs hG => ?_)
    refine W.eq (g2 := F0 zm 11 ls [.int (zI (zB (0 ≤ b ∧ b ≤ 19999)))]) rfl ?_
    refine zr_ifeqB (tgt := 23) zC dX5_areDays_11 (by decide) (fun c11 => ?_) (fun c11 => ?_)
    · refine zr_iconst zC dX5_areDays_23 ?_
      exact zr_zret zC zK hG dX5_areDays_24 (zB_f (by omega)) (Or.inl rfl) rfl
    · refine lv_iload_n zC.1 zC.2.1 dX5_areDays_14 rfl (lv_at hl 0 rfl) ?_
      refine lv_iload_n zC.1 zC.2.1 dX5_areDays_15 rfl (lv_at hl 1 rfl) ?_
      refine zr_icmp_gt (tgt := 23) zC dX5_areDays_16 (by decide) (by omega) (fun c16 => ?_) (fun c16 => ?_)
      · refine zr_iconst zC dX5_areDays_23 ?_
        exact zr_zret zC zK hG dX5_areDays_24 (zB_f (by omega)) (Or.inl rfl) rfl
      · refine zr_iconst zC dX5_areDays_19 ?_
        refine lv_goto (tgt := 24) zC.1 zC.2.1 dX5_areDays_20 (by decide) ?_
        exact zr_zret zC zK hG dX5_areDays_24 (zB_t (by omega)) (Or.inr rfl) rfl

set_option maxHeartbeats 4000000 in
set_option maxRecDepth 100000 in
theorem c_X5_kindBy {Γ : Gm} {zl : Launch} {A : Nat → Prop} {σ : Mm} {g : Int} (hg : -2147483648 ≤ g ∧ g < 2147483648) : Fn Γ zl A yX5_kindBy cX5_kindBy 1 (some .int) 0 0 [.int (zI g)] σ (some (.int (zI (kdB g)))) σ := by
  refine Fn_of (by decide) (Nat.le_of_ble_eq_true rfl) ?_
  intro zp ze zs zm args below meth zc zQ H locs ls zC zK hG hl
  have hl : lv_has ls 1 [(0, .int (zI g))] := hl
  refine lv_iload_n zC.1 zC.2.1 dX5_kindBy_0 rfl (lv_at hl 0 rfl) ?_
  refine zr_bipush zC dX5_kindBy_1 (by decide +kernel) ?_
  refine zr_icmp_ne (tgt := 10) zC dX5_kindBy_3 (by decide) (by omega) (fun c3 => ?_) (fun c3 => ?_)
  · refine lv_iload_n zC.1 zC.2.1 dX5_kindBy_10 rfl (lv_at hl 0 rfl) ?_
    refine zr_bipush zC dX5_kindBy_11 (by decide +kernel) ?_
    refine zr_icmp_ne (tgt := 20) zC dX5_kindBy_13 (by decide) (by omega) (fun c13 => ?_) (fun c13 => ?_)
    · refine lv_iload_n zC.1 zC.2.1 dX5_kindBy_20 rfl (lv_at hl 0 rfl) ?_
      refine zr_bipush zC dX5_kindBy_21 (by decide +kernel) ?_
      refine zr_icmp_ne (tgt := 30) zC dX5_kindBy_23 (by decide) (by omega) (fun c23 => ?_) (fun c23 => ?_)
      · refine lv_iload_n zC.1 zC.2.1 dX5_kindBy_30 rfl (lv_at hl 0 rfl) ?_
        refine zr_bipush zC dX5_kindBy_31 (by decide +kernel) ?_
        refine zr_icmp_ne (tgt := 40) zC dX5_kindBy_33 (by decide) (by omega) (fun c33 => ?_) (fun c33 => ?_)
        · refine lv_iload_n zC.1 zC.2.1 dX5_kindBy_40 rfl (lv_at hl 0 rfl) ?_
          refine zr_bipush zC dX5_kindBy_41 (by decide +kernel) ?_
          refine zr_icmp_ne (tgt := 50) zC dX5_kindBy_43 (by decide) (by omega) (fun c43 => ?_) (fun c43 => ?_)
          · refine lv_iload_n zC.1 zC.2.1 dX5_kindBy_50 rfl (lv_at hl 0 rfl) ?_
            refine zr_bipush zC dX5_kindBy_51 (by decide +kernel) ?_
            refine zr_icmp_ne (tgt := 60) zC dX5_kindBy_53 (by decide) (by omega) (fun c53 => ?_) (fun c53 => ?_)
            · refine zr_bipush zC dX5_kindBy_60 (by decide +kernel) ?_
              exact zr_iret zC zK hG dX5_kindBy_62 (by unfold kdB; (repeat' split) <;> omega) rfl
            · refine zr_iconst zC dX5_kindBy_56 ?_
              refine lv_goto (tgt := 62) zC.1 zC.2.1 dX5_kindBy_57 (by decide) ?_
              exact zr_iret zC zK hG dX5_kindBy_62 (by unfold kdB; (repeat' split) <;> omega) rfl
          · refine zr_iconst zC dX5_kindBy_46 ?_
            refine lv_goto (tgt := 62) zC.1 zC.2.1 dX5_kindBy_47 (by decide) ?_
            exact zr_iret zC zK hG dX5_kindBy_62 (by unfold kdB; (repeat' split) <;> omega) rfl
        · refine zr_iconst zC dX5_kindBy_36 ?_
          refine lv_goto (tgt := 62) zC.1 zC.2.1 dX5_kindBy_37 (by decide) ?_
          exact zr_iret zC zK hG dX5_kindBy_62 (by unfold kdB; (repeat' split) <;> omega) rfl
      · refine zr_iconst zC dX5_kindBy_26 ?_
        refine lv_goto (tgt := 62) zC.1 zC.2.1 dX5_kindBy_27 (by decide) ?_
        exact zr_iret zC zK hG dX5_kindBy_62 (by unfold kdB; (repeat' split) <;> omega) rfl
    · refine zr_iconst zC dX5_kindBy_16 ?_
      refine lv_goto (tgt := 62) zC.1 zC.2.1 dX5_kindBy_17 (by decide) ?_
      exact zr_iret zC zK hG dX5_kindBy_62 (by unfold kdB; (repeat' split) <;> omega) rfl
  · refine zr_iconst zC dX5_kindBy_6 ?_
    refine lv_goto (tgt := 62) zC.1 zC.2.1 dX5_kindBy_7 (by decide) ?_
    exact zr_iret zC zK hG dX5_kindBy_62 (by unfold kdB; (repeat' split) <;> omega) rfl

set_option maxHeartbeats 4000000 in
set_option maxRecDepth 100000 in
theorem c_X5_tillFull {Γ : Gm} {zl : Launch} {A : Nat → Prop} {σ : Mm} {d : Int} (hd : 0 ≤ d ∧ d ≤ 1000000) : Fn Γ zl A yX5_tillFull cX5_tillFull 2 (some .int) 0 0 [.int (zI d)] σ (some (.int (zI (tlF d)))) σ := by
  refine Fn_of (by decide) (Nat.le_of_ble_eq_true rfl) ?_
  intro zp ze zs zm args below meth zc zQ H locs ls zC zK hG hl
  have hl : lv_has ls 2 [(0, .int (zI d))] := hl
  refine lv_iload_n zC.1 zC.2.1 dX5_tillFull_0 rfl (lv_at hl 0 rfl) ?_
  refine zr_bipush zC dX5_tillFull_1 (by decide +kernel) ?_
  refine zr_irem zC dX5_tillFull_3 (by omega) ?_
  refine lv_istore_n (lv' := [(1, .int (zI (d % 59))), (0, .int (zI d))]) zC.1 zC.2.1 dX5_tillFull_4 rfl hl (by decide) rfl (fun ls hl => ?_)
  refine lv_iload_n zC.1 zC.2.1 dX5_tillFull_5 rfl (lv_at hl 0 rfl) ?_
  refine zr_if_ne (tgt := 13) zC dX5_tillFull_6 (by decide) (by omega) (fun c6 => ?_) (fun c6 => ?_)
  · refine lv_iload_n zC.1 zC.2.1 dX5_tillFull_13 rfl (lv_at hl 0 rfl) ?_
    refine zr_bipush zC dX5_tillFull_14 (by decide +kernel) ?_
    refine zr_icmp_gt (tgt := 26) zC dX5_tillFull_16 (by decide) (by omega) (fun c16 => ?_) (fun c16 => ?_)
    · refine zr_bipush zC dX5_tillFull_26 (by decide +kernel) ?_
      refine lv_iload_n zC.1 zC.2.1 dX5_tillFull_28 rfl (lv_at hl 0 rfl) ?_
      refine zr_isub zC dX5_tillFull_29 ?_
      exact zr_iret zC zK hG dX5_tillFull_30 (by unfold tlF; (repeat' split) <;> omega) rfl
    · refine zr_bipush zC dX5_tillFull_19 (by decide +kernel) ?_
      refine lv_iload_n zC.1 zC.2.1 dX5_tillFull_21 rfl (lv_at hl 0 rfl) ?_
      refine zr_isub zC dX5_tillFull_22 ?_
      refine lv_goto (tgt := 30) zC.1 zC.2.1 dX5_tillFull_23 (by decide) ?_
      exact zr_iret zC zK hG dX5_tillFull_30 (by unfold tlF; (repeat' split) <;> omega) rfl
  · refine zr_iconst zC dX5_tillFull_9 ?_
    refine lv_goto (tgt := 30) zC.1 zC.2.1 dX5_tillFull_10 (by decide) ?_
    exact zr_iret zC zK hG dX5_tillFull_30 (by unfold tlF; (repeat' split) <;> omega) rfl

set_option maxHeartbeats 4000000 in
set_option maxRecDepth 100000 in
theorem c_X5_isOff {Γ : Gm} {zl : Launch} {A : Nat → Prop} {σ : Mm} {lp y v k : Int} (hlp : 2 ≤ lp ∧ lp ≤ 9) (hy : 0 ≤ y ∧ y ≤ 151) (hv : 0 ≤ v ∧ v ≤ 99) (hk : 2 ≤ k ∧ k ≤ 9) : Fn Γ zl A yX5_isOff cX5_isOff 5 (some .boolean) 1 21 [.int (zI lp), .int (zI y), .int (zI v), .int (zI k)] σ (some (.int (zI (zB (offP lp v k y))))) σ := by
  refine Fn_of (by decide) (Nat.le_of_ble_eq_true rfl) ?_
  intro zp ze zs zm args below meth zc zQ H locs ls zC zK hG hl
  have hl : lv_has ls 5 [(0, .int (zI lp)), (1, .int (zI y)), (2, .int (zI v)), (3, .int (zI k))] := hl
  have el : lyb y lp = (y + lp - 1) / lp := by unfold lyb; rw [if_neg (by omega)]
  have m13 := lyb_r (y := y) (lp := lp) (by omega) (by omega)
  have m13b := mul_r (a := k) (b := lyb y lp) (m := 9) (n := 151) (by omega) (by omega)
  have m13c := mul_r (a := v) (b := k) (m := 99) (n := 9) (by omega) (by omega)
  refine lv_iload_n zC.1 zC.2.1 dX5_isOff_0 rfl (lv_at hl 1 rfl) ?_
  refine lv_iload_n zC.1 zC.2.1 dX5_isOff_1 rfl (lv_at hl 0 rfl) ?_
  refine zr_iadd zC dX5_isOff_2 ?_
  refine zr_iconst zC dX5_isOff_3 ?_
  refine zr_isub zC dX5_isOff_4 ?_
  refine lv_iload_n zC.1 zC.2.1 dX5_isOff_5 rfl (lv_at hl 0 rfl) ?_
  refine zr_idiv zC dX5_isOff_6 (by omega) ?_
  refine zr_topi (y := lyb y lp) el.symm ?_
  refine lv_istore (lv' := [(4, .int (zI (lyb y lp))), (0, .int (zI lp)), (1, .int (zI y)), (2, .int (zI v)), (3, .int (zI k))]) zC.1 zC.2.1 dX5_isOff_7 hl (by decide) rfl (fun ls hl => ?_)
  refine lv_iload_n zC.1 zC.2.1 dX5_isOff_9 rfl (lv_at hl 4 rfl) ?_
  refine lv_iload zC.1 zC.2.1 dX5_isOff_10 (lv_at hl 0 rfl) ?_
  refine zr_imul zC dX5_isOff_12 ?_
  refine lv_iload_n zC.1 zC.2.1 dX5_isOff_13 rfl (lv_at hl 2 rfl) ?_
  refine zr_callS zC hG (c_X5_apartOf (σ := σ) (a := k * (lyb y lp)) (b := y) (by first | assumption | omega) (by first | assumption | omega)) mt_X5_apartOf wl_X5_204 ⟨by decide, by decide⟩ rfl hl.1 rfl (Nat.le_of_ble_eq_true rfl) dX5_isOff_14 ⟨Nat.zero_le _, Nat.zero_le _⟩ (fun H locs hG => ?_)
  refine W.eq (g2 := F0 zm 17 ls [.int (zI (max ((k * (lyb y lp)) - y) (-((k * (lyb y lp)) - y))))]) rfl ?_
  refine lv_iload_n zC.1 zC.2.1 dX5_isOff_17 rfl (lv_at hl 3 rfl) ?_
  refine lv_iload_n zC.1 zC.2.1 dX5_isOff_18 rfl (lv_at hl 4 rfl) ?_
  refine zr_imul zC dX5_isOff_19 ?_
  refine zr_icmp_le (tgt := 27) zC dX5_isOff_20 (by decide) (by omega) (fun c20 => ?_) (fun c20 => ?_)
  · refine zr_iconst zC dX5_isOff_27 ?_
    exact zr_zret zC zK hG dX5_isOff_28 (zB_f (by omega)) (Or.inl rfl) rfl
  · refine zr_iconst zC dX5_isOff_23 ?_
    refine lv_goto (tgt := 28) zC.1 zC.2.1 dX5_isOff_24 (by decide) ?_
    exact zr_zret zC zK hG dX5_isOff_28 (zB_t (by omega)) (Or.inr rfl) rfl

set_option maxHeartbeats 4000000 in
set_option maxRecDepth 100000 in
theorem c_X5_meet {Γ : Gm} {zl : Launch} {A : Nat → Prop} {σ : Mm} {f : Int} (hf : 1 ≤ f ∧ f ≤ 5) : Fn Γ zl A yX5_meet cX5_meet 2 (some .int) 0 0 [.ref (aM Γ), .int (zI f)] σ (some (.int (zI (-3)))) (up (up σ 20 0 0 f) 21 0 f ((σ 21 0 f) + 1)) := by
  refine Fn_of (by decide) (Nat.le_of_ble_eq_true rfl) ?_
  intro zp ze zs zm args below meth zc zQ H locs ls zC zK hG hl
  have hl : lv_has ls 2 [(0, .ref (aM Γ)), (1, .int (zI f))] := hl
  refine lv_aload_n zC.1 zC.2.1 dX5_meet_0 rfl (lv_at hl 0 rfl) ?_
  refine lv_iload_n zC.1 zC.2.1 dX5_meet_1 rfl (lv_at hl 1 rfl) ?_
  refine pf_M_finding zC hG wl_X5_50 dX5_meet_2 (fun H locs hG => ?_)
  refine lv_aload_n zC.1 zC.2.1 dX5_meet_5 rfl (lv_at hl 0 rfl) ?_
  refine gf_M_findings zC hG wl_X5_7 dX5_meet_6 ?_
  refine lv_iload_n zC.1 zC.2.1 dX5_meet_9 rfl (lv_at hl 1 rfl) ?_
  refine lv_dup2_11 zC.1 zC.2.1 dX5_meet_10 rfl rfl ?_
  refine gi_m_findings (v := σ 21 0 f) zC hG (by omega) (by first | rfl | simp [up]) dX5_meet_11 ?_
  refine zr_iconst zC dX5_meet_12 ?_
  refine zr_iadd zC dX5_meet_13 ?_
  refine pi_m_findings zC hG (by omega) dX5_meet_14 (fun H locs hG => ?_)
  refine zr_bipush zC dX5_meet_15 (by decide +kernel) ?_
  exact zr_iret zC zK hG dX5_meet_17 rfl rfl

set_option maxHeartbeats 4000000 in
set_option maxRecDepth 100000 in
theorem c_X5_ask {Γ : Gm} {zl : Launch} {A : Nat → Prop} {σ : Mm} {v w : Int}  : Fn Γ zl A yX5_ask cX5_ask 3 (some .int) 0 0 [.ref (aM Γ), .int (zI v), .int (zI w)] σ (some (.int (zI w))) (up σ 20 0 2 v) := by
  refine Fn_of (by decide) (Nat.le_of_ble_eq_true rfl) ?_
  intro zp ze zs zm args below meth zc zQ H locs ls zC zK hG hl
  have hl : lv_has ls 3 [(0, .ref (aM Γ)), (1, .int (zI v)), (2, .int (zI w))] := hl
  refine lv_aload_n zC.1 zC.2.1 dX5_ask_0 rfl (lv_at hl 0 rfl) ?_
  refine lv_iload_n zC.1 zC.2.1 dX5_ask_1 rfl (lv_at hl 1 rfl) ?_
  refine pf_M_asked zC hG wl_X5_54 dX5_ask_2 (fun H locs hG => ?_)
  refine lv_iload_n zC.1 zC.2.1 dX5_ask_5 rfl (lv_at hl 2 rfl) ?_
  exact zr_iret zC zK hG dX5_ask_6 rfl rfl

set_option maxHeartbeats 4000000 in
set_option maxRecDepth 100000 in
theorem c_X5_leaps {Γ : Gm} {zl : Launch} {A : Nat → Prop} {σ : Mm} (hm : CalM σ) : Fn Γ zl A yX5_leaps cX5_leaps 1 (some .boolean) 0 0 [.ref (aM Γ)] σ (some (.int (zI (zB (isLp (σ 20 0 19)))))) σ := by
  refine Fn_of (by decide) (Nat.le_of_ble_eq_true rfl) ?_
  intro zp ze zs zm args below meth zc zQ H locs ls zC zK hG hl
  have hl : lv_has ls 1 [(0, .ref (aM Γ))] := hl
  obtain ⟨hk, hlp, hod, hgp⟩ := id hm
  refine lv_aload_n zC.1 zC.2.1 dX5_leaps_0 rfl (lv_at hl 0 rfl) ?_
  refine gf_M_kind (v := σ 20 0 19) zC hG wl_X5_125 rfl dX5_leaps_1 ?_
  refine zr_iconst zC dX5_leaps_4 ?_
  refine zr_icmp_eq (tgt := 16) zC dX5_leaps_5 (by decide) (by omega) (fun c5 => ?_) (fun c5 => ?_)
  · refine zr_iconst zC dX5_leaps_16 ?_
    refine lv_goto (tgt := 21) zC.1 zC.2.1 dX5_leaps_17 (by decide) ?_
    exact zr_zret zC zK hG dX5_leaps_21 (zB_t (by omega)) (Or.inr rfl) rfl
  · refine lv_aload_n zC.1 zC.2.1 dX5_leaps_8 rfl (lv_at hl 0 rfl) ?_
    refine gf_M_kind (v := σ 20 0 19) zC hG wl_X5_125 rfl dX5_leaps_9 ?_
    refine zr_iconst zC dX5_leaps_12 ?_
    refine zr_icmp_ne (tgt := 20) zC dX5_leaps_13 (by decide) (by omega) (fun c13 => ?_) (fun c13 => ?_)
    · refine zr_iconst zC dX5_leaps_20 ?_
      exact zr_zret zC zK hG dX5_leaps_21 (zB_f (by omega)) (Or.inl rfl) rfl
    · refine zr_iconst zC dX5_leaps_16 ?_
      refine lv_goto (tgt := 21) zC.1 zC.2.1 dX5_leaps_17 (by decide) ?_
      exact zr_zret zC zK hG dX5_leaps_21 (zB_t (by omega)) (Or.inr rfl) rfl

set_option maxHeartbeats 4000000 in
set_option maxRecDepth 100000 in
theorem c_X5_cuts {Γ : Gm} {zl : Launch} {A : Nat → Prop} {σ : Mm} (hm : CalM σ) : Fn Γ zl A yX5_cuts cX5_cuts 1 (some .boolean) 0 0 [.ref (aM Γ)] σ (some (.int (zI (zB (ctP (σ 20 0 19)))))) σ := by
  refine Fn_of (by decide) (Nat.le_of_ble_eq_true rfl) ?_
  intro zp ze zs zm args below meth zc zQ H locs ls zC zK hG hl
  have hl : lv_has ls 1 [(0, .ref (aM Γ))] := hl
  obtain ⟨hk, hlp, hod, hgp⟩ := id hm
  refine lv_aload_n zC.1 zC.2.1 dX5_cuts_0 rfl (lv_at hl 0 rfl) ?_
  refine gf_M_kind (v := σ 20 0 19) zC hG wl_X5_125 rfl dX5_cuts_1 ?_
  refine zr_iconst zC dX5_cuts_4 ?_
  refine zr_icmp_eq (tgt := 24) zC dX5_cuts_5 (by decide) (by omega) (fun c5 => ?_) (fun c5 => ?_)
  · refine zr_iconst zC dX5_cuts_24 ?_
    refine lv_goto (tgt := 29) zC.1 zC.2.1 dX5_cuts_25 (by decide) ?_
    exact zr_zret zC zK hG dX5_cuts_29 (zB_t (by omega)) (Or.inr rfl) rfl
  · refine lv_aload_n zC.1 zC.2.1 dX5_cuts_8 rfl (lv_at hl 0 rfl) ?_
    refine gf_M_kind (v := σ 20 0 19) zC hG wl_X5_125 rfl dX5_cuts_9 ?_
    refine zr_iconst zC dX5_cuts_12 ?_
    refine zr_icmp_eq (tgt := 24) zC dX5_cuts_13 (by decide) (by omega) (fun c13 => ?_) (fun c13 => ?_)
    · refine zr_iconst zC dX5_cuts_24 ?_
      refine lv_goto (tgt := 29) zC.1 zC.2.1 dX5_cuts_25 (by decide) ?_
      exact zr_zret zC zK hG dX5_cuts_29 (zB_t (by omega)) (Or.inr rfl) rfl
    · refine lv_aload_n zC.1 zC.2.1 dX5_cuts_16 rfl (lv_at hl 0 rfl) ?_
      refine gf_M_kind (v := σ 20 0 19) zC hG wl_X5_125 rfl dX5_cuts_17 ?_
      refine zr_iconst zC dX5_cuts_20 ?_
      refine zr_icmp_ne (tgt := 28) zC dX5_cuts_21 (by decide) (by omega) (fun c21 => ?_) (fun c21 => ?_)
      · refine zr_iconst zC dX5_cuts_28 ?_
        exact zr_zret zC zK hG dX5_cuts_29 (zB_f (by omega)) (Or.inl rfl) rfl
      · refine zr_iconst zC dX5_cuts_24 ?_
        refine lv_goto (tgt := 29) zC.1 zC.2.1 dX5_cuts_25 (by decide) ?_
        exact zr_zret zC zK hG dX5_cuts_29 (zB_t (by omega)) (Or.inr rfl) rfl

set_option maxHeartbeats 4000000 in
set_option maxRecDepth 100000 in
theorem c_X5_yearDays {Γ : Gm} {zl : Launch} {A : Nat → Prop} {σ : Mm} {y : Int} (hm : CalM σ) (hy : 0 ≤ y ∧ y ≤ 3000000) : Fn Γ zl A yX5_yearDays cX5_yearDays 2 (some .int) 1 20 [.ref (aM Γ), .int (zI y)] σ (some (.int (zI (lenY (σ 20 0 19) (σ 20 0 20) y)))) σ := by
  refine Fn_of (by decide) (Nat.le_of_ble_eq_true rfl) ?_
  intro zp ze zs zm args below meth zc zQ H locs ls zC zK hG hl
  have hl : lv_has ls 2 [(0, .ref (aM Γ)), (1, .int (zI y))] := hl
  obtain ⟨hk, hlp, hod, hgp⟩ := id hm
  have b0 := Int.emod_nonneg y (show σ 20 0 20 ≠ 0 by omega)
  have b0a := Int.emod_lt_of_pos y (show 0 < σ 20 0 20 by omega)
  refine lv_aload_n zC.1 zC.2.1 dX5_yearDays_0 rfl (lv_at hl 0 rfl) ?_
  refine gf_M_kind (v := σ 20 0 19) zC hG wl_X5_125 rfl dX5_yearDays_1 ?_
  refine zr_iconst zC dX5_yearDays_4 ?_
  refine zr_icmp_ne (tgt := 13) zC dX5_yearDays_5 (by decide) (by omega) (fun c5 => ?_) (fun c5 => ?_)
  · refine lv_aload_n zC.1 zC.2.1 dX5_yearDays_13 rfl (lv_at hl 0 rfl) ?_
    refine zr_callV zC hG (c_X5_leaps (σ := σ) (by first | assumption | omega)) mt_X5_leaps wl_X5_137 pM rfl rfl ⟨by decide, by decide⟩ rfl hl.1 rfl (Nat.le_of_ble_eq_true rfl) dX5_yearDays_14 ⟨Nat.zero_le _, Nat.zero_le _⟩ (fun H locs hG => ?_)
    refine W.eq (g2 := F0 zm 17 ls [.int (zI (zB (isLp (σ 20 0 19))))]) rfl ?_
    refine zr_ifeqB (tgt := 34) zC dX5_yearDays_17 (by decide) (fun c17 => ?_) (fun c17 => ?_)
    · refine zr_bipush zC dX5_yearDays_34 (by decide +kernel) ?_
      exact zr_iret zC zK hG dX5_yearDays_36 (by unfold lenY shL; (repeat' split) <;> omega) rfl
    · refine lv_iload_n zC.1 zC.2.1 dX5_yearDays_20 rfl (lv_at hl 1 rfl) ?_
      refine lv_aload_n zC.1 zC.2.1 dX5_yearDays_21 rfl (lv_at hl 0 rfl) ?_
      refine gf_M_leap (v := σ 20 0 20) zC hG wl_X5_128 rfl dX5_yearDays_22 ?_
      refine zr_irem zC dX5_yearDays_25 (by omega) ?_
      refine zr_if_ne (tgt := 34) zC dX5_yearDays_26 (by decide) (by omega) (fun c26 => ?_) (fun c26 => ?_)
      · refine zr_bipush zC dX5_yearDays_34 (by decide +kernel) ?_
        exact zr_iret zC zK hG dX5_yearDays_36 (by unfold lenY shL; (repeat' split) <;> omega) rfl
      · refine zr_bipush zC dX5_yearDays_29 (by decide +kernel) ?_
        refine lv_goto (tgt := 36) zC.1 zC.2.1 dX5_yearDays_31 (by decide) ?_
        exact zr_iret zC zK hG dX5_yearDays_36 (by unfold lenY shL; (repeat' split) <;> omega) rfl
  · refine zr_bipush zC dX5_yearDays_8 (by decide +kernel) ?_
    refine lv_goto (tgt := 36) zC.1 zC.2.1 dX5_yearDays_10 (by decide) ?_
    exact zr_iret zC zK hG dX5_yearDays_36 (by unfold lenY shL; (repeat' split) <;> omega) rfl

set_option maxHeartbeats 4000000 in
set_option maxRecDepth 100000 in
theorem c_X5_beginOf {Γ : Gm} {zl : Launch} {A : Nat → Prop} {σ : Mm} {y : Int} (hm : CalM σ) (hy : 0 ≤ y ∧ y ≤ 3000000) : Fn Γ zl A yX5_beginOf cX5_beginOf 2 (some .int) 1 20 [.ref (aM Γ), .int (zI y)] σ (some (.int (zI (begY (σ 20 0 19) (σ 20 0 20) y)))) σ := by
  refine Fn_of (by decide) (Nat.le_of_ble_eq_true rfl) ?_
  intro zp ze zs zm args below meth zc zQ H locs ls zC zK hG hl
  have hl : lv_has ls 2 [(0, .ref (aM Γ)), (1, .int (zI y))] := hl
  obtain ⟨hk, hlp, hod, hgp⟩ := id hm
  refine lv_aload_n zC.1 zC.2.1 dX5_beginOf_0 rfl (lv_at hl 0 rfl) ?_
  refine gf_M_kind (v := σ 20 0 19) zC hG wl_X5_125 rfl dX5_beginOf_1 ?_
  refine zr_iconst zC dX5_beginOf_4 ?_
  refine zr_icmp_ne (tgt := 15) zC dX5_beginOf_5 (by decide) (by omega) (fun c5 => ?_) (fun c5 => ?_)
  · refine zr_bipush zC dX5_beginOf_15 (by decide +kernel) ?_
    refine lv_iload_n zC.1 zC.2.1 dX5_beginOf_17 rfl (lv_at hl 1 rfl) ?_
    refine zr_imul zC dX5_beginOf_18 ?_
    refine lv_aload_n zC.1 zC.2.1 dX5_beginOf_19 rfl (lv_at hl 0 rfl) ?_
    refine zr_callV zC hG (c_X5_leaps (σ := σ) (by first | assumption | omega)) mt_X5_leaps wl_X5_137 pM rfl rfl ⟨by decide, by decide⟩ rfl hl.1 rfl (Nat.le_of_ble_eq_true rfl) dX5_beginOf_20 ⟨Nat.zero_le _, Nat.zero_le _⟩ (fun H locs hG => ?_)
    refine W.eq (g2 := F0 zm 23 ls [.int (zI (zB (isLp (σ 20 0 19)))), .int (zI (100 * y))]) rfl ?_
    refine zr_ifeqB (tgt := 42) zC dX5_beginOf_23 (by decide) (fun c23 => ?_) (fun c23 => ?_)
    · refine zr_iconst zC dX5_beginOf_42 ?_
      refine zr_iadd zC dX5_beginOf_43 ?_
      exact zr_iret zC zK hG dX5_beginOf_44 (by unfold begY lyb shL; rw [if_neg (show ¬ σ 20 0 20 < 1 by omega)]; (repeat' split) <;> omega) rfl
    · refine lv_iload_n zC.1 zC.2.1 dX5_beginOf_26 rfl (lv_at hl 1 rfl) ?_
      refine lv_aload_n zC.1 zC.2.1 dX5_beginOf_27 rfl (lv_at hl 0 rfl) ?_
      refine gf_M_leap (v := σ 20 0 20) zC hG wl_X5_128 rfl dX5_beginOf_28 ?_
      refine zr_iadd zC dX5_beginOf_31 ?_
      refine zr_iconst zC dX5_beginOf_32 ?_
      refine zr_isub zC dX5_beginOf_33 ?_
      refine lv_aload_n zC.1 zC.2.1 dX5_beginOf_34 rfl (lv_at hl 0 rfl) ?_
      refine gf_M_leap (v := σ 20 0 20) zC hG wl_X5_128 rfl dX5_beginOf_35 ?_
      refine zr_idiv zC dX5_beginOf_38 (by omega) ?_
      refine lv_goto (tgt := 43) zC.1 zC.2.1 dX5_beginOf_39 (by decide) ?_
      refine zr_iadd zC dX5_beginOf_43 ?_
      exact zr_iret zC zK hG dX5_beginOf_44 (by unfold begY lyb shL; rw [if_neg (show ¬ σ 20 0 20 < 1 by omega)]; (repeat' split) <;> omega) rfl
  · refine zr_bipush zC dX5_beginOf_8 (by decide +kernel) ?_
    refine lv_iload_n zC.1 zC.2.1 dX5_beginOf_10 rfl (lv_at hl 1 rfl) ?_
    refine zr_imul zC dX5_beginOf_11 ?_
    refine lv_goto (tgt := 44) zC.1 zC.2.1 dX5_beginOf_12 (by decide) ?_
    exact zr_iret zC zK hG dX5_beginOf_44 (by unfold begY lyb shL; rw [if_neg (show ¬ σ 20 0 20 < 1 by omega)]; (repeat' split) <;> omega) rfl

set_option maxHeartbeats 4000000 in
set_option maxRecDepth 100000 in
theorem c_X5_countOfDay {Γ : Gm} {zl : Launch} {A : Nat → Prop} {σ : Mm} {d : Int} (hm : CalM σ) (hd : -1000000 ≤ d ∧ d ≤ 1000000) : Fn Γ zl A yX5_countOfDay cX5_countOfDay 3 (some .int) 1 20 [.ref (aM Γ), .int (zI d)] σ (some (.int (zI (cnt (σ 20 0 19) (σ 20 0 21) (σ 20 0 22) d)))) σ := by
  refine Fn_of (by decide) (Nat.le_of_ble_eq_true rfl) ?_
  intro zp ze zs zm args below meth zc zQ H locs ls zC zK hG hl
  have hl : lv_has ls 3 [(0, .ref (aM Γ)), (1, .int (zI d))] := hl
  obtain ⟨hk, hlp, hod, hgp⟩ := id hm
  refine lv_aload_n zC.1 zC.2.1 dX5_countOfDay_0 rfl (lv_at hl 0 rfl) ?_
  refine zr_callV zC hG (c_X5_cuts (σ := σ) (by first | assumption | omega)) mt_X5_cuts wl_X5_148 pM rfl rfl ⟨by decide, by decide⟩ rfl hl.1 rfl (Nat.le_of_ble_eq_true rfl) dX5_countOfDay_1 ⟨Nat.zero_le _, Nat.zero_le _⟩ (fun H locs hG => ?_)
  refine W.eq (g2 := F0 zm 4 ls [.int (zI (zB (ctP (σ 20 0 19))))]) rfl ?_
  refine zr_ifeqB (tgt := 22) zC dX5_countOfDay_4 (by decide) (fun c4 => ?_) (fun c4 => ?_)
  · refine zr_iconst zC dX5_countOfDay_22 ?_
    refine lv_istore_n (lv' := [(2, .int (zI 0)), (0, .ref (aM Γ)), (1, .int (zI d))]) zC.1 zC.2.1 dX5_countOfDay_23 rfl hl (by decide) rfl (fun ls hl => ?_)
    refine lv_iload_n zC.1 zC.2.1 dX5_countOfDay_24 rfl (lv_at hl 2 rfl) ?_
    refine lv_iload_n zC.1 zC.2.1 dX5_countOfDay_25 rfl (lv_at hl 0 rfl) ?_
    refine zr_iadd zC dX5_countOfDay_26 ?_
    refine lv_aload_n zC.1 zC.2.1 dX5_countOfDay_27 rfl (lv_at hl 1 rfl) ?_
    refine gf_M_kind (v := σ 20 0 19) zC hG wl_X5_125 rfl dX5_countOfDay_28 ?_
    refine zr_iconst zC dX5_countOfDay_31 ?_
    refine zr_icmp_ne (tgt := 54) zC dX5_countOfDay_32 (by decide) (by omega) (fun c32 => ?_) (fun c32 => ?_)
    · refine zr_iconst zC dX5_countOfDay_54 ?_
      refine zr_iadd zC dX5_countOfDay_55 ?_
      exact zr_iret zC zK hG dX5_countOfDay_56 (by rw [cnt_m]; (repeat' split) <;> omega) rfl
    · refine lv_iload_n zC.1 zC.2.1 dX5_countOfDay_35 rfl (lv_at hl 2 rfl) ?_
      refine lv_aload_n zC.1 zC.2.1 dX5_countOfDay_36 rfl (lv_at hl 1 rfl) ?_
      refine gf_M_order (v := σ 20 0 21) zC hG wl_X5_131 rfl dX5_countOfDay_37 ?_
      refine zr_sipush zC dX5_countOfDay_40 (by decide +kernel) ?_
      refine zr_iadd zC dX5_countOfDay_43 ?_
      refine zr_icmp_lt (tgt := 54) zC dX5_countOfDay_44 (by decide) (by omega) (fun c44 => ?_) (fun c44 => ?_)
      · refine zr_iconst zC dX5_countOfDay_54 ?_
        refine zr_iadd zC dX5_countOfDay_55 ?_
        exact zr_iret zC zK hG dX5_countOfDay_56 (by rw [cnt_m]; (repeat' split) <;> omega) rfl
      · refine lv_aload_n zC.1 zC.2.1 dX5_countOfDay_47 rfl (lv_at hl 1 rfl) ?_
        refine gf_M_gap (v := σ 20 0 22) zC hG wl_X5_134 rfl dX5_countOfDay_48 ?_
        refine lv_goto (tgt := 55) zC.1 zC.2.1 dX5_countOfDay_51 (by decide) ?_
        refine zr_iadd zC dX5_countOfDay_55 ?_
        exact zr_iret zC zK hG dX5_countOfDay_56 (by rw [cnt_m]; (repeat' split) <;> omega) rfl
  · refine lv_iload_n zC.1 zC.2.1 dX5_countOfDay_7 rfl (lv_at hl 1 rfl) ?_
    refine lv_aload_n zC.1 zC.2.1 dX5_countOfDay_8 rfl (lv_at hl 0 rfl) ?_
    refine gf_M_order (v := σ 20 0 21) zC hG wl_X5_131 rfl dX5_countOfDay_9 ?_
    refine zr_icmp_lt (tgt := 22) zC dX5_countOfDay_12 (by decide) (by omega) (fun c12 => ?_) (fun c12 => ?_)
    · refine zr_iconst zC dX5_countOfDay_22 ?_
      refine lv_istore_n (lv' := [(2, .int (zI 0)), (0, .ref (aM Γ)), (1, .int (zI d))]) zC.1 zC.2.1 dX5_countOfDay_23 rfl hl (by decide) rfl (fun ls hl => ?_)
      refine lv_iload_n zC.1 zC.2.1 dX5_countOfDay_24 rfl (lv_at hl 2 rfl) ?_
      refine lv_iload_n zC.1 zC.2.1 dX5_countOfDay_25 rfl (lv_at hl 0 rfl) ?_
      refine zr_iadd zC dX5_countOfDay_26 ?_
      refine lv_aload_n zC.1 zC.2.1 dX5_countOfDay_27 rfl (lv_at hl 1 rfl) ?_
      refine gf_M_kind (v := σ 20 0 19) zC hG wl_X5_125 rfl dX5_countOfDay_28 ?_
      refine zr_iconst zC dX5_countOfDay_31 ?_
      refine zr_icmp_ne (tgt := 54) zC dX5_countOfDay_32 (by decide) (by omega) (fun c32 => ?_) (fun c32 => ?_)
      · refine zr_iconst zC dX5_countOfDay_54 ?_
        refine zr_iadd zC dX5_countOfDay_55 ?_
        exact zr_iret zC zK hG dX5_countOfDay_56 (by rw [cnt_m]; (repeat' split) <;> omega) rfl
      · refine lv_iload_n zC.1 zC.2.1 dX5_countOfDay_35 rfl (lv_at hl 2 rfl) ?_
        refine lv_aload_n zC.1 zC.2.1 dX5_countOfDay_36 rfl (lv_at hl 1 rfl) ?_
        refine gf_M_order (v := σ 20 0 21) zC hG wl_X5_131 rfl dX5_countOfDay_37 ?_
        refine zr_sipush zC dX5_countOfDay_40 (by decide +kernel) ?_
        refine zr_iadd zC dX5_countOfDay_43 ?_
        refine zr_icmp_lt (tgt := 54) zC dX5_countOfDay_44 (by decide) (by omega) (fun c44 => ?_) (fun c44 => ?_)
        · refine zr_iconst zC dX5_countOfDay_54 ?_
          refine zr_iadd zC dX5_countOfDay_55 ?_
          exact zr_iret zC zK hG dX5_countOfDay_56 (by rw [cnt_m]; (repeat' split) <;> omega) rfl
        · refine lv_aload_n zC.1 zC.2.1 dX5_countOfDay_47 rfl (lv_at hl 1 rfl) ?_
          refine gf_M_gap (v := σ 20 0 22) zC hG wl_X5_134 rfl dX5_countOfDay_48 ?_
          refine lv_goto (tgt := 55) zC.1 zC.2.1 dX5_countOfDay_51 (by decide) ?_
          refine zr_iadd zC dX5_countOfDay_55 ?_
          exact zr_iret zC zK hG dX5_countOfDay_56 (by rw [cnt_m]; (repeat' split) <;> omega) rfl
    · refine lv_aload_n zC.1 zC.2.1 dX5_countOfDay_15 rfl (lv_at hl 0 rfl) ?_
      refine gf_M_gap (v := σ 20 0 22) zC hG wl_X5_134 rfl dX5_countOfDay_16 ?_
      refine lv_goto (tgt := 23) zC.1 zC.2.1 dX5_countOfDay_19 (by decide) ?_
      refine lv_istore_n (lv' := [(2, .int (zI (σ 20 0 22))), (0, .ref (aM Γ)), (1, .int (zI d))]) zC.1 zC.2.1 dX5_countOfDay_23 rfl hl (by decide) rfl (fun ls hl => ?_)
      refine lv_iload_n zC.1 zC.2.1 dX5_countOfDay_24 rfl (lv_at hl 2 rfl) ?_
      refine lv_iload_n zC.1 zC.2.1 dX5_countOfDay_25 rfl (lv_at hl 0 rfl) ?_
      refine zr_iadd zC dX5_countOfDay_26 ?_
      refine lv_aload_n zC.1 zC.2.1 dX5_countOfDay_27 rfl (lv_at hl 1 rfl) ?_
      refine gf_M_kind (v := σ 20 0 19) zC hG wl_X5_125 rfl dX5_countOfDay_28 ?_
      refine zr_iconst zC dX5_countOfDay_31 ?_
      refine zr_icmp_ne (tgt := 54) zC dX5_countOfDay_32 (by decide) (by omega) (fun c32 => ?_) (fun c32 => ?_)
      · refine zr_iconst zC dX5_countOfDay_54 ?_
        refine zr_iadd zC dX5_countOfDay_55 ?_
        exact zr_iret zC zK hG dX5_countOfDay_56 (by rw [cnt_m]; (repeat' split) <;> omega) rfl
      · refine lv_iload_n zC.1 zC.2.1 dX5_countOfDay_35 rfl (lv_at hl 2 rfl) ?_
        refine lv_aload_n zC.1 zC.2.1 dX5_countOfDay_36 rfl (lv_at hl 1 rfl) ?_
        refine gf_M_order (v := σ 20 0 21) zC hG wl_X5_131 rfl dX5_countOfDay_37 ?_
        refine zr_sipush zC dX5_countOfDay_40 (by decide +kernel) ?_
        refine zr_iadd zC dX5_countOfDay_43 ?_
        refine zr_icmp_lt (tgt := 54) zC dX5_countOfDay_44 (by decide) (by omega) (fun c44 => ?_) (fun c44 => ?_)
        · refine zr_iconst zC dX5_countOfDay_54 ?_
          refine zr_iadd zC dX5_countOfDay_55 ?_
          exact zr_iret zC zK hG dX5_countOfDay_56 (by rw [cnt_m]; (repeat' split) <;> omega) rfl
        · refine lv_aload_n zC.1 zC.2.1 dX5_countOfDay_47 rfl (lv_at hl 1 rfl) ?_
          refine gf_M_gap (v := σ 20 0 22) zC hG wl_X5_134 rfl dX5_countOfDay_48 ?_
          refine lv_goto (tgt := 55) zC.1 zC.2.1 dX5_countOfDay_51 (by decide) ?_
          refine zr_iadd zC dX5_countOfDay_55 ?_
          exact zr_iret zC zK hG dX5_countOfDay_56 (by rw [cnt_m]; (repeat' split) <;> omega) rfl

set_option maxHeartbeats 4000000 in
set_option maxRecDepth 100000 in
theorem c_X5_dateOfCount {Γ : Gm} {zl : Launch} {A : Nat → Prop} {σ : Mm} {n : Int} (hm : CalM σ) (hn : 0 ≤ n ∧ n ≤ 100000) : Fn Γ zl A yX5_dateOfCount cX5_dateOfCount 3 (some .int) 2 41 [.ref (aM Γ), .int (zI n)] σ (some (.int (zI (dtC (σ 20 0 19) (σ 20 0 20) n)))) σ := by
  refine Fn_of (by decide) (Nat.le_of_ble_eq_true rfl) ?_
  intro zp ze zs zm args below meth zc zQ H locs ls zC zK hG hl
  have hl : lv_has ls 3 [(0, .ref (aM Γ)), (1, .int (zI n))] := hl
  obtain ⟨hk, hlp, hod, hgp⟩ := id hm
  have b0 := begY_r (k := σ 20 0 19) (lp := σ 20 0 20) (y := n / 102) (by omega) (by omega)
  refine lv_iload_n zC.1 zC.2.1 dX5_dateOfCount_0 rfl (lv_at hl 1 rfl) ?_
  refine zr_bipush zC dX5_dateOfCount_1 (by decide +kernel) ?_
  refine zr_idiv zC dX5_dateOfCount_3 (by omega) ?_
  refine lv_istore_n (lv' := [(2, .int (zI (n / 102))), (0, .ref (aM Γ)), (1, .int (zI n))]) zC.1 zC.2.1 dX5_dateOfCount_4 rfl hl (by decide) rfl (fun ls hl => ?_)
  have loop5 : ∀ (nf : Nat) (y : Int) (H : Heap) (locs : List Loc) (ls : Array Slot), (0 ≤ y ∧ y ≤ 1100) → (begY (σ 20 0 19) (σ 20 0 20) y ≤ n) → (1100 - y < (nf : Int)) → GM Γ A σ zs H locs → lv_has ls 3 [(0, .ref (aM Γ)), (1, .int (zI n)), (2, .int (zI y))] → W zp zl ze { frames := 2, cells := 0, slots := 0, locals := 41 } zs zm args below meth zc H locs 0 0 zQ (F0 zm 5 ls []) := by
    intro nf
    induction nf with
    | zero =>
      intro y H locs ls hy hb hm5 _ _
      exact absurd hm5 (by omega)
    | succ nf ih5 =>
      intro y H locs ls hy hb hm5 hG hl
      have b5 := begY_r (k := σ 20 0 19) (lp := σ 20 0 20) (y := y) (by omega) (by omega)
      have b5b := begY_r (k := σ 20 0 19) (lp := σ 20 0 20) (y := y + 1) (by omega) (by omega)
      refine lv_aload_n zC.1 zC.2.1 dX5_dateOfCount_5 rfl (lv_at hl 0 rfl) ?_
      refine lv_iload_n zC.1 zC.2.1 dX5_dateOfCount_6 rfl (lv_at hl 2 rfl) ?_
      refine zr_iconst zC dX5_dateOfCount_7 ?_
      refine zr_iadd zC dX5_dateOfCount_8 ?_
      refine zr_callV zC hG (c_X5_beginOf (σ := σ) (y := y + 1) (by first | assumption | omega) (by first | assumption | omega)) mt_X5_beginOf wl_X5_151 pM rfl rfl ⟨by decide, by decide⟩ rfl hl.1 rfl (Nat.le_of_ble_eq_true rfl) dX5_dateOfCount_9 ⟨Nat.zero_le _, Nat.zero_le _⟩ (fun H locs hG => ?_)
      refine W.eq (g2 := F0 zm 12 ls [.int (zI (begY (σ 20 0 19) (σ 20 0 20) (y + 1)))]) rfl ?_
      have b9_0 := begY_r (k := (σ 20 0 19)) (lp := (σ 20 0 20)) (y := (y + 1)) (by omega) (by omega)
      refine lv_iload_n zC.1 zC.2.1 dX5_dateOfCount_12 rfl (lv_at hl 1 rfl) ?_
      refine zr_icmp_gt (tgt := 22) zC dX5_dateOfCount_13 (by decide) (by omega) (fun c13 => ?_) (fun c13 => ?_)
      · refine zr_sipush zC dX5_dateOfCount_22 (by decide +kernel) ?_
        refine lv_iload_n zC.1 zC.2.1 dX5_dateOfCount_25 rfl (lv_at hl 2 rfl) ?_
        refine zr_imul zC dX5_dateOfCount_26 ?_
        refine lv_iload_n zC.1 zC.2.1 dX5_dateOfCount_27 rfl (lv_at hl 1 rfl) ?_
        refine zr_iadd zC dX5_dateOfCount_28 ?_
        refine lv_aload_n zC.1 zC.2.1 dX5_dateOfCount_29 rfl (lv_at hl 0 rfl) ?_
        refine lv_iload_n zC.1 zC.2.1 dX5_dateOfCount_30 rfl (lv_at hl 2 rfl) ?_
        refine zr_callV zC hG (c_X5_beginOf (σ := σ) (y := y) (by first | assumption | omega) (by first | assumption | omega)) mt_X5_beginOf wl_X5_151 pM rfl rfl ⟨by decide, by decide⟩ rfl hl.1 rfl (Nat.le_of_ble_eq_true rfl) dX5_dateOfCount_31 ⟨Nat.zero_le _, Nat.zero_le _⟩ (fun H locs hG => ?_)
        refine W.eq (g2 := F0 zm 34 ls [.int (zI (begY (σ 20 0 19) (σ 20 0 20) y)), .int (zI ((1000 * y) + n))]) rfl ?_
        have b31_0 := begY_r (k := (σ 20 0 19)) (lp := (σ 20 0 20)) (y := y) (by omega) (by omega)
        refine zr_isub zC dX5_dateOfCount_34 ?_
        exact zr_iret zC zK hG dX5_dateOfCount_35 (by have e1 := begY_s (k := σ 20 0 19) (lp := σ 20 0 20) (y := y) (by omega); have e2 := dtC_of (k := σ 20 0 19) (lp := σ 20 0 20) (y := y) (u := n - begY (σ 20 0 19) (σ 20 0 20) y) (by omega) hy.1 (by omega); rw [show begY (σ 20 0 19) (σ 20 0 20) y + (n - begY (σ 20 0 19) (σ 20 0 20) y) = n by omega] at e2; rw [e2]; omega) rfl
      · refine zr_iinc (lv' := [(2, .int (zI (y + 1))), (0, .ref (aM Γ)), (1, .int (zI n))]) zC dX5_dateOfCount_16 hl (k := 2) rfl (by decide) rfl (fun ls hl => ?_)
        refine lv_goto (tgt := 5) zC.1 zC.2.1 dX5_dateOfCount_19 (by decide) ?_
        exact ih5 (y + 1) H locs ls (by first | assumption | omega) (by first | assumption | omega) (by omega) hG (lv_sub hl [1, 2, 0] rfl)
  exact loop5 ((1100 - (n / 102) : Int).toNat + 1) (n / 102) H locs ls (by first | assumption | omega) (by first | assumption | omega) (by omega) hG (lv_sub hl [1, 2, 0] rfl)

set_option maxHeartbeats 4000000 in
set_option maxRecDepth 100000 in
theorem c_X5_dateOfDay {Γ : Gm} {zl : Launch} {A : Nat → Prop} {σ : Mm} {d : Int} (hm : CalM σ) (hd : 0 ≤ d ∧ d ≤ 30000) : Fn Γ zl A yX5_dateOfDay cX5_dateOfDay 2 (some .int) 3 63 [.ref (aM Γ), .int (zI d)] σ (some (.int (zI (dtD (σ 20 0 19) (σ 20 0 20) (σ 20 0 21) (σ 20 0 22) d)))) σ := by
  refine Fn_of (by decide) (Nat.le_of_ble_eq_true rfl) ?_
  intro zp ze zs zm args below meth zc zQ H locs ls zC zK hG hl
  have hl : lv_has ls 2 [(0, .ref (aM Γ)), (1, .int (zI d))] := hl
  obtain ⟨hk, hlp, hod, hgp⟩ := id hm
  refine lv_aload_n zC.1 zC.2.1 dX5_dateOfDay_0 rfl (lv_at hl 0 rfl) ?_
  refine lv_aload_n zC.1 zC.2.1 dX5_dateOfDay_1 rfl (lv_at hl 0 rfl) ?_
  refine lv_iload_n zC.1 zC.2.1 dX5_dateOfDay_2 rfl (lv_at hl 1 rfl) ?_
  refine zr_callV zC hG (c_X5_countOfDay (σ := σ) (d := d) (by first | assumption | omega) (by first | assumption | omega)) mt_X5_countOfDay wl_X5_145 pM rfl rfl ⟨by decide, by decide⟩ rfl hl.1 rfl (Nat.le_of_ble_eq_true rfl) dX5_dateOfDay_3 ⟨Nat.zero_le _, Nat.zero_le _⟩ (fun H locs hG => ?_)
  refine W.eq (g2 := F0 zm 6 ls [.int (zI (cnt (σ 20 0 19) (σ 20 0 21) (σ 20 0 22) d)), .ref (aM Γ)]) rfl ?_
  have b3_0 := cnt_r (k := (σ 20 0 19)) (o := (σ 20 0 21)) (g := (σ 20 0 22)) (d := d) (by omega)
  refine zr_callV zC hG (c_X5_dateOfCount (σ := σ) (n := cnt (σ 20 0 19) (σ 20 0 21) (σ 20 0 22) d) (by first | assumption | omega) (by first | assumption | omega)) mt_X5_dateOfCount wl_X5_154 pM rfl rfl ⟨by decide, by decide⟩ rfl hl.1 rfl (Nat.le_of_ble_eq_true rfl) dX5_dateOfDay_6 ⟨Nat.zero_le _, Nat.zero_le _⟩ (fun H locs hG => ?_)
  refine W.eq (g2 := F0 zm 9 ls [.int (zI (dtC (σ 20 0 19) (σ 20 0 20) (cnt (σ 20 0 19) (σ 20 0 21) (σ 20 0 22) d)))]) rfl ?_
  have b6_0 := dtC_r (k := (σ 20 0 19)) (lp := (σ 20 0 20)) (n := (cnt (σ 20 0 19) (σ 20 0 21) (σ 20 0 22) d)) (by omega) (by omega)
  exact zr_iret zC zK hG dX5_dateOfDay_9 rfl rfl

set_option maxHeartbeats 4000000 in
set_option maxRecDepth 100000 in
theorem c_X5_dayOfDate {Γ : Gm} {zl : Launch} {A : Nat → Prop} {σ : Mm} {t : Int} (hm : CalM σ) (ht : 0 ≤ t ∧ t < 2147483648) : Fn Γ zl A yX5_dayOfDate cX5_dayOfDate 6 (some .int) 2 41 [.ref (aM Γ), .int (zI t)] σ (some (.int (zI (dyM (dyD (σ 20 0 19) (σ 20 0 20) (σ 20 0 21) (σ 20 0 22) t))))) σ := by
  refine Fn_of (by decide) (Nat.le_of_ble_eq_true rfl) ?_
  intro zp ze zs zm args below meth zc zQ H locs ls zC zK hG hl
  have hl : lv_has ls 6 [(0, .ref (aM Γ)), (1, .int (zI t))] := hl
  obtain ⟨hk, hlp, hod, hgp⟩ := id hm
  have b0 := begY_r (k := σ 20 0 19) (lp := σ 20 0 20) (y := t / 1000) (by omega) (by omega)
  refine lv_iload_n zC.1 zC.2.1 dX5_dayOfDate_0 rfl (lv_at hl 1 rfl) ?_
  refine zr_sipush zC dX5_dayOfDate_1 (by decide +kernel) ?_
  refine zr_idiv zC dX5_dayOfDate_4 (by omega) ?_
  refine lv_istore_n (lv' := [(2, .int (zI (t / 1000))), (0, .ref (aM Γ)), (1, .int (zI t))]) zC.1 zC.2.1 dX5_dayOfDate_5 rfl hl (by decide) rfl (fun ls hl => ?_)
  refine lv_iload_n zC.1 zC.2.1 dX5_dayOfDate_6 rfl (lv_at hl 2 rfl) ?_
  refine zr_sipush zC dX5_dayOfDate_7 (by decide +kernel) ?_
  refine zr_irem zC dX5_dayOfDate_10 (by omega) ?_
  refine lv_istore_n (lv' := [(3, .int (zI (t % 1000))), (2, .int (zI (t / 1000))), (0, .ref (aM Γ)), (1, .int (zI t))]) zC.1 zC.2.1 dX5_dayOfDate_11 rfl hl (by decide) rfl (fun ls hl => ?_)
  refine lv_iload_n zC.1 zC.2.1 dX5_dayOfDate_12 rfl (lv_at hl 3 rfl) ?_
  refine zr_if_lt (tgt := 32) zC dX5_dayOfDate_13 (by decide) (by omega) (fun c13 => ?_) (fun c13 => ?_)
  · refine zr_bipush zC dX5_dayOfDate_32 (by decide +kernel) ?_
    exact zr_iret zC zK hG dX5_dayOfDate_34 (by unfold dyM dyD; rw [if_neg (show ¬ t < 0 by omega), dyC_m (by omega)]; (repeat' split) <;> omega) rfl
  · refine lv_iload_n zC.1 zC.2.1 dX5_dayOfDate_16 rfl (lv_at hl 1 rfl) ?_
    refine zr_sipush zC dX5_dayOfDate_17 (by decide +kernel) ?_
    refine zr_icmp_gt (tgt := 32) zC dX5_dayOfDate_20 (by decide) (by omega) (fun c20 => ?_) (fun c20 => ?_)
    · refine zr_bipush zC dX5_dayOfDate_32 (by decide +kernel) ?_
      exact zr_iret zC zK hG dX5_dayOfDate_34 (by unfold dyM dyD; rw [if_neg (show ¬ t < 0 by omega), dyC_m (by omega)]; (repeat' split) <;> omega) rfl
    · refine lv_iload_n zC.1 zC.2.1 dX5_dayOfDate_23 rfl (lv_at hl 0 rfl) ?_
      refine lv_aload_n zC.1 zC.2.1 dX5_dayOfDate_24 rfl (lv_at hl 2 rfl) ?_
      refine lv_iload_n zC.1 zC.2.1 dX5_dayOfDate_25 rfl (lv_at hl 1 rfl) ?_
      refine zr_callV zC hG (c_X5_yearDays (σ := σ) (y := t / 1000) (by first | assumption | omega) (by first | assumption | omega)) mt_X5_yearDays wl_X5_160 pM rfl rfl ⟨by decide, by decide⟩ rfl hl.1 rfl (Nat.le_of_ble_eq_true rfl) dX5_dayOfDate_26 ⟨Nat.zero_le _, Nat.zero_le _⟩ (fun H locs hG => ?_)
      refine W.eq (g2 := F0 zm 29 ls [.int (zI (lenY (σ 20 0 19) (σ 20 0 20) (t / 1000))), .int (zI (t % 1000))]) rfl ?_
      have b26_0 := lenY_r (σ 20 0 19) (σ 20 0 20) (t / 1000)
      refine zr_icmp_lt (tgt := 35) zC dX5_dayOfDate_29 (by decide) (by omega) (fun c29 => ?_) (fun c29 => ?_)
      · refine lv_aload_n zC.1 zC.2.1 dX5_dayOfDate_35 rfl (lv_at hl 2 rfl) ?_
        refine lv_iload_n zC.1 zC.2.1 dX5_dayOfDate_36 rfl (lv_at hl 1 rfl) ?_
        refine zr_callV zC hG (c_X5_beginOf (σ := σ) (y := t / 1000) (by first | assumption | omega) (by first | assumption | omega)) mt_X5_beginOf wl_X5_151 pM rfl rfl ⟨by decide, by decide⟩ rfl hl.1 rfl (Nat.le_of_ble_eq_true rfl) dX5_dayOfDate_37 ⟨Nat.zero_le _, Nat.zero_le _⟩ (fun H locs hG => ?_)
        refine W.eq (g2 := F0 zm 40 ls [.int (zI (begY (σ 20 0 19) (σ 20 0 20) (t / 1000)))]) rfl ?_
        have b37_0 := begY_r (k := (σ 20 0 19)) (lp := (σ 20 0 20)) (y := (t / 1000)) (by omega) (by omega)
        refine lv_iload_n zC.1 zC.2.1 dX5_dayOfDate_40 rfl (lv_at hl 0 rfl) ?_
        refine zr_iadd zC dX5_dayOfDate_41 ?_
        refine lv_istore (lv' := [(4, .int (zI ((begY (σ 20 0 19) (σ 20 0 20) (t / 1000)) + (t % 1000)))), (3, .int (zI (t % 1000))), (2, .int (zI (t / 1000))), (0, .ref (aM Γ)), (1, .int (zI t))]) zC.1 zC.2.1 dX5_dayOfDate_42 hl (by decide) rfl (fun ls hl => ?_)
        refine lv_iload zC.1 zC.2.1 dX5_dayOfDate_44 (lv_at hl 0 rfl) ?_
        refine lv_istore (lv' := [(5, .int (zI ((begY (σ 20 0 19) (σ 20 0 20) (t / 1000)) + (t % 1000)))), (4, .int (zI ((begY (σ 20 0 19) (σ 20 0 20) (t / 1000)) + (t % 1000)))), (3, .int (zI (t % 1000))), (2, .int (zI (t / 1000))), (0, .ref (aM Γ)), (1, .int (zI t))]) zC.1 zC.2.1 dX5_dayOfDate_46 hl (by decide) rfl (fun ls hl => ?_)
        refine lv_aload_n zC.1 zC.2.1 dX5_dayOfDate_48 rfl (lv_at hl 4 rfl) ?_
        refine zr_callV zC hG (c_X5_cuts (σ := σ) (by first | assumption | omega)) mt_X5_cuts wl_X5_148 pM rfl rfl ⟨by decide, by decide⟩ rfl hl.1 rfl (Nat.le_of_ble_eq_true rfl) dX5_dayOfDate_49 ⟨Nat.zero_le _, Nat.zero_le _⟩ (fun H locs hG => ?_)
        refine W.eq (g2 := F0 zm 52 ls [.int (zI (zB (ctP (σ 20 0 19))))]) rfl ?_
        refine zr_ifeqB (tgt := 131) zC dX5_dayOfDate_52 (by decide) (fun c52 => ?_) (fun c52 => ?_)
        · refine lv_iload zC.1 zC.2.1 dX5_dayOfDate_131 (lv_at hl 0 rfl) ?_
          refine zr_sipush zC dX5_dayOfDate_133 (by decide +kernel) ?_
          refine zr_icmp_gt (tgt := 144) zC dX5_dayOfDate_136 (by decide) (by omega) (fun c136 => ?_) (fun c136 => ?_)
          · refine zr_bipush zC dX5_dayOfDate_144 (by decide +kernel) ?_
            exact zr_iret zC zK hG dX5_dayOfDate_146 (by unfold dyM dyD; rw [if_neg (show ¬ t < 0 by omega), dyC_m (by omega)]; (repeat' split) <;> omega) rfl
          · refine lv_iload zC.1 zC.2.1 dX5_dayOfDate_139 (lv_at hl 0 rfl) ?_
            refine lv_goto (tgt := 146) zC.1 zC.2.1 dX5_dayOfDate_141 (by decide) ?_
            exact zr_iret zC zK hG dX5_dayOfDate_146 (by unfold dyM dyD; rw [if_neg (show ¬ t < 0 by omega), dyC_m (by omega)]; (repeat' split) <;> omega) rfl
        · refine lv_iload zC.1 zC.2.1 dX5_dayOfDate_55 (lv_at hl 1 rfl) ?_
          refine lv_aload_n zC.1 zC.2.1 dX5_dayOfDate_57 rfl (lv_at hl 4 rfl) ?_
          refine gf_M_order (v := σ 20 0 21) zC hG wl_X5_131 rfl dX5_dayOfDate_58 ?_
          refine zr_icmp_lt (tgt := 131) zC dX5_dayOfDate_61 (by decide) (by omega) (fun c61 => ?_) (fun c61 => ?_)
          · refine lv_iload zC.1 zC.2.1 dX5_dayOfDate_131 (lv_at hl 0 rfl) ?_
            refine zr_sipush zC dX5_dayOfDate_133 (by decide +kernel) ?_
            refine zr_icmp_gt (tgt := 144) zC dX5_dayOfDate_136 (by decide) (by omega) (fun c136 => ?_) (fun c136 => ?_)
            · refine zr_bipush zC dX5_dayOfDate_144 (by decide +kernel) ?_
              exact zr_iret zC zK hG dX5_dayOfDate_146 (by unfold dyM dyD; rw [if_neg (show ¬ t < 0 by omega), dyC_m (by omega)]; (repeat' split) <;> omega) rfl
            · refine lv_iload zC.1 zC.2.1 dX5_dayOfDate_139 (lv_at hl 0 rfl) ?_
              refine lv_goto (tgt := 146) zC.1 zC.2.1 dX5_dayOfDate_141 (by decide) ?_
              exact zr_iret zC zK hG dX5_dayOfDate_146 (by unfold dyM dyD; rw [if_neg (show ¬ t < 0 by omega), dyC_m (by omega)]; (repeat' split) <;> omega) rfl
          · refine lv_iload zC.1 zC.2.1 dX5_dayOfDate_64 (lv_at hl 1 rfl) ?_
            refine lv_aload_n zC.1 zC.2.1 dX5_dayOfDate_66 rfl (lv_at hl 4 rfl) ?_
            refine gf_M_gap (v := σ 20 0 22) zC hG wl_X5_134 rfl dX5_dayOfDate_67 ?_
            refine zr_isub zC dX5_dayOfDate_70 ?_
            refine lv_istore (lv' := [(5, .int (zI (((begY (σ 20 0 19) (σ 20 0 20) (t / 1000)) + (t % 1000)) - (σ 20 0 22)))), (4, .int (zI ((begY (σ 20 0 19) (σ 20 0 20) (t / 1000)) + (t % 1000)))), (3, .int (zI (t % 1000))), (2, .int (zI (t / 1000))), (0, .ref (aM Γ)), (1, .int (zI t))]) zC.1 zC.2.1 dX5_dayOfDate_71 hl (by decide) rfl (fun ls hl => ?_)
            refine lv_iload zC.1 zC.2.1 dX5_dayOfDate_73 (lv_at hl 0 rfl) ?_
            refine lv_aload_n zC.1 zC.2.1 dX5_dayOfDate_75 rfl (lv_at hl 4 rfl) ?_
            refine gf_M_order (v := σ 20 0 21) zC hG wl_X5_131 rfl dX5_dayOfDate_76 ?_
            refine zr_icmp_ge (tgt := 85) zC dX5_dayOfDate_79 (by decide) (by omega) (fun c79 => ?_) (fun c79 => ?_)
            · refine lv_aload_n zC.1 zC.2.1 dX5_dayOfDate_85 rfl (lv_at hl 4 rfl) ?_
              refine gf_M_kind (v := σ 20 0 19) zC hG wl_X5_125 rfl dX5_dayOfDate_86 ?_
              refine zr_iconst zC dX5_dayOfDate_89 ?_
              refine zr_icmp_ne (tgt := 131) zC dX5_dayOfDate_90 (by decide) (by omega) (fun c90 => ?_) (fun c90 => ?_)
              · refine lv_iload zC.1 zC.2.1 dX5_dayOfDate_131 (lv_at hl 0 rfl) ?_
                refine zr_sipush zC dX5_dayOfDate_133 (by decide +kernel) ?_
                refine zr_icmp_gt (tgt := 144) zC dX5_dayOfDate_136 (by decide) (by omega) (fun c136 => ?_) (fun c136 => ?_)
                · refine zr_bipush zC dX5_dayOfDate_144 (by decide +kernel) ?_
                  exact zr_iret zC zK hG dX5_dayOfDate_146 (by unfold dyM dyD; rw [if_neg (show ¬ t < 0 by omega), dyC_m (by omega)]; (repeat' split) <;> omega) rfl
                · refine lv_iload zC.1 zC.2.1 dX5_dayOfDate_139 (lv_at hl 0 rfl) ?_
                  refine lv_goto (tgt := 146) zC.1 zC.2.1 dX5_dayOfDate_141 (by decide) ?_
                  exact zr_iret zC zK hG dX5_dayOfDate_146 (by unfold dyM dyD; rw [if_neg (show ¬ t < 0 by omega), dyC_m (by omega)]; (repeat' split) <;> omega) rfl
              · refine lv_iload zC.1 zC.2.1 dX5_dayOfDate_93 (lv_at hl 0 rfl) ?_
                refine lv_aload_n zC.1 zC.2.1 dX5_dayOfDate_95 rfl (lv_at hl 4 rfl) ?_
                refine gf_M_order (v := σ 20 0 21) zC hG wl_X5_131 rfl dX5_dayOfDate_96 ?_
                refine zr_sipush zC dX5_dayOfDate_99 (by decide +kernel) ?_
                refine zr_iadd zC dX5_dayOfDate_102 ?_
                refine zr_icmp_lt (tgt := 131) zC dX5_dayOfDate_103 (by decide) (by omega) (fun c103 => ?_) (fun c103 => ?_)
                · refine lv_iload zC.1 zC.2.1 dX5_dayOfDate_131 (lv_at hl 0 rfl) ?_
                  refine zr_sipush zC dX5_dayOfDate_133 (by decide +kernel) ?_
                  refine zr_icmp_gt (tgt := 144) zC dX5_dayOfDate_136 (by decide) (by omega) (fun c136 => ?_) (fun c136 => ?_)
                  · refine zr_bipush zC dX5_dayOfDate_144 (by decide +kernel) ?_
                    exact zr_iret zC zK hG dX5_dayOfDate_146 (by unfold dyM dyD; rw [if_neg (show ¬ t < 0 by omega), dyC_m (by omega)]; (repeat' split) <;> omega) rfl
                  · refine lv_iload zC.1 zC.2.1 dX5_dayOfDate_139 (lv_at hl 0 rfl) ?_
                    refine lv_goto (tgt := 146) zC.1 zC.2.1 dX5_dayOfDate_141 (by decide) ?_
                    exact zr_iret zC zK hG dX5_dayOfDate_146 (by unfold dyM dyD; rw [if_neg (show ¬ t < 0 by omega), dyC_m (by omega)]; (repeat' split) <;> omega) rfl
                · refine lv_iload zC.1 zC.2.1 dX5_dayOfDate_106 (lv_at hl 0 rfl) ?_
                  refine lv_aload_n zC.1 zC.2.1 dX5_dayOfDate_108 rfl (lv_at hl 4 rfl) ?_
                  refine gf_M_gap (v := σ 20 0 22) zC hG wl_X5_134 rfl dX5_dayOfDate_109 ?_
                  refine zr_isub zC dX5_dayOfDate_112 ?_
                  refine lv_istore (lv' := [(5, .int (zI ((((begY (σ 20 0 19) (σ 20 0 20) (t / 1000)) + (t % 1000)) - (σ 20 0 22)) - (σ 20 0 22)))), (4, .int (zI ((begY (σ 20 0 19) (σ 20 0 20) (t / 1000)) + (t % 1000)))), (3, .int (zI (t % 1000))), (2, .int (zI (t / 1000))), (0, .ref (aM Γ)), (1, .int (zI t))]) zC.1 zC.2.1 dX5_dayOfDate_113 hl (by decide) rfl (fun ls hl => ?_)
                  refine lv_iload zC.1 zC.2.1 dX5_dayOfDate_115 (lv_at hl 0 rfl) ?_
                  refine lv_aload_n zC.1 zC.2.1 dX5_dayOfDate_117 rfl (lv_at hl 4 rfl) ?_
                  refine gf_M_order (v := σ 20 0 21) zC hG wl_X5_131 rfl dX5_dayOfDate_118 ?_
                  refine zr_sipush zC dX5_dayOfDate_121 (by decide +kernel) ?_
                  refine zr_iadd zC dX5_dayOfDate_124 ?_
                  refine zr_icmp_ge (tgt := 131) zC dX5_dayOfDate_125 (by decide) (by omega) (fun c125 => ?_) (fun c125 => ?_)
                  · refine lv_iload zC.1 zC.2.1 dX5_dayOfDate_131 (lv_at hl 0 rfl) ?_
                    refine zr_sipush zC dX5_dayOfDate_133 (by decide +kernel) ?_
                    refine zr_icmp_gt (tgt := 144) zC dX5_dayOfDate_136 (by decide) (by omega) (fun c136 => ?_) (fun c136 => ?_)
                    · refine zr_bipush zC dX5_dayOfDate_144 (by decide +kernel) ?_
                      exact zr_iret zC zK hG dX5_dayOfDate_146 (by unfold dyM dyD; rw [if_neg (show ¬ t < 0 by omega), dyC_m (by omega)]; (repeat' split) <;> omega) rfl
                    · refine lv_iload zC.1 zC.2.1 dX5_dayOfDate_139 (lv_at hl 0 rfl) ?_
                      refine lv_goto (tgt := 146) zC.1 zC.2.1 dX5_dayOfDate_141 (by decide) ?_
                      exact zr_iret zC zK hG dX5_dayOfDate_146 (by unfold dyM dyD; rw [if_neg (show ¬ t < 0 by omega), dyC_m (by omega)]; (repeat' split) <;> omega) rfl
                  · refine zr_bipush zC dX5_dayOfDate_128 (by decide +kernel) ?_
                    exact zr_iret zC zK hG dX5_dayOfDate_130 (by unfold dyM dyD; rw [if_neg (show ¬ t < 0 by omega), dyC_m (by omega)]; (repeat' split) <;> omega) rfl
            · refine zr_bipush zC dX5_dayOfDate_82 (by decide +kernel) ?_
              exact zr_iret zC zK hG dX5_dayOfDate_84 (by unfold dyM dyD; rw [if_neg (show ¬ t < 0 by omega), dyC_m (by omega)]; (repeat' split) <;> omega) rfl
      · refine zr_bipush zC dX5_dayOfDate_32 (by decide +kernel) ?_
        exact zr_iret zC zK hG dX5_dayOfDate_34 (by unfold dyM dyD; rw [if_neg (show ¬ t < 0 by omega), dyC_m (by omega)]; (repeat' split) <;> omega) rfl

set_option maxHeartbeats 4000000 in
set_option maxRecDepth 100000 in
theorem c_X5_part {Γ : Gm} {zl : Launch} {A : Nat → Prop} {σ : Mm} {a b : Int} (ha : 0 ≤ a ∧ a ≤ 100000000000) (hb : 0 < b ∧ b ≤ 1000000) : Fn Γ zl A yX5_part cX5_part 11 (some .int) 0 0 [.ref (aM Γ), .long (zL a), .long (zL b)] σ (some (.int (zI 1))) (up (up σ 20 0 3 (Int.tdiv a (gdI a b))) 20 0 4 (Int.tdiv b (gdI a b))) := by
  refine Fn_of (by decide) (Nat.le_of_ble_eq_true rfl) ?_
  intro zp ze zs zm args below meth zc zQ H locs ls zC zK hG hl
  have hl : lv_has ls 11 [(0, .ref (aM Γ)), (1, .long (zL a)), (3, .long (zL b))] := hl
  refine lv_lload_n zC.1 zC.2.1 dX5_part_0 rfl (lv_at hl 1 rfl) ?_
  refine lv_lstore (lv' := [(5, .long (zL a)), (0, .ref (aM Γ)), (1, .long (zL a)), (3, .long (zL b))]) zC.1 zC.2.1 dX5_part_1 hl (by decide) rfl (fun ls hl => ?_)
  refine lv_lload_n zC.1 zC.2.1 dX5_part_3 rfl (lv_at hl 3 rfl) ?_
  refine lv_lstore (lv' := [(7, .long (zL b)), (5, .long (zL a)), (0, .ref (aM Γ)), (1, .long (zL a)), (3, .long (zL b))]) zC.1 zC.2.1 dX5_part_4 hl (by decide) rfl (fun ls hl => ?_)
  have loop6 : ∀ (nf : Nat) (x y : Int) (H : Heap) (locs : List Loc) (ls : Array Slot), ((0 ≤ x ∧ x ≤ 100000000000) ∧ (0 ≤ y ∧ y ≤ 100000000000) ∧ (0 < x ∨ 0 < y)) → (Int.gcd x y = Int.gcd a b) → (y < (nf : Int)) → GM Γ A σ zs H locs → lv_has ls 11 [(0, .ref (aM Γ)), (1, .long (zL a)), (3, .long (zL b)), (5, .long (zL x)), (7, .long (zL y))] → W zp zl ze { frames := 0, cells := 0, slots := 0, locals := 0 } zs zm args below meth zc H locs 0 0 zQ (F0 zm 6 ls []) := by
    intro nf
    induction nf with
    | zero =>
      intro x y H locs ls hx hg hm6 _ _
      exact absurd hm6 (by omega)
    | succ nf ih6 =>
      intro x y H locs ls hx hg hm6 hG hl
      refine lv_lload zC.1 zC.2.1 dX5_part_6 (lv_at hl 4 rfl) ?_
      refine zr_lconst (z := 0) zC dX5_part_8 (by decide +kernel) ?_
      refine zr_lcmp zC dX5_part_9 (by omega) ?_
      refine zr_if_eq (tgt := 31) zC dX5_part_10 (by decide) (by omega) (fun c10 => ?_) (fun c10 => ?_)
      · have y0 : y = 0 := by by_cases w : y = 0; exact w; exfalso; revert c10; rw [if_neg (by omega), if_neg w]; decide
        have ex : x = gdI a b := by unfold gdI; rw [← hg, y0, gdI_0 (by omega)]
        refine lv_aload_n zC.1 zC.2.1 dX5_part_31 rfl (lv_at hl 0 rfl) ?_
        refine lv_lload_n zC.1 zC.2.1 dX5_part_32 rfl (lv_at hl 1 rfl) ?_
        refine lv_lload zC.1 zC.2.1 dX5_part_33 (lv_at hl 3 rfl) ?_
        refine zr_ldiv zC dX5_part_35 (by omega) ?_
        refine pf_M_upper zC hG wl_X5_57 dX5_part_36 (fun H locs hG => ?_)
        refine lv_aload_n zC.1 zC.2.1 dX5_part_39 rfl (lv_at hl 0 rfl) ?_
        refine lv_lload_n zC.1 zC.2.1 dX5_part_40 rfl (lv_at hl 2 rfl) ?_
        refine lv_lload zC.1 zC.2.1 dX5_part_41 (lv_at hl 3 rfl) ?_
        refine zr_ldiv zC dX5_part_43 (by omega) ?_
        refine pf_M_lower zC hG wl_X5_13 dX5_part_44 (fun H locs hG => ?_)
        refine zr_iconst zC dX5_part_47 ?_
        exact zr_iret zC zK hG dX5_part_48 rfl (by rw [ex])
      · have y0 : y ≠ 0 := fun z => by rw [z] at c10; exact c10 (by decide)
        refine lv_lload zC.1 zC.2.1 dX5_part_13 (lv_at hl 3 rfl) ?_
        refine lv_lload zC.1 zC.2.1 dX5_part_15 (lv_at hl 4 rfl) ?_
        refine zr_lrem zC dX5_part_17 (by omega) ?_
        refine lv_lstore (lv' := [(9, .long (zL (x % y))), (0, .ref (aM Γ)), (1, .long (zL a)), (3, .long (zL b)), (5, .long (zL x)), (7, .long (zL y))]) zC.1 zC.2.1 dX5_part_18 hl (by decide) rfl (fun ls hl => ?_)
        refine lv_lload zC.1 zC.2.1 dX5_part_20 (lv_at hl 5 rfl) ?_
        refine lv_lstore (lv' := [(5, .long (zL y)), (9, .long (zL (x % y))), (0, .ref (aM Γ)), (1, .long (zL a)), (3, .long (zL b)), (7, .long (zL y))]) zC.1 zC.2.1 dX5_part_22 hl (by decide) rfl (fun ls hl => ?_)
        refine lv_lload zC.1 zC.2.1 dX5_part_24 (lv_at hl 1 rfl) ?_
        refine lv_lstore (lv' := [(7, .long (zL (x % y))), (5, .long (zL y)), (9, .long (zL (x % y))), (0, .ref (aM Γ)), (1, .long (zL a)), (3, .long (zL b))]) zC.1 zC.2.1 dX5_part_26 hl (by decide) rfl (fun ls hl => ?_)
        refine lv_goto (tgt := 6) zC.1 zC.2.1 dX5_part_28 (by decide) ?_
        have b41 := Int.emod_nonneg x (show y ≠ 0 by omega)
        have b41b := Int.emod_lt_of_pos x (show 0 < y by omega)
        exact ih6 y (x % y) H locs ls (by first | assumption | omega) (by rw [gdI_s (by omega) (by omega)]; exact hg) (by omega) hG (lv_sub hl [3, 4, 5, 1, 0] rfl)
  exact loop6 ((b : Int).toNat + 1) a b H locs ls (by first | assumption | omega) rfl (by omega) hG (lv_sub hl [2, 3, 4, 1, 0] rfl)
