set_option maxHeartbeats 4000000 in
set_option maxRecDepth 100000 in
theorem c_X4_isWithin {Γ : Gm} {zl : Launch} {A : Nat → Prop} {σ : Mm} {v a b : Int} (hv : -2147483648 ≤ v ∧ v < 2147483648) (ha : -2147483648 ≤ a ∧ a < 2147483648) (hb : -2147483648 ≤ b ∧ b < 2147483648) : Fn Γ zl A yX4_isWithin cX4_isWithin 3 (some .boolean) 0 0 [.int (zI v), .int (zI a), .int (zI b)] σ (some (.int (zI (zB (a ≤ v ∧ v ≤ b))))) σ := by
  refine Fn_of (by decide) (Nat.le_of_ble_eq_true rfl) ?_
  intro zp ze zs zm args below meth zc zQ H locs ls zC zK hG hl
  have hl : lv_has ls 3 [(0, .int (zI v)), (1, .int (zI a)), (2, .int (zI b))] := hl
  refine lv_iload_n zC.1 zC.2.1 dX4_isWithin_0 rfl (lv_at hl 0 rfl) ?_
  refine lv_iload_n zC.1 zC.2.1 dX4_isWithin_1 rfl (lv_at hl 1 rfl) ?_
  refine zr_icmp_lt (tgt := 14) zC dX4_isWithin_2 (by decide) (by omega) (fun c2 => ?_) (fun c2 => ?_)
  · refine zr_iconst zC dX4_isWithin_14 ?_
    exact zr_zret zC zK hG dX4_isWithin_15 (zB_f (by omega)) (Or.inl rfl) rfl
  · refine lv_iload_n zC.1 zC.2.1 dX4_isWithin_5 rfl (lv_at hl 0 rfl) ?_
    refine lv_iload_n zC.1 zC.2.1 dX4_isWithin_6 rfl (lv_at hl 2 rfl) ?_
    refine zr_icmp_gt (tgt := 14) zC dX4_isWithin_7 (by decide) (by omega) (fun c7 => ?_) (fun c7 => ?_)
    · refine zr_iconst zC dX4_isWithin_14 ?_
      exact zr_zret zC zK hG dX4_isWithin_15 (zB_f (by omega)) (Or.inl rfl) rfl
    · refine zr_iconst zC dX4_isWithin_10 ?_
      refine lv_goto (tgt := 15) zC.1 zC.2.1 dX4_isWithin_11 (by decide) ?_
      exact zr_zret zC zK hG dX4_isWithin_15 (zB_t (by omega)) (Or.inr rfl) rfl

set_option maxHeartbeats 4000000 in
set_option maxRecDepth 100000 in
theorem c_X4_isRow {Γ : Gm} {zl : Launch} {A : Nat → Prop} {σ : Mm} {v : Int} (hv : -2147483648 ≤ v ∧ v < 2147483648) : Fn Γ zl A yX4_isRow cX4_isRow 1 (some .boolean) 0 0 [.int (zI v)] σ (some (.int (zI (zB (0 ≤ v ∧ v < 6))))) σ := by
  refine Fn_of (by decide) (Nat.le_of_ble_eq_true rfl) ?_
  intro zp ze zs zm args below meth zc zQ H locs ls zC zK hG hl
  have hl : lv_has ls 1 [(0, .int (zI v))] := hl
  refine lv_iload_n zC.1 zC.2.1 dX4_isRow_0 rfl (lv_at hl 0 rfl) ?_
  refine zr_if_lt (tgt := 14) zC dX4_isRow_1 (by decide) (by omega) (fun c1 => ?_) (fun c1 => ?_)
  · refine zr_iconst zC dX4_isRow_14 ?_
    exact zr_zret zC zK hG dX4_isRow_15 (zB_f (by omega)) (Or.inl rfl) rfl
  · refine lv_iload_n zC.1 zC.2.1 dX4_isRow_4 rfl (lv_at hl 0 rfl) ?_
    refine zr_bipush zC dX4_isRow_5 (by decide +kernel) ?_
    refine zr_icmp_ge (tgt := 14) zC dX4_isRow_7 (by decide) (by omega) (fun c7 => ?_) (fun c7 => ?_)
    · refine zr_iconst zC dX4_isRow_14 ?_
      exact zr_zret zC zK hG dX4_isRow_15 (zB_f (by omega)) (Or.inl rfl) rfl
    · refine zr_iconst zC dX4_isRow_10 ?_
      refine lv_goto (tgt := 15) zC.1 zC.2.1 dX4_isRow_11 (by decide) ?_
      exact zr_zret zC zK hG dX4_isRow_15 (zB_t (by omega)) (Or.inr rfl) rfl

set_option maxHeartbeats 4000000 in
set_option maxRecDepth 100000 in
theorem c_X4_isText {Γ : Gm} {zl : Launch} {A : Nat → Prop} {σ : Mm} {v : Int} (hv : -2147483648 ≤ v ∧ v < 2147483648) : Fn Γ zl A yX4_isText cX4_isText 1 (some .boolean) 0 0 [.int (zI v)] σ (some (.int (zI (zB (0 ≤ v ∧ v < 4))))) σ := by
  refine Fn_of (by decide) (Nat.le_of_ble_eq_true rfl) ?_
  intro zp ze zs zm args below meth zc zQ H locs ls zC zK hG hl
  have hl : lv_has ls 1 [(0, .int (zI v))] := hl
  refine lv_iload_n zC.1 zC.2.1 dX4_isText_0 rfl (lv_at hl 0 rfl) ?_
  refine zr_if_lt (tgt := 13) zC dX4_isText_1 (by decide) (by omega) (fun c1 => ?_) (fun c1 => ?_)
  · refine zr_iconst zC dX4_isText_13 ?_
    exact zr_zret zC zK hG dX4_isText_14 (zB_f (by omega)) (Or.inl rfl) rfl
  · refine lv_iload_n zC.1 zC.2.1 dX4_isText_4 rfl (lv_at hl 0 rfl) ?_
    refine zr_iconst zC dX4_isText_5 ?_
    refine zr_icmp_ge (tgt := 13) zC dX4_isText_6 (by decide) (by omega) (fun c6 => ?_) (fun c6 => ?_)
    · refine zr_iconst zC dX4_isText_13 ?_
      exact zr_zret zC zK hG dX4_isText_14 (zB_f (by omega)) (Or.inl rfl) rfl
    · refine zr_iconst zC dX4_isText_9 ?_
      refine lv_goto (tgt := 14) zC.1 zC.2.1 dX4_isText_10 (by decide) ?_
      exact zr_zret zC zK hG dX4_isText_14 (zB_t (by omega)) (Or.inr rfl) rfl

set_option maxHeartbeats 4000000 in
set_option maxRecDepth 100000 in
theorem c_X4_isPlaceToKeep {Γ : Gm} {zl : Launch} {A : Nat → Prop} {σ : Mm} {v : Int} (hv : -2147483648 ≤ v ∧ v < 2147483648) : Fn Γ zl A yX4_isPlaceToKeep cX4_isPlaceToKeep 1 (some .boolean) 0 0 [.int (zI v)] σ (some (.int (zI (zB (0 ≤ v ∧ v < 3))))) σ := by
  refine Fn_of (by decide) (Nat.le_of_ble_eq_true rfl) ?_
  intro zp ze zs zm args below meth zc zQ H locs ls zC zK hG hl
  have hl : lv_has ls 1 [(0, .int (zI v))] := hl
  refine lv_iload_n zC.1 zC.2.1 dX4_isPlaceToKeep_0 rfl (lv_at hl 0 rfl) ?_
  refine zr_if_lt (tgt := 13) zC dX4_isPlaceToKeep_1 (by decide) (by omega) (fun c1 => ?_) (fun c1 => ?_)
  · refine zr_iconst zC dX4_isPlaceToKeep_13 ?_
    exact zr_zret zC zK hG dX4_isPlaceToKeep_14 (zB_f (by omega)) (Or.inl rfl) rfl
  · refine lv_iload_n zC.1 zC.2.1 dX4_isPlaceToKeep_4 rfl (lv_at hl 0 rfl) ?_
    refine zr_iconst zC dX4_isPlaceToKeep_5 ?_
    refine zr_icmp_ge (tgt := 13) zC dX4_isPlaceToKeep_6 (by decide) (by omega) (fun c6 => ?_) (fun c6 => ?_)
    · refine zr_iconst zC dX4_isPlaceToKeep_13 ?_
      exact zr_zret zC zK hG dX4_isPlaceToKeep_14 (zB_f (by omega)) (Or.inl rfl) rfl
    · refine zr_iconst zC dX4_isPlaceToKeep_9 ?_
      refine lv_goto (tgt := 14) zC.1 zC.2.1 dX4_isPlaceToKeep_10 (by decide) ?_
      exact zr_zret zC zK hG dX4_isPlaceToKeep_14 (zB_t (by omega)) (Or.inr rfl) rfl

set_option maxHeartbeats 4000000 in
set_option maxRecDepth 100000 in
theorem c_X4_isDay {Γ : Gm} {zl : Launch} {A : Nat → Prop} {σ : Mm} {v : Int} (hv : -2147483648 ≤ v ∧ v < 2147483648) : Fn Γ zl A yX4_isDay cX4_isDay 1 (some .boolean) 0 0 [.int (zI v)] σ (some (.int (zI (zB (0 ≤ v ∧ v ≤ 19999))))) σ := by
  refine Fn_of (by decide) (Nat.le_of_ble_eq_true rfl) ?_
  intro zp ze zs zm args below meth zc zQ H locs ls zC zK hG hl
  have hl : lv_has ls 1 [(0, .int (zI v))] := hl
  refine lv_iload_n zC.1 zC.2.1 dX4_isDay_0 rfl (lv_at hl 0 rfl) ?_
  refine zr_if_lt (tgt := 15) zC dX4_isDay_1 (by decide) (by omega) (fun c1 => ?_) (fun c1 => ?_)
  · refine zr_iconst zC dX4_isDay_15 ?_
    exact zr_zret zC zK hG dX4_isDay_16 (zB_f (by omega)) (Or.inl rfl) rfl
  · refine lv_iload_n zC.1 zC.2.1 dX4_isDay_4 rfl (lv_at hl 0 rfl) ?_
    refine zr_sipush zC dX4_isDay_5 (by decide +kernel) ?_
    refine zr_icmp_gt (tgt := 15) zC dX4_isDay_8 (by decide) (by omega) (fun c8 => ?_) (fun c8 => ?_)
    · refine zr_iconst zC dX4_isDay_15 ?_
      exact zr_zret zC zK hG dX4_isDay_16 (zB_f (by omega)) (Or.inl rfl) rfl
    · refine zr_iconst zC dX4_isDay_11 ?_
      refine lv_goto (tgt := 16) zC.1 zC.2.1 dX4_isDay_12 (by decide) ?_
      exact zr_zret zC zK hG dX4_isDay_16 (zB_t (by omega)) (Or.inr rfl) rfl

set_option maxHeartbeats 4000000 in
set_option maxRecDepth 100000 in
theorem c_X4_isLeap {Γ : Gm} {zl : Launch} {A : Nat → Prop} {σ : Mm} {v : Int} (hv : -2147483648 ≤ v ∧ v < 2147483648) : Fn Γ zl A yX4_isLeap cX4_isLeap 1 (some .boolean) 0 0 [.int (zI v)] σ (some (.int (zI (zB (2 ≤ v ∧ v ≤ 9))))) σ := by
  refine Fn_of (by decide) (Nat.le_of_ble_eq_true rfl) ?_
  intro zp ze zs zm args below meth zc zQ H locs ls zC zK hG hl
  have hl : lv_has ls 1 [(0, .int (zI v))] := hl
  refine lv_iload_n zC.1 zC.2.1 dX4_isLeap_0 rfl (lv_at hl 0 rfl) ?_
  refine zr_iconst zC dX4_isLeap_1 ?_
  refine zr_icmp_lt (tgt := 15) zC dX4_isLeap_2 (by decide) (by omega) (fun c2 => ?_) (fun c2 => ?_)
  · refine zr_iconst zC dX4_isLeap_15 ?_
    exact zr_zret zC zK hG dX4_isLeap_16 (zB_f (by omega)) (Or.inl rfl) rfl
  · refine lv_iload_n zC.1 zC.2.1 dX4_isLeap_5 rfl (lv_at hl 0 rfl) ?_
    refine zr_bipush zC dX4_isLeap_6 (by decide +kernel) ?_
    refine zr_icmp_gt (tgt := 15) zC dX4_isLeap_8 (by decide) (by omega) (fun c8 => ?_) (fun c8 => ?_)
    · refine zr_iconst zC dX4_isLeap_15 ?_
      exact zr_zret zC zK hG dX4_isLeap_16 (zB_f (by omega)) (Or.inl rfl) rfl
    · refine zr_iconst zC dX4_isLeap_11 ?_
      refine lv_goto (tgt := 16) zC.1 zC.2.1 dX4_isLeap_12 (by decide) ?_
      exact zr_zret zC zK hG dX4_isLeap_16 (zB_t (by omega)) (Or.inr rfl) rfl

set_option maxHeartbeats 4000000 in
set_option maxRecDepth 100000 in
theorem c_X4_isPartOfDay {Γ : Gm} {zl : Launch} {A : Nat → Prop} {σ : Mm} {v : Int} (hv : -2147483648 ≤ v ∧ v < 2147483648) : Fn Γ zl A yX4_isPartOfDay cX4_isPartOfDay 1 (some .boolean) 0 0 [.int (zI v)] σ (some (.int (zI (zB (2 ≤ v ∧ v ≤ 9))))) σ := by
  refine Fn_of (by decide) (Nat.le_of_ble_eq_true rfl) ?_
  intro zp ze zs zm args below meth zc zQ H locs ls zC zK hG hl
  have hl : lv_has ls 1 [(0, .int (zI v))] := hl
  refine lv_iload_n zC.1 zC.2.1 dX4_isPartOfDay_0 rfl (lv_at hl 0 rfl) ?_
  refine zr_iconst zC dX4_isPartOfDay_1 ?_
  refine zr_icmp_lt (tgt := 15) zC dX4_isPartOfDay_2 (by decide) (by omega) (fun c2 => ?_) (fun c2 => ?_)
  · refine zr_iconst zC dX4_isPartOfDay_15 ?_
    exact zr_zret zC zK hG dX4_isPartOfDay_16 (zB_f (by omega)) (Or.inl rfl) rfl
  · refine lv_iload_n zC.1 zC.2.1 dX4_isPartOfDay_5 rfl (lv_at hl 0 rfl) ?_
    refine zr_bipush zC dX4_isPartOfDay_6 (by decide +kernel) ?_
    refine zr_icmp_gt (tgt := 15) zC dX4_isPartOfDay_8 (by decide) (by omega) (fun c8 => ?_) (fun c8 => ?_)
    · refine zr_iconst zC dX4_isPartOfDay_15 ?_
      exact zr_zret zC zK hG dX4_isPartOfDay_16 (zB_f (by omega)) (Or.inl rfl) rfl
    · refine zr_iconst zC dX4_isPartOfDay_11 ?_
      refine lv_goto (tgt := 16) zC.1 zC.2.1 dX4_isPartOfDay_12 (by decide) ?_
      exact zr_zret zC zK hG dX4_isPartOfDay_16 (zB_t (by omega)) (Or.inr rfl) rfl

set_option maxHeartbeats 4000000 in
set_option maxRecDepth 100000 in
theorem c_X4_isYearsDue {Γ : Gm} {zl : Launch} {A : Nat → Prop} {σ : Mm} {v : Int} (hv : -2147483648 ≤ v ∧ v < 2147483648) : Fn Γ zl A yX4_isYearsDue cX4_isYearsDue 1 (some .boolean) 0 0 [.int (zI v)] σ (some (.int (zI (zB (0 ≤ v ∧ v ≤ 50))))) σ := by
  refine Fn_of (by decide) (Nat.le_of_ble_eq_true rfl) ?_
  intro zp ze zs zm args below meth zc zQ H locs ls zC zK hG hl
  have hl : lv_has ls 1 [(0, .int (zI v))] := hl
  refine lv_iload_n zC.1 zC.2.1 dX4_isYearsDue_0 rfl (lv_at hl 0 rfl) ?_
  refine zr_if_lt (tgt := 14) zC dX4_isYearsDue_1 (by decide) (by omega) (fun c1 => ?_) (fun c1 => ?_)
  · refine zr_iconst zC dX4_isYearsDue_14 ?_
    exact zr_zret zC zK hG dX4_isYearsDue_15 (zB_f (by omega)) (Or.inl rfl) rfl
  · refine lv_iload_n zC.1 zC.2.1 dX4_isYearsDue_4 rfl (lv_at hl 0 rfl) ?_
    refine zr_bipush zC dX4_isYearsDue_5 (by decide +kernel) ?_
    refine zr_icmp_gt (tgt := 14) zC dX4_isYearsDue_7 (by decide) (by omega) (fun c7 => ?_) (fun c7 => ?_)
    · refine zr_iconst zC dX4_isYearsDue_14 ?_
      exact zr_zret zC zK hG dX4_isYearsDue_15 (zB_f (by omega)) (Or.inl rfl) rfl
    · refine zr_iconst zC dX4_isYearsDue_10 ?_
      refine lv_goto (tgt := 15) zC.1 zC.2.1 dX4_isYearsDue_11 (by decide) ?_
      exact zr_zret zC zK hG dX4_isYearsDue_15 (zB_t (by omega)) (Or.inr rfl) rfl

set_option maxHeartbeats 4000000 in
set_option maxRecDepth 100000 in
theorem c_X4_isFeastYear {Γ : Gm} {zl : Launch} {A : Nat → Prop} {σ : Mm} {v : Int} (hv : -2147483648 ≤ v ∧ v < 2147483648) : Fn Γ zl A yX4_isFeastYear cX4_isFeastYear 1 (some .boolean) 0 0 [.int (zI v)] σ (some (.int (zI (zB (0 ≤ v ∧ v ≤ 150))))) σ := by
  refine Fn_of (by decide) (Nat.le_of_ble_eq_true rfl) ?_
  intro zp ze zs zm args below meth zc zQ H locs ls zC zK hG hl
  have hl : lv_has ls 1 [(0, .int (zI v))] := hl
  refine lv_iload_n zC.1 zC.2.1 dX4_isFeastYear_0 rfl (lv_at hl 0 rfl) ?_
  refine zr_if_lt (tgt := 15) zC dX4_isFeastYear_1 (by decide) (by omega) (fun c1 => ?_) (fun c1 => ?_)
  · refine zr_iconst zC dX4_isFeastYear_15 ?_
    exact zr_zret zC zK hG dX4_isFeastYear_16 (zB_f (by omega)) (Or.inl rfl) rfl
  · refine lv_iload_n zC.1 zC.2.1 dX4_isFeastYear_4 rfl (lv_at hl 0 rfl) ?_
    refine zr_sipush zC dX4_isFeastYear_5 (by decide +kernel) ?_
    refine zr_icmp_gt (tgt := 15) zC dX4_isFeastYear_8 (by decide) (by omega) (fun c8 => ?_) (fun c8 => ?_)
    · refine zr_iconst zC dX4_isFeastYear_15 ?_
      exact zr_zret zC zK hG dX4_isFeastYear_16 (zB_f (by omega)) (Or.inl rfl) rfl
    · refine zr_iconst zC dX4_isFeastYear_11 ?_
      refine lv_goto (tgt := 16) zC.1 zC.2.1 dX4_isFeastYear_12 (by decide) ?_
      exact zr_zret zC zK hG dX4_isFeastYear_16 (zB_t (by omega)) (Or.inr rfl) rfl

set_option maxHeartbeats 4000000 in
set_option maxRecDepth 100000 in
theorem c_X4_isSpan {Γ : Gm} {zl : Launch} {A : Nat → Prop} {σ : Mm} {a b : Int} (ha : -2147483648 ≤ a ∧ a < 2147483648) (hb : -2147483648 ≤ b ∧ b < 2147483648) : Fn Γ zl A yX4_isSpan cX4_isSpan 2 (some .boolean) 1 20 [.int (zI a), .int (zI b)] σ (some (.int (zI (zB (0 ≤ a ∧ a ≤ b ∧ b ≤ 19999))))) σ := by
  refine Fn_of (by decide) (Nat.le_of_ble_eq_true rfl) ?_
  intro zp ze zs zm args below meth zc zQ H locs ls zC zK hG hl
  have hl : lv_has ls 2 [(0, .int (zI a)), (1, .int (zI b))] := hl
  refine lv_iload_n zC.1 zC.2.1 dX4_isSpan_0 rfl (lv_at hl 0 rfl) ?_
  refine zr_callS zC hG (c_X4_isDay (σ := σ) (v := a) (by first | assumption | omega)) mt_X4_isDay wl_X4_168 ⟨by decide, by decide⟩ rfl hl.1 rfl (Nat.le_of_ble_eq_true rfl) dX4_isSpan_1 ⟨Nat.zero_le _, Nat.zero_le _⟩ (fun H locs hG => ?_)
  refine W.eq (g2 := F0 zm 4 ls [.int (zI (zB (0 ≤ a ∧ a ≤ 19999)))]) rfl ?_
  refine zr_ifeqB (tgt := 23) zC dX4_isSpan_4 (by decide) (fun c4 => ?_) (fun c4 => ?_)
  · refine zr_iconst zC dX4_isSpan_23 ?_
    exact zr_zret zC zK hG dX4_isSpan_24 (zB_f (by omega)) (Or.inl rfl) rfl
  · refine lv_iload_n zC.1 zC.2.1 dX4_isSpan_7 rfl (lv_at hl 1 rfl) ?_
    refine zr_callS zC hG (c_X4_isDay (σ := σ) (v := b) (by first | assumption | omega)) mt_X4_isDay wl_X4_168 ⟨by decide, by decide⟩ rfl hl.1 rfl (Nat.le_of_ble_eq_true rfl) dX4_isSpan_8 ⟨Nat.zero_le _, Nat.zero_le _⟩ (fun H locs hG => ?_)
    refine W.eq (g2 := F0 zm 11 ls [.int (zI (zB (0 ≤ b ∧ b ≤ 19999)))]) rfl ?_
    refine zr_ifeqB (tgt := 23) zC dX4_isSpan_11 (by decide) (fun c11 => ?_) (fun c11 => ?_)
    · refine zr_iconst zC dX4_isSpan_23 ?_
      exact zr_zret zC zK hG dX4_isSpan_24 (zB_f (by omega)) (Or.inl rfl) rfl
    · refine lv_iload_n zC.1 zC.2.1 dX4_isSpan_14 rfl (lv_at hl 0 rfl) ?_
      refine lv_iload_n zC.1 zC.2.1 dX4_isSpan_15 rfl (lv_at hl 1 rfl) ?_
      refine zr_icmp_gt (tgt := 23) zC dX4_isSpan_16 (by decide) (by omega) (fun c16 => ?_) (fun c16 => ?_)
      · refine zr_iconst zC dX4_isSpan_23 ?_
        exact zr_zret zC zK hG dX4_isSpan_24 (zB_f (by omega)) (Or.inl rfl) rfl
      · refine zr_iconst zC dX4_isSpan_19 ?_
        refine lv_goto (tgt := 24) zC.1 zC.2.1 dX4_isSpan_20 (by decide) ?_
        exact zr_zret zC zK hG dX4_isSpan_24 (zB_t (by omega)) (Or.inr rfl) rfl

set_option maxHeartbeats 4000000 in
set_option maxRecDepth 100000 in
theorem c_X4_longYearsBefore {Γ : Gm} {zl : Launch} {A : Nat → Prop} {σ : Mm} {y lp : Int} (hy : 0 ≤ y ∧ y ≤ 3000000) (hlp : -1000 ≤ lp ∧ lp ≤ 1000) : Fn Γ zl A yX4_longYearsBefore cX4_longYearsBefore 2 (some .int) 0 0 [.int (zI y), .int (zI lp)] σ (some (.int (zI (lyb y lp)))) σ := by
  refine Fn_of (by decide) (Nat.le_of_ble_eq_true rfl) ?_
  intro zp ze zs zm args below meth zc zQ H locs ls zC zK hG hl
  have hl : lv_has ls 2 [(0, .int (zI y)), (1, .int (zI lp))] := hl
  refine lv_iload_n zC.1 zC.2.1 dX4_longYearsBefore_0 rfl (lv_at hl 1 rfl) ?_
  refine zr_iconst zC dX4_longYearsBefore_1 ?_
  refine zr_icmp_ge (tgt := 9) zC dX4_longYearsBefore_2 (by decide) (by omega) (fun c2 => ?_) (fun c2 => ?_)
  · refine lv_iload_n zC.1 zC.2.1 dX4_longYearsBefore_9 rfl (lv_at hl 0 rfl) ?_
    refine lv_iload_n zC.1 zC.2.1 dX4_longYearsBefore_10 rfl (lv_at hl 1 rfl) ?_
    refine zr_iadd zC dX4_longYearsBefore_11 ?_
    refine zr_iconst zC dX4_longYearsBefore_12 ?_
    refine zr_isub zC dX4_longYearsBefore_13 ?_
    refine lv_iload_n zC.1 zC.2.1 dX4_longYearsBefore_14 rfl (lv_at hl 1 rfl) ?_
    refine zr_idiv zC dX4_longYearsBefore_15 (by omega) ?_
    exact zr_iret zC zK hG dX4_longYearsBefore_16 (by unfold lyb; first | rw [if_pos (by omega)] | rw [if_neg (by omega)]) rfl
  · refine zr_iconst zC dX4_longYearsBefore_5 ?_
    refine lv_goto (tgt := 16) zC.1 zC.2.1 dX4_longYearsBefore_6 (by decide) ?_
    exact zr_iret zC zK hG dX4_longYearsBefore_16 (by unfold lyb; first | rw [if_pos (by omega)] | rw [if_neg (by omega)]) rfl

set_option maxHeartbeats 4000000 in
set_option maxRecDepth 100000 in
theorem c_X4_daysTillFull {Γ : Gm} {zl : Launch} {A : Nat → Prop} {σ : Mm} {d : Int} (hd : 0 ≤ d ∧ d ≤ 1000000) : Fn Γ zl A yX4_daysTillFull cX4_daysTillFull 2 (some .int) 0 0 [.int (zI d)] σ (some (.int (zI (tlF d)))) σ := by
  refine Fn_of (by decide) (Nat.le_of_ble_eq_true rfl) ?_
  intro zp ze zs zm args below meth zc zQ H locs ls zC zK hG hl
  have hl : lv_has ls 2 [(0, .int (zI d))] := hl
  refine lv_iload_n zC.1 zC.2.1 dX4_daysTillFull_0 rfl (lv_at hl 0 rfl) ?_
  refine zr_bipush zC dX4_daysTillFull_1 (by decide +kernel) ?_
  refine zr_irem zC dX4_daysTillFull_3 (by omega) ?_
  refine lv_istore_n (lv' := [(1, .int (zI (d % 59))), (0, .int (zI d))]) zC.1 zC.2.1 dX4_daysTillFull_4 rfl hl (by decide) rfl (fun ls hl => ?_)
  refine lv_iload_n zC.1 zC.2.1 dX4_daysTillFull_5 rfl (lv_at hl 0 rfl) ?_
  refine zr_if_ne (tgt := 11) zC dX4_daysTillFull_6 (by decide) (by omega) (fun c6 => ?_) (fun c6 => ?_)
  · refine lv_iload_n zC.1 zC.2.1 dX4_daysTillFull_11 rfl (lv_at hl 0 rfl) ?_
    refine zr_bipush zC dX4_daysTillFull_12 (by decide +kernel) ?_
    refine zr_icmp_gt (tgt := 24) zC dX4_daysTillFull_14 (by decide) (by omega) (fun c14 => ?_) (fun c14 => ?_)
    · refine zr_bipush zC dX4_daysTillFull_24 (by decide +kernel) ?_
      refine lv_iload_n zC.1 zC.2.1 dX4_daysTillFull_26 rfl (lv_at hl 0 rfl) ?_
      refine zr_isub zC dX4_daysTillFull_27 ?_
      exact zr_iret zC zK hG dX4_daysTillFull_28 (by unfold tlF; (repeat' split) <;> omega) rfl
    · refine zr_bipush zC dX4_daysTillFull_17 (by decide +kernel) ?_
      refine lv_iload_n zC.1 zC.2.1 dX4_daysTillFull_19 rfl (lv_at hl 0 rfl) ?_
      refine zr_isub zC dX4_daysTillFull_20 ?_
      refine lv_goto (tgt := 28) zC.1 zC.2.1 dX4_daysTillFull_21 (by decide) ?_
      exact zr_iret zC zK hG dX4_daysTillFull_28 (by unfold tlF; (repeat' split) <;> omega) rfl
  · refine zr_iconst zC dX4_daysTillFull_9 ?_
    exact zr_iret zC zK hG dX4_daysTillFull_10 (by unfold tlF; (repeat' split) <;> omega) rfl
