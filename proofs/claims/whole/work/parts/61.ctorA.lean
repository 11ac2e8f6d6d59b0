set_option maxHeartbeats 4000000 in
set_option maxRecDepth 100000 in
theorem c_X0_init {D : va_G} {k : Nat → ClassId} {zl : Launch} {A : Nat → Prop} {h0 : Nat} {W0 : va_W} : Fk D k zl A yX0_init cX0_init 1 1 12 0 0 h0 W0 [(h0, .inr (0, [.int 0, .int 0, .int 0, .int 0]))] (fun L => L = [(h0, .inr (0, [.int (zI 0), .int (zI 2), .int (zI 0), .int (zI 0)]))]) := by
  refine Fk_of (by decide) rfl (by decide) ?_
  intro zp ze zs zm args below meth zc zQ H locs ls zC zK hG hl
  have hin := zK.2.2.1
  refine lv_aload_n zC.1 zC.2.1 dX0_init_0 rfl (lv_at hl 0 rfl) ?_
  refine zk_obj zC wl_X0_3 hl.1 dX0_init_1 ⟨by decide, by decide⟩ ?_
  refine lv_aload_n zC.1 zC.2.1 dX0_init_4 rfl (lv_at hl 0 rfl) ?_
  refine zr_iconst zC dX0_init_5 ?_
  refine zk_put (Cn := RX0) (T := TX0) (N := 4) (ci := 0) (fty := .int) (v := .int (zI 0)) zC hG uw_X0 tyX0 tyX0_ok nmX0 0 rfl rfl 0 (by decide) wl_X0_9 (fun _ h => h) rfl (by decide +kernel) rfl rfl (Nat.le_of_ble_eq_true rfl) dX0_init_6 (fun H locs hG => ?_)
  have hG : GK D k A W0 [(h0, .inr (0, [.int (zI 0), .int 0, .int 0, .int 0]))] zs H locs := hG
  refine lv_aload_n zC.1 zC.2.1 dX0_init_9 rfl (lv_at hl 0 rfl) ?_
  refine zr_iconst zC dX0_init_10 ?_
  refine zk_put (Cn := RX0) (T := TX0) (N := 4) (ci := 0) (fty := .int) (v := .int (zI 2)) zC hG uw_X0 tyX0 tyX0_ok nmX0 0 rfl rfl 1 (by decide) wl_X0_15 (fun _ h => h) rfl (by decide +kernel) rfl rfl (Nat.le_of_ble_eq_true rfl) dX0_init_11 (fun H locs hG => ?_)
  have hG : GK D k A W0 [(h0, .inr (0, [.int (zI 0), .int (zI 2), .int 0, .int 0]))] zs H locs := hG
  refine lv_aload_n zC.1 zC.2.1 dX0_init_14 rfl (lv_at hl 0 rfl) ?_
  refine zr_iconst zC dX0_init_15 ?_
  refine zk_put (Cn := RX0) (T := TX0) (N := 4) (ci := 0) (fty := .int) (v := .int (zI 0)) zC hG uw_X0 tyX0 tyX0_ok nmX0 0 rfl rfl 2 (by decide) wl_X0_18 (fun _ h => h) rfl (by decide +kernel) rfl rfl (Nat.le_of_ble_eq_true rfl) dX0_init_16 (fun H locs hG => ?_)
  have hG : GK D k A W0 [(h0, .inr (0, [.int (zI 0), .int (zI 2), .int (zI 0), .int 0]))] zs H locs := hG
  refine lv_aload_n zC.1 zC.2.1 dX0_init_19 rfl (lv_at hl 0 rfl) ?_
  refine zr_iconst zC dX0_init_20 ?_
  refine zk_put (Cn := RX0) (T := TX0) (N := 4) (ci := 0) (fty := .int) (v := .int (zI 0)) zC hG uw_X0 tyX0 tyX0_ok nmX0 0 rfl rfl 3 (by decide) wl_X0_21 (fun _ h => h) rfl (by decide +kernel) rfl rfl (Nat.le_of_ble_eq_true rfl) dX0_init_21 (fun H locs hG => ?_)
  have hG : GK D k A W0 [(h0, .inr (0, [.int (zI 0), .int (zI 2), .int (zI 0), .int (zI 0)]))] zs H locs := hG
  exact zk_vret zC zK hG dX0_init_24 rfl
set_option maxHeartbeats 4000000 in
set_option maxRecDepth 100000 in
theorem c_X2_init {D : va_G} {k : Nat → ClassId} {zl : Launch} {A : Nat → Prop} {h0 : Nat} {W0 : va_W} : Fk D k zl A yX2_init cX2_init 1 1 12 1 40 h0 W0 [(h0, .inr (2, [.null, .int 0]))] (fun L => ∃ q : Nat, L = [(h0, .inr (2, [.ref q, .int (zI (-1))])), (q, .inl (k 0, 40, .inl (fun _ => zI 0)))]) := by
  refine Fk_of (by decide) rfl (by decide) ?_
  intro zp ze zs zm args below meth zc zQ H locs ls zC zK hG hl
  have hin := zK.2.2.1
  refine lv_aload_n zC.1 zC.2.1 dX2_init_0 rfl (lv_at hl 0 rfl) ?_
  refine zk_obj zC wl_X2_3 hl.1 dX2_init_1 ⟨by decide, by decide⟩ ?_
  refine lv_aload_n zC.1 zC.2.1 dX2_init_4 rfl (lv_at hl 0 rfl) ?_
  refine zr_bipush zC dX2_init_5 (by decide +kernel) ?_
  refine zk_newI (N := 40) zC hG rfl (by decide) (by show _ ≤ 1; omega) (by show _ ≤ 40; omega) dX2_init_7 (fun q1 H hG => ?_)
  have hG : GK D k A W0 [(h0, .inr (2, [.null, .int 0])), (q1, .inl (k 0, 40, .inl (fun _ => zI 0)))] zs H locs := hG
  refine W.widen (k := 1) (n := 40) (by omega) (by omega) ?_
  refine zk_putF (Cn := RX2) (T := TX2) (N := 2) (ci := 2) (fty := (.array .int)) (v := .ref q1) zC hG uw_X2 tyX2 tyX2_ok nmX2 0 rfl rfl 0 (by decide) wl_X2_9 (fun _ h => h) rfl hin rfl (by decide +kernel) rfl rfl (Nat.le_of_ble_eq_true rfl) dX2_init_9 (fun H locs hG => ?_)
  have hG : GK D k A W0 [(h0, .inr (2, [.ref q1, .int 0])), (q1, .inl (k 0, 40, .inl (fun _ => zI 0)))] zs H locs := hG
  refine lv_aload_n zC.1 zC.2.1 dX2_init_12 rfl (lv_at hl 0 rfl) ?_
  refine zr_iconst zC dX2_init_13 ?_
  refine zk_put (Cn := RX2) (T := TX2) (N := 2) (ci := 2) (fty := .int) (v := .int (zI (-1))) zC hG uw_X2 tyX2 tyX2_ok nmX2 0 rfl rfl 1 (by decide) wl_X2_15 (fun _ h => h) rfl (by decide +kernel) rfl rfl (Nat.le_of_ble_eq_true rfl) dX2_init_14 (fun H locs hG => ?_)
  have hG : GK D k A W0 [(h0, .inr (2, [.ref q1, .int (zI (-1))])), (q1, .inl (k 0, 40, .inl (fun _ => zI 0)))] zs H locs := hG
  exact zk_vret zC zK hG dX2_init_17 ⟨_, rfl⟩
set_option maxHeartbeats 4000000 in
set_option maxRecDepth 100000 in
theorem c_X3_init {D : va_G} {k : Nat → ClassId} {zl : Launch} {A : Nat → Prop} {h0 : Nat} {W0 : va_W} : Fk D k zl A yX3_init cX3_init 1 1 12 1 60 h0 W0 [(h0, .inr (3, [.null, .int 0]))] (fun L => ∃ q : Nat, L = [(h0, .inr (3, [.ref q, .int (zI (-1))])), (q, .inl (k 1, 60, .inl (fun _ => zI 0)))]) := by
  refine Fk_of (by decide) rfl (by decide) ?_
  intro zp ze zs zm args below meth zc zQ H locs ls zC zK hG hl
  have hin := zK.2.2.1
  refine lv_aload_n zC.1 zC.2.1 dX3_init_0 rfl (lv_at hl 0 rfl) ?_
  refine zk_obj zC wl_X3_3 hl.1 dX3_init_1 ⟨by decide, by decide⟩ ?_
  refine lv_aload_n zC.1 zC.2.1 dX3_init_4 rfl (lv_at hl 0 rfl) ?_
  refine zr_bipush zC dX3_init_5 (by decide +kernel) ?_
  refine zk_newB (N := 60) zC hG rfl (by decide) (by show _ ≤ 1; omega) (by show _ ≤ 60; omega) dX3_init_7 (fun q1 H hG => ?_)
  have hG : GK D k A W0 [(h0, .inr (3, [.null, .int 0])), (q1, .inl (k 1, 60, .inl (fun _ => zI 0)))] zs H locs := hG
  refine W.widen (k := 1) (n := 60) (by omega) (by omega) ?_
  refine zk_putF (Cn := RX3) (T := TX3) (N := 2) (ci := 3) (fty := (.array .byte)) (v := .ref q1) zC hG uw_X3 tyX3 tyX3_ok nmX3 0 rfl rfl 0 (by decide) wl_X3_9 (fun _ h => h) rfl hin rfl (by decide +kernel) rfl rfl (Nat.le_of_ble_eq_true rfl) dX3_init_9 (fun H locs hG => ?_)
  have hG : GK D k A W0 [(h0, .inr (3, [.ref q1, .int 0])), (q1, .inl (k 1, 60, .inl (fun _ => zI 0)))] zs H locs := hG
  refine lv_aload_n zC.1 zC.2.1 dX3_init_12 rfl (lv_at hl 0 rfl) ?_
  refine zr_iconst zC dX3_init_13 ?_
  refine zk_put (Cn := RX3) (T := TX3) (N := 2) (ci := 3) (fty := .int) (v := .int (zI (-1))) zC hG uw_X3 tyX3 tyX3_ok nmX3 0 rfl rfl 1 (by decide) wl_X3_15 (fun _ h => h) rfl (by decide +kernel) rfl rfl (Nat.le_of_ble_eq_true rfl) dX3_init_14 (fun H locs hG => ?_)
  have hG : GK D k A W0 [(h0, .inr (3, [.ref q1, .int (zI (-1))])), (q1, .inl (k 1, 60, .inl (fun _ => zI 0)))] zs H locs := hG
  exact zk_vret zC zK hG dX3_init_17 ⟨_, rfl⟩
set_option maxHeartbeats 4000000 in
set_option maxRecDepth 100000 in
theorem c_X1_init {D : va_G} {k : Nat → ClassId} {zl : Launch} {A : Nat → Prop} {h0 : Nat} {W0 : va_W} : Fk D k zl A yX1_init cX1_init 1 1 12 3 15 h0 W0 [(h0, .inr (1, [.null, .null, .null, .int 0, .int 0]))] (fun L => ∃ q r t : Nat, L = [(h0, .inr (1, [.ref q, .ref r, .ref t, .int (zI 0), .int (zI 0)])), (q, .inl (k 0, 5, .inl (fun _ => zI 0))), (r, .inl (k 0, 5, .inl (fun _ => zI 0))), (t, .inl (k 0, 5, .inl (fun _ => zI 0)))]) := by
  refine Fk_of (by decide) rfl (by decide) ?_
  intro zp ze zs zm args below meth zc zQ H locs ls zC zK hG hl
  have hin := zK.2.2.1
  refine lv_aload_n zC.1 zC.2.1 dX1_init_0 rfl (lv_at hl 0 rfl) ?_
  refine zk_obj zC wl_X1_3 hl.1 dX1_init_1 ⟨by decide, by decide⟩ ?_
  refine lv_aload_n zC.1 zC.2.1 dX1_init_4 rfl (lv_at hl 0 rfl) ?_
  refine zr_iconst zC dX1_init_5 ?_
  refine zk_newI (N := 5) zC hG rfl (by decide) (by show _ ≤ 3; omega) (by show _ ≤ 15; omega) dX1_init_6 (fun q1 H hG => ?_)
  have hG : GK D k A W0 [(h0, .inr (1, [.null, .null, .null, .int 0, .int 0])), (q1, .inl (k 0, 5, .inl (fun _ => zI 0)))] zs H locs := hG
  refine W.widen (k := 1) (n := 5) (by omega) (by omega) ?_
  refine zk_putF (Cn := RX1) (T := TX1) (N := 5) (ci := 1) (fty := (.array .int)) (v := .ref q1) zC hG uw_X1 tyX1 tyX1_ok nmX1 0 rfl rfl 0 (by decide) wl_X1_9 (fun _ h => h) rfl hin rfl (by decide +kernel) rfl rfl (Nat.le_of_ble_eq_true rfl) dX1_init_8 (fun H locs hG => ?_)
  have hG : GK D k A W0 [(h0, .inr (1, [.ref q1, .null, .null, .int 0, .int 0])), (q1, .inl (k 0, 5, .inl (fun _ => zI 0)))] zs H locs := hG
  refine lv_aload_n zC.1 zC.2.1 dX1_init_11 rfl (lv_at hl 0 rfl) ?_
  refine zr_iconst zC dX1_init_12 ?_
  refine zk_newI (N := 5) zC hG rfl (by decide) (by show _ ≤ 3; omega) (by show _ ≤ 15; omega) dX1_init_13 (fun q2 H hG => ?_)
  have hG : GK D k A W0 [(h0, .inr (1, [.ref q1, .null, .null, .int 0, .int 0])), (q1, .inl (k 0, 5, .inl (fun _ => zI 0))), (q2, .inl (k 0, 5, .inl (fun _ => zI 0)))] zs H locs := hG
  refine W.widen (k := 2) (n := 10) (by omega) (by omega) ?_
  refine zk_putF (Cn := RX1) (T := TX1) (N := 5) (ci := 1) (fty := (.array .int)) (v := .ref q2) zC hG uw_X1 tyX1 tyX1_ok nmX1 0 rfl rfl 1 (by decide) wl_X1_15 (fun _ h => h) rfl hin rfl (by decide +kernel) rfl rfl (Nat.le_of_ble_eq_true rfl) dX1_init_15 (fun H locs hG => ?_)
  have hG : GK D k A W0 [(h0, .inr (1, [.ref q1, .ref q2, .null, .int 0, .int 0])), (q1, .inl (k 0, 5, .inl (fun _ => zI 0))), (q2, .inl (k 0, 5, .inl (fun _ => zI 0)))] zs H locs := hG
  refine lv_aload_n zC.1 zC.2.1 dX1_init_18 rfl (lv_at hl 0 rfl) ?_
  refine zr_iconst zC dX1_init_19 ?_
  refine zk_newI (N := 5) zC hG rfl (by decide) (by show _ ≤ 3; omega) (by show _ ≤ 15; omega) dX1_init_20 (fun q3 H hG => ?_)
  have hG : GK D k A W0 [(h0, .inr (1, [.ref q1, .ref q2, .null, .int 0, .int 0])), (q1, .inl (k 0, 5, .inl (fun _ => zI 0))), (q2, .inl (k 0, 5, .inl (fun _ => zI 0))), (q3, .inl (k 0, 5, .inl (fun _ => zI 0)))] zs H locs := hG
  refine W.widen (k := 3) (n := 15) (by omega) (by omega) ?_
  refine zk_putF (Cn := RX1) (T := TX1) (N := 5) (ci := 1) (fty := (.array .int)) (v := .ref q3) zC hG uw_X1 tyX1 tyX1_ok nmX1 0 rfl rfl 2 (by decide) wl_X1_18 (fun _ h => h) rfl hin rfl (by decide +kernel) rfl rfl (Nat.le_of_ble_eq_true rfl) dX1_init_22 (fun H locs hG => ?_)
  have hG : GK D k A W0 [(h0, .inr (1, [.ref q1, .ref q2, .ref q3, .int 0, .int 0])), (q1, .inl (k 0, 5, .inl (fun _ => zI 0))), (q2, .inl (k 0, 5, .inl (fun _ => zI 0))), (q3, .inl (k 0, 5, .inl (fun _ => zI 0)))] zs H locs := hG
  refine lv_aload_n zC.1 zC.2.1 dX1_init_25 rfl (lv_at hl 0 rfl) ?_
  refine zr_iconst zC dX1_init_26 ?_
  refine zk_put (Cn := RX1) (T := TX1) (N := 5) (ci := 1) (fty := .boolean) (v := .int (zI 0)) zC hG uw_X1 tyX1 tyX1_ok nmX1 0 rfl rfl 3 (by decide) wl_X1_21 (fun _ h => h) rfl (by decide +kernel) (by decide +kernel) (by decide +kernel) (Nat.le_of_ble_eq_true rfl) dX1_init_27 (fun H locs hG => ?_)
  have hG : GK D k A W0 [(h0, .inr (1, [.ref q1, .ref q2, .ref q3, .int (zI 0), .int 0])), (q1, .inl (k 0, 5, .inl (fun _ => zI 0))), (q2, .inl (k 0, 5, .inl (fun _ => zI 0))), (q3, .inl (k 0, 5, .inl (fun _ => zI 0)))] zs H locs := hG
  refine lv_aload_n zC.1 zC.2.1 dX1_init_30 rfl (lv_at hl 0 rfl) ?_
  refine zr_iconst zC dX1_init_31 ?_
  refine zk_put (Cn := RX1) (T := TX1) (N := 5) (ci := 1) (fty := .int) (v := .int (zI 0)) zC hG uw_X1 tyX1 tyX1_ok nmX1 0 rfl rfl 4 (by decide) wl_X1_25 (fun _ h => h) rfl (by decide +kernel) rfl rfl (Nat.le_of_ble_eq_true rfl) dX1_init_32 (fun H locs hG => ?_)
  have hG : GK D k A W0 [(h0, .inr (1, [.ref q1, .ref q2, .ref q3, .int (zI 0), .int (zI 0)])), (q1, .inl (k 0, 5, .inl (fun _ => zI 0))), (q2, .inl (k 0, 5, .inl (fun _ => zI 0))), (q3, .inl (k 0, 5, .inl (fun _ => zI 0)))] zs H locs := hG
  exact zk_vret zC zK hG dX1_init_35 ⟨_, _, _, rfl⟩
