theorem kp_0 : ∀ j, j < 63 → upd (upd (upd (fun _ => zI 0) 0 (zI (-9))) 21 (zI (-9))) 42 (zI (-9)) j = zI (mm0 32 0 (j : Int)) := by
  intro j hj
  show (if j = 42 then zI (-9) else if j = 21 then zI (-9) else if j = 0 then zI (-9) else zI 0) = zI (if (j : Int) = 0 ∨ (j : Int) = 21 ∨ (j : Int) = 42 then -9 else 0)
  (repeat' split) <;> first | rfl | omega
set_option maxHeartbeats 4000000 in
set_option maxRecDepth 100000 in
theorem c_X5_init {D : va_G} {k : Nat → ClassId} {zl : Launch} {A : Nat → Prop} {h0 : Nat} {W0 : va_W} {zt : Nat → Nat} : Fk D k zl A yX5_init cX5_init 2 1 12 12 639 h0 W0 [(h0, .inr (5, [.int (zI 0), .null, .int (zI 0), .long (zL 0), .long (zL 0), .null, .null, .null, .null, .null, .int (zI 0), .int (zI 0), .null, .null, .null, .null, .int (zI 0), .int (zI 0), .null, .int (zI 0), .int (zI 0), .int (zI 0), .int (zI 0), .null, .long (zL 0)]))] (fun L => ∃ a : Nat → Nat, a 44 = h0 ∧ L = gwM (D, a, k, zt) mm0) := by
  refine Fk_of (by decide) rfl (by decide) ?_
  intro zp ze zs zm args below meth zc zQ H locs ls zC zK hG hl
  have hin := zK.2.2.1
  refine lv_aload_n zC.1 zC.2.1 dX5_init_0 rfl (lv_at hl 0 rfl) ?_
  refine zk_obj zC wl_X5_1 hl.1 dX5_init_1 ⟨by decide, by decide⟩ ?_
  refine lv_aload_n zC.1 zC.2.1 dX5_init_4 rfl (lv_at hl 0 rfl) ?_
  refine zr_bipush zC dX5_init_5 (by decide +kernel) ?_
  refine zk_newI (N := 6) zC hG rfl (by decide) (by show _ ≤ 12; omega) (by show _ ≤ 639; omega) dX5_init_7 (fun q1 H hG => ?_)
  have hG : GK D k A W0 [(h0, .inr (5, [.int (zI 0), .null, .int (zI 0), .long (zL 0), .long (zL 0), .null, .null, .null, .null, .null, .int (zI 0), .int (zI 0), .null, .null, .null, .null, .int (zI 0), .int (zI 0), .null, .int (zI 0), .int (zI 0), .int (zI 0), .int (zI 0), .null, .long (zL 0)])), (q1, .inl (k 0, 6, .inl (fun _ => zI 0)))] zs H locs := hG
  refine W.widen (k := 1) (n := 6) (by omega) (by omega) ?_
  refine zk_putF (Cn := RX5) (T := TX5) (N := 25) (ci := 5) (fty := (.array .int)) (v := .ref q1) zC hG uw_X5 tyX5 tyX5_ok nmX5 0 rfl rfl 1 (by decide) wl_X5_7 (fun _ h => h) rfl hin rfl (by decide +kernel) rfl rfl (Nat.le_of_ble_eq_true rfl) dX5_init_9 (fun H locs hG => ?_)
  have hG : GK D k A W0 [(h0, .inr (5, [.int (zI 0), .ref q1, .int (zI 0), .long (zL 0), .long (zL 0), .null, .null, .null, .null, .null, .int (zI 0), .int (zI 0), .null, .null, .null, .null, .int (zI 0), .int (zI 0), .null, .int (zI 0), .int (zI 0), .int (zI 0), .int (zI 0), .null, .long (zL 0)])), (q1, .inl (k 0, 6, .inl (fun _ => zI 0)))] zs H locs := hG
  refine lv_aload_n zC.1 zC.2.1 dX5_init_12 rfl (lv_at hl 0 rfl) ?_
  refine zr_lconst (z := 1) zC dX5_init_13 (by decide +kernel) ?_
  refine zk_put (Cn := RX5) (T := TX5) (N := 25) (ci := 5) (fty := .long) (v := .long (zL 1)) zC hG uw_X5 tyX5 tyX5_ok nmX5 0 rfl rfl 4 (by decide) wl_X5_13 (fun _ h => h) rfl (by decide +kernel) rfl rfl (Nat.le_of_ble_eq_true rfl) dX5_init_14 (fun H locs hG => ?_)
  have hG : GK D k A W0 [(h0, .inr (5, [.int (zI 0), .ref q1, .int (zI 0), .long (zL 0), .long (zL 1), .null, .null, .null, .null, .null, .int (zI 0), .int (zI 0), .null, .null, .null, .null, .int (zI 0), .int (zI 0), .null, .int (zI 0), .int (zI 0), .int (zI 0), .int (zI 0), .null, .long (zL 0)])), (q1, .inl (k 0, 6, .inl (fun _ => zI 0)))] zs H locs := hG
  refine lv_aload_n zC.1 zC.2.1 dX5_init_17 rfl (lv_at hl 0 rfl) ?_
  refine zr_bipush zC dX5_init_18 (by decide +kernel) ?_
  refine zk_newI (N := 6) zC hG rfl (by decide) (by show _ ≤ 12; omega) (by show _ ≤ 639; omega) dX5_init_20 (fun q2 H hG => ?_)
  have hG : GK D k A W0 [(h0, .inr (5, [.int (zI 0), .ref q1, .int (zI 0), .long (zL 0), .long (zL 1), .null, .null, .null, .null, .null, .int (zI 0), .int (zI 0), .null, .null, .null, .null, .int (zI 0), .int (zI 0), .null, .int (zI 0), .int (zI 0), .int (zI 0), .int (zI 0), .null, .long (zL 0)])), (q1, .inl (k 0, 6, .inl (fun _ => zI 0))), (q2, .inl (k 0, 6, .inl (fun _ => zI 0)))] zs H locs := hG
  refine W.widen (k := 2) (n := 12) (by omega) (by omega) ?_
  refine zk_putF (Cn := RX5) (T := TX5) (N := 25) (ci := 5) (fty := (.array .int)) (v := .ref q2) zC hG uw_X5 tyX5 tyX5_ok nmX5 0 rfl rfl 5 (by decide) wl_X5_17 (fun _ h => h) rfl hin rfl (by decide +kernel) rfl rfl (Nat.le_of_ble_eq_true rfl) dX5_init_22 (fun H locs hG => ?_)
  have hG : GK D k A W0 [(h0, .inr (5, [.int (zI 0), .ref q1, .int (zI 0), .long (zL 0), .long (zL 1), .ref q2, .null, .null, .null, .null, .int (zI 0), .int (zI 0), .null, .null, .null, .null, .int (zI 0), .int (zI 0), .null, .int (zI 0), .int (zI 0), .int (zI 0), .int (zI 0), .null, .long (zL 0)])), (q1, .inl (k 0, 6, .inl (fun _ => zI 0))), (q2, .inl (k 0, 6, .inl (fun _ => zI 0)))] zs H locs := hG
  refine lv_aload_n zC.1 zC.2.1 dX5_init_25 rfl (lv_at hl 0 rfl) ?_
  refine zr_sipush zC dX5_init_26 (by decide +kernel) ?_
  refine zk_newI (N := 240) zC hG rfl (by decide) (by show _ ≤ 12; omega) (by show _ ≤ 639; omega) dX5_init_29 (fun q3 H hG => ?_)
  have hG : GK D k A W0 [(h0, .inr (5, [.int (zI 0), .ref q1, .int (zI 0), .long (zL 0), .long (zL 1), .ref q2, .null, .null, .null, .null, .int (zI 0), .int (zI 0), .null, .null, .null, .null, .int (zI 0), .int (zI 0), .null, .int (zI 0), .int (zI 0), .int (zI 0), .int (zI 0), .null, .long (zL 0)])), (q1, .inl (k 0, 6, .inl (fun _ => zI 0))), (q2, .inl (k 0, 6, .inl (fun _ => zI 0))), (q3, .inl (k 0, 240, .inl (fun _ => zI 0)))] zs H locs := hG
  refine W.widen (k := 3) (n := 252) (by omega) (by omega) ?_
  refine zk_putF (Cn := RX5) (T := TX5) (N := 25) (ci := 5) (fty := (.array .int)) (v := .ref q3) zC hG uw_X5 tyX5 tyX5_ok nmX5 0 rfl rfl 6 (by decide) wl_X5_20 (fun _ h => h) rfl hin rfl (by decide +kernel) rfl rfl (Nat.le_of_ble_eq_true rfl) dX5_init_31 (fun H locs hG => ?_)
  have hG : GK D k A W0 [(h0, .inr (5, [.int (zI 0), .ref q1, .int (zI 0), .long (zL 0), .long (zL 1), .ref q2, .ref q3, .null, .null, .null, .int (zI 0), .int (zI 0), .null, .null, .null, .null, .int (zI 0), .int (zI 0), .null, .int (zI 0), .int (zI 0), .int (zI 0), .int (zI 0), .null, .long (zL 0)])), (q1, .inl (k 0, 6, .inl (fun _ => zI 0))), (q2, .inl (k 0, 6, .inl (fun _ => zI 0))), (q3, .inl (k 0, 240, .inl (fun _ => zI 0)))] zs H locs := hG
  refine lv_aload_n zC.1 zC.2.1 dX5_init_34 rfl (lv_at hl 0 rfl) ?_
  refine zr_bipush zC dX5_init_35 (by decide +kernel) ?_
  refine zk_newI (N := 40) zC hG rfl (by decide) (by show _ ≤ 12; omega) (by show _ ≤ 639; omega) dX5_init_37 (fun q4 H hG => ?_)
  have hG : GK D k A W0 [(h0, .inr (5, [.int (zI 0), .ref q1, .int (zI 0), .long (zL 0), .long (zL 1), .ref q2, .ref q3, .null, .null, .null, .int (zI 0), .int (zI 0), .null, .null, .null, .null, .int (zI 0), .int (zI 0), .null, .int (zI 0), .int (zI 0), .int (zI 0), .int (zI 0), .null, .long (zL 0)])), (q1, .inl (k 0, 6, .inl (fun _ => zI 0))), (q2, .inl (k 0, 6, .inl (fun _ => zI 0))), (q3, .inl (k 0, 240, .inl (fun _ => zI 0))), (q4, .inl (k 0, 40, .inl (fun _ => zI 0)))] zs H locs := hG
  refine W.widen (k := 4) (n := 292) (by omega) (by omega) ?_
  refine zk_putF (Cn := RX5) (T := TX5) (N := 25) (ci := 5) (fty := (.array .int)) (v := .ref q4) zC hG uw_X5 tyX5 tyX5_ok nmX5 0 rfl rfl 7 (by decide) wl_X5_23 (fun _ h => h) rfl hin rfl (by decide +kernel) rfl rfl (Nat.le_of_ble_eq_true rfl) dX5_init_39 (fun H locs hG => ?_)
  have hG : GK D k A W0 [(h0, .inr (5, [.int (zI 0), .ref q1, .int (zI 0), .long (zL 0), .long (zL 1), .ref q2, .ref q3, .ref q4, .null, .null, .int (zI 0), .int (zI 0), .null, .null, .null, .null, .int (zI 0), .int (zI 0), .null, .int (zI 0), .int (zI 0), .int (zI 0), .int (zI 0), .null, .long (zL 0)])), (q1, .inl (k 0, 6, .inl (fun _ => zI 0))), (q2, .inl (k 0, 6, .inl (fun _ => zI 0))), (q3, .inl (k 0, 240, .inl (fun _ => zI 0))), (q4, .inl (k 0, 40, .inl (fun _ => zI 0)))] zs H locs := hG
  refine lv_aload_n zC.1 zC.2.1 dX5_init_42 rfl (lv_at hl 0 rfl) ?_
  refine zr_iconst zC dX5_init_43 ?_
  refine zk_newI (N := 4) zC hG rfl (by decide) (by show _ ≤ 12; omega) (by show _ ≤ 639; omega) dX5_init_44 (fun q5 H hG => ?_)
  have hG : GK D k A W0 [(h0, .inr (5, [.int (zI 0), .ref q1, .int (zI 0), .long (zL 0), .long (zL 1), .ref q2, .ref q3, .ref q4, .null, .null, .int (zI 0), .int (zI 0), .null, .null, .null, .null, .int (zI 0), .int (zI 0), .null, .int (zI 0), .int (zI 0), .int (zI 0), .int (zI 0), .null, .long (zL 0)])), (q1, .inl (k 0, 6, .inl (fun _ => zI 0))), (q2, .inl (k 0, 6, .inl (fun _ => zI 0))), (q3, .inl (k 0, 240, .inl (fun _ => zI 0))), (q4, .inl (k 0, 40, .inl (fun _ => zI 0))), (q5, .inl (k 0, 4, .inl (fun _ => zI 0)))] zs H locs := hG
  refine W.widen (k := 5) (n := 296) (by omega) (by omega) ?_
  refine zk_putF (Cn := RX5) (T := TX5) (N := 25) (ci := 5) (fty := (.array .int)) (v := .ref q5) zC hG uw_X5 tyX5 tyX5_ok nmX5 0 rfl rfl 8 (by decide) wl_X5_26 (fun _ h => h) rfl hin rfl (by decide +kernel) rfl rfl (Nat.le_of_ble_eq_true rfl) dX5_init_46 (fun H locs hG => ?_)
  have hG : GK D k A W0 [(h0, .inr (5, [.int (zI 0), .ref q1, .int (zI 0), .long (zL 0), .long (zL 1), .ref q2, .ref q3, .ref q4, .ref q5, .null, .int (zI 0), .int (zI 0), .null, .null, .null, .null, .int (zI 0), .int (zI 0), .null, .int (zI 0), .int (zI 0), .int (zI 0), .int (zI 0), .null, .long (zL 0)])), (q1, .inl (k 0, 6, .inl (fun _ => zI 0))), (q2, .inl (k 0, 6, .inl (fun _ => zI 0))), (q3, .inl (k 0, 240, .inl (fun _ => zI 0))), (q4, .inl (k 0, 40, .inl (fun _ => zI 0))), (q5, .inl (k 0, 4, .inl (fun _ => zI 0)))] zs H locs := hG
  refine lv_aload_n zC.1 zC.2.1 dX5_init_49 rfl (lv_at hl 0 rfl) ?_
  refine zr_sipush zC dX5_init_50 (by decide +kernel) ?_
  refine zk_newI (N := 240) zC hG rfl (by decide) (by show _ ≤ 12; omega) (by show _ ≤ 639; omega) dX5_init_53 (fun q6 H hG => ?_)
  have hG : GK D k A W0 [(h0, .inr (5, [.int (zI 0), .ref q1, .int (zI 0), .long (zL 0), .long (zL 1), .ref q2, .ref q3, .ref q4, .ref q5, .null, .int (zI 0), .int (zI 0), .null, .null, .null, .null, .int (zI 0), .int (zI 0), .null, .int (zI 0), .int (zI 0), .int (zI 0), .int (zI 0), .null, .long (zL 0)])), (q1, .inl (k 0, 6, .inl (fun _ => zI 0))), (q2, .inl (k 0, 6, .inl (fun _ => zI 0))), (q3, .inl (k 0, 240, .inl (fun _ => zI 0))), (q4, .inl (k 0, 40, .inl (fun _ => zI 0))), (q5, .inl (k 0, 4, .inl (fun _ => zI 0))), (q6, .inl (k 0, 240, .inl (fun _ => zI 0)))] zs H locs := hG
  refine W.widen (k := 6) (n := 536) (by omega) (by omega) ?_
  refine zk_putF (Cn := RX5) (T := TX5) (N := 25) (ci := 5) (fty := (.array .int)) (v := .ref q6) zC hG uw_X5 tyX5 tyX5_ok nmX5 0 rfl rfl 9 (by decide) wl_X5_29 (fun _ h => h) rfl hin rfl (by decide +kernel) rfl rfl (Nat.le_of_ble_eq_true rfl) dX5_init_55 (fun H locs hG => ?_)
  have hG : GK D k A W0 [(h0, .inr (5, [.int (zI 0), .ref q1, .int (zI 0), .long (zL 0), .long (zL 1), .ref q2, .ref q3, .ref q4, .ref q5, .ref q6, .int (zI 0), .int (zI 0), .null, .null, .null, .null, .int (zI 0), .int (zI 0), .null, .int (zI 0), .int (zI 0), .int (zI 0), .int (zI 0), .null, .long (zL 0)])), (q1, .inl (k 0, 6, .inl (fun _ => zI 0))), (q2, .inl (k 0, 6, .inl (fun _ => zI 0))), (q3, .inl (k 0, 240, .inl (fun _ => zI 0))), (q4, .inl (k 0, 40, .inl (fun _ => zI 0))), (q5, .inl (k 0, 4, .inl (fun _ => zI 0))), (q6, .inl (k 0, 240, .inl (fun _ => zI 0)))] zs H locs := hG
  refine lv_aload_n zC.1 zC.2.1 dX5_init_58 rfl (lv_at hl 0 rfl) ?_
  refine zr_iconst zC dX5_init_59 ?_
  refine zk_newI (N := 5) zC hG rfl (by decide) (by show _ ≤ 12; omega) (by show _ ≤ 639; omega) dX5_init_60 (fun q7 H hG => ?_)
  have hG : GK D k A W0 [(h0, .inr (5, [.int (zI 0), .ref q1, .int (zI 0), .long (zL 0), .long (zL 1), .ref q2, .ref q3, .ref q4, .ref q5, .ref q6, .int (zI 0), .int (zI 0), .null, .null, .null, .null, .int (zI 0), .int (zI 0), .null, .int (zI 0), .int (zI 0), .int (zI 0), .int (zI 0), .null, .long (zL 0)])), (q1, .inl (k 0, 6, .inl (fun _ => zI 0))), (q2, .inl (k 0, 6, .inl (fun _ => zI 0))), (q3, .inl (k 0, 240, .inl (fun _ => zI 0))), (q4, .inl (k 0, 40, .inl (fun _ => zI 0))), (q5, .inl (k 0, 4, .inl (fun _ => zI 0))), (q6, .inl (k 0, 240, .inl (fun _ => zI 0))), (q7, .inl (k 0, 5, .inl (fun _ => zI 0)))] zs H locs := hG
  refine W.widen (k := 7) (n := 541) (by omega) (by omega) ?_
  refine zk_putF (Cn := RX5) (T := TX5) (N := 25) (ci := 5) (fty := (.array .int)) (v := .ref q7) zC hG uw_X5 tyX5 tyX5_ok nmX5 0 rfl rfl 12 (by decide) wl_X5_32 (fun _ h => h) rfl hin rfl (by decide +kernel) rfl rfl (Nat.le_of_ble_eq_true rfl) dX5_init_62 (fun H locs hG => ?_)
  have hG : GK D k A W0 [(h0, .inr (5, [.int (zI 0), .ref q1, .int (zI 0), .long (zL 0), .long (zL 1), .ref q2, .ref q3, .ref q4, .ref q5, .ref q6, .int (zI 0), .int (zI 0), .ref q7, .null, .null, .null, .int (zI 0), .int (zI 0), .null, .int (zI 0), .int (zI 0), .int (zI 0), .int (zI 0), .null, .long (zL 0)])), (q1, .inl (k 0, 6, .inl (fun _ => zI 0))), (q2, .inl (k 0, 6, .inl (fun _ => zI 0))), (q3, .inl (k 0, 240, .inl (fun _ => zI 0))), (q4, .inl (k 0, 40, .inl (fun _ => zI 0))), (q5, .inl (k 0, 4, .inl (fun _ => zI 0))), (q6, .inl (k 0, 240, .inl (fun _ => zI 0))), (q7, .inl (k 0, 5, .inl (fun _ => zI 0)))] zs H locs := hG
  refine lv_aload_n zC.1 zC.2.1 dX5_init_65 rfl (lv_at hl 0 rfl) ?_
  refine zr_iconst zC dX5_init_66 ?_
  refine zk_newI (N := 5) zC hG rfl (by decide) (by show _ ≤ 12; omega) (by show _ ≤ 639; omega) dX5_init_67 (fun q8 H hG => ?_)
  have hG : GK D k A W0 [(h0, .inr (5, [.int (zI 0), .ref q1, .int (zI 0), .long (zL 0), .long (zL 1), .ref q2, .ref q3, .ref q4, .ref q5, .ref q6, .int (zI 0), .int (zI 0), .ref q7, .null, .null, .null, .int (zI 0), .int (zI 0), .null, .int (zI 0), .int (zI 0), .int (zI 0), .int (zI 0), .null, .long (zL 0)])), (q1, .inl (k 0, 6, .inl (fun _ => zI 0))), (q2, .inl (k 0, 6, .inl (fun _ => zI 0))), (q3, .inl (k 0, 240, .inl (fun _ => zI 0))), (q4, .inl (k 0, 40, .inl (fun _ => zI 0))), (q5, .inl (k 0, 4, .inl (fun _ => zI 0))), (q6, .inl (k 0, 240, .inl (fun _ => zI 0))), (q7, .inl (k 0, 5, .inl (fun _ => zI 0))), (q8, .inl (k 0, 5, .inl (fun _ => zI 0)))] zs H locs := hG
  refine W.widen (k := 8) (n := 546) (by omega) (by omega) ?_
  refine zk_putF (Cn := RX5) (T := TX5) (N := 25) (ci := 5) (fty := (.array .int)) (v := .ref q8) zC hG uw_X5 tyX5 tyX5_ok nmX5 0 rfl rfl 13 (by decide) wl_X5_35 (fun _ h => h) rfl hin rfl (by decide +kernel) rfl rfl (Nat.le_of_ble_eq_true rfl) dX5_init_69 (fun H locs hG => ?_)
  have hG : GK D k A W0 [(h0, .inr (5, [.int (zI 0), .ref q1, .int (zI 0), .long (zL 0), .long (zL 1), .ref q2, .ref q3, .ref q4, .ref q5, .ref q6, .int (zI 0), .int (zI 0), .ref q7, .ref q8, .null, .null, .int (zI 0), .int (zI 0), .null, .int (zI 0), .int (zI 0), .int (zI 0), .int (zI 0), .null, .long (zL 0)])), (q1, .inl (k 0, 6, .inl (fun _ => zI 0))), (q2, .inl (k 0, 6, .inl (fun _ => zI 0))), (q3, .inl (k 0, 240, .inl (fun _ => zI 0))), (q4, .inl (k 0, 40, .inl (fun _ => zI 0))), (q5, .inl (k 0, 4, .inl (fun _ => zI 0))), (q6, .inl (k 0, 240, .inl (fun _ => zI 0))), (q7, .inl (k 0, 5, .inl (fun _ => zI 0))), (q8, .inl (k 0, 5, .inl (fun _ => zI 0)))] zs H locs := hG
  refine lv_aload_n zC.1 zC.2.1 dX5_init_72 rfl (lv_at hl 0 rfl) ?_
  refine zr_iconst zC dX5_init_73 ?_
  refine zk_newI (N := 5) zC hG rfl (by decide) (by show _ ≤ 12; omega) (by show _ ≤ 639; omega) dX5_init_74 (fun q9 H hG => ?_)
  have hG : GK D k A W0 [(h0, .inr (5, [.int (zI 0), .ref q1, .int (zI 0), .long (zL 0), .long (zL 1), .ref q2, .ref q3, .ref q4, .ref q5, .ref q6, .int (zI 0), .int (zI 0), .ref q7, .ref q8, .null, .null, .int (zI 0), .int (zI 0), .null, .int (zI 0), .int (zI 0), .int (zI 0), .int (zI 0), .null, .long (zL 0)])), (q1, .inl (k 0, 6, .inl (fun _ => zI 0))), (q2, .inl (k 0, 6, .inl (fun _ => zI 0))), (q3, .inl (k 0, 240, .inl (fun _ => zI 0))), (q4, .inl (k 0, 40, .inl (fun _ => zI 0))), (q5, .inl (k 0, 4, .inl (fun _ => zI 0))), (q6, .inl (k 0, 240, .inl (fun _ => zI 0))), (q7, .inl (k 0, 5, .inl (fun _ => zI 0))), (q8, .inl (k 0, 5, .inl (fun _ => zI 0))), (q9, .inl (k 0, 5, .inl (fun _ => zI 0)))] zs H locs := hG
  refine W.widen (k := 9) (n := 551) (by omega) (by omega) ?_
  refine zk_putF (Cn := RX5) (T := TX5) (N := 25) (ci := 5) (fty := (.array .int)) (v := .ref q9) zC hG uw_X5 tyX5 tyX5_ok nmX5 0 rfl rfl 14 (by decide) wl_X5_38 (fun _ h => h) rfl hin rfl (by decide +kernel) rfl rfl (Nat.le_of_ble_eq_true rfl) dX5_init_76 (fun H locs hG => ?_)
  have hG : GK D k A W0 [(h0, .inr (5, [.int (zI 0), .ref q1, .int (zI 0), .long (zL 0), .long (zL 1), .ref q2, .ref q3, .ref q4, .ref q5, .ref q6, .int (zI 0), .int (zI 0), .ref q7, .ref q8, .ref q9, .null, .int (zI 0), .int (zI 0), .null, .int (zI 0), .int (zI 0), .int (zI 0), .int (zI 0), .null, .long (zL 0)])), (q1, .inl (k 0, 6, .inl (fun _ => zI 0))), (q2, .inl (k 0, 6, .inl (fun _ => zI 0))), (q3, .inl (k 0, 240, .inl (fun _ => zI 0))), (q4, .inl (k 0, 40, .inl (fun _ => zI 0))), (q5, .inl (k 0, 4, .inl (fun _ => zI 0))), (q6, .inl (k 0, 240, .inl (fun _ => zI 0))), (q7, .inl (k 0, 5, .inl (fun _ => zI 0))), (q8, .inl (k 0, 5, .inl (fun _ => zI 0))), (q9, .inl (k 0, 5, .inl (fun _ => zI 0)))] zs H locs := hG
  refine lv_aload_n zC.1 zC.2.1 dX5_init_79 rfl (lv_at hl 0 rfl) ?_
  refine zr_iconst zC dX5_init_80 ?_
  refine zk_newI (N := 5) zC hG rfl (by decide) (by show _ ≤ 12; omega) (by show _ ≤ 639; omega) dX5_init_81 (fun q10 H hG => ?_)
  have hG : GK D k A W0 [(h0, .inr (5, [.int (zI 0), .ref q1, .int (zI 0), .long (zL 0), .long (zL 1), .ref q2, .ref q3, .ref q4, .ref q5, .ref q6, .int (zI 0), .int (zI 0), .ref q7, .ref q8, .ref q9, .null, .int (zI 0), .int (zI 0), .null, .int (zI 0), .int (zI 0), .int (zI 0), .int (zI 0), .null, .long (zL 0)])), (q1, .inl (k 0, 6, .inl (fun _ => zI 0))), (q2, .inl (k 0, 6, .inl (fun _ => zI 0))), (q3, .inl (k 0, 240, .inl (fun _ => zI 0))), (q4, .inl (k 0, 40, .inl (fun _ => zI 0))), (q5, .inl (k 0, 4, .inl (fun _ => zI 0))), (q6, .inl (k 0, 240, .inl (fun _ => zI 0))), (q7, .inl (k 0, 5, .inl (fun _ => zI 0))), (q8, .inl (k 0, 5, .inl (fun _ => zI 0))), (q9, .inl (k 0, 5, .inl (fun _ => zI 0))), (q10, .inl (k 0, 5, .inl (fun _ => zI 0)))] zs H locs := hG
  refine W.widen (k := 10) (n := 556) (by omega) (by omega) ?_
  refine zk_putF (Cn := RX5) (T := TX5) (N := 25) (ci := 5) (fty := (.array .int)) (v := .ref q10) zC hG uw_X5 tyX5 tyX5_ok nmX5 0 rfl rfl 15 (by decide) wl_X5_41 (fun _ h => h) rfl hin rfl (by decide +kernel) rfl rfl (Nat.le_of_ble_eq_true rfl) dX5_init_83 (fun H locs hG => ?_)
  have hG : GK D k A W0 [(h0, .inr (5, [.int (zI 0), .ref q1, .int (zI 0), .long (zL 0), .long (zL 1), .ref q2, .ref q3, .ref q4, .ref q5, .ref q6, .int (zI 0), .int (zI 0), .ref q7, .ref q8, .ref q9, .ref q10, .int (zI 0), .int (zI 0), .null, .int (zI 0), .int (zI 0), .int (zI 0), .int (zI 0), .null, .long (zL 0)])), (q1, .inl (k 0, 6, .inl (fun _ => zI 0))), (q2, .inl (k 0, 6, .inl (fun _ => zI 0))), (q3, .inl (k 0, 240, .inl (fun _ => zI 0))), (q4, .inl (k 0, 40, .inl (fun _ => zI 0))), (q5, .inl (k 0, 4, .inl (fun _ => zI 0))), (q6, .inl (k 0, 240, .inl (fun _ => zI 0))), (q7, .inl (k 0, 5, .inl (fun _ => zI 0))), (q8, .inl (k 0, 5, .inl (fun _ => zI 0))), (q9, .inl (k 0, 5, .inl (fun _ => zI 0))), (q10, .inl (k 0, 5, .inl (fun _ => zI 0)))] zs H locs := hG
  refine lv_aload_n zC.1 zC.2.1 dX5_init_86 rfl (lv_at hl 0 rfl) ?_
  refine zr_bipush zC dX5_init_87 (by decide +kernel) ?_
  refine zk_newI (N := 20) zC hG rfl (by decide) (by show _ ≤ 12; omega) (by show _ ≤ 639; omega) dX5_init_89 (fun q11 H hG => ?_)
  have hG : GK D k A W0 [(h0, .inr (5, [.int (zI 0), .ref q1, .int (zI 0), .long (zL 0), .long (zL 1), .ref q2, .ref q3, .ref q4, .ref q5, .ref q6, .int (zI 0), .int (zI 0), .ref q7, .ref q8, .ref q9, .ref q10, .int (zI 0), .int (zI 0), .null, .int (zI 0), .int (zI 0), .int (zI 0), .int (zI 0), .null, .long (zL 0)])), (q1, .inl (k 0, 6, .inl (fun _ => zI 0))), (q2, .inl (k 0, 6, .inl (fun _ => zI 0))), (q3, .inl (k 0, 240, .inl (fun _ => zI 0))), (q4, .inl (k 0, 40, .inl (fun _ => zI 0))), (q5, .inl (k 0, 4, .inl (fun _ => zI 0))), (q6, .inl (k 0, 240, .inl (fun _ => zI 0))), (q7, .inl (k 0, 5, .inl (fun _ => zI 0))), (q8, .inl (k 0, 5, .inl (fun _ => zI 0))), (q9, .inl (k 0, 5, .inl (fun _ => zI 0))), (q10, .inl (k 0, 5, .inl (fun _ => zI 0))), (q11, .inl (k 0, 20, .inl (fun _ => zI 0)))] zs H locs := hG
  refine W.widen (k := 11) (n := 576) (by omega) (by omega) ?_
  refine zk_putF (Cn := RX5) (T := TX5) (N := 25) (ci := 5) (fty := (.array .int)) (v := .ref q11) zC hG uw_X5 tyX5 tyX5_ok nmX5 0 rfl rfl 18 (by decide) wl_X5_44 (fun _ h => h) rfl hin rfl (by decide +kernel) rfl rfl (Nat.le_of_ble_eq_true rfl) dX5_init_91 (fun H locs hG => ?_)
  have hG : GK D k A W0 [(h0, .inr (5, [.int (zI 0), .ref q1, .int (zI 0), .long (zL 0), .long (zL 1), .ref q2, .ref q3, .ref q4, .ref q5, .ref q6, .int (zI 0), .int (zI 0), .ref q7, .ref q8, .ref q9, .ref q10, .int (zI 0), .int (zI 0), .ref q11, .int (zI 0), .int (zI 0), .int (zI 0), .int (zI 0), .null, .long (zL 0)])), (q1, .inl (k 0, 6, .inl (fun _ => zI 0))), (q2, .inl (k 0, 6, .inl (fun _ => zI 0))), (q3, .inl (k 0, 240, .inl (fun _ => zI 0))), (q4, .inl (k 0, 40, .inl (fun _ => zI 0))), (q5, .inl (k 0, 4, .inl (fun _ => zI 0))), (q6, .inl (k 0, 240, .inl (fun _ => zI 0))), (q7, .inl (k 0, 5, .inl (fun _ => zI 0))), (q8, .inl (k 0, 5, .inl (fun _ => zI 0))), (q9, .inl (k 0, 5, .inl (fun _ => zI 0))), (q10, .inl (k 0, 5, .inl (fun _ => zI 0))), (q11, .inl (k 0, 20, .inl (fun _ => zI 0)))] zs H locs := hG
  refine lv_aload_n zC.1 zC.2.1 dX5_init_94 rfl (lv_at hl 0 rfl) ?_
  refine zr_bipush zC dX5_init_95 (by decide +kernel) ?_
  refine zk_newI (N := 63) zC hG rfl (by decide) (by show _ ≤ 12; omega) (by show _ ≤ 639; omega) dX5_init_97 (fun q12 H hG => ?_)
  have hG : GK D k A W0 [(h0, .inr (5, [.int (zI 0), .ref q1, .int (zI 0), .long (zL 0), .long (zL 1), .ref q2, .ref q3, .ref q4, .ref q5, .ref q6, .int (zI 0), .int (zI 0), .ref q7, .ref q8, .ref q9, .ref q10, .int (zI 0), .int (zI 0), .ref q11, .int (zI 0), .int (zI 0), .int (zI 0), .int (zI 0), .null, .long (zL 0)])), (q1, .inl (k 0, 6, .inl (fun _ => zI 0))), (q2, .inl (k 0, 6, .inl (fun _ => zI 0))), (q3, .inl (k 0, 240, .inl (fun _ => zI 0))), (q4, .inl (k 0, 40, .inl (fun _ => zI 0))), (q5, .inl (k 0, 4, .inl (fun _ => zI 0))), (q6, .inl (k 0, 240, .inl (fun _ => zI 0))), (q7, .inl (k 0, 5, .inl (fun _ => zI 0))), (q8, .inl (k 0, 5, .inl (fun _ => zI 0))), (q9, .inl (k 0, 5, .inl (fun _ => zI 0))), (q10, .inl (k 0, 5, .inl (fun _ => zI 0))), (q11, .inl (k 0, 20, .inl (fun _ => zI 0))), (q12, .inl (k 0, 63, .inl (fun _ => zI 0)))] zs H locs := hG
  refine W.widen (k := 12) (n := 639) (by omega) (by omega) ?_
  refine zk_putF (Cn := RX5) (T := TX5) (N := 25) (ci := 5) (fty := (.array .int)) (v := .ref q12) zC hG uw_X5 tyX5 tyX5_ok nmX5 0 rfl rfl 23 (by decide) wl_X5_47 (fun _ h => h) rfl hin rfl (by decide +kernel) rfl rfl (Nat.le_of_ble_eq_true rfl) dX5_init_99 (fun H locs hG => ?_)
  have hG : GK D k A W0 [(h0, .inr (5, [.int (zI 0), .ref q1, .int (zI 0), .long (zL 0), .long (zL 1), .ref q2, .ref q3, .ref q4, .ref q5, .ref q6, .int (zI 0), .int (zI 0), .ref q7, .ref q8, .ref q9, .ref q10, .int (zI 0), .int (zI 0), .ref q11, .int (zI 0), .int (zI 0), .int (zI 0), .int (zI 0), .ref q12, .long (zL 0)])), (q1, .inl (k 0, 6, .inl (fun _ => zI 0))), (q2, .inl (k 0, 6, .inl (fun _ => zI 0))), (q3, .inl (k 0, 240, .inl (fun _ => zI 0))), (q4, .inl (k 0, 40, .inl (fun _ => zI 0))), (q5, .inl (k 0, 4, .inl (fun _ => zI 0))), (q6, .inl (k 0, 240, .inl (fun _ => zI 0))), (q7, .inl (k 0, 5, .inl (fun _ => zI 0))), (q8, .inl (k 0, 5, .inl (fun _ => zI 0))), (q9, .inl (k 0, 5, .inl (fun _ => zI 0))), (q10, .inl (k 0, 5, .inl (fun _ => zI 0))), (q11, .inl (k 0, 20, .inl (fun _ => zI 0))), (q12, .inl (k 0, 63, .inl (fun _ => zI 0)))] zs H locs := hG
  refine zr_iconst zC dX5_init_102 ?_
  refine lv_istore_n (lv' := [(1, .int (zI 0)), (0, .ref h0)]) zC.1 zC.2.1 dX5_init_103 rfl hl (by decide) rfl (fun ls hl => ?_)
  refine lv_iload_n zC.1 zC.2.1 dX5_init_104 rfl (lv_at hl 0 rfl) ?_
  refine zr_bipush zC dX5_init_105 (by decide +kernel) ?_
  refine zr_icmp_ge (tgt := 124) zC dX5_init_107 (by decide) (by omega) (fun cX => absurd cX (by omega)) (fun _ => ?_)
  refine lv_aload_n zC.1 zC.2.1 dX5_init_110 rfl (lv_at hl 1 rfl) ?_
  refine zk_get (Cn := RX5) (T := TX5) (N := 25) (ci := 5) zC hG uw_X5 0 rfl rfl 5 (by decide) wl_X5_17 (fun _ h => h) rfl dX5_init_111 ?_
  refine lv_iload_n zC.1 zC.2.1 dX5_init_114 rfl (lv_at hl 0 rfl) ?_
  refine zr_bipush zC dX5_init_115 (by decide +kernel) ?_
  refine zk_iast zC hG 2 rfl (by decide) (by decide) dX5_init_117 (fun H locs hG => ?_)
  have hG : GK D k A W0 [(h0, .inr (5, [.int (zI 0), .ref q1, .int (zI 0), .long (zL 0), .long (zL 1), .ref q2, .ref q3, .ref q4, .ref q5, .ref q6, .int (zI 0), .int (zI 0), .ref q7, .ref q8, .ref q9, .ref q10, .int (zI 0), .int (zI 0), .ref q11, .int (zI 0), .int (zI 0), .int (zI 0), .int (zI 0), .ref q12, .long (zL 0)])), (q1, .inl (k 0, 6, .inl (fun _ => zI 0))), (q2, .inl (k 0, 6, .inl (upd (fun _ => zI 0) 0 (zI (-9))))), (q3, .inl (k 0, 240, .inl (fun _ => zI 0))), (q4, .inl (k 0, 40, .inl (fun _ => zI 0))), (q5, .inl (k 0, 4, .inl (fun _ => zI 0))), (q6, .inl (k 0, 240, .inl (fun _ => zI 0))), (q7, .inl (k 0, 5, .inl (fun _ => zI 0))), (q8, .inl (k 0, 5, .inl (fun _ => zI 0))), (q9, .inl (k 0, 5, .inl (fun _ => zI 0))), (q10, .inl (k 0, 5, .inl (fun _ => zI 0))), (q11, .inl (k 0, 20, .inl (fun _ => zI 0))), (q12, .inl (k 0, 63, .inl (fun _ => zI 0)))] zs H locs := hG
  refine zr_iinc (lv' := [(1, .int (zI 1)), (0, .ref h0)]) zC dX5_init_118 hl (k := 0) rfl (by decide) rfl (fun ls hl => ?_)
  refine lv_goto (tgt := 104) zC.1 zC.2.1 dX5_init_121 (by decide) ?_
  refine lv_iload_n zC.1 zC.2.1 dX5_init_104 rfl (lv_at hl 0 rfl) ?_
  refine zr_bipush zC dX5_init_105 (by decide +kernel) ?_
  refine zr_icmp_ge (tgt := 124) zC dX5_init_107 (by decide) (by omega) (fun cX => absurd cX (by omega)) (fun _ => ?_)
  refine lv_aload_n zC.1 zC.2.1 dX5_init_110 rfl (lv_at hl 1 rfl) ?_
  refine zk_get (Cn := RX5) (T := TX5) (N := 25) (ci := 5) zC hG uw_X5 0 rfl rfl 5 (by decide) wl_X5_17 (fun _ h => h) rfl dX5_init_111 ?_
  refine lv_iload_n zC.1 zC.2.1 dX5_init_114 rfl (lv_at hl 0 rfl) ?_
  refine zr_bipush zC dX5_init_115 (by decide +kernel) ?_
  refine zk_iast zC hG 2 rfl (by decide) (by decide) dX5_init_117 (fun H locs hG => ?_)
  have hG : GK D k A W0 [(h0, .inr (5, [.int (zI 0), .ref q1, .int (zI 0), .long (zL 0), .long (zL 1), .ref q2, .ref q3, .ref q4, .ref q5, .ref q6, .int (zI 0), .int (zI 0), .ref q7, .ref q8, .ref q9, .ref q10, .int (zI 0), .int (zI 0), .ref q11, .int (zI 0), .int (zI 0), .int (zI 0), .int (zI 0), .ref q12, .long (zL 0)])), (q1, .inl (k 0, 6, .inl (fun _ => zI 0))), (q2, .inl (k 0, 6, .inl (upd (upd (fun _ => zI 0) 0 (zI (-9))) 1 (zI (-9))))), (q3, .inl (k 0, 240, .inl (fun _ => zI 0))), (q4, .inl (k 0, 40, .inl (fun _ => zI 0))), (q5, .inl (k 0, 4, .inl (fun _ => zI 0))), (q6, .inl (k 0, 240, .inl (fun _ => zI 0))), (q7, .inl (k 0, 5, .inl (fun _ => zI 0))), (q8, .inl (k 0, 5, .inl (fun _ => zI 0))), (q9, .inl (k 0, 5, .inl (fun _ => zI 0))), (q10, .inl (k 0, 5, .inl (fun _ => zI 0))), (q11, .inl (k 0, 20, .inl (fun _ => zI 0))), (q12, .inl (k 0, 63, .inl (fun _ => zI 0)))] zs H locs := hG
  refine zr_iinc (lv' := [(1, .int (zI 2)), (0, .ref h0)]) zC dX5_init_118 hl (k := 0) rfl (by decide) rfl (fun ls hl => ?_)
  refine lv_goto (tgt := 104) zC.1 zC.2.1 dX5_init_121 (by decide) ?_
  refine lv_iload_n zC.1 zC.2.1 dX5_init_104 rfl (lv_at hl 0 rfl) ?_
  refine zr_bipush zC dX5_init_105 (by decide +kernel) ?_
  refine zr_icmp_ge (tgt := 124) zC dX5_init_107 (by decide) (by omega) (fun cX => absurd cX (by omega)) (fun _ => ?_)
  refine lv_aload_n zC.1 zC.2.1 dX5_init_110 rfl (lv_at hl 1 rfl) ?_
  refine zk_get (Cn := RX5) (T := TX5) (N := 25) (ci := 5) zC hG uw_X5 0 rfl rfl 5 (by decide) wl_X5_17 (fun _ h => h) rfl dX5_init_111 ?_
  refine lv_iload_n zC.1 zC.2.1 dX5_init_114 rfl (lv_at hl 0 rfl) ?_
  refine zr_bipush zC dX5_init_115 (by decide +kernel) ?_
  refine zk_iast zC hG 2 rfl (by decide) (by decide) dX5_init_117 (fun H locs hG => ?_)
  have hG : GK D k A W0 [(h0, .inr (5, [.int (zI 0), .ref q1, .int (zI 0), .long (zL 0), .long (zL 1), .ref q2, .ref q3, .ref q4, .ref q5, .ref q6, .int (zI 0), .int (zI 0), .ref q7, .ref q8, .ref q9, .ref q10, .int (zI 0), .int (zI 0), .ref q11, .int (zI 0), .int (zI 0), .int (zI 0), .int (zI 0), .ref q12, .long (zL 0)])), (q1, .inl (k 0, 6, .inl (fun _ => zI 0))), (q2, .inl (k 0, 6, .inl (upd (upd (upd (fun _ => zI 0) 0 (zI (-9))) 1 (zI (-9))) 2 (zI (-9))))), (q3, .inl (k 0, 240, .inl (fun _ => zI 0))), (q4, .inl (k 0, 40, .inl (fun _ => zI 0))), (q5, .inl (k 0, 4, .inl (fun _ => zI 0))), (q6, .inl (k 0, 240, .inl (fun _ => zI 0))), (q7, .inl (k 0, 5, .inl (fun _ => zI 0))), (q8, .inl (k 0, 5, .inl (fun _ => zI 0))), (q9, .inl (k 0, 5, .inl (fun _ => zI 0))), (q10, .inl (k 0, 5, .inl (fun _ => zI 0))), (q11, .inl (k 0, 20, .inl (fun _ => zI 0))), (q12, .inl (k 0, 63, .inl (fun _ => zI 0)))] zs H locs := hG
  refine zr_iinc (lv' := [(1, .int (zI 3)), (0, .ref h0)]) zC dX5_init_118 hl (k := 0) rfl (by decide) rfl (fun ls hl => ?_)
  refine lv_goto (tgt := 104) zC.1 zC.2.1 dX5_init_121 (by decide) ?_
  refine lv_iload_n zC.1 zC.2.1 dX5_init_104 rfl (lv_at hl 0 rfl) ?_
  refine zr_bipush zC dX5_init_105 (by decide +kernel) ?_
  refine zr_icmp_ge (tgt := 124) zC dX5_init_107 (by decide) (by omega) (fun cX => absurd cX (by omega)) (fun _ => ?_)
  refine lv_aload_n zC.1 zC.2.1 dX5_init_110 rfl (lv_at hl 1 rfl) ?_
  refine zk_get (Cn := RX5) (T := TX5) (N := 25) (ci := 5) zC hG uw_X5 0 rfl rfl 5 (by decide) wl_X5_17 (fun _ h => h) rfl dX5_init_111 ?_
  refine lv_iload_n zC.1 zC.2.1 dX5_init_114 rfl (lv_at hl 0 rfl) ?_
  refine zr_bipush zC dX5_init_115 (by decide +kernel) ?_
  refine zk_iast zC hG 2 rfl (by decide) (by decide) dX5_init_117 (fun H locs hG => ?_)
  have hG : GK D k A W0 [(h0, .inr (5, [.int (zI 0), .ref q1, .int (zI 0), .long (zL 0), .long (zL 1), .ref q2, .ref q3, .ref q4, .ref q5, .ref q6, .int (zI 0), .int (zI 0), .ref q7, .ref q8, .ref q9, .ref q10, .int (zI 0), .int (zI 0), .ref q11, .int (zI 0), .int (zI 0), .int (zI 0), .int (zI 0), .ref q12, .long (zL 0)])), (q1, .inl (k 0, 6, .inl (fun _ => zI 0))), (q2, .inl (k 0, 6, .inl (upd (upd (upd (upd (fun _ => zI 0) 0 (zI (-9))) 1 (zI (-9))) 2 (zI (-9))) 3 (zI (-9))))), (q3, .inl (k 0, 240, .inl (fun _ => zI 0))), (q4, .inl (k 0, 40, .inl (fun _ => zI 0))), (q5, .inl (k 0, 4, .inl (fun _ => zI 0))), (q6, .inl (k 0, 240, .inl (fun _ => zI 0))), (q7, .inl (k 0, 5, .inl (fun _ => zI 0))), (q8, .inl (k 0, 5, .inl (fun _ => zI 0))), (q9, .inl (k 0, 5, .inl (fun _ => zI 0))), (q10, .inl (k 0, 5, .inl (fun _ => zI 0))), (q11, .inl (k 0, 20, .inl (fun _ => zI 0))), (q12, .inl (k 0, 63, .inl (fun _ => zI 0)))] zs H locs := hG
  refine zr_iinc (lv' := [(1, .int (zI 4)), (0, .ref h0)]) zC dX5_init_118 hl (k := 0) rfl (by decide) rfl (fun ls hl => ?_)
  refine lv_goto (tgt := 104) zC.1 zC.2.1 dX5_init_121 (by decide) ?_
  refine lv_iload_n zC.1 zC.2.1 dX5_init_104 rfl (lv_at hl 0 rfl) ?_
  refine zr_bipush zC dX5_init_105 (by decide +kernel) ?_
  refine zr_icmp_ge (tgt := 124) zC dX5_init_107 (by decide) (by omega) (fun cX => absurd cX (by omega)) (fun _ => ?_)
  refine lv_aload_n zC.1 zC.2.1 dX5_init_110 rfl (lv_at hl 1 rfl) ?_
  refine zk_get (Cn := RX5) (T := TX5) (N := 25) (ci := 5) zC hG uw_X5 0 rfl rfl 5 (by decide) wl_X5_17 (fun _ h => h) rfl dX5_init_111 ?_
  refine lv_iload_n zC.1 zC.2.1 dX5_init_114 rfl (lv_at hl 0 rfl) ?_
  refine zr_bipush zC dX5_init_115 (by decide +kernel) ?_
  refine zk_iast zC hG 2 rfl (by decide) (by decide) dX5_init_117 (fun H locs hG => ?_)
  have hG : GK D k A W0 [(h0, .inr (5, [.int (zI 0), .ref q1, .int (zI 0), .long (zL 0), .long (zL 1), .ref q2, .ref q3, .ref q4, .ref q5, .ref q6, .int (zI 0), .int (zI 0), .ref q7, .ref q8, .ref q9, .ref q10, .int (zI 0), .int (zI 0), .ref q11, .int (zI 0), .int (zI 0), .int (zI 0), .int (zI 0), .ref q12, .long (zL 0)])), (q1, .inl (k 0, 6, .inl (fun _ => zI 0))), (q2, .inl (k 0, 6, .inl (upd (upd (upd (upd (upd (fun _ => zI 0) 0 (zI (-9))) 1 (zI (-9))) 2 (zI (-9))) 3 (zI (-9))) 4 (zI (-9))))), (q3, .inl (k 0, 240, .inl (fun _ => zI 0))), (q4, .inl (k 0, 40, .inl (fun _ => zI 0))), (q5, .inl (k 0, 4, .inl (fun _ => zI 0))), (q6, .inl (k 0, 240, .inl (fun _ => zI 0))), (q7, .inl (k 0, 5, .inl (fun _ => zI 0))), (q8, .inl (k 0, 5, .inl (fun _ => zI 0))), (q9, .inl (k 0, 5, .inl (fun _ => zI 0))), (q10, .inl (k 0, 5, .inl (fun _ => zI 0))), (q11, .inl (k 0, 20, .inl (fun _ => zI 0))), (q12, .inl (k 0, 63, .inl (fun _ => zI 0)))] zs H locs := hG
  refine zr_iinc (lv' := [(1, .int (zI 5)), (0, .ref h0)]) zC dX5_init_118 hl (k := 0) rfl (by decide) rfl (fun ls hl => ?_)
  refine lv_goto (tgt := 104) zC.1 zC.2.1 dX5_init_121 (by decide) ?_
  refine lv_iload_n zC.1 zC.2.1 dX5_init_104 rfl (lv_at hl 0 rfl) ?_
  refine zr_bipush zC dX5_init_105 (by decide +kernel) ?_
  refine zr_icmp_ge (tgt := 124) zC dX5_init_107 (by decide) (by omega) (fun cX => absurd cX (by omega)) (fun _ => ?_)
  refine lv_aload_n zC.1 zC.2.1 dX5_init_110 rfl (lv_at hl 1 rfl) ?_
  refine zk_get (Cn := RX5) (T := TX5) (N := 25) (ci := 5) zC hG uw_X5 0 rfl rfl 5 (by decide) wl_X5_17 (fun _ h => h) rfl dX5_init_111 ?_
  refine lv_iload_n zC.1 zC.2.1 dX5_init_114 rfl (lv_at hl 0 rfl) ?_
  refine zr_bipush zC dX5_init_115 (by decide +kernel) ?_
  refine zk_iast zC hG 2 rfl (by decide) (by decide) dX5_init_117 (fun H locs hG => ?_)
  have hG : GK D k A W0 [(h0, .inr (5, [.int (zI 0), .ref q1, .int (zI 0), .long (zL 0), .long (zL 1), .ref q2, .ref q3, .ref q4, .ref q5, .ref q6, .int (zI 0), .int (zI 0), .ref q7, .ref q8, .ref q9, .ref q10, .int (zI 0), .int (zI 0), .ref q11, .int (zI 0), .int (zI 0), .int (zI 0), .int (zI 0), .ref q12, .long (zL 0)])), (q1, .inl (k 0, 6, .inl (fun _ => zI 0))), (q2, .inl (k 0, 6, .inl (upd (upd (upd (upd (upd (upd (fun _ => zI 0) 0 (zI (-9))) 1 (zI (-9))) 2 (zI (-9))) 3 (zI (-9))) 4 (zI (-9))) 5 (zI (-9))))), (q3, .inl (k 0, 240, .inl (fun _ => zI 0))), (q4, .inl (k 0, 40, .inl (fun _ => zI 0))), (q5, .inl (k 0, 4, .inl (fun _ => zI 0))), (q6, .inl (k 0, 240, .inl (fun _ => zI 0))), (q7, .inl (k 0, 5, .inl (fun _ => zI 0))), (q8, .inl (k 0, 5, .inl (fun _ => zI 0))), (q9, .inl (k 0, 5, .inl (fun _ => zI 0))), (q10, .inl (k 0, 5, .inl (fun _ => zI 0))), (q11, .inl (k 0, 20, .inl (fun _ => zI 0))), (q12, .inl (k 0, 63, .inl (fun _ => zI 0)))] zs H locs := hG
  refine zr_iinc (lv' := [(1, .int (zI 6)), (0, .ref h0)]) zC dX5_init_118 hl (k := 0) rfl (by decide) rfl (fun ls hl => ?_)
  refine lv_goto (tgt := 104) zC.1 zC.2.1 dX5_init_121 (by decide) ?_
  refine lv_iload_n zC.1 zC.2.1 dX5_init_104 rfl (lv_at hl 0 rfl) ?_
  refine zr_bipush zC dX5_init_105 (by decide +kernel) ?_
  refine zr_icmp_ge (tgt := 124) zC dX5_init_107 (by decide) (by omega) (fun _ => ?_) (fun cX => absurd (show (6 : Int) ≤ 6 by decide) (by omega))
  refine zr_iconst zC dX5_init_124 ?_
  refine lv_istore_n (lv' := [(1, .int (zI 0)), (0, .ref h0)]) zC.1 zC.2.1 dX5_init_125 rfl hl (by decide) rfl (fun ls hl => ?_)
  refine lv_iload_n zC.1 zC.2.1 dX5_init_126 rfl (lv_at hl 0 rfl) ?_
  refine zr_iconst zC dX5_init_127 ?_
  refine zr_icmp_ge (tgt := 145) zC dX5_init_128 (by decide) (by omega) (fun cX => absurd cX (by omega)) (fun _ => ?_)
  refine lv_aload_n zC.1 zC.2.1 dX5_init_131 rfl (lv_at hl 1 rfl) ?_
  refine zk_get (Cn := RX5) (T := TX5) (N := 25) (ci := 5) zC hG uw_X5 0 rfl rfl 8 (by decide) wl_X5_26 (fun _ h => h) rfl dX5_init_132 ?_
  refine lv_iload_n zC.1 zC.2.1 dX5_init_135 rfl (lv_at hl 0 rfl) ?_
  refine zr_bipush zC dX5_init_136 (by decide +kernel) ?_
  refine zk_iast zC hG 5 rfl (by decide) (by decide) dX5_init_138 (fun H locs hG => ?_)
  have hG : GK D k A W0 [(h0, .inr (5, [.int (zI 0), .ref q1, .int (zI 0), .long (zL 0), .long (zL 1), .ref q2, .ref q3, .ref q4, .ref q5, .ref q6, .int (zI 0), .int (zI 0), .ref q7, .ref q8, .ref q9, .ref q10, .int (zI 0), .int (zI 0), .ref q11, .int (zI 0), .int (zI 0), .int (zI 0), .int (zI 0), .ref q12, .long (zL 0)])), (q1, .inl (k 0, 6, .inl (fun _ => zI 0))), (q2, .inl (k 0, 6, .inl (upd (upd (upd (upd (upd (upd (fun _ => zI 0) 0 (zI (-9))) 1 (zI (-9))) 2 (zI (-9))) 3 (zI (-9))) 4 (zI (-9))) 5 (zI (-9))))), (q3, .inl (k 0, 240, .inl (fun _ => zI 0))), (q4, .inl (k 0, 40, .inl (fun _ => zI 0))), (q5, .inl (k 0, 4, .inl (upd (fun _ => zI 0) 0 (zI (-9))))), (q6, .inl (k 0, 240, .inl (fun _ => zI 0))), (q7, .inl (k 0, 5, .inl (fun _ => zI 0))), (q8, .inl (k 0, 5, .inl (fun _ => zI 0))), (q9, .inl (k 0, 5, .inl (fun _ => zI 0))), (q10, .inl (k 0, 5, .inl (fun _ => zI 0))), (q11, .inl (k 0, 20, .inl (fun _ => zI 0))), (q12, .inl (k 0, 63, .inl (fun _ => zI 0)))] zs H locs := hG
  refine zr_iinc (lv' := [(1, .int (zI 1)), (0, .ref h0)]) zC dX5_init_139 hl (k := 0) rfl (by decide) rfl (fun ls hl => ?_)
  refine lv_goto (tgt := 126) zC.1 zC.2.1 dX5_init_142 (by decide) ?_
  refine lv_iload_n zC.1 zC.2.1 dX5_init_126 rfl (lv_at hl 0 rfl) ?_
  refine zr_iconst zC dX5_init_127 ?_
  refine zr_icmp_ge (tgt := 145) zC dX5_init_128 (by decide) (by omega) (fun cX => absurd cX (by omega)) (fun _ => ?_)
  refine lv_aload_n zC.1 zC.2.1 dX5_init_131 rfl (lv_at hl 1 rfl) ?_
  refine zk_get (Cn := RX5) (T := TX5) (N := 25) (ci := 5) zC hG uw_X5 0 rfl rfl 8 (by decide) wl_X5_26 (fun _ h => h) rfl dX5_init_132 ?_
  refine lv_iload_n zC.1 zC.2.1 dX5_init_135 rfl (lv_at hl 0 rfl) ?_
  refine zr_bipush zC dX5_init_136 (by decide +kernel) ?_
  refine zk_iast zC hG 5 rfl (by decide) (by decide) dX5_init_138 (fun H locs hG => ?_)
  have hG : GK D k A W0 [(h0, .inr (5, [.int (zI 0), .ref q1, .int (zI 0), .long (zL 0), .long (zL 1), .ref q2, .ref q3, .ref q4, .ref q5, .ref q6, .int (zI 0), .int (zI 0), .ref q7, .ref q8, .ref q9, .ref q10, .int (zI 0), .int (zI 0), .ref q11, .int (zI 0), .int (zI 0), .int (zI 0), .int (zI 0), .ref q12, .long (zL 0)])), (q1, .inl (k 0, 6, .inl (fun _ => zI 0))), (q2, .inl (k 0, 6, .inl (upd (upd (upd (upd (upd (upd (fun _ => zI 0) 0 (zI (-9))) 1 (zI (-9))) 2 (zI (-9))) 3 (zI (-9))) 4 (zI (-9))) 5 (zI (-9))))), (q3, .inl (k 0, 240, .inl (fun _ => zI 0))), (q4, .inl (k 0, 40, .inl (fun _ => zI 0))), (q5, .inl (k 0, 4, .inl (upd (upd (fun _ => zI 0) 0 (zI (-9))) 1 (zI (-9))))), (q6, .inl (k 0, 240, .inl (fun _ => zI 0))), (q7, .inl (k 0, 5, .inl (fun _ => zI 0))), (q8, .inl (k 0, 5, .inl (fun _ => zI 0))), (q9, .inl (k 0, 5, .inl (fun _ => zI 0))), (q10, .inl (k 0, 5, .inl (fun _ => zI 0))), (q11, .inl (k 0, 20, .inl (fun _ => zI 0))), (q12, .inl (k 0, 63, .inl (fun _ => zI 0)))] zs H locs := hG
  refine zr_iinc (lv' := [(1, .int (zI 2)), (0, .ref h0)]) zC dX5_init_139 hl (k := 0) rfl (by decide) rfl (fun ls hl => ?_)
  refine lv_goto (tgt := 126) zC.1 zC.2.1 dX5_init_142 (by decide) ?_
  refine lv_iload_n zC.1 zC.2.1 dX5_init_126 rfl (lv_at hl 0 rfl) ?_
  refine zr_iconst zC dX5_init_127 ?_
  refine zr_icmp_ge (tgt := 145) zC dX5_init_128 (by decide) (by omega) (fun cX => absurd cX (by omega)) (fun _ => ?_)
  refine lv_aload_n zC.1 zC.2.1 dX5_init_131 rfl (lv_at hl 1 rfl) ?_
  refine zk_get (Cn := RX5) (T := TX5) (N := 25) (ci := 5) zC hG uw_X5 0 rfl rfl 8 (by decide) wl_X5_26 (fun _ h => h) rfl dX5_init_132 ?_
  refine lv_iload_n zC.1 zC.2.1 dX5_init_135 rfl (lv_at hl 0 rfl) ?_
  refine zr_bipush zC dX5_init_136 (by decide +kernel) ?_
  refine zk_iast zC hG 5 rfl (by decide) (by decide) dX5_init_138 (fun H locs hG => ?_)
  have hG : GK D k A W0 [(h0, .inr (5, [.int (zI 0), .ref q1, .int (zI 0), .long (zL 0), .long (zL 1), .ref q2, .ref q3, .ref q4, .ref q5, .ref q6, .int (zI 0), .int (zI 0), .ref q7, .ref q8, .ref q9, .ref q10, .int (zI 0), .int (zI 0), .ref q11, .int (zI 0), .int (zI 0), .int (zI 0), .int (zI 0), .ref q12, .long (zL 0)])), (q1, .inl (k 0, 6, .inl (fun _ => zI 0))), (q2, .inl (k 0, 6, .inl (upd (upd (upd (upd (upd (upd (fun _ => zI 0) 0 (zI (-9))) 1 (zI (-9))) 2 (zI (-9))) 3 (zI (-9))) 4 (zI (-9))) 5 (zI (-9))))), (q3, .inl (k 0, 240, .inl (fun _ => zI 0))), (q4, .inl (k 0, 40, .inl (fun _ => zI 0))), (q5, .inl (k 0, 4, .inl (upd (upd (upd (fun _ => zI 0) 0 (zI (-9))) 1 (zI (-9))) 2 (zI (-9))))), (q6, .inl (k 0, 240, .inl (fun _ => zI 0))), (q7, .inl (k 0, 5, .inl (fun _ => zI 0))), (q8, .inl (k 0, 5, .inl (fun _ => zI 0))), (q9, .inl (k 0, 5, .inl (fun _ => zI 0))), (q10, .inl (k 0, 5, .inl (fun _ => zI 0))), (q11, .inl (k 0, 20, .inl (fun _ => zI 0))), (q12, .inl (k 0, 63, .inl (fun _ => zI 0)))] zs H locs := hG
  refine zr_iinc (lv' := [(1, .int (zI 3)), (0, .ref h0)]) zC dX5_init_139 hl (k := 0) rfl (by decide) rfl (fun ls hl => ?_)
  refine lv_goto (tgt := 126) zC.1 zC.2.1 dX5_init_142 (by decide) ?_
  refine lv_iload_n zC.1 zC.2.1 dX5_init_126 rfl (lv_at hl 0 rfl) ?_
  refine zr_iconst zC dX5_init_127 ?_
  refine zr_icmp_ge (tgt := 145) zC dX5_init_128 (by decide) (by omega) (fun cX => absurd cX (by omega)) (fun _ => ?_)
  refine lv_aload_n zC.1 zC.2.1 dX5_init_131 rfl (lv_at hl 1 rfl) ?_
  refine zk_get (Cn := RX5) (T := TX5) (N := 25) (ci := 5) zC hG uw_X5 0 rfl rfl 8 (by decide) wl_X5_26 (fun _ h => h) rfl dX5_init_132 ?_
  refine lv_iload_n zC.1 zC.2.1 dX5_init_135 rfl (lv_at hl 0 rfl) ?_
  refine zr_bipush zC dX5_init_136 (by decide +kernel) ?_
  refine zk_iast zC hG 5 rfl (by decide) (by decide) dX5_init_138 (fun H locs hG => ?_)
  have hG : GK D k A W0 [(h0, .inr (5, [.int (zI 0), .ref q1, .int (zI 0), .long (zL 0), .long (zL 1), .ref q2, .ref q3, .ref q4, .ref q5, .ref q6, .int (zI 0), .int (zI 0), .ref q7, .ref q8, .ref q9, .ref q10, .int (zI 0), .int (zI 0), .ref q11, .int (zI 0), .int (zI 0), .int (zI 0), .int (zI 0), .ref q12, .long (zL 0)])), (q1, .inl (k 0, 6, .inl (fun _ => zI 0))), (q2, .inl (k 0, 6, .inl (upd (upd (upd (upd (upd (upd (fun _ => zI 0) 0 (zI (-9))) 1 (zI (-9))) 2 (zI (-9))) 3 (zI (-9))) 4 (zI (-9))) 5 (zI (-9))))), (q3, .inl (k 0, 240, .inl (fun _ => zI 0))), (q4, .inl (k 0, 40, .inl (fun _ => zI 0))), (q5, .inl (k 0, 4, .inl (upd (upd (upd (upd (fun _ => zI 0) 0 (zI (-9))) 1 (zI (-9))) 2 (zI (-9))) 3 (zI (-9))))), (q6, .inl (k 0, 240, .inl (fun _ => zI 0))), (q7, .inl (k 0, 5, .inl (fun _ => zI 0))), (q8, .inl (k 0, 5, .inl (fun _ => zI 0))), (q9, .inl (k 0, 5, .inl (fun _ => zI 0))), (q10, .inl (k 0, 5, .inl (fun _ => zI 0))), (q11, .inl (k 0, 20, .inl (fun _ => zI 0))), (q12, .inl (k 0, 63, .inl (fun _ => zI 0)))] zs H locs := hG
  refine zr_iinc (lv' := [(1, .int (zI 4)), (0, .ref h0)]) zC dX5_init_139 hl (k := 0) rfl (by decide) rfl (fun ls hl => ?_)
  refine lv_goto (tgt := 126) zC.1 zC.2.1 dX5_init_142 (by decide) ?_
  refine lv_iload_n zC.1 zC.2.1 dX5_init_126 rfl (lv_at hl 0 rfl) ?_
  refine zr_iconst zC dX5_init_127 ?_
  refine zr_icmp_ge (tgt := 145) zC dX5_init_128 (by decide) (by omega) (fun _ => ?_) (fun cX => absurd (show (4 : Int) ≤ 4 by decide) (by omega))
  refine zr_iconst zC dX5_init_145 ?_
  refine lv_istore_n (lv' := [(1, .int (zI 0)), (0, .ref h0)]) zC.1 zC.2.1 dX5_init_146 rfl hl (by decide) rfl (fun ls hl => ?_)
  refine lv_iload_n zC.1 zC.2.1 dX5_init_147 rfl (lv_at hl 0 rfl) ?_
  refine zr_iconst zC dX5_init_148 ?_
  refine zr_icmp_ge (tgt := 169) zC dX5_init_149 (by decide) (by omega) (fun cX => absurd cX (by omega)) (fun _ => ?_)
  refine lv_aload_n zC.1 zC.2.1 dX5_init_152 rfl (lv_at hl 1 rfl) ?_
  refine zk_get (Cn := RX5) (T := TX5) (N := 25) (ci := 5) zC hG uw_X5 0 rfl rfl 23 (by decide) wl_X5_47 (fun _ h => h) rfl dX5_init_153 ?_
  refine zr_bipush zC dX5_init_156 (by decide +kernel) ?_
  refine lv_iload_n zC.1 zC.2.1 dX5_init_158 rfl (lv_at hl 0 rfl) ?_
  refine zr_imul zC dX5_init_159 ?_
  refine zr_topi (y := 0) (by decide) ?_
  refine zr_bipush zC dX5_init_160 (by decide +kernel) ?_
  refine zk_iast zC hG 12 rfl (by decide) (by decide) dX5_init_162 (fun H locs hG => ?_)
  have hG : GK D k A W0 [(h0, .inr (5, [.int (zI 0), .ref q1, .int (zI 0), .long (zL 0), .long (zL 1), .ref q2, .ref q3, .ref q4, .ref q5, .ref q6, .int (zI 0), .int (zI 0), .ref q7, .ref q8, .ref q9, .ref q10, .int (zI 0), .int (zI 0), .ref q11, .int (zI 0), .int (zI 0), .int (zI 0), .int (zI 0), .ref q12, .long (zL 0)])), (q1, .inl (k 0, 6, .inl (fun _ => zI 0))), (q2, .inl (k 0, 6, .inl (upd (upd (upd (upd (upd (upd (fun _ => zI 0) 0 (zI (-9))) 1 (zI (-9))) 2 (zI (-9))) 3 (zI (-9))) 4 (zI (-9))) 5 (zI (-9))))), (q3, .inl (k 0, 240, .inl (fun _ => zI 0))), (q4, .inl (k 0, 40, .inl (fun _ => zI 0))), (q5, .inl (k 0, 4, .inl (upd (upd (upd (upd (fun _ => zI 0) 0 (zI (-9))) 1 (zI (-9))) 2 (zI (-9))) 3 (zI (-9))))), (q6, .inl (k 0, 240, .inl (fun _ => zI 0))), (q7, .inl (k 0, 5, .inl (fun _ => zI 0))), (q8, .inl (k 0, 5, .inl (fun _ => zI 0))), (q9, .inl (k 0, 5, .inl (fun _ => zI 0))), (q10, .inl (k 0, 5, .inl (fun _ => zI 0))), (q11, .inl (k 0, 20, .inl (fun _ => zI 0))), (q12, .inl (k 0, 63, .inl (upd (fun _ => zI 0) 0 (zI (-9)))))] zs H locs := hG
  refine zr_iinc (lv' := [(1, .int (zI 1)), (0, .ref h0)]) zC dX5_init_163 hl (k := 0) rfl (by decide) rfl (fun ls hl => ?_)
  refine lv_goto (tgt := 147) zC.1 zC.2.1 dX5_init_166 (by decide) ?_
  refine lv_iload_n zC.1 zC.2.1 dX5_init_147 rfl (lv_at hl 0 rfl) ?_
  refine zr_iconst zC dX5_init_148 ?_
  refine zr_icmp_ge (tgt := 169) zC dX5_init_149 (by decide) (by omega) (fun cX => absurd cX (by omega)) (fun _ => ?_)
  refine lv_aload_n zC.1 zC.2.1 dX5_init_152 rfl (lv_at hl 1 rfl) ?_
  refine zk_get (Cn := RX5) (T := TX5) (N := 25) (ci := 5) zC hG uw_X5 0 rfl rfl 23 (by decide) wl_X5_47 (fun _ h => h) rfl dX5_init_153 ?_
  refine zr_bipush zC dX5_init_156 (by decide +kernel) ?_
  refine lv_iload_n zC.1 zC.2.1 dX5_init_158 rfl (lv_at hl 0 rfl) ?_
  refine zr_imul zC dX5_init_159 ?_
  refine zr_topi (y := 21) (by decide) ?_
  refine zr_bipush zC dX5_init_160 (by decide +kernel) ?_
  refine zk_iast zC hG 12 rfl (by decide) (by decide) dX5_init_162 (fun H locs hG => ?_)
  have hG : GK D k A W0 [(h0, .inr (5, [.int (zI 0), .ref q1, .int (zI 0), .long (zL 0), .long (zL 1), .ref q2, .ref q3, .ref q4, .ref q5, .ref q6, .int (zI 0), .int (zI 0), .ref q7, .ref q8, .ref q9, .ref q10, .int (zI 0), .int (zI 0), .ref q11, .int (zI 0), .int (zI 0), .int (zI 0), .int (zI 0), .ref q12, .long (zL 0)])), (q1, .inl (k 0, 6, .inl (fun _ => zI 0))), (q2, .inl (k 0, 6, .inl (upd (upd (upd (upd (upd (upd (fun _ => zI 0) 0 (zI (-9))) 1 (zI (-9))) 2 (zI (-9))) 3 (zI (-9))) 4 (zI (-9))) 5 (zI (-9))))), (q3, .inl (k 0, 240, .inl (fun _ => zI 0))), (q4, .inl (k 0, 40, .inl (fun _ => zI 0))), (q5, .inl (k 0, 4, .inl (upd (upd (upd (upd (fun _ => zI 0) 0 (zI (-9))) 1 (zI (-9))) 2 (zI (-9))) 3 (zI (-9))))), (q6, .inl (k 0, 240, .inl (fun _ => zI 0))), (q7, .inl (k 0, 5, .inl (fun _ => zI 0))), (q8, .inl (k 0, 5, .inl (fun _ => zI 0))), (q9, .inl (k 0, 5, .inl (fun _ => zI 0))), (q10, .inl (k 0, 5, .inl (fun _ => zI 0))), (q11, .inl (k 0, 20, .inl (fun _ => zI 0))), (q12, .inl (k 0, 63, .inl (upd (upd (fun _ => zI 0) 0 (zI (-9))) 21 (zI (-9)))))] zs H locs := hG
  refine zr_iinc (lv' := [(1, .int (zI 2)), (0, .ref h0)]) zC dX5_init_163 hl (k := 0) rfl (by decide) rfl (fun ls hl => ?_)
  refine lv_goto (tgt := 147) zC.1 zC.2.1 dX5_init_166 (by decide) ?_
  refine lv_iload_n zC.1 zC.2.1 dX5_init_147 rfl (lv_at hl 0 rfl) ?_
  refine zr_iconst zC dX5_init_148 ?_
  refine zr_icmp_ge (tgt := 169) zC dX5_init_149 (by decide) (by omega) (fun cX => absurd cX (by omega)) (fun _ => ?_)
  refine lv_aload_n zC.1 zC.2.1 dX5_init_152 rfl (lv_at hl 1 rfl) ?_
  refine zk_get (Cn := RX5) (T := TX5) (N := 25) (ci := 5) zC hG uw_X5 0 rfl rfl 23 (by decide) wl_X5_47 (fun _ h => h) rfl dX5_init_153 ?_
  refine zr_bipush zC dX5_init_156 (by decide +kernel) ?_
  refine lv_iload_n zC.1 zC.2.1 dX5_init_158 rfl (lv_at hl 0 rfl) ?_
  refine zr_imul zC dX5_init_159 ?_
  refine zr_topi (y := 42) (by decide) ?_
  refine zr_bipush zC dX5_init_160 (by decide +kernel) ?_
  refine zk_iast zC hG 12 rfl (by decide) (by decide) dX5_init_162 (fun H locs hG => ?_)
  have hG : GK D k A W0 [(h0, .inr (5, [.int (zI 0), .ref q1, .int (zI 0), .long (zL 0), .long (zL 1), .ref q2, .ref q3, .ref q4, .ref q5, .ref q6, .int (zI 0), .int (zI 0), .ref q7, .ref q8, .ref q9, .ref q10, .int (zI 0), .int (zI 0), .ref q11, .int (zI 0), .int (zI 0), .int (zI 0), .int (zI 0), .ref q12, .long (zL 0)])), (q1, .inl (k 0, 6, .inl (fun _ => zI 0))), (q2, .inl (k 0, 6, .inl (upd (upd (upd (upd (upd (upd (fun _ => zI 0) 0 (zI (-9))) 1 (zI (-9))) 2 (zI (-9))) 3 (zI (-9))) 4 (zI (-9))) 5 (zI (-9))))), (q3, .inl (k 0, 240, .inl (fun _ => zI 0))), (q4, .inl (k 0, 40, .inl (fun _ => zI 0))), (q5, .inl (k 0, 4, .inl (upd (upd (upd (upd (fun _ => zI 0) 0 (zI (-9))) 1 (zI (-9))) 2 (zI (-9))) 3 (zI (-9))))), (q6, .inl (k 0, 240, .inl (fun _ => zI 0))), (q7, .inl (k 0, 5, .inl (fun _ => zI 0))), (q8, .inl (k 0, 5, .inl (fun _ => zI 0))), (q9, .inl (k 0, 5, .inl (fun _ => zI 0))), (q10, .inl (k 0, 5, .inl (fun _ => zI 0))), (q11, .inl (k 0, 20, .inl (fun _ => zI 0))), (q12, .inl (k 0, 63, .inl (upd (upd (upd (fun _ => zI 0) 0 (zI (-9))) 21 (zI (-9))) 42 (zI (-9)))))] zs H locs := hG
  refine zr_iinc (lv' := [(1, .int (zI 3)), (0, .ref h0)]) zC dX5_init_163 hl (k := 0) rfl (by decide) rfl (fun ls hl => ?_)
  refine lv_goto (tgt := 147) zC.1 zC.2.1 dX5_init_166 (by decide) ?_
  refine lv_iload_n zC.1 zC.2.1 dX5_init_147 rfl (lv_at hl 0 rfl) ?_
  refine zr_iconst zC dX5_init_148 ?_
  refine zr_icmp_ge (tgt := 169) zC dX5_init_149 (by decide) (by omega) (fun _ => ?_) (fun cX => absurd (show (3 : Int) ≤ 3 by decide) (by omega))
  have hG := hG.arr 2 (g := fun j : Nat => zI (mm0 22 0 (j : Int))) rfl (fun j hj => by rcases (show j = 0 ∨ j = 1 ∨ j = 2 ∨ j = 3 ∨ j = 4 ∨ j = 5 by omega) with rfl | rfl | rfl | rfl | rfl | rfl <;> rfl)
  have hG := hG.arr 5 (g := fun j : Nat => zI (mm0 25 0 (j : Int))) rfl (fun j hj => by rcases (show j = 0 ∨ j = 1 ∨ j = 2 ∨ j = 3 by omega) with rfl | rfl | rfl | rfl <;> rfl)
  have hG := hG.arr 12 (g := fun j : Nat => zI (mm0 32 0 (j : Int))) rfl kp_0
  have hG : GK D k A W0 (gwM (D, (adr 44 [h0, q1, q2, q3, q4, q5, q6, q7, q8, q9, q10, q11, q12]), k, zt) mm0) zs H locs := hG
  exact zk_vret zC zK hG dX5_init_169 ⟨_, rfl, rfl⟩
