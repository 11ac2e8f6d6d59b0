set_option maxHeartbeats 4000000 in
set_option maxRecDepth 100000 in
theorem c_J6_bitCount_0f7a4 {Γ : Gm} {zl : Launch} {A : Nat → Prop} {σ : Mm} {b : Int} (hb : 0 ≤ b ∧ b < 32) : Fn Γ zl A yJ6_bitCount_0f7a4 cJ6_bitCount_0f7a4 1 (some .int) 0 0 [.int (zI b)] σ (some (.int (zI (pc5 b)))) σ := by
  refine Fn_of (by decide) (Nat.le_of_ble_eq_true rfl) ?_
  intro zp ze zs zm args below meth zc zQ H locs ls zC zK hG hl
  have hl : lv_has ls 1 [(0, .int (zI b))] := hl
  refine lv_iload_n zC.1 zC.2.1 dJ6_bitCount_0f7a4_0 rfl (lv_at hl 0 rfl) ?_
  refine lv_iload_n zC.1 zC.2.1 dJ6_bitCount_0f7a4_1 rfl (lv_at hl 0 rfl) ?_
  refine zr_iconst zC dJ6_bitCount_0f7a4_2 ?_
  refine lv_iushr (v := ((zI b).toUInt32 >>> ((zI 1).toUInt32 &&& Int32.toUInt32 31)).toInt32) zC.1 zC.2.1 dJ6_bitCount_0f7a4_3 rfl ?_
  refine zr_ldc_w (z := 1431655765) zC wl_J6_265 (by decide +kernel) dJ6_bitCount_0f7a4_4 ?_
  refine lv_iand zC.1 zC.2.1 dJ6_bitCount_0f7a4_7 ?_
  refine lv_isub zC.1 zC.2.1 dJ6_bitCount_0f7a4_8 ?_
  refine lv_istore_n (lv' := [(0, .int ((zI b) - ((((zI b).toUInt32 >>> ((zI 1).toUInt32 &&& Int32.toUInt32 31)).toInt32) &&& (zI 1431655765))))]) zC.1 zC.2.1 dJ6_bitCount_0f7a4_9 rfl hl (by decide) rfl (fun ls hl => ?_)
  refine lv_iload_n zC.1 zC.2.1 dJ6_bitCount_0f7a4_10 rfl (lv_at hl 0 rfl) ?_
  refine zr_ldc_w (z := 858993459) zC wl_J6_266 (by decide +kernel) dJ6_bitCount_0f7a4_11 ?_
  refine lv_iand zC.1 zC.2.1 dJ6_bitCount_0f7a4_14 ?_
  refine lv_iload_n zC.1 zC.2.1 dJ6_bitCount_0f7a4_15 rfl (lv_at hl 0 rfl) ?_
  refine zr_iconst zC dJ6_bitCount_0f7a4_16 ?_
  refine lv_iushr (v := (((zI b) - ((((zI b).toUInt32 >>> ((zI 1).toUInt32 &&& Int32.toUInt32 31)).toInt32) &&& (zI 1431655765))).toUInt32 >>> ((zI 2).toUInt32 &&& Int32.toUInt32 31)).toInt32) zC.1 zC.2.1 dJ6_bitCount_0f7a4_17 rfl ?_
  refine zr_ldc_w (z := 858993459) zC wl_J6_266 (by decide +kernel) dJ6_bitCount_0f7a4_18 ?_
  refine lv_iand zC.1 zC.2.1 dJ6_bitCount_0f7a4_21 ?_
  refine lv_iadd zC.1 zC.2.1 dJ6_bitCount_0f7a4_22 ?_
  refine lv_istore_n (lv' := [(0, .int ((((zI b) - ((((zI b).toUInt32 >>> ((zI 1).toUInt32 &&& Int32.toUInt32 31)).toInt32) &&& (zI 1431655765))) &&& (zI 858993459)) + (((((zI b) - ((((zI b).toUInt32 >>> ((zI 1).toUInt32 &&& Int32.toUInt32 31)).toInt32) &&& (zI 1431655765))).toUInt32 >>> ((zI 2).toUInt32 &&& Int32.toUInt32 31)).toInt32) &&& (zI 858993459))))]) zC.1 zC.2.1 dJ6_bitCount_0f7a4_23 rfl hl (by decide) rfl (fun ls hl => ?_)
  refine lv_iload_n zC.1 zC.2.1 dJ6_bitCount_0f7a4_24 rfl (lv_at hl 0 rfl) ?_
  refine lv_iload_n zC.1 zC.2.1 dJ6_bitCount_0f7a4_25 rfl (lv_at hl 0 rfl) ?_
  refine zr_iconst zC dJ6_bitCount_0f7a4_26 ?_
  refine lv_iushr (v := (((((zI b) - ((((zI b).toUInt32 >>> ((zI 1).toUInt32 &&& Int32.toUInt32 31)).toInt32) &&& (zI 1431655765))) &&& (zI 858993459)) + (((((zI b) - ((((zI b).toUInt32 >>> ((zI 1).toUInt32 &&& Int32.toUInt32 31)).toInt32) &&& (zI 1431655765))).toUInt32 >>> ((zI 2).toUInt32 &&& Int32.toUInt32 31)).toInt32) &&& (zI 858993459))).toUInt32 >>> ((zI 4).toUInt32 &&& Int32.toUInt32 31)).toInt32) zC.1 zC.2.1 dJ6_bitCount_0f7a4_27 rfl ?_
  refine lv_iadd zC.1 zC.2.1 dJ6_bitCount_0f7a4_28 ?_
  refine zr_ldc_w (z := 252645135) zC wl_J6_267 (by decide +kernel) dJ6_bitCount_0f7a4_29 ?_
  refine lv_iand zC.1 zC.2.1 dJ6_bitCount_0f7a4_32 ?_
  refine lv_istore_n (lv' := [(0, .int ((((((zI b) - ((((zI b).toUInt32 >>> ((zI 1).toUInt32 &&& Int32.toUInt32 31)).toInt32) &&& (zI 1431655765))) &&& (zI 858993459)) + (((((zI b) - ((((zI b).toUInt32 >>> ((zI 1).toUInt32 &&& Int32.toUInt32 31)).toInt32) &&& (zI 1431655765))).toUInt32 >>> ((zI 2).toUInt32 &&& Int32.toUInt32 31)).toInt32) &&& (zI 858993459))) + ((((((zI b) - ((((zI b).toUInt32 >>> ((zI 1).toUInt32 &&& Int32.toUInt32 31)).toInt32) &&& (zI 1431655765))) &&& (zI 858993459)) + (((((zI b) - ((((zI b).toUInt32 >>> ((zI 1).toUInt32 &&& Int32.toUInt32 31)).toInt32) &&& (zI 1431655765))).toUInt32 >>> ((zI 2).toUInt32 &&& Int32.toUInt32 31)).toInt32) &&& (zI 858993459))).toUInt32 >>> ((zI 4).toUInt32 &&& Int32.toUInt32 31)).toInt32)) &&& (zI 252645135)))]) zC.1 zC.2.1 dJ6_bitCount_0f7a4_33 rfl hl (by decide) rfl (fun ls hl => ?_)
  refine lv_iload_n zC.1 zC.2.1 dJ6_bitCount_0f7a4_34 rfl (lv_at hl 0 rfl) ?_
  refine lv_iload_n zC.1 zC.2.1 dJ6_bitCount_0f7a4_35 rfl (lv_at hl 0 rfl) ?_
  refine zr_bipush zC dJ6_bitCount_0f7a4_36 (by decide +kernel) ?_
  refine lv_iushr (v := (((((((zI b) - ((((zI b).toUInt32 >>> ((zI 1).toUInt32 &&& Int32.toUInt32 31)).toInt32) &&& (zI 1431655765))) &&& (zI 858993459)) + (((((zI b) - ((((zI b).toUInt32 >>> ((zI 1).toUInt32 &&& Int32.toUInt32 31)).toInt32) &&& (zI 1431655765))).toUInt32 >>> ((zI 2).toUInt32 &&& Int32.toUInt32 31)).toInt32) &&& (zI 858993459))) + ((((((zI b) - ((((zI b).toUInt32 >>> ((zI 1).toUInt32 &&& Int32.toUInt32 31)).toInt32) &&& (zI 1431655765))) &&& (zI 858993459)) + (((((zI b) - ((((zI b).toUInt32 >>> ((zI 1).toUInt32 &&& Int32.toUInt32 31)).toInt32) &&& (zI 1431655765))).toUInt32 >>> ((zI 2).toUInt32 &&& Int32.toUInt32 31)).toInt32) &&& (zI 858993459))).toUInt32 >>> ((zI 4).toUInt32 &&& Int32.toUInt32 31)).toInt32)) &&& (zI 252645135)).toUInt32 >>> ((zI 8).toUInt32 &&& Int32.toUInt32 31)).toInt32) zC.1 zC.2.1 dJ6_bitCount_0f7a4_38 rfl ?_
  refine lv_iadd zC.1 zC.2.1 dJ6_bitCount_0f7a4_39 ?_
  refine lv_istore_n (lv' := [(0, .int (((((((zI b) - ((((zI b).toUInt32 >>> ((zI 1).toUInt32 &&& Int32.toUInt32 31)).toInt32) &&& (zI 1431655765))) &&& (zI 858993459)) + (((((zI b) - ((((zI b).toUInt32 >>> ((zI 1).toUInt32 &&& Int32.toUInt32 31)).toInt32) &&& (zI 1431655765))).toUInt32 >>> ((zI 2).toUInt32 &&& Int32.toUInt32 31)).toInt32) &&& (zI 858993459))) + ((((((zI b) - ((((zI b).toUInt32 >>> ((zI 1).toUInt32 &&& Int32.toUInt32 31)).toInt32) &&& (zI 1431655765))) &&& (zI 858993459)) + (((((zI b) - ((((zI b).toUInt32 >>> ((zI 1).toUInt32 &&& Int32.toUInt32 31)).toInt32) &&& (zI 1431655765))).toUInt32 >>> ((zI 2).toUInt32 &&& Int32.toUInt32 31)).toInt32) &&& (zI 858993459))).toUInt32 >>> ((zI 4).toUInt32 &&& Int32.toUInt32 31)).toInt32)) &&& (zI 252645135)) + ((((((((zI b) - ((((zI b).toUInt32 >>> ((zI 1).toUInt32 &&& Int32.toUInt32 31)).toInt32) &&& (zI 1431655765))) &&& (zI 858993459)) + (((((zI b) - ((((zI b).toUInt32 >>> ((zI 1).toUInt32 &&& Int32.toUInt32 31)).toInt32) &&& (zI 1431655765))).toUInt32 >>> ((zI 2).toUInt32 &&& Int32.toUInt32 31)).toInt32) &&& (zI 858993459))) + ((((((zI b) - ((((zI b).toUInt32 >>> ((zI 1).toUInt32 &&& Int32.toUInt32 31)).toInt32) &&& (zI 1431655765))) &&& (zI 858993459)) + (((((zI b) - ((((zI b).toUInt32 >>> ((zI 1).toUInt32 &&& Int32.toUInt32 31)).toInt32) &&& (zI 1431655765))).toUInt32 >>> ((zI 2).toUInt32 &&& Int32.toUInt32 31)).toInt32) &&& (zI 858993459))).toUInt32 >>> ((zI 4).toUInt32 &&& Int32.toUInt32 31)).toInt32)) &&& (zI 252645135)).toUInt32 >>> ((zI 8).toUInt32 &&& Int32.toUInt32 31)).toInt32)))]) zC.1 zC.2.1 dJ6_bitCount_0f7a4_40 rfl hl (by decide) rfl (fun ls hl => ?_)
  refine lv_iload_n zC.1 zC.2.1 dJ6_bitCount_0f7a4_41 rfl (lv_at hl 0 rfl) ?_
  refine lv_iload_n zC.1 zC.2.1 dJ6_bitCount_0f7a4_42 rfl (lv_at hl 0 rfl) ?_
  refine zr_bipush zC dJ6_bitCount_0f7a4_43 (by decide +kernel) ?_
  refine lv_iushr (v := ((((((((zI b) - ((((zI b).toUInt32 >>> ((zI 1).toUInt32 &&& Int32.toUInt32 31)).toInt32) &&& (zI 1431655765))) &&& (zI 858993459)) + (((((zI b) - ((((zI b).toUInt32 >>> ((zI 1).toUInt32 &&& Int32.toUInt32 31)).toInt32) &&& (zI 1431655765))).toUInt32 >>> ((zI 2).toUInt32 &&& Int32.toUInt32 31)).toInt32) &&& (zI 858993459))) + ((((((zI b) - ((((zI b).toUInt32 >>> ((zI 1).toUInt32 &&& Int32.toUInt32 31)).toInt32) &&& (zI 1431655765))) &&& (zI 858993459)) + (((((zI b) - ((((zI b).toUInt32 >>> ((zI 1).toUInt32 &&& Int32.toUInt32 31)).toInt32) &&& (zI 1431655765))).toUInt32 >>> ((zI 2).toUInt32 &&& Int32.toUInt32 31)).toInt32) &&& (zI 858993459))).toUInt32 >>> ((zI 4).toUInt32 &&& Int32.toUInt32 31)).toInt32)) &&& (zI 252645135)) + ((((((((zI b) - ((((zI b).toUInt32 >>> ((zI 1).toUInt32 &&& Int32.toUInt32 31)).toInt32) &&& (zI 1431655765))) &&& (zI 858993459)) + (((((zI b) - ((((zI b).toUInt32 >>> ((zI 1).toUInt32 &&& Int32.toUInt32 31)).toInt32) &&& (zI 1431655765))).toUInt32 >>> ((zI 2).toUInt32 &&& Int32.toUInt32 31)).toInt32) &&& (zI 858993459))) + ((((((zI b) - ((((zI b).toUInt32 >>> ((zI 1).toUInt32 &&& Int32.toUInt32 31)).toInt32) &&& (zI 1431655765))) &&& (zI 858993459)) + (((((zI b) - ((((zI b).toUInt32 >>> ((zI 1).toUInt32 &&& Int32.toUInt32 31)).toInt32) &&& (zI 1431655765))).toUInt32 >>> ((zI 2).toUInt32 &&& Int32.toUInt32 31)).toInt32) &&& (zI 858993459))).toUInt32 >>> ((zI 4).toUInt32 &&& Int32.toUInt32 31)).toInt32)) &&& (zI 252645135)).toUInt32 >>> ((zI 8).toUInt32 &&& Int32.toUInt32 31)).toInt32)).toUInt32 >>> ((zI 16).toUInt32 &&& Int32.toUInt32 31)).toInt32) zC.1 zC.2.1 dJ6_bitCount_0f7a4_45 rfl ?_
  refine lv_iadd zC.1 zC.2.1 dJ6_bitCount_0f7a4_46 ?_
  refine lv_istore_n (lv' := [(0, .int ((((((((zI b) - ((((zI b).toUInt32 >>> ((zI 1).toUInt32 &&& Int32.toUInt32 31)).toInt32) &&& (zI 1431655765))) &&& (zI 858993459)) + (((((zI b) - ((((zI b).toUInt32 >>> ((zI 1).toUInt32 &&& Int32.toUInt32 31)).toInt32) &&& (zI 1431655765))).toUInt32 >>> ((zI 2).toUInt32 &&& Int32.toUInt32 31)).toInt32) &&& (zI 858993459))) + ((((((zI b) - ((((zI b).toUInt32 >>> ((zI 1).toUInt32 &&& Int32.toUInt32 31)).toInt32) &&& (zI 1431655765))) &&& (zI 858993459)) + (((((zI b) - ((((zI b).toUInt32 >>> ((zI 1).toUInt32 &&& Int32.toUInt32 31)).toInt32) &&& (zI 1431655765))).toUInt32 >>> ((zI 2).toUInt32 &&& Int32.toUInt32 31)).toInt32) &&& (zI 858993459))).toUInt32 >>> ((zI 4).toUInt32 &&& Int32.toUInt32 31)).toInt32)) &&& (zI 252645135)) + ((((((((zI b) - ((((zI b).toUInt32 >>> ((zI 1).toUInt32 &&& Int32.toUInt32 31)).toInt32) &&& (zI 1431655765))) &&& (zI 858993459)) + (((((zI b) - ((((zI b).toUInt32 >>> ((zI 1).toUInt32 &&& Int32.toUInt32 31)).toInt32) &&& (zI 1431655765))).toUInt32 >>> ((zI 2).toUInt32 &&& Int32.toUInt32 31)).toInt32) &&& (zI 858993459))) + ((((((zI b) - ((((zI b).toUInt32 >>> ((zI 1).toUInt32 &&& Int32.toUInt32 31)).toInt32) &&& (zI 1431655765))) &&& (zI 858993459)) + (((((zI b) - ((((zI b).toUInt32 >>> ((zI 1).toUInt32 &&& Int32.toUInt32 31)).toInt32) &&& (zI 1431655765))).toUInt32 >>> ((zI 2).toUInt32 &&& Int32.toUInt32 31)).toInt32) &&& (zI 858993459))).toUInt32 >>> ((zI 4).toUInt32 &&& Int32.toUInt32 31)).toInt32)) &&& (zI 252645135)).toUInt32 >>> ((zI 8).toUInt32 &&& Int32.toUInt32 31)).toInt32)) + (((((((((zI b) - ((((zI b).toUInt32 >>> ((zI 1).toUInt32 &&& Int32.toUInt32 31)).toInt32) &&& (zI 1431655765))) &&& (zI 858993459)) + (((((zI b) - ((((zI b).toUInt32 >>> ((zI 1).toUInt32 &&& Int32.toUInt32 31)).toInt32) &&& (zI 1431655765))).toUInt32 >>> ((zI 2).toUInt32 &&& Int32.toUInt32 31)).toInt32) &&& (zI 858993459))) + ((((((zI b) - ((((zI b).toUInt32 >>> ((zI 1).toUInt32 &&& Int32.toUInt32 31)).toInt32) &&& (zI 1431655765))) &&& (zI 858993459)) + (((((zI b) - ((((zI b).toUInt32 >>> ((zI 1).toUInt32 &&& Int32.toUInt32 31)).toInt32) &&& (zI 1431655765))).toUInt32 >>> ((zI 2).toUInt32 &&& Int32.toUInt32 31)).toInt32) &&& (zI 858993459))).toUInt32 >>> ((zI 4).toUInt32 &&& Int32.toUInt32 31)).toInt32)) &&& (zI 252645135)) + ((((((((zI b) - ((((zI b).toUInt32 >>> ((zI 1).toUInt32 &&& Int32.toUInt32 31)).toInt32) &&& (zI 1431655765))) &&& (zI 858993459)) + (((((zI b) - ((((zI b).toUInt32 >>> ((zI 1).toUInt32 &&& Int32.toUInt32 31)).toInt32) &&& (zI 1431655765))).toUInt32 >>> ((zI 2).toUInt32 &&& Int32.toUInt32 31)).toInt32) &&& (zI 858993459))) + ((((((zI b) - ((((zI b).toUInt32 >>> ((zI 1).toUInt32 &&& Int32.toUInt32 31)).toInt32) &&& (zI 1431655765))) &&& (zI 858993459)) + (((((zI b) - ((((zI b).toUInt32 >>> ((zI 1).toUInt32 &&& Int32.toUInt32 31)).toInt32) &&& (zI 1431655765))).toUInt32 >>> ((zI 2).toUInt32 &&& Int32.toUInt32 31)).toInt32) &&& (zI 858993459))).toUInt32 >>> ((zI 4).toUInt32 &&& Int32.toUInt32 31)).toInt32)) &&& (zI 252645135)).toUInt32 >>> ((zI 8).toUInt32 &&& Int32.toUInt32 31)).toInt32)).toUInt32 >>> ((zI 16).toUInt32 &&& Int32.toUInt32 31)).toInt32)))]) zC.1 zC.2.1 dJ6_bitCount_0f7a4_47 rfl hl (by decide) rfl (fun ls hl => ?_)
  refine lv_iload_n zC.1 zC.2.1 dJ6_bitCount_0f7a4_48 rfl (lv_at hl 0 rfl) ?_
  refine zr_bipush zC dJ6_bitCount_0f7a4_49 (by decide +kernel) ?_
  refine lv_iand zC.1 zC.2.1 dJ6_bitCount_0f7a4_51 ?_
  have e9 : ∀ n : Nat, n < 32 → ((((((((zI (n : Int)) - ((((zI (n : Int)).toUInt32 >>> ((zI 1).toUInt32 &&& Int32.toUInt32 31)).toInt32) &&& (zI 1431655765))) &&& (zI 858993459)) + (((((zI (n : Int)) - ((((zI (n : Int)).toUInt32 >>> ((zI 1).toUInt32 &&& Int32.toUInt32 31)).toInt32) &&& (zI 1431655765))).toUInt32 >>> ((zI 2).toUInt32 &&& Int32.toUInt32 31)).toInt32) &&& (zI 858993459))) + ((((((zI (n : Int)) - ((((zI (n : Int)).toUInt32 >>> ((zI 1).toUInt32 &&& Int32.toUInt32 31)).toInt32) &&& (zI 1431655765))) &&& (zI 858993459)) + (((((zI (n : Int)) - ((((zI (n : Int)).toUInt32 >>> ((zI 1).toUInt32 &&& Int32.toUInt32 31)).toInt32) &&& (zI 1431655765))).toUInt32 >>> ((zI 2).toUInt32 &&& Int32.toUInt32 31)).toInt32) &&& (zI 858993459))).toUInt32 >>> ((zI 4).toUInt32 &&& Int32.toUInt32 31)).toInt32)) &&& (zI 252645135)) + ((((((((zI (n : Int)) - ((((zI (n : Int)).toUInt32 >>> ((zI 1).toUInt32 &&& Int32.toUInt32 31)).toInt32) &&& (zI 1431655765))) &&& (zI 858993459)) + (((((zI (n : Int)) - ((((zI (n : Int)).toUInt32 >>> ((zI 1).toUInt32 &&& Int32.toUInt32 31)).toInt32) &&& (zI 1431655765))).toUInt32 >>> ((zI 2).toUInt32 &&& Int32.toUInt32 31)).toInt32) &&& (zI 858993459))) + ((((((zI (n : Int)) - ((((zI (n : Int)).toUInt32 >>> ((zI 1).toUInt32 &&& Int32.toUInt32 31)).toInt32) &&& (zI 1431655765))) &&& (zI 858993459)) + (((((zI (n : Int)) - ((((zI (n : Int)).toUInt32 >>> ((zI 1).toUInt32 &&& Int32.toUInt32 31)).toInt32) &&& (zI 1431655765))).toUInt32 >>> ((zI 2).toUInt32 &&& Int32.toUInt32 31)).toInt32) &&& (zI 858993459))).toUInt32 >>> ((zI 4).toUInt32 &&& Int32.toUInt32 31)).toInt32)) &&& (zI 252645135)).toUInt32 >>> ((zI 8).toUInt32 &&& Int32.toUInt32 31)).toInt32)) + (((((((((zI (n : Int)) - ((((zI (n : Int)).toUInt32 >>> ((zI 1).toUInt32 &&& Int32.toUInt32 31)).toInt32) &&& (zI 1431655765))) &&& (zI 858993459)) + (((((zI (n : Int)) - ((((zI (n : Int)).toUInt32 >>> ((zI 1).toUInt32 &&& Int32.toUInt32 31)).toInt32) &&& (zI 1431655765))).toUInt32 >>> ((zI 2).toUInt32 &&& Int32.toUInt32 31)).toInt32) &&& (zI 858993459))) + ((((((zI (n : Int)) - ((((zI (n : Int)).toUInt32 >>> ((zI 1).toUInt32 &&& Int32.toUInt32 31)).toInt32) &&& (zI 1431655765))) &&& (zI 858993459)) + (((((zI (n : Int)) - ((((zI (n : Int)).toUInt32 >>> ((zI 1).toUInt32 &&& Int32.toUInt32 31)).toInt32) &&& (zI 1431655765))).toUInt32 >>> ((zI 2).toUInt32 &&& Int32.toUInt32 31)).toInt32) &&& (zI 858993459))).toUInt32 >>> ((zI 4).toUInt32 &&& Int32.toUInt32 31)).toInt32)) &&& (zI 252645135)) + ((((((((zI (n : Int)) - ((((zI (n : Int)).toUInt32 >>> ((zI 1).toUInt32 &&& Int32.toUInt32 31)).toInt32) &&& (zI 1431655765))) &&& (zI 858993459)) + (((((zI (n : Int)) - ((((zI (n : Int)).toUInt32 >>> ((zI 1).toUInt32 &&& Int32.toUInt32 31)).toInt32) &&& (zI 1431655765))).toUInt32 >>> ((zI 2).toUInt32 &&& Int32.toUInt32 31)).toInt32) &&& (zI 858993459))) + ((((((zI (n : Int)) - ((((zI (n : Int)).toUInt32 >>> ((zI 1).toUInt32 &&& Int32.toUInt32 31)).toInt32) &&& (zI 1431655765))) &&& (zI 858993459)) + (((((zI (n : Int)) - ((((zI (n : Int)).toUInt32 >>> ((zI 1).toUInt32 &&& Int32.toUInt32 31)).toInt32) &&& (zI 1431655765))).toUInt32 >>> ((zI 2).toUInt32 &&& Int32.toUInt32 31)).toInt32) &&& (zI 858993459))).toUInt32 >>> ((zI 4).toUInt32 &&& Int32.toUInt32 31)).toInt32)) &&& (zI 252645135)).toUInt32 >>> ((zI 8).toUInt32 &&& Int32.toUInt32 31)).toInt32)).toUInt32 >>> ((zI 16).toUInt32 &&& Int32.toUInt32 31)).toInt32)) &&& (zI 63) = zI (pc5 (n : Int)) := by decide +kernel
  have e8 := e9 b.toNat (by omega)
  rw [show ((b.toNat : Nat) : Int) = b by omega] at e8
  rw [e8]
  exact zr_iret zC zK hG dJ6_bitCount_0f7a4_52 rfl rfl

set_option maxHeartbeats 4000000 in
set_option maxRecDepth 100000 in
theorem c_X4_mean {Γ : Gm} {zl : Launch} {A : Nat → Prop} {σ : Mm} {r : Int} (hI : IC σ) (hr : -2147483648 ≤ r ∧ r < 2147483648) : Fn Γ zl A yX4_mean cX4_mean 4 (some .int) 2 42 [.ref (aL Γ), .int (zI r)] σ (some (.int (zI (rC_mean σ r)))) (mC_mean σ r) := by
  refine Fn_of (by decide) (Nat.le_of_ble_eq_true rfl) ?_
  intro zp ze zs zm args below meth zc zQ H locs ls zC zK hG hl
  have hl : lv_has ls 4 [(0, .ref (aL Γ)), (1, .int (zI r))] := hl
  obtain ⟨hmany, htoday, -⟩ := id hI
  refine lv_aload_n zC.1 zC.2.1 dX4_mean_0 rfl (lv_at hl 0 rfl) ?_
  refine lv_iload_n zC.1 zC.2.1 dX4_mean_1 rfl (lv_at hl 1 rfl) ?_
  refine zr_callV zC hG (c_X4_refusedRow (σ := σ) (r := r) hI (by first | assumption | omega)) mt_X4_refusedRow wl_X4_84 pL rfl rfl ⟨by decide, by decide⟩ rfl hl.1 rfl (Nat.le_of_ble_eq_true rfl) dX4_mean_2 ⟨Nat.zero_le _, Nat.zero_le _⟩ (fun H locs hG => ?_)
  refine W.eq (g2 := F0 zm 5 ls [.int (zI (rfR σ r))]) rfl ?_
  have b2_0 := rfR_r σ r
  refine lv_istore_n (lv' := [(2, .int (zI (rfR σ r))), (0, .ref (aL Γ)), (1, .int (zI r))]) zC.1 zC.2.1 dX4_mean_5 rfl hl (by decide) rfl (fun ls hl => ?_)
  refine lv_iload_n zC.1 zC.2.1 dX4_mean_6 rfl (lv_at hl 0 rfl) ?_
  refine zr_if_eq (tgt := 12) zC dX4_mean_7 (by decide) (by omega) (fun c7 => ?_) (fun c7 => ?_)
  · obtain ⟨h1, h2, h3⟩ := rfR_0 c7
    rw [h3] at hG
    have h4 := hI.2.2.1 r (by omega) (by omega)
    refine lv_aload_n zC.1 zC.2.1 dX4_mean_12 rfl (lv_at hl 1 rfl) ?_
    refine gf_L_rows zC hG wl_X4_11 dX4_mean_13 ?_
    refine lv_iload_n zC.1 zC.2.1 dX4_mean_16 rfl (lv_at hl 2 rfl) ?_
    refine gr_Rs zC hG (by omega) dX4_mean_17 ?_
    refine gf_Row_size (v := σ 2 r 1) zC hG (by first | assumption | omega) wl_X4_87 rfl dX4_mean_18 ?_
    have f18 := hI.2.2.1 r (by omega) (by omega)
    refine lv_istore_n (lv' := [(3, .int (zI (σ 2 r 1))), (2, .int (zI (rfR σ r))), (0, .ref (aL Γ)), (1, .int (zI r))]) zC.1 zC.2.1 dX4_mean_21 rfl hl (by decide) rfl (fun ls hl => ?_)
    refine lv_iload_n zC.1 zC.2.1 dX4_mean_22 rfl (lv_at hl 0 rfl) ?_
    refine zr_if_ne (tgt := 32) zC dX4_mean_23 (by decide) (by omega) (fun c23 => ?_) (fun c23 => ?_)
    · refine lv_aload_n zC.1 zC.2.1 dX4_mean_32 rfl (lv_at hl 2 rfl) ?_
      refine lv_aload_n zC.1 zC.2.1 dX4_mean_33 rfl (lv_at hl 2 rfl) ?_
      refine gf_L_rows zC hG wl_X4_11 dX4_mean_34 ?_
      refine lv_iload_n zC.1 zC.2.1 dX4_mean_37 rfl (lv_at hl 3 rfl) ?_
      refine gr_Rs zC hG (by omega) dX4_mean_38 ?_
      refine zr_callV zC hG (c_X2_sum (σ := σ) (i := r) (by first | assumption | omega) (hI.2.2.1 r (by omega) (by omega)) (fun j h1 h2 => hI.2.2.2.1 r j (by omega) (by omega) h1 h2)) mt_X2_sum wl_X4_100 (pRow (by first | assumption | omega)) rfl rfl ⟨by decide, by decide⟩ rfl hl.1 rfl (Nat.le_of_ble_eq_true rfl) dX4_mean_39 ⟨Nat.zero_le _, Nat.zero_le _⟩ (fun H locs hG => ?_)
      refine W.eq (g2 := F0 zm 42 ls [.long (zL (smI (fun j => (σ 3 r j)) ((σ 2 r 1)).toNat)), .ref (aL Γ)]) rfl ?_
      have b39_0 := smI_r (f := fun j => (σ 3 r j)) (n := ((σ 2 r 1)).toNat) (fun j h1 h2 => hI.2.2.2.1 r j (by omega) (by omega) h1 (by omega))
      refine lv_iload_n zC.1 zC.2.1 dX4_mean_42 rfl (lv_at hl 0 rfl) ?_
      refine zr_i2l zC dX4_mean_43 (by omega) ?_
      refine zr_ldiv zC dX4_mean_44 (by omega) ?_
      refine zr_l2i zC dX4_mean_45 ?_
      refine pf_L_told zC hG wl_X4_49 dX4_mean_46 (fun H locs hG => ?_)
      refine zr_iconst zC dX4_mean_49 ?_
      exact zr_iret zC zK hG dX4_mean_50 (by unfold rC_mean; (repeat' split) <;> first | rfl | omega) (by unfold mC_mean; (repeat' split) <;> first | rfl | (exfalso; omega))
    · refine lv_aload_n zC.1 zC.2.1 dX4_mean_26 rfl (lv_at hl 2 rfl) ?_
      refine zr_iconst zC dX4_mean_27 ?_
      refine zr_callV zC hG (c_X4_found (σ := σ) (f := 4) hI (by first | assumption | omega)) mt_X4_found wl_X4_69 pL rfl rfl ⟨by decide, by decide⟩ rfl hl.1 rfl (Nat.le_of_ble_eq_true rfl) dX4_mean_28 ⟨Nat.zero_le _, Nat.zero_le _⟩ (fun H locs hG => ?_)
      refine W.eq (g2 := F0 zm 31 ls [.int (zI (-3))]) rfl ?_
      exact zr_iret zC zK hG dX4_mean_31 (by unfold rC_mean; (repeat' split) <;> first | rfl | omega) (by unfold mC_mean; (repeat' split) <;> first | rfl | (exfalso; omega))
  · refine lv_iload_n zC.1 zC.2.1 dX4_mean_10 rfl (lv_at hl 0 rfl) ?_
    exact zr_iret zC zK hG dX4_mean_11 (by unfold rC_mean; (repeat' split) <;> first | rfl | omega) (by unfold mC_mean; (repeat' split) <;> first | rfl | (exfalso; omega))

set_option maxHeartbeats 4000000 in
set_option maxRecDepth 100000 in
theorem c_X4_ofTown {Γ : Gm} {zl : Launch} {A : Nat → Prop} {σ : Mm} {c w : Int} (hI : IC σ) (hc : isT σ c) (hw : -2147483648 ≤ w ∧ w < 2147483648) : Fn Γ zl A yX4_ofTown cX4_ofTown 4 (some .int) 4 86 [.ref (aL Γ), .int (zI c), .int (zI w)] σ (some (.int (zI (oTn σ c w)))) σ := by
  refine Fn_of (by decide) (Nat.le_of_ble_eq_true rfl) ?_
  intro zp ze zs zm args below meth zc zQ H locs ls zC zK hG hl
  have hl : lv_has ls 4 [(0, .ref (aL Γ)), (1, .int (zI c)), (2, .int (zI w))] := hl
  obtain ⟨hmany, htoday, -⟩ := id hI
  refine lv_aload_n zC.1 zC.2.1 dX4_ofTown_0 rfl (lv_at hl 0 rfl) ?_
  refine gf_L_towns zC hG wl_X4_23 dX4_ofTown_1 ?_
  refine lv_iload_n zC.1 zC.2.1 dX4_ofTown_4 rfl (lv_at hl 1 rfl) ?_
  refine gr_To zC hG (by omega) dX4_ofTown_5 ?_
  refine lv_astore_n (lv' := [(3, .ref (aCal Γ c)), (0, .ref (aL Γ)), (1, .int (zI c)), (2, .int (zI w))]) zC.1 zC.2.1 dX4_ofTown_6 rfl hl (by decide) rfl (fun ls hl => ?_)
  refine lv_iload_n zC.1 zC.2.1 dX4_ofTown_7 rfl (lv_at hl 3 rfl) ?_
  rcases (show w = 0 ∨ w = 1 ∨ w = 2 ∨ w = 3 ∨ (w < 0 ∨ 3 < w) by omega) with c8 | c8 | c8 | c8 | c8
  · refine lv_tableIn (off := 32) (tgt := 40) zC.1 zC.2.1 dX4_ofTown_8 (by rw [zI_t (by omega)]; omega) (by rw [zI_t (by omega)]; omega) (by rw [zI_t (by omega), c8]; rfl) (by decide) ?_
    refine lv_aload_n zC.1 zC.2.1 dX4_ofTown_40 rfl (lv_at hl 0 rfl) ?_
    refine gf_Cal_kind (v := σ 6 c 0) zC hG (by first | assumption | omega) wl_X4_258 rfl dX4_ofTown_41 ?_
    obtain ⟨f41a, f41b, f41c, f41d⟩ := hI.2.2.2.2.2.2.1 c (by omega) (by omega)
    exact zr_iret zC zK hG dX4_ofTown_44 (by unfold oTn; (repeat' split) <;> first | rfl | omega) rfl
  · refine lv_tableIn (off := 37) (tgt := 45) zC.1 zC.2.1 dX4_ofTown_8 (by rw [zI_t (by omega)]; omega) (by rw [zI_t (by omega)]; omega) (by rw [zI_t (by omega), c8]; rfl) (by decide) ?_
    refine lv_aload_n zC.1 zC.2.1 dX4_ofTown_45 rfl (lv_at hl 0 rfl) ?_
    refine gf_Cal_leap (v := σ 6 c 1) zC hG (by first | assumption | omega) wl_X4_153 rfl dX4_ofTown_46 ?_
    obtain ⟨f46a, f46b, f46c, f46d⟩ := hI.2.2.2.2.2.2.1 c (by omega) (by omega)
    exact zr_iret zC zK hG dX4_ofTown_49 (by unfold oTn; (repeat' split) <;> first | rfl | omega) rfl
  · refine lv_tableIn (off := 42) (tgt := 50) zC.1 zC.2.1 dX4_ofTown_8 (by rw [zI_t (by omega)]; omega) (by rw [zI_t (by omega)]; omega) (by rw [zI_t (by omega), c8]; rfl) (by decide) ?_
    refine lv_aload_n zC.1 zC.2.1 dX4_ofTown_50 rfl (lv_at hl 0 rfl) ?_
    refine gf_Cal_order (v := σ 6 c 2) zC hG (by first | assumption | omega) wl_X4_144 rfl dX4_ofTown_51 ?_
    obtain ⟨f51a, f51b, f51c, f51d⟩ := hI.2.2.2.2.2.2.1 c (by omega) (by omega)
    exact zr_iret zC zK hG dX4_ofTown_54 (by unfold oTn; (repeat' split) <;> first | rfl | omega) rfl
  · refine lv_tableIn (off := 47) (tgt := 55) zC.1 zC.2.1 dX4_ofTown_8 (by rw [zI_t (by omega)]; omega) (by rw [zI_t (by omega)]; omega) (by rw [zI_t (by omega), c8]; rfl) (by decide) ?_
    refine lv_aload_n zC.1 zC.2.1 dX4_ofTown_55 rfl (lv_at hl 0 rfl) ?_
    refine gf_Cal_gap (v := σ 6 c 3) zC hG (by first | assumption | omega) wl_X4_147 rfl dX4_ofTown_56 ?_
    obtain ⟨f56a, f56b, f56c, f56d⟩ := hI.2.2.2.2.2.2.1 c (by omega) (by omega)
    exact zr_iret zC zK hG dX4_ofTown_59 (by unfold oTn; (repeat' split) <;> first | rfl | omega) rfl
  · refine lv_tableOut (tgt := 60) zC.1 zC.2.1 dX4_ofTown_8 (by rw [zI_t (by omega)]; omega) (by decide) ?_
    refine lv_aload_n zC.1 zC.2.1 dX4_ofTown_60 rfl (lv_at hl 0 rfl) ?_
    refine lv_aload_n zC.1 zC.2.1 dX4_ofTown_61 rfl (lv_at hl 1 rfl) ?_
    refine gf_L_today (v := σ 0 0 7) zC hG wl_X4_46 rfl dX4_ofTown_62 ?_
    have k65 := hI.2.2.2.2.2.2.1 c (by omega) (by omega)
    obtain ⟨k65a, k65b, k65c, k65d⟩ := id k65
    refine zr_callV zC hG (c_X0_dateOn (σ := σ) (i := c) (d := σ 0 0 7) (by first | assumption | omega) k65 (by first | assumption | omega)) mt_X0_dateOn wl_X4_171 (pCal (by first | assumption | omega)) rfl rfl ⟨by decide, by decide⟩ rfl hl.1 rfl (Nat.le_of_ble_eq_true rfl) dX4_ofTown_65 ⟨Nat.zero_le _, Nat.zero_le _⟩ (fun H locs hG => ?_)
    refine W.eq (g2 := F0 zm 68 ls [.int (zI (dtD (σ 6 c 0) (σ 6 c 1) (σ 6 c 2) (σ 6 c 3) (σ 0 0 7)))]) rfl ?_
    have b65_0 := dtD_r (k := (σ 6 c 0)) (lp := (σ 6 c 1)) (o := (σ 6 c 2)) (g := (σ 6 c 3)) (d := (σ 0 0 7)) (by omega) (by omega) (by omega)
    exact zr_iret zC zK hG dX4_ofTown_68 (by unfold oTn; (repeat' split) <;> first | rfl | omega) rfl

set_option maxHeartbeats 4000000 in
set_option maxRecDepth 100000 in
theorem c_X4_town {Γ : Gm} {zl : Launch} {A : Nat → Prop} {σ : Mm} {c w : Int} (hI : IC σ) (hc : -2147483648 ≤ c ∧ c < 2147483648) (hw : -2147483648 ≤ w ∧ w < 2147483648) : Fn Γ zl A yX4_town cX4_town 3 (some .int) 5 109 [.ref (aL Γ), .int (zI c), .int (zI w)] σ (some (.int (zI (rC_town σ c w)))) (mC_town σ c w) := by
  refine Fn_of (by decide) (Nat.le_of_ble_eq_true rfl) ?_
  intro zp ze zs zm args below meth zc zQ H locs ls zC zK hG hl
  have hl : lv_has ls 3 [(0, .ref (aL Γ)), (1, .int (zI c)), (2, .int (zI w))] := hl
  obtain ⟨hmany, htoday, -⟩ := id hI
  refine lv_aload_n zC.1 zC.2.1 dX4_town_0 rfl (lv_at hl 0 rfl) ?_
  refine lv_iload_n zC.1 zC.2.1 dX4_town_1 rfl (lv_at hl 1 rfl) ?_
  refine zr_callV zC hG (c_X4_isTown (σ := σ) (c := c) hI (by first | assumption | omega)) mt_X4_isTown wl_X4_128 pL rfl rfl ⟨by decide, by decide⟩ rfl hl.1 rfl (Nat.le_of_ble_eq_true rfl) dX4_town_2 ⟨Nat.zero_le _, Nat.zero_le _⟩ (fun H locs hG => ?_)
  refine W.eq (g2 := F0 zm 5 ls [.int (zI (zB (isT σ c)))]) rfl ?_
  refine zr_ifeqB (tgt := 17) zC dX4_town_5 (by decide) (fun c5 => ?_) (fun c5 => ?_)
  · refine zr_iconst zC dX4_town_17 ?_
    exact zr_iret zC zK hG dX4_town_18 (by unfold rC_town; (repeat' split) <;> first | rfl | omega) (by unfold mC_town; (repeat' split) <;> first | rfl | (exfalso; omega))
  · refine lv_iload_n zC.1 zC.2.1 dX4_town_8 rfl (lv_at hl 2 rfl) ?_
    refine zr_if_lt (tgt := 17) zC dX4_town_9 (by decide) (by omega) (fun c9 => ?_) (fun c9 => ?_)
    · refine zr_iconst zC dX4_town_17 ?_
      exact zr_iret zC zK hG dX4_town_18 (by unfold rC_town; (repeat' split) <;> first | rfl | omega) (by unfold mC_town; (repeat' split) <;> first | rfl | (exfalso; omega))
    · refine lv_iload_n zC.1 zC.2.1 dX4_town_12 rfl (lv_at hl 2 rfl) ?_
      refine zr_iconst zC dX4_town_13 ?_
      refine zr_icmp_le (tgt := 19) zC dX4_town_14 (by decide) (by omega) (fun c14 => ?_) (fun c14 => ?_)
      · refine lv_aload_n zC.1 zC.2.1 dX4_town_19 rfl (lv_at hl 0 rfl) ?_
        refine lv_aload_n zC.1 zC.2.1 dX4_town_20 rfl (lv_at hl 0 rfl) ?_
        refine lv_iload_n zC.1 zC.2.1 dX4_town_21 rfl (lv_at hl 1 rfl) ?_
        refine lv_iload_n zC.1 zC.2.1 dX4_town_22 rfl (lv_at hl 2 rfl) ?_
        refine zr_callV zC hG (c_X4_ofTown (σ := σ) (c := c) (w := w) hI (by first | assumption | omega) (by first | assumption | omega)) mt_X4_ofTown wl_X4_131 pL rfl rfl ⟨by decide, by decide⟩ rfl hl.1 rfl (Nat.le_of_ble_eq_true rfl) dX4_town_23 ⟨Nat.zero_le _, Nat.zero_le _⟩ (fun H locs hG => ?_)
        refine W.eq (g2 := F0 zm 26 ls [.int (zI (oTn σ c w)), .ref (aL Γ)]) rfl ?_
        refine pf_L_told zC hG wl_X4_49 dX4_town_26 (fun H locs hG => ?_)
        refine zr_iconst zC dX4_town_29 ?_
        exact zr_iret zC zK hG dX4_town_30 (by unfold rC_town; (repeat' split) <;> first | rfl | omega) (by unfold mC_town; (repeat' split) <;> first | rfl | (exfalso; omega))
      · refine zr_iconst zC dX4_town_17 ?_
        exact zr_iret zC zK hG dX4_town_18 (by unfold rC_town; (repeat' split) <;> first | rfl | omega) (by unfold mC_town; (repeat' split) <;> first | rfl | (exfalso; omega))

set_option maxHeartbeats 4000000 in
set_option maxRecDepth 100000 in
theorem c_X4_mark {Γ : Gm} {zl : Launch} {A : Nat → Prop} {σ : Mm} {c w : Int} (hI : IC σ) (hc : -2147483648 ≤ c ∧ c < 2147483648) (hw : -2147483648 ≤ w ∧ w < 2147483648) : Fn Γ zl A yX4_mark cX4_mark 3 (some .int) 5 108 [.ref (aL Γ), .int (zI c), .int (zI w)] σ (some (.int (zI (rC_mark σ c w)))) (mC_mark σ c w) := by
  refine Fn_of (by decide) (Nat.le_of_ble_eq_true rfl) ?_
  intro zp ze zs zm args below meth zc zQ H locs ls zC zK hG hl
  have hl : lv_has ls 3 [(0, .ref (aL Γ)), (1, .int (zI c)), (2, .int (zI w))] := hl
  obtain ⟨hmany, htoday, -⟩ := id hI
  refine lv_aload_n zC.1 zC.2.1 dX4_mark_0 rfl (lv_at hl 0 rfl) ?_
  refine lv_iload_n zC.1 zC.2.1 dX4_mark_1 rfl (lv_at hl 1 rfl) ?_
  refine zr_callV zC hG (c_X4_isTown (σ := σ) (c := c) hI (by first | assumption | omega)) mt_X4_isTown wl_X4_128 pL rfl rfl ⟨by decide, by decide⟩ rfl hl.1 rfl (Nat.le_of_ble_eq_true rfl) dX4_mark_2 ⟨Nat.zero_le _, Nat.zero_le _⟩ (fun H locs hG => ?_)
  refine W.eq (g2 := F0 zm 5 ls [.int (zI (zB (isT σ c)))]) rfl ?_
  refine zr_ifeqB (tgt := 18) zC dX4_mark_5 (by decide) (fun c5 => ?_) (fun c5 => ?_)
  · refine zr_iconst zC dX4_mark_18 ?_
    exact zr_iret zC zK hG dX4_mark_19 (by unfold rC_mark; (repeat' split) <;> first | rfl | omega) (by unfold mC_mark; (repeat' split) <;> first | rfl | (exfalso; omega))
  · refine lv_iload_n zC.1 zC.2.1 dX4_mark_8 rfl (lv_at hl 2 rfl) ?_
    refine zr_if_le (tgt := 18) zC dX4_mark_9 (by decide) (by omega) (fun c9 => ?_) (fun c9 => ?_)
    · refine zr_iconst zC dX4_mark_18 ?_
      exact zr_iret zC zK hG dX4_mark_19 (by unfold rC_mark; (repeat' split) <;> first | rfl | omega) (by unfold mC_mark; (repeat' split) <;> first | rfl | (exfalso; omega))
    · refine lv_iload_n zC.1 zC.2.1 dX4_mark_12 rfl (lv_at hl 2 rfl) ?_
      refine zr_bipush zC dX4_mark_13 (by decide +kernel) ?_
      refine zr_icmp_lt (tgt := 20) zC dX4_mark_15 (by decide) (by omega) (fun c15 => ?_) (fun c15 => ?_)
      · refine lv_aload_n zC.1 zC.2.1 dX4_mark_20 rfl (lv_at hl 0 rfl) ?_
        refine gf_L_towns zC hG wl_X4_23 dX4_mark_21 ?_
        refine lv_iload_n zC.1 zC.2.1 dX4_mark_24 rfl (lv_at hl 1 rfl) ?_
        refine gr_To zC hG (by omega) dX4_mark_25 ?_
        refine lv_iload_n zC.1 zC.2.1 dX4_mark_26 rfl (lv_at hl 2 rfl) ?_
        have k27 := hI.2.2.2.2.2.2.1 c (by omega) (by omega)
        obtain ⟨k27a, k27b, k27c, k27d⟩ := id k27
        refine zr_callV zC hG (c_X0_isOf (σ := σ) (i := c) (w := w) (by first | assumption | omega) k27 (by first | assumption | omega)) mt_X0_isOf wl_X4_134 (pCal (by first | assumption | omega)) rfl rfl ⟨by decide, by decide⟩ rfl hl.1 rfl (Nat.le_of_ble_eq_true rfl) dX4_mark_27 ⟨Nat.zero_le _, Nat.zero_le _⟩ (fun H locs hG => ?_)
        refine W.eq (g2 := F0 zm 30 ls [.int (zI (zB (isO (σ 6 c 0) w)))]) rfl ?_
        refine zr_ifeqB (tgt := 50) zC dX4_mark_30 (by decide) (fun c30 => ?_) (fun c30 => ?_)
        · refine lv_aload_n zC.1 zC.2.1 dX4_mark_50 rfl (lv_at hl 0 rfl) ?_
          refine zr_iconst zC dX4_mark_51 ?_
          refine zr_callV zC hG (c_X4_found (σ := σ) (f := 3) hI (by first | assumption | omega)) mt_X4_found wl_X4_69 pL rfl rfl ⟨by decide, by decide⟩ rfl hl.1 rfl (Nat.le_of_ble_eq_true rfl) dX4_mark_52 ⟨Nat.zero_le _, Nat.zero_le _⟩ (fun H locs hG => ?_)
          refine W.eq (g2 := F0 zm 55 ls [.int (zI (-3))]) rfl ?_
          exact zr_iret zC zK hG dX4_mark_55 (by unfold rC_mark; (repeat' split) <;> first | rfl | omega) (by unfold mC_mark; (repeat' split) <;> first | rfl | (exfalso; omega))
        · refine lv_aload_n zC.1 zC.2.1 dX4_mark_33 rfl (lv_at hl 0 rfl) ?_
          refine gf_L_towns zC hG wl_X4_23 dX4_mark_34 ?_
          refine lv_iload_n zC.1 zC.2.1 dX4_mark_37 rfl (lv_at hl 1 rfl) ?_
          refine gr_To zC hG (by omega) dX4_mark_38 ?_
          refine lv_iload_n zC.1 zC.2.1 dX4_mark_39 rfl (lv_at hl 2 rfl) ?_
          refine lv_aload_n zC.1 zC.2.1 dX4_mark_40 rfl (lv_at hl 0 rfl) ?_
          refine gf_L_today (v := σ 0 0 7) zC hG wl_X4_46 rfl dX4_mark_41 ?_
          have k44 := hI.2.2.2.2.2.2.1 c (by omega) (by omega)
          obtain ⟨k44a, k44b, k44c, k44d⟩ := id k44
          refine zr_callV zC hG (c_X0_markOf (σ := σ) (i := c) (w := w) (td := σ 0 0 7) (by first | assumption | omega) k44 (by first | assumption | omega) (by first | assumption | omega) (by first | assumption | omega)) mt_X0_markOf wl_X4_137 (pCal (by first | assumption | omega)) rfl rfl ⟨by decide, by decide⟩ rfl hl.1 rfl (Nat.le_of_ble_eq_true rfl) dX4_mark_44 ⟨Nat.zero_le _, Nat.zero_le _⟩ (fun H locs hG => ?_)
          refine W.eq (g2 := F0 zm 47 ls [.int (zI (mrk (σ 6 c 0) (σ 6 c 1) (σ 6 c 2) (σ 6 c 3) w (σ 0 0 7)))]) rfl ?_
          refine lv_goto (tgt := 55) zC.1 zC.2.1 dX4_mark_47 (by decide) ?_
          exact zr_iret zC zK hG dX4_mark_55 (by unfold rC_mark; (repeat' split) <;> first | rfl | omega) (by unfold mC_mark; (repeat' split) <;> first | rfl | (exfalso; omega))
      · refine zr_iconst zC dX4_mark_18 ?_
        exact zr_iret zC zK hG dX4_mark_19 (by unfold rC_mark; (repeat' split) <;> first | rfl | omega) (by unfold mC_mark; (repeat' split) <;> first | rfl | (exfalso; omega))

set_option maxHeartbeats 4000000 in
set_option maxRecDepth 100000 in
theorem c_X4_asked {Γ : Gm} {zl : Launch} {A : Nat → Prop} {σ : Mm} (hI : IC σ) : Fn Γ zl A yX4_asked cX4_asked 1 (some .int) 0 0 [.ref (aL Γ)] σ (some (.int (zI (rC_asked σ)))) σ := by
  refine Fn_of (by decide) (Nat.le_of_ble_eq_true rfl) ?_
  intro zp ze zs zm args below meth zc zQ H locs ls zC zK hG hl
  have hl : lv_has ls 1 [(0, .ref (aL Γ))] := hl
  obtain ⟨hmany, htoday, -⟩ := id hI
  refine lv_aload_n zC.1 zC.2.1 dX4_asked_0 rfl (lv_at hl 0 rfl) ?_
  refine gf_L_told (v := σ 0 0 8) zC hG wl_X4_49 rfl dX4_asked_1 ?_
  exact zr_iret zC zK hG dX4_asked_4 rfl rfl

set_option maxHeartbeats 4000000 in
set_option maxRecDepth 100000 in
theorem c_X4_finding {Γ : Gm} {zl : Launch} {A : Nat → Prop} {σ : Mm} (hI : IC σ) : Fn Γ zl A yX4_finding cX4_finding 1 (some .int) 0 0 [.ref (aL Γ)] σ (some (.int (zI (rC_finding σ)))) σ := by
  refine Fn_of (by decide) (Nat.le_of_ble_eq_true rfl) ?_
  intro zp ze zs zm args below meth zc zQ H locs ls zC zK hG hl
  have hl : lv_has ls 1 [(0, .ref (aL Γ))] := hl
  obtain ⟨hmany, htoday, -⟩ := id hI
  refine lv_aload_n zC.1 zC.2.1 dX4_finding_0 rfl (lv_at hl 0 rfl) ?_
  refine gf_L_latestFinding (v := σ 0 0 11) zC hG wl_X4_59 rfl dX4_finding_1 ?_
  exact zr_iret zC zK hG dX4_finding_4 rfl rfl

set_option maxHeartbeats 4000000 in
set_option maxRecDepth 100000 in
theorem c_X4_upper {Γ : Gm} {zl : Launch} {A : Nat → Prop} {σ : Mm} (hI : IC σ) : Fn Γ zl A yX4_upper cX4_upper 1 (some .long) 0 0 [.ref (aL Γ)] σ (some (.long (zL (rC_upper σ)))) σ := by
  refine Fn_of (by decide) (Nat.le_of_ble_eq_true rfl) ?_
  intro zp ze zs zm args below meth zc zQ H locs ls zC zK hG hl
  have hl : lv_has ls 1 [(0, .ref (aL Γ))] := hl
  obtain ⟨hmany, htoday, -⟩ := id hI
  refine lv_aload_n zC.1 zC.2.1 dX4_upper_0 rfl (lv_at hl 0 rfl) ?_
  refine gf_L_toldUpper (v := σ 0 0 9) zC hG wl_X4_52 rfl dX4_upper_1 ?_
  exact zr_lret zC zK hG dX4_upper_4 rfl rfl

set_option maxHeartbeats 4000000 in
set_option maxRecDepth 100000 in
theorem c_X4_lower {Γ : Gm} {zl : Launch} {A : Nat → Prop} {σ : Mm} (hI : IC σ) : Fn Γ zl A yX4_lower cX4_lower 1 (some .long) 0 0 [.ref (aL Γ)] σ (some (.long (zL (rC_lower σ)))) σ := by
  refine Fn_of (by decide) (Nat.le_of_ble_eq_true rfl) ?_
  intro zp ze zs zm args below meth zc zQ H locs ls zC zK hG hl
  have hl : lv_has ls 1 [(0, .ref (aL Γ))] := hl
  obtain ⟨hmany, htoday, -⟩ := id hI
  refine lv_aload_n zC.1 zC.2.1 dX4_lower_0 rfl (lv_at hl 0 rfl) ?_
  refine gf_L_toldLower (v := σ 0 0 10) zC hG wl_X4_56 rfl dX4_lower_1 ?_
  exact zr_lret zC zK hG dX4_lower_4 rfl rfl

set_option maxHeartbeats 4000000 in
set_option maxRecDepth 100000 in
theorem c_X4_findings {Γ : Gm} {zl : Launch} {A : Nat → Prop} {σ : Mm} {f : Int} (hI : IC σ) (hf : -2147483648 ≤ f ∧ f < 2147483648) : Fn Γ zl A yX4_findings cX4_findings 2 (some .int) 1 22 [.ref (aL Γ), .int (zI f)] σ (some (.int (zI (rC_findings σ f)))) σ := by
  refine Fn_of (by decide) (Nat.le_of_ble_eq_true rfl) ?_
  intro zp ze zs zm args below meth zc zQ H locs ls zC zK hG hl
  have hl : lv_has ls 2 [(0, .ref (aL Γ)), (1, .int (zI f))] := hl
  obtain ⟨hmany, htoday, -⟩ := id hI
  refine lv_iload_n zC.1 zC.2.1 dX4_findings_0 rfl (lv_at hl 1 rfl) ?_
  refine zr_iconst zC dX4_findings_1 ?_
  refine zr_iconst zC dX4_findings_2 ?_
  refine zr_callS zC hG (c_X4_isWithin (σ := σ) (v := f) (a := 1) (b := 5) (by first | assumption | omega) (by first | assumption | omega) (by first | assumption | omega)) mt_X4_isWithin wl_X4_140 ⟨by decide, by decide⟩ rfl hl.1 rfl (Nat.le_of_ble_eq_true rfl) dX4_findings_3 ⟨Nat.zero_le _, Nat.zero_le _⟩ (fun H locs hG => ?_)
  refine W.eq (g2 := F0 zm 6 ls [.int (zI (zB (1 ≤ f ∧ f ≤ 5)))]) rfl ?_
  refine zr_ifeqB (tgt := 18) zC dX4_findings_6 (by decide) (fun c6 => ?_) (fun c6 => ?_)
  · refine zr_iconst zC dX4_findings_18 ?_
    exact zr_iret zC zK hG dX4_findings_19 (by unfold rC_findings; (repeat' split) <;> first | rfl | omega) rfl
  · refine lv_aload_n zC.1 zC.2.1 dX4_findings_9 rfl (lv_at hl 0 rfl) ?_
    refine gf_L_timesFound zC hG wl_X4_38 dX4_findings_10 ?_
    refine lv_iload_n zC.1 zC.2.1 dX4_findings_13 rfl (lv_at hl 1 rfl) ?_
    refine gi_Tf (v := σ 1 0 f) zC hG (by omega) rfl dX4_findings_14 ?_
    refine lv_goto (tgt := 19) zC.1 zC.2.1 dX4_findings_15 (by decide) ?_
    exact zr_iret zC zK hG dX4_findings_19 (by unfold rC_findings; (repeat' split) <;> first | rfl | omega) rfl

set_option maxHeartbeats 4000000 in
set_option maxRecDepth 100000 in
theorem c_X4_voyage {Γ : Gm} {zl : Launch} {A : Nat → Prop} {σ : Mm} {c d x n : Int} (hI : IC σ) (hc : -2147483648 ≤ c ∧ c < 2147483648) (hd : -2147483648 ≤ d ∧ d < 2147483648) (hx : -2147483648 ≤ x ∧ x < 2147483648) (hn : -2147483648 ≤ n ∧ n < 2147483648) : Fn Γ zl A yX4_voyage cX4_voyage 5 (some .int) 3 63 [.ref (aL Γ), .int (zI c), .int (zI d), .int (zI x), .int (zI n)] σ (some (.int (zI (rC_voyage σ c d x n)))) (mC_voyage σ c d x n) := by
  refine Fn_of (by decide) (Nat.le_of_ble_eq_true rfl) ?_
  intro zp ze zs zm args below meth zc zQ H locs ls zC zK hG hl
  have hl : lv_has ls 5 [(0, .ref (aL Γ)), (1, .int (zI c)), (2, .int (zI d)), (3, .int (zI x)), (4, .int (zI n))] := hl
  obtain ⟨hmany, htoday, -⟩ := id hI
  refine lv_aload_n zC.1 zC.2.1 dX4_voyage_0 rfl (lv_at hl 0 rfl) ?_
  refine lv_iload_n zC.1 zC.2.1 dX4_voyage_1 rfl (lv_at hl 1 rfl) ?_
  refine zr_callV zC hG (c_X4_isTown (σ := σ) (c := c) hI (by first | assumption | omega)) mt_X4_isTown wl_X4_128 pL rfl rfl ⟨by decide, by decide⟩ rfl hl.1 rfl (Nat.le_of_ble_eq_true rfl) dX4_voyage_2 ⟨Nat.zero_le _, Nat.zero_le _⟩ (fun H locs hG => ?_)
  refine W.eq (g2 := F0 zm 5 ls [.int (zI (zB (isT σ c)))]) rfl ?_
  refine zr_ifeqB (tgt := 35) zC dX4_voyage_5 (by decide) (fun c5 => ?_) (fun c5 => ?_)
  · refine zr_iconst zC dX4_voyage_35 ?_
    exact zr_iret zC zK hG dX4_voyage_36 (by unfold rC_voyage; (repeat' split) <;> first | rfl | omega) (by unfold mC_voyage; (repeat' split) <;> first | rfl | (exfalso; omega))
  · refine lv_aload_n zC.1 zC.2.1 dX4_voyage_8 rfl (lv_at hl 0 rfl) ?_
    refine lv_iload_n zC.1 zC.2.1 dX4_voyage_9 rfl (lv_at hl 2 rfl) ?_
    refine zr_callV zC hG (c_X4_isTown (σ := σ) (c := d) hI (by first | assumption | omega)) mt_X4_isTown wl_X4_128 pL rfl rfl ⟨by decide, by decide⟩ rfl hl.1 rfl (Nat.le_of_ble_eq_true rfl) dX4_voyage_10 ⟨Nat.zero_le _, Nat.zero_le _⟩ (fun H locs hG => ?_)
    refine W.eq (g2 := F0 zm 13 ls [.int (zI (zB (isT σ d)))]) rfl ?_
    refine zr_ifeqB (tgt := 35) zC dX4_voyage_13 (by decide) (fun c13 => ?_) (fun c13 => ?_)
    · refine zr_iconst zC dX4_voyage_35 ?_
      exact zr_iret zC zK hG dX4_voyage_36 (by unfold rC_voyage; (repeat' split) <;> first | rfl | omega) (by unfold mC_voyage; (repeat' split) <;> first | rfl | (exfalso; omega))
    · refine lv_iload_n zC.1 zC.2.1 dX4_voyage_16 rfl (lv_at hl 3 rfl) ?_
      refine zr_callS zC hG (c_X4_isDay (σ := σ) (v := x) (by first | assumption | omega)) mt_X4_isDay wl_X4_168 ⟨by decide, by decide⟩ rfl hl.1 rfl (Nat.le_of_ble_eq_true rfl) dX4_voyage_17 ⟨Nat.zero_le _, Nat.zero_le _⟩ (fun H locs hG => ?_)
      refine W.eq (g2 := F0 zm 20 ls [.int (zI (zB (0 ≤ x ∧ x ≤ 19999)))]) rfl ?_
      refine zr_ifeqB (tgt := 35) zC dX4_voyage_20 (by decide) (fun c20 => ?_) (fun c20 => ?_)
      · refine zr_iconst zC dX4_voyage_35 ?_
        exact zr_iret zC zK hG dX4_voyage_36 (by unfold rC_voyage; (repeat' split) <;> first | rfl | omega) (by unfold mC_voyage; (repeat' split) <;> first | rfl | (exfalso; omega))
      · refine lv_iload zC.1 zC.2.1 dX4_voyage_23 (lv_at hl 4 rfl) ?_
        refine zr_iconst zC dX4_voyage_25 ?_
        refine zr_sipush zC dX4_voyage_26 (by decide +kernel) ?_
        refine zr_callS zC hG (c_X4_isWithin (σ := σ) (v := n) (a := 0) (b := 999) (by first | assumption | omega) (by first | assumption | omega) (by first | assumption | omega)) mt_X4_isWithin wl_X4_140 ⟨by decide, by decide⟩ rfl hl.1 rfl (Nat.le_of_ble_eq_true rfl) dX4_voyage_29 ⟨Nat.zero_le _, Nat.zero_le _⟩ (fun H locs hG => ?_)
        refine W.eq (g2 := F0 zm 32 ls [.int (zI (zB (0 ≤ n ∧ n ≤ 999)))]) rfl ?_
        refine zr_ifneB (tgt := 37) zC dX4_voyage_32 (by decide) (fun c32 => ?_) (fun c32 => ?_)
        · refine lv_iload_n zC.1 zC.2.1 dX4_voyage_37 rfl (lv_at hl 3 rfl) ?_
          refine lv_iload zC.1 zC.2.1 dX4_voyage_38 (lv_at hl 4 rfl) ?_
          refine zr_iadd zC dX4_voyage_40 ?_
          refine zr_sipush zC dX4_voyage_41 (by decide +kernel) ?_
          refine zr_icmp_le (tgt := 50) zC dX4_voyage_44 (by decide) (by omega) (fun c44 => ?_) (fun c44 => ?_)
          · refine lv_aload_n zC.1 zC.2.1 dX4_voyage_50 rfl (lv_at hl 0 rfl) ?_
            refine lv_aload_n zC.1 zC.2.1 dX4_voyage_51 rfl (lv_at hl 0 rfl) ?_
            refine gf_L_towns zC hG wl_X4_23 dX4_voyage_52 ?_
            refine lv_iload_n zC.1 zC.2.1 dX4_voyage_55 rfl (lv_at hl 2 rfl) ?_
            refine gr_To zC hG (by omega) dX4_voyage_56 ?_
            refine lv_iload_n zC.1 zC.2.1 dX4_voyage_57 rfl (lv_at hl 3 rfl) ?_
            refine lv_iload zC.1 zC.2.1 dX4_voyage_58 (lv_at hl 4 rfl) ?_
            refine zr_iadd zC dX4_voyage_60 ?_
            have k61 := hI.2.2.2.2.2.2.1 d (by omega) (by omega)
            obtain ⟨k61a, k61b, k61c, k61d⟩ := id k61
            refine zr_callV zC hG (c_X0_countOn (σ := σ) (i := d) (d := x + n) (by first | assumption | omega) k61 (by first | assumption | omega)) mt_X0_countOn wl_X4_218 (pCal (by first | assumption | omega)) rfl rfl ⟨by decide, by decide⟩ rfl hl.1 rfl (Nat.le_of_ble_eq_true rfl) dX4_voyage_61 ⟨Nat.zero_le _, Nat.zero_le _⟩ (fun H locs hG => ?_)
            refine W.eq (g2 := F0 zm 64 ls [.int (zI (cnt (σ 6 d 0) (σ 6 d 2) (σ 6 d 3) (x + n))), .ref (aL Γ)]) rfl ?_
            have b61_0 := cnt_r (k := (σ 6 d 0)) (o := (σ 6 d 2)) (g := (σ 6 d 3)) (d := (x + n)) (by omega)
            refine lv_aload_n zC.1 zC.2.1 dX4_voyage_64 rfl (lv_at hl 0 rfl) ?_
            refine gf_L_towns zC hG wl_X4_23 dX4_voyage_65 ?_
            refine lv_iload_n zC.1 zC.2.1 dX4_voyage_68 rfl (lv_at hl 1 rfl) ?_
            refine gr_To zC hG (by omega) dX4_voyage_69 ?_
            refine lv_iload_n zC.1 zC.2.1 dX4_voyage_70 rfl (lv_at hl 3 rfl) ?_
            have k71 := hI.2.2.2.2.2.2.1 c (by omega) (by omega)
            obtain ⟨k71a, k71b, k71c, k71d⟩ := id k71
            refine zr_callV zC hG (c_X0_countOn (σ := σ) (i := c) (d := x) (by first | assumption | omega) k71 (by first | assumption | omega)) mt_X0_countOn wl_X4_218 (pCal (by first | assumption | omega)) rfl rfl ⟨by decide, by decide⟩ rfl hl.1 rfl (Nat.le_of_ble_eq_true rfl) dX4_voyage_71 ⟨Nat.zero_le _, Nat.zero_le _⟩ (fun H locs hG => ?_)
            refine W.eq (g2 := F0 zm 74 ls [.int (zI (cnt (σ 6 c 0) (σ 6 c 2) (σ 6 c 3) x)), .int (zI (cnt (σ 6 d 0) (σ 6 d 2) (σ 6 d 3) (x + n))), .ref (aL Γ)]) rfl ?_
            have b71_0 := cnt_r (k := (σ 6 c 0)) (o := (σ 6 c 2)) (g := (σ 6 c 3)) (d := x) (by omega)
            refine zr_isub zC dX4_voyage_74 ?_
            refine pf_L_told zC hG wl_X4_49 dX4_voyage_75 (fun H locs hG => ?_)
            refine zr_iconst zC dX4_voyage_78 ?_
            exact zr_iret zC zK hG dX4_voyage_79 (by unfold rC_voyage; (repeat' split) <;> first | rfl | omega) (by unfold mC_voyage; (repeat' split) <;> first | rfl | (exfalso; omega))
          · refine zr_bipush zC dX4_voyage_47 (by decide +kernel) ?_
            exact zr_iret zC zK hG dX4_voyage_49 (by unfold rC_voyage; (repeat' split) <;> first | rfl | omega) (by unfold mC_voyage; (repeat' split) <;> first | rfl | (exfalso; omega))
        · refine zr_iconst zC dX4_voyage_35 ?_
          exact zr_iret zC zK hG dX4_voyage_36 (by unfold rC_voyage; (repeat' split) <;> first | rfl | omega) (by unfold mC_voyage; (repeat' split) <;> first | rfl | (exfalso; omega))

set_option maxHeartbeats 4000000 in
set_option maxRecDepth 100000 in
theorem c_X4_due {Γ : Gm} {zl : Launch} {A : Nat → Prop} {σ : Mm} {c t y : Int} (hI : IC σ) (hc : -2147483648 ≤ c ∧ c < 2147483648) (ht : -2147483648 ≤ t ∧ t < 2147483648) (hy : -2147483648 ≤ y ∧ y < 2147483648) : Fn Γ zl A yX4_due cX4_due 6 (some .int) 4 88 [.ref (aL Γ), .int (zI c), .int (zI t), .int (zI y)] σ (some (.int (zI (rC_due σ c t y)))) (mC_due σ c t y) := by
  refine Fn_of (by decide) (Nat.le_of_ble_eq_true rfl) ?_
  intro zp ze zs zm args below meth zc zQ H locs ls zC zK hG hl
  have hl : lv_has ls 6 [(0, .ref (aL Γ)), (1, .int (zI c)), (2, .int (zI t)), (3, .int (zI y))] := hl
  obtain ⟨hmany, htoday, -⟩ := id hI
  refine lv_aload_n zC.1 zC.2.1 dX4_due_0 rfl (lv_at hl 0 rfl) ?_
  refine lv_iload_n zC.1 zC.2.1 dX4_due_1 rfl (lv_at hl 1 rfl) ?_
  refine zr_callV zC hG (c_X4_isTown (σ := σ) (c := c) hI (by first | assumption | omega)) mt_X4_isTown wl_X4_128 pL rfl rfl ⟨by decide, by decide⟩ rfl hl.1 rfl (Nat.le_of_ble_eq_true rfl) dX4_due_2 ⟨Nat.zero_le _, Nat.zero_le _⟩ (fun H locs hG => ?_)
  refine W.eq (g2 := F0 zm 5 ls [.int (zI (zB (isT σ c)))]) rfl ?_
  refine zr_ifeqB (tgt := 19) zC dX4_due_5 (by decide) (fun c5 => ?_) (fun c5 => ?_)
  · refine zr_iconst zC dX4_due_19 ?_
    exact zr_iret zC zK hG dX4_due_20 (by unfold rC_due; (repeat' split) <;> first | rfl | omega) (by unfold mC_due; (repeat' split) <;> first | rfl | (exfalso; omega))
  · refine lv_iload_n zC.1 zC.2.1 dX4_due_8 rfl (lv_at hl 2 rfl) ?_
    refine zr_if_lt (tgt := 19) zC dX4_due_9 (by decide) (by omega) (fun c9 => ?_) (fun c9 => ?_)
    · refine zr_iconst zC dX4_due_19 ?_
      exact zr_iret zC zK hG dX4_due_20 (by unfold rC_due; (repeat' split) <;> first | rfl | omega) (by unfold mC_due; (repeat' split) <;> first | rfl | (exfalso; omega))
    · refine lv_iload_n zC.1 zC.2.1 dX4_due_12 rfl (lv_at hl 3 rfl) ?_
      refine zr_callS zC hG (c_X4_isYearsDue (σ := σ) (v := y) (by first | assumption | omega)) mt_X4_isYearsDue wl_X4_224 ⟨by decide, by decide⟩ rfl hl.1 rfl (Nat.le_of_ble_eq_true rfl) dX4_due_13 ⟨Nat.zero_le _, Nat.zero_le _⟩ (fun H locs hG => ?_)
      refine W.eq (g2 := F0 zm 16 ls [.int (zI (zB (0 ≤ y ∧ y ≤ 50)))]) rfl ?_
      refine zr_ifneB (tgt := 21) zC dX4_due_16 (by decide) (fun c16 => ?_) (fun c16 => ?_)
      · refine lv_aload_n zC.1 zC.2.1 dX4_due_21 rfl (lv_at hl 0 rfl) ?_
        refine gf_L_towns zC hG wl_X4_23 dX4_due_22 ?_
        refine lv_iload_n zC.1 zC.2.1 dX4_due_25 rfl (lv_at hl 1 rfl) ?_
        refine gr_To zC hG (by omega) dX4_due_26 ?_
        refine lv_iload_n zC.1 zC.2.1 dX4_due_27 rfl (lv_at hl 2 rfl) ?_
        have k28 := hI.2.2.2.2.2.2.1 c (by omega) (by omega)
        obtain ⟨k28a, k28b, k28c, k28d⟩ := id k28
        refine zr_callV zC hG (c_X0_dayOfDate (σ := σ) (i := c) (t := t) (by first | assumption | omega) k28 (by first | assumption | omega)) mt_X0_dayOfDate wl_X4_174 (pCal (by first | assumption | omega)) rfl rfl ⟨by decide, by decide⟩ rfl hl.1 rfl (Nat.le_of_ble_eq_true rfl) dX4_due_28 ⟨Nat.zero_le _, Nat.zero_le _⟩ (fun H locs hG => ?_)
        refine W.eq (g2 := F0 zm 31 ls [.int (zI (dyD (σ 6 c 0) (σ 6 c 1) (σ 6 c 2) (σ 6 c 3) t))]) rfl ?_
        have b28_0 := dyD_r (k := (σ 6 c 0)) (lp := (σ 6 c 1)) (o := (σ 6 c 2)) (g := (σ 6 c 3)) (t := t) (by omega) (by omega)
        refine lv_istore (lv' := [(4, .int (zI (dyD (σ 6 c 0) (σ 6 c 1) (σ 6 c 2) (σ 6 c 3) t))), (0, .ref (aL Γ)), (1, .int (zI c)), (2, .int (zI t)), (3, .int (zI y))]) zC.1 zC.2.1 dX4_due_31 hl (by decide) rfl (fun ls hl => ?_)
        refine lv_iload zC.1 zC.2.1 dX4_due_33 (lv_at hl 0 rfl) ?_
        refine zr_iconst zC dX4_due_35 ?_
        refine zr_icmp_ne (tgt := 45) zC dX4_due_36 (by decide) (by omega) (fun c36 => ?_) (fun c36 => ?_)
        · have h36 := dyD_lt (by omega) (by omega) c36
          refine lv_aload_n zC.1 zC.2.1 dX4_due_45 rfl (lv_at hl 1 rfl) ?_
          refine lv_iload zC.1 zC.2.1 dX4_due_46 (lv_at hl 0 rfl) ?_
          refine zr_bipush zC dX4_due_48 (by decide +kernel) ?_
          refine lv_iload_n zC.1 zC.2.1 dX4_due_50 rfl (lv_at hl 4 rfl) ?_
          refine zr_imul zC dX4_due_51 ?_
          refine zr_iadd zC dX4_due_52 ?_
          refine pf_L_told zC hG wl_X4_49 dX4_due_53 (fun H locs hG => ?_)
          refine lv_aload_n zC.1 zC.2.1 dX4_due_56 rfl (lv_at hl 1 rfl) ?_
          refine gf_L_towns zC hG wl_X4_23 dX4_due_57 ?_
          refine lv_iload_n zC.1 zC.2.1 dX4_due_60 rfl (lv_at hl 2 rfl) ?_
          refine gr_To zC hG (by omega) dX4_due_61 ?_
          refine lv_iload_n zC.1 zC.2.1 dX4_due_62 rfl (lv_at hl 3 rfl) ?_
          refine zr_sipush zC dX4_due_63 (by decide +kernel) ?_
          refine lv_iload_n zC.1 zC.2.1 dX4_due_66 rfl (lv_at hl 4 rfl) ?_
          refine zr_imul zC dX4_due_67 ?_
          refine zr_iadd zC dX4_due_68 ?_
          have k69 := hI.2.2.2.2.2.2.1 c (by omega) (by omega)
          obtain ⟨k69a, k69b, k69c, k69d⟩ := id k69
          refine zr_callV zC hG (c_X0_dayOfDate (σ := up σ 0 0 8 ((dyD (σ 6 c 0) (σ 6 c 1) (σ 6 c 2) (σ 6 c 3) t) + (100 * y))) (i := c) (t := t + (1000 * y)) (by first | assumption | omega) k69 (by first | assumption | omega)) mt_X0_dayOfDate wl_X4_174 (pCal (by first | assumption | omega)) rfl rfl ⟨by decide, by decide⟩ rfl hl.1 rfl (Nat.le_of_ble_eq_true rfl) dX4_due_69 ⟨Nat.zero_le _, Nat.zero_le _⟩ (fun H locs hG => ?_)
          refine W.eq (g2 := F0 zm 72 ls [.int (zI (dyD (σ 6 c 0) (σ 6 c 1) (σ 6 c 2) (σ 6 c 3) (t + (1000 * y))))]) rfl ?_
          have b69_0 := dyD_r (k := (σ 6 c 0)) (lp := (σ 6 c 1)) (o := (σ 6 c 2)) (g := (σ 6 c 3)) (t := (t + (1000 * y))) (by omega) (by omega)
          refine lv_istore (lv' := [(5, .int (zI (dyD (σ 6 c 0) (σ 6 c 1) (σ 6 c 2) (σ 6 c 3) (t + (1000 * y))))), (4, .int (zI (dyD (σ 6 c 0) (σ 6 c 1) (σ 6 c 2) (σ 6 c 3) t))), (0, .ref (aL Γ)), (1, .int (zI c)), (2, .int (zI t)), (3, .int (zI y))]) zC.1 zC.2.1 dX4_due_72 hl (by decide) rfl (fun ls hl => ?_)
          refine lv_iload zC.1 zC.2.1 dX4_due_74 (lv_at hl 0 rfl) ?_
          refine zr_iconst zC dX4_due_76 ?_
          refine zr_icmp_ne (tgt := 85) zC dX4_due_77 (by decide) (by omega) (fun c77 => ?_) (fun c77 => ?_)
          · refine lv_iload zC.1 zC.2.1 dX4_due_85 (lv_at hl 0 rfl) ?_
            exact zr_iret zC zK hG dX4_due_87 (by unfold rC_due; (repeat' split) <;> first | rfl | omega) (by unfold mC_due; (repeat' split) <;> first | rfl | (exfalso; omega))
          · refine zr_bipush zC dX4_due_80 (by decide +kernel) ?_
            refine lv_goto (tgt := 87) zC.1 zC.2.1 dX4_due_82 (by decide) ?_
            exact zr_iret zC zK hG dX4_due_87 (by unfold rC_due; (repeat' split) <;> first | rfl | omega) (by unfold mC_due; (repeat' split) <;> first | rfl | (exfalso; omega))
        · refine lv_aload_n zC.1 zC.2.1 dX4_due_39 rfl (lv_at hl 1 rfl) ?_
          refine zr_iconst zC dX4_due_40 ?_
          refine zr_callV zC hG (c_X4_found (σ := σ) (f := 4) hI (by first | assumption | omega)) mt_X4_found wl_X4_69 pL rfl rfl ⟨by decide, by decide⟩ rfl hl.1 rfl (Nat.le_of_ble_eq_true rfl) dX4_due_41 ⟨Nat.zero_le _, Nat.zero_le _⟩ (fun H locs hG => ?_)
          refine W.eq (g2 := F0 zm 44 ls [.int (zI (-3))]) rfl ?_
          exact zr_iret zC zK hG dX4_due_44 (by unfold rC_due; (repeat' split) <;> first | rfl | omega) (by unfold mC_due; (repeat' split) <;> first | rfl | (exfalso; omega))
      · refine zr_iconst zC dX4_due_19 ?_
        exact zr_iret zC zK hG dX4_due_20 (by unfold rC_due; (repeat' split) <;> first | rfl | omega) (by unfold mC_due; (repeat' split) <;> first | rfl | (exfalso; omega))

set_option maxHeartbeats 4000000 in
set_option maxRecDepth 100000 in
theorem c_X4_moon {Γ : Gm} {zl : Launch} {A : Nat → Prop} {σ : Mm} {d : Int} (hI : IC σ) (hd : -2147483648 ≤ d ∧ d < 2147483648) : Fn Γ zl A yX4_moon cX4_moon 2 (some .int) 1 21 [.ref (aL Γ), .int (zI d)] σ (some (.int (zI (rC_moon σ d)))) (mC_moon σ d) := by
  refine Fn_of (by decide) (Nat.le_of_ble_eq_true rfl) ?_
  intro zp ze zs zm args below meth zc zQ H locs ls zC zK hG hl
  have hl : lv_has ls 2 [(0, .ref (aL Γ)), (1, .int (zI d))] := hl
  obtain ⟨hmany, htoday, -⟩ := id hI
  refine lv_iload_n zC.1 zC.2.1 dX4_moon_0 rfl (lv_at hl 1 rfl) ?_
  refine zr_callS zC hG (c_X4_isDay (σ := σ) (v := d) (by first | assumption | omega)) mt_X4_isDay wl_X4_168 ⟨by decide, by decide⟩ rfl hl.1 rfl (Nat.le_of_ble_eq_true rfl) dX4_moon_1 ⟨Nat.zero_le _, Nat.zero_le _⟩ (fun H locs hG => ?_)
  refine W.eq (g2 := F0 zm 4 ls [.int (zI (zB (0 ≤ d ∧ d ≤ 19999)))]) rfl ?_
  refine zr_ifneB (tgt := 9) zC dX4_moon_4 (by decide) (fun c4 => ?_) (fun c4 => ?_)
  · refine lv_aload_n zC.1 zC.2.1 dX4_moon_9 rfl (lv_at hl 0 rfl) ?_
    refine lv_iload_n zC.1 zC.2.1 dX4_moon_10 rfl (lv_at hl 1 rfl) ?_
    refine zr_callS zC hG (c_X4_daysTillFull (σ := σ) (d := d) (by first | assumption | omega)) mt_X4_daysTillFull wl_X4_265 ⟨by decide, by decide⟩ rfl hl.1 rfl (Nat.le_of_ble_eq_true rfl) dX4_moon_11 ⟨Nat.zero_le _, Nat.zero_le _⟩ (fun H locs hG => ?_)
    refine W.eq (g2 := F0 zm 14 ls [.int (zI (tlF d)), .ref (aL Γ)]) rfl ?_
    have b11_0 := tlF_r (d := d) (by omega)
    refine pf_L_told zC hG wl_X4_49 dX4_moon_14 (fun H locs hG => ?_)
    refine lv_aload_n zC.1 zC.2.1 dX4_moon_17 rfl (lv_at hl 0 rfl) ?_
    refine gf_L_told (v := (tlF d)) zC hG wl_X4_49 (by first | rfl | simp [up]) dX4_moon_18 ?_
    refine zr_if_ne (tgt := 28) zC dX4_moon_21 (by decide) (by omega) (fun c21 => ?_) (fun c21 => ?_)
    · refine zr_iconst zC dX4_moon_28 ?_
      exact zr_iret zC zK hG dX4_moon_29 (by unfold rC_moon; (repeat' split) <;> first | rfl | omega) (by unfold mC_moon; (repeat' split) <;> first | rfl | (exfalso; omega))
    · refine zr_iconst zC dX4_moon_24 ?_
      refine lv_goto (tgt := 29) zC.1 zC.2.1 dX4_moon_25 (by decide) ?_
      exact zr_iret zC zK hG dX4_moon_29 (by unfold rC_moon; (repeat' split) <;> first | rfl | omega) (by unfold mC_moon; (repeat' split) <;> first | rfl | (exfalso; omega))
  · refine zr_iconst zC dX4_moon_7 ?_
    exact zr_iret zC zK hG dX4_moon_8 (by unfold rC_moon; (repeat' split) <;> first | rfl | omega) (by unfold mC_moon; (repeat' split) <;> first | rfl | (exfalso; omega))

set_option maxHeartbeats 4000000 in
set_option maxRecDepth 100000 in
theorem c_X4_age {Γ : Gm} {zl : Launch} {A : Nat → Prop} {σ : Mm} {c t : Int} (hI : IC σ) (hc : -2147483648 ≤ c ∧ c < 2147483648) (ht : -2147483648 ≤ t ∧ t < 2147483648) : Fn Γ zl A yX4_age cX4_age 4 (some .int) 5 115 [.ref (aL Γ), .int (zI c), .int (zI t)] σ (some (.int (zI (rC_age σ c t)))) (mC_age σ c t) := by
  refine Fn_of (by decide) (Nat.le_of_ble_eq_true rfl) ?_
  intro zp ze zs zm args below meth zc zQ H locs ls zC zK hG hl
  have hl : lv_has ls 4 [(0, .ref (aL Γ)), (1, .int (zI c)), (2, .int (zI t))] := hl
  obtain ⟨hmany, htoday, -⟩ := id hI
  refine lv_aload_n zC.1 zC.2.1 dX4_age_0 rfl (lv_at hl 0 rfl) ?_
  refine lv_iload_n zC.1 zC.2.1 dX4_age_1 rfl (lv_at hl 1 rfl) ?_
  refine zr_callV zC hG (c_X4_isTown (σ := σ) (c := c) hI (by first | assumption | omega)) mt_X4_isTown wl_X4_128 pL rfl rfl ⟨by decide, by decide⟩ rfl hl.1 rfl (Nat.le_of_ble_eq_true rfl) dX4_age_2 ⟨Nat.zero_le _, Nat.zero_le _⟩ (fun H locs hG => ?_)
  refine W.eq (g2 := F0 zm 5 ls [.int (zI (zB (isT σ c)))]) rfl ?_
  refine zr_ifeqB (tgt := 12) zC dX4_age_5 (by decide) (fun c5 => ?_) (fun c5 => ?_)
  · refine zr_iconst zC dX4_age_12 ?_
    exact zr_iret zC zK hG dX4_age_13 (by unfold rC_age; (repeat' split) <;> first | rfl | omega) (by unfold mC_age; (repeat' split) <;> first | rfl | (exfalso; omega))
  · refine lv_iload_n zC.1 zC.2.1 dX4_age_8 rfl (lv_at hl 2 rfl) ?_
    refine zr_if_ge (tgt := 14) zC dX4_age_9 (by decide) (by omega) (fun c9 => ?_) (fun c9 => ?_)
    · refine lv_aload_n zC.1 zC.2.1 dX4_age_14 rfl (lv_at hl 0 rfl) ?_
      refine gf_L_towns zC hG wl_X4_23 dX4_age_15 ?_
      refine lv_iload_n zC.1 zC.2.1 dX4_age_18 rfl (lv_at hl 1 rfl) ?_
      refine gr_To zC hG (by omega) dX4_age_19 ?_
      refine lv_iload_n zC.1 zC.2.1 dX4_age_20 rfl (lv_at hl 2 rfl) ?_
      have k21 := hI.2.2.2.2.2.2.1 c (by omega) (by omega)
      obtain ⟨k21a, k21b, k21c, k21d⟩ := id k21
      refine zr_callV zC hG (c_X0_dayOfDate (σ := σ) (i := c) (t := t) (by first | assumption | omega) k21 (by first | assumption | omega)) mt_X0_dayOfDate wl_X4_174 (pCal (by first | assumption | omega)) rfl rfl ⟨by decide, by decide⟩ rfl hl.1 rfl (Nat.le_of_ble_eq_true rfl) dX4_age_21 ⟨Nat.zero_le _, Nat.zero_le _⟩ (fun H locs hG => ?_)
      refine W.eq (g2 := F0 zm 24 ls [.int (zI (dyD (σ 6 c 0) (σ 6 c 1) (σ 6 c 2) (σ 6 c 3) t))]) rfl ?_
      have b21_0 := dyD_r (k := (σ 6 c 0)) (lp := (σ 6 c 1)) (o := (σ 6 c 2)) (g := (σ 6 c 3)) (t := t) (by omega) (by omega)
      refine lv_istore_n (lv' := [(3, .int (zI (dyD (σ 6 c 0) (σ 6 c 1) (σ 6 c 2) (σ 6 c 3) t))), (0, .ref (aL Γ)), (1, .int (zI c)), (2, .int (zI t))]) zC.1 zC.2.1 dX4_age_24 rfl hl (by decide) rfl (fun ls hl => ?_)
      refine lv_iload_n zC.1 zC.2.1 dX4_age_25 rfl (lv_at hl 0 rfl) ?_
      refine zr_iconst zC dX4_age_26 ?_
      refine zr_icmp_ne (tgt := 36) zC dX4_age_27 (by decide) (by omega) (fun c27 => ?_) (fun c27 => ?_)
      · have h27 := dyD_lt (by omega) (by omega) c27
        refine lv_iload_n zC.1 zC.2.1 dX4_age_36 rfl (lv_at hl 0 rfl) ?_
        refine lv_aload_n zC.1 zC.2.1 dX4_age_37 rfl (lv_at hl 1 rfl) ?_
        refine gf_L_today (v := σ 0 0 7) zC hG wl_X4_46 rfl dX4_age_38 ?_
        refine zr_icmp_le (tgt := 49) zC dX4_age_41 (by decide) (by omega) (fun c41 => ?_) (fun c41 => ?_)
        · refine lv_aload_n zC.1 zC.2.1 dX4_age_49 rfl (lv_at hl 1 rfl) ?_
          refine gf_L_towns zC hG wl_X4_23 dX4_age_50 ?_
          refine lv_iload_n zC.1 zC.2.1 dX4_age_53 rfl (lv_at hl 2 rfl) ?_
          refine gr_To zC hG (by omega) dX4_age_54 ?_
          refine lv_iload_n zC.1 zC.2.1 dX4_age_55 rfl (lv_at hl 3 rfl) ?_
          refine lv_aload_n zC.1 zC.2.1 dX4_age_56 rfl (lv_at hl 1 rfl) ?_
          refine gf_L_today (v := σ 0 0 7) zC hG wl_X4_46 rfl dX4_age_57 ?_
          have k60 := hI.2.2.2.2.2.2.1 c (by omega) (by omega)
          obtain ⟨k60a, k60b, k60c, k60d⟩ := id k60
          refine zr_callV zC hG (c_X0_timesAgain (σ := σ) (i := c) (t := t) (td := σ 0 0 7) (by first | assumption | omega) k60 (by first | assumption | omega) (by first | assumption | omega)) mt_X0_timesAgain wl_X4_200 (pCal (by first | assumption | omega)) rfl rfl ⟨by decide, by decide⟩ rfl hl.1 rfl (Nat.le_of_ble_eq_true rfl) dX4_age_60 ⟨Nat.zero_le _, Nat.zero_le _⟩ (fun H locs hG => ?_)
          refine W.eq (g2 := F0 zm 63 ls [.int (zI (tmA (σ 6 c 0) (σ 6 c 1) (σ 6 c 2) (σ 6 c 3) t (σ 0 0 7)))]) rfl ?_
          have b60_0 := tmA_r (k := (σ 6 c 0)) (lp := (σ 6 c 1)) (o := (σ 6 c 2)) (g := (σ 6 c 3)) (t := t) (td := (σ 0 0 7)) (by omega) (by omega) (by omega) (by omega)
          exact zr_iret zC zK hG dX4_age_63 (by unfold rC_age; (repeat' split) <;> first | rfl | omega) (by unfold mC_age; (repeat' split) <;> first | rfl | (exfalso; omega))
        · refine zr_bipush zC dX4_age_44 (by decide +kernel) ?_
          refine lv_goto (tgt := 63) zC.1 zC.2.1 dX4_age_46 (by decide) ?_
          exact zr_iret zC zK hG dX4_age_63 (by unfold rC_age; (repeat' split) <;> first | rfl | omega) (by unfold mC_age; (repeat' split) <;> first | rfl | (exfalso; omega))
      · refine lv_aload_n zC.1 zC.2.1 dX4_age_30 rfl (lv_at hl 1 rfl) ?_
        refine zr_iconst zC dX4_age_31 ?_
        refine zr_callV zC hG (c_X4_found (σ := σ) (f := 4) hI (by first | assumption | omega)) mt_X4_found wl_X4_69 pL rfl rfl ⟨by decide, by decide⟩ rfl hl.1 rfl (Nat.le_of_ble_eq_true rfl) dX4_age_32 ⟨Nat.zero_le _, Nat.zero_le _⟩ (fun H locs hG => ?_)
        refine W.eq (g2 := F0 zm 35 ls [.int (zI (-3))]) rfl ?_
        exact zr_iret zC zK hG dX4_age_35 (by unfold rC_age; (repeat' split) <;> first | rfl | omega) (by unfold mC_age; (repeat' split) <;> first | rfl | (exfalso; omega))
    · refine zr_iconst zC dX4_age_12 ?_
      exact zr_iret zC zK hG dX4_age_13 (by unfold rC_age; (repeat' split) <;> first | rfl | omega) (by unfold mC_age; (repeat' split) <;> first | rfl | (exfalso; omega))

set_option maxHeartbeats 4000000 in
set_option maxRecDepth 100000 in
theorem c_X4_haveSameDate {Γ : Gm} {zl : Launch} {A : Nat → Prop} {σ : Mm} {c d x : Int} (hI : IC σ) (hc : isT σ c) (hd : isT σ d) (hx : 0 ≤ x ∧ x ≤ 19999) : Fn Γ zl A yX4_haveSameDate cX4_haveSameDate 4 (some .boolean) 4 86 [.ref (aL Γ), .int (zI c), .int (zI d), .int (zI x)] σ (some (.int (zI (zB (dtD (σ 6 c 0) (σ 6 c 1) (σ 6 c 2) (σ 6 c 3) x = dtD (σ 6 d 0) (σ 6 d 1) (σ 6 d 2) (σ 6 d 3) x))))) σ := by
  refine Fn_of (by decide) (Nat.le_of_ble_eq_true rfl) ?_
  intro zp ze zs zm args below meth zc zQ H locs ls zC zK hG hl
  have hl : lv_has ls 4 [(0, .ref (aL Γ)), (1, .int (zI c)), (2, .int (zI d)), (3, .int (zI x))] := hl
  obtain ⟨hmany, htoday, -⟩ := id hI
  refine lv_aload_n zC.1 zC.2.1 dX4_haveSameDate_0 rfl (lv_at hl 0 rfl) ?_
  refine gf_L_towns zC hG wl_X4_23 dX4_haveSameDate_1 ?_
  refine lv_iload_n zC.1 zC.2.1 dX4_haveSameDate_4 rfl (lv_at hl 1 rfl) ?_
  refine gr_To zC hG (by omega) dX4_haveSameDate_5 ?_
  refine lv_iload_n zC.1 zC.2.1 dX4_haveSameDate_6 rfl (lv_at hl 3 rfl) ?_
  have k7 := hI.2.2.2.2.2.2.1 c (by omega) (by omega)
  obtain ⟨k7a, k7b, k7c, k7d⟩ := id k7
  refine zr_callV zC hG (c_X0_dateOn (σ := σ) (i := c) (d := x) (by first | assumption | omega) k7 (by first | assumption | omega)) mt_X0_dateOn wl_X4_171 (pCal (by first | assumption | omega)) rfl rfl ⟨by decide, by decide⟩ rfl hl.1 rfl (Nat.le_of_ble_eq_true rfl) dX4_haveSameDate_7 ⟨Nat.zero_le _, Nat.zero_le _⟩ (fun H locs hG => ?_)
  refine W.eq (g2 := F0 zm 10 ls [.int (zI (dtD (σ 6 c 0) (σ 6 c 1) (σ 6 c 2) (σ 6 c 3) x))]) rfl ?_
  have b7_0 := dtD_r (k := (σ 6 c 0)) (lp := (σ 6 c 1)) (o := (σ 6 c 2)) (g := (σ 6 c 3)) (d := x) (by omega) (by omega) (by omega)
  refine lv_aload_n zC.1 zC.2.1 dX4_haveSameDate_10 rfl (lv_at hl 0 rfl) ?_
  refine gf_L_towns zC hG wl_X4_23 dX4_haveSameDate_11 ?_
  refine lv_iload_n zC.1 zC.2.1 dX4_haveSameDate_14 rfl (lv_at hl 2 rfl) ?_
  refine gr_To zC hG (by omega) dX4_haveSameDate_15 ?_
  refine lv_iload_n zC.1 zC.2.1 dX4_haveSameDate_16 rfl (lv_at hl 3 rfl) ?_
  have k17 := hI.2.2.2.2.2.2.1 d (by omega) (by omega)
  obtain ⟨k17a, k17b, k17c, k17d⟩ := id k17
  refine zr_callV zC hG (c_X0_dateOn (σ := σ) (i := d) (d := x) (by first | assumption | omega) k17 (by first | assumption | omega)) mt_X0_dateOn wl_X4_171 (pCal (by first | assumption | omega)) rfl rfl ⟨by decide, by decide⟩ rfl hl.1 rfl (Nat.le_of_ble_eq_true rfl) dX4_haveSameDate_17 ⟨Nat.zero_le _, Nat.zero_le _⟩ (fun H locs hG => ?_)
  refine W.eq (g2 := F0 zm 20 ls [.int (zI (dtD (σ 6 d 0) (σ 6 d 1) (σ 6 d 2) (σ 6 d 3) x)), .int (zI (dtD (σ 6 c 0) (σ 6 c 1) (σ 6 c 2) (σ 6 c 3) x))]) rfl ?_
  have b17_0 := dtD_r (k := (σ 6 d 0)) (lp := (σ 6 d 1)) (o := (σ 6 d 2)) (g := (σ 6 d 3)) (d := x) (by omega) (by omega) (by omega)
  refine zr_icmp_ne (tgt := 27) zC dX4_haveSameDate_20 (by decide) (by omega) (fun c20 => ?_) (fun c20 => ?_)
  · refine zr_iconst zC dX4_haveSameDate_27 ?_
    exact zr_zret zC zK hG dX4_haveSameDate_28 (zB_f (by omega)) (Or.inl rfl) rfl
  · refine zr_iconst zC dX4_haveSameDate_23 ?_
    refine lv_goto (tgt := 28) zC.1 zC.2.1 dX4_haveSameDate_24 (by decide) ?_
    exact zr_zret zC zK hG dX4_haveSameDate_28 (zB_t (by omega)) (Or.inr rfl) rfl

set_option maxHeartbeats 4000000 in
set_option maxRecDepth 100000 in
theorem c_X4_stretchEnd {Γ : Gm} {zl : Launch} {A : Nat → Prop} {σ : Mm} {c d x : Int} (hI : IC σ) (hc : isT σ c) (hd : isT σ d) (hx : 0 ≤ x ∧ x ≤ 19999) : Fn Γ zl A yX4_stretchEnd cX4_stretchEnd 4 (some .int) 5 110 [.ref (aL Γ), .int (zI c), .int (zI d), .int (zI x)] σ (some (.int (zI (min (strE (σ 6 c 0) (σ 6 c 1) (σ 6 c 2) (σ 6 c 3) x) (strE (σ 6 d 0) (σ 6 d 1) (σ 6 d 2) (σ 6 d 3) x))))) σ := by
  refine Fn_of (by decide) (Nat.le_of_ble_eq_true rfl) ?_
  intro zp ze zs zm args below meth zc zQ H locs ls zC zK hG hl
  have hl : lv_has ls 4 [(0, .ref (aL Γ)), (1, .int (zI c)), (2, .int (zI d)), (3, .int (zI x))] := hl
  obtain ⟨hmany, htoday, -⟩ := id hI
  refine lv_aload_n zC.1 zC.2.1 dX4_stretchEnd_0 rfl (lv_at hl 0 rfl) ?_
  refine gf_L_towns zC hG wl_X4_23 dX4_stretchEnd_1 ?_
  refine lv_iload_n zC.1 zC.2.1 dX4_stretchEnd_4 rfl (lv_at hl 1 rfl) ?_
  refine gr_To zC hG (by omega) dX4_stretchEnd_5 ?_
  refine lv_iload_n zC.1 zC.2.1 dX4_stretchEnd_6 rfl (lv_at hl 3 rfl) ?_
  have k7 := hI.2.2.2.2.2.2.1 c (by omega) (by omega)
  obtain ⟨k7a, k7b, k7c, k7d⟩ := id k7
  refine zr_callV zC hG (c_X0_stretchEndFrom (σ := σ) (i := c) (d := x) (by first | assumption | omega) k7 (by first | assumption | omega)) mt_X0_stretchEndFrom wl_X4_313 (pCal (by first | assumption | omega)) rfl rfl ⟨by decide, by decide⟩ rfl hl.1 rfl (Nat.le_of_ble_eq_true rfl) dX4_stretchEnd_7 ⟨Nat.zero_le _, Nat.zero_le _⟩ (fun H locs hG => ?_)
  refine W.eq (g2 := F0 zm 10 ls [.int (zI (strE (σ 6 c 0) (σ 6 c 1) (σ 6 c 2) (σ 6 c 3) x))]) rfl ?_
  have b7_0 := strE_r (k := (σ 6 c 0)) (lp := (σ 6 c 1)) (o := (σ 6 c 2)) (g := (σ 6 c 3)) (d := x) (by omega) (by omega) (by omega)
  refine lv_aload_n zC.1 zC.2.1 dX4_stretchEnd_10 rfl (lv_at hl 0 rfl) ?_
  refine gf_L_towns zC hG wl_X4_23 dX4_stretchEnd_11 ?_
  refine lv_iload_n zC.1 zC.2.1 dX4_stretchEnd_14 rfl (lv_at hl 2 rfl) ?_
  refine gr_To zC hG (by omega) dX4_stretchEnd_15 ?_
  refine lv_iload_n zC.1 zC.2.1 dX4_stretchEnd_16 rfl (lv_at hl 3 rfl) ?_
  have k17 := hI.2.2.2.2.2.2.1 d (by omega) (by omega)
  obtain ⟨k17a, k17b, k17c, k17d⟩ := id k17
  refine zr_callV zC hG (c_X0_stretchEndFrom (σ := σ) (i := d) (d := x) (by first | assumption | omega) k17 (by first | assumption | omega)) mt_X0_stretchEndFrom wl_X4_313 (pCal (by first | assumption | omega)) rfl rfl ⟨by decide, by decide⟩ rfl hl.1 rfl (Nat.le_of_ble_eq_true rfl) dX4_stretchEnd_17 ⟨Nat.zero_le _, Nat.zero_le _⟩ (fun H locs hG => ?_)
  refine W.eq (g2 := F0 zm 20 ls [.int (zI (strE (σ 6 d 0) (σ 6 d 1) (σ 6 d 2) (σ 6 d 3) x)), .int (zI (strE (σ 6 c 0) (σ 6 c 1) (σ 6 c 2) (σ 6 c 3) x))]) rfl ?_
  have b17_0 := strE_r (k := (σ 6 d 0)) (lp := (σ 6 d 1)) (o := (σ 6 d 2)) (g := (σ 6 d 3)) (d := x) (by omega) (by omega) (by omega)
  refine zr_min zC wl_X4_207 (by omega) ⟨by decide, Nat.le_of_ble_eq_true rfl, Nat.zero_le _, Nat.zero_le _⟩ hl.1 dX4_stretchEnd_20 ?_
  exact zr_iret zC zK hG dX4_stretchEnd_23 rfl rfl

set_option maxHeartbeats 4000000 in
set_option maxRecDepth 100000 in
theorem c_X4_agree {Γ : Gm} {zl : Launch} {A : Nat → Prop} {σ : Mm} {c d a b : Int} (hI : IC σ) (hc : -2147483648 ≤ c ∧ c < 2147483648) (hd : -2147483648 ≤ d ∧ d < 2147483648) (ha : -2147483648 ≤ a ∧ a < 2147483648) (hb : -2147483648 ≤ b ∧ b < 2147483648) : Fn Γ zl A yX4_agree cX4_agree 9 (some .int) 6 133 [.ref (aL Γ), .int (zI c), .int (zI d), .int (zI a), .int (zI b)] σ (some (.int (zI (rC_agree σ c d a b)))) (mC_agree σ c d a b) := by
  refine Fn_of (by decide) (Nat.le_of_ble_eq_true rfl) ?_
  intro zp ze zs zm args below meth zc zQ H locs ls zC zK hG hl
  have hl : lv_has ls 9 [(0, .ref (aL Γ)), (1, .int (zI c)), (2, .int (zI d)), (3, .int (zI a)), (4, .int (zI b))] := hl
  obtain ⟨hmany, htoday, -⟩ := id hI
  refine lv_aload_n zC.1 zC.2.1 dX4_agree_0 rfl (lv_at hl 0 rfl) ?_
  refine lv_iload_n zC.1 zC.2.1 dX4_agree_1 rfl (lv_at hl 1 rfl) ?_
  refine zr_callV zC hG (c_X4_isTown (σ := σ) (c := c) hI (by first | assumption | omega)) mt_X4_isTown wl_X4_128 pL rfl rfl ⟨by decide, by decide⟩ rfl hl.1 rfl (Nat.le_of_ble_eq_true rfl) dX4_agree_2 ⟨Nat.zero_le _, Nat.zero_le _⟩ (fun H locs hG => ?_)
  refine W.eq (g2 := F0 zm 5 ls [.int (zI (zB (isT σ c)))]) rfl ?_
  refine zr_ifeqB (tgt := 25) zC dX4_agree_5 (by decide) (fun c5 => ?_) (fun c5 => ?_)
  · refine zr_iconst zC dX4_agree_25 ?_
    exact zr_iret zC zK hG dX4_agree_26 (by unfold rC_agree; (repeat' split) <;> first | rfl | omega) (by unfold mC_agree; (repeat' split) <;> first | rfl | (exfalso; omega))
  · refine lv_aload_n zC.1 zC.2.1 dX4_agree_8 rfl (lv_at hl 0 rfl) ?_
    refine lv_iload_n zC.1 zC.2.1 dX4_agree_9 rfl (lv_at hl 2 rfl) ?_
    refine zr_callV zC hG (c_X4_isTown (σ := σ) (c := d) hI (by first | assumption | omega)) mt_X4_isTown wl_X4_128 pL rfl rfl ⟨by decide, by decide⟩ rfl hl.1 rfl (Nat.le_of_ble_eq_true rfl) dX4_agree_10 ⟨Nat.zero_le _, Nat.zero_le _⟩ (fun H locs hG => ?_)
    refine W.eq (g2 := F0 zm 13 ls [.int (zI (zB (isT σ d)))]) rfl ?_
    refine zr_ifeqB (tgt := 25) zC dX4_agree_13 (by decide) (fun c13 => ?_) (fun c13 => ?_)
    · refine zr_iconst zC dX4_agree_25 ?_
      exact zr_iret zC zK hG dX4_agree_26 (by unfold rC_agree; (repeat' split) <;> first | rfl | omega) (by unfold mC_agree; (repeat' split) <;> first | rfl | (exfalso; omega))
    · refine lv_iload_n zC.1 zC.2.1 dX4_agree_16 rfl (lv_at hl 3 rfl) ?_
      refine lv_iload zC.1 zC.2.1 dX4_agree_17 (lv_at hl 4 rfl) ?_
      refine zr_callS zC hG (c_X4_isSpan (σ := σ) (a := a) (b := b) (by first | assumption | omega) (by first | assumption | omega)) mt_X4_isSpan wl_X4_197 ⟨by decide, by decide⟩ rfl hl.1 rfl (Nat.le_of_ble_eq_true rfl) dX4_agree_19 ⟨Nat.zero_le _, Nat.zero_le _⟩ (fun H locs hG => ?_)
      refine W.eq (g2 := F0 zm 22 ls [.int (zI (zB (0 ≤ a ∧ a ≤ b ∧ b ≤ 19999)))]) rfl ?_
      refine zr_ifneB (tgt := 27) zC dX4_agree_22 (by decide) (fun c22 => ?_) (fun c22 => ?_)
      · refine zr_iconst zC dX4_agree_27 ?_
        refine lv_istore (lv' := [(5, .int (zI 0)), (0, .ref (aL Γ)), (1, .int (zI c)), (2, .int (zI d)), (3, .int (zI a)), (4, .int (zI b))]) zC.1 zC.2.1 dX4_agree_28 hl (by decide) rfl (fun ls hl => ?_)
        refine zr_bipush zC dX4_agree_30 (by decide +kernel) ?_
        refine lv_istore (lv' := [(6, .int (zI (-9))), (5, .int (zI 0)), (0, .ref (aL Γ)), (1, .int (zI c)), (2, .int (zI d)), (3, .int (zI a)), (4, .int (zI b))]) zC.1 zC.2.1 dX4_agree_32 hl (by decide) rfl (fun ls hl => ?_)
        refine lv_iload_n zC.1 zC.2.1 dX4_agree_34 rfl (lv_at hl 5 rfl) ?_
        refine lv_istore (lv' := [(7, .int (zI a)), (6, .int (zI (-9))), (5, .int (zI 0)), (0, .ref (aL Γ)), (1, .int (zI c)), (2, .int (zI d)), (3, .int (zI a)), (4, .int (zI b))]) zC.1 zC.2.1 dX4_agree_35 hl (by decide) rfl (fun ls hl => ?_)
        refine lv_iload_n zC.1 zC.2.1 dX4_agree_37 rfl (lv_at hl 6 rfl) ?_
        refine lv_istore (lv' := [(8, .int (zI a)), (7, .int (zI a)), (6, .int (zI (-9))), (5, .int (zI 0)), (0, .ref (aL Γ)), (1, .int (zI c)), (2, .int (zI d)), (3, .int (zI a)), (4, .int (zI b))]) zC.1 zC.2.1 dX4_agree_38 hl (by decide) rfl (fun ls hl => ?_)
        obtain ⟨kca, kcb, kcc, kcd⟩ := hI.2.2.2.2.2.2.1 c (by omega) (by omega)
        obtain ⟨kda, kdb, kdc, kdd⟩ := hI.2.2.2.2.2.2.1 d (by omega) (by omega)
        have loop40 : ∀ (nf : Nat) (u fs x : Int) (H : Heap) (locs : List Loc) (ls : Array Slot), (a ≤ x ∧ x ≤ b + 1) → (u = ctI (fun z => dtD (σ 6 c 0) (σ 6 c 1) (σ 6 c 2) (σ 6 c 3) z = dtD (σ 6 d 0) (σ 6 d 1) (σ 6 d 2) (σ 6 d 3) z) a (x - a).toNat) → (fs = fstI (fun z => dtD (σ 6 c 0) (σ 6 c 1) (σ 6 c 2) (σ 6 c 3) z = dtD (σ 6 d 0) (σ 6 d 1) (σ 6 d 2) (σ 6 d 3) z) a (x - a).toNat) → (b + 1 - x < (nf : Int)) → GM Γ A σ zs H locs → lv_has ls 9 [(0, .ref (aL Γ)), (1, .int (zI c)), (2, .int (zI d)), (3, .int (zI a)), (4, .int (zI b)), (5, .int (zI u)), (6, .int (zI fs)), (8, .int (zI x))] → W zp zl ze { frames := 6, cells := 0, slots := 0, locals := 133 } zs zm args below meth zc H locs 0 0 zQ (F0 zm 40 ls []) := by
          intro nf
          induction nf with
          | zero =>
            intro u fs x H locs ls hx hu hf hm40 _ _
            exact absurd hm40 (by omega)
          | succ nf ih40 =>
            intro u fs x H locs ls hx hu hf hm40 hG hl
            have b40 := ctI_r (fun z => dtD (σ 6 c 0) (σ 6 c 1) (σ 6 c 2) (σ 6 c 3) z = dtD (σ 6 d 0) (σ 6 d 1) (σ 6 d 2) (σ 6 d 3) z) a (x - a).toNat
            have b40f := fstI_r (fun z => dtD (σ 6 c 0) (σ 6 c 1) (σ 6 c 2) (σ 6 c 3) z = dtD (σ 6 d 0) (σ 6 d 1) (σ 6 d 2) (σ 6 d 3) z) (a := a) (by omega) (x - a).toNat
            have b40s := str_ge (k := σ 6 c 0) (o := σ 6 c 2) (d := x) kcb kcd (by omega)
            have b40t := str_ge (k := σ 6 d 0) (o := σ 6 d 2) (d := x) kdb kdd (by omega)
            have b40u := strE_r (k := σ 6 c 0) (o := σ 6 c 2) (d := x) kcb kcd (by omega)
            have b40v := strE_r (k := σ 6 d 0) (o := σ 6 d 2) (d := x) kdb kdd (by omega)
            refine lv_iload zC.1 zC.2.1 dX4_agree_40 (lv_at hl 7 rfl) ?_
            refine lv_iload zC.1 zC.2.1 dX4_agree_42 (lv_at hl 4 rfl) ?_
            refine zr_icmp_gt (tgt := 115) zC dX4_agree_44 (by decide) (by omega) (fun c44 => ?_) (fun c44 => ?_)
            · refine lv_aload_n zC.1 zC.2.1 dX4_agree_115 rfl (lv_at hl 0 rfl) ?_
              refine lv_iload zC.1 zC.2.1 dX4_agree_116 (lv_at hl 6 rfl) ?_
              refine pf_L_told zC hG wl_X4_49 dX4_agree_118 (fun H locs hG => ?_)
              refine lv_iload zC.1 zC.2.1 dX4_agree_121 (lv_at hl 5 rfl) ?_
              exact zr_iret zC zK hG dX4_agree_123 (by unfold rC_agree; rw [if_neg (by omega), hu]; congr 1; omega) (by unfold mC_agree; rw [if_neg (by omega), hf, show x = b + 1 by omega])
            · refine lv_iload zC.1 zC.2.1 dX4_agree_47 (lv_at hl 4 rfl) ?_
              refine lv_aload_n zC.1 zC.2.1 dX4_agree_49 rfl (lv_at hl 0 rfl) ?_
              refine lv_iload_n zC.1 zC.2.1 dX4_agree_50 rfl (lv_at hl 1 rfl) ?_
              refine lv_iload_n zC.1 zC.2.1 dX4_agree_51 rfl (lv_at hl 2 rfl) ?_
              refine lv_iload zC.1 zC.2.1 dX4_agree_52 (lv_at hl 7 rfl) ?_
              refine zr_callV zC hG (c_X4_stretchEnd (σ := σ) (c := c) (d := d) (x := x) hI (by first | assumption | omega) (by first | assumption | omega) (by first | assumption | omega)) mt_X4_stretchEnd wl_X4_203 pL rfl rfl ⟨by decide, by decide⟩ rfl hl.1 rfl (Nat.le_of_ble_eq_true rfl) dX4_agree_54 ⟨Nat.zero_le _, Nat.zero_le _⟩ (fun H locs hG => ?_)
              refine W.eq (g2 := F0 zm 57 ls [.int (zI (min (strE (σ 6 c 0) (σ 6 c 1) (σ 6 c 2) (σ 6 c 3) x) (strE (σ 6 d 0) (σ 6 d 1) (σ 6 d 2) (σ 6 d 3) x))), .int (zI b)]) rfl ?_
              refine zr_min zC wl_X4_207 (by omega) ⟨by decide, Nat.le_of_ble_eq_true rfl, Nat.zero_le _, Nat.zero_le _⟩ hl.1 dX4_agree_57 ?_
              refine lv_istore (lv' := [(7, .int (zI (min b (min (strE (σ 6 c 0) (σ 6 c 1) (σ 6 c 2) (σ 6 c 3) x) (strE (σ 6 d 0) (σ 6 d 1) (σ 6 d 2) (σ 6 d 3) x))))), (0, .ref (aL Γ)), (1, .int (zI c)), (2, .int (zI d)), (3, .int (zI a)), (4, .int (zI b)), (5, .int (zI u)), (6, .int (zI fs)), (8, .int (zI x))]) zC.1 zC.2.1 dX4_agree_60 hl (by decide) rfl (fun ls hl => ?_)
              refine lv_aload_n zC.1 zC.2.1 dX4_agree_62 rfl (lv_at hl 1 rfl) ?_
              refine lv_iload_n zC.1 zC.2.1 dX4_agree_63 rfl (lv_at hl 2 rfl) ?_
              refine lv_iload_n zC.1 zC.2.1 dX4_agree_64 rfl (lv_at hl 3 rfl) ?_
              refine lv_iload zC.1 zC.2.1 dX4_agree_65 (lv_at hl 8 rfl) ?_
              refine zr_callV zC hG (c_X4_haveSameDate (σ := σ) (c := c) (d := d) (x := x) hI (by first | assumption | omega) (by first | assumption | omega) (by first | assumption | omega)) mt_X4_haveSameDate wl_X4_212 pL rfl rfl ⟨by decide, by decide⟩ rfl hl.1 rfl (Nat.le_of_ble_eq_true rfl) dX4_agree_67 ⟨Nat.zero_le _, Nat.zero_le _⟩ (fun H locs hG => ?_)
              refine W.eq (g2 := F0 zm 70 ls [.int (zI (zB (dtD (σ 6 c 0) (σ 6 c 1) (σ 6 c 2) (σ 6 c 3) x = dtD (σ 6 d 0) (σ 6 d 1) (σ 6 d 2) (σ 6 d 3) x)))]) rfl ?_
              refine zr_ifeqB (tgt := 101) zC dX4_agree_70 (by decide) (fun c70 => ?_) (fun c70 => ?_)
              · refine lv_iload zC.1 zC.2.1 dX4_agree_101 (lv_at hl 8 rfl) ?_
                refine lv_iload zC.1 zC.2.1 dX4_agree_103 (lv_at hl 0 rfl) ?_
                refine zr_max zC wl_X4_215 (by omega) ⟨by decide, Nat.le_of_ble_eq_true rfl, Nat.zero_le _, Nat.zero_le _⟩ hl.1 dX4_agree_105 ?_
                refine zr_iconst zC dX4_agree_108 ?_
                refine zr_iadd zC dX4_agree_109 ?_
                refine lv_istore (lv' := [(8, .int (zI ((max x (min b (min (strE (σ 6 c 0) (σ 6 c 1) (σ 6 c 2) (σ 6 c 3) x) (strE (σ 6 d 0) (σ 6 d 1) (σ 6 d 2) (σ 6 d 3) x)))) + 1))), (7, .int (zI (min b (min (strE (σ 6 c 0) (σ 6 c 1) (σ 6 c 2) (σ 6 c 3) x) (strE (σ 6 d 0) (σ 6 d 1) (σ 6 d 2) (σ 6 d 3) x))))), (0, .ref (aL Γ)), (1, .int (zI c)), (2, .int (zI d)), (3, .int (zI a)), (4, .int (zI b)), (5, .int (zI u)), (6, .int (zI fs))]) zC.1 zC.2.1 dX4_agree_110 hl (by decide) rfl (fun ls hl => ?_)
                refine lv_goto (tgt := 40) zC.1 zC.2.1 dX4_agree_112 (by decide) ?_
                exact ih40 u fs ((max x (min b (min (strE (σ 6 c 0) (σ 6 c 1) (σ 6 c 2) (σ 6 c 3) x) (strE (σ 6 d 0) (σ 6 d 1) (σ 6 d 2) (σ 6 d 3) x)))) + 1) H locs ls (by first | assumption | omega) (by rw [ctI_e hx.1 (by omega) (ag_str (k := σ 6 c 0) (o := σ 6 c 2) (k2 := σ 6 d 0) (o2 := σ 6 d 2) kcb kcd kdb kdd (by omega) (by omega) (by omega)), ← hu]; split <;> omega) (by rw [fstI_e (by omega) hx.1 (by omega) (ag_str (k := σ 6 c 0) (o := σ 6 c 2) (k2 := σ 6 d 0) (o2 := σ 6 d 2) kcb kcd kdb kdd (by omega) (by omega) (by omega)), ← hf]; split <;> (try split) <;> omega) (by omega) hG (lv_sub hl [2, 3, 4, 5, 6, 7, 8, 0] rfl)
              · refine lv_iload zC.1 zC.2.1 dX4_agree_73 (lv_at hl 6 rfl) ?_
                refine lv_iload zC.1 zC.2.1 dX4_agree_75 (lv_at hl 0 rfl) ?_
                refine lv_iload zC.1 zC.2.1 dX4_agree_77 (lv_at hl 8 rfl) ?_
                refine zr_isub zC dX4_agree_79 ?_
                refine zr_iconst zC dX4_agree_80 ?_
                refine zr_iadd zC dX4_agree_81 ?_
                refine zr_iadd zC dX4_agree_82 ?_
                refine lv_istore (lv' := [(5, .int (zI (u + (((min b (min (strE (σ 6 c 0) (σ 6 c 1) (σ 6 c 2) (σ 6 c 3) x) (strE (σ 6 d 0) (σ 6 d 1) (σ 6 d 2) (σ 6 d 3) x))) - x) + 1)))), (7, .int (zI (min b (min (strE (σ 6 c 0) (σ 6 c 1) (σ 6 c 2) (σ 6 c 3) x) (strE (σ 6 d 0) (σ 6 d 1) (σ 6 d 2) (σ 6 d 3) x))))), (0, .ref (aL Γ)), (1, .int (zI c)), (2, .int (zI d)), (3, .int (zI a)), (4, .int (zI b)), (6, .int (zI fs)), (8, .int (zI x))]) zC.1 zC.2.1 dX4_agree_83 hl (by decide) rfl (fun ls hl => ?_)
                refine lv_iload zC.1 zC.2.1 dX4_agree_85 (lv_at hl 7 rfl) ?_
                refine zr_bipush zC dX4_agree_87 (by decide +kernel) ?_
                refine zr_icmp_ne (tgt := 97) zC dX4_agree_89 (by decide) (by omega) (fun c89 => ?_) (fun c89 => ?_)
                · refine lv_iload zC.1 zC.2.1 dX4_agree_97 (lv_at hl 7 rfl) ?_
                  refine lv_istore (lv' := [(6, .int (zI fs)), (5, .int (zI (u + (((min b (min (strE (σ 6 c 0) (σ 6 c 1) (σ 6 c 2) (σ 6 c 3) x) (strE (σ 6 d 0) (σ 6 d 1) (σ 6 d 2) (σ 6 d 3) x))) - x) + 1)))), (7, .int (zI (min b (min (strE (σ 6 c 0) (σ 6 c 1) (σ 6 c 2) (σ 6 c 3) x) (strE (σ 6 d 0) (σ 6 d 1) (σ 6 d 2) (σ 6 d 3) x))))), (0, .ref (aL Γ)), (1, .int (zI c)), (2, .int (zI d)), (3, .int (zI a)), (4, .int (zI b)), (8, .int (zI x))]) zC.1 zC.2.1 dX4_agree_99 hl (by decide) rfl (fun ls hl => ?_)
                  refine lv_iload zC.1 zC.2.1 dX4_agree_101 (lv_at hl 8 rfl) ?_
                  refine lv_iload zC.1 zC.2.1 dX4_agree_103 (lv_at hl 2 rfl) ?_
                  refine zr_max zC wl_X4_215 (by omega) ⟨by decide, Nat.le_of_ble_eq_true rfl, Nat.zero_le _, Nat.zero_le _⟩ hl.1 dX4_agree_105 ?_
                  refine zr_iconst zC dX4_agree_108 ?_
                  refine zr_iadd zC dX4_agree_109 ?_
                  refine lv_istore (lv' := [(8, .int (zI ((max x (min b (min (strE (σ 6 c 0) (σ 6 c 1) (σ 6 c 2) (σ 6 c 3) x) (strE (σ 6 d 0) (σ 6 d 1) (σ 6 d 2) (σ 6 d 3) x)))) + 1))), (6, .int (zI fs)), (5, .int (zI (u + (((min b (min (strE (σ 6 c 0) (σ 6 c 1) (σ 6 c 2) (σ 6 c 3) x) (strE (σ 6 d 0) (σ 6 d 1) (σ 6 d 2) (σ 6 d 3) x))) - x) + 1)))), (7, .int (zI (min b (min (strE (σ 6 c 0) (σ 6 c 1) (σ 6 c 2) (σ 6 c 3) x) (strE (σ 6 d 0) (σ 6 d 1) (σ 6 d 2) (σ 6 d 3) x))))), (0, .ref (aL Γ)), (1, .int (zI c)), (2, .int (zI d)), (3, .int (zI a)), (4, .int (zI b))]) zC.1 zC.2.1 dX4_agree_110 hl (by decide) rfl (fun ls hl => ?_)
                  refine lv_goto (tgt := 40) zC.1 zC.2.1 dX4_agree_112 (by decide) ?_
                  exact ih40 (u + (((min b (min (strE (σ 6 c 0) (σ 6 c 1) (σ 6 c 2) (σ 6 c 3) x) (strE (σ 6 d 0) (σ 6 d 1) (σ 6 d 2) (σ 6 d 3) x))) - x) + 1)) fs ((max x (min b (min (strE (σ 6 c 0) (σ 6 c 1) (σ 6 c 2) (σ 6 c 3) x) (strE (σ 6 d 0) (σ 6 d 1) (σ 6 d 2) (σ 6 d 3) x)))) + 1) H locs ls (by first | assumption | omega) (by rw [ctI_e hx.1 (by omega) (ag_str (k := σ 6 c 0) (o := σ 6 c 2) (k2 := σ 6 d 0) (o2 := σ 6 d 2) kcb kcd kdb kdd (by omega) (by omega) (by omega)), ← hu]; split <;> omega) (by rw [fstI_e (by omega) hx.1 (by omega) (ag_str (k := σ 6 c 0) (o := σ 6 c 2) (k2 := σ 6 d 0) (o2 := σ 6 d 2) kcb kcd kdb kdd (by omega) (by omega) (by omega)), ← hf]; split <;> (try split) <;> omega) (by omega) hG (lv_sub hl [4, 5, 6, 7, 8, 2, 1, 0] rfl)
                · refine lv_iload zC.1 zC.2.1 dX4_agree_92 (lv_at hl 8 rfl) ?_
                  refine lv_goto (tgt := 99) zC.1 zC.2.1 dX4_agree_94 (by decide) ?_
                  refine lv_istore (lv' := [(6, .int (zI x)), (5, .int (zI (u + (((min b (min (strE (σ 6 c 0) (σ 6 c 1) (σ 6 c 2) (σ 6 c 3) x) (strE (σ 6 d 0) (σ 6 d 1) (σ 6 d 2) (σ 6 d 3) x))) - x) + 1)))), (7, .int (zI (min b (min (strE (σ 6 c 0) (σ 6 c 1) (σ 6 c 2) (σ 6 c 3) x) (strE (σ 6 d 0) (σ 6 d 1) (σ 6 d 2) (σ 6 d 3) x))))), (0, .ref (aL Γ)), (1, .int (zI c)), (2, .int (zI d)), (3, .int (zI a)), (4, .int (zI b)), (8, .int (zI x))]) zC.1 zC.2.1 dX4_agree_99 hl (by decide) rfl (fun ls hl => ?_)
                  refine lv_iload zC.1 zC.2.1 dX4_agree_101 (lv_at hl 8 rfl) ?_
                  refine lv_iload zC.1 zC.2.1 dX4_agree_103 (lv_at hl 2 rfl) ?_
                  refine zr_max zC wl_X4_215 (by omega) ⟨by decide, Nat.le_of_ble_eq_true rfl, Nat.zero_le _, Nat.zero_le _⟩ hl.1 dX4_agree_105 ?_
                  refine zr_iconst zC dX4_agree_108 ?_
                  refine zr_iadd zC dX4_agree_109 ?_
                  refine lv_istore (lv' := [(8, .int (zI ((max x (min b (min (strE (σ 6 c 0) (σ 6 c 1) (σ 6 c 2) (σ 6 c 3) x) (strE (σ 6 d 0) (σ 6 d 1) (σ 6 d 2) (σ 6 d 3) x)))) + 1))), (6, .int (zI x)), (5, .int (zI (u + (((min b (min (strE (σ 6 c 0) (σ 6 c 1) (σ 6 c 2) (σ 6 c 3) x) (strE (σ 6 d 0) (σ 6 d 1) (σ 6 d 2) (σ 6 d 3) x))) - x) + 1)))), (7, .int (zI (min b (min (strE (σ 6 c 0) (σ 6 c 1) (σ 6 c 2) (σ 6 c 3) x) (strE (σ 6 d 0) (σ 6 d 1) (σ 6 d 2) (σ 6 d 3) x))))), (0, .ref (aL Γ)), (1, .int (zI c)), (2, .int (zI d)), (3, .int (zI a)), (4, .int (zI b))]) zC.1 zC.2.1 dX4_agree_110 hl (by decide) rfl (fun ls hl => ?_)
                  refine lv_goto (tgt := 40) zC.1 zC.2.1 dX4_agree_112 (by decide) ?_
                  exact ih40 (u + (((min b (min (strE (σ 6 c 0) (σ 6 c 1) (σ 6 c 2) (σ 6 c 3) x) (strE (σ 6 d 0) (σ 6 d 1) (σ 6 d 2) (σ 6 d 3) x))) - x) + 1)) x ((max x (min b (min (strE (σ 6 c 0) (σ 6 c 1) (σ 6 c 2) (σ 6 c 3) x) (strE (σ 6 d 0) (σ 6 d 1) (σ 6 d 2) (σ 6 d 3) x)))) + 1) H locs ls (by first | assumption | omega) (by rw [ctI_e hx.1 (by omega) (ag_str (k := σ 6 c 0) (o := σ 6 c 2) (k2 := σ 6 d 0) (o2 := σ 6 d 2) kcb kcd kdb kdd (by omega) (by omega) (by omega)), ← hu]; split <;> omega) (by rw [fstI_e (by omega) hx.1 (by omega) (ag_str (k := σ 6 c 0) (o := σ 6 c 2) (k2 := σ 6 d 0) (o2 := σ 6 d 2) kcb kcd kdb kdd (by omega) (by omega) (by omega)), ← hf]; split <;> (try split) <;> omega) (by omega) hG (lv_sub hl [4, 5, 6, 7, 8, 2, 1, 0] rfl)
        exact loop40 ((b + 1 - a : Int).toNat + 1) 0 (-9) a H locs ls (by first | assumption | omega) (by rw [show (a - a).toNat = 0 by omega]; rfl) (by rw [show (a - a).toNat = 0 by omega]; rfl) (by omega) hG (lv_sub hl [4, 5, 6, 7, 8, 3, 2, 0] rfl)
      · refine zr_iconst zC dX4_agree_25 ?_
        exact zr_iret zC zK hG dX4_agree_26 (by unfold rC_agree; (repeat' split) <;> first | rfl | omega) (by unfold mC_agree; (repeat' split) <;> first | rfl | (exfalso; omega))

set_option maxHeartbeats 4000000 in
set_option maxRecDepth 100000 in
theorem c_X4_till {Γ : Gm} {zl : Launch} {A : Nat → Prop} {σ : Mm} {c d : Int} (hI : IC σ) (hc : -2147483648 ≤ c ∧ c < 2147483648) (hd : -2147483648 ≤ d ∧ d < 2147483648) : Fn Γ zl A yX4_till cX4_till 4 (some .int) 6 133 [.ref (aL Γ), .int (zI c), .int (zI d)] σ (some (.int (zI (rC_till σ c d)))) σ := by
  refine Fn_of (by decide) (Nat.le_of_ble_eq_true rfl) ?_
  intro zp ze zs zm args below meth zc zQ H locs ls zC zK hG hl
  have hl : lv_has ls 4 [(0, .ref (aL Γ)), (1, .int (zI c)), (2, .int (zI d))] := hl
  obtain ⟨hmany, htoday, -⟩ := id hI
  refine lv_aload_n zC.1 zC.2.1 dX4_till_0 rfl (lv_at hl 0 rfl) ?_
  refine lv_iload_n zC.1 zC.2.1 dX4_till_1 rfl (lv_at hl 1 rfl) ?_
  refine zr_callV zC hG (c_X4_isTown (σ := σ) (c := c) hI (by first | assumption | omega)) mt_X4_isTown wl_X4_128 pL rfl rfl ⟨by decide, by decide⟩ rfl hl.1 rfl (Nat.le_of_ble_eq_true rfl) dX4_till_2 ⟨Nat.zero_le _, Nat.zero_le _⟩ (fun H locs hG => ?_)
  refine W.eq (g2 := F0 zm 5 ls [.int (zI (zB (isT σ c)))]) rfl ?_
  refine zr_ifeqB (tgt := 16) zC dX4_till_5 (by decide) (fun c5 => ?_) (fun c5 => ?_)
  · refine zr_iconst zC dX4_till_16 ?_
    exact zr_iret zC zK hG dX4_till_17 (by unfold rC_till; (repeat' split) <;> first | rfl | omega) rfl
  · refine lv_aload_n zC.1 zC.2.1 dX4_till_8 rfl (lv_at hl 0 rfl) ?_
    refine lv_iload_n zC.1 zC.2.1 dX4_till_9 rfl (lv_at hl 2 rfl) ?_
    refine zr_callV zC hG (c_X4_isTown (σ := σ) (c := d) hI (by first | assumption | omega)) mt_X4_isTown wl_X4_128 pL rfl rfl ⟨by decide, by decide⟩ rfl hl.1 rfl (Nat.le_of_ble_eq_true rfl) dX4_till_10 ⟨Nat.zero_le _, Nat.zero_le _⟩ (fun H locs hG => ?_)
    refine W.eq (g2 := F0 zm 13 ls [.int (zI (zB (isT σ d)))]) rfl ?_
    refine zr_ifneB (tgt := 18) zC dX4_till_13 (by decide) (fun c13 => ?_) (fun c13 => ?_)
    · refine lv_aload_n zC.1 zC.2.1 dX4_till_18 rfl (lv_at hl 0 rfl) ?_
      refine gf_L_today (v := σ 0 0 7) zC hG wl_X4_46 rfl dX4_till_19 ?_
      refine lv_istore_n (lv' := [(3, .int (zI (σ 0 0 7))), (0, .ref (aL Γ)), (1, .int (zI c)), (2, .int (zI d))]) zC.1 zC.2.1 dX4_till_22 rfl hl (by decide) rfl (fun ls hl => ?_)
      obtain ⟨kca, kcb, kcc, kcd⟩ := hI.2.2.2.2.2.2.1 c (by omega) (by omega)
      obtain ⟨kda, kdb, kdc, kdd⟩ := hI.2.2.2.2.2.2.1 d (by omega) (by omega)
      have loop23 : ∀ (nf : Nat) (x : Int) (H : Heap) (locs : List Loc) (ls : Array Slot), (σ 0 0 7 ≤ x ∧ x ≤ 20000 + 200) → (∀ z, σ 0 0 7 ≤ z → z < x → ¬ dtD (σ 6 c 0) (σ 6 c 1) (σ 6 c 2) (σ 6 c 3) z = dtD (σ 6 d 0) (σ 6 d 1) (σ 6 d 2) (σ 6 d 3) z) → (20400 - x < (nf : Int)) → GM Γ A σ zs H locs → lv_has ls 4 [(0, .ref (aL Γ)), (1, .int (zI c)), (2, .int (zI d)), (3, .int (zI x))] → W zp zl ze { frames := 6, cells := 0, slots := 0, locals := 133 } zs zm args below meth zc H locs 0 0 zQ (F0 zm 23 ls []) := by
        intro nf
        induction nf with
        | zero =>
          intro x H locs ls hx hz hm23 _ _
          exact absurd hm23 (by omega)
        | succ nf ih23 =>
          intro x H locs ls hx hz hm23 hG hl
          have b23s := str_ge (k := σ 6 c 0) (o := σ 6 c 2) (d := x) kcb kcd (by omega)
          have b23t := str_ge (k := σ 6 d 0) (o := σ 6 d 2) (d := x) kdb kdd (by omega)
          have b23u := strE_r (k := σ 6 c 0) (o := σ 6 c 2) (d := x) kcb kcd (by omega)
          refine lv_iload_n zC.1 zC.2.1 dX4_till_23 rfl (lv_at hl 3 rfl) ?_
          refine zr_sipush zC dX4_till_24 (by decide +kernel) ?_
          refine zr_icmp_gt (tgt := 64) zC dX4_till_27 (by decide) (by omega) (fun c27 => ?_) (fun c27 => ?_)
          · refine zr_bipush zC dX4_till_64 (by decide +kernel) ?_
            exact zr_iret zC zK hG dX4_till_66 (by unfold rC_till; rw [if_neg (by omega), fstI_no (fun z h1 h2 => hz z h1 (by omega)), if_pos rfl]) rfl
          · refine lv_aload_n zC.1 zC.2.1 dX4_till_30 rfl (lv_at hl 0 rfl) ?_
            refine lv_iload_n zC.1 zC.2.1 dX4_till_31 rfl (lv_at hl 1 rfl) ?_
            refine lv_iload_n zC.1 zC.2.1 dX4_till_32 rfl (lv_at hl 2 rfl) ?_
            refine lv_iload_n zC.1 zC.2.1 dX4_till_33 rfl (lv_at hl 3 rfl) ?_
            refine zr_callV zC hG (c_X4_haveSameDate (σ := σ) (c := c) (d := d) (x := x) hI (by first | assumption | omega) (by first | assumption | omega) (by first | assumption | omega)) mt_X4_haveSameDate wl_X4_212 pL rfl rfl ⟨by decide, by decide⟩ rfl hl.1 rfl (Nat.le_of_ble_eq_true rfl) dX4_till_34 ⟨Nat.zero_le _, Nat.zero_le _⟩ (fun H locs hG => ?_)
            refine W.eq (g2 := F0 zm 37 ls [.int (zI (zB (dtD (σ 6 c 0) (σ 6 c 1) (σ 6 c 2) (σ 6 c 3) x = dtD (σ 6 d 0) (σ 6 d 1) (σ 6 d 2) (σ 6 d 3) x)))]) rfl ?_
            refine zr_ifeqB (tgt := 47) zC dX4_till_37 (by decide) (fun c37 => ?_) (fun c37 => ?_)
            · refine lv_iload_n zC.1 zC.2.1 dX4_till_47 rfl (lv_at hl 3 rfl) ?_
              refine lv_aload_n zC.1 zC.2.1 dX4_till_48 rfl (lv_at hl 0 rfl) ?_
              refine lv_iload_n zC.1 zC.2.1 dX4_till_49 rfl (lv_at hl 1 rfl) ?_
              refine lv_iload_n zC.1 zC.2.1 dX4_till_50 rfl (lv_at hl 2 rfl) ?_
              refine lv_iload_n zC.1 zC.2.1 dX4_till_51 rfl (lv_at hl 3 rfl) ?_
              refine zr_callV zC hG (c_X4_stretchEnd (σ := σ) (c := c) (d := d) (x := x) hI (by first | assumption | omega) (by first | assumption | omega) (by first | assumption | omega)) mt_X4_stretchEnd wl_X4_203 pL rfl rfl ⟨by decide, by decide⟩ rfl hl.1 rfl (Nat.le_of_ble_eq_true rfl) dX4_till_52 ⟨Nat.zero_le _, Nat.zero_le _⟩ (fun H locs hG => ?_)
              refine W.eq (g2 := F0 zm 55 ls [.int (zI (min (strE (σ 6 c 0) (σ 6 c 1) (σ 6 c 2) (σ 6 c 3) x) (strE (σ 6 d 0) (σ 6 d 1) (σ 6 d 2) (σ 6 d 3) x))), .int (zI x)]) rfl ?_
              refine zr_max zC wl_X4_215 (by omega) ⟨by decide, Nat.le_of_ble_eq_true rfl, Nat.zero_le _, Nat.zero_le _⟩ hl.1 dX4_till_55 ?_
              refine zr_iconst zC dX4_till_58 ?_
              refine zr_iadd zC dX4_till_59 ?_
              refine lv_istore_n (lv' := [(3, .int (zI ((max x (min (strE (σ 6 c 0) (σ 6 c 1) (σ 6 c 2) (σ 6 c 3) x) (strE (σ 6 d 0) (σ 6 d 1) (σ 6 d 2) (σ 6 d 3) x))) + 1))), (0, .ref (aL Γ)), (1, .int (zI c)), (2, .int (zI d))]) zC.1 zC.2.1 dX4_till_60 rfl hl (by decide) rfl (fun ls hl => ?_)
              refine lv_goto (tgt := 23) zC.1 zC.2.1 dX4_till_61 (by decide) ?_
              exact ih23 ((max x (min (strE (σ 6 c 0) (σ 6 c 1) (σ 6 c 2) (σ 6 c 3) x) (strE (σ 6 d 0) (σ 6 d 1) (σ 6 d 2) (σ 6 d 3) x))) + 1) H locs ls (by first | assumption | omega) (fun z h1 h2 => by by_cases q : z < x; exact hz z h1 q; exact fun w => c37 ((ag_str (k := σ 6 c 0) (o := σ 6 c 2) (k2 := σ 6 d 0) (o2 := σ 6 d 2) (x := x) kcb kcd kdb kdd (by omega) (Int.min_le_left _ _) (Int.min_le_right _ _) z (by omega) (by omega)).mp w)) (by omega) hG (lv_sub hl [1, 2, 3, 0] rfl)
            · refine lv_iload_n zC.1 zC.2.1 dX4_till_40 rfl (lv_at hl 3 rfl) ?_
              refine lv_aload_n zC.1 zC.2.1 dX4_till_41 rfl (lv_at hl 0 rfl) ?_
              refine gf_L_today (v := σ 0 0 7) zC hG wl_X4_46 rfl dX4_till_42 ?_
              refine zr_isub zC dX4_till_45 ?_
              exact zr_iret zC zK hG dX4_till_46 (by unfold rC_till; rw [if_neg (by omega), fstI_yes (y := x) (by omega) hx.1 c37 hz (by omega), if_neg (by omega)]) rfl
      exact loop23 ((20400 - (σ 0 0 7) : Int).toNat + 1) (σ 0 0 7) H locs ls (by first | assumption | omega) (fun z h1 h2 => by omega) (by omega) hG (lv_sub hl [1, 2, 3, 0] rfl)
    · refine zr_iconst zC dX4_till_16 ?_
      exact zr_iret zC zK hG dX4_till_17 (by unfold rC_till; (repeat' split) <;> first | rfl | omega) rfl

set_option maxHeartbeats 4000000 in
set_option maxRecDepth 100000 in
theorem c_X4_apart {Γ : Gm} {zl : Launch} {A : Nat → Prop} {σ : Mm} {c d a b : Int} (hI : IC σ) (hc : -2147483648 ≤ c ∧ c < 2147483648) (hd : -2147483648 ≤ d ∧ d < 2147483648) (ha : -2147483648 ≤ a ∧ a < 2147483648) (hb : -2147483648 ≤ b ∧ b < 2147483648) : Fn Γ zl A yX4_apart cX4_apart 9 (some .int) 6 133 [.ref (aL Γ), .int (zI c), .int (zI d), .int (zI a), .int (zI b)] σ (some (.int (zI (rC_apart σ c d a b)))) (mC_apart σ c d a b) := by
  refine Fn_of (by decide) (Nat.le_of_ble_eq_true rfl) ?_
  intro zp ze zs zm args below meth zc zQ H locs ls zC zK hG hl
  have hl : lv_has ls 9 [(0, .ref (aL Γ)), (1, .int (zI c)), (2, .int (zI d)), (3, .int (zI a)), (4, .int (zI b))] := hl
  obtain ⟨hmany, htoday, -⟩ := id hI
  refine lv_aload_n zC.1 zC.2.1 dX4_apart_0 rfl (lv_at hl 0 rfl) ?_
  refine lv_iload_n zC.1 zC.2.1 dX4_apart_1 rfl (lv_at hl 1 rfl) ?_
  refine zr_callV zC hG (c_X4_isTown (σ := σ) (c := c) hI (by first | assumption | omega)) mt_X4_isTown wl_X4_128 pL rfl rfl ⟨by decide, by decide⟩ rfl hl.1 rfl (Nat.le_of_ble_eq_true rfl) dX4_apart_2 ⟨Nat.zero_le _, Nat.zero_le _⟩ (fun H locs hG => ?_)
  refine W.eq (g2 := F0 zm 5 ls [.int (zI (zB (isT σ c)))]) rfl ?_
  refine zr_ifeqB (tgt := 25) zC dX4_apart_5 (by decide) (fun c5 => ?_) (fun c5 => ?_)
  · refine zr_iconst zC dX4_apart_25 ?_
    exact zr_iret zC zK hG dX4_apart_26 (by unfold rC_apart; (repeat' split) <;> first | rfl | omega) (by unfold mC_apart; (repeat' split) <;> first | rfl | (exfalso; omega))
  · refine lv_aload_n zC.1 zC.2.1 dX4_apart_8 rfl (lv_at hl 0 rfl) ?_
    refine lv_iload_n zC.1 zC.2.1 dX4_apart_9 rfl (lv_at hl 2 rfl) ?_
    refine zr_callV zC hG (c_X4_isTown (σ := σ) (c := d) hI (by first | assumption | omega)) mt_X4_isTown wl_X4_128 pL rfl rfl ⟨by decide, by decide⟩ rfl hl.1 rfl (Nat.le_of_ble_eq_true rfl) dX4_apart_10 ⟨Nat.zero_le _, Nat.zero_le _⟩ (fun H locs hG => ?_)
    refine W.eq (g2 := F0 zm 13 ls [.int (zI (zB (isT σ d)))]) rfl ?_
    refine zr_ifeqB (tgt := 25) zC dX4_apart_13 (by decide) (fun c13 => ?_) (fun c13 => ?_)
    · refine zr_iconst zC dX4_apart_25 ?_
      exact zr_iret zC zK hG dX4_apart_26 (by unfold rC_apart; (repeat' split) <;> first | rfl | omega) (by unfold mC_apart; (repeat' split) <;> first | rfl | (exfalso; omega))
    · refine lv_iload_n zC.1 zC.2.1 dX4_apart_16 rfl (lv_at hl 3 rfl) ?_
      refine lv_iload zC.1 zC.2.1 dX4_apart_17 (lv_at hl 4 rfl) ?_
      refine zr_callS zC hG (c_X4_isSpan (σ := σ) (a := a) (b := b) (by first | assumption | omega) (by first | assumption | omega)) mt_X4_isSpan wl_X4_197 ⟨by decide, by decide⟩ rfl hl.1 rfl (Nat.le_of_ble_eq_true rfl) dX4_apart_19 ⟨Nat.zero_le _, Nat.zero_le _⟩ (fun H locs hG => ?_)
      refine W.eq (g2 := F0 zm 22 ls [.int (zI (zB (0 ≤ a ∧ a ≤ b ∧ b ≤ 19999)))]) rfl ?_
      refine zr_ifneB (tgt := 27) zC dX4_apart_22 (by decide) (fun c22 => ?_) (fun c22 => ?_)
      · refine zr_iconst zC dX4_apart_27 ?_
        refine lv_istore (lv' := [(5, .int (zI (-1))), (0, .ref (aL Γ)), (1, .int (zI c)), (2, .int (zI d)), (3, .int (zI a)), (4, .int (zI b))]) zC.1 zC.2.1 dX4_apart_28 hl (by decide) rfl (fun ls hl => ?_)
        refine lv_iload_n zC.1 zC.2.1 dX4_apart_30 rfl (lv_at hl 4 rfl) ?_
        refine lv_istore (lv' := [(6, .int (zI a)), (5, .int (zI (-1))), (0, .ref (aL Γ)), (1, .int (zI c)), (2, .int (zI d)), (3, .int (zI a)), (4, .int (zI b))]) zC.1 zC.2.1 dX4_apart_31 hl (by decide) rfl (fun ls hl => ?_)
        refine lv_iload_n zC.1 zC.2.1 dX4_apart_33 rfl (lv_at hl 5 rfl) ?_
        refine lv_istore (lv' := [(7, .int (zI a)), (6, .int (zI a)), (5, .int (zI (-1))), (0, .ref (aL Γ)), (1, .int (zI c)), (2, .int (zI d)), (3, .int (zI a)), (4, .int (zI b))]) zC.1 zC.2.1 dX4_apart_34 hl (by decide) rfl (fun ls hl => ?_)
        obtain ⟨kca, kcb, kcc, kcd⟩ := hI.2.2.2.2.2.2.1 c (by omega) (by omega)
        obtain ⟨kda, kdb, kdc, kdd⟩ := hI.2.2.2.2.2.2.1 d (by omega) (by omega)
        have loop36 : ∀ (nf : Nat) (u fs x : Int) (H : Heap) (locs : List Loc) (ls : Array Slot), (a ≤ x ∧ x ≤ b + 102) → (u = mxI (fun z => max (cnt (σ 6 c 0) (σ 6 c 2) (σ 6 c 3) z - cnt (σ 6 d 0) (σ 6 d 2) (σ 6 d 3) z) (-(cnt (σ 6 c 0) (σ 6 c 2) (σ 6 c 3) z - cnt (σ 6 d 0) (σ 6 d 2) (σ 6 d 3) z))) a (min x (b + 1) - a).toNat) → (fs = bsI (fun z => max (cnt (σ 6 c 0) (σ 6 c 2) (σ 6 c 3) z - cnt (σ 6 d 0) (σ 6 d 2) (σ 6 d 3) z) (-(cnt (σ 6 c 0) (σ 6 c 2) (σ 6 c 3) z - cnt (σ 6 d 0) (σ 6 d 2) (σ 6 d 3) z))) a a (min x (b + 1) - a).toNat) → (b + 102 - x < (nf : Int)) → GM Γ A σ zs H locs → lv_has ls 9 [(0, .ref (aL Γ)), (1, .int (zI c)), (2, .int (zI d)), (3, .int (zI a)), (4, .int (zI b)), (5, .int (zI u)), (6, .int (zI fs)), (7, .int (zI x))] → W zp zl ze { frames := 6, cells := 0, slots := 0, locals := 133 } zs zm args below meth zc H locs 0 0 zQ (F0 zm 36 ls []) := by
          intro nf
          induction nf with
          | zero =>
            intro u fs x H locs ls hx hu hf hm36 _ _
            exact absurd hm36 (by omega)
          | succ nf ih36 =>
            intro u fs x H locs ls hx hu hf hm36 hG hl
            have b36 := mxI_b (f := (fun z => max (cnt (σ 6 c 0) (σ 6 c 2) (σ 6 c 3) z - cnt (σ 6 d 0) (σ 6 d 2) (σ 6 d 3) z) (-(cnt (σ 6 c 0) (σ 6 c 2) (σ 6 c 3) z - cnt (σ 6 d 0) (σ 6 d 2) (σ 6 d 3) z)))) (a := a) (m := 18) (n := (min x (b + 1) - a).toNat) (by omega) (fun z _ _ => by have h1 := cnt_r (k := σ 6 c 0) (o := σ 6 c 2) (d := z) kcd; have h2 := cnt_r (k := σ 6 d 0) (o := σ 6 d 2) (d := z) kdd; omega)
            rw [← hu] at b36
            refine lv_iload zC.1 zC.2.1 dX4_apart_36 (lv_at hl 7 rfl) ?_
            refine lv_iload zC.1 zC.2.1 dX4_apart_38 (lv_at hl 4 rfl) ?_
            refine zr_icmp_gt (tgt := 106) zC dX4_apart_40 (by decide) (by omega) (fun c40 => ?_) (fun c40 => ?_)
            · refine lv_aload_n zC.1 zC.2.1 dX4_apart_106 rfl (lv_at hl 0 rfl) ?_
              refine lv_iload zC.1 zC.2.1 dX4_apart_107 (lv_at hl 6 rfl) ?_
              refine pf_L_told zC hG wl_X4_49 dX4_apart_109 (fun H locs hG => ?_)
              refine lv_iload zC.1 zC.2.1 dX4_apart_112 (lv_at hl 5 rfl) ?_
              exact zr_iret zC zK hG dX4_apart_114 (by unfold rC_apart; rw [if_neg (by omega), hu]; congr 1; omega) (by unfold mC_apart; rw [if_neg (by omega), hf]; congr 2; omega)
            · have b43s := strE_r (k := σ 6 c 0) (o := σ 6 c 2) (d := x) kcb kcd (by omega)
              have b43t := strE_r (k := σ 6 d 0) (o := σ 6 d 2) (d := x) kdb kdd (by omega)
              refine lv_aload_n zC.1 zC.2.1 dX4_apart_43 rfl (lv_at hl 0 rfl) ?_
              refine gf_L_towns zC hG wl_X4_23 dX4_apart_44 ?_
              refine lv_iload_n zC.1 zC.2.1 dX4_apart_47 rfl (lv_at hl 1 rfl) ?_
              refine gr_To zC hG (by omega) dX4_apart_48 ?_
              refine lv_iload zC.1 zC.2.1 dX4_apart_49 (lv_at hl 7 rfl) ?_
              have k51 := hI.2.2.2.2.2.2.1 c (by omega) (by omega)
              obtain ⟨k51a, k51b, k51c, k51d⟩ := id k51
              refine zr_callV zC hG (c_X0_countOn (σ := σ) (i := c) (d := x) (by first | assumption | omega) k51 (by first | assumption | omega)) mt_X0_countOn wl_X4_218 (pCal (by first | assumption | omega)) rfl rfl ⟨by decide, by decide⟩ rfl hl.1 rfl (Nat.le_of_ble_eq_true rfl) dX4_apart_51 ⟨Nat.zero_le _, Nat.zero_le _⟩ (fun H locs hG => ?_)
              refine W.eq (g2 := F0 zm 54 ls [.int (zI (cnt (σ 6 c 0) (σ 6 c 2) (σ 6 c 3) x))]) rfl ?_
              have b51_0 := cnt_r (k := (σ 6 c 0)) (o := (σ 6 c 2)) (g := (σ 6 c 3)) (d := x) (by omega)
              refine lv_aload_n zC.1 zC.2.1 dX4_apart_54 rfl (lv_at hl 0 rfl) ?_
              refine gf_L_towns zC hG wl_X4_23 dX4_apart_55 ?_
              refine lv_iload_n zC.1 zC.2.1 dX4_apart_58 rfl (lv_at hl 2 rfl) ?_
              refine gr_To zC hG (by omega) dX4_apart_59 ?_
              refine lv_iload zC.1 zC.2.1 dX4_apart_60 (lv_at hl 7 rfl) ?_
              have k62 := hI.2.2.2.2.2.2.1 d (by omega) (by omega)
              obtain ⟨k62a, k62b, k62c, k62d⟩ := id k62
              refine zr_callV zC hG (c_X0_countOn (σ := σ) (i := d) (d := x) (by first | assumption | omega) k62 (by first | assumption | omega)) mt_X0_countOn wl_X4_218 (pCal (by first | assumption | omega)) rfl rfl ⟨by decide, by decide⟩ rfl hl.1 rfl (Nat.le_of_ble_eq_true rfl) dX4_apart_62 ⟨Nat.zero_le _, Nat.zero_le _⟩ (fun H locs hG => ?_)
              refine W.eq (g2 := F0 zm 65 ls [.int (zI (cnt (σ 6 d 0) (σ 6 d 2) (σ 6 d 3) x)), .int (zI (cnt (σ 6 c 0) (σ 6 c 2) (σ 6 c 3) x))]) rfl ?_
              have b62_0 := cnt_r (k := (σ 6 d 0)) (o := (σ 6 d 2)) (g := (σ 6 d 3)) (d := x) (by omega)
              refine zr_isub zC dX4_apart_65 ?_
              refine zr_abs zC wl_X4_221 (by omega) ⟨by decide, Nat.le_of_ble_eq_true rfl, Nat.zero_le _, Nat.zero_le _⟩ hl.1 dX4_apart_66 ?_
              refine lv_istore (lv' := [(8, .int (zI (max ((cnt (σ 6 c 0) (σ 6 c 2) (σ 6 c 3) x) - (cnt (σ 6 d 0) (σ 6 d 2) (σ 6 d 3) x)) (-((cnt (σ 6 c 0) (σ 6 c 2) (σ 6 c 3) x) - (cnt (σ 6 d 0) (σ 6 d 2) (σ 6 d 3) x)))))), (0, .ref (aL Γ)), (1, .int (zI c)), (2, .int (zI d)), (3, .int (zI a)), (4, .int (zI b)), (5, .int (zI u)), (6, .int (zI fs)), (7, .int (zI x))]) zC.1 zC.2.1 dX4_apart_69 hl (by decide) rfl (fun ls hl => ?_)
              refine lv_iload zC.1 zC.2.1 dX4_apart_71 (lv_at hl 0 rfl) ?_
              refine lv_iload zC.1 zC.2.1 dX4_apart_73 (lv_at hl 6 rfl) ?_
              refine zr_icmp_le (tgt := 86) zC dX4_apart_75 (by decide) (by omega) (fun c75 => ?_) (fun c75 => ?_)
              · refine lv_iload zC.1 zC.2.1 dX4_apart_86 (lv_at hl 8 rfl) ?_
                refine lv_aload_n zC.1 zC.2.1 dX4_apart_88 rfl (lv_at hl 1 rfl) ?_
                refine lv_iload_n zC.1 zC.2.1 dX4_apart_89 rfl (lv_at hl 2 rfl) ?_
                refine lv_iload_n zC.1 zC.2.1 dX4_apart_90 rfl (lv_at hl 3 rfl) ?_
                refine lv_iload zC.1 zC.2.1 dX4_apart_91 (lv_at hl 8 rfl) ?_
                refine zr_callV zC hG (c_X4_stretchEnd (σ := σ) (c := c) (d := d) (x := x) hI (by first | assumption | omega) (by first | assumption | omega) (by first | assumption | omega)) mt_X4_stretchEnd wl_X4_203 pL rfl rfl ⟨by decide, by decide⟩ rfl hl.1 rfl (Nat.le_of_ble_eq_true rfl) dX4_apart_93 ⟨Nat.zero_le _, Nat.zero_le _⟩ (fun H locs hG => ?_)
                refine W.eq (g2 := F0 zm 96 ls [.int (zI (min (strE (σ 6 c 0) (σ 6 c 1) (σ 6 c 2) (σ 6 c 3) x) (strE (σ 6 d 0) (σ 6 d 1) (σ 6 d 2) (σ 6 d 3) x))), .int (zI x)]) rfl ?_
                refine zr_max zC wl_X4_215 (by omega) ⟨by decide, Nat.le_of_ble_eq_true rfl, Nat.zero_le _, Nat.zero_le _⟩ hl.1 dX4_apart_96 ?_
                refine zr_iconst zC dX4_apart_99 ?_
                refine zr_iadd zC dX4_apart_100 ?_
                refine lv_istore (lv' := [(7, .int (zI ((max x (min (strE (σ 6 c 0) (σ 6 c 1) (σ 6 c 2) (σ 6 c 3) x) (strE (σ 6 d 0) (σ 6 d 1) (σ 6 d 2) (σ 6 d 3) x))) + 1))), (8, .int (zI (max ((cnt (σ 6 c 0) (σ 6 c 2) (σ 6 c 3) x) - (cnt (σ 6 d 0) (σ 6 d 2) (σ 6 d 3) x)) (-((cnt (σ 6 c 0) (σ 6 c 2) (σ 6 c 3) x) - (cnt (σ 6 d 0) (σ 6 d 2) (σ 6 d 3) x)))))), (0, .ref (aL Γ)), (1, .int (zI c)), (2, .int (zI d)), (3, .int (zI a)), (4, .int (zI b)), (5, .int (zI u)), (6, .int (zI fs))]) zC.1 zC.2.1 dX4_apart_101 hl (by decide) rfl (fun ls hl => ?_)
                refine lv_goto (tgt := 36) zC.1 zC.2.1 dX4_apart_103 (by decide) ?_
                exact ih36 u fs ((max x (min (strE (σ 6 c 0) (σ 6 c 1) (σ 6 c 2) (σ 6 c 3) x) (strE (σ 6 d 0) (σ 6 d 1) (σ 6 d 2) (σ 6 d 3) x))) + 1) H locs ls (by first | assumption | omega) (by rw [show (min (max x (min (strE (σ 6 c 0) (σ 6 c 1) (σ 6 c 2) (σ 6 c 3) x) (strE (σ 6 d 0) (σ 6 d 1) (σ 6 d 2) (σ 6 d 3) x)) + 1) (b + 1) - a).toNat = (max x (min (min (strE (σ 6 c 0) (σ 6 c 1) (σ 6 c 2) (σ 6 c 3) x) (strE (σ 6 d 0) (σ 6 d 1) (σ 6 d 2) (σ 6 d 3) x)) b) + 1 - a).toNat by omega, mxI_e hx.1 (by omega) (fun z h1 h2 => by rw [str_cnt (k := σ 6 c 0) (lp := σ 6 c 1) (o := σ 6 c 2) (g := σ 6 c 3) h1 (by omega), str_cnt (k := σ 6 d 0) (lp := σ 6 d 1) (o := σ 6 d 2) (g := σ 6 d 3) h1 (by omega)]; omega), show x = min x (b + 1) by omega, ← hu, show min x (b + 1) = x by omega]; omega) (by rw [show (min (max x (min (strE (σ 6 c 0) (σ 6 c 1) (σ 6 c 2) (σ 6 c 3) x) (strE (σ 6 d 0) (σ 6 d 1) (σ 6 d 2) (σ 6 d 3) x)) + 1) (b + 1) - a).toNat = (max x (min (min (strE (σ 6 c 0) (σ 6 c 1) (σ 6 c 2) (σ 6 c 3) x) (strE (σ 6 d 0) (σ 6 d 1) (σ 6 d 2) (σ 6 d 3) x)) b) + 1 - a).toNat by omega, bsI_e hx.1 (by omega) (fun z h1 h2 => by rw [str_cnt (k := σ 6 c 0) (lp := σ 6 c 1) (o := σ 6 c 2) (g := σ 6 c 3) h1 (by omega), str_cnt (k := σ 6 d 0) (lp := σ 6 d 1) (o := σ 6 d 2) (g := σ 6 d 3) h1 (by omega)]; omega), show (x - a).toNat = (min x (b + 1) - a).toNat by omega, ← hu, ← hf]; split <;> omega) (by omega) hG (lv_sub hl [2, 3, 4, 5, 6, 7, 8, 0] rfl)
              · refine lv_iload zC.1 zC.2.1 dX4_apart_78 (lv_at hl 0 rfl) ?_
                refine lv_istore (lv' := [(5, .int (zI (max ((cnt (σ 6 c 0) (σ 6 c 2) (σ 6 c 3) x) - (cnt (σ 6 d 0) (σ 6 d 2) (σ 6 d 3) x)) (-((cnt (σ 6 c 0) (σ 6 c 2) (σ 6 c 3) x) - (cnt (σ 6 d 0) (σ 6 d 2) (σ 6 d 3) x)))))), (8, .int (zI (max ((cnt (σ 6 c 0) (σ 6 c 2) (σ 6 c 3) x) - (cnt (σ 6 d 0) (σ 6 d 2) (σ 6 d 3) x)) (-((cnt (σ 6 c 0) (σ 6 c 2) (σ 6 c 3) x) - (cnt (σ 6 d 0) (σ 6 d 2) (σ 6 d 3) x)))))), (0, .ref (aL Γ)), (1, .int (zI c)), (2, .int (zI d)), (3, .int (zI a)), (4, .int (zI b)), (6, .int (zI fs)), (7, .int (zI x))]) zC.1 zC.2.1 dX4_apart_80 hl (by decide) rfl (fun ls hl => ?_)
                refine lv_iload zC.1 zC.2.1 dX4_apart_82 (lv_at hl 8 rfl) ?_
                refine lv_istore (lv' := [(6, .int (zI x)), (5, .int (zI (max ((cnt (σ 6 c 0) (σ 6 c 2) (σ 6 c 3) x) - (cnt (σ 6 d 0) (σ 6 d 2) (σ 6 d 3) x)) (-((cnt (σ 6 c 0) (σ 6 c 2) (σ 6 c 3) x) - (cnt (σ 6 d 0) (σ 6 d 2) (σ 6 d 3) x)))))), (8, .int (zI (max ((cnt (σ 6 c 0) (σ 6 c 2) (σ 6 c 3) x) - (cnt (σ 6 d 0) (σ 6 d 2) (σ 6 d 3) x)) (-((cnt (σ 6 c 0) (σ 6 c 2) (σ 6 c 3) x) - (cnt (σ 6 d 0) (σ 6 d 2) (σ 6 d 3) x)))))), (0, .ref (aL Γ)), (1, .int (zI c)), (2, .int (zI d)), (3, .int (zI a)), (4, .int (zI b)), (7, .int (zI x))]) zC.1 zC.2.1 dX4_apart_84 hl (by decide) rfl (fun ls hl => ?_)
                refine lv_iload zC.1 zC.2.1 dX4_apart_86 (lv_at hl 8 rfl) ?_
                refine lv_aload_n zC.1 zC.2.1 dX4_apart_88 rfl (lv_at hl 3 rfl) ?_
                refine lv_iload_n zC.1 zC.2.1 dX4_apart_89 rfl (lv_at hl 4 rfl) ?_
                refine lv_iload_n zC.1 zC.2.1 dX4_apart_90 rfl (lv_at hl 5 rfl) ?_
                refine lv_iload zC.1 zC.2.1 dX4_apart_91 (lv_at hl 8 rfl) ?_
                refine zr_callV zC hG (c_X4_stretchEnd (σ := σ) (c := c) (d := d) (x := x) hI (by first | assumption | omega) (by first | assumption | omega) (by first | assumption | omega)) mt_X4_stretchEnd wl_X4_203 pL rfl rfl ⟨by decide, by decide⟩ rfl hl.1 rfl (Nat.le_of_ble_eq_true rfl) dX4_apart_93 ⟨Nat.zero_le _, Nat.zero_le _⟩ (fun H locs hG => ?_)
                refine W.eq (g2 := F0 zm 96 ls [.int (zI (min (strE (σ 6 c 0) (σ 6 c 1) (σ 6 c 2) (σ 6 c 3) x) (strE (σ 6 d 0) (σ 6 d 1) (σ 6 d 2) (σ 6 d 3) x))), .int (zI x)]) rfl ?_
                refine zr_max zC wl_X4_215 (by omega) ⟨by decide, Nat.le_of_ble_eq_true rfl, Nat.zero_le _, Nat.zero_le _⟩ hl.1 dX4_apart_96 ?_
                refine zr_iconst zC dX4_apart_99 ?_
                refine zr_iadd zC dX4_apart_100 ?_
                refine lv_istore (lv' := [(7, .int (zI ((max x (min (strE (σ 6 c 0) (σ 6 c 1) (σ 6 c 2) (σ 6 c 3) x) (strE (σ 6 d 0) (σ 6 d 1) (σ 6 d 2) (σ 6 d 3) x))) + 1))), (6, .int (zI x)), (5, .int (zI (max ((cnt (σ 6 c 0) (σ 6 c 2) (σ 6 c 3) x) - (cnt (σ 6 d 0) (σ 6 d 2) (σ 6 d 3) x)) (-((cnt (σ 6 c 0) (σ 6 c 2) (σ 6 c 3) x) - (cnt (σ 6 d 0) (σ 6 d 2) (σ 6 d 3) x)))))), (8, .int (zI (max ((cnt (σ 6 c 0) (σ 6 c 2) (σ 6 c 3) x) - (cnt (σ 6 d 0) (σ 6 d 2) (σ 6 d 3) x)) (-((cnt (σ 6 c 0) (σ 6 c 2) (σ 6 c 3) x) - (cnt (σ 6 d 0) (σ 6 d 2) (σ 6 d 3) x)))))), (0, .ref (aL Γ)), (1, .int (zI c)), (2, .int (zI d)), (3, .int (zI a)), (4, .int (zI b))]) zC.1 zC.2.1 dX4_apart_101 hl (by decide) rfl (fun ls hl => ?_)
                refine lv_goto (tgt := 36) zC.1 zC.2.1 dX4_apart_103 (by decide) ?_
                exact ih36 (max ((cnt (σ 6 c 0) (σ 6 c 2) (σ 6 c 3) x) - (cnt (σ 6 d 0) (σ 6 d 2) (σ 6 d 3) x)) (-((cnt (σ 6 c 0) (σ 6 c 2) (σ 6 c 3) x) - (cnt (σ 6 d 0) (σ 6 d 2) (σ 6 d 3) x)))) x ((max x (min (strE (σ 6 c 0) (σ 6 c 1) (σ 6 c 2) (σ 6 c 3) x) (strE (σ 6 d 0) (σ 6 d 1) (σ 6 d 2) (σ 6 d 3) x))) + 1) H locs ls (by first | assumption | omega) (by rw [show (min (max x (min (strE (σ 6 c 0) (σ 6 c 1) (σ 6 c 2) (σ 6 c 3) x) (strE (σ 6 d 0) (σ 6 d 1) (σ 6 d 2) (σ 6 d 3) x)) + 1) (b + 1) - a).toNat = (max x (min (min (strE (σ 6 c 0) (σ 6 c 1) (σ 6 c 2) (σ 6 c 3) x) (strE (σ 6 d 0) (σ 6 d 1) (σ 6 d 2) (σ 6 d 3) x)) b) + 1 - a).toNat by omega, mxI_e hx.1 (by omega) (fun z h1 h2 => by rw [str_cnt (k := σ 6 c 0) (lp := σ 6 c 1) (o := σ 6 c 2) (g := σ 6 c 3) h1 (by omega), str_cnt (k := σ 6 d 0) (lp := σ 6 d 1) (o := σ 6 d 2) (g := σ 6 d 3) h1 (by omega)]; omega), show x = min x (b + 1) by omega, ← hu, show min x (b + 1) = x by omega]; omega) (by rw [show (min (max x (min (strE (σ 6 c 0) (σ 6 c 1) (σ 6 c 2) (σ 6 c 3) x) (strE (σ 6 d 0) (σ 6 d 1) (σ 6 d 2) (σ 6 d 3) x)) + 1) (b + 1) - a).toNat = (max x (min (min (strE (σ 6 c 0) (σ 6 c 1) (σ 6 c 2) (σ 6 c 3) x) (strE (σ 6 d 0) (σ 6 d 1) (σ 6 d 2) (σ 6 d 3) x)) b) + 1 - a).toNat by omega, bsI_e hx.1 (by omega) (fun z h1 h2 => by rw [str_cnt (k := σ 6 c 0) (lp := σ 6 c 1) (o := σ 6 c 2) (g := σ 6 c 3) h1 (by omega), str_cnt (k := σ 6 d 0) (lp := σ 6 d 1) (o := σ 6 d 2) (g := σ 6 d 3) h1 (by omega)]; omega), show (x - a).toNat = (min x (b + 1) - a).toNat by omega, ← hu, ← hf]; split <;> omega) (by omega) hG (lv_sub hl [4, 5, 6, 7, 8, 2, 1, 0] rfl)
        exact loop36 ((b + 102 - a : Int).toNat + 1) (-1) a a H locs ls (by first | assumption | omega) (by rw [show (min a (b + 1) - a).toNat = 0 by omega]; rfl) (by rw [show (min a (b + 1) - a).toNat = 0 by omega]; rfl) (by omega) hG (lv_sub hl [3, 4, 5, 6, 7, 2, 1, 0] rfl)
      · refine zr_iconst zC dX4_apart_25 ?_
        exact zr_iret zC zK hG dX4_apart_26 (by unfold rC_apart; (repeat' split) <;> first | rfl | omega) (by unfold mC_apart; (repeat' split) <;> first | rfl | (exfalso; omega))

set_option maxHeartbeats 4000000 in
set_option maxRecDepth 100000 in
theorem c_X4_year {Γ : Gm} {zl : Launch} {A : Nat → Prop} {σ : Mm} {c y : Int} (hI : IC σ) (hc : -2147483648 ≤ c ∧ c < 2147483648) (hy : -2147483648 ≤ y ∧ y < 2147483648) : Fn Γ zl A yX4_year cX4_year 6 (some .int) 4 88 [.ref (aL Γ), .int (zI c), .int (zI y)] σ (some (.int (zI (rC_year σ c y)))) (mC_year σ c y) := by
  refine Fn_of (by decide) (Nat.le_of_ble_eq_true rfl) ?_
  intro zp ze zs zm args below meth zc zQ H locs ls zC zK hG hl
  have hl : lv_has ls 6 [(0, .ref (aL Γ)), (1, .int (zI c)), (2, .int (zI y))] := hl
  obtain ⟨hmany, htoday, -⟩ := id hI
  refine lv_aload_n zC.1 zC.2.1 dX4_year_0 rfl (lv_at hl 0 rfl) ?_
  refine lv_iload_n zC.1 zC.2.1 dX4_year_1 rfl (lv_at hl 1 rfl) ?_
  refine zr_callV zC hG (c_X4_isTown (σ := σ) (c := c) hI (by first | assumption | omega)) mt_X4_isTown wl_X4_128 pL rfl rfl ⟨by decide, by decide⟩ rfl hl.1 rfl (Nat.le_of_ble_eq_true rfl) dX4_year_2 ⟨Nat.zero_le _, Nat.zero_le _⟩ (fun H locs hG => ?_)
  refine W.eq (g2 := F0 zm 5 ls [.int (zI (zB (isT σ c)))]) rfl ?_
  refine zr_ifeqB (tgt := 19) zC dX4_year_5 (by decide) (fun c5 => ?_) (fun c5 => ?_)
  · refine zr_iconst zC dX4_year_19 ?_
    exact zr_iret zC zK hG dX4_year_20 (by unfold rC_year; (repeat' split) <;> first | rfl | omega) (by unfold mC_year; (repeat' split) <;> first | rfl | (exfalso; omega))
  · refine lv_iload_n zC.1 zC.2.1 dX4_year_8 rfl (lv_at hl 2 rfl) ?_
    refine zr_iconst zC dX4_year_9 ?_
    refine zr_sipush zC dX4_year_10 (by decide +kernel) ?_
    refine zr_callS zC hG (c_X4_isWithin (σ := σ) (v := y) (a := 0) (b := 250) (by first | assumption | omega) (by first | assumption | omega) (by first | assumption | omega)) mt_X4_isWithin wl_X4_140 ⟨by decide, by decide⟩ rfl hl.1 rfl (Nat.le_of_ble_eq_true rfl) dX4_year_13 ⟨Nat.zero_le _, Nat.zero_le _⟩ (fun H locs hG => ?_)
    refine W.eq (g2 := F0 zm 16 ls [.int (zI (zB (0 ≤ y ∧ y ≤ 250)))]) rfl ?_
    refine zr_ifneB (tgt := 21) zC dX4_year_16 (by decide) (fun c16 => ?_) (fun c16 => ?_)
    · refine lv_aload_n zC.1 zC.2.1 dX4_year_21 rfl (lv_at hl 0 rfl) ?_
      refine gf_L_towns zC hG wl_X4_23 dX4_year_22 ?_
      refine lv_iload_n zC.1 zC.2.1 dX4_year_25 rfl (lv_at hl 1 rfl) ?_
      refine gr_To zC hG (by omega) dX4_year_26 ?_
      refine lv_iload_n zC.1 zC.2.1 dX4_year_27 rfl (lv_at hl 2 rfl) ?_
      have k28 := hI.2.2.2.2.2.2.1 c (by omega) (by omega)
      obtain ⟨k28a, k28b, k28c, k28d⟩ := id k28
      refine zr_callV zC hG (c_X0_lengthOf (σ := σ) (i := c) (y := y) (by first | assumption | omega) k28 (by first | assumption | omega)) mt_X0_lengthOf wl_X4_177 (pCal (by first | assumption | omega)) rfl rfl ⟨by decide, by decide⟩ rfl hl.1 rfl (Nat.le_of_ble_eq_true rfl) dX4_year_28 ⟨Nat.zero_le _, Nat.zero_le _⟩ (fun H locs hG => ?_)
      refine W.eq (g2 := F0 zm 31 ls [.int (zI (lenY (σ 6 c 0) (σ 6 c 1) y))]) rfl ?_
      have b28_0 := lenY_r (σ 6 c 0) (σ 6 c 1) y
      refine lv_istore_n (lv' := [(3, .int (zI (lenY (σ 6 c 0) (σ 6 c 1) y))), (0, .ref (aL Γ)), (1, .int (zI c)), (2, .int (zI y))]) zC.1 zC.2.1 dX4_year_31 rfl hl (by decide) rfl (fun ls hl => ?_)
      refine zr_iconst zC dX4_year_32 ?_
      refine lv_istore (lv' := [(4, .int (zI 0)), (3, .int (zI (lenY (σ 6 c 0) (σ 6 c 1) y))), (0, .ref (aL Γ)), (1, .int (zI c)), (2, .int (zI y))]) zC.1 zC.2.1 dX4_year_33 hl (by decide) rfl (fun ls hl => ?_)
      refine zr_iconst zC dX4_year_35 ?_
      refine lv_istore (lv' := [(5, .int (zI 0)), (4, .int (zI 0)), (3, .int (zI (lenY (σ 6 c 0) (σ 6 c 1) y))), (0, .ref (aL Γ)), (1, .int (zI c)), (2, .int (zI y))]) zC.1 zC.2.1 dX4_year_36 hl (by decide) rfl (fun ls hl => ?_)
      have loop38 : ∀ (nf : Nat) (u q : Int) (H : Heap) (locs : List Loc) (ls : Array Slot), (0 ≤ q ∧ q ≤ lenY (σ 6 c 0) (σ 6 c 1) y) → (u = ctI (fun q => dyD (σ 6 c 0) (σ 6 c 1) (σ 6 c 2) (σ 6 c 3) (1000 * y + q) ≠ -1) 0 (q - 0).toNat) → (101 - q < (nf : Int)) → GM Γ A σ zs H locs → lv_has ls 6 [(0, .ref (aL Γ)), (1, .int (zI c)), (2, .int (zI y)), (3, .int (zI (lenY (σ 6 c 0) (σ 6 c 1) y))), (4, .int (zI u)), (5, .int (zI q))] → W zp zl ze { frames := 4, cells := 0, slots := 0, locals := 88 } zs zm args below meth zc H locs 0 0 zQ (F0 zm 38 ls []) := by
        intro nf
        induction nf with
        | zero =>
          intro u q H locs ls hq hu hm38 _ _
          exact absurd hm38 (by omega)
        | succ nf ih38 =>
          intro u q H locs ls hq hu hm38 hG hl
          refine lv_iload zC.1 zC.2.1 dX4_year_38 (lv_at hl 5 rfl) ?_
          refine lv_iload_n zC.1 zC.2.1 dX4_year_40 rfl (lv_at hl 3 rfl) ?_
          refine zr_icmp_ge (tgt := 74) zC dX4_year_41 (by decide) (by omega) (fun c41 => ?_) (fun c41 => ?_)
          · refine lv_aload_n zC.1 zC.2.1 dX4_year_74 rfl (lv_at hl 0 rfl) ?_
            refine lv_iload zC.1 zC.2.1 dX4_year_75 (lv_at hl 4 rfl) ?_
            refine pf_L_told zC hG wl_X4_49 dX4_year_77 (fun H locs hG => ?_)
            refine lv_iload_n zC.1 zC.2.1 dX4_year_80 rfl (lv_at hl 3 rfl) ?_
            exact zr_iret zC zK hG dX4_year_81 (by unfold rC_year; (repeat' split) <;> first | rfl | omega) (by unfold mC_year; rw [if_neg (by omega), hu]; congr 2; omega)
          · refine lv_aload_n zC.1 zC.2.1 dX4_year_44 rfl (lv_at hl 0 rfl) ?_
            refine gf_L_towns zC hG wl_X4_23 dX4_year_45 ?_
            refine lv_iload_n zC.1 zC.2.1 dX4_year_48 rfl (lv_at hl 1 rfl) ?_
            refine gr_To zC hG (by omega) dX4_year_49 ?_
            refine zr_sipush zC dX4_year_50 (by decide +kernel) ?_
            refine lv_iload_n zC.1 zC.2.1 dX4_year_53 rfl (lv_at hl 2 rfl) ?_
            refine zr_imul zC dX4_year_54 ?_
            refine lv_iload zC.1 zC.2.1 dX4_year_55 (lv_at hl 5 rfl) ?_
            refine zr_iadd zC dX4_year_57 ?_
            have k58 := hI.2.2.2.2.2.2.1 c (by omega) (by omega)
            obtain ⟨k58a, k58b, k58c, k58d⟩ := id k58
            refine zr_callV zC hG (c_X0_dayOfDate (σ := σ) (i := c) (t := (1000 * y) + q) (by first | assumption | omega) k58 (by first | assumption | omega)) mt_X0_dayOfDate wl_X4_174 (pCal (by first | assumption | omega)) rfl rfl ⟨by decide, by decide⟩ rfl hl.1 rfl (Nat.le_of_ble_eq_true rfl) dX4_year_58 ⟨Nat.zero_le _, Nat.zero_le _⟩ (fun H locs hG => ?_)
            refine W.eq (g2 := F0 zm 61 ls [.int (zI (dyD (σ 6 c 0) (σ 6 c 1) (σ 6 c 2) (σ 6 c 3) ((1000 * y) + q)))]) rfl ?_
            have b58_0 := dyD_r (k := (σ 6 c 0)) (lp := (σ 6 c 1)) (o := (σ 6 c 2)) (g := (σ 6 c 3)) (t := ((1000 * y) + q)) (by omega) (by omega)
            refine zr_iconst zC dX4_year_61 ?_
            refine zr_icmp_eq (tgt := 68) zC dX4_year_62 (by decide) (by omega) (fun c62 => ?_) (fun c62 => ?_)
            · refine zr_iinc (lv' := [(5, .int (zI (q + 1))), (0, .ref (aL Γ)), (1, .int (zI c)), (2, .int (zI y)), (3, .int (zI (lenY (σ 6 c 0) (σ 6 c 1) y))), (4, .int (zI u))]) zC dX4_year_68 hl (k := 5) rfl (by decide) rfl (fun ls hl => ?_)
              refine lv_goto (tgt := 38) zC.1 zC.2.1 dX4_year_71 (by decide) ?_
              exact ih38 u (q + 1) H locs ls (by first | assumption | omega) (by rw [ctI_s hq.1, ← hu]; unfold zB; split <;> omega) (by omega) hG (lv_sub hl [1, 2, 3, 4, 5, 0] rfl)
            · refine zr_iinc (lv' := [(4, .int (zI (u + 1))), (0, .ref (aL Γ)), (1, .int (zI c)), (2, .int (zI y)), (3, .int (zI (lenY (σ 6 c 0) (σ 6 c 1) y))), (5, .int (zI q))]) zC dX4_year_65 hl (k := 4) rfl (by decide) rfl (fun ls hl => ?_)
              refine zr_iinc (lv' := [(5, .int (zI (q + 1))), (4, .int (zI (u + 1))), (0, .ref (aL Γ)), (1, .int (zI c)), (2, .int (zI y)), (3, .int (zI (lenY (σ 6 c 0) (σ 6 c 1) y)))]) zC dX4_year_68 hl (k := 5) rfl (by decide) rfl (fun ls hl => ?_)
              refine lv_goto (tgt := 38) zC.1 zC.2.1 dX4_year_71 (by decide) ?_
              exact ih38 (u + 1) (q + 1) H locs ls (by first | assumption | omega) (by rw [ctI_s hq.1, ← hu]; unfold zB; split <;> omega) (by omega) hG (lv_sub hl [2, 3, 4, 5, 1, 0] rfl)
      exact loop38 ((101 - 0 : Int).toNat + 1) 0 0 H locs ls (by first | assumption | omega) rfl (by omega) hG (lv_sub hl [3, 4, 5, 2, 1, 0] rfl)
    · refine zr_iconst zC dX4_year_19 ?_
      exact zr_iret zC zK hG dX4_year_20 (by unfold rC_year; (repeat' split) <;> first | rfl | omega) (by unfold mC_year; (repeat' split) <;> first | rfl | (exfalso; omega))

set_option maxHeartbeats 4000000 in
set_option maxRecDepth 100000 in
theorem c_X4_where {Γ : Gm} {zl : Launch} {A : Nat → Prop} {σ : Mm} {d t : Int} (hI : IC σ) (hd : -2147483648 ≤ d ∧ d < 2147483648) (ht : -2147483648 ≤ t ∧ t < 2147483648) : Fn Γ zl A yX4_where cX4_where 5 (some .int) 4 86 [.ref (aL Γ), .int (zI d), .int (zI t)] σ (some (.int (zI (rC_where σ d t)))) (mC_where σ d t) := by
  refine Fn_of (by decide) (Nat.le_of_ble_eq_true rfl) ?_
  intro zp ze zs zm args below meth zc zQ H locs ls zC zK hG hl
  have hl : lv_has ls 5 [(0, .ref (aL Γ)), (1, .int (zI d)), (2, .int (zI t))] := hl
  obtain ⟨hmany, htoday, -⟩ := id hI
  refine lv_iload_n zC.1 zC.2.1 dX4_where_0 rfl (lv_at hl 1 rfl) ?_
  refine zr_callS zC hG (c_X4_isDay (σ := σ) (v := d) (by first | assumption | omega)) mt_X4_isDay wl_X4_168 ⟨by decide, by decide⟩ rfl hl.1 rfl (Nat.le_of_ble_eq_true rfl) dX4_where_1 ⟨Nat.zero_le _, Nat.zero_le _⟩ (fun H locs hG => ?_)
  refine W.eq (g2 := F0 zm 4 ls [.int (zI (zB (0 ≤ d ∧ d ≤ 19999)))]) rfl ?_
  refine zr_ifeqB (tgt := 11) zC dX4_where_4 (by decide) (fun c4 => ?_) (fun c4 => ?_)
  · refine zr_iconst zC dX4_where_11 ?_
    exact zr_iret zC zK hG dX4_where_12 (by unfold rC_where; (repeat' split) <;> first | rfl | omega) (by unfold mC_where; (repeat' split) <;> first | rfl | (exfalso; omega))
  · refine lv_iload_n zC.1 zC.2.1 dX4_where_7 rfl (lv_at hl 2 rfl) ?_
    refine zr_if_ge (tgt := 13) zC dX4_where_8 (by decide) (by omega) (fun c8 => ?_) (fun c8 => ?_)
    · refine zr_iconst zC dX4_where_13 ?_
      refine lv_istore_n (lv' := [(3, .int (zI 0)), (0, .ref (aL Γ)), (1, .int (zI d)), (2, .int (zI t))]) zC.1 zC.2.1 dX4_where_14 rfl hl (by decide) rfl (fun ls hl => ?_)
      refine zr_iconst zC dX4_where_15 ?_
      refine lv_istore (lv' := [(4, .int (zI 0)), (3, .int (zI 0)), (0, .ref (aL Γ)), (1, .int (zI d)), (2, .int (zI t))]) zC.1 zC.2.1 dX4_where_16 hl (by decide) rfl (fun ls hl => ?_)
      have loop18 : ∀ (nf : Nat) (u q : Int) (H : Heap) (locs : List Loc) (ls : Array Slot), (0 ≤ q ∧ q ≤ σ 0 0 6) → (u = bts (fun z => dtD (σ 6 z 0) (σ 6 z 1) (σ 6 z 2) (σ 6 z 3) d = t) q.toNat) → (6 - q < (nf : Int)) → GM Γ A σ zs H locs → lv_has ls 5 [(0, .ref (aL Γ)), (1, .int (zI d)), (2, .int (zI t)), (3, .int (zI u)), (4, .int (zI q))] → W zp zl ze { frames := 4, cells := 0, slots := 0, locals := 86 } zs zm args below meth zc H locs 0 0 zQ (F0 zm 18 ls []) := by
        intro nf
        induction nf with
        | zero =>
          intro u q H locs ls hq hu hm18 _ _
          exact absurd hm18 (by omega)
        | succ nf ih18 =>
          intro u q H locs ls hq hu hm18 hG hl
          have b18 := bts_r (fun z => dtD (σ 6 z 0) (σ 6 z 1) (σ 6 z 2) (σ 6 z 3) d = t) q.toNat
          rw [← hu] at b18
          refine lv_iload zC.1 zC.2.1 dX4_where_18 (lv_at hl 4 rfl) ?_
          refine lv_aload_n zC.1 zC.2.1 dX4_where_20 rfl (lv_at hl 0 rfl) ?_
          refine gf_L_townCount (v := σ 0 0 6) zC hG wl_X4_42 rfl dX4_where_21 ?_
          refine zr_icmp_ge (tgt := 55) zC dX4_where_24 (by decide) (by omega) (fun c24 => ?_) (fun c24 => ?_)
          · refine lv_aload_n zC.1 zC.2.1 dX4_where_55 rfl (lv_at hl 0 rfl) ?_
            refine lv_iload_n zC.1 zC.2.1 dX4_where_56 rfl (lv_at hl 3 rfl) ?_
            refine pf_L_told zC hG wl_X4_49 dX4_where_57 (fun H locs hG => ?_)
            have b60 := p2_5 (q := q) (by omega)
            refine lv_iload_n zC.1 zC.2.1 dX4_where_60 rfl (lv_at hl 3 rfl) ?_
            refine zr_callS zC hG (c_J6_bitCount_0f7a4 (σ := up σ 0 0 8 u) (b := u) (by first | assumption | omega)) mt_J6_bitCount_0f7a4 wl_X4_180 ⟨by decide, by decide⟩ rfl hl.1 rfl (Nat.le_of_ble_eq_true rfl) dX4_where_61 ⟨Nat.zero_le _, Nat.zero_le _⟩ (fun H locs hG => ?_)
            refine W.eq (g2 := F0 zm 64 ls [.int (zI (pc5 u))]) rfl ?_
            exact zr_iret zC zK hG dX4_where_64 (by unfold rC_where; rw [if_neg (by omega), hu, pc5_bts (fun z => dtD (σ 6 z 0) (σ 6 z 1) (σ 6 z 2) (σ 6 z 3) d = t) (by omega)]; congr 1; omega) (by unfold mC_where; rw [if_neg (by omega), hu, show q = σ 0 0 6 by omega])
          · refine lv_aload_n zC.1 zC.2.1 dX4_where_27 rfl (lv_at hl 0 rfl) ?_
            refine gf_L_towns zC hG wl_X4_23 dX4_where_28 ?_
            refine lv_iload zC.1 zC.2.1 dX4_where_31 (lv_at hl 4 rfl) ?_
            refine gr_To zC hG (by omega) dX4_where_33 ?_
            refine lv_iload_n zC.1 zC.2.1 dX4_where_34 rfl (lv_at hl 1 rfl) ?_
            have k35 := hI.2.2.2.2.2.2.1 q (by omega) (by omega)
            obtain ⟨k35a, k35b, k35c, k35d⟩ := id k35
            refine zr_callV zC hG (c_X0_dateOn (σ := σ) (i := q) (d := d) (by first | assumption | omega) k35 (by first | assumption | omega)) mt_X0_dateOn wl_X4_171 (pCal (by first | assumption | omega)) rfl rfl ⟨by decide, by decide⟩ rfl hl.1 rfl (Nat.le_of_ble_eq_true rfl) dX4_where_35 ⟨Nat.zero_le _, Nat.zero_le _⟩ (fun H locs hG => ?_)
            refine W.eq (g2 := F0 zm 38 ls [.int (zI (dtD (σ 6 q 0) (σ 6 q 1) (σ 6 q 2) (σ 6 q 3) d))]) rfl ?_
            have b35_0 := dtD_r (k := (σ 6 q 0)) (lp := (σ 6 q 1)) (o := (σ 6 q 2)) (g := (σ 6 q 3)) (d := d) (by omega) (by omega) (by omega)
            refine lv_iload_n zC.1 zC.2.1 dX4_where_38 rfl (lv_at hl 2 rfl) ?_
            refine zr_icmp_ne (tgt := 49) zC dX4_where_39 (by decide) (by omega) (fun c39 => ?_) (fun c39 => ?_)
            · refine zr_iinc (lv' := [(4, .int (zI (q + 1))), (0, .ref (aL Γ)), (1, .int (zI d)), (2, .int (zI t)), (3, .int (zI u))]) zC dX4_where_49 hl (k := 4) rfl (by decide) rfl (fun ls hl => ?_)
              refine lv_goto (tgt := 18) zC.1 zC.2.1 dX4_where_52 (by decide) ?_
              exact ih18 u (q + 1) H locs ls (by first | assumption | omega) (by rw [bts_s hq.1, ← hu]; split <;> omega) (by omega) hG (lv_sub hl [1, 2, 3, 4, 0] rfl)
            · refine lv_iload_n zC.1 zC.2.1 dX4_where_42 rfl (lv_at hl 3 rfl) ?_
              refine zr_iconst zC dX4_where_43 ?_
              refine lv_iload zC.1 zC.2.1 dX4_where_44 (lv_at hl 4 rfl) ?_
              refine zr_shl1 zC dX4_where_46 (by omega) ?_
              refine zr_ior zC dX4_where_47 b18 (by omega) ?_
              refine lv_istore_n (lv' := [(3, .int (zI (u + 2 ^ q.toNat))), (0, .ref (aL Γ)), (1, .int (zI d)), (2, .int (zI t)), (4, .int (zI q))]) zC.1 zC.2.1 dX4_where_48 rfl hl (by decide) rfl (fun ls hl => ?_)
              refine zr_iinc (lv' := [(4, .int (zI (q + 1))), (3, .int (zI (u + 2 ^ q.toNat))), (0, .ref (aL Γ)), (1, .int (zI d)), (2, .int (zI t))]) zC dX4_where_49 hl (k := 4) rfl (by decide) rfl (fun ls hl => ?_)
              refine lv_goto (tgt := 18) zC.1 zC.2.1 dX4_where_52 (by decide) ?_
              exact ih18 (u + 2 ^ q.toNat) (q + 1) H locs ls (by first | assumption | omega) (by rw [bts_s hq.1, ← hu]; split <;> omega) (by omega) hG (lv_sub hl [2, 3, 4, 1, 0] rfl)
      exact loop18 ((6 - 0 : Int).toNat + 1) 0 0 H locs ls (by first | assumption | omega) rfl (by omega) hG (lv_sub hl [2, 3, 4, 1, 0] rfl)
    · refine zr_iconst zC dX4_where_11 ?_
      exact zr_iret zC zK hG dX4_where_12 (by unfold rC_where; (repeat' split) <;> first | rfl | omega) (by unfold mC_where; (repeat' split) <;> first | rfl | (exfalso; omega))

set_option maxHeartbeats 4000000 in
set_option maxRecDepth 100000 in
theorem c_X4_dated {Γ : Gm} {zl : Launch} {A : Nat → Prop} {σ : Mm} {t a b : Int} (hI : IC σ) (ht : -2147483648 ≤ t ∧ t < 2147483648) (ha : -2147483648 ≤ a ∧ a < 2147483648) (hb : -2147483648 ≤ b ∧ b < 2147483648) : Fn Γ zl A yX4_dated cX4_dated 7 (some .int) 4 88 [.ref (aL Γ), .int (zI t), .int (zI a), .int (zI b)] σ (some (.int (zI (rC_dated σ t a b)))) σ := by
  refine Fn_of (by decide) (Nat.le_of_ble_eq_true rfl) ?_
  intro zp ze zs zm args below meth zc zQ H locs ls zC zK hG hl
  have hl : lv_has ls 7 [(0, .ref (aL Γ)), (1, .int (zI t)), (2, .int (zI a)), (3, .int (zI b))] := hl
  obtain ⟨hmany, htoday, -⟩ := id hI
  refine lv_iload_n zC.1 zC.2.1 dX4_dated_0 rfl (lv_at hl 1 rfl) ?_
  refine zr_if_lt (tgt := 12) zC dX4_dated_1 (by decide) (by omega) (fun c1 => ?_) (fun c1 => ?_)
  · refine zr_iconst zC dX4_dated_12 ?_
    exact zr_iret zC zK hG dX4_dated_13 (by unfold rC_dated; (repeat' split) <;> first | rfl | omega) rfl
  · refine lv_iload_n zC.1 zC.2.1 dX4_dated_4 rfl (lv_at hl 2 rfl) ?_
    refine lv_iload_n zC.1 zC.2.1 dX4_dated_5 rfl (lv_at hl 3 rfl) ?_
    refine zr_callS zC hG (c_X4_isSpan (σ := σ) (a := a) (b := b) (by first | assumption | omega) (by first | assumption | omega)) mt_X4_isSpan wl_X4_197 ⟨by decide, by decide⟩ rfl hl.1 rfl (Nat.le_of_ble_eq_true rfl) dX4_dated_6 ⟨Nat.zero_le _, Nat.zero_le _⟩ (fun H locs hG => ?_)
    refine W.eq (g2 := F0 zm 9 ls [.int (zI (zB (0 ≤ a ∧ a ≤ b ∧ b ≤ 19999)))]) rfl ?_
    refine zr_ifneB (tgt := 14) zC dX4_dated_9 (by decide) (fun c9 => ?_) (fun c9 => ?_)
    · refine zr_iconst zC dX4_dated_14 ?_
      refine lv_istore (lv' := [(4, .int (zI 0)), (0, .ref (aL Γ)), (1, .int (zI t)), (2, .int (zI a)), (3, .int (zI b))]) zC.1 zC.2.1 dX4_dated_15 hl (by decide) rfl (fun ls hl => ?_)
      refine zr_iconst zC dX4_dated_17 ?_
      refine lv_istore (lv' := [(5, .int (zI 0)), (4, .int (zI 0)), (0, .ref (aL Γ)), (1, .int (zI t)), (2, .int (zI a)), (3, .int (zI b))]) zC.1 zC.2.1 dX4_dated_18 hl (by decide) rfl (fun ls hl => ?_)
      have loop20 : ∀ (nf : Nat) (u q : Int) (H : Heap) (locs : List Loc) (ls : Array Slot), (0 ≤ q ∧ q ≤ σ 0 0 6) → (u = bts (fun z => dyD (σ 6 z 0) (σ 6 z 1) (σ 6 z 2) (σ 6 z 3) t ≠ -1 ∧ a ≤ dyD (σ 6 z 0) (σ 6 z 1) (σ 6 z 2) (σ 6 z 3) t ∧ dyD (σ 6 z 0) (σ 6 z 1) (σ 6 z 2) (σ 6 z 3) t ≤ b) q.toNat) → (6 - q < (nf : Int)) → GM Γ A σ zs H locs → lv_has ls 7 [(0, .ref (aL Γ)), (1, .int (zI t)), (2, .int (zI a)), (3, .int (zI b)), (4, .int (zI u)), (5, .int (zI q))] → W zp zl ze { frames := 4, cells := 0, slots := 0, locals := 88 } zs zm args below meth zc H locs 0 0 zQ (F0 zm 20 ls []) := by
        intro nf
        induction nf with
        | zero =>
          intro u q H locs ls hq hu hm20 _ _
          exact absurd hm20 (by omega)
        | succ nf ih20 =>
          intro u q H locs ls hq hu hm20 hG hl
          have b20 := bts_r (fun z => dyD (σ 6 z 0) (σ 6 z 1) (σ 6 z 2) (σ 6 z 3) t ≠ -1 ∧ a ≤ dyD (σ 6 z 0) (σ 6 z 1) (σ 6 z 2) (σ 6 z 3) t ∧ dyD (σ 6 z 0) (σ 6 z 1) (σ 6 z 2) (σ 6 z 3) t ≤ b) q.toNat
          rw [← hu] at b20
          refine lv_iload zC.1 zC.2.1 dX4_dated_20 (lv_at hl 5 rfl) ?_
          refine lv_aload_n zC.1 zC.2.1 dX4_dated_22 rfl (lv_at hl 0 rfl) ?_
          refine gf_L_townCount (v := σ 0 0 6) zC hG wl_X4_42 rfl dX4_dated_23 ?_
          refine zr_icmp_ge (tgt := 75) zC dX4_dated_26 (by decide) (by omega) (fun c26 => ?_) (fun c26 => ?_)
          · refine lv_iload zC.1 zC.2.1 dX4_dated_75 (lv_at hl 4 rfl) ?_
            exact zr_iret zC zK hG dX4_dated_77 (by unfold rC_dated; rw [if_neg (by omega), hu, show q = σ 0 0 6 by omega]) rfl
          · refine lv_aload_n zC.1 zC.2.1 dX4_dated_29 rfl (lv_at hl 0 rfl) ?_
            refine gf_L_towns zC hG wl_X4_23 dX4_dated_30 ?_
            refine lv_iload zC.1 zC.2.1 dX4_dated_33 (lv_at hl 5 rfl) ?_
            refine gr_To zC hG (by omega) dX4_dated_35 ?_
            refine lv_iload_n zC.1 zC.2.1 dX4_dated_36 rfl (lv_at hl 1 rfl) ?_
            have k37 := hI.2.2.2.2.2.2.1 q (by omega) (by omega)
            obtain ⟨k37a, k37b, k37c, k37d⟩ := id k37
            refine zr_callV zC hG (c_X0_dayOfDate (σ := σ) (i := q) (t := t) (by first | assumption | omega) k37 (by first | assumption | omega)) mt_X0_dayOfDate wl_X4_174 (pCal (by first | assumption | omega)) rfl rfl ⟨by decide, by decide⟩ rfl hl.1 rfl (Nat.le_of_ble_eq_true rfl) dX4_dated_37 ⟨Nat.zero_le _, Nat.zero_le _⟩ (fun H locs hG => ?_)
            refine W.eq (g2 := F0 zm 40 ls [.int (zI (dyD (σ 6 q 0) (σ 6 q 1) (σ 6 q 2) (σ 6 q 3) t))]) rfl ?_
            have b37_0 := dyD_r (k := (σ 6 q 0)) (lp := (σ 6 q 1)) (o := (σ 6 q 2)) (g := (σ 6 q 3)) (t := t) (by omega) (by omega)
            refine lv_istore (lv' := [(6, .int (zI (dyD (σ 6 q 0) (σ 6 q 1) (σ 6 q 2) (σ 6 q 3) t))), (0, .ref (aL Γ)), (1, .int (zI t)), (2, .int (zI a)), (3, .int (zI b)), (4, .int (zI u)), (5, .int (zI q))]) zC.1 zC.2.1 dX4_dated_40 hl (by decide) rfl (fun ls hl => ?_)
            refine lv_iload zC.1 zC.2.1 dX4_dated_42 (lv_at hl 0 rfl) ?_
            refine zr_iconst zC dX4_dated_44 ?_
            refine zr_icmp_eq (tgt := 69) zC dX4_dated_45 (by decide) (by omega) (fun c45 => ?_) (fun c45 => ?_)
            · refine zr_iinc (lv' := [(5, .int (zI (q + 1))), (6, .int (zI (dyD (σ 6 q 0) (σ 6 q 1) (σ 6 q 2) (σ 6 q 3) t))), (0, .ref (aL Γ)), (1, .int (zI t)), (2, .int (zI a)), (3, .int (zI b)), (4, .int (zI u))]) zC dX4_dated_69 hl (k := 6) rfl (by decide) rfl (fun ls hl => ?_)
              refine lv_goto (tgt := 20) zC.1 zC.2.1 dX4_dated_72 (by decide) ?_
              exact ih20 u (q + 1) H locs ls (by first | assumption | omega) (by rw [bts_s hq.1, ← hu]; split <;> omega) (by omega) hG (lv_sub hl [2, 3, 4, 5, 6, 0] rfl)
            · refine lv_iload zC.1 zC.2.1 dX4_dated_48 (lv_at hl 0 rfl) ?_
              refine lv_iload_n zC.1 zC.2.1 dX4_dated_50 rfl (lv_at hl 3 rfl) ?_
              refine zr_icmp_lt (tgt := 69) zC dX4_dated_51 (by decide) (by omega) (fun c51 => ?_) (fun c51 => ?_)
              · refine zr_iinc (lv' := [(5, .int (zI (q + 1))), (6, .int (zI (dyD (σ 6 q 0) (σ 6 q 1) (σ 6 q 2) (σ 6 q 3) t))), (0, .ref (aL Γ)), (1, .int (zI t)), (2, .int (zI a)), (3, .int (zI b)), (4, .int (zI u))]) zC dX4_dated_69 hl (k := 6) rfl (by decide) rfl (fun ls hl => ?_)
                refine lv_goto (tgt := 20) zC.1 zC.2.1 dX4_dated_72 (by decide) ?_
                exact ih20 u (q + 1) H locs ls (by first | assumption | omega) (by rw [bts_s hq.1, ← hu]; split <;> omega) (by omega) hG (lv_sub hl [2, 3, 4, 5, 6, 0] rfl)
              · refine lv_iload zC.1 zC.2.1 dX4_dated_54 (lv_at hl 0 rfl) ?_
                refine lv_iload_n zC.1 zC.2.1 dX4_dated_56 rfl (lv_at hl 4 rfl) ?_
                refine zr_icmp_gt (tgt := 69) zC dX4_dated_57 (by decide) (by omega) (fun c57 => ?_) (fun c57 => ?_)
                · refine zr_iinc (lv' := [(5, .int (zI (q + 1))), (6, .int (zI (dyD (σ 6 q 0) (σ 6 q 1) (σ 6 q 2) (σ 6 q 3) t))), (0, .ref (aL Γ)), (1, .int (zI t)), (2, .int (zI a)), (3, .int (zI b)), (4, .int (zI u))]) zC dX4_dated_69 hl (k := 6) rfl (by decide) rfl (fun ls hl => ?_)
                  refine lv_goto (tgt := 20) zC.1 zC.2.1 dX4_dated_72 (by decide) ?_
                  exact ih20 u (q + 1) H locs ls (by first | assumption | omega) (by rw [bts_s hq.1, ← hu]; split <;> omega) (by omega) hG (lv_sub hl [2, 3, 4, 5, 6, 0] rfl)
                · refine lv_iload zC.1 zC.2.1 dX4_dated_60 (lv_at hl 5 rfl) ?_
                  refine zr_iconst zC dX4_dated_62 ?_
                  refine lv_iload zC.1 zC.2.1 dX4_dated_63 (lv_at hl 6 rfl) ?_
                  refine zr_shl1 zC dX4_dated_65 (by omega) ?_
                  refine zr_ior zC dX4_dated_66 b20 (by omega) ?_
                  refine lv_istore (lv' := [(4, .int (zI (u + 2 ^ q.toNat))), (6, .int (zI (dyD (σ 6 q 0) (σ 6 q 1) (σ 6 q 2) (σ 6 q 3) t))), (0, .ref (aL Γ)), (1, .int (zI t)), (2, .int (zI a)), (3, .int (zI b)), (5, .int (zI q))]) zC.1 zC.2.1 dX4_dated_67 hl (by decide) rfl (fun ls hl => ?_)
                  refine zr_iinc (lv' := [(5, .int (zI (q + 1))), (4, .int (zI (u + 2 ^ q.toNat))), (6, .int (zI (dyD (σ 6 q 0) (σ 6 q 1) (σ 6 q 2) (σ 6 q 3) t))), (0, .ref (aL Γ)), (1, .int (zI t)), (2, .int (zI a)), (3, .int (zI b))]) zC dX4_dated_69 hl (k := 6) rfl (by decide) rfl (fun ls hl => ?_)
                  refine lv_goto (tgt := 20) zC.1 zC.2.1 dX4_dated_72 (by decide) ?_
                  exact ih20 (u + 2 ^ q.toNat) (q + 1) H locs ls (by first | assumption | omega) (by rw [bts_s hq.1, ← hu]; split <;> omega) (by omega) hG (lv_sub hl [3, 4, 5, 6, 1, 0] rfl)
      exact loop20 ((6 - 0 : Int).toNat + 1) 0 0 H locs ls (by first | assumption | omega) rfl (by omega) hG (lv_sub hl [2, 3, 4, 5, 1, 0] rfl)
    · refine zr_iconst zC dX4_dated_12 ?_
      exact zr_iret zC zK hG dX4_dated_13 (by unfold rC_dated; (repeat' split) <;> first | rfl | omega) rfl

set_option maxHeartbeats 4000000 in
set_option maxRecDepth 100000 in
theorem c_X4_eldest {Γ : Gm} {zl : Launch} {A : Nat → Prop} {σ : Mm} {d : Int} (hI : IC σ) (hd : -2147483648 ≤ d ∧ d < 2147483648) : Fn Γ zl A yX4_eldest cX4_eldest 6 (some .int) 5 115 [.ref (aL Γ), .int (zI d)] σ (some (.int (zI (rC_eldest σ d)))) (mC_eldest σ d) := by
  refine Fn_of (by decide) (Nat.le_of_ble_eq_true rfl) ?_
  intro zp ze zs zm args below meth zc zQ H locs ls zC zK hG hl
  have hl : lv_has ls 6 [(0, .ref (aL Γ)), (1, .int (zI d))] := hl
  obtain ⟨hmany, htoday, -⟩ := id hI
  refine lv_iload_n zC.1 zC.2.1 dX4_eldest_0 rfl (lv_at hl 1 rfl) ?_
  refine zr_iconst zC dX4_eldest_1 ?_
  refine lv_aload_n zC.1 zC.2.1 dX4_eldest_2 rfl (lv_at hl 0 rfl) ?_
  refine gf_L_today (v := σ 0 0 7) zC hG wl_X4_46 rfl dX4_eldest_3 ?_
  refine zr_callS zC hG (c_X4_isWithin (σ := σ) (v := d) (a := 0) (b := σ 0 0 7) (by first | assumption | omega) (by first | assumption | omega) (by first | assumption | omega)) mt_X4_isWithin wl_X4_140 ⟨by decide, by decide⟩ rfl hl.1 rfl (Nat.le_of_ble_eq_true rfl) dX4_eldest_6 ⟨Nat.zero_le _, Nat.zero_le _⟩ (fun H locs hG => ?_)
  refine W.eq (g2 := F0 zm 9 ls [.int (zI (zB (0 ≤ d ∧ d ≤ (σ 0 0 7))))]) rfl ?_
  refine zr_ifneB (tgt := 14) zC dX4_eldest_9 (by decide) (fun c9 => ?_) (fun c9 => ?_)
  · refine zr_bipush zC dX4_eldest_14 (by decide +kernel) ?_
    refine lv_istore_n (lv' := [(2, .int (zI (-9))), (0, .ref (aL Γ)), (1, .int (zI d))]) zC.1 zC.2.1 dX4_eldest_16 rfl hl (by decide) rfl (fun ls hl => ?_)
    refine zr_iconst zC dX4_eldest_17 ?_
    refine lv_istore_n (lv' := [(3, .int (zI (-1))), (2, .int (zI (-9))), (0, .ref (aL Γ)), (1, .int (zI d))]) zC.1 zC.2.1 dX4_eldest_18 rfl hl (by decide) rfl (fun ls hl => ?_)
    refine zr_iconst zC dX4_eldest_19 ?_
    refine lv_istore (lv' := [(4, .int (zI 0)), (3, .int (zI (-1))), (2, .int (zI (-9))), (0, .ref (aL Γ)), (1, .int (zI d))]) zC.1 zC.2.1 dX4_eldest_20 hl (by decide) rfl (fun ls hl => ?_)
    have loop22 : ∀ (nf : Nat) (bs u q : Int) (H : Heap) (locs : List Loc) (ls : Array Slot), (0 ≤ q ∧ q ≤ σ 0 0 6) → (u = mxI (fun z => tmA (σ 6 z 0) (σ 6 z 1) (σ 6 z 2) (σ 6 z 3) (dtD (σ 6 z 0) (σ 6 z 1) (σ 6 z 2) (σ 6 z 3) d) (σ 0 0 7)) 0 (q - 0).toNat) → (bs = bsI (fun z => tmA (σ 6 z 0) (σ 6 z 1) (σ 6 z 2) (σ 6 z 3) (dtD (σ 6 z 0) (σ 6 z 1) (σ 6 z 2) (σ 6 z 3) d) (σ 0 0 7)) 0 (-9) (q - 0).toNat) → (6 - q < (nf : Int)) → GM Γ A σ zs H locs → lv_has ls 6 [(0, .ref (aL Γ)), (1, .int (zI d)), (2, .int (zI bs)), (3, .int (zI u)), (4, .int (zI q))] → W zp zl ze { frames := 5, cells := 0, slots := 0, locals := 115 } zs zm args below meth zc H locs 0 0 zQ (F0 zm 22 ls []) := by
      intro nf
      induction nf with
      | zero =>
        intro bs u q H locs ls hq hu hb hm22 _ _
        exact absurd hm22 (by omega)
      | succ nf ih22 =>
        intro bs u q H locs ls hq hu hb hm22 hG hl
        have b22 := mxI_b (f := (fun z => tmA (σ 6 z 0) (σ 6 z 1) (σ 6 z 2) (σ 6 z 3) (dtD (σ 6 z 0) (σ 6 z 1) (σ 6 z 2) (σ 6 z 3) d) (σ 0 0 7))) (a := 0) (m := 300) (n := (q - 0).toNat) (by omega) (fun z h1 h2 => by obtain ⟨g1, g2, g3, g4⟩ := hI.2.2.2.2.2.2.1 z h1 (by omega); exact (tmA_r g2 g4 (dtD_r (by omega) g2 g4).1 (by omega)).2)
        rw [← hu] at b22
        have b22b := bsI_b (f := (fun z => tmA (σ 6 z 0) (σ 6 z 1) (σ 6 z 2) (σ 6 z 3) (dtD (σ 6 z 0) (σ 6 z 1) (σ 6 z 2) (σ 6 z 3) d) (σ 0 0 7))) (a := 0) (b := -9) (m := 6) (n := (q - 0).toNat) (by omega) (by omega) (by omega) (by omega)
        rw [← hb] at b22b
        refine lv_iload zC.1 zC.2.1 dX4_eldest_22 (lv_at hl 4 rfl) ?_
        refine lv_aload_n zC.1 zC.2.1 dX4_eldest_24 rfl (lv_at hl 0 rfl) ?_
        refine gf_L_townCount (v := σ 0 0 6) zC hG wl_X4_42 rfl dX4_eldest_25 ?_
        refine zr_icmp_ge (tgt := 76) zC dX4_eldest_28 (by decide) (by omega) (fun c28 => ?_) (fun c28 => ?_)
        · refine lv_iload_n zC.1 zC.2.1 dX4_eldest_76 rfl (lv_at hl 2 rfl) ?_
          refine zr_bipush zC dX4_eldest_77 (by decide +kernel) ?_
          refine zr_icmp_eq (tgt := 87) zC dX4_eldest_79 (by decide) (by omega) (fun c79 => ?_) (fun c79 => ?_)
          · refine lv_iload_n zC.1 zC.2.1 dX4_eldest_87 rfl (lv_at hl 2 rfl) ?_
            exact zr_iret zC zK hG dX4_eldest_88 (by unfold rC_eldest; rw [if_neg (by omega), hb]; congr 1; omega) (by unfold mC_eldest; rw [if_neg (by omega), show bsI (fun z => tmA (σ 6 z 0) (σ 6 z 1) (σ 6 z 2) (σ 6 z 3) (dtD (σ 6 z 0) (σ 6 z 1) (σ 6 z 2) (σ 6 z 3) d) (σ 0 0 7)) 0 (-9) (σ 0 0 6).toNat = bs from (by rw [hb]; congr 1; omega)]; first | rw [if_pos c79] | (rw [if_neg c79, hu]; congr 2; omega))
          · refine lv_aload_n zC.1 zC.2.1 dX4_eldest_82 rfl (lv_at hl 0 rfl) ?_
            refine lv_iload_n zC.1 zC.2.1 dX4_eldest_83 rfl (lv_at hl 3 rfl) ?_
            refine pf_L_told zC hG wl_X4_49 dX4_eldest_84 (fun H locs hG => ?_)
            refine lv_iload_n zC.1 zC.2.1 dX4_eldest_87 rfl (lv_at hl 2 rfl) ?_
            exact zr_iret zC zK hG dX4_eldest_88 (by unfold rC_eldest; rw [if_neg (by omega), hb]; congr 1; omega) (by unfold mC_eldest; rw [if_neg (by omega), show bsI (fun z => tmA (σ 6 z 0) (σ 6 z 1) (σ 6 z 2) (σ 6 z 3) (dtD (σ 6 z 0) (σ 6 z 1) (σ 6 z 2) (σ 6 z 3) d) (σ 0 0 7)) 0 (-9) (σ 0 0 6).toNat = bs from (by rw [hb]; congr 1; omega)]; first | rw [if_pos c79] | (rw [if_neg c79, hu]; congr 2; omega))
        · refine lv_aload_n zC.1 zC.2.1 dX4_eldest_31 rfl (lv_at hl 0 rfl) ?_
          refine gf_L_towns zC hG wl_X4_23 dX4_eldest_32 ?_
          refine lv_iload zC.1 zC.2.1 dX4_eldest_35 (lv_at hl 4 rfl) ?_
          refine gr_To zC hG (by omega) dX4_eldest_37 ?_
          refine lv_aload_n zC.1 zC.2.1 dX4_eldest_38 rfl (lv_at hl 0 rfl) ?_
          refine gf_L_towns zC hG wl_X4_23 dX4_eldest_39 ?_
          refine lv_iload zC.1 zC.2.1 dX4_eldest_42 (lv_at hl 4 rfl) ?_
          refine gr_To zC hG (by omega) dX4_eldest_44 ?_
          refine lv_iload_n zC.1 zC.2.1 dX4_eldest_45 rfl (lv_at hl 1 rfl) ?_
          have k46 := hI.2.2.2.2.2.2.1 q (by omega) (by omega)
          obtain ⟨k46a, k46b, k46c, k46d⟩ := id k46
          refine zr_callV zC hG (c_X0_dateOn (σ := σ) (i := q) (d := d) (by first | assumption | omega) k46 (by first | assumption | omega)) mt_X0_dateOn wl_X4_171 (pCal (by first | assumption | omega)) rfl rfl ⟨by decide, by decide⟩ rfl hl.1 rfl (Nat.le_of_ble_eq_true rfl) dX4_eldest_46 ⟨Nat.zero_le _, Nat.zero_le _⟩ (fun H locs hG => ?_)
          refine W.eq (g2 := F0 zm 49 ls [.int (zI (dtD (σ 6 q 0) (σ 6 q 1) (σ 6 q 2) (σ 6 q 3) d)), .ref (aCal Γ q)]) rfl ?_
          have b46_0 := dtD_r (k := (σ 6 q 0)) (lp := (σ 6 q 1)) (o := (σ 6 q 2)) (g := (σ 6 q 3)) (d := d) (by omega) (by omega) (by omega)
          refine lv_aload_n zC.1 zC.2.1 dX4_eldest_49 rfl (lv_at hl 0 rfl) ?_
          refine gf_L_today (v := σ 0 0 7) zC hG wl_X4_46 rfl dX4_eldest_50 ?_
          have k53 := hI.2.2.2.2.2.2.1 q (by omega) (by omega)
          obtain ⟨k53a, k53b, k53c, k53d⟩ := id k53
          refine zr_callV zC hG (c_X0_timesAgain (σ := σ) (i := q) (t := dtD (σ 6 q 0) (σ 6 q 1) (σ 6 q 2) (σ 6 q 3) d) (td := σ 0 0 7) (by first | assumption | omega) k53 (by first | assumption | omega) (by first | assumption | omega)) mt_X0_timesAgain wl_X4_200 (pCal (by first | assumption | omega)) rfl rfl ⟨by decide, by decide⟩ rfl hl.1 rfl (Nat.le_of_ble_eq_true rfl) dX4_eldest_53 ⟨Nat.zero_le _, Nat.zero_le _⟩ (fun H locs hG => ?_)
          refine W.eq (g2 := F0 zm 56 ls [.int (zI (tmA (σ 6 q 0) (σ 6 q 1) (σ 6 q 2) (σ 6 q 3) (dtD (σ 6 q 0) (σ 6 q 1) (σ 6 q 2) (σ 6 q 3) d) (σ 0 0 7)))]) rfl ?_
          have b53_0 := tmA_r (k := (σ 6 q 0)) (lp := (σ 6 q 1)) (o := (σ 6 q 2)) (g := (σ 6 q 3)) (t := (dtD (σ 6 q 0) (σ 6 q 1) (σ 6 q 2) (σ 6 q 3) d)) (td := (σ 0 0 7)) (by omega) (by omega) (by omega) (by omega)
          refine lv_istore (lv' := [(5, .int (zI (tmA (σ 6 q 0) (σ 6 q 1) (σ 6 q 2) (σ 6 q 3) (dtD (σ 6 q 0) (σ 6 q 1) (σ 6 q 2) (σ 6 q 3) d) (σ 0 0 7)))), (0, .ref (aL Γ)), (1, .int (zI d)), (2, .int (zI bs)), (3, .int (zI u)), (4, .int (zI q))]) zC.1 zC.2.1 dX4_eldest_56 hl (by decide) rfl (fun ls hl => ?_)
          refine lv_iload zC.1 zC.2.1 dX4_eldest_58 (lv_at hl 0 rfl) ?_
          refine lv_iload_n zC.1 zC.2.1 dX4_eldest_60 rfl (lv_at hl 4 rfl) ?_
          refine zr_icmp_le (tgt := 70) zC dX4_eldest_61 (by decide) (by omega) (fun c61 => ?_) (fun c61 => ?_)
          · refine zr_iinc (lv' := [(4, .int (zI (q + 1))), (5, .int (zI (tmA (σ 6 q 0) (σ 6 q 1) (σ 6 q 2) (σ 6 q 3) (dtD (σ 6 q 0) (σ 6 q 1) (σ 6 q 2) (σ 6 q 3) d) (σ 0 0 7)))), (0, .ref (aL Γ)), (1, .int (zI d)), (2, .int (zI bs)), (3, .int (zI u))]) zC dX4_eldest_70 hl (k := 5) rfl (by decide) rfl (fun ls hl => ?_)
            refine lv_goto (tgt := 22) zC.1 zC.2.1 dX4_eldest_73 (by decide) ?_
            exact ih22 bs u (q + 1) H locs ls (by first | assumption | omega) (by rw [mxI_s hq.1, ← hu]; omega) (by rw [bsI_s hq.1, ← hu, ← hb]; split <;> omega) (by omega) hG (lv_sub hl [2, 3, 4, 5, 0] rfl)
          · refine lv_iload zC.1 zC.2.1 dX4_eldest_64 (lv_at hl 0 rfl) ?_
            refine lv_istore_n (lv' := [(3, .int (zI (tmA (σ 6 q 0) (σ 6 q 1) (σ 6 q 2) (σ 6 q 3) (dtD (σ 6 q 0) (σ 6 q 1) (σ 6 q 2) (σ 6 q 3) d) (σ 0 0 7)))), (5, .int (zI (tmA (σ 6 q 0) (σ 6 q 1) (σ 6 q 2) (σ 6 q 3) (dtD (σ 6 q 0) (σ 6 q 1) (σ 6 q 2) (σ 6 q 3) d) (σ 0 0 7)))), (0, .ref (aL Γ)), (1, .int (zI d)), (2, .int (zI bs)), (4, .int (zI q))]) zC.1 zC.2.1 dX4_eldest_66 rfl hl (by decide) rfl (fun ls hl => ?_)
            refine lv_iload zC.1 zC.2.1 dX4_eldest_67 (lv_at hl 5 rfl) ?_
            refine lv_istore_n (lv' := [(2, .int (zI q)), (3, .int (zI (tmA (σ 6 q 0) (σ 6 q 1) (σ 6 q 2) (σ 6 q 3) (dtD (σ 6 q 0) (σ 6 q 1) (σ 6 q 2) (σ 6 q 3) d) (σ 0 0 7)))), (5, .int (zI (tmA (σ 6 q 0) (σ 6 q 1) (σ 6 q 2) (σ 6 q 3) (dtD (σ 6 q 0) (σ 6 q 1) (σ 6 q 2) (σ 6 q 3) d) (σ 0 0 7)))), (0, .ref (aL Γ)), (1, .int (zI d)), (4, .int (zI q))]) zC.1 zC.2.1 dX4_eldest_69 rfl hl (by decide) rfl (fun ls hl => ?_)
            refine zr_iinc (lv' := [(4, .int (zI (q + 1))), (2, .int (zI q)), (3, .int (zI (tmA (σ 6 q 0) (σ 6 q 1) (σ 6 q 2) (σ 6 q 3) (dtD (σ 6 q 0) (σ 6 q 1) (σ 6 q 2) (σ 6 q 3) d) (σ 0 0 7)))), (5, .int (zI (tmA (σ 6 q 0) (σ 6 q 1) (σ 6 q 2) (σ 6 q 3) (dtD (σ 6 q 0) (σ 6 q 1) (σ 6 q 2) (σ 6 q 3) d) (σ 0 0 7)))), (0, .ref (aL Γ)), (1, .int (zI d))]) zC dX4_eldest_70 hl (k := 5) rfl (by decide) rfl (fun ls hl => ?_)
            refine lv_goto (tgt := 22) zC.1 zC.2.1 dX4_eldest_73 (by decide) ?_
            exact ih22 q (tmA (σ 6 q 0) (σ 6 q 1) (σ 6 q 2) (σ 6 q 3) (dtD (σ 6 q 0) (σ 6 q 1) (σ 6 q 2) (σ 6 q 3) d) (σ 0 0 7)) (q + 1) H locs ls (by first | assumption | omega) (by rw [mxI_s hq.1, ← hu]; omega) (by rw [bsI_s hq.1, ← hu, ← hb]; split <;> omega) (by omega) hG (lv_sub hl [4, 5, 1, 2, 0] rfl)
    exact loop22 ((6 - 0 : Int).toNat + 1) (-9) (-1) 0 H locs ls (by first | assumption | omega) rfl rfl (by omega) hG (lv_sub hl [3, 4, 2, 1, 0] rfl)
  · refine zr_iconst zC dX4_eldest_12 ?_
    exact zr_iret zC zK hG dX4_eldest_13 (by unfold rC_eldest; (repeat' split) <;> first | rfl | omega) (by unfold mC_eldest; (repeat' split) <;> first | rfl | (exfalso; omega))

set_option maxHeartbeats 4000000 in
set_option maxRecDepth 100000 in
theorem c_X4_feastOf {Γ : Gm} {zl : Launch} {A : Nat → Prop} {σ : Mm} {i y : Int} (hi : 0 ≤ i ∧ i < 6) (ho : CalOK σ i) (hy : 0 ≤ y ∧ y ≤ 150) : Fn Γ zl A yX4_feastOf cX4_feastOf 5 (some .int) 4 88 [.ref (aCal Γ i), .int (zI y)] σ (some (.int (zI (fea (σ 6 i 0) (σ 6 i 1) (σ 6 i 2) (σ 6 i 3) y)))) σ := by
  refine Fn_of (by decide) (Nat.le_of_ble_eq_true rfl) ?_
  intro zp ze zs zm args below meth zc zQ H locs ls zC zK hG hl
  have hl : lv_has ls 5 [(0, .ref (aCal Γ i)), (1, .int (zI y))] := hl
  obtain ⟨hk, hlp, hod, hgp⟩ := id ho
  refine zr_bipush zC dX4_feastOf_0 (by decide +kernel) ?_
  refine lv_istore_n (lv' := [(2, .int (zI 20)), (0, .ref (aCal Γ i)), (1, .int (zI y))]) zC.1 zC.2.1 dX4_feastOf_2 rfl hl (by decide) rfl (fun ls hl => ?_)
  have b3 := lenY_r (σ 6 i 0) (σ 6 i 1) y
  have loop3 : ∀ (nf : Nat) (q : Int) (H : Heap) (locs : List Loc) (ls : Array Slot), (20 ≤ q ∧ q ≤ lenY (σ 6 i 0) (σ 6 i 1) y) → (∀ z, 20 ≤ z → z < q → ¬ feP (σ 6 i 0) (σ 6 i 1) (σ 6 i 2) (σ 6 i 3) y z) → (102 - q < (nf : Int)) → GM Γ A σ zs H locs → lv_has ls 5 [(0, .ref (aCal Γ i)), (1, .int (zI y)), (2, .int (zI q))] → W zp zl ze { frames := 4, cells := 0, slots := 0, locals := 88 } zs zm args below meth zc H locs 0 0 zQ (F0 zm 3 ls []) := by
    intro nf
    induction nf with
    | zero =>
      intro q H locs ls hq hz hm3 _ _
      exact absurd hm3 (by omega)
    | succ nf ih3 =>
      intro q H locs ls hq hz hm3 hG hl
      refine lv_iload_n zC.1 zC.2.1 dX4_feastOf_3 rfl (lv_at hl 2 rfl) ?_
      refine lv_aload_n zC.1 zC.2.1 dX4_feastOf_4 rfl (lv_at hl 0 rfl) ?_
      refine lv_iload_n zC.1 zC.2.1 dX4_feastOf_5 rfl (lv_at hl 1 rfl) ?_
      refine zr_callV zC hG (c_X0_lengthOf (σ := σ) (i := i) (y := y) (by first | assumption | omega) (by first | assumption | omega) (by first | assumption | omega)) mt_X0_lengthOf wl_X4_177 (pCal (by first | assumption | omega)) rfl rfl ⟨by decide, by decide⟩ rfl hl.1 rfl (Nat.le_of_ble_eq_true rfl) dX4_feastOf_6 ⟨Nat.zero_le _, Nat.zero_le _⟩ (fun H locs hG => ?_)
      refine W.eq (g2 := F0 zm 9 ls [.int (zI (lenY (σ 6 i 0) (σ 6 i 1) y)), .int (zI q)]) rfl ?_
      have b6_0 := lenY_r (σ 6 i 0) (σ 6 i 1) y
      refine zr_icmp_ge (tgt := 59) zC dX4_feastOf_9 (by decide) (by omega) (fun c9 => ?_) (fun c9 => ?_)
      · refine zr_bipush zC dX4_feastOf_59 (by decide +kernel) ?_
        exact zr_iret zC zK hG dX4_feastOf_61 (by have e9 : feF (σ 6 i 0) (σ 6 i 1) (σ 6 i 2) (σ 6 i 3) y = -9 := fstI_no (fun z h1 h2 => hz z h1 (by omega)); unfold fea; rw [e9, if_pos rfl]) rfl
      · refine lv_aload_n zC.1 zC.2.1 dX4_feastOf_12 rfl (lv_at hl 0 rfl) ?_
        refine zr_sipush zC dX4_feastOf_13 (by decide +kernel) ?_
        refine lv_iload_n zC.1 zC.2.1 dX4_feastOf_16 rfl (lv_at hl 1 rfl) ?_
        refine zr_imul zC dX4_feastOf_17 ?_
        refine lv_iload_n zC.1 zC.2.1 dX4_feastOf_18 rfl (lv_at hl 2 rfl) ?_
        refine zr_iadd zC dX4_feastOf_19 ?_
        refine zr_callV zC hG (c_X0_dayOfDate (σ := σ) (i := i) (t := (1000 * y) + q) (by first | assumption | omega) (by first | assumption | omega) (by first | assumption | omega)) mt_X0_dayOfDate wl_X4_174 (pCal (by first | assumption | omega)) rfl rfl ⟨by decide, by decide⟩ rfl hl.1 rfl (Nat.le_of_ble_eq_true rfl) dX4_feastOf_20 ⟨Nat.zero_le _, Nat.zero_le _⟩ (fun H locs hG => ?_)
        refine W.eq (g2 := F0 zm 23 ls [.int (zI (dyD (σ 6 i 0) (σ 6 i 1) (σ 6 i 2) (σ 6 i 3) ((1000 * y) + q)))]) rfl ?_
        have b20_0 := dyD_r (k := (σ 6 i 0)) (lp := (σ 6 i 1)) (o := (σ 6 i 2)) (g := (σ 6 i 3)) (t := ((1000 * y) + q)) (by omega) (by omega)
        refine lv_istore_n (lv' := [(3, .int (zI (dyD (σ 6 i 0) (σ 6 i 1) (σ 6 i 2) (σ 6 i 3) ((1000 * y) + q)))), (0, .ref (aCal Γ i)), (1, .int (zI y)), (2, .int (zI q))]) zC.1 zC.2.1 dX4_feastOf_23 rfl hl (by decide) rfl (fun ls hl => ?_)
        refine lv_iload_n zC.1 zC.2.1 dX4_feastOf_24 rfl (lv_at hl 0 rfl) ?_
        refine zr_iconst zC dX4_feastOf_25 ?_
        refine zr_icmp_eq (tgt := 53) zC dX4_feastOf_26 (by decide) (by omega) (fun c26 => ?_) (fun c26 => ?_)
        · refine zr_iinc (lv' := [(2, .int (zI (q + 1))), (3, .int (zI (dyD (σ 6 i 0) (σ 6 i 1) (σ 6 i 2) (σ 6 i 3) ((1000 * y) + q)))), (0, .ref (aCal Γ i)), (1, .int (zI y))]) zC dX4_feastOf_53 hl (k := 3) rfl (by decide) rfl (fun ls hl => ?_)
          refine lv_goto (tgt := 3) zC.1 zC.2.1 dX4_feastOf_56 (by decide) ?_
          exact ih3 (q + 1) H locs ls (by first | assumption | omega) (fun z h1 h2 => by by_cases w : z < q; exact hz z h1 w; exact (show z = q by omega) ▸ fun w2 => w2 c26) (by omega) hG (lv_sub hl [2, 3, 0] rfl)
        · refine lv_iload_n zC.1 zC.2.1 dX4_feastOf_29 rfl (lv_at hl 0 rfl) ?_
          refine lv_iload_n zC.1 zC.2.1 dX4_feastOf_30 rfl (lv_at hl 0 rfl) ?_
          refine zr_callS zC hG (c_X4_daysTillFull (σ := σ) (d := dyD (σ 6 i 0) (σ 6 i 1) (σ 6 i 2) (σ 6 i 3) ((1000 * y) + q)) (by first | assumption | omega)) mt_X4_daysTillFull wl_X4_265 ⟨by decide, by decide⟩ rfl hl.1 rfl (Nat.le_of_ble_eq_true rfl) dX4_feastOf_31 ⟨Nat.zero_le _, Nat.zero_le _⟩ (fun H locs hG => ?_)
          refine W.eq (g2 := F0 zm 34 ls [.int (zI (tlF (dyD (σ 6 i 0) (σ 6 i 1) (σ 6 i 2) (σ 6 i 3) ((1000 * y) + q)))), .int (zI (dyD (σ 6 i 0) (σ 6 i 1) (σ 6 i 2) (σ 6 i 3) ((1000 * y) + q)))]) rfl ?_
          have b31_0 := tlF_r (d := (dyD (σ 6 i 0) (σ 6 i 1) (σ 6 i 2) (σ 6 i 3) ((1000 * y) + q))) (by omega)
          refine zr_iadd zC dX4_feastOf_34 ?_
          refine lv_istore (lv' := [(4, .int (zI ((dyD (σ 6 i 0) (σ 6 i 1) (σ 6 i 2) (σ 6 i 3) ((1000 * y) + q)) + (tlF (dyD (σ 6 i 0) (σ 6 i 1) (σ 6 i 2) (σ 6 i 3) ((1000 * y) + q)))))), (3, .int (zI (dyD (σ 6 i 0) (σ 6 i 1) (σ 6 i 2) (σ 6 i 3) ((1000 * y) + q)))), (0, .ref (aCal Γ i)), (1, .int (zI y)), (2, .int (zI q))]) zC.1 zC.2.1 dX4_feastOf_35 hl (by decide) rfl (fun ls hl => ?_)
          refine lv_iload zC.1 zC.2.1 dX4_feastOf_37 (lv_at hl 0 rfl) ?_
          refine zr_sipush zC dX4_feastOf_39 (by decide +kernel) ?_
          refine zr_icmp_gt (tgt := 50) zC dX4_feastOf_42 (by decide) (by omega) (fun c42 => ?_) (fun c42 => ?_)
          · refine zr_bipush zC dX4_feastOf_50 (by decide +kernel) ?_
            exact zr_iret zC zK hG dX4_feastOf_52 (by have e9 : feF (σ 6 i 0) (σ 6 i 1) (σ 6 i 2) (σ 6 i 3) y = q := fstI_yes (by omega) hq.1 c26 hz (by omega); unfold fea feD; rw [e9, if_neg (by omega)]; first | rw [if_pos (by omega)] | rw [if_neg (by omega)]) rfl
          · refine lv_iload zC.1 zC.2.1 dX4_feastOf_45 (lv_at hl 0 rfl) ?_
            refine lv_goto (tgt := 52) zC.1 zC.2.1 dX4_feastOf_47 (by decide) ?_
            exact zr_iret zC zK hG dX4_feastOf_52 (by have e9 : feF (σ 6 i 0) (σ 6 i 1) (σ 6 i 2) (σ 6 i 3) y = q := fstI_yes (by omega) hq.1 c26 hz (by omega); unfold fea feD; rw [e9, if_neg (by omega)]; first | rw [if_pos (by omega)] | rw [if_neg (by omega)]) rfl
  exact loop3 ((102 - 20 : Int).toNat + 1) 20 H locs ls (by first | assumption | omega) (fun z h1 h2 => by omega) (by omega) hG (lv_sub hl [1, 2, 0] rfl)

set_option maxHeartbeats 4000000 in
set_option maxRecDepth 100000 in
theorem c_X4_feast {Γ : Gm} {zl : Launch} {A : Nat → Prop} {σ : Mm} {c y : Int} (hI : IC σ) (hc : -2147483648 ≤ c ∧ c < 2147483648) (hy : -2147483648 ≤ y ∧ y < 2147483648) : Fn Γ zl A yX4_feast cX4_feast 3 (some .int) 5 112 [.ref (aL Γ), .int (zI c), .int (zI y)] σ (some (.int (zI (rC_feast σ c y)))) σ := by
  refine Fn_of (by decide) (Nat.le_of_ble_eq_true rfl) ?_
  intro zp ze zs zm args below meth zc zQ H locs ls zC zK hG hl
  have hl : lv_has ls 3 [(0, .ref (aL Γ)), (1, .int (zI c)), (2, .int (zI y))] := hl
  obtain ⟨hmany, htoday, -⟩ := id hI
  refine lv_aload_n zC.1 zC.2.1 dX4_feast_0 rfl (lv_at hl 0 rfl) ?_
  refine lv_iload_n zC.1 zC.2.1 dX4_feast_1 rfl (lv_at hl 1 rfl) ?_
  refine zr_callV zC hG (c_X4_isTown (σ := σ) (c := c) hI (by first | assumption | omega)) mt_X4_isTown wl_X4_128 pL rfl rfl ⟨by decide, by decide⟩ rfl hl.1 rfl (Nat.le_of_ble_eq_true rfl) dX4_feast_2 ⟨Nat.zero_le _, Nat.zero_le _⟩ (fun H locs hG => ?_)
  refine W.eq (g2 := F0 zm 5 ls [.int (zI (zB (isT σ c)))]) rfl ?_
  refine zr_ifeqB (tgt := 28) zC dX4_feast_5 (by decide) (fun c5 => ?_) (fun c5 => ?_)
  · refine zr_iconst zC dX4_feast_28 ?_
    exact zr_iret zC zK hG dX4_feast_29 (by unfold rC_feast; (repeat' split) <;> first | rfl | omega) rfl
  · refine lv_iload_n zC.1 zC.2.1 dX4_feast_8 rfl (lv_at hl 2 rfl) ?_
    refine zr_callS zC hG (c_X4_isFeastYear (σ := σ) (v := y) (by first | assumption | omega)) mt_X4_isFeastYear wl_X4_268 ⟨by decide, by decide⟩ rfl hl.1 rfl (Nat.le_of_ble_eq_true rfl) dX4_feast_9 ⟨Nat.zero_le _, Nat.zero_le _⟩ (fun H locs hG => ?_)
    refine W.eq (g2 := F0 zm 12 ls [.int (zI (zB (0 ≤ y ∧ y ≤ 150)))]) rfl ?_
    refine zr_ifeqB (tgt := 28) zC dX4_feast_12 (by decide) (fun c12 => ?_) (fun c12 => ?_)
    · refine zr_iconst zC dX4_feast_28 ?_
      exact zr_iret zC zK hG dX4_feast_29 (by unfold rC_feast; (repeat' split) <;> first | rfl | omega) rfl
    · refine lv_aload_n zC.1 zC.2.1 dX4_feast_15 rfl (lv_at hl 0 rfl) ?_
      refine gf_L_towns zC hG wl_X4_23 dX4_feast_16 ?_
      refine lv_iload_n zC.1 zC.2.1 dX4_feast_19 rfl (lv_at hl 1 rfl) ?_
      refine gr_To zC hG (by omega) dX4_feast_20 ?_
      refine lv_iload_n zC.1 zC.2.1 dX4_feast_21 rfl (lv_at hl 2 rfl) ?_
      have k22 := hI.2.2.2.2.2.2.1 c (by omega) (by omega)
      obtain ⟨k22a, k22b, k22c, k22d⟩ := id k22
      refine zr_callS zC hG (c_X4_feastOf (σ := σ) (i := c) (y := y) (by first | assumption | omega) k22 (by first | assumption | omega)) mt_X4_feastOf wl_X4_271 ⟨by decide, by decide⟩ rfl hl.1 rfl (Nat.le_of_ble_eq_true rfl) dX4_feast_22 ⟨Nat.zero_le _, Nat.zero_le _⟩ (fun H locs hG => ?_)
      refine W.eq (g2 := F0 zm 25 ls [.int (zI (fea (σ 6 c 0) (σ 6 c 1) (σ 6 c 2) (σ 6 c 3) y))]) rfl ?_
      have b22_0 := fea_r (k := (σ 6 c 0)) (lp := (σ 6 c 1)) (o := (σ 6 c 2)) (g := (σ 6 c 3)) (y := y) (by omega) (by omega)
      refine lv_goto (tgt := 29) zC.1 zC.2.1 dX4_feast_25 (by decide) ?_
      exact zr_iret zC zK hG dX4_feast_29 (by unfold rC_feast; (repeat' split) <;> first | rfl | omega) rfl

set_option maxHeartbeats 4000000 in
set_option maxRecDepth 100000 in
theorem c_X4_together {Γ : Gm} {zl : Launch} {A : Nat → Prop} {σ : Mm} {c d a b : Int} (hI : IC σ) (hc : -2147483648 ≤ c ∧ c < 2147483648) (hd : -2147483648 ≤ d ∧ d < 2147483648) (ha : -2147483648 ≤ a ∧ a < 2147483648) (hb : -2147483648 ≤ b ∧ b < 2147483648) : Fn Γ zl A yX4_together cX4_together 8 (some .int) 5 112 [.ref (aL Γ), .int (zI c), .int (zI d), .int (zI a), .int (zI b)] σ (some (.int (zI (rC_together σ c d a b)))) σ := by
  refine Fn_of (by decide) (Nat.le_of_ble_eq_true rfl) ?_
  intro zp ze zs zm args below meth zc zQ H locs ls zC zK hG hl
  have hl : lv_has ls 8 [(0, .ref (aL Γ)), (1, .int (zI c)), (2, .int (zI d)), (3, .int (zI a)), (4, .int (zI b))] := hl
  obtain ⟨hmany, htoday, -⟩ := id hI
  refine lv_aload_n zC.1 zC.2.1 dX4_together_0 rfl (lv_at hl 0 rfl) ?_
  refine lv_iload_n zC.1 zC.2.1 dX4_together_1 rfl (lv_at hl 1 rfl) ?_
  refine zr_callV zC hG (c_X4_isTown (σ := σ) (c := c) hI (by first | assumption | omega)) mt_X4_isTown wl_X4_128 pL rfl rfl ⟨by decide, by decide⟩ rfl hl.1 rfl (Nat.le_of_ble_eq_true rfl) dX4_together_2 ⟨Nat.zero_le _, Nat.zero_le _⟩ (fun H locs hG => ?_)
  refine W.eq (g2 := F0 zm 5 ls [.int (zI (zB (isT σ c)))]) rfl ?_
  refine zr_ifeqB (tgt := 37) zC dX4_together_5 (by decide) (fun c5 => ?_) (fun c5 => ?_)
  · refine zr_iconst zC dX4_together_37 ?_
    exact zr_iret zC zK hG dX4_together_38 (by unfold rC_together; (repeat' split) <;> first | rfl | omega) rfl
  · refine lv_aload_n zC.1 zC.2.1 dX4_together_8 rfl (lv_at hl 0 rfl) ?_
    refine lv_iload_n zC.1 zC.2.1 dX4_together_9 rfl (lv_at hl 2 rfl) ?_
    refine zr_callV zC hG (c_X4_isTown (σ := σ) (c := d) hI (by first | assumption | omega)) mt_X4_isTown wl_X4_128 pL rfl rfl ⟨by decide, by decide⟩ rfl hl.1 rfl (Nat.le_of_ble_eq_true rfl) dX4_together_10 ⟨Nat.zero_le _, Nat.zero_le _⟩ (fun H locs hG => ?_)
    refine W.eq (g2 := F0 zm 13 ls [.int (zI (zB (isT σ d)))]) rfl ?_
    refine zr_ifeqB (tgt := 37) zC dX4_together_13 (by decide) (fun c13 => ?_) (fun c13 => ?_)
    · refine zr_iconst zC dX4_together_37 ?_
      exact zr_iret zC zK hG dX4_together_38 (by unfold rC_together; (repeat' split) <;> first | rfl | omega) rfl
    · refine lv_iload_n zC.1 zC.2.1 dX4_together_16 rfl (lv_at hl 3 rfl) ?_
      refine zr_callS zC hG (c_X4_isFeastYear (σ := σ) (v := a) (by first | assumption | omega)) mt_X4_isFeastYear wl_X4_268 ⟨by decide, by decide⟩ rfl hl.1 rfl (Nat.le_of_ble_eq_true rfl) dX4_together_17 ⟨Nat.zero_le _, Nat.zero_le _⟩ (fun H locs hG => ?_)
      refine W.eq (g2 := F0 zm 20 ls [.int (zI (zB (0 ≤ a ∧ a ≤ 150)))]) rfl ?_
      refine zr_ifeqB (tgt := 37) zC dX4_together_20 (by decide) (fun c20 => ?_) (fun c20 => ?_)
      · refine zr_iconst zC dX4_together_37 ?_
        exact zr_iret zC zK hG dX4_together_38 (by unfold rC_together; (repeat' split) <;> first | rfl | omega) rfl
      · refine lv_iload zC.1 zC.2.1 dX4_together_23 (lv_at hl 4 rfl) ?_
        refine zr_callS zC hG (c_X4_isFeastYear (σ := σ) (v := b) (by first | assumption | omega)) mt_X4_isFeastYear wl_X4_268 ⟨by decide, by decide⟩ rfl hl.1 rfl (Nat.le_of_ble_eq_true rfl) dX4_together_25 ⟨Nat.zero_le _, Nat.zero_le _⟩ (fun H locs hG => ?_)
        refine W.eq (g2 := F0 zm 28 ls [.int (zI (zB (0 ≤ b ∧ b ≤ 150)))]) rfl ?_
        refine zr_ifeqB (tgt := 37) zC dX4_together_28 (by decide) (fun c28 => ?_) (fun c28 => ?_)
        · refine zr_iconst zC dX4_together_37 ?_
          exact zr_iret zC zK hG dX4_together_38 (by unfold rC_together; (repeat' split) <;> first | rfl | omega) rfl
        · refine lv_iload zC.1 zC.2.1 dX4_together_31 (lv_at hl 4 rfl) ?_
          refine lv_iload_n zC.1 zC.2.1 dX4_together_33 rfl (lv_at hl 3 rfl) ?_
          refine zr_icmp_ge (tgt := 39) zC dX4_together_34 (by decide) (by omega) (fun c34 => ?_) (fun c34 => ?_)
          · refine zr_iconst zC dX4_together_39 ?_
            refine lv_istore (lv' := [(5, .int (zI 0)), (0, .ref (aL Γ)), (1, .int (zI c)), (2, .int (zI d)), (3, .int (zI a)), (4, .int (zI b))]) zC.1 zC.2.1 dX4_together_40 hl (by decide) rfl (fun ls hl => ?_)
            refine lv_iload_n zC.1 zC.2.1 dX4_together_42 rfl (lv_at hl 4 rfl) ?_
            refine lv_istore (lv' := [(6, .int (zI a)), (5, .int (zI 0)), (0, .ref (aL Γ)), (1, .int (zI c)), (2, .int (zI d)), (3, .int (zI a)), (4, .int (zI b))]) zC.1 zC.2.1 dX4_together_43 hl (by decide) rfl (fun ls hl => ?_)
            have loop45 : ∀ (nf : Nat) (u y : Int) (H : Heap) (locs : List Loc) (ls : Array Slot), (a ≤ y ∧ y ≤ b + 1) → (u = ctI (fun z => fea (σ 6 c 0) (σ 6 c 1) (σ 6 c 2) (σ 6 c 3) z ≠ -9 ∧ fea (σ 6 c 0) (σ 6 c 1) (σ 6 c 2) (σ 6 c 3) z = fea (σ 6 d 0) (σ 6 d 1) (σ 6 d 2) (σ 6 d 3) z) a (y - a).toNat) → (b + 1 - y < (nf : Int)) → GM Γ A σ zs H locs → lv_has ls 8 [(0, .ref (aL Γ)), (1, .int (zI c)), (2, .int (zI d)), (3, .int (zI a)), (4, .int (zI b)), (5, .int (zI u)), (6, .int (zI y))] → W zp zl ze { frames := 5, cells := 0, slots := 0, locals := 112 } zs zm args below meth zc H locs 0 0 zQ (F0 zm 45 ls []) := by
              intro nf
              induction nf with
              | zero =>
                intro u y H locs ls hy hu hm45 _ _
                exact absurd hm45 (by omega)
              | succ nf ih45 =>
                intro u y H locs ls hy hu hm45 hG hl
                refine lv_iload zC.1 zC.2.1 dX4_together_45 (lv_at hl 6 rfl) ?_
                refine lv_iload zC.1 zC.2.1 dX4_together_47 (lv_at hl 4 rfl) ?_
                refine zr_icmp_gt (tgt := 97) zC dX4_together_49 (by decide) (by omega) (fun c49 => ?_) (fun c49 => ?_)
                · refine lv_iload zC.1 zC.2.1 dX4_together_97 (lv_at hl 5 rfl) ?_
                  exact zr_iret zC zK hG dX4_together_99 (by unfold rC_together; rw [if_neg (by omega), hu]; congr 1; omega) rfl
                · refine lv_aload_n zC.1 zC.2.1 dX4_together_52 rfl (lv_at hl 0 rfl) ?_
                  refine gf_L_towns zC hG wl_X4_23 dX4_together_53 ?_
                  refine lv_iload_n zC.1 zC.2.1 dX4_together_56 rfl (lv_at hl 1 rfl) ?_
                  refine gr_To zC hG (by omega) dX4_together_57 ?_
                  refine lv_iload zC.1 zC.2.1 dX4_together_58 (lv_at hl 6 rfl) ?_
                  have k60 := hI.2.2.2.2.2.2.1 c (by omega) (by omega)
                  obtain ⟨k60a, k60b, k60c, k60d⟩ := id k60
                  refine zr_callS zC hG (c_X4_feastOf (σ := σ) (i := c) (y := y) (by first | assumption | omega) k60 (by first | assumption | omega)) mt_X4_feastOf wl_X4_271 ⟨by decide, by decide⟩ rfl hl.1 rfl (Nat.le_of_ble_eq_true rfl) dX4_together_60 ⟨Nat.zero_le _, Nat.zero_le _⟩ (fun H locs hG => ?_)
                  refine W.eq (g2 := F0 zm 63 ls [.int (zI (fea (σ 6 c 0) (σ 6 c 1) (σ 6 c 2) (σ 6 c 3) y))]) rfl ?_
                  have b60_0 := fea_r (k := (σ 6 c 0)) (lp := (σ 6 c 1)) (o := (σ 6 c 2)) (g := (σ 6 c 3)) (y := y) (by omega) (by omega)
                  refine lv_istore (lv' := [(7, .int (zI (fea (σ 6 c 0) (σ 6 c 1) (σ 6 c 2) (σ 6 c 3) y))), (0, .ref (aL Γ)), (1, .int (zI c)), (2, .int (zI d)), (3, .int (zI a)), (4, .int (zI b)), (5, .int (zI u)), (6, .int (zI y))]) zC.1 zC.2.1 dX4_together_63 hl (by decide) rfl (fun ls hl => ?_)
                  refine lv_iload zC.1 zC.2.1 dX4_together_65 (lv_at hl 0 rfl) ?_
                  refine zr_bipush zC dX4_together_67 (by decide +kernel) ?_
                  refine zr_icmp_eq (tgt := 91) zC dX4_together_69 (by decide) (by omega) (fun c69 => ?_) (fun c69 => ?_)
                  · refine zr_iinc (lv' := [(6, .int (zI (y + 1))), (7, .int (zI (fea (σ 6 c 0) (σ 6 c 1) (σ 6 c 2) (σ 6 c 3) y))), (0, .ref (aL Γ)), (1, .int (zI c)), (2, .int (zI d)), (3, .int (zI a)), (4, .int (zI b)), (5, .int (zI u))]) zC dX4_together_91 hl (k := 7) rfl (by decide) rfl (fun ls hl => ?_)
                    refine lv_goto (tgt := 45) zC.1 zC.2.1 dX4_together_94 (by decide) ?_
                    exact ih45 u (y + 1) H locs ls (by first | assumption | omega) (by rw [ctI_s hy.1, ← hu]; unfold zB; split <;> omega) (by omega) hG (lv_sub hl [2, 3, 4, 5, 6, 7, 0] rfl)
                  · refine lv_iload zC.1 zC.2.1 dX4_together_72 (lv_at hl 0 rfl) ?_
                    refine lv_aload_n zC.1 zC.2.1 dX4_together_74 rfl (lv_at hl 1 rfl) ?_
                    refine gf_L_towns zC hG wl_X4_23 dX4_together_75 ?_
                    refine lv_iload_n zC.1 zC.2.1 dX4_together_78 rfl (lv_at hl 3 rfl) ?_
                    refine gr_To zC hG (by omega) dX4_together_79 ?_
                    refine lv_iload zC.1 zC.2.1 dX4_together_80 (lv_at hl 7 rfl) ?_
                    have k82 := hI.2.2.2.2.2.2.1 d (by omega) (by omega)
                    obtain ⟨k82a, k82b, k82c, k82d⟩ := id k82
                    refine zr_callS zC hG (c_X4_feastOf (σ := σ) (i := d) (y := y) (by first | assumption | omega) k82 (by first | assumption | omega)) mt_X4_feastOf wl_X4_271 ⟨by decide, by decide⟩ rfl hl.1 rfl (Nat.le_of_ble_eq_true rfl) dX4_together_82 ⟨Nat.zero_le _, Nat.zero_le _⟩ (fun H locs hG => ?_)
                    refine W.eq (g2 := F0 zm 85 ls [.int (zI (fea (σ 6 d 0) (σ 6 d 1) (σ 6 d 2) (σ 6 d 3) y)), .int (zI (fea (σ 6 c 0) (σ 6 c 1) (σ 6 c 2) (σ 6 c 3) y))]) rfl ?_
                    have b82_0 := fea_r (k := (σ 6 d 0)) (lp := (σ 6 d 1)) (o := (σ 6 d 2)) (g := (σ 6 d 3)) (y := y) (by omega) (by omega)
                    refine zr_icmp_ne (tgt := 91) zC dX4_together_85 (by decide) (by omega) (fun c85 => ?_) (fun c85 => ?_)
                    · refine zr_iinc (lv' := [(6, .int (zI (y + 1))), (7, .int (zI (fea (σ 6 c 0) (σ 6 c 1) (σ 6 c 2) (σ 6 c 3) y))), (0, .ref (aL Γ)), (1, .int (zI c)), (2, .int (zI d)), (3, .int (zI a)), (4, .int (zI b)), (5, .int (zI u))]) zC dX4_together_91 hl (k := 7) rfl (by decide) rfl (fun ls hl => ?_)
                      refine lv_goto (tgt := 45) zC.1 zC.2.1 dX4_together_94 (by decide) ?_
                      exact ih45 u (y + 1) H locs ls (by first | assumption | omega) (by rw [ctI_s hy.1, ← hu]; unfold zB; split <;> omega) (by omega) hG (lv_sub hl [2, 3, 4, 5, 6, 7, 0] rfl)
                    · refine zr_iinc (lv' := [(5, .int (zI (u + 1))), (7, .int (zI (fea (σ 6 c 0) (σ 6 c 1) (σ 6 c 2) (σ 6 c 3) y))), (0, .ref (aL Γ)), (1, .int (zI c)), (2, .int (zI d)), (3, .int (zI a)), (4, .int (zI b)), (6, .int (zI y))]) zC dX4_together_88 hl (k := 6) rfl (by decide) rfl (fun ls hl => ?_)
                      refine zr_iinc (lv' := [(6, .int (zI (y + 1))), (5, .int (zI (u + 1))), (7, .int (zI (fea (σ 6 c 0) (σ 6 c 1) (σ 6 c 2) (σ 6 c 3) y))), (0, .ref (aL Γ)), (1, .int (zI c)), (2, .int (zI d)), (3, .int (zI a)), (4, .int (zI b))]) zC dX4_together_91 hl (k := 7) rfl (by decide) rfl (fun ls hl => ?_)
                      refine lv_goto (tgt := 45) zC.1 zC.2.1 dX4_together_94 (by decide) ?_
                      exact ih45 (u + 1) (y + 1) H locs ls (by first | assumption | omega) (by rw [ctI_s hy.1, ← hu]; unfold zB; split <;> omega) (by omega) hG (lv_sub hl [3, 4, 5, 6, 7, 1, 0] rfl)
            exact loop45 ((b + 1 - a : Int).toNat + 1) 0 a H locs ls (by first | assumption | omega) (by rw [show (a - a).toNat = 0 by omega]; rfl) (by omega) hG (lv_sub hl [2, 3, 4, 5, 6, 1, 0] rfl)
          · refine zr_iconst zC dX4_together_37 ?_
            exact zr_iret zC zK hG dX4_together_38 (by unfold rC_together; (repeat' split) <;> first | rfl | omega) rfl

set_option maxHeartbeats 4000000 in
set_option maxRecDepth 100000 in
theorem c_X4_firstYearOff {Γ : Gm} {zl : Launch} {A : Nat → Prop} {σ : Mm} {lp v k n : Int} (hlp : 2 ≤ lp ∧ lp ≤ 9) (hv : 0 ≤ v ∧ v ≤ 99) (hk : 2 ≤ k ∧ k ≤ 9) (hn : 0 ≤ n ∧ n ≤ 150) : Fn Γ zl A yX4_firstYearOff cX4_firstYearOff 5 (some .int) 1 21 [.int (zI lp), .int (zI v), .int (zI k), .int (zI n)] σ (some (.int (zI (fyo lp v k n)))) σ := by
  refine Fn_of (by decide) (Nat.le_of_ble_eq_true rfl) ?_
  intro zp ze zs zm args below meth zc zQ H locs ls zC zK hG hl
  have hl : lv_has ls 5 [(0, .int (zI lp)), (1, .int (zI v)), (2, .int (zI k)), (3, .int (zI n))] := hl
  refine zr_iconst zC dX4_firstYearOff_0 ?_
  refine lv_istore (lv' := [(4, .int (zI 0)), (0, .int (zI lp)), (1, .int (zI v)), (2, .int (zI k)), (3, .int (zI n))]) zC.1 zC.2.1 dX4_firstYearOff_1 hl (by decide) rfl (fun ls hl => ?_)
  have loop3 : ∀ (nf : Nat) (y : Int) (H : Heap) (locs : List Loc) (ls : Array Slot), (0 ≤ y ∧ y ≤ n + 1) → (∀ z, 0 ≤ z → z < y → ¬ offP lp v k z) → (n + 1 - y < (nf : Int)) → GM Γ A σ zs H locs → lv_has ls 5 [(0, .int (zI lp)), (1, .int (zI v)), (2, .int (zI k)), (3, .int (zI n)), (4, .int (zI y))] → W zp zl ze { frames := 1, cells := 0, slots := 0, locals := 21 } zs zm args below meth zc H locs 0 0 zQ (F0 zm 3 ls []) := by
    intro nf
    induction nf with
    | zero =>
      intro y H locs ls hy hz hm3 _ _
      exact absurd hm3 (by omega)
    | succ nf ih3 =>
      intro y H locs ls hy hz hm3 hG hl
      refine lv_iload zC.1 zC.2.1 dX4_firstYearOff_3 (lv_at hl 4 rfl) ?_
      refine lv_iload_n zC.1 zC.2.1 dX4_firstYearOff_5 rfl (lv_at hl 3 rfl) ?_
      refine zr_icmp_gt (tgt := 38) zC dX4_firstYearOff_6 (by decide) (by omega) (fun c6 => ?_) (fun c6 => ?_)
      · refine zr_bipush zC dX4_firstYearOff_38 (by decide +kernel) ?_
        exact zr_iret zC zK hG dX4_firstYearOff_40 (by unfold fyo; exact fstI_no (fun z h1 h2 => hz z h1 (by omega))) rfl
      · refine lv_iload_n zC.1 zC.2.1 dX4_firstYearOff_9 rfl (lv_at hl 2 rfl) ?_
        refine lv_iload zC.1 zC.2.1 dX4_firstYearOff_10 (lv_at hl 4 rfl) ?_
        refine lv_iload_n zC.1 zC.2.1 dX4_firstYearOff_12 rfl (lv_at hl 0 rfl) ?_
        refine zr_callS zC hG (c_X4_longYearsBefore (σ := σ) (y := y) (lp := lp) (by first | assumption | omega) (by first | assumption | omega)) mt_X4_longYearsBefore wl_X4_320 ⟨by decide, by decide⟩ rfl hl.1 rfl (Nat.le_of_ble_eq_true rfl) dX4_firstYearOff_13 ⟨Nat.zero_le _, Nat.zero_le _⟩ (fun H locs hG => ?_)
        refine W.eq (g2 := F0 zm 16 ls [.int (zI (lyb y lp)), .int (zI k)]) rfl ?_
        have m13 := lyb_r (y := y) (lp := lp) (by omega) (by omega)
        have m13b := mul_r (a := k) (b := lyb y lp) (m := 9) (n := 151) (by omega) (by omega)
        have m13c := mul_r (a := v) (b := k) (m := 99) (n := 9) (by omega) (by omega)
        refine zr_imul zC dX4_firstYearOff_16 ?_
        refine lv_iload zC.1 zC.2.1 dX4_firstYearOff_17 (lv_at hl 4 rfl) ?_
        refine zr_isub zC dX4_firstYearOff_19 ?_
        refine zr_abs zC wl_X4_221 (by omega) ⟨by decide, Nat.le_of_ble_eq_true rfl, Nat.zero_le _, Nat.zero_le _⟩ hl.1 dX4_firstYearOff_20 ?_
        refine lv_iload_n zC.1 zC.2.1 dX4_firstYearOff_23 rfl (lv_at hl 1 rfl) ?_
        refine lv_iload_n zC.1 zC.2.1 dX4_firstYearOff_24 rfl (lv_at hl 2 rfl) ?_
        refine zr_imul zC dX4_firstYearOff_25 ?_
        refine zr_icmp_le (tgt := 32) zC dX4_firstYearOff_26 (by decide) (by omega) (fun c26 => ?_) (fun c26 => ?_)
        · refine zr_iinc (lv' := [(4, .int (zI (y + 1))), (0, .int (zI lp)), (1, .int (zI v)), (2, .int (zI k)), (3, .int (zI n))]) zC dX4_firstYearOff_32 hl (k := 4) rfl (by decide) rfl (fun ls hl => ?_)
          refine lv_goto (tgt := 3) zC.1 zC.2.1 dX4_firstYearOff_35 (by decide) ?_
          exact ih3 (y + 1) H locs ls (by first | assumption | omega) (fun z h1 h2 => by by_cases w : z < y; exact hz z h1 w; rw [show z = y by omega]; unfold offP; omega) (by omega) hG (lv_sub hl [1, 2, 3, 4, 0] rfl)
        · refine lv_iload zC.1 zC.2.1 dX4_firstYearOff_29 (lv_at hl 4 rfl) ?_
          exact zr_iret zC zK hG dX4_firstYearOff_31 (by unfold fyo; exact fstI_yes (by omega) hy.1 c26 hz (by omega)) rfl
  exact loop3 ((n + 1 - 0 : Int).toNat + 1) 0 H locs ls (by first | assumption | omega) (fun z h1 h2 => by omega) (by omega) hG (lv_sub hl [1, 2, 3, 4, 0] rfl)

set_option maxHeartbeats 4000000 in
set_option maxRecDepth 100000 in
theorem c_X4_keeps {Γ : Gm} {zl : Launch} {A : Nat → Prop} {σ : Mm} {v k n : Int} (hI : IC σ) (hv : -2147483648 ≤ v ∧ v < 2147483648) (hk : -2147483648 ≤ k ∧ k < 2147483648) (hn : -2147483648 ≤ n ∧ n < 2147483648) : Fn Γ zl A yX4_keeps cX4_keeps 5 (some .int) 2 45 [.ref (aL Γ), .int (zI v), .int (zI k), .int (zI n)] σ (some (.int (zI (rC_keeps σ v k n)))) σ := by
  refine Fn_of (by decide) (Nat.le_of_ble_eq_true rfl) ?_
  intro zp ze zs zm args below meth zc zQ H locs ls zC zK hG hl
  have hl : lv_has ls 5 [(0, .ref (aL Γ)), (1, .int (zI v)), (2, .int (zI k)), (3, .int (zI n))] := hl
  obtain ⟨hmany, htoday, -⟩ := id hI
  refine lv_iload_n zC.1 zC.2.1 dX4_keeps_0 rfl (lv_at hl 1 rfl) ?_
  refine zr_iconst zC dX4_keeps_1 ?_
  refine zr_bipush zC dX4_keeps_2 (by decide +kernel) ?_
  refine zr_callS zC hG (c_X4_isWithin (σ := σ) (v := v) (a := 0) (b := 99) (by first | assumption | omega) (by first | assumption | omega) (by first | assumption | omega)) mt_X4_isWithin wl_X4_140 ⟨by decide, by decide⟩ rfl hl.1 rfl (Nat.le_of_ble_eq_true rfl) dX4_keeps_4 ⟨Nat.zero_le _, Nat.zero_le _⟩ (fun H locs hG => ?_)
  refine W.eq (g2 := F0 zm 7 ls [.int (zI (zB (0 ≤ v ∧ v ≤ 99)))]) rfl ?_
  refine zr_ifeqB (tgt := 28) zC dX4_keeps_7 (by decide) (fun c7 => ?_) (fun c7 => ?_)
  · refine zr_iconst zC dX4_keeps_28 ?_
    exact zr_iret zC zK hG dX4_keeps_29 (by unfold rC_keeps; (repeat' split) <;> first | rfl | omega) rfl
  · refine lv_iload_n zC.1 zC.2.1 dX4_keeps_10 rfl (lv_at hl 2 rfl) ?_
    refine zr_callS zC hG (c_X4_isPartOfDay (σ := σ) (v := k) (by first | assumption | omega)) mt_X4_isPartOfDay wl_X4_275 ⟨by decide, by decide⟩ rfl hl.1 rfl (Nat.le_of_ble_eq_true rfl) dX4_keeps_11 ⟨Nat.zero_le _, Nat.zero_le _⟩ (fun H locs hG => ?_)
    refine W.eq (g2 := F0 zm 14 ls [.int (zI (zB (2 ≤ k ∧ k ≤ 9)))]) rfl ?_
    refine zr_ifeqB (tgt := 28) zC dX4_keeps_14 (by decide) (fun c14 => ?_) (fun c14 => ?_)
    · refine zr_iconst zC dX4_keeps_28 ?_
      exact zr_iret zC zK hG dX4_keeps_29 (by unfold rC_keeps; (repeat' split) <;> first | rfl | omega) rfl
    · refine lv_iload_n zC.1 zC.2.1 dX4_keeps_17 rfl (lv_at hl 3 rfl) ?_
      refine zr_iconst zC dX4_keeps_18 ?_
      refine zr_sipush zC dX4_keeps_19 (by decide +kernel) ?_
      refine zr_callS zC hG (c_X4_isWithin (σ := σ) (v := n) (a := 1) (b := 150) (by first | assumption | omega) (by first | assumption | omega) (by first | assumption | omega)) mt_X4_isWithin wl_X4_140 ⟨by decide, by decide⟩ rfl hl.1 rfl (Nat.le_of_ble_eq_true rfl) dX4_keeps_22 ⟨Nat.zero_le _, Nat.zero_le _⟩ (fun H locs hG => ?_)
      refine W.eq (g2 := F0 zm 25 ls [.int (zI (zB (1 ≤ n ∧ n ≤ 150)))]) rfl ?_
      refine zr_ifneB (tgt := 30) zC dX4_keeps_25 (by decide) (fun c25 => ?_) (fun c25 => ?_)
      · refine zr_iconst zC dX4_keeps_30 ?_
        refine lv_istore (lv' := [(4, .int (zI 2)), (0, .ref (aL Γ)), (1, .int (zI v)), (2, .int (zI k)), (3, .int (zI n))]) zC.1 zC.2.1 dX4_keeps_31 hl (by decide) rfl (fun ls hl => ?_)
        have loop33 : ∀ (nf : Nat) (y : Int) (H : Heap) (locs : List Loc) (ls : Array Slot), (2 ≤ y ∧ y ≤ 10) → (∀ z, 2 ≤ z → z < y → ¬ fyo z v k n = -9) → (10 - y < (nf : Int)) → GM Γ A σ zs H locs → lv_has ls 5 [(0, .ref (aL Γ)), (1, .int (zI v)), (2, .int (zI k)), (3, .int (zI n)), (4, .int (zI y))] → W zp zl ze { frames := 2, cells := 0, slots := 0, locals := 45 } zs zm args below meth zc H locs 0 0 zQ (F0 zm 33 ls []) := by
          intro nf
          induction nf with
          | zero =>
            intro y H locs ls hy hz hm33 _ _
            exact absurd hm33 (by omega)
          | succ nf ih33 =>
            intro y H locs ls hy hz hm33 hG hl
            refine lv_iload zC.1 zC.2.1 dX4_keeps_33 (lv_at hl 4 rfl) ?_
            refine zr_bipush zC dX4_keeps_35 (by decide +kernel) ?_
            refine zr_icmp_gt (tgt := 62) zC dX4_keeps_37 (by decide) (by omega) (fun c37 => ?_) (fun c37 => ?_)
            · refine zr_bipush zC dX4_keeps_62 (by decide +kernel) ?_
              exact zr_iret zC zK hG dX4_keeps_64 (by unfold rC_keeps; rw [if_neg (by omega)]; exact fstI_no (P := (fun z => fyo z v k n = -9)) (fun z h1 h2 => hz z h1 (by omega))) rfl
            · refine lv_iload zC.1 zC.2.1 dX4_keeps_40 (lv_at hl 4 rfl) ?_
              refine lv_iload_n zC.1 zC.2.1 dX4_keeps_42 rfl (lv_at hl 1 rfl) ?_
              refine lv_iload_n zC.1 zC.2.1 dX4_keeps_43 rfl (lv_at hl 2 rfl) ?_
              refine lv_iload_n zC.1 zC.2.1 dX4_keeps_44 rfl (lv_at hl 3 rfl) ?_
              refine zr_callS zC hG (c_X4_firstYearOff (σ := σ) (lp := y) (v := v) (k := k) (n := n) (by first | assumption | omega) (by first | assumption | omega) (by first | assumption | omega) (by first | assumption | omega)) mt_X4_firstYearOff wl_X4_278 ⟨by decide, by decide⟩ rfl hl.1 rfl (Nat.le_of_ble_eq_true rfl) dX4_keeps_45 ⟨Nat.zero_le _, Nat.zero_le _⟩ (fun H locs hG => ?_)
              refine W.eq (g2 := F0 zm 48 ls [.int (zI (fyo y v k n))]) rfl ?_
              have b45_0 := fyo_r y v k (n := n) (by omega)
              refine zr_bipush zC dX4_keeps_48 (by decide +kernel) ?_
              refine zr_icmp_ne (tgt := 56) zC dX4_keeps_50 (by decide) (by omega) (fun c50 => ?_) (fun c50 => ?_)
              · refine zr_iinc (lv' := [(4, .int (zI (y + 1))), (0, .ref (aL Γ)), (1, .int (zI v)), (2, .int (zI k)), (3, .int (zI n))]) zC dX4_keeps_56 hl (k := 4) rfl (by decide) rfl (fun ls hl => ?_)
                refine lv_goto (tgt := 33) zC.1 zC.2.1 dX4_keeps_59 (by decide) ?_
                exact ih33 (y + 1) H locs ls (by first | assumption | omega) (fun z h1 h2 => by by_cases w : z < y; exact hz z h1 w; rw [show z = y by omega]; exact c50) (by omega) hG (lv_sub hl [1, 2, 3, 4, 0] rfl)
              · refine lv_iload zC.1 zC.2.1 dX4_keeps_53 (lv_at hl 4 rfl) ?_
                exact zr_iret zC zK hG dX4_keeps_55 (by unfold rC_keeps; rw [if_neg (by omega)]; exact fstI_yes (P := (fun z => fyo z v k n = -9)) (by omega) hy.1 c50 hz (by omega)) rfl
        exact loop33 ((10 - 2 : Int).toNat + 1) 2 H locs ls (by first | assumption | omega) (fun z h1 h2 => by omega) (by omega) hG (lv_sub hl [1, 2, 3, 4, 0] rfl)
      · refine zr_iconst zC dX4_keeps_28 ?_
        exact zr_iret zC zK hG dX4_keeps_29 (by unfold rC_keeps; (repeat' split) <;> first | rfl | omega) rfl

set_option maxHeartbeats 4000000 in
set_option maxRecDepth 100000 in
theorem c_X4_fails {Γ : Gm} {zl : Launch} {A : Nat → Prop} {σ : Mm} {lp v k : Int} (hI : IC σ) (hlp : -2147483648 ≤ lp ∧ lp < 2147483648) (hv : -2147483648 ≤ v ∧ v < 2147483648) (hk : -2147483648 ≤ k ∧ k < 2147483648) : Fn Γ zl A yX4_fails cX4_fails 4 (some .int) 2 45 [.ref (aL Γ), .int (zI lp), .int (zI v), .int (zI k)] σ (some (.int (zI (rC_fails σ lp v k)))) σ := by
  refine Fn_of (by decide) (Nat.le_of_ble_eq_true rfl) ?_
  intro zp ze zs zm args below meth zc zQ H locs ls zC zK hG hl
  have hl : lv_has ls 4 [(0, .ref (aL Γ)), (1, .int (zI lp)), (2, .int (zI v)), (3, .int (zI k))] := hl
  obtain ⟨hmany, htoday, -⟩ := id hI
  refine lv_iload_n zC.1 zC.2.1 dX4_fails_0 rfl (lv_at hl 1 rfl) ?_
  refine zr_callS zC hG (c_X4_isLeap (σ := σ) (v := lp) (by first | assumption | omega)) mt_X4_isLeap wl_X4_150 ⟨by decide, by decide⟩ rfl hl.1 rfl (Nat.le_of_ble_eq_true rfl) dX4_fails_1 ⟨Nat.zero_le _, Nat.zero_le _⟩ (fun H locs hG => ?_)
  refine W.eq (g2 := F0 zm 4 ls [.int (zI (zB (2 ≤ lp ∧ lp ≤ 9)))]) rfl ?_
  refine zr_ifeqB (tgt := 24) zC dX4_fails_4 (by decide) (fun c4 => ?_) (fun c4 => ?_)
  · refine zr_iconst zC dX4_fails_24 ?_
    exact zr_iret zC zK hG dX4_fails_25 (by unfold rC_fails; (repeat' split) <;> first | rfl | omega) rfl
  · refine lv_iload_n zC.1 zC.2.1 dX4_fails_7 rfl (lv_at hl 2 rfl) ?_
    refine zr_iconst zC dX4_fails_8 ?_
    refine zr_bipush zC dX4_fails_9 (by decide +kernel) ?_
    refine zr_callS zC hG (c_X4_isWithin (σ := σ) (v := v) (a := 0) (b := 99) (by first | assumption | omega) (by first | assumption | omega) (by first | assumption | omega)) mt_X4_isWithin wl_X4_140 ⟨by decide, by decide⟩ rfl hl.1 rfl (Nat.le_of_ble_eq_true rfl) dX4_fails_11 ⟨Nat.zero_le _, Nat.zero_le _⟩ (fun H locs hG => ?_)
    refine W.eq (g2 := F0 zm 14 ls [.int (zI (zB (0 ≤ v ∧ v ≤ 99)))]) rfl ?_
    refine zr_ifeqB (tgt := 24) zC dX4_fails_14 (by decide) (fun c14 => ?_) (fun c14 => ?_)
    · refine zr_iconst zC dX4_fails_24 ?_
      exact zr_iret zC zK hG dX4_fails_25 (by unfold rC_fails; (repeat' split) <;> first | rfl | omega) rfl
    · refine lv_iload_n zC.1 zC.2.1 dX4_fails_17 rfl (lv_at hl 3 rfl) ?_
      refine zr_callS zC hG (c_X4_isPartOfDay (σ := σ) (v := k) (by first | assumption | omega)) mt_X4_isPartOfDay wl_X4_275 ⟨by decide, by decide⟩ rfl hl.1 rfl (Nat.le_of_ble_eq_true rfl) dX4_fails_18 ⟨Nat.zero_le _, Nat.zero_le _⟩ (fun H locs hG => ?_)
      refine W.eq (g2 := F0 zm 21 ls [.int (zI (zB (2 ≤ k ∧ k ≤ 9)))]) rfl ?_
      refine zr_ifneB (tgt := 26) zC dX4_fails_21 (by decide) (fun c21 => ?_) (fun c21 => ?_)
      · refine lv_iload_n zC.1 zC.2.1 dX4_fails_26 rfl (lv_at hl 1 rfl) ?_
        refine lv_iload_n zC.1 zC.2.1 dX4_fails_27 rfl (lv_at hl 2 rfl) ?_
        refine lv_iload_n zC.1 zC.2.1 dX4_fails_28 rfl (lv_at hl 3 rfl) ?_
        refine zr_sipush zC dX4_fails_29 (by decide +kernel) ?_
        refine zr_callS zC hG (c_X4_firstYearOff (σ := σ) (lp := lp) (v := v) (k := k) (n := 150) (by first | assumption | omega) (by first | assumption | omega) (by first | assumption | omega) (by first | assumption | omega)) mt_X4_firstYearOff wl_X4_278 ⟨by decide, by decide⟩ rfl hl.1 rfl (Nat.le_of_ble_eq_true rfl) dX4_fails_32 ⟨Nat.zero_le _, Nat.zero_le _⟩ (fun H locs hG => ?_)
        refine W.eq (g2 := F0 zm 35 ls [.int (zI (fyo lp v k 150))]) rfl ?_
        have b32_0 := fyo_r lp v k (n := 150) (by omega)
        exact zr_iret zC zK hG dX4_fails_35 (by unfold rC_fails; (repeat' split) <;> first | rfl | omega) rfl
      · refine zr_iconst zC dX4_fails_24 ?_
        exact zr_iret zC zK hG dX4_fails_25 (by unfold rC_fails; (repeat' split) <;> first | rfl | omega) rfl

set_option maxHeartbeats 4000000 in
set_option maxRecDepth 100000 in
theorem c_X4_lots {Γ : Gm} {zl : Launch} {A : Nat → Prop} {σ : Mm} {c d n v : Int} (hI : IC σ) (hc : -2147483648 ≤ c ∧ c < 2147483648) (hd : -2147483648 ≤ d ∧ d < 2147483648) (hn : -2147483648 ≤ n ∧ n < 2147483648) (hv : -2147483648 ≤ v ∧ v < 2147483648) : Fn Γ zl A yX4_lots cX4_lots 9 (some .int) 5 109 [.ref (aL Γ), .int (zI c), .int (zI d), .int (zI n), .int (zI v)] σ (some (.int (zI (rC_lots σ c d n v)))) σ := by
  refine Fn_of (by decide) (Nat.le_of_ble_eq_true rfl) ?_
  intro zp ze zs zm args below meth zc zQ H locs ls zC zK hG hl
  have hl : lv_has ls 9 [(0, .ref (aL Γ)), (1, .int (zI c)), (2, .int (zI d)), (3, .int (zI n)), (4, .int (zI v))] := hl
  obtain ⟨hmany, htoday, -⟩ := id hI
  refine lv_aload_n zC.1 zC.2.1 dX4_lots_0 rfl (lv_at hl 0 rfl) ?_
  refine lv_iload_n zC.1 zC.2.1 dX4_lots_1 rfl (lv_at hl 1 rfl) ?_
  refine zr_callV zC hG (c_X4_isTown (σ := σ) (c := c) hI (by first | assumption | omega)) mt_X4_isTown wl_X4_128 pL rfl rfl ⟨by decide, by decide⟩ rfl hl.1 rfl (Nat.le_of_ble_eq_true rfl) dX4_lots_2 ⟨Nat.zero_le _, Nat.zero_le _⟩ (fun H locs hG => ?_)
  refine W.eq (g2 := F0 zm 5 ls [.int (zI (zB (isT σ c)))]) rfl ?_
  refine zr_ifeqB (tgt := 38) zC dX4_lots_5 (by decide) (fun c5 => ?_) (fun c5 => ?_)
  · refine zr_iconst zC dX4_lots_38 ?_
    exact zr_iret zC zK hG dX4_lots_39 (by unfold rC_lots; (repeat' split) <;> first | rfl | omega) rfl
  · refine lv_aload_n zC.1 zC.2.1 dX4_lots_8 rfl (lv_at hl 0 rfl) ?_
    refine lv_iload_n zC.1 zC.2.1 dX4_lots_9 rfl (lv_at hl 2 rfl) ?_
    refine zr_callV zC hG (c_X4_isTown (σ := σ) (c := d) hI (by first | assumption | omega)) mt_X4_isTown wl_X4_128 pL rfl rfl ⟨by decide, by decide⟩ rfl hl.1 rfl (Nat.le_of_ble_eq_true rfl) dX4_lots_10 ⟨Nat.zero_le _, Nat.zero_le _⟩ (fun H locs hG => ?_)
    refine W.eq (g2 := F0 zm 13 ls [.int (zI (zB (isT σ d)))]) rfl ?_
    refine zr_ifeqB (tgt := 38) zC dX4_lots_13 (by decide) (fun c13 => ?_) (fun c13 => ?_)
    · refine zr_iconst zC dX4_lots_38 ?_
      exact zr_iret zC zK hG dX4_lots_39 (by unfold rC_lots; (repeat' split) <;> first | rfl | omega) rfl
    · refine lv_iload_n zC.1 zC.2.1 dX4_lots_16 rfl (lv_at hl 3 rfl) ?_
      refine zr_iconst zC dX4_lots_17 ?_
      refine zr_bipush zC dX4_lots_18 (by decide +kernel) ?_
      refine zr_callS zC hG (c_X4_isWithin (σ := σ) (v := n) (a := 1) (b := 40) (by first | assumption | omega) (by first | assumption | omega) (by first | assumption | omega)) mt_X4_isWithin wl_X4_140 ⟨by decide, by decide⟩ rfl hl.1 rfl (Nat.le_of_ble_eq_true rfl) dX4_lots_20 ⟨Nat.zero_le _, Nat.zero_le _⟩ (fun H locs hG => ?_)
      refine W.eq (g2 := F0 zm 23 ls [.int (zI (zB (1 ≤ n ∧ n ≤ 40)))]) rfl ?_
      refine zr_ifeqB (tgt := 38) zC dX4_lots_23 (by decide) (fun c23 => ?_) (fun c23 => ?_)
      · refine zr_iconst zC dX4_lots_38 ?_
        exact zr_iret zC zK hG dX4_lots_39 (by unfold rC_lots; (repeat' split) <;> first | rfl | omega) rfl
      · refine lv_iload zC.1 zC.2.1 dX4_lots_26 (lv_at hl 4 rfl) ?_
        refine zr_iconst zC dX4_lots_28 ?_
        refine zr_ldc_w (z := 2147483646) zC wl_X4_282 (by decide +kernel) dX4_lots_29 ?_
        refine zr_callS zC hG (c_X4_isWithin (σ := σ) (v := v) (a := 1) (b := 2147483646) (by first | assumption | omega) (by first | assumption | omega) (by first | assumption | omega)) mt_X4_isWithin wl_X4_140 ⟨by decide, by decide⟩ rfl hl.1 rfl (Nat.le_of_ble_eq_true rfl) dX4_lots_32 ⟨Nat.zero_le _, Nat.zero_le _⟩ (fun H locs hG => ?_)
        refine W.eq (g2 := F0 zm 35 ls [.int (zI (zB (1 ≤ v ∧ v ≤ 2147483646)))]) rfl ?_
        refine zr_ifneB (tgt := 40) zC dX4_lots_35 (by decide) (fun c35 => ?_) (fun c35 => ?_)
        · refine zr_iconst zC dX4_lots_40 ?_
          refine lv_istore (lv' := [(5, .int (zI 0)), (0, .ref (aL Γ)), (1, .int (zI c)), (2, .int (zI d)), (3, .int (zI n)), (4, .int (zI v))]) zC.1 zC.2.1 dX4_lots_41 hl (by decide) rfl (fun ls hl => ?_)
          refine lv_iload zC.1 zC.2.1 dX4_lots_43 (lv_at hl 5 rfl) ?_
          refine zr_i2l zC dX4_lots_45 (by omega) ?_
          refine lv_lstore (lv' := [(6, .long (zL v)), (5, .int (zI 0)), (0, .ref (aL Γ)), (1, .int (zI c)), (2, .int (zI d)), (3, .int (zI n)), (4, .int (zI v))]) zC.1 zC.2.1 dX4_lots_46 hl (by decide) rfl (fun ls hl => ?_)
          refine zr_iconst zC dX4_lots_48 ?_
          refine lv_istore (lv' := [(8, .int (zI 0)), (6, .long (zL v)), (5, .int (zI 0)), (0, .ref (aL Γ)), (1, .int (zI c)), (2, .int (zI d)), (3, .int (zI n)), (4, .int (zI v))]) zC.1 zC.2.1 dX4_lots_49 hl (by decide) rfl (fun ls hl => ?_)
          have loop51 : ∀ (nf : Nat) (u w q : Int) (H : Heap) (locs : List Loc) (ls : Array Slot), (0 ≤ q ∧ q ≤ n) → (w = lotI v q.toNat) → (u = ctI (fun z => dtD (σ 6 c 0) (σ 6 c 1) (σ 6 c 2) (σ 6 c 3) (lotI v (z + 1).toNat % 20000) = dtD (σ 6 d 0) (σ 6 d 1) (σ 6 d 2) (σ 6 d 3) (lotI v (z + 1).toNat % 20000)) 0 (q - 0).toNat) → (n - q < (nf : Int)) → GM Γ A σ zs H locs → lv_has ls 9 [(0, .ref (aL Γ)), (1, .int (zI c)), (2, .int (zI d)), (3, .int (zI n)), (4, .int (zI v)), (5, .int (zI u)), (6, .long (zL w)), (8, .int (zI q))] → W zp zl ze { frames := 5, cells := 0, slots := 0, locals := 109 } zs zm args below meth zc H locs 0 0 zQ (F0 zm 51 ls []) := by
            intro nf
            induction nf with
            | zero =>
              intro u w q H locs ls hq hw hu hm51 _ _
              exact absurd hm51 (by omega)
            | succ nf ih51 =>
              intro u w q H locs ls hq hw hu hm51 hG hl
              have b51 := lotI_r (s := v) (by omega) q.toNat
              rw [← hw] at b51
              refine lv_iload zC.1 zC.2.1 dX4_lots_51 (lv_at hl 7 rfl) ?_
              refine lv_iload_n zC.1 zC.2.1 dX4_lots_53 rfl (lv_at hl 3 rfl) ?_
              refine zr_icmp_ge (tgt := 94) zC dX4_lots_54 (by decide) (by omega) (fun c54 => ?_) (fun c54 => ?_)
              · refine lv_iload zC.1 zC.2.1 dX4_lots_94 (lv_at hl 5 rfl) ?_
                exact zr_iret zC zK hG dX4_lots_96 (by unfold rC_lots; rw [if_neg (by omega), hu]; congr 1; omega) rfl
              · refine lv_lload zC.1 zC.2.1 dX4_lots_57 (lv_at hl 6 rfl) ?_
                refine zr_ldc2 (z := 48271) zC wl_X4_283 (by decide +kernel) dX4_lots_59 ?_
                refine zr_lmul zC dX4_lots_62 ?_
                refine zr_ldc2 (z := 2147483647) zC wl_X4_285 (by decide +kernel) dX4_lots_63 ?_
                refine zr_lrem zC dX4_lots_66 (by omega) ?_
                refine lv_lstore (lv' := [(6, .long (zL ((w * 48271) % 2147483647))), (0, .ref (aL Γ)), (1, .int (zI c)), (2, .int (zI d)), (3, .int (zI n)), (4, .int (zI v)), (5, .int (zI u)), (8, .int (zI q))]) zC.1 zC.2.1 dX4_lots_67 hl (by decide) rfl (fun ls hl => ?_)
                refine lv_aload_n zC.1 zC.2.1 dX4_lots_69 rfl (lv_at hl 1 rfl) ?_
                refine lv_iload_n zC.1 zC.2.1 dX4_lots_70 rfl (lv_at hl 2 rfl) ?_
                refine lv_iload_n zC.1 zC.2.1 dX4_lots_71 rfl (lv_at hl 3 rfl) ?_
                refine lv_lload zC.1 zC.2.1 dX4_lots_72 (lv_at hl 0 rfl) ?_
                refine zr_ldc2 (z := 20000) zC wl_X4_287 (by decide +kernel) dX4_lots_74 ?_
                refine zr_lrem zC dX4_lots_77 (by omega) ?_
                refine zr_l2i zC dX4_lots_78 ?_
                refine zr_callV zC hG (c_X4_haveSameDate (σ := σ) (c := c) (d := d) (x := ((w * 48271) % 2147483647) % 20000) hI (by first | assumption | omega) (by first | assumption | omega) (by first | assumption | omega)) mt_X4_haveSameDate wl_X4_212 pL rfl rfl ⟨by decide, by decide⟩ rfl hl.1 rfl (Nat.le_of_ble_eq_true rfl) dX4_lots_79 ⟨Nat.zero_le _, Nat.zero_le _⟩ (fun H locs hG => ?_)
                refine W.eq (g2 := F0 zm 82 ls [.int (zI (zB (dtD (σ 6 c 0) (σ 6 c 1) (σ 6 c 2) (σ 6 c 3) (((w * 48271) % 2147483647) % 20000) = dtD (σ 6 d 0) (σ 6 d 1) (σ 6 d 2) (σ 6 d 3) (((w * 48271) % 2147483647) % 20000))))]) rfl ?_
                refine zr_ifeqB (tgt := 88) zC dX4_lots_82 (by decide) (fun c82 => ?_) (fun c82 => ?_)
                · refine zr_iinc (lv' := [(8, .int (zI (q + 1))), (6, .long (zL ((w * 48271) % 2147483647))), (0, .ref (aL Γ)), (1, .int (zI c)), (2, .int (zI d)), (3, .int (zI n)), (4, .int (zI v)), (5, .int (zI u))]) zC dX4_lots_88 hl (k := 7) rfl (by decide) rfl (fun ls hl => ?_)
                  refine lv_goto (tgt := 51) zC.1 zC.2.1 dX4_lots_91 (by decide) ?_
                  exact ih51 u ((w * 48271) % 2147483647) (q + 1) H locs ls (by first | assumption | omega) (by rw [lotI_s hq.1, ← hw]) (by rw [ctI_s hq.1, ← hu]; unfold zB; simp only [lotI_s hq.1, ← hw]; split <;> omega) (by omega) hG (lv_sub hl [2, 3, 4, 5, 6, 7, 1, 0] rfl)
                · refine zr_iinc (lv' := [(5, .int (zI (u + 1))), (6, .long (zL ((w * 48271) % 2147483647))), (0, .ref (aL Γ)), (1, .int (zI c)), (2, .int (zI d)), (3, .int (zI n)), (4, .int (zI v)), (8, .int (zI q))]) zC dX4_lots_85 hl (k := 6) rfl (by decide) rfl (fun ls hl => ?_)
                  refine zr_iinc (lv' := [(8, .int (zI (q + 1))), (5, .int (zI (u + 1))), (6, .long (zL ((w * 48271) % 2147483647))), (0, .ref (aL Γ)), (1, .int (zI c)), (2, .int (zI d)), (3, .int (zI n)), (4, .int (zI v))]) zC dX4_lots_88 hl (k := 7) rfl (by decide) rfl (fun ls hl => ?_)
                  refine lv_goto (tgt := 51) zC.1 zC.2.1 dX4_lots_91 (by decide) ?_
                  exact ih51 (u + 1) ((w * 48271) % 2147483647) (q + 1) H locs ls (by first | assumption | omega) (by rw [lotI_s hq.1, ← hw]) (by rw [ctI_s hq.1, ← hu]; unfold zB; simp only [lotI_s hq.1, ← hw]; split <;> omega) (by omega) hG (lv_sub hl [3, 4, 5, 6, 7, 1, 2, 0] rfl)
          exact loop51 ((n - 0 : Int).toNat + 1) 0 v 0 H locs ls (by first | assumption | omega) rfl rfl (by omega) hG (lv_sub hl [3, 4, 5, 6, 7, 2, 1, 0] rfl)
        · refine zr_iconst zC dX4_lots_38 ?_
          exact zr_iret zC zK hG dX4_lots_39 (by unfold rC_lots; (repeat' split) <;> first | rfl | omega) rfl
