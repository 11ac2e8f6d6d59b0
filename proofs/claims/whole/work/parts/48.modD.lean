set_option maxHeartbeats 4000000 in
set_option maxRecDepth 100000 in
theorem c_X5_dated {Γ : Gm} {zl : Launch} {A : Nat → Prop} {τ σ : Mm} {t a b : Int} (hR : Rel2 τ σ) (hI : IC τ) (ht : -2147483648 ≤ t ∧ t < 2147483648) (ha : -2147483648 ≤ a ∧ a < 2147483648) (hb : -2147483648 ≤ b ∧ b < 2147483648) : Fr Γ zl A yX5_dated cX5_dated 7 (some .int) 4 88 [.ref (aM Γ), .int (zI t), .int (zI a), .int (zI b)] σ (some (.int (zI (rC_dated τ t a b)))) τ := by
  refine Fr_of (by decide) (Nat.le_of_ble_eq_true rfl) ?_
  intro zp ze zs zm args below meth zc zQ H locs ls zC zK hG hl
  have hl : lv_has ls 7 [(0, .ref (aM Γ)), (1, .int (zI t)), (2, .int (zI a)), (3, .int (zI b))] := hl
  obtain ⟨hmany, htoday, -⟩ := id hI
  refine lv_iload_n zC.1 zC.2.1 dX5_dated_0 rfl (lv_at hl 1 rfl) ?_
  refine zr_if_lt (tgt := 12) zC dX5_dated_1 (by decide) (by omega) (fun c1 => ?_) (fun c1 => ?_)
  · refine zr_iconst zC dX5_dated_12 ?_
    exact zm_iret zC zK hG dX5_dated_13 (by unfold rC_dated; (repeat' split) <;> first | rfl | omega) hR (sC_r _)
  · refine lv_iload_n zC.1 zC.2.1 dX5_dated_4 rfl (lv_at hl 2 rfl) ?_
    refine lv_iload_n zC.1 zC.2.1 dX5_dated_5 rfl (lv_at hl 3 rfl) ?_
    refine zr_callS zC hG (c_X5_areDays (σ := σ) (a := a) (b := b) (by first | assumption | omega) (by first | assumption | omega)) mt_X5_areDays wl_X5_191 ⟨by decide, by decide⟩ rfl hl.1 rfl (Nat.le_of_ble_eq_true rfl) dX5_dated_6 ⟨Nat.zero_le _, Nat.zero_le _⟩ (fun H locs hG => ?_)
    refine W.eq (g2 := F0 zm 9 ls [.int (zI (zB (0 ≤ a ∧ a ≤ b ∧ b ≤ 19999)))]) rfl ?_
    refine zr_ifneB (tgt := 14) zC dX5_dated_9 (by decide) (fun c9 => ?_) (fun c9 => ?_)
    · refine zr_iconst zC dX5_dated_14 ?_
      refine lv_istore (lv' := [(4, .int (zI 0)), (0, .ref (aM Γ)), (1, .int (zI t)), (2, .int (zI a)), (3, .int (zI b))]) zC.1 zC.2.1 dX5_dated_15 hl (by decide) rfl (fun ls hl => ?_)
      refine zr_iconst zC dX5_dated_17 ?_
      refine lv_istore (lv' := [(5, .int (zI 0)), (4, .int (zI 0)), (0, .ref (aM Γ)), (1, .int (zI t)), (2, .int (zI a)), (3, .int (zI b))]) zC.1 zC.2.1 dX5_dated_18 hl (by decide) rfl (fun ls hl => ?_)
      have loop20 : ∀ (nf : Nat) (u q : Int) (σ20q : Mm) (H : Heap) (locs : List Loc) (ls : Array Slot), (0 ≤ q ∧ q ≤ τ 0 0 6) → (u = bts (fun z => dyD (τ 6 z 0) (τ 6 z 1) (τ 6 z 2) (τ 6 z 3) t ≠ -1 ∧ a ≤ dyD (τ 6 z 0) (τ 6 z 1) (τ 6 z 2) (τ 6 z 3) t ∧ dyD (τ 6 z 0) (τ 6 z 1) (τ 6 z 2) (τ 6 z 3) t ≤ b) q.toNat) → (Rel2 τ σ20q) → (sC σ σ20q) → (6 - q < (nf : Int)) → GM Γ A σ20q zs H locs → lv_has ls 7 [(0, .ref (aM Γ)), (1, .int (zI t)), (2, .int (zI a)), (3, .int (zI b)), (4, .int (zI u)), (5, .int (zI q))] → W zp zl ze { frames := 4, cells := 0, slots := 0, locals := 88 } zs zm args below meth zc H locs 0 0 zQ (F0 zm 20 ls []) := by
        intro nf
        induction nf with
        | zero =>
          intro u q σ20q H locs ls hq hu hR20q hC20q hm20 _ _
          exact absurd hm20 (by omega)
        | succ nf ih20 =>
          intro u q σ20q H locs ls hq hu hR20q hC20q hm20 hG hl
          have b20 := bts_r (fun z => dyD (τ 6 z 0) (τ 6 z 1) (τ 6 z 2) (τ 6 z 3) t ≠ -1 ∧ a ≤ dyD (τ 6 z 0) (τ 6 z 1) (τ 6 z 2) (τ 6 z 3) t ∧ dyD (τ 6 z 0) (τ 6 z 1) (τ 6 z 2) (τ 6 z 3) t ≤ b) q.toNat
          rw [← hu] at b20
          refine lv_iload zC.1 zC.2.1 dX5_dated_20 (lv_at hl 5 rfl) ?_
          refine lv_aload_n zC.1 zC.2.1 dX5_dated_22 rfl (lv_at hl 0 rfl) ?_
          refine gf_M_many (v := τ 0 0 6) zC hG wl_X5_116 hR20q.1.2.2.2.2.1 dX5_dated_23 ?_
          refine zr_icmp_ge (tgt := 74) zC dX5_dated_26 (by decide) (by omega) (fun c26 => ?_) (fun c26 => ?_)
          · refine lv_iload zC.1 zC.2.1 dX5_dated_74 (lv_at hl 4 rfl) ?_
            exact zm_iret zC zK hG dX5_dated_76 (by unfold rC_dated; rw [if_neg (by omega), hu, show q = τ 0 0 6 by omega]) hR20q hC20q
          · refine lv_aload_n zC.1 zC.2.1 dX5_dated_29 rfl (lv_at hl 0 rfl) ?_
            refine lv_iload zC.1 zC.2.1 dX5_dated_30 (lv_at hl 5 rfl) ?_
            refine lv_iload_n zC.1 zC.2.1 dX5_dated_32 rfl (lv_at hl 1 rfl) ?_
            refine zr_callV zC hG (c_X5_dayIn (τ := τ) (σ := σ20q) (c := q) (t := t) hR20q hI (by first | assumption | omega) (by first | assumption | omega)) mt_X5_dayIn wl_X5_185 pM rfl rfl ⟨by decide, by decide⟩ rfl hl.1 rfl (Nat.le_of_ble_eq_true rfl) dX5_dated_33 ⟨Nat.zero_le _, Nat.zero_le _⟩ (fun H locs hG => ?_)
            refine W.eq (g2 := F0 zm 36 ls [.int (zI (dyM (dyD (τ 6 q 0) (τ 6 q 1) (τ 6 q 2) (τ 6 q 3) t)))]) rfl ?_
            have b33_0 := dyD_r (k := (τ 6 q 0)) (lp := (τ 6 q 1)) (o := (τ 6 q 2)) (g := (τ 6 q 3)) (t := t) (hI.2.2.2.2.2.2.1 q (by omega) (by omega)).2.1 (hI.2.2.2.2.2.2.1 q (by omega) (by omega)).2.2.1.1
            have b33_1 := dyM_s (dyD (τ 6 q 0) (τ 6 q 1) (τ 6 q 2) (τ 6 q 3) t)
            refine lv_istore (lv' := [(6, .int (zI (dyM (dyD (τ 6 q 0) (τ 6 q 1) (τ 6 q 2) (τ 6 q 3) t)))), (0, .ref (aM Γ)), (1, .int (zI t)), (2, .int (zI a)), (3, .int (zI b)), (4, .int (zI u)), (5, .int (zI q))]) zC.1 zC.2.1 dX5_dated_36 hl (by decide) rfl (fun ls hl => ?_)
            refine lv_iload zC.1 zC.2.1 dX5_dated_38 (lv_at hl 5 rfl) ?_
            refine lv_iload zC.1 zC.2.1 dX5_dated_40 (lv_at hl 0 rfl) ?_
            refine zr_bipush zC dX5_dated_42 (by decide +kernel) ?_
            refine zr_icmp_eq (tgt := 64) zC dX5_dated_44 (by decide) (by omega) (fun c44 => ?_) (fun c44 => ?_)
            · refine zr_iconst zC dX5_dated_64 ?_
              refine zr_ior0 zC dX5_dated_65 ?_
              refine lv_istore (lv' := [(4, .int (zI u)), (6, .int (zI (dyM (dyD (τ 6 q 0) (τ 6 q 1) (τ 6 q 2) (τ 6 q 3) t)))), (0, .ref (aM Γ)), (1, .int (zI t)), (2, .int (zI a)), (3, .int (zI b)), (5, .int (zI q))]) zC.1 zC.2.1 dX5_dated_66 hl (by decide) rfl (fun ls hl => ?_)
              refine zr_iinc (lv' := [(5, .int (zI (q + 1))), (4, .int (zI u)), (6, .int (zI (dyM (dyD (τ 6 q 0) (τ 6 q 1) (τ 6 q 2) (τ 6 q 3) t)))), (0, .ref (aM Γ)), (1, .int (zI t)), (2, .int (zI a)), (3, .int (zI b))]) zC dX5_dated_68 hl (k := 6) rfl (by decide) rfl (fun ls hl => ?_)
              refine lv_goto (tgt := 20) zC.1 zC.2.1 dX5_dated_71 (by decide) ?_
              exact ih20 u (q + 1) (up (up (up (up σ20q 20 0 19 (τ 6 q 0)) 20 0 20 (τ 6 q 1)) 20 0 21 (τ 6 q 2)) 20 0 22 (τ 6 q 3)) H locs ls (by first | assumption | omega) (by rw [bts_s hq.1, ← hu]; split <;> omega) hR20q (sC_up (sC_up (sC_up (sC_up hC20q (by decide)) (by decide)) (by decide)) (by decide)) (by omega) hG (lv_sub hl [3, 4, 5, 6, 1, 0] rfl)
            · refine lv_iload zC.1 zC.2.1 dX5_dated_47 (lv_at hl 0 rfl) ?_
              refine lv_iload_n zC.1 zC.2.1 dX5_dated_49 rfl (lv_at hl 3 rfl) ?_
              refine lv_iload_n zC.1 zC.2.1 dX5_dated_50 rfl (lv_at hl 4 rfl) ?_
              refine zr_callS zC hG (c_X5_in (σ := up (up (up (up σ20q 20 0 19 (τ 6 q 0)) 20 0 20 (τ 6 q 1)) 20 0 21 (τ 6 q 2)) 20 0 22 (τ 6 q 3)) (v := dyM (dyD (τ 6 q 0) (τ 6 q 1) (τ 6 q 2) (τ 6 q 3) t)) (a := a) (b := b) (by first | assumption | omega) (by first | assumption | omega) (by first | assumption | omega)) mt_X5_in wl_X5_60 ⟨by decide, by decide⟩ rfl hl.1 rfl (Nat.le_of_ble_eq_true rfl) dX5_dated_51 ⟨Nat.zero_le _, Nat.zero_le _⟩ (fun H locs hG => ?_)
              refine W.eq (g2 := F0 zm 54 ls [.int (zI (zB (a ≤ (dyM (dyD (τ 6 q 0) (τ 6 q 1) (τ 6 q 2) (τ 6 q 3) t)) ∧ (dyM (dyD (τ 6 q 0) (τ 6 q 1) (τ 6 q 2) (τ 6 q 3) t)) ≤ b))), .int (zI u)]) rfl ?_
              refine zr_ifeqB (tgt := 64) zC dX5_dated_54 (by decide) (fun c54 => ?_) (fun c54 => ?_)
              · refine zr_iconst zC dX5_dated_64 ?_
                refine zr_ior0 zC dX5_dated_65 ?_
                refine lv_istore (lv' := [(4, .int (zI u)), (6, .int (zI (dyM (dyD (τ 6 q 0) (τ 6 q 1) (τ 6 q 2) (τ 6 q 3) t)))), (0, .ref (aM Γ)), (1, .int (zI t)), (2, .int (zI a)), (3, .int (zI b)), (5, .int (zI q))]) zC.1 zC.2.1 dX5_dated_66 hl (by decide) rfl (fun ls hl => ?_)
                refine zr_iinc (lv' := [(5, .int (zI (q + 1))), (4, .int (zI u)), (6, .int (zI (dyM (dyD (τ 6 q 0) (τ 6 q 1) (τ 6 q 2) (τ 6 q 3) t)))), (0, .ref (aM Γ)), (1, .int (zI t)), (2, .int (zI a)), (3, .int (zI b))]) zC dX5_dated_68 hl (k := 6) rfl (by decide) rfl (fun ls hl => ?_)
                refine lv_goto (tgt := 20) zC.1 zC.2.1 dX5_dated_71 (by decide) ?_
                exact ih20 u (q + 1) (up (up (up (up σ20q 20 0 19 (τ 6 q 0)) 20 0 20 (τ 6 q 1)) 20 0 21 (τ 6 q 2)) 20 0 22 (τ 6 q 3)) H locs ls (by first | assumption | omega) (by rw [bts_s hq.1, ← hu]; split <;> omega) hR20q (sC_up (sC_up (sC_up (sC_up hC20q (by decide)) (by decide)) (by decide)) (by decide)) (by omega) hG (lv_sub hl [3, 4, 5, 6, 1, 0] rfl)
              · refine zr_iconst zC dX5_dated_57 ?_
                refine lv_iload zC.1 zC.2.1 dX5_dated_58 (lv_at hl 6 rfl) ?_
                refine zr_shl1 zC dX5_dated_60 (by omega) ?_
                refine lv_goto (tgt := 65) zC.1 zC.2.1 dX5_dated_61 (by decide) ?_
                refine zr_ior zC dX5_dated_65 b20 (by omega) ?_
                refine lv_istore (lv' := [(4, .int (zI (u + 2 ^ q.toNat))), (6, .int (zI (dyM (dyD (τ 6 q 0) (τ 6 q 1) (τ 6 q 2) (τ 6 q 3) t)))), (0, .ref (aM Γ)), (1, .int (zI t)), (2, .int (zI a)), (3, .int (zI b)), (5, .int (zI q))]) zC.1 zC.2.1 dX5_dated_66 hl (by decide) rfl (fun ls hl => ?_)
                refine zr_iinc (lv' := [(5, .int (zI (q + 1))), (4, .int (zI (u + 2 ^ q.toNat))), (6, .int (zI (dyM (dyD (τ 6 q 0) (τ 6 q 1) (τ 6 q 2) (τ 6 q 3) t)))), (0, .ref (aM Γ)), (1, .int (zI t)), (2, .int (zI a)), (3, .int (zI b))]) zC dX5_dated_68 hl (k := 6) rfl (by decide) rfl (fun ls hl => ?_)
                refine lv_goto (tgt := 20) zC.1 zC.2.1 dX5_dated_71 (by decide) ?_
                exact ih20 (u + 2 ^ q.toNat) (q + 1) (up (up (up (up σ20q 20 0 19 (τ 6 q 0)) 20 0 20 (τ 6 q 1)) 20 0 21 (τ 6 q 2)) 20 0 22 (τ 6 q 3)) H locs ls (by first | assumption | omega) (by rw [bts_s hq.1, ← hu]; split <;> omega) hR20q (sC_up (sC_up (sC_up (sC_up hC20q (by decide)) (by decide)) (by decide)) (by decide)) (by omega) hG (lv_sub hl [3, 4, 5, 6, 1, 0] rfl)
      exact loop20 ((6 - 0 : Int).toNat + 1) 0 0 σ H locs ls (by first | assumption | omega) rfl hR (sC_r _) (by omega) hG (lv_sub hl [2, 3, 4, 5, 1, 0] rfl)
    · refine zr_iconst zC dX5_dated_12 ?_
      exact zm_iret zC zK hG dX5_dated_13 (by unfold rC_dated; (repeat' split) <;> first | rfl | omega) hR (sC_r _)

set_option maxHeartbeats 4000000 in
set_option maxRecDepth 100000 in
theorem c_X5_feastOf {Γ : Gm} {zl : Launch} {A : Nat → Prop} {τ σ : Mm} {c y : Int} (hR : Rel2 τ σ) (hI : IC τ) (hc : isT τ c) (hy : 0 ≤ y ∧ y ≤ 150) : Fn Γ zl A yX5_feastOf cX5_feastOf 6 (some .int) 3 66 [.ref (aM Γ), .int (zI c), .int (zI y)] σ (some (.int (zI (fea (τ 6 c 0) (τ 6 c 1) (τ 6 c 2) (τ 6 c 3) y)))) (up (up (up (up σ 20 0 19 (τ 6 c 0)) 20 0 20 (τ 6 c 1)) 20 0 21 (τ 6 c 2)) 20 0 22 (τ 6 c 3)) := by
  refine Fn_of (by decide) (Nat.le_of_ble_eq_true rfl) ?_
  intro zp ze zs zm args below meth zc zQ H locs ls zC zK hG hl
  have hl : lv_has ls 6 [(0, .ref (aM Γ)), (1, .int (zI c)), (2, .int (zI y))] := hl
  obtain ⟨hmany, htoday, -⟩ := id hI
  refine lv_aload_n zC.1 zC.2.1 dX5_feastOf_0 rfl (lv_at hl 0 rfl) ?_
  refine lv_iload_n zC.1 zC.2.1 dX5_feastOf_1 rfl (lv_at hl 1 rfl) ?_
  refine zr_callV zC hG (c_X5_take (τ := τ) (σ := σ) (c := c) hR hI (by first | assumption | omega)) mt_X5_take wl_X5_141 pM rfl rfl ⟨by decide, by decide⟩ rfl hl.1 rfl (Nat.le_of_ble_eq_true rfl) dX5_feastOf_2 ⟨Nat.zero_le _, Nat.zero_le _⟩ (fun H locs hG => ?_)
  refine W.eq (g2 := F0 zm 5 ls []) rfl ?_
  refine zr_bipush zC dX5_feastOf_5 (by decide +kernel) ?_
  refine lv_istore_n (lv' := [(3, .int (zI 20)), (0, .ref (aM Γ)), (1, .int (zI c)), (2, .int (zI y))]) zC.1 zC.2.1 dX5_feastOf_7 rfl hl (by decide) rfl (fun ls hl => ?_)
  have b8 := lenY_r (τ 6 c 0) (τ 6 c 1) y
  have loop8 : ∀ (nf : Nat) (q : Int) (H : Heap) (locs : List Loc) (ls : Array Slot), (20 ≤ q ∧ q ≤ lenY (τ 6 c 0) (τ 6 c 1) y) → (∀ z, 20 ≤ z → z < q → ¬ feP (τ 6 c 0) (τ 6 c 1) (τ 6 c 2) (τ 6 c 3) y z) → (102 - q < (nf : Int)) → GM Γ A (up (up (up (up σ 20 0 19 (τ 6 c 0)) 20 0 20 (τ 6 c 1)) 20 0 21 (τ 6 c 2)) 20 0 22 (τ 6 c 3)) zs H locs → lv_has ls 6 [(0, .ref (aM Γ)), (1, .int (zI c)), (2, .int (zI y)), (3, .int (zI q))] → W zp zl ze { frames := 3, cells := 0, slots := 0, locals := 66 } zs zm args below meth zc H locs 0 0 zQ (F0 zm 8 ls []) := by
    intro nf
    induction nf with
    | zero =>
      intro q H locs ls hq hz hm8 _ _
      exact absurd hm8 (by omega)
    | succ nf ih8 =>
      intro q H locs ls hq hz hm8 hG hl
      refine lv_iload_n zC.1 zC.2.1 dX5_feastOf_8 rfl (lv_at hl 3 rfl) ?_
      refine lv_aload_n zC.1 zC.2.1 dX5_feastOf_9 rfl (lv_at hl 0 rfl) ?_
      refine lv_iload_n zC.1 zC.2.1 dX5_feastOf_10 rfl (lv_at hl 2 rfl) ?_
      have k11 := hI.2.2.2.2.2.2.1 c (by omega) (by omega)
      obtain ⟨k11a, k11b, k11c, k11d⟩ := id k11
      refine zr_callV zC hG (c_X5_yearDays (σ := up (up (up (up σ 20 0 19 (τ 6 c 0)) 20 0 20 (τ 6 c 1)) 20 0 21 (τ 6 c 2)) 20 0 22 (τ 6 c 3)) (y := y) k11 (by first | assumption | omega)) mt_X5_yearDays wl_X5_160 pM rfl rfl ⟨by decide, by decide⟩ rfl hl.1 rfl (Nat.le_of_ble_eq_true rfl) dX5_feastOf_11 ⟨Nat.zero_le _, Nat.zero_le _⟩ (fun H locs hG => ?_)
      refine W.eq (g2 := F0 zm 14 ls [.int (zI (lenY (τ 6 c 0) (τ 6 c 1) y)), .int (zI q)]) rfl ?_
      have b11_0 := lenY_r (τ 6 c 0) (τ 6 c 1) y
      refine zr_icmp_ge (tgt := 69) zC dX5_feastOf_14 (by decide) (by omega) (fun c14 => ?_) (fun c14 => ?_)
      · refine zr_bipush zC dX5_feastOf_69 (by decide +kernel) ?_
        exact zr_iret zC zK hG dX5_feastOf_71 (by have e9 : feF (τ 6 c 0) (τ 6 c 1) (τ 6 c 2) (τ 6 c 3) y = -9 := fstI_no (fun z h1 h2 => hz z h1 (by omega)); unfold fea; rw [e9, if_pos rfl]) rfl
      · refine lv_aload_n zC.1 zC.2.1 dX5_feastOf_17 rfl (lv_at hl 0 rfl) ?_
        refine zr_sipush zC dX5_feastOf_18 (by decide +kernel) ?_
        refine lv_iload_n zC.1 zC.2.1 dX5_feastOf_21 rfl (lv_at hl 2 rfl) ?_
        refine zr_imul zC dX5_feastOf_22 ?_
        refine lv_iload_n zC.1 zC.2.1 dX5_feastOf_23 rfl (lv_at hl 3 rfl) ?_
        refine zr_iadd zC dX5_feastOf_24 ?_
        have k25 := hI.2.2.2.2.2.2.1 c (by omega) (by omega)
        obtain ⟨k25a, k25b, k25c, k25d⟩ := id k25
        refine zr_callV zC hG (c_X5_dayOfDate (σ := up (up (up (up σ 20 0 19 (τ 6 c 0)) 20 0 20 (τ 6 c 1)) 20 0 21 (τ 6 c 2)) 20 0 22 (τ 6 c 3)) (t := (1000 * y) + q) k25 (by first | assumption | omega)) mt_X5_dayOfDate wl_X5_163 pM rfl rfl ⟨by decide, by decide⟩ rfl hl.1 rfl (Nat.le_of_ble_eq_true rfl) dX5_feastOf_25 ⟨Nat.zero_le _, Nat.zero_le _⟩ (fun H locs hG => ?_)
        refine W.eq (g2 := F0 zm 28 ls [.int (zI (dyM (dyD (τ 6 c 0) (τ 6 c 1) (τ 6 c 2) (τ 6 c 3) ((1000 * y) + q))))]) rfl ?_
        have b25_0 := dyD_r (k := (τ 6 c 0)) (lp := (τ 6 c 1)) (o := (τ 6 c 2)) (g := (τ 6 c 3)) (t := ((1000 * y) + q)) (by omega) (by omega)
        have b25_1 := dyM_s (dyD (τ 6 c 0) (τ 6 c 1) (τ 6 c 2) (τ 6 c 3) ((1000 * y) + q))
        refine lv_istore (lv' := [(4, .int (zI (dyM (dyD (τ 6 c 0) (τ 6 c 1) (τ 6 c 2) (τ 6 c 3) ((1000 * y) + q))))), (0, .ref (aM Γ)), (1, .int (zI c)), (2, .int (zI y)), (3, .int (zI q))]) zC.1 zC.2.1 dX5_feastOf_28 hl (by decide) rfl (fun ls hl => ?_)
        refine lv_iload zC.1 zC.2.1 dX5_feastOf_30 (lv_at hl 0 rfl) ?_
        refine zr_bipush zC dX5_feastOf_32 (by decide +kernel) ?_
        refine zr_icmp_eq (tgt := 63) zC dX5_feastOf_34 (by decide) (by omega) (fun c34 => ?_) (fun c34 => ?_)
        · refine zr_iinc (lv' := [(3, .int (zI (q + 1))), (4, .int (zI (dyM (dyD (τ 6 c 0) (τ 6 c 1) (τ 6 c 2) (τ 6 c 3) ((1000 * y) + q))))), (0, .ref (aM Γ)), (1, .int (zI c)), (2, .int (zI y))]) zC dX5_feastOf_63 hl (k := 4) rfl (by decide) rfl (fun ls hl => ?_)
          refine lv_goto (tgt := 8) zC.1 zC.2.1 dX5_feastOf_66 (by decide) ?_
          exact ih8 (q + 1) H locs ls (by first | assumption | omega) (fun z h1 h2 => by by_cases w : z < q; exact hz z h1 w; rw [show z = q by omega]; intro w2; exact w2 (by omega)) (by omega) hG (lv_sub hl [2, 3, 4, 0] rfl)
        · refine lv_iload zC.1 zC.2.1 dX5_feastOf_37 (lv_at hl 0 rfl) ?_
          refine lv_iload zC.1 zC.2.1 dX5_feastOf_39 (lv_at hl 0 rfl) ?_
          refine zr_callS zC hG (c_X5_tillFull (σ := up (up (up (up σ 20 0 19 (τ 6 c 0)) 20 0 20 (τ 6 c 1)) 20 0 21 (τ 6 c 2)) 20 0 22 (τ 6 c 3)) (d := dyM (dyD (τ 6 c 0) (τ 6 c 1) (τ 6 c 2) (τ 6 c 3) ((1000 * y) + q))) (by first | assumption | omega)) mt_X5_tillFull wl_X5_223 ⟨by decide, by decide⟩ rfl hl.1 rfl (Nat.le_of_ble_eq_true rfl) dX5_feastOf_41 ⟨Nat.zero_le _, Nat.zero_le _⟩ (fun H locs hG => ?_)
          refine W.eq (g2 := F0 zm 44 ls [.int (zI (tlF (dyM (dyD (τ 6 c 0) (τ 6 c 1) (τ 6 c 2) (τ 6 c 3) ((1000 * y) + q))))), .int (zI (dyM (dyD (τ 6 c 0) (τ 6 c 1) (τ 6 c 2) (τ 6 c 3) ((1000 * y) + q))))]) rfl ?_
          have b41_0 := tlF_r (d := (dyM (dyD (τ 6 c 0) (τ 6 c 1) (τ 6 c 2) (τ 6 c 3) ((1000 * y) + q)))) (by omega)
          refine zr_iadd zC dX5_feastOf_44 ?_
          refine lv_istore (lv' := [(5, .int (zI ((dyM (dyD (τ 6 c 0) (τ 6 c 1) (τ 6 c 2) (τ 6 c 3) ((1000 * y) + q))) + (tlF (dyM (dyD (τ 6 c 0) (τ 6 c 1) (τ 6 c 2) (τ 6 c 3) ((1000 * y) + q))))))), (4, .int (zI (dyM (dyD (τ 6 c 0) (τ 6 c 1) (τ 6 c 2) (τ 6 c 3) ((1000 * y) + q))))), (0, .ref (aM Γ)), (1, .int (zI c)), (2, .int (zI y)), (3, .int (zI q))]) zC.1 zC.2.1 dX5_feastOf_45 hl (by decide) rfl (fun ls hl => ?_)
          refine lv_iload zC.1 zC.2.1 dX5_feastOf_47 (lv_at hl 0 rfl) ?_
          refine zr_sipush zC dX5_feastOf_49 (by decide +kernel) ?_
          refine zr_icmp_gt (tgt := 60) zC dX5_feastOf_52 (by decide) (by omega) (fun c52 => ?_) (fun c52 => ?_)
          · refine zr_bipush zC dX5_feastOf_60 (by decide +kernel) ?_
            exact zr_iret zC zK hG dX5_feastOf_62 (by have e10 : dyM (dyD (τ 6 c 0) (τ 6 c 1) (τ 6 c 2) (τ 6 c 3) (1000 * y + q)) = dyD (τ 6 c 0) (τ 6 c 1) (τ 6 c 2) (τ 6 c 3) (1000 * y + q) := (by omega); have e9 : feF (τ 6 c 0) (τ 6 c 1) (τ 6 c 2) (τ 6 c 3) y = q := fstI_yes (by omega) hq.1 (show feP (τ 6 c 0) (τ 6 c 1) (τ 6 c 2) (τ 6 c 3) y q by omega) hz (by omega); simp only [e10] at c52 ⊢; unfold fea feD; rw [e9, if_neg (by omega)]; first | rw [if_pos (by omega)] | rw [if_neg (by omega)]) rfl
          · refine lv_iload zC.1 zC.2.1 dX5_feastOf_55 (lv_at hl 0 rfl) ?_
            refine lv_goto (tgt := 62) zC.1 zC.2.1 dX5_feastOf_57 (by decide) ?_
            exact zr_iret zC zK hG dX5_feastOf_62 (by have e10 : dyM (dyD (τ 6 c 0) (τ 6 c 1) (τ 6 c 2) (τ 6 c 3) (1000 * y + q)) = dyD (τ 6 c 0) (τ 6 c 1) (τ 6 c 2) (τ 6 c 3) (1000 * y + q) := (by omega); have e9 : feF (τ 6 c 0) (τ 6 c 1) (τ 6 c 2) (τ 6 c 3) y = q := fstI_yes (by omega) hq.1 (show feP (τ 6 c 0) (τ 6 c 1) (τ 6 c 2) (τ 6 c 3) y q by omega) hz (by omega); simp only [e10] at c52 ⊢; unfold fea feD; rw [e9, if_neg (by omega)]; first | rw [if_pos (by omega)] | rw [if_neg (by omega)]) rfl
  exact loop8 ((102 - 20 : Int).toNat + 1) 20 H locs ls (by first | assumption | omega) (fun z h1 h2 => by omega) (by omega) hG (lv_sub hl [1, 2, 3, 0] rfl)

set_option maxHeartbeats 4000000 in
set_option maxRecDepth 100000 in
theorem c_X5_feast {Γ : Gm} {zl : Launch} {A : Nat → Prop} {τ σ : Mm} {c y : Int} (hR : Rel2 τ σ) (hI : IC τ) (hc : -2147483648 ≤ c ∧ c < 2147483648) (hy : -2147483648 ≤ y ∧ y < 2147483648) : Fr Γ zl A yX5_feast cX5_feast 3 (some .int) 4 91 [.ref (aM Γ), .int (zI c), .int (zI y)] σ (some (.int (zI (rC_feast τ c y)))) τ := by
  refine Fr_of (by decide) (Nat.le_of_ble_eq_true rfl) ?_
  intro zp ze zs zm args below meth zc zQ H locs ls zC zK hG hl
  have hl : lv_has ls 3 [(0, .ref (aM Γ)), (1, .int (zI c)), (2, .int (zI y))] := hl
  obtain ⟨hmany, htoday, -⟩ := id hI
  refine lv_aload_n zC.1 zC.2.1 dX5_feast_0 rfl (lv_at hl 0 rfl) ?_
  refine lv_iload_n zC.1 zC.2.1 dX5_feast_1 rfl (lv_at hl 1 rfl) ?_
  refine zr_callV zC hG (c_X5_isTown (τ := τ) (σ := σ) (c := c) hR hI (by first | assumption | omega)) mt_X5_isTown wl_X5_169 pM rfl rfl ⟨by decide, by decide⟩ rfl hl.1 rfl (Nat.le_of_ble_eq_true rfl) dX5_feast_2 ⟨Nat.zero_le _, Nat.zero_le _⟩ (fun H locs hG => ?_)
  refine W.eq (g2 := F0 zm 5 ls [.int (zI (zB (isT τ c)))]) rfl ?_
  refine zr_ifeqB (tgt := 28) zC dX5_feast_5 (by decide) (fun c5 => ?_) (fun c5 => ?_)
  · refine zr_iconst zC dX5_feast_28 ?_
    exact zm_iret zC zK hG dX5_feast_29 (by unfold rC_feast; (repeat' split) <;> first | rfl | omega) hR (sC_r _)
  · refine lv_iload_n zC.1 zC.2.1 dX5_feast_8 rfl (lv_at hl 2 rfl) ?_
    refine zr_iconst zC dX5_feast_9 ?_
    refine zr_sipush zC dX5_feast_10 (by decide +kernel) ?_
    refine zr_callS zC hG (c_X5_in (σ := σ) (v := y) (a := 0) (b := 150) (by first | assumption | omega) (by first | assumption | omega) (by first | assumption | omega)) mt_X5_in wl_X5_60 ⟨by decide, by decide⟩ rfl hl.1 rfl (Nat.le_of_ble_eq_true rfl) dX5_feast_13 ⟨Nat.zero_le _, Nat.zero_le _⟩ (fun H locs hG => ?_)
    refine W.eq (g2 := F0 zm 16 ls [.int (zI (zB (0 ≤ y ∧ y ≤ 150)))]) rfl ?_
    refine zr_ifeqB (tgt := 28) zC dX5_feast_16 (by decide) (fun c16 => ?_) (fun c16 => ?_)
    · refine zr_iconst zC dX5_feast_28 ?_
      exact zm_iret zC zK hG dX5_feast_29 (by unfold rC_feast; (repeat' split) <;> first | rfl | omega) hR (sC_r _)
    · refine lv_aload_n zC.1 zC.2.1 dX5_feast_19 rfl (lv_at hl 0 rfl) ?_
      refine lv_iload_n zC.1 zC.2.1 dX5_feast_20 rfl (lv_at hl 1 rfl) ?_
      refine lv_iload_n zC.1 zC.2.1 dX5_feast_21 rfl (lv_at hl 2 rfl) ?_
      refine zr_callV zC hG (c_X5_feastOf (τ := τ) (σ := σ) (c := c) (y := y) hR hI (by first | assumption | omega) (by first | assumption | omega)) mt_X5_feastOf wl_X5_226 pM rfl rfl ⟨by decide, by decide⟩ rfl hl.1 rfl (Nat.le_of_ble_eq_true rfl) dX5_feast_22 ⟨Nat.zero_le _, Nat.zero_le _⟩ (fun H locs hG => ?_)
      refine W.eq (g2 := F0 zm 25 ls [.int (zI (fea (τ 6 c 0) (τ 6 c 1) (τ 6 c 2) (τ 6 c 3) y))]) rfl ?_
      have b22_0 := fea_r (k := (τ 6 c 0)) (lp := (τ 6 c 1)) (o := (τ 6 c 2)) (g := (τ 6 c 3)) (y := y) (hI.2.2.2.2.2.2.1 c (by omega) (by omega)).2.1 (hI.2.2.2.2.2.2.1 c (by omega) (by omega)).2.2.1.1
      refine lv_goto (tgt := 29) zC.1 zC.2.1 dX5_feast_25 (by decide) ?_
      exact zm_iret zC zK hG dX5_feast_29 (by unfold rC_feast; (repeat' split) <;> first | rfl | omega) hR (sC_up (sC_up (sC_up (sC_up (sC_r _) (by decide)) (by decide)) (by decide)) (by decide))

set_option maxHeartbeats 4000000 in
set_option maxRecDepth 100000 in
theorem c_X5_together {Γ : Gm} {zl : Launch} {A : Nat → Prop} {τ σ : Mm} {c d a b : Int} (hR : Rel2 τ σ) (hI : IC τ) (hc : -2147483648 ≤ c ∧ c < 2147483648) (hd : -2147483648 ≤ d ∧ d < 2147483648) (ha : -2147483648 ≤ a ∧ a < 2147483648) (hb : -2147483648 ≤ b ∧ b < 2147483648) : Fr Γ zl A yX5_together cX5_together 8 (some .int) 4 91 [.ref (aM Γ), .int (zI c), .int (zI d), .int (zI a), .int (zI b)] σ (some (.int (zI (rC_together τ c d a b)))) τ := by
  refine Fr_of (by decide) (Nat.le_of_ble_eq_true rfl) ?_
  intro zp ze zs zm args below meth zc zQ H locs ls zC zK hG hl
  have hl : lv_has ls 8 [(0, .ref (aM Γ)), (1, .int (zI c)), (2, .int (zI d)), (3, .int (zI a)), (4, .int (zI b))] := hl
  obtain ⟨hmany, htoday, -⟩ := id hI
  refine lv_aload_n zC.1 zC.2.1 dX5_together_0 rfl (lv_at hl 0 rfl) ?_
  refine lv_iload_n zC.1 zC.2.1 dX5_together_1 rfl (lv_at hl 1 rfl) ?_
  refine zr_callV zC hG (c_X5_isTown (τ := τ) (σ := σ) (c := c) hR hI (by first | assumption | omega)) mt_X5_isTown wl_X5_169 pM rfl rfl ⟨by decide, by decide⟩ rfl hl.1 rfl (Nat.le_of_ble_eq_true rfl) dX5_together_2 ⟨Nat.zero_le _, Nat.zero_le _⟩ (fun H locs hG => ?_)
  refine W.eq (g2 := F0 zm 5 ls [.int (zI (zB (isT τ c)))]) rfl ?_
  refine zr_ifeqB (tgt := 39) zC dX5_together_5 (by decide) (fun c5 => ?_) (fun c5 => ?_)
  · refine zr_iconst zC dX5_together_39 ?_
    exact zm_iret zC zK hG dX5_together_40 (by unfold rC_together; (repeat' split) <;> first | rfl | omega) hR (sC_r _)
  · refine lv_aload_n zC.1 zC.2.1 dX5_together_8 rfl (lv_at hl 0 rfl) ?_
    refine lv_iload_n zC.1 zC.2.1 dX5_together_9 rfl (lv_at hl 2 rfl) ?_
    refine zr_callV zC hG (c_X5_isTown (τ := τ) (σ := σ) (c := d) hR hI (by first | assumption | omega)) mt_X5_isTown wl_X5_169 pM rfl rfl ⟨by decide, by decide⟩ rfl hl.1 rfl (Nat.le_of_ble_eq_true rfl) dX5_together_10 ⟨Nat.zero_le _, Nat.zero_le _⟩ (fun H locs hG => ?_)
    refine W.eq (g2 := F0 zm 13 ls [.int (zI (zB (isT τ d)))]) rfl ?_
    refine zr_ifeqB (tgt := 39) zC dX5_together_13 (by decide) (fun c13 => ?_) (fun c13 => ?_)
    · refine zr_iconst zC dX5_together_39 ?_
      exact zm_iret zC zK hG dX5_together_40 (by unfold rC_together; (repeat' split) <;> first | rfl | omega) hR (sC_r _)
    · refine lv_iload_n zC.1 zC.2.1 dX5_together_16 rfl (lv_at hl 3 rfl) ?_
      refine zr_iconst zC dX5_together_17 ?_
      refine zr_sipush zC dX5_together_18 (by decide +kernel) ?_
      refine zr_callS zC hG (c_X5_in (σ := σ) (v := a) (a := 0) (b := 150) (by first | assumption | omega) (by first | assumption | omega) (by first | assumption | omega)) mt_X5_in wl_X5_60 ⟨by decide, by decide⟩ rfl hl.1 rfl (Nat.le_of_ble_eq_true rfl) dX5_together_21 ⟨Nat.zero_le _, Nat.zero_le _⟩ (fun H locs hG => ?_)
      refine W.eq (g2 := F0 zm 24 ls [.int (zI (zB (0 ≤ a ∧ a ≤ 150)))]) rfl ?_
      refine zr_ifeqB (tgt := 39) zC dX5_together_24 (by decide) (fun c24 => ?_) (fun c24 => ?_)
      · refine zr_iconst zC dX5_together_39 ?_
        exact zm_iret zC zK hG dX5_together_40 (by unfold rC_together; (repeat' split) <;> first | rfl | omega) hR (sC_r _)
      · refine lv_iload zC.1 zC.2.1 dX5_together_27 (lv_at hl 4 rfl) ?_
        refine lv_iload_n zC.1 zC.2.1 dX5_together_29 rfl (lv_at hl 3 rfl) ?_
        refine zr_sipush zC dX5_together_30 (by decide +kernel) ?_
        refine zr_callS zC hG (c_X5_in (σ := σ) (v := b) (a := a) (b := 150) (by first | assumption | omega) (by first | assumption | omega) (by first | assumption | omega)) mt_X5_in wl_X5_60 ⟨by decide, by decide⟩ rfl hl.1 rfl (Nat.le_of_ble_eq_true rfl) dX5_together_33 ⟨Nat.zero_le _, Nat.zero_le _⟩ (fun H locs hG => ?_)
        refine W.eq (g2 := F0 zm 36 ls [.int (zI (zB (a ≤ b ∧ b ≤ 150)))]) rfl ?_
        refine zr_ifneB (tgt := 41) zC dX5_together_36 (by decide) (fun c36 => ?_) (fun c36 => ?_)
        · refine zr_iconst zC dX5_together_41 ?_
          refine lv_istore (lv' := [(5, .int (zI 0)), (0, .ref (aM Γ)), (1, .int (zI c)), (2, .int (zI d)), (3, .int (zI a)), (4, .int (zI b))]) zC.1 zC.2.1 dX5_together_42 hl (by decide) rfl (fun ls hl => ?_)
          refine lv_iload_n zC.1 zC.2.1 dX5_together_44 rfl (lv_at hl 4 rfl) ?_
          refine lv_istore (lv' := [(6, .int (zI a)), (5, .int (zI 0)), (0, .ref (aM Γ)), (1, .int (zI c)), (2, .int (zI d)), (3, .int (zI a)), (4, .int (zI b))]) zC.1 zC.2.1 dX5_together_45 hl (by decide) rfl (fun ls hl => ?_)
          have loop47 : ∀ (nf : Nat) (u y : Int) (σ47q : Mm) (H : Heap) (locs : List Loc) (ls : Array Slot), (a ≤ y ∧ y ≤ b + 1) → (u = ctI (fun z => fea (τ 6 c 0) (τ 6 c 1) (τ 6 c 2) (τ 6 c 3) z ≠ -9 ∧ fea (τ 6 c 0) (τ 6 c 1) (τ 6 c 2) (τ 6 c 3) z = fea (τ 6 d 0) (τ 6 d 1) (τ 6 d 2) (τ 6 d 3) z) a (y - a).toNat) → (Rel2 τ σ47q) → (sC σ σ47q) → (b + 1 - y < (nf : Int)) → GM Γ A σ47q zs H locs → lv_has ls 8 [(0, .ref (aM Γ)), (1, .int (zI c)), (2, .int (zI d)), (3, .int (zI a)), (4, .int (zI b)), (5, .int (zI u)), (6, .int (zI y))] → W zp zl ze { frames := 4, cells := 0, slots := 0, locals := 91 } zs zm args below meth zc H locs 0 0 zQ (F0 zm 47 ls []) := by
            intro nf
            induction nf with
            | zero =>
              intro u y σ47q H locs ls hy hu hR47q hC47q hm47 _ _
              exact absurd hm47 (by omega)
            | succ nf ih47 =>
              intro u y σ47q H locs ls hy hu hR47q hC47q hm47 hG hl
              refine lv_iload zC.1 zC.2.1 dX5_together_47 (lv_at hl 6 rfl) ?_
              refine lv_iload zC.1 zC.2.1 dX5_together_49 (lv_at hl 4 rfl) ?_
              refine zr_icmp_gt (tgt := 98) zC dX5_together_51 (by decide) (by omega) (fun c51 => ?_) (fun c51 => ?_)
              · refine lv_iload zC.1 zC.2.1 dX5_together_98 (lv_at hl 5 rfl) ?_
                exact zm_iret zC zK hG dX5_together_100 (by unfold rC_together; rw [if_neg (by omega), hu]; congr 1; omega) hR47q hC47q
              · refine lv_aload_n zC.1 zC.2.1 dX5_together_54 rfl (lv_at hl 0 rfl) ?_
                refine lv_iload_n zC.1 zC.2.1 dX5_together_55 rfl (lv_at hl 1 rfl) ?_
                refine lv_iload zC.1 zC.2.1 dX5_together_56 (lv_at hl 6 rfl) ?_
                refine zr_callV zC hG (c_X5_feastOf (τ := τ) (σ := σ47q) (c := c) (y := y) hR47q hI (by first | assumption | omega) (by first | assumption | omega)) mt_X5_feastOf wl_X5_226 pM rfl rfl ⟨by decide, by decide⟩ rfl hl.1 rfl (Nat.le_of_ble_eq_true rfl) dX5_together_58 ⟨Nat.zero_le _, Nat.zero_le _⟩ (fun H locs hG => ?_)
                refine W.eq (g2 := F0 zm 61 ls [.int (zI (fea (τ 6 c 0) (τ 6 c 1) (τ 6 c 2) (τ 6 c 3) y))]) rfl ?_
                have b58_0 := fea_r (k := (τ 6 c 0)) (lp := (τ 6 c 1)) (o := (τ 6 c 2)) (g := (τ 6 c 3)) (y := y) (hI.2.2.2.2.2.2.1 c (by omega) (by omega)).2.1 (hI.2.2.2.2.2.2.1 c (by omega) (by omega)).2.2.1.1
                refine lv_istore (lv' := [(7, .int (zI (fea (τ 6 c 0) (τ 6 c 1) (τ 6 c 2) (τ 6 c 3) y))), (0, .ref (aM Γ)), (1, .int (zI c)), (2, .int (zI d)), (3, .int (zI a)), (4, .int (zI b)), (5, .int (zI u)), (6, .int (zI y))]) zC.1 zC.2.1 dX5_together_61 hl (by decide) rfl (fun ls hl => ?_)
                refine lv_iload zC.1 zC.2.1 dX5_together_63 (lv_at hl 6 rfl) ?_
                refine lv_iload zC.1 zC.2.1 dX5_together_65 (lv_at hl 0 rfl) ?_
                refine zr_bipush zC dX5_together_67 (by decide +kernel) ?_
                refine zr_icmp_eq (tgt := 88) zC dX5_together_69 (by decide) (by omega) (fun c69 => ?_) (fun c69 => ?_)
                · refine zr_iconst zC dX5_together_88 ?_
                  refine zr_iadd zC dX5_together_89 ?_
                  refine lv_istore (lv' := [(5, .int (zI (u + 0))), (7, .int (zI (fea (τ 6 c 0) (τ 6 c 1) (τ 6 c 2) (τ 6 c 3) y))), (0, .ref (aM Γ)), (1, .int (zI c)), (2, .int (zI d)), (3, .int (zI a)), (4, .int (zI b)), (6, .int (zI y))]) zC.1 zC.2.1 dX5_together_90 hl (by decide) rfl (fun ls hl => ?_)
                  refine zr_iinc (lv' := [(6, .int (zI (y + 1))), (5, .int (zI (u + 0))), (7, .int (zI (fea (τ 6 c 0) (τ 6 c 1) (τ 6 c 2) (τ 6 c 3) y))), (0, .ref (aM Γ)), (1, .int (zI c)), (2, .int (zI d)), (3, .int (zI a)), (4, .int (zI b))]) zC dX5_together_92 hl (k := 7) rfl (by decide) rfl (fun ls hl => ?_)
                  refine lv_goto (tgt := 47) zC.1 zC.2.1 dX5_together_95 (by decide) ?_
                  exact ih47 (u + 0) (y + 1) (up (up (up (up σ47q 20 0 19 (τ 6 c 0)) 20 0 20 (τ 6 c 1)) 20 0 21 (τ 6 c 2)) 20 0 22 (τ 6 c 3)) H locs ls (by first | assumption | omega) (by rw [ctI_s hy.1, ← hu]; unfold zB; split <;> omega) hR47q (sC_up (sC_up (sC_up (sC_up hC47q (by decide)) (by decide)) (by decide)) (by decide)) (by omega) hG (lv_sub hl [3, 4, 5, 6, 7, 1, 0] rfl)
                · refine lv_iload zC.1 zC.2.1 dX5_together_72 (lv_at hl 0 rfl) ?_
                  refine lv_aload_n zC.1 zC.2.1 dX5_together_74 rfl (lv_at hl 1 rfl) ?_
                  refine lv_iload_n zC.1 zC.2.1 dX5_together_75 rfl (lv_at hl 3 rfl) ?_
                  refine lv_iload zC.1 zC.2.1 dX5_together_76 (lv_at hl 7 rfl) ?_
                  refine zr_callV zC hG (c_X5_feastOf (τ := τ) (σ := up (up (up (up σ47q 20 0 19 (τ 6 c 0)) 20 0 20 (τ 6 c 1)) 20 0 21 (τ 6 c 2)) 20 0 22 (τ 6 c 3)) (c := d) (y := y) hR47q hI (by first | assumption | omega) (by first | assumption | omega)) mt_X5_feastOf wl_X5_226 pM rfl rfl ⟨by decide, by decide⟩ rfl hl.1 rfl (Nat.le_of_ble_eq_true rfl) dX5_together_78 ⟨Nat.zero_le _, Nat.zero_le _⟩ (fun H locs hG => ?_)
                  refine W.eq (g2 := F0 zm 81 ls [.int (zI (fea (τ 6 d 0) (τ 6 d 1) (τ 6 d 2) (τ 6 d 3) y)), .int (zI (fea (τ 6 c 0) (τ 6 c 1) (τ 6 c 2) (τ 6 c 3) y)), .int (zI u)]) rfl ?_
                  have b78_0 := fea_r (k := (τ 6 d 0)) (lp := (τ 6 d 1)) (o := (τ 6 d 2)) (g := (τ 6 d 3)) (y := y) (hI.2.2.2.2.2.2.1 d (by omega) (by omega)).2.1 (hI.2.2.2.2.2.2.1 d (by omega) (by omega)).2.2.1.1
                  refine zr_icmp_ne (tgt := 88) zC dX5_together_81 (by decide) (by omega) (fun c81 => ?_) (fun c81 => ?_)
                  · refine zr_iconst zC dX5_together_88 ?_
                    refine zr_iadd zC dX5_together_89 ?_
                    refine lv_istore (lv' := [(5, .int (zI (u + 0))), (7, .int (zI (fea (τ 6 c 0) (τ 6 c 1) (τ 6 c 2) (τ 6 c 3) y))), (0, .ref (aM Γ)), (1, .int (zI c)), (2, .int (zI d)), (3, .int (zI a)), (4, .int (zI b)), (6, .int (zI y))]) zC.1 zC.2.1 dX5_together_90 hl (by decide) rfl (fun ls hl => ?_)
                    refine zr_iinc (lv' := [(6, .int (zI (y + 1))), (5, .int (zI (u + 0))), (7, .int (zI (fea (τ 6 c 0) (τ 6 c 1) (τ 6 c 2) (τ 6 c 3) y))), (0, .ref (aM Γ)), (1, .int (zI c)), (2, .int (zI d)), (3, .int (zI a)), (4, .int (zI b))]) zC dX5_together_92 hl (k := 7) rfl (by decide) rfl (fun ls hl => ?_)
                    refine lv_goto (tgt := 47) zC.1 zC.2.1 dX5_together_95 (by decide) ?_
                    exact ih47 (u + 0) (y + 1) (up (up (up (up (up (up (up (up σ47q 20 0 19 (τ 6 c 0)) 20 0 20 (τ 6 c 1)) 20 0 21 (τ 6 c 2)) 20 0 22 (τ 6 c 3)) 20 0 19 (τ 6 d 0)) 20 0 20 (τ 6 d 1)) 20 0 21 (τ 6 d 2)) 20 0 22 (τ 6 d 3)) H locs ls (by first | assumption | omega) (by rw [ctI_s hy.1, ← hu]; unfold zB; split <;> omega) hR47q (sC_up (sC_up (sC_up (sC_up (sC_up (sC_up (sC_up (sC_up hC47q (by decide)) (by decide)) (by decide)) (by decide)) (by decide)) (by decide)) (by decide)) (by decide)) (by omega) hG (lv_sub hl [3, 4, 5, 6, 7, 1, 0] rfl)
                  · refine zr_iconst zC dX5_together_84 ?_
                    refine lv_goto (tgt := 89) zC.1 zC.2.1 dX5_together_85 (by decide) ?_
                    refine zr_iadd zC dX5_together_89 ?_
                    refine lv_istore (lv' := [(5, .int (zI (u + 1))), (7, .int (zI (fea (τ 6 c 0) (τ 6 c 1) (τ 6 c 2) (τ 6 c 3) y))), (0, .ref (aM Γ)), (1, .int (zI c)), (2, .int (zI d)), (3, .int (zI a)), (4, .int (zI b)), (6, .int (zI y))]) zC.1 zC.2.1 dX5_together_90 hl (by decide) rfl (fun ls hl => ?_)
                    refine zr_iinc (lv' := [(6, .int (zI (y + 1))), (5, .int (zI (u + 1))), (7, .int (zI (fea (τ 6 c 0) (τ 6 c 1) (τ 6 c 2) (τ 6 c 3) y))), (0, .ref (aM Γ)), (1, .int (zI c)), (2, .int (zI d)), (3, .int (zI a)), (4, .int (zI b))]) zC dX5_together_92 hl (k := 7) rfl (by decide) rfl (fun ls hl => ?_)
                    refine lv_goto (tgt := 47) zC.1 zC.2.1 dX5_together_95 (by decide) ?_
                    exact ih47 (u + 1) (y + 1) (up (up (up (up (up (up (up (up σ47q 20 0 19 (τ 6 c 0)) 20 0 20 (τ 6 c 1)) 20 0 21 (τ 6 c 2)) 20 0 22 (τ 6 c 3)) 20 0 19 (τ 6 d 0)) 20 0 20 (τ 6 d 1)) 20 0 21 (τ 6 d 2)) 20 0 22 (τ 6 d 3)) H locs ls (by first | assumption | omega) (by rw [ctI_s hy.1, ← hu]; unfold zB; split <;> omega) hR47q (sC_up (sC_up (sC_up (sC_up (sC_up (sC_up (sC_up (sC_up hC47q (by decide)) (by decide)) (by decide)) (by decide)) (by decide)) (by decide)) (by decide)) (by decide)) (by omega) hG (lv_sub hl [3, 4, 5, 6, 7, 1, 0] rfl)
          exact loop47 ((b + 1 - a : Int).toNat + 1) 0 a σ H locs ls (by first | assumption | omega) (by rw [show (a - a).toNat = 0 by omega]; rfl) hR (sC_r _) (by omega) hG (lv_sub hl [2, 3, 4, 5, 6, 1, 0] rfl)
        · refine zr_iconst zC dX5_together_39 ?_
          exact zm_iret zC zK hG dX5_together_40 (by unfold rC_together; (repeat' split) <;> first | rfl | omega) hR (sC_r _)

set_option maxHeartbeats 4000000 in
set_option maxRecDepth 100000 in
theorem c_X5_keeps {Γ : Gm} {zl : Launch} {A : Nat → Prop} {τ σ : Mm} {v k n : Int} (hR : Rel2 τ σ) (hI : IC τ) (hv : -2147483648 ≤ v ∧ v < 2147483648) (hk : -2147483648 ≤ k ∧ k < 2147483648) (hn : -2147483648 ≤ n ∧ n < 2147483648) : Fr Γ zl A yX5_keeps cX5_keeps 7 (some .int) 2 45 [.ref (aM Γ), .int (zI v), .int (zI k), .int (zI n)] σ (some (.int (zI (rC_keeps τ v k n)))) τ := by
  refine Fr_of (by decide) (Nat.le_of_ble_eq_true rfl) ?_
  intro zp ze zs zm args below meth zc zQ H locs ls zC zK hG hl
  have hl : lv_has ls 7 [(0, .ref (aM Γ)), (1, .int (zI v)), (2, .int (zI k)), (3, .int (zI n))] := hl
  obtain ⟨hmany, htoday, -⟩ := id hI
  refine lv_iload_n zC.1 zC.2.1 dX5_keeps_0 rfl (lv_at hl 1 rfl) ?_
  refine zr_iconst zC dX5_keeps_1 ?_
  refine zr_bipush zC dX5_keeps_2 (by decide +kernel) ?_
  refine zr_callS zC hG (c_X5_in (σ := σ) (v := v) (a := 0) (b := 99) (by first | assumption | omega) (by first | assumption | omega) (by first | assumption | omega)) mt_X5_in wl_X5_60 ⟨by decide, by decide⟩ rfl hl.1 rfl (Nat.le_of_ble_eq_true rfl) dX5_keeps_4 ⟨Nat.zero_le _, Nat.zero_le _⟩ (fun H locs hG => ?_)
  refine W.eq (g2 := F0 zm 7 ls [.int (zI (zB (0 ≤ v ∧ v ≤ 99)))]) rfl ?_
  refine zr_ifeqB (tgt := 31) zC dX5_keeps_7 (by decide) (fun c7 => ?_) (fun c7 => ?_)
  · refine zr_iconst zC dX5_keeps_31 ?_
    exact zm_iret zC zK hG dX5_keeps_32 (by unfold rC_keeps; (repeat' split) <;> first | rfl | omega) hR (sC_r _)
  · refine lv_iload_n zC.1 zC.2.1 dX5_keeps_10 rfl (lv_at hl 2 rfl) ?_
    refine zr_iconst zC dX5_keeps_11 ?_
    refine zr_bipush zC dX5_keeps_12 (by decide +kernel) ?_
    refine zr_callS zC hG (c_X5_in (σ := σ) (v := k) (a := 2) (b := 9) (by first | assumption | omega) (by first | assumption | omega) (by first | assumption | omega)) mt_X5_in wl_X5_60 ⟨by decide, by decide⟩ rfl hl.1 rfl (Nat.le_of_ble_eq_true rfl) dX5_keeps_14 ⟨Nat.zero_le _, Nat.zero_le _⟩ (fun H locs hG => ?_)
    refine W.eq (g2 := F0 zm 17 ls [.int (zI (zB (2 ≤ k ∧ k ≤ 9)))]) rfl ?_
    refine zr_ifeqB (tgt := 31) zC dX5_keeps_17 (by decide) (fun c17 => ?_) (fun c17 => ?_)
    · refine zr_iconst zC dX5_keeps_31 ?_
      exact zm_iret zC zK hG dX5_keeps_32 (by unfold rC_keeps; (repeat' split) <;> first | rfl | omega) hR (sC_r _)
    · refine lv_iload_n zC.1 zC.2.1 dX5_keeps_20 rfl (lv_at hl 3 rfl) ?_
      refine zr_iconst zC dX5_keeps_21 ?_
      refine zr_sipush zC dX5_keeps_22 (by decide +kernel) ?_
      refine zr_callS zC hG (c_X5_in (σ := σ) (v := n) (a := 1) (b := 150) (by first | assumption | omega) (by first | assumption | omega) (by first | assumption | omega)) mt_X5_in wl_X5_60 ⟨by decide, by decide⟩ rfl hl.1 rfl (Nat.le_of_ble_eq_true rfl) dX5_keeps_25 ⟨Nat.zero_le _, Nat.zero_le _⟩ (fun H locs hG => ?_)
      refine W.eq (g2 := F0 zm 28 ls [.int (zI (zB (1 ≤ n ∧ n ≤ 150)))]) rfl ?_
      refine zr_ifneB (tgt := 33) zC dX5_keeps_28 (by decide) (fun c28 => ?_) (fun c28 => ?_)
      · refine zr_iconst zC dX5_keeps_33 ?_
        refine lv_istore (lv' := [(4, .int (zI 2)), (0, .ref (aM Γ)), (1, .int (zI v)), (2, .int (zI k)), (3, .int (zI n))]) zC.1 zC.2.1 dX5_keeps_34 hl (by decide) rfl (fun ls hl => ?_)
        have loop36 : ∀ (nf : Nat) (y : Int) (H : Heap) (locs : List Loc) (ls : Array Slot), (2 ≤ y ∧ y ≤ 10) → (∀ z, 2 ≤ z → z < y → ¬ fyo z v k n = -9) → (10 - y < (nf : Int)) → GM Γ A σ zs H locs → lv_has ls 7 [(0, .ref (aM Γ)), (1, .int (zI v)), (2, .int (zI k)), (3, .int (zI n)), (4, .int (zI y))] → W zp zl ze { frames := 2, cells := 0, slots := 0, locals := 45 } zs zm args below meth zc H locs 0 0 zQ (F0 zm 36 ls []) := by
          intro nf
          induction nf with
          | zero =>
            intro y H locs ls hy hz hm36 _ _
            exact absurd hm36 (by omega)
          | succ nf ih36 =>
            intro y H locs ls hy hz hm36 hG hl
            refine lv_iload zC.1 zC.2.1 dX5_keeps_36 (lv_at hl 4 rfl) ?_
            refine zr_bipush zC dX5_keeps_38 (by decide +kernel) ?_
            refine zr_icmp_gt (tgt := 99) zC dX5_keeps_40 (by decide) (by omega) (fun c40 => ?_) (fun c40 => ?_)
            · refine zr_bipush zC dX5_keeps_99 (by decide +kernel) ?_
              exact zm_iret zC zK hG dX5_keeps_101 (by unfold rC_keeps; rw [if_neg (by omega)]; exact fstI_no (P := (fun z => fyo z v k n = -9)) (fun z h1 h2 => hz z h1 (by omega))) hR (sC_r _)
            · refine zr_iconst zC dX5_keeps_43 ?_
              refine lv_istore (lv' := [(5, .int (zI 1)), (0, .ref (aM Γ)), (1, .int (zI v)), (2, .int (zI k)), (3, .int (zI n)), (4, .int (zI y))]) zC.1 zC.2.1 dX5_keeps_44 hl (by decide) rfl (fun ls hl => ?_)
              refine zr_iconst zC dX5_keeps_46 ?_
              refine lv_istore (lv' := [(6, .int (zI 0)), (5, .int (zI 1)), (0, .ref (aM Γ)), (1, .int (zI v)), (2, .int (zI k)), (3, .int (zI n)), (4, .int (zI y))]) zC.1 zC.2.1 dX5_keeps_47 hl (by decide) rfl (fun ls hl => ?_)
              have loop49 : ∀ (nf : Nat) (f q : Int) (H : Heap) (locs : List Loc) (ls : Array Slot), (0 ≤ q ∧ q ≤ n + 1) → ((f = 1 ∧ ctI (offP y v k) 0 (q - 0).toNat = 0) ∨ (f = 0 ∧ ctI (offP y v k) 0 (q - 0).toNat ≠ 0)) → (n + 1 - q < (nf : Int)) → GM Γ A σ zs H locs → lv_has ls 7 [(0, .ref (aM Γ)), (1, .int (zI v)), (2, .int (zI k)), (3, .int (zI n)), (4, .int (zI y)), (5, .int (zI f)), (6, .int (zI q))] → W zp zl ze { frames := 2, cells := 0, slots := 0, locals := 45 } zs zm args below meth zc H locs 0 0 zQ (F0 zm 49 ls []) := by
                intro nf
                induction nf with
                | zero =>
                  intro f q H locs ls hq hf hm49 _ _
                  exact absurd hm49 (by omega)
                | succ nf ih49 =>
                  intro f q H locs ls hq hf hm49 hG hl
                  refine lv_iload zC.1 zC.2.1 dX5_keeps_49 (lv_at hl 6 rfl) ?_
                  refine lv_iload_n zC.1 zC.2.1 dX5_keeps_51 rfl (lv_at hl 3 rfl) ?_
                  refine zr_icmp_gt (tgt := 85) zC dX5_keeps_52 (by decide) (by omega) (fun c52 => ?_) (fun c52 => ?_)
                  · refine lv_iload zC.1 zC.2.1 dX5_keeps_85 (lv_at hl 5 rfl) ?_
                    refine zr_if_eq (tgt := 93) zC dX5_keeps_87 (by decide) (by omega) (fun c87 => ?_) (fun c87 => ?_)
                    · have w87 : ¬ fyo y v k n = -9 := fun z => by have h8 := (fyo_ct (show 0 ≤ n by omega)).mp z; rw [show (q - 0).toNat = (n + 1).toNat by omega] at hf; omega
                      refine zr_iinc (lv' := [(4, .int (zI (y + 1))), (0, .ref (aM Γ)), (1, .int (zI v)), (2, .int (zI k)), (3, .int (zI n)), (5, .int (zI f)), (6, .int (zI q))]) zC dX5_keeps_93 hl (k := 4) rfl (by decide) rfl (fun ls hl => ?_)
                      refine lv_goto (tgt := 36) zC.1 zC.2.1 dX5_keeps_96 (by decide) ?_
                      exact ih36 (y + 1) H locs ls (by first | assumption | omega) (fun z h1 h2 => by by_cases w : z < y; exact hz z h1 w; rw [show z = y by omega]; exact w87) (by omega) hG (lv_sub hl [1, 2, 3, 4, 0] rfl)
                    · have w87 : fyo y v k n = -9 := (fyo_ct (show 0 ≤ n by omega)).mpr (by rw [show (q - 0).toNat = (n + 1).toNat by omega] at hf; omega)
                      refine lv_iload zC.1 zC.2.1 dX5_keeps_90 (lv_at hl 4 rfl) ?_
                      exact zm_iret zC zK hG dX5_keeps_92 (by unfold rC_keeps; rw [if_neg (by omega)]; exact fstI_yes (P := (fun z => fyo z v k n = -9)) (by omega) hy.1 w87 hz (by omega)) hR (sC_r _)
                  · refine lv_iload zC.1 zC.2.1 dX5_keeps_55 (lv_at hl 5 rfl) ?_
                    refine zr_if_eq (tgt := 76) zC dX5_keeps_57 (by decide) (by omega) (fun c57 => ?_) (fun c57 => ?_)
                    · refine zr_iconst zC dX5_keeps_76 ?_
                      refine lv_istore (lv' := [(5, .int (zI 0)), (0, .ref (aM Γ)), (1, .int (zI v)), (2, .int (zI k)), (3, .int (zI n)), (4, .int (zI y)), (6, .int (zI q))]) zC.1 zC.2.1 dX5_keeps_77 hl (by decide) rfl (fun ls hl => ?_)
                      refine zr_iinc (lv' := [(6, .int (zI (q + 1))), (5, .int (zI 0)), (0, .ref (aM Γ)), (1, .int (zI v)), (2, .int (zI k)), (3, .int (zI n)), (4, .int (zI y))]) zC dX5_keeps_79 hl (k := 6) rfl (by decide) rfl (fun ls hl => ?_)
                      refine lv_goto (tgt := 49) zC.1 zC.2.1 dX5_keeps_82 (by decide) ?_
                      exact ih49 0 (q + 1) H locs ls (by first | assumption | omega) (by have h8 := ctI_r (offP y v k) 0 (q - 0).toNat; have h9 := zB_rng (offP y v k q); rw [ctI_s hq.1]; (try rw [zB_t c69]); (try rw [zB_f c69]); omega) (by omega) hG (lv_sub hl [2, 3, 4, 5, 6, 1, 0] rfl)
                    · refine lv_iload zC.1 zC.2.1 dX5_keeps_60 (lv_at hl 4 rfl) ?_
                      refine lv_iload zC.1 zC.2.1 dX5_keeps_62 (lv_at hl 6 rfl) ?_
                      refine lv_iload_n zC.1 zC.2.1 dX5_keeps_64 rfl (lv_at hl 1 rfl) ?_
                      refine lv_iload_n zC.1 zC.2.1 dX5_keeps_65 rfl (lv_at hl 2 rfl) ?_
                      refine zr_callS zC hG (c_X5_isOff (σ := σ) (lp := y) (y := q) (v := v) (k := k) (by first | assumption | omega) (by first | assumption | omega) (by first | assumption | omega) (by first | assumption | omega)) mt_X5_isOff wl_X5_229 ⟨by decide, by decide⟩ rfl hl.1 rfl (Nat.le_of_ble_eq_true rfl) dX5_keeps_66 ⟨Nat.zero_le _, Nat.zero_le _⟩ (fun H locs hG => ?_)
                      refine W.eq (g2 := F0 zm 69 ls [.int (zI (zB (offP y v k q)))]) rfl ?_
                      refine zr_ifneB (tgt := 76) zC dX5_keeps_69 (by decide) (fun c69 => ?_) (fun c69 => ?_)
                      · refine zr_iconst zC dX5_keeps_76 ?_
                        refine lv_istore (lv' := [(5, .int (zI 0)), (0, .ref (aM Γ)), (1, .int (zI v)), (2, .int (zI k)), (3, .int (zI n)), (4, .int (zI y)), (6, .int (zI q))]) zC.1 zC.2.1 dX5_keeps_77 hl (by decide) rfl (fun ls hl => ?_)
                        refine zr_iinc (lv' := [(6, .int (zI (q + 1))), (5, .int (zI 0)), (0, .ref (aM Γ)), (1, .int (zI v)), (2, .int (zI k)), (3, .int (zI n)), (4, .int (zI y))]) zC dX5_keeps_79 hl (k := 6) rfl (by decide) rfl (fun ls hl => ?_)
                        refine lv_goto (tgt := 49) zC.1 zC.2.1 dX5_keeps_82 (by decide) ?_
                        exact ih49 0 (q + 1) H locs ls (by first | assumption | omega) (by have h8 := ctI_r (offP y v k) 0 (q - 0).toNat; have h9 := zB_rng (offP y v k q); rw [ctI_s hq.1]; (try rw [zB_t c69]); (try rw [zB_f c69]); omega) (by omega) hG (lv_sub hl [2, 3, 4, 5, 6, 1, 0] rfl)
                      · refine zr_iconst zC dX5_keeps_72 ?_
                        refine lv_goto (tgt := 77) zC.1 zC.2.1 dX5_keeps_73 (by decide) ?_
                        refine lv_istore (lv' := [(5, .int (zI 1)), (0, .ref (aM Γ)), (1, .int (zI v)), (2, .int (zI k)), (3, .int (zI n)), (4, .int (zI y)), (6, .int (zI q))]) zC.1 zC.2.1 dX5_keeps_77 hl (by decide) rfl (fun ls hl => ?_)
                        refine zr_iinc (lv' := [(6, .int (zI (q + 1))), (5, .int (zI 1)), (0, .ref (aM Γ)), (1, .int (zI v)), (2, .int (zI k)), (3, .int (zI n)), (4, .int (zI y))]) zC dX5_keeps_79 hl (k := 6) rfl (by decide) rfl (fun ls hl => ?_)
                        refine lv_goto (tgt := 49) zC.1 zC.2.1 dX5_keeps_82 (by decide) ?_
                        exact ih49 1 (q + 1) H locs ls (by first | assumption | omega) (by have h8 := ctI_r (offP y v k) 0 (q - 0).toNat; have h9 := zB_rng (offP y v k q); rw [ctI_s hq.1]; (try rw [zB_t c69]); (try rw [zB_f c69]); omega) (by omega) hG (lv_sub hl [2, 3, 4, 5, 6, 1, 0] rfl)
              exact loop49 ((n + 1 - 0 : Int).toNat + 1) 1 0 H locs ls (by first | assumption | omega) (Or.inl ⟨rfl, rfl⟩) (by omega) hG (lv_sub hl [2, 3, 4, 5, 6, 1, 0] rfl)
        exact loop36 ((10 - 2 : Int).toNat + 1) 2 H locs ls (by first | assumption | omega) (fun z h1 h2 => by omega) (by omega) hG (lv_sub hl [1, 2, 3, 4, 0] rfl)
      · refine zr_iconst zC dX5_keeps_31 ?_
        exact zm_iret zC zK hG dX5_keeps_32 (by unfold rC_keeps; (repeat' split) <;> first | rfl | omega) hR (sC_r _)

set_option maxHeartbeats 4000000 in
set_option maxRecDepth 100000 in
theorem c_X5_fails {Γ : Gm} {zl : Launch} {A : Nat → Prop} {τ σ : Mm} {lp v k : Int} (hR : Rel2 τ σ) (hI : IC τ) (hlp : -2147483648 ≤ lp ∧ lp < 2147483648) (hv : -2147483648 ≤ v ∧ v < 2147483648) (hk : -2147483648 ≤ k ∧ k < 2147483648) : Fr Γ zl A yX5_fails cX5_fails 5 (some .int) 2 45 [.ref (aM Γ), .int (zI lp), .int (zI v), .int (zI k)] σ (some (.int (zI (rC_fails τ lp v k)))) τ := by
  refine Fr_of (by decide) (Nat.le_of_ble_eq_true rfl) ?_
  intro zp ze zs zm args below meth zc zQ H locs ls zC zK hG hl
  have hl : lv_has ls 5 [(0, .ref (aM Γ)), (1, .int (zI lp)), (2, .int (zI v)), (3, .int (zI k))] := hl
  obtain ⟨hmany, htoday, -⟩ := id hI
  refine lv_iload_n zC.1 zC.2.1 dX5_fails_0 rfl (lv_at hl 1 rfl) ?_
  refine zr_iconst zC dX5_fails_1 ?_
  refine zr_bipush zC dX5_fails_2 (by decide +kernel) ?_
  refine zr_callS zC hG (c_X5_in (σ := σ) (v := lp) (a := 2) (b := 9) (by first | assumption | omega) (by first | assumption | omega) (by first | assumption | omega)) mt_X5_in wl_X5_60 ⟨by decide, by decide⟩ rfl hl.1 rfl (Nat.le_of_ble_eq_true rfl) dX5_fails_4 ⟨Nat.zero_le _, Nat.zero_le _⟩ (fun H locs hG => ?_)
  refine W.eq (g2 := F0 zm 7 ls [.int (zI (zB (2 ≤ lp ∧ lp ≤ 9)))]) rfl ?_
  refine zr_ifeqB (tgt := 30) zC dX5_fails_7 (by decide) (fun c7 => ?_) (fun c7 => ?_)
  · refine zr_iconst zC dX5_fails_30 ?_
    exact zm_iret zC zK hG dX5_fails_31 (by unfold rC_fails; (repeat' split) <;> first | rfl | omega) hR (sC_r _)
  · refine lv_iload_n zC.1 zC.2.1 dX5_fails_10 rfl (lv_at hl 2 rfl) ?_
    refine zr_iconst zC dX5_fails_11 ?_
    refine zr_bipush zC dX5_fails_12 (by decide +kernel) ?_
    refine zr_callS zC hG (c_X5_in (σ := σ) (v := v) (a := 0) (b := 99) (by first | assumption | omega) (by first | assumption | omega) (by first | assumption | omega)) mt_X5_in wl_X5_60 ⟨by decide, by decide⟩ rfl hl.1 rfl (Nat.le_of_ble_eq_true rfl) dX5_fails_14 ⟨Nat.zero_le _, Nat.zero_le _⟩ (fun H locs hG => ?_)
    refine W.eq (g2 := F0 zm 17 ls [.int (zI (zB (0 ≤ v ∧ v ≤ 99)))]) rfl ?_
    refine zr_ifeqB (tgt := 30) zC dX5_fails_17 (by decide) (fun c17 => ?_) (fun c17 => ?_)
    · refine zr_iconst zC dX5_fails_30 ?_
      exact zm_iret zC zK hG dX5_fails_31 (by unfold rC_fails; (repeat' split) <;> first | rfl | omega) hR (sC_r _)
    · refine lv_iload_n zC.1 zC.2.1 dX5_fails_20 rfl (lv_at hl 3 rfl) ?_
      refine zr_iconst zC dX5_fails_21 ?_
      refine zr_bipush zC dX5_fails_22 (by decide +kernel) ?_
      refine zr_callS zC hG (c_X5_in (σ := σ) (v := k) (a := 2) (b := 9) (by first | assumption | omega) (by first | assumption | omega) (by first | assumption | omega)) mt_X5_in wl_X5_60 ⟨by decide, by decide⟩ rfl hl.1 rfl (Nat.le_of_ble_eq_true rfl) dX5_fails_24 ⟨Nat.zero_le _, Nat.zero_le _⟩ (fun H locs hG => ?_)
      refine W.eq (g2 := F0 zm 27 ls [.int (zI (zB (2 ≤ k ∧ k ≤ 9)))]) rfl ?_
      refine zr_ifneB (tgt := 32) zC dX5_fails_27 (by decide) (fun c27 => ?_) (fun c27 => ?_)
      · refine zr_iconst zC dX5_fails_32 ?_
        refine lv_istore (lv' := [(4, .int (zI 0)), (0, .ref (aM Γ)), (1, .int (zI lp)), (2, .int (zI v)), (3, .int (zI k))]) zC.1 zC.2.1 dX5_fails_33 hl (by decide) rfl (fun ls hl => ?_)
        have loop35 : ∀ (nf : Nat) (q : Int) (H : Heap) (locs : List Loc) (ls : Array Slot), (0 ≤ q ∧ q ≤ 151) → (∀ z, 0 ≤ z → z < q → ¬ offP lp v k z) → (151 - q < (nf : Int)) → GM Γ A σ zs H locs → lv_has ls 5 [(0, .ref (aM Γ)), (1, .int (zI lp)), (2, .int (zI v)), (3, .int (zI k)), (4, .int (zI q))] → W zp zl ze { frames := 2, cells := 0, slots := 0, locals := 45 } zs zm args below meth zc H locs 0 0 zQ (F0 zm 35 ls []) := by
          intro nf
          induction nf with
          | zero =>
            intro q H locs ls hq hz hm35 _ _
            exact absurd hm35 (by omega)
          | succ nf ih35 =>
            intro q H locs ls hq hz hm35 hG hl
            refine lv_iload zC.1 zC.2.1 dX5_fails_35 (lv_at hl 4 rfl) ?_
            refine zr_sipush zC dX5_fails_37 (by decide +kernel) ?_
            refine zr_icmp_gt (tgt := 63) zC dX5_fails_40 (by decide) (by omega) (fun c40 => ?_) (fun c40 => ?_)
            · refine zr_bipush zC dX5_fails_63 (by decide +kernel) ?_
              exact zm_iret zC zK hG dX5_fails_65 (by unfold rC_fails; rw [if_neg (by omega)]; unfold fyo; exact fstI_no (fun z h1 h2 => hz z h1 (by omega))) hR (sC_r _)
            · refine lv_iload_n zC.1 zC.2.1 dX5_fails_43 rfl (lv_at hl 1 rfl) ?_
              refine lv_iload zC.1 zC.2.1 dX5_fails_44 (lv_at hl 4 rfl) ?_
              refine lv_iload_n zC.1 zC.2.1 dX5_fails_46 rfl (lv_at hl 2 rfl) ?_
              refine lv_iload_n zC.1 zC.2.1 dX5_fails_47 rfl (lv_at hl 3 rfl) ?_
              refine zr_callS zC hG (c_X5_isOff (σ := σ) (lp := lp) (y := q) (v := v) (k := k) (by first | assumption | omega) (by first | assumption | omega) (by first | assumption | omega) (by first | assumption | omega)) mt_X5_isOff wl_X5_229 ⟨by decide, by decide⟩ rfl hl.1 rfl (Nat.le_of_ble_eq_true rfl) dX5_fails_48 ⟨Nat.zero_le _, Nat.zero_le _⟩ (fun H locs hG => ?_)
              refine W.eq (g2 := F0 zm 51 ls [.int (zI (zB (offP lp v k q)))]) rfl ?_
              refine zr_ifeqB (tgt := 57) zC dX5_fails_51 (by decide) (fun c51 => ?_) (fun c51 => ?_)
              · refine zr_iinc (lv' := [(4, .int (zI (q + 1))), (0, .ref (aM Γ)), (1, .int (zI lp)), (2, .int (zI v)), (3, .int (zI k))]) zC dX5_fails_57 hl (k := 4) rfl (by decide) rfl (fun ls hl => ?_)
                refine lv_goto (tgt := 35) zC.1 zC.2.1 dX5_fails_60 (by decide) ?_
                exact ih35 (q + 1) H locs ls (by first | assumption | omega) (fun z h1 h2 => by by_cases w : z < q; exact hz z h1 w; rw [show z = q by omega]; exact c51) (by omega) hG (lv_sub hl [1, 2, 3, 4, 0] rfl)
              · refine lv_iload zC.1 zC.2.1 dX5_fails_54 (lv_at hl 4 rfl) ?_
                exact zm_iret zC zK hG dX5_fails_56 (by unfold rC_fails; rw [if_neg (by omega)]; unfold fyo; exact fstI_yes (by omega) hq.1 c51 hz (by omega)) hR (sC_r _)
        exact loop35 ((151 - 0 : Int).toNat + 1) 0 H locs ls (by first | assumption | omega) (fun z h1 h2 => by omega) (by omega) hG (lv_sub hl [1, 2, 3, 4, 0] rfl)
      · refine zr_iconst zC dX5_fails_30 ?_
        exact zm_iret zC zK hG dX5_fails_31 (by unfold rC_fails; (repeat' split) <;> first | rfl | omega) hR (sC_r _)

set_option maxHeartbeats 4000000 in
set_option maxRecDepth 100000 in
theorem c_X5_lots {Γ : Gm} {zl : Launch} {A : Nat → Prop} {τ σ : Mm} {c d n v : Int} (hR : Rel2 τ σ) (hI : IC τ) (hc : -2147483648 ≤ c ∧ c < 2147483648) (hd : -2147483648 ≤ d ∧ d < 2147483648) (hn : -2147483648 ≤ n ∧ n < 2147483648) (hv : -2147483648 ≤ v ∧ v < 2147483648) : Fr Γ zl A yX5_lots cX5_lots 9 (some .int) 6 129 [.ref (aM Γ), .int (zI c), .int (zI d), .int (zI n), .int (zI v)] σ (some (.int (zI (rC_lots τ c d n v)))) τ := by
  refine Fr_of (by decide) (Nat.le_of_ble_eq_true rfl) ?_
  intro zp ze zs zm args below meth zc zQ H locs ls zC zK hG hl
  have hl : lv_has ls 9 [(0, .ref (aM Γ)), (1, .int (zI c)), (2, .int (zI d)), (3, .int (zI n)), (4, .int (zI v))] := hl
  obtain ⟨hmany, htoday, -⟩ := id hI
  refine lv_aload_n zC.1 zC.2.1 dX5_lots_0 rfl (lv_at hl 0 rfl) ?_
  refine lv_iload_n zC.1 zC.2.1 dX5_lots_1 rfl (lv_at hl 1 rfl) ?_
  refine zr_callV zC hG (c_X5_isTown (τ := τ) (σ := σ) (c := c) hR hI (by first | assumption | omega)) mt_X5_isTown wl_X5_169 pM rfl rfl ⟨by decide, by decide⟩ rfl hl.1 rfl (Nat.le_of_ble_eq_true rfl) dX5_lots_2 ⟨Nat.zero_le _, Nat.zero_le _⟩ (fun H locs hG => ?_)
  refine W.eq (g2 := F0 zm 5 ls [.int (zI (zB (isT τ c)))]) rfl ?_
  refine zr_ifeqB (tgt := 37) zC dX5_lots_5 (by decide) (fun c5 => ?_) (fun c5 => ?_)
  · refine zr_iconst zC dX5_lots_37 ?_
    exact zm_iret zC zK hG dX5_lots_38 (by unfold rC_lots; (repeat' split) <;> first | rfl | omega) hR (sC_r _)
  · refine lv_aload_n zC.1 zC.2.1 dX5_lots_8 rfl (lv_at hl 0 rfl) ?_
    refine lv_iload_n zC.1 zC.2.1 dX5_lots_9 rfl (lv_at hl 2 rfl) ?_
    refine zr_callV zC hG (c_X5_isTown (τ := τ) (σ := σ) (c := d) hR hI (by first | assumption | omega)) mt_X5_isTown wl_X5_169 pM rfl rfl ⟨by decide, by decide⟩ rfl hl.1 rfl (Nat.le_of_ble_eq_true rfl) dX5_lots_10 ⟨Nat.zero_le _, Nat.zero_le _⟩ (fun H locs hG => ?_)
    refine W.eq (g2 := F0 zm 13 ls [.int (zI (zB (isT τ d)))]) rfl ?_
    refine zr_ifeqB (tgt := 37) zC dX5_lots_13 (by decide) (fun c13 => ?_) (fun c13 => ?_)
    · refine zr_iconst zC dX5_lots_37 ?_
      exact zm_iret zC zK hG dX5_lots_38 (by unfold rC_lots; (repeat' split) <;> first | rfl | omega) hR (sC_r _)
    · refine lv_iload_n zC.1 zC.2.1 dX5_lots_16 rfl (lv_at hl 3 rfl) ?_
      refine zr_iconst zC dX5_lots_17 ?_
      refine zr_bipush zC dX5_lots_18 (by decide +kernel) ?_
      refine zr_callS zC hG (c_X5_in (σ := σ) (v := n) (a := 1) (b := 40) (by first | assumption | omega) (by first | assumption | omega) (by first | assumption | omega)) mt_X5_in wl_X5_60 ⟨by decide, by decide⟩ rfl hl.1 rfl (Nat.le_of_ble_eq_true rfl) dX5_lots_20 ⟨Nat.zero_le _, Nat.zero_le _⟩ (fun H locs hG => ?_)
      refine W.eq (g2 := F0 zm 23 ls [.int (zI (zB (1 ≤ n ∧ n ≤ 40)))]) rfl ?_
      refine zr_ifeqB (tgt := 37) zC dX5_lots_23 (by decide) (fun c23 => ?_) (fun c23 => ?_)
      · refine zr_iconst zC dX5_lots_37 ?_
        exact zm_iret zC zK hG dX5_lots_38 (by unfold rC_lots; (repeat' split) <;> first | rfl | omega) hR (sC_r _)
      · refine lv_iload zC.1 zC.2.1 dX5_lots_26 (lv_at hl 4 rfl) ?_
        refine zr_iconst zC dX5_lots_28 ?_
        refine zr_ldc (z := 2147483646) zC wl_X5_233 (by decide +kernel) dX5_lots_29 ?_
        refine zr_callS zC hG (c_X5_in (σ := σ) (v := v) (a := 1) (b := 2147483646) (by first | assumption | omega) (by first | assumption | omega) (by first | assumption | omega)) mt_X5_in wl_X5_60 ⟨by decide, by decide⟩ rfl hl.1 rfl (Nat.le_of_ble_eq_true rfl) dX5_lots_31 ⟨Nat.zero_le _, Nat.zero_le _⟩ (fun H locs hG => ?_)
        refine W.eq (g2 := F0 zm 34 ls [.int (zI (zB (1 ≤ v ∧ v ≤ 2147483646)))]) rfl ?_
        refine zr_ifneB (tgt := 39) zC dX5_lots_34 (by decide) (fun c34 => ?_) (fun c34 => ?_)
        · refine lv_iload zC.1 zC.2.1 dX5_lots_39 (lv_at hl 4 rfl) ?_
          refine zr_i2l zC dX5_lots_41 (by omega) ?_
          refine lv_lstore (lv' := [(5, .long (zL v)), (0, .ref (aM Γ)), (1, .int (zI c)), (2, .int (zI d)), (3, .int (zI n)), (4, .int (zI v))]) zC.1 zC.2.1 dX5_lots_42 hl (by decide) rfl (fun ls hl => ?_)
          refine zr_iconst zC dX5_lots_44 ?_
          refine lv_istore (lv' := [(7, .int (zI 0)), (5, .long (zL v)), (0, .ref (aM Γ)), (1, .int (zI c)), (2, .int (zI d)), (3, .int (zI n)), (4, .int (zI v))]) zC.1 zC.2.1 dX5_lots_45 hl (by decide) rfl (fun ls hl => ?_)
          refine zr_iconst zC dX5_lots_47 ?_
          refine lv_istore (lv' := [(8, .int (zI 0)), (7, .int (zI 0)), (5, .long (zL v)), (0, .ref (aM Γ)), (1, .int (zI c)), (2, .int (zI d)), (3, .int (zI n)), (4, .int (zI v))]) zC.1 zC.2.1 dX5_lots_48 hl (by decide) rfl (fun ls hl => ?_)
          have loop50 : ∀ (nf : Nat) (w u q : Int) (σ50q : Mm) (H : Heap) (locs : List Loc) (ls : Array Slot), (0 ≤ q ∧ q ≤ n) → (w = lotI v q.toNat) → (u = ctI (fun z => dtD (τ 6 c 0) (τ 6 c 1) (τ 6 c 2) (τ 6 c 3) (lotI v (z + 1).toNat % 20000) = dtD (τ 6 d 0) (τ 6 d 1) (τ 6 d 2) (τ 6 d 3) (lotI v (z + 1).toNat % 20000)) 0 (q - 0).toNat) → (Rel2 τ σ50q) → (sC σ σ50q) → (n - q < (nf : Int)) → GM Γ A σ50q zs H locs → lv_has ls 9 [(0, .ref (aM Γ)), (1, .int (zI c)), (2, .int (zI d)), (3, .int (zI n)), (4, .int (zI v)), (5, .long (zL w)), (7, .int (zI u)), (8, .int (zI q))] → W zp zl ze { frames := 6, cells := 0, slots := 0, locals := 129 } zs zm args below meth zc H locs 0 0 zQ (F0 zm 50 ls []) := by
            intro nf
            induction nf with
            | zero =>
              intro w u q σ50q H locs ls hq hw hu hR50q hC50q hm50 _ _
              exact absurd hm50 (by omega)
            | succ nf ih50 =>
              intro w u q σ50q H locs ls hq hw hu hR50q hC50q hm50 hG hl
              have b50 := lotI_r (s := v) (by omega) q.toNat
              rw [← hw] at b50
              refine lv_iload zC.1 zC.2.1 dX5_lots_50 (lv_at hl 7 rfl) ?_
              refine lv_iload_n zC.1 zC.2.1 dX5_lots_52 rfl (lv_at hl 3 rfl) ?_
              refine zr_icmp_ge (tgt := 100) zC dX5_lots_53 (by decide) (by omega) (fun c53 => ?_) (fun c53 => ?_)
              · refine lv_iload zC.1 zC.2.1 dX5_lots_100 (lv_at hl 6 rfl) ?_
                exact zm_iret zC zK hG dX5_lots_102 (by unfold rC_lots; rw [if_neg (by omega), hu]; congr 1; omega) hR50q hC50q
              · refine zr_ldc2 (z := 48271) zC wl_X5_234 (by decide +kernel) dX5_lots_56 ?_
                refine lv_lload zC.1 zC.2.1 dX5_lots_59 (lv_at hl 5 rfl) ?_
                refine zr_lmul zC dX5_lots_61 ?_
                refine zr_ldc2 (z := 2147483647) zC wl_X5_236 (by decide +kernel) dX5_lots_62 ?_
                refine zr_lrem zC dX5_lots_65 (by omega) ?_
                refine zr_topl (y := w * 48271 % 2147483647) (by omega) ?_
                refine lv_lstore (lv' := [(5, .long (zL (w * 48271 % 2147483647))), (0, .ref (aM Γ)), (1, .int (zI c)), (2, .int (zI d)), (3, .int (zI n)), (4, .int (zI v)), (7, .int (zI u)), (8, .int (zI q))]) zC.1 zC.2.1 dX5_lots_66 hl (by decide) rfl (fun ls hl => ?_)
                refine lv_iload zC.1 zC.2.1 dX5_lots_68 (lv_at hl 6 rfl) ?_
                refine lv_aload_n zC.1 zC.2.1 dX5_lots_70 rfl (lv_at hl 1 rfl) ?_
                refine lv_iload_n zC.1 zC.2.1 dX5_lots_71 rfl (lv_at hl 2 rfl) ?_
                refine lv_iload_n zC.1 zC.2.1 dX5_lots_72 rfl (lv_at hl 3 rfl) ?_
                refine lv_lload zC.1 zC.2.1 dX5_lots_73 (lv_at hl 0 rfl) ?_
                refine zr_ldc2 (z := 20000) zC wl_X5_238 (by decide +kernel) dX5_lots_75 ?_
                refine zr_lrem zC dX5_lots_78 (by omega) ?_
                refine zr_l2i zC dX5_lots_79 ?_
                refine zm_callV zC hG (c_X5_doAgree (τ := τ) (σ := σ50q) (c := c) (d := d) (x := (w * 48271 % 2147483647) % 20000) hR50q hI (by first | assumption | omega) (by first | assumption | omega) (by first | assumption | omega)) mt_X5_doAgree wl_X5_198 pM rfl rfl ⟨by decide, by decide⟩ rfl hl.1 rfl (Nat.le_of_ble_eq_true rfl) dX5_lots_80 ⟨Nat.zero_le _, Nat.zero_le _⟩ (fun σ80 H locs hR80 hC80 hG => ?_)
                refine W.eq (g2 := F0 zm 83 ls [.int (zI (zB (dtD (τ 6 c 0) (τ 6 c 1) (τ 6 c 2) (τ 6 c 3) ((w * 48271 % 2147483647) % 20000) = dtD (τ 6 d 0) (τ 6 d 1) (τ 6 d 2) (τ 6 d 3) ((w * 48271 % 2147483647) % 20000)))), .int (zI u)]) rfl ?_
                refine zr_ifeqB (tgt := 90) zC dX5_lots_83 (by decide) (fun c83 => ?_) (fun c83 => ?_)
                · refine zr_iconst zC dX5_lots_90 ?_
                  refine zr_iadd zC dX5_lots_91 ?_
                  refine lv_istore (lv' := [(7, .int (zI (u + 0))), (5, .long (zL (w * 48271 % 2147483647))), (0, .ref (aM Γ)), (1, .int (zI c)), (2, .int (zI d)), (3, .int (zI n)), (4, .int (zI v)), (8, .int (zI q))]) zC.1 zC.2.1 dX5_lots_92 hl (by decide) rfl (fun ls hl => ?_)
                  refine zr_iinc (lv' := [(8, .int (zI (q + 1))), (7, .int (zI (u + 0))), (5, .long (zL (w * 48271 % 2147483647))), (0, .ref (aM Γ)), (1, .int (zI c)), (2, .int (zI d)), (3, .int (zI n)), (4, .int (zI v))]) zC dX5_lots_94 hl (k := 7) rfl (by decide) rfl (fun ls hl => ?_)
                  refine lv_goto (tgt := 50) zC.1 zC.2.1 dX5_lots_97 (by decide) ?_
                  exact ih50 (w * 48271 % 2147483647) (u + 0) (q + 1) σ80 H locs ls (by first | assumption | omega) (by rw [lotI_s hq.1, ← hw]) (by rw [ctI_s hq.1, ← hu]; unfold zB; simp only [lotI_s hq.1, ← hw]; split <;> omega) hR80 (sC_t hC50q hC80) (by omega) hG (lv_sub hl [3, 4, 5, 6, 7, 2, 1, 0] rfl)
                · refine zr_iconst zC dX5_lots_86 ?_
                  refine lv_goto (tgt := 91) zC.1 zC.2.1 dX5_lots_87 (by decide) ?_
                  refine zr_iadd zC dX5_lots_91 ?_
                  refine lv_istore (lv' := [(7, .int (zI (u + 1))), (5, .long (zL (w * 48271 % 2147483647))), (0, .ref (aM Γ)), (1, .int (zI c)), (2, .int (zI d)), (3, .int (zI n)), (4, .int (zI v)), (8, .int (zI q))]) zC.1 zC.2.1 dX5_lots_92 hl (by decide) rfl (fun ls hl => ?_)
                  refine zr_iinc (lv' := [(8, .int (zI (q + 1))), (7, .int (zI (u + 1))), (5, .long (zL (w * 48271 % 2147483647))), (0, .ref (aM Γ)), (1, .int (zI c)), (2, .int (zI d)), (3, .int (zI n)), (4, .int (zI v))]) zC dX5_lots_94 hl (k := 7) rfl (by decide) rfl (fun ls hl => ?_)
                  refine lv_goto (tgt := 50) zC.1 zC.2.1 dX5_lots_97 (by decide) ?_
                  exact ih50 (w * 48271 % 2147483647) (u + 1) (q + 1) σ80 H locs ls (by first | assumption | omega) (by rw [lotI_s hq.1, ← hw]) (by rw [ctI_s hq.1, ← hu]; unfold zB; simp only [lotI_s hq.1, ← hw]; split <;> omega) hR80 (sC_t hC50q hC80) (by omega) hG (lv_sub hl [3, 4, 5, 6, 7, 2, 1, 0] rfl)
          exact loop50 ((n - 0 : Int).toNat + 1) v 0 0 σ H locs ls (by first | assumption | omega) rfl rfl hR (sC_r _) (by omega) hG (lv_sub hl [3, 4, 5, 6, 7, 2, 1, 0] rfl)
        · refine zr_iconst zC dX5_lots_37 ?_
          exact zm_iret zC zK hG dX5_lots_38 (by unfold rC_lots; (repeat' split) <;> first | rfl | omega) hR (sC_r _)

set_option maxHeartbeats 4000000 in
set_option maxRecDepth 100000 in
theorem c_X5_copy {Γ : Gm} {zl : Launch} {A : Nat → Prop} {τ σ : Mm} {r x y j n : Int} (hR : Rel2 τ σ) (hI : IC τ) (hr : -2147483648 ≤ r ∧ r < 2147483648) (hx : -2147483648 ≤ x ∧ x < 2147483648) (hy : -2147483648 ≤ y ∧ y < 2147483648) (hj : -2147483648 ≤ j ∧ j < 2147483648) (hn : -2147483648 ≤ n ∧ n < 2147483648) : Fr Γ zl A yX5_copy cX5_copy 7 (some .int) 2 42 [.ref (aM Γ), .int (zI r), .int (zI x), .int (zI y), .int (zI j), .int (zI n)] σ (some (.int (zI (rC_copy τ r x y j n)))) (mC_copy τ r x y j n) := by
  refine Fr_of (by decide) (Nat.le_of_ble_eq_true rfl) ?_
  intro zp ze zs zm args below meth zc zQ H locs ls zC zK hG hl
  have hl : lv_has ls 7 [(0, .ref (aM Γ)), (1, .int (zI r)), (2, .int (zI x)), (3, .int (zI y)), (4, .int (zI j)), (5, .int (zI n))] := hl
  obtain ⟨hmany, htoday, -⟩ := id hI
  refine lv_iload_n zC.1 zC.2.1 dX5_copy_0 rfl (lv_at hl 1 rfl) ?_
  refine zr_callS zC hG (c_X5_isRow (σ := σ) (v := r) (by first | assumption | omega)) mt_X5_isRow wl_X5_64 ⟨by decide, by decide⟩ rfl hl.1 rfl (Nat.le_of_ble_eq_true rfl) dX5_copy_1 ⟨Nat.zero_le _, Nat.zero_le _⟩ (fun H locs hG => ?_)
  refine W.eq (g2 := F0 zm 4 ls [.int (zI (zB (0 ≤ r ∧ r ≤ 5)))]) rfl ?_
  refine zr_ifeqB (tgt := 14) zC dX5_copy_4 (by decide) (fun c4 => ?_) (fun c4 => ?_)
  · refine zr_iconst zC dX5_copy_14 ?_
    exact zm_iret zC zK hG dX5_copy_15 (by unfold rC_copy; (repeat' split) <;> first | rfl | omega) (by unfold mC_copy; (repeat' split) <;> first | exact hR | (exfalso; omega)) (sC_r _)
  · refine lv_iload_n zC.1 zC.2.1 dX5_copy_7 rfl (lv_at hl 3 rfl) ?_
    refine zr_callS zC hG (c_X5_isRow (σ := σ) (v := y) (by first | assumption | omega)) mt_X5_isRow wl_X5_64 ⟨by decide, by decide⟩ rfl hl.1 rfl (Nat.le_of_ble_eq_true rfl) dX5_copy_8 ⟨Nat.zero_le _, Nat.zero_le _⟩ (fun H locs hG => ?_)
    refine W.eq (g2 := F0 zm 11 ls [.int (zI (zB (0 ≤ y ∧ y ≤ 5)))]) rfl ?_
    refine zr_ifneB (tgt := 16) zC dX5_copy_11 (by decide) (fun c11 => ?_) (fun c11 => ?_)
    · refine lv_iload zC.1 zC.2.1 dX5_copy_16 (lv_at hl 5 rfl) ?_
      refine zr_if_ge (tgt := 27) zC dX5_copy_18 (by decide) (by omega) (fun c18 => ?_) (fun c18 => ?_)
      · refine lv_aload_n zC.1 zC.2.1 dX5_copy_27 rfl (lv_at hl 0 rfl) ?_
        refine gf_M_sizes zC hG wl_X5_17 dX5_copy_28 ?_
        refine lv_iload_n zC.1 zC.2.1 dX5_copy_31 rfl (lv_at hl 1 rfl) ?_
        refine gi_m_sizes (v := szM (τ 2 r 1)) zC hG (by omega) (hR.2.2.1 r (by omega) (by omega)) dX5_copy_32 ?_
        have f32 := hI.2.2.1 r (by omega) (by omega)
        have f32s := szM_s (τ 2 r 1)
        refine zr_if_lt (tgt := 45) zC dX5_copy_33 (by decide) (by omega) (fun c33 => ?_) (fun c33 => ?_)
        · refine lv_aload_n zC.1 zC.2.1 dX5_copy_45 rfl (lv_at hl 0 rfl) ?_
          refine zr_iconst zC dX5_copy_46 ?_
          refine zr_callV zC hG (c_X5_meet (σ := σ) (f := 1) (by first | assumption | omega)) mt_X5_meet wl_X5_68 pM rfl rfl ⟨by decide, by decide⟩ rfl hl.1 rfl (Nat.le_of_ble_eq_true rfl) dX5_copy_47 ⟨Nat.zero_le _, Nat.zero_le _⟩ (fun H locs hG => ?_)
          refine W.eq (g2 := F0 zm 50 ls [.int (zI (-3))]) rfl ?_
          exact zm_iret zC zK hG dX5_copy_50 (by unfold rC_copy; (repeat' split) <;> first | rfl | omega) (by unfold mC_copy; (repeat' split) <;> first | exact (rl_fd hR (by omega)) | (exfalso; omega)) (sC_up (sC_up (sC_r _) (by decide)) (by decide))
        · refine lv_aload_n zC.1 zC.2.1 dX5_copy_36 rfl (lv_at hl 0 rfl) ?_
          refine gf_M_sizes zC hG wl_X5_17 dX5_copy_37 ?_
          refine lv_iload_n zC.1 zC.2.1 dX5_copy_40 rfl (lv_at hl 3 rfl) ?_
          refine gi_m_sizes (v := szM (τ 2 y 1)) zC hG (by omega) (hR.2.2.1 y (by omega) (by omega)) dX5_copy_41 ?_
          have f41 := hI.2.2.1 y (by omega) (by omega)
          have f41s := szM_s (τ 2 y 1)
          refine zr_if_ge (tgt := 51) zC dX5_copy_42 (by decide) (by omega) (fun c42 => ?_) (fun c42 => ?_)
          · refine lv_iload_n zC.1 zC.2.1 dX5_copy_51 rfl (lv_at hl 2 rfl) ?_
            refine zr_if_lt (tgt := 95) zC dX5_copy_52 (by decide) (by omega) (fun c52 => ?_) (fun c52 => ?_)
            · refine lv_aload_n zC.1 zC.2.1 dX5_copy_95 rfl (lv_at hl 0 rfl) ?_
              refine zr_iconst zC dX5_copy_96 ?_
              refine zr_callV zC hG (c_X5_meet (σ := σ) (f := 2) (by first | assumption | omega)) mt_X5_meet wl_X5_68 pM rfl rfl ⟨by decide, by decide⟩ rfl hl.1 rfl (Nat.le_of_ble_eq_true rfl) dX5_copy_97 ⟨Nat.zero_le _, Nat.zero_le _⟩ (fun H locs hG => ?_)
              refine W.eq (g2 := F0 zm 100 ls [.int (zI (-3))]) rfl ?_
              exact zm_iret zC zK hG dX5_copy_100 (by unfold rC_copy; (repeat' split) <;> first | rfl | omega) (by unfold mC_copy; (repeat' split) <;> first | exact (rl_fd hR (by omega)) | (exfalso; omega)) (sC_up (sC_up (sC_r _) (by decide)) (by decide))
            · refine lv_iload zC.1 zC.2.1 dX5_copy_55 (lv_at hl 4 rfl) ?_
              refine zr_if_lt (tgt := 95) zC dX5_copy_57 (by decide) (by omega) (fun c57 => ?_) (fun c57 => ?_)
              · refine lv_aload_n zC.1 zC.2.1 dX5_copy_95 rfl (lv_at hl 0 rfl) ?_
                refine zr_iconst zC dX5_copy_96 ?_
                refine zr_callV zC hG (c_X5_meet (σ := σ) (f := 2) (by first | assumption | omega)) mt_X5_meet wl_X5_68 pM rfl rfl ⟨by decide, by decide⟩ rfl hl.1 rfl (Nat.le_of_ble_eq_true rfl) dX5_copy_97 ⟨Nat.zero_le _, Nat.zero_le _⟩ (fun H locs hG => ?_)
                refine W.eq (g2 := F0 zm 100 ls [.int (zI (-3))]) rfl ?_
                exact zm_iret zC zK hG dX5_copy_100 (by unfold rC_copy; (repeat' split) <;> first | rfl | omega) (by unfold mC_copy; (repeat' split) <;> first | exact (rl_fd hR (by omega)) | (exfalso; omega)) (sC_up (sC_up (sC_r _) (by decide)) (by decide))
              · refine lv_iload_n zC.1 zC.2.1 dX5_copy_60 rfl (lv_at hl 2 rfl) ?_
                refine zr_i2l zC dX5_copy_61 (by omega) ?_
                refine lv_iload zC.1 zC.2.1 dX5_copy_62 (lv_at hl 5 rfl) ?_
                refine zr_i2l zC dX5_copy_64 (by omega) ?_
                refine zr_ladd zC dX5_copy_65 ?_
                refine lv_aload_n zC.1 zC.2.1 dX5_copy_66 rfl (lv_at hl 0 rfl) ?_
                refine gf_M_sizes zC hG wl_X5_17 dX5_copy_67 ?_
                refine lv_iload_n zC.1 zC.2.1 dX5_copy_70 rfl (lv_at hl 1 rfl) ?_
                refine gi_m_sizes (v := szM (τ 2 r 1)) zC hG (by omega) (hR.2.2.1 r (by omega) (by omega)) dX5_copy_71 ?_
                have f71 := hI.2.2.1 r (by omega) (by omega)
                have f71s := szM_s (τ 2 r 1)
                refine zr_i2l zC dX5_copy_72 (by omega) ?_
                refine zr_lcmp zC dX5_copy_73 (by omega) ?_
                refine zr_if_gt (tgt := 95) zC dX5_copy_74 (by decide) (by omega) (fun c74 => ?_) (fun c74 => ?_)
                · have w74 := lc_gt c74
                  refine lv_aload_n zC.1 zC.2.1 dX5_copy_95 rfl (lv_at hl 0 rfl) ?_
                  refine zr_iconst zC dX5_copy_96 ?_
                  refine zr_callV zC hG (c_X5_meet (σ := σ) (f := 2) (by first | assumption | omega)) mt_X5_meet wl_X5_68 pM rfl rfl ⟨by decide, by decide⟩ rfl hl.1 rfl (Nat.le_of_ble_eq_true rfl) dX5_copy_97 ⟨Nat.zero_le _, Nat.zero_le _⟩ (fun H locs hG => ?_)
                  refine W.eq (g2 := F0 zm 100 ls [.int (zI (-3))]) rfl ?_
                  exact zm_iret zC zK hG dX5_copy_100 (by unfold rC_copy; (repeat' split) <;> first | rfl | omega) (by unfold mC_copy; (repeat' split) <;> first | exact (rl_fd hR (by omega)) | (exfalso; omega)) (sC_up (sC_up (sC_r _) (by decide)) (by decide))
                · have w74 := lc_le c74
                  refine lv_iload zC.1 zC.2.1 dX5_copy_77 (lv_at hl 4 rfl) ?_
                  refine zr_i2l zC dX5_copy_79 (by omega) ?_
                  refine lv_iload zC.1 zC.2.1 dX5_copy_80 (lv_at hl 5 rfl) ?_
                  refine zr_i2l zC dX5_copy_82 (by omega) ?_
                  refine zr_ladd zC dX5_copy_83 ?_
                  refine lv_aload_n zC.1 zC.2.1 dX5_copy_84 rfl (lv_at hl 0 rfl) ?_
                  refine gf_M_sizes zC hG wl_X5_17 dX5_copy_85 ?_
                  refine lv_iload_n zC.1 zC.2.1 dX5_copy_88 rfl (lv_at hl 3 rfl) ?_
                  refine gi_m_sizes (v := szM (τ 2 y 1)) zC hG (by omega) (hR.2.2.1 y (by omega) (by omega)) dX5_copy_89 ?_
                  have f89 := hI.2.2.1 y (by omega) (by omega)
                  have f89s := szM_s (τ 2 y 1)
                  refine zr_i2l zC dX5_copy_90 (by omega) ?_
                  refine zr_lcmp zC dX5_copy_91 (by omega) ?_
                  refine zr_if_le (tgt := 101) zC dX5_copy_92 (by decide) (by omega) (fun c92 => ?_) (fun c92 => ?_)
                  · have w92 := lc_le c92
                    refine zr_iconst zC dX5_copy_101 ?_
                    refine lv_istore (lv' := [(6, .int (zI 0)), (0, .ref (aM Γ)), (1, .int (zI r)), (2, .int (zI x)), (3, .int (zI y)), (4, .int (zI j)), (5, .int (zI n))]) zC.1 zC.2.1 dX5_copy_102 hl (by decide) rfl (fun ls hl => ?_)
                    have loop104 : ∀ (nf : Nat) (q : Int) (σ104q : Mm) (H : Heap) (locs : List Loc) (ls : Array Slot), (0 ≤ q ∧ q ≤ n) → (∀ z, 0 ≤ z → z < q → σ104q 24 0 z = τ 3 r (x + z)) → (Rel2 τ σ104q) → (sC σ σ104q) → (n - q < (nf : Int)) → GM Γ A σ104q zs H locs → lv_has ls 7 [(0, .ref (aM Γ)), (1, .int (zI r)), (2, .int (zI x)), (3, .int (zI y)), (4, .int (zI j)), (5, .int (zI n)), (6, .int (zI q))] → W zp zl ze { frames := 2, cells := 0, slots := 0, locals := 42 } zs zm args below meth zc H locs 0 0 zQ (F0 zm 104 ls []) := by
                      intro nf
                      induction nf with
                      | zero =>
                        intro q σ104q H locs ls hq hv hR104q hC104q hm104 _ _
                        exact absurd hm104 (by omega)
                      | succ nf ih104 =>
                        intro q σ104q H locs ls hq hv hR104q hC104q hm104 hG hl
                        refine lv_iload zC.1 zC.2.1 dX5_copy_104 (lv_at hl 6 rfl) ?_
                        refine lv_iload zC.1 zC.2.1 dX5_copy_106 (lv_at hl 5 rfl) ?_
                        refine zr_icmp_ge (tgt := 133) zC dX5_copy_108 (by decide) (by omega) (fun c108 => ?_) (fun c108 => ?_)
                        · refine zr_iconst zC dX5_copy_133 ?_
                          refine lv_istore (lv' := [(6, .int (zI 0)), (0, .ref (aM Γ)), (1, .int (zI r)), (2, .int (zI x)), (3, .int (zI y)), (4, .int (zI j)), (5, .int (zI n))]) zC.1 zC.2.1 dX5_copy_134 hl (by decide) rfl (fun ls hl => ?_)
                          have loop136 : ∀ (nf : Nat) (q : Int) (σ136q : Mm) (H : Heap) (locs : List Loc) (ls : Array Slot), (0 ≤ q ∧ q ≤ n) → (∀ z, 0 ≤ z → z < n → σ136q 24 0 z = τ 3 r (x + z)) → (Rel2 (mCpy τ r x y j q) σ136q) → (sC σ σ136q) → (n - q < (nf : Int)) → GM Γ A σ136q zs H locs → lv_has ls 7 [(0, .ref (aM Γ)), (1, .int (zI r)), (2, .int (zI x)), (3, .int (zI y)), (4, .int (zI j)), (5, .int (zI n)), (6, .int (zI q))] → W zp zl ze { frames := 2, cells := 0, slots := 0, locals := 42 } zs zm args below meth zc H locs 0 0 zQ (F0 zm 136 ls []) := by
                            intro nf
                            induction nf with
                            | zero =>
                              intro q σ136q H locs ls hq hv hR136q hC136q hm136 _ _
                              exact absurd hm136 (by omega)
                            | succ nf ih136 =>
                              intro q σ136q H locs ls hq hv hR136q hC136q hm136 hG hl
                              refine lv_iload zC.1 zC.2.1 dX5_copy_136 (lv_at hl 6 rfl) ?_
                              refine lv_iload zC.1 zC.2.1 dX5_copy_138 (lv_at hl 5 rfl) ?_
                              refine zr_icmp_ge (tgt := 166) zC dX5_copy_140 (by decide) (by omega) (fun c140 => ?_) (fun c140 => ?_)
                              · refine zr_iconst zC dX5_copy_166 ?_
                                exact zm_iret zC zK hG dX5_copy_167 (by unfold rC_copy; (repeat' split) <;> first | rfl | omega) (by unfold mC_copy; rw [if_neg (by omega), if_neg (by omega), if_neg (by omega), if_neg (by omega)]; rw [show q = n by omega] at hR136q; exact hR136q) hC136q
                              · refine lv_aload_n zC.1 zC.2.1 dX5_copy_143 rfl (lv_at hl 0 rfl) ?_
                                refine lv_iload_n zC.1 zC.2.1 dX5_copy_144 rfl (lv_at hl 3 rfl) ?_
                                refine lv_iload zC.1 zC.2.1 dX5_copy_145 (lv_at hl 4 rfl) ?_
                                refine lv_iload zC.1 zC.2.1 dX5_copy_147 (lv_at hl 6 rfl) ?_
                                refine zr_iadd zC dX5_copy_149 ?_
                                refine lv_aload_n zC.1 zC.2.1 dX5_copy_150 rfl (lv_at hl 0 rfl) ?_
                                refine gf_M_moving zC hG wl_X5_23 dX5_copy_151 ?_
                                refine lv_iload zC.1 zC.2.1 dX5_copy_154 (lv_at hl 6 rfl) ?_
                                refine gi_m_moving (v := τ 3 r (x + q)) zC hG (by omega) (hv q (by omega) (by omega)) dX5_copy_156 ?_
                                refine zr_callV zC hG (c_X5_setRow (σ := σ136q) (r := y) (x := j + q) (v := τ 3 r (x + q)) (by first | assumption | omega) (by first | assumption | omega)) mt_X5_setRow wl_X5_75 pM rfl rfl ⟨by decide, by decide⟩ rfl hl.1 rfl (Nat.le_of_ble_eq_true rfl) dX5_copy_157 ⟨Nat.zero_le _, Nat.zero_le _⟩ (fun H locs hG => ?_)
                                refine W.eq (g2 := F0 zm 160 ls []) rfl ?_
                                refine zr_iinc (lv' := [(6, .int (zI (q + 1))), (0, .ref (aM Γ)), (1, .int (zI r)), (2, .int (zI x)), (3, .int (zI y)), (4, .int (zI j)), (5, .int (zI n))]) zC dX5_copy_160 hl (k := 6) rfl (by decide) rfl (fun ls hl => ?_)
                                refine lv_goto (tgt := 136) zC.1 zC.2.1 dX5_copy_163 (by decide) ?_
                                exact ih136 (q + 1) (up σ136q 23 0 ((40 * y) + (j + q)) (τ 3 r (x + q))) H locs ls (by first | assumption | omega) (fun z h1 h2 => hv z h1 h2) ((show up (mCpy τ r x y j q) 3 y (j + q) (τ 3 r (x + q)) = mCpy τ r x y j (q + 1) from (mCpy_s τ r x y j q (by omega))) ▸ (rl_row hR136q (by omega) (by omega))) (sC_up hC136q (by decide)) (by omega) hG (lv_sub hl [1, 2, 3, 4, 5, 6, 0] rfl)
                          exact loop136 ((n - 0 : Int).toNat + 1) 0 σ104q H locs ls (by first | assumption | omega) (fun z h1 h2 => hv z h1 (by omega)) ((show τ = mCpy τ r x y j 0 from (mCpy_0 τ r x y j)) ▸ hR104q) hC104q (by omega) hG (lv_sub hl [1, 2, 3, 4, 5, 6, 0] rfl)
                        · refine lv_aload_n zC.1 zC.2.1 dX5_copy_111 rfl (lv_at hl 0 rfl) ?_
                          refine gf_M_moving zC hG wl_X5_23 dX5_copy_112 ?_
                          refine lv_iload zC.1 zC.2.1 dX5_copy_115 (lv_at hl 6 rfl) ?_
                          refine lv_aload_n zC.1 zC.2.1 dX5_copy_117 rfl (lv_at hl 0 rfl) ?_
                          refine lv_iload_n zC.1 zC.2.1 dX5_copy_118 rfl (lv_at hl 1 rfl) ?_
                          refine lv_iload_n zC.1 zC.2.1 dX5_copy_119 rfl (lv_at hl 2 rfl) ?_
                          refine lv_iload zC.1 zC.2.1 dX5_copy_120 (lv_at hl 6 rfl) ?_
                          refine zr_iadd zC dX5_copy_122 ?_
                          refine zr_callV zC hG (c_X5_rowAt (τ := τ) (σ := σ104q) (r := r) (x := x + q) hR104q hI (by first | assumption | omega) (by first | assumption | omega)) mt_X5_rowAt wl_X5_82 pM rfl rfl ⟨by decide, by decide⟩ rfl hl.1 rfl (Nat.le_of_ble_eq_true rfl) dX5_copy_123 ⟨Nat.zero_le _, Nat.zero_le _⟩ (fun H locs hG => ?_)
                          refine W.eq (g2 := F0 zm 126 ls [.int (zI (τ 3 r (x + q))), .int (zI q), .ref (am_moving Γ)]) rfl ?_
                          have b123_0 := hI.2.2.2.1 r (x + q) (by omega) (by omega) (by omega) (by omega)
                          refine pi_m_moving zC hG (by omega) dX5_copy_126 (fun H locs hG => ?_)
                          refine zr_iinc (lv' := [(6, .int (zI (q + 1))), (0, .ref (aM Γ)), (1, .int (zI r)), (2, .int (zI x)), (3, .int (zI y)), (4, .int (zI j)), (5, .int (zI n))]) zC dX5_copy_127 hl (k := 6) rfl (by decide) rfl (fun ls hl => ?_)
                          refine lv_goto (tgt := 104) zC.1 zC.2.1 dX5_copy_130 (by decide) ?_
                          exact ih104 (q + 1) (up σ104q 24 0 q (τ 3 r (x + q))) H locs ls (by first | assumption | omega) (fun z h1 h2 => by by_cases w : z = q; rw [w, up_s]; rw [up_j w]; exact hv z h1 (by omega)) hR104q (sC_up hC104q (by decide)) (by omega) hG (lv_sub hl [1, 2, 3, 4, 5, 6, 0] rfl)
                    exact loop104 ((n - 0 : Int).toNat + 1) 0 σ H locs ls (by first | assumption | omega) (fun z h1 h2 => by omega) hR (sC_r _) (by omega) hG (lv_sub hl [1, 2, 3, 4, 5, 6, 0] rfl)
                  · have w92 := lc_gt c92
                    refine lv_aload_n zC.1 zC.2.1 dX5_copy_95 rfl (lv_at hl 0 rfl) ?_
                    refine zr_iconst zC dX5_copy_96 ?_
                    refine zr_callV zC hG (c_X5_meet (σ := σ) (f := 2) (by first | assumption | omega)) mt_X5_meet wl_X5_68 pM rfl rfl ⟨by decide, by decide⟩ rfl hl.1 rfl (Nat.le_of_ble_eq_true rfl) dX5_copy_97 ⟨Nat.zero_le _, Nat.zero_le _⟩ (fun H locs hG => ?_)
                    refine W.eq (g2 := F0 zm 100 ls [.int (zI (-3))]) rfl ?_
                    exact zm_iret zC zK hG dX5_copy_100 (by unfold rC_copy; (repeat' split) <;> first | rfl | omega) (by unfold mC_copy; (repeat' split) <;> first | exact (rl_fd hR (by omega)) | (exfalso; omega)) (sC_up (sC_up (sC_r _) (by decide)) (by decide))
          · refine lv_aload_n zC.1 zC.2.1 dX5_copy_45 rfl (lv_at hl 0 rfl) ?_
            refine zr_iconst zC dX5_copy_46 ?_
            refine zr_callV zC hG (c_X5_meet (σ := σ) (f := 1) (by first | assumption | omega)) mt_X5_meet wl_X5_68 pM rfl rfl ⟨by decide, by decide⟩ rfl hl.1 rfl (Nat.le_of_ble_eq_true rfl) dX5_copy_47 ⟨Nat.zero_le _, Nat.zero_le _⟩ (fun H locs hG => ?_)
            refine W.eq (g2 := F0 zm 50 ls [.int (zI (-3))]) rfl ?_
            exact zm_iret zC zK hG dX5_copy_50 (by unfold rC_copy; (repeat' split) <;> first | rfl | omega) (by unfold mC_copy; (repeat' split) <;> first | exact (rl_fd hR (by omega)) | (exfalso; omega)) (sC_up (sC_up (sC_r _) (by decide)) (by decide))
      · refine lv_aload_n zC.1 zC.2.1 dX5_copy_21 rfl (lv_at hl 0 rfl) ?_
        refine zr_iconst zC dX5_copy_22 ?_
        refine zr_callV zC hG (c_X5_meet (σ := σ) (f := 5) (by first | assumption | omega)) mt_X5_meet wl_X5_68 pM rfl rfl ⟨by decide, by decide⟩ rfl hl.1 rfl (Nat.le_of_ble_eq_true rfl) dX5_copy_23 ⟨Nat.zero_le _, Nat.zero_le _⟩ (fun H locs hG => ?_)
        refine W.eq (g2 := F0 zm 26 ls [.int (zI (-3))]) rfl ?_
        exact zm_iret zC zK hG dX5_copy_26 (by unfold rC_copy; (repeat' split) <;> first | rfl | omega) (by unfold mC_copy; (repeat' split) <;> first | exact (rl_fd hR (by omega)) | (exfalso; omega)) (sC_up (sC_up (sC_r _) (by decide)) (by decide))
    · refine zr_iconst zC dX5_copy_14 ?_
      exact zm_iret zC zK hG dX5_copy_15 (by unfold rC_copy; (repeat' split) <;> first | rfl | omega) (by unfold mC_copy; (repeat' split) <;> first | exact hR | (exfalso; omega)) (sC_r _)

set_option maxHeartbeats 4000000 in
set_option maxRecDepth 100000 in
theorem c_X5_tells {Γ : Gm} {zl : Launch} {A : Nat → Prop} {τ σ : Mm} {w : Int} (hR : Rel2 τ σ) (hI : IC τ) (hw : 0 ≤ w ∧ w ≤ 6) : Fn Γ zl A yX5_tells cX5_tells 5 (some .int) 1 23 [.ref (aM Γ), .int (zI w)] σ (some (.int (zI (rC_count τ w)))) σ := by
  refine Fn_of (by decide) (Nat.le_of_ble_eq_true rfl) ?_
  intro zp ze zs zm args below meth zc zQ H locs ls zC zK hG hl
  have hl : lv_has ls 5 [(0, .ref (aM Γ)), (1, .int (zI w))] := hl
  obtain ⟨hmany, htoday, -⟩ := id hI
  refine zr_iconst zC dX5_tells_0 ?_
  refine lv_istore_n (lv' := [(2, .int (zI 0)), (0, .ref (aM Γ)), (1, .int (zI w))]) zC.1 zC.2.1 dX5_tells_1 rfl hl (by decide) rfl (fun ls hl => ?_)
  refine zr_iconst zC dX5_tells_2 ?_
  refine lv_istore_n (lv' := [(3, .int (zI 0)), (2, .int (zI 0)), (0, .ref (aM Γ)), (1, .int (zI w))]) zC.1 zC.2.1 dX5_tells_3 rfl hl (by decide) rfl (fun ls hl => ?_)
  have loop4 : ∀ (nf : Nat) (u q : Int) (H : Heap) (locs : List Loc) (ls : Array Slot), (0 ≤ q ∧ q ≤ 6) → (u = ctI (fun z => tlP τ w z) 0 (q - 0).toNat) → (6 - q < (nf : Int)) → GM Γ A σ zs H locs → lv_has ls 5 [(0, .ref (aM Γ)), (1, .int (zI w)), (2, .int (zI u)), (3, .int (zI q))] → W zp zl ze { frames := 1, cells := 0, slots := 0, locals := 23 } zs zm args below meth zc H locs 0 0 zQ (F0 zm 4 ls []) := by
    intro nf
    induction nf with
    | zero =>
      intro u q H locs ls hq hu hm4 _ _
      exact absurd hm4 (by omega)
    | succ nf ih4 =>
      intro u q H locs ls hq hu hm4 hG hl
      refine lv_iload_n zC.1 zC.2.1 dX5_tells_4 rfl (lv_at hl 3 rfl) ?_
      refine zr_bipush zC dX5_tells_5 (by decide +kernel) ?_
      refine zr_icmp_ge (tgt := 130) zC dX5_tells_7 (by decide) (by omega) (fun c7 => ?_) (fun c7 => ?_)
      · refine lv_iload_n zC.1 zC.2.1 dX5_tells_130 rfl (lv_at hl 1 rfl) ?_
        refine zr_if_ne (tgt := 141) zC dX5_tells_131 (by decide) (by omega) (fun c131 => ?_) (fun c131 => ?_)
        · refine lv_iload_n zC.1 zC.2.1 dX5_tells_141 rfl (lv_at hl 1 rfl) ?_
          refine zr_iconst zC dX5_tells_142 ?_
          refine zr_icmp_ne (tgt := 153) zC dX5_tells_143 (by decide) (by omega) (fun c143 => ?_) (fun c143 => ?_)
          · refine lv_iload_n zC.1 zC.2.1 dX5_tells_153 rfl (lv_at hl 2 rfl) ?_
            exact zr_iret zC zK hG dX5_tells_154 (by rw [← tl_c hI (by omega), hu, show (q - 0).toNat = 6 by omega]) rfl
          · refine lv_aload_n zC.1 zC.2.1 dX5_tells_146 rfl (lv_at hl 0 rfl) ?_
            refine gf_M_today (v := τ 0 0 7) zC hG wl_X5_119 hR.1.2.2.2.2.2 dX5_tells_147 ?_
            refine lv_goto (tgt := 154) zC.1 zC.2.1 dX5_tells_150 (by decide) ?_
            exact zr_iret zC zK hG dX5_tells_154 (by unfold rC_count; first | rw [if_pos (by omega)] | rw [if_neg (by omega), if_pos (by omega)]) rfl
        · refine lv_aload_n zC.1 zC.2.1 dX5_tells_134 rfl (lv_at hl 0 rfl) ?_
          refine gf_M_many (v := τ 0 0 6) zC hG wl_X5_116 hR.1.2.2.2.2.1 dX5_tells_135 ?_
          refine lv_goto (tgt := 154) zC.1 zC.2.1 dX5_tells_138 (by decide) ?_
          exact zr_iret zC zK hG dX5_tells_154 (by unfold rC_count; first | rw [if_pos (by omega)] | rw [if_neg (by omega), if_pos (by omega)]) rfl
      · refine lv_iload_n zC.1 zC.2.1 dX5_tells_10 rfl (lv_at hl 3 rfl) ?_
        refine lv_aload_n zC.1 zC.2.1 dX5_tells_11 rfl (lv_at hl 0 rfl) ?_
        refine gf_M_many (v := τ 0 0 6) zC hG wl_X5_116 hR.1.2.2.2.2.1 dX5_tells_12 ?_
        refine zr_icmp_ge (tgt := 50) zC dX5_tells_15 (by decide) (by omega) (fun c15 => ?_) (fun c15 => ?_)
        · refine zr_iconst zC dX5_tells_50 ?_
          refine lv_istore (lv' := [(4, .int (zI 0)), (0, .ref (aM Γ)), (1, .int (zI w)), (2, .int (zI u)), (3, .int (zI q))]) zC.1 zC.2.1 dX5_tells_51 hl (by decide) rfl (fun ls hl => ?_)
          refine lv_iload_n zC.1 zC.2.1 dX5_tells_53 rfl (lv_at hl 3 rfl) ?_
          refine lv_iload zC.1 zC.2.1 dX5_tells_54 (lv_at hl 0 rfl) ?_
          refine zr_if_ne (tgt := 117) zC dX5_tells_56 (by decide) (by omega) (fun c56 => ?_) (fun c56 => ?_)
          · refine zr_iconst zC dX5_tells_117 ?_
            refine lv_goto (tgt := 122) zC.1 zC.2.1 dX5_tells_118 (by decide) ?_
            refine zr_iadd zC dX5_tells_122 ?_
            refine lv_istore_n (lv' := [(2, .int (zI (u + 1))), (4, .int (zI 0)), (0, .ref (aM Γ)), (1, .int (zI w)), (3, .int (zI q))]) zC.1 zC.2.1 dX5_tells_123 rfl hl (by decide) rfl (fun ls hl => ?_)
            refine zr_iinc (lv' := [(3, .int (zI (q + 1))), (2, .int (zI (u + 1))), (4, .int (zI 0)), (0, .ref (aM Γ)), (1, .int (zI w))]) zC dX5_tells_124 hl (k := 4) rfl (by decide) rfl (fun ls hl => ?_)
            refine lv_goto (tgt := 4) zC.1 zC.2.1 dX5_tells_127 (by decide) ?_
            exact ih4 (u + 1) (q + 1) H locs ls (by first | assumption | omega) (by rw [ctI_s hq.1, ← hu]; unfold zB; split <;> omega) (by omega) hG (lv_sub hl [3, 4, 1, 0] rfl)
          · refine lv_iload_n zC.1 zC.2.1 dX5_tells_59 rfl (lv_at hl 2 rfl) ?_
            refine zr_iconst zC dX5_tells_60 ?_
            refine zr_icmp_ne (tgt := 73) zC dX5_tells_61 (by decide) (by omega) (fun c61 => ?_) (fun c61 => ?_)
            · refine lv_iload_n zC.1 zC.2.1 dX5_tells_73 rfl (lv_at hl 2 rfl) ?_
              refine zr_iconst zC dX5_tells_74 ?_
              refine zr_icmp_ne (tgt := 92) zC dX5_tells_75 (by decide) (by omega) (fun c75 => ?_) (fun c75 => ?_)
              · refine lv_iload_n zC.1 zC.2.1 dX5_tells_92 rfl (lv_at hl 2 rfl) ?_
                refine zr_bipush zC dX5_tells_93 (by decide +kernel) ?_
                refine zr_icmp_ne (tgt := 121) zC dX5_tells_95 (by decide) (by omega) (fun c95 => ?_) (fun c95 => ?_)
                · refine zr_iconst zC dX5_tells_121 ?_
                  refine zr_iadd zC dX5_tells_122 ?_
                  refine lv_istore_n (lv' := [(2, .int (zI (u + 0))), (4, .int (zI 0)), (0, .ref (aM Γ)), (1, .int (zI w)), (3, .int (zI q))]) zC.1 zC.2.1 dX5_tells_123 rfl hl (by decide) rfl (fun ls hl => ?_)
                  refine zr_iinc (lv' := [(3, .int (zI (q + 1))), (2, .int (zI (u + 0))), (4, .int (zI 0)), (0, .ref (aM Γ)), (1, .int (zI w))]) zC dX5_tells_124 hl (k := 4) rfl (by decide) rfl (fun ls hl => ?_)
                  refine lv_goto (tgt := 4) zC.1 zC.2.1 dX5_tells_127 (by decide) ?_
                  exact ih4 (u + 0) (q + 1) H locs ls (by first | assumption | omega) (by rw [ctI_s hq.1, ← hu]; unfold zB; split <;> omega) (by omega) hG (lv_sub hl [3, 4, 1, 0] rfl)
                · refine lv_iload_n zC.1 zC.2.1 dX5_tells_98 rfl (lv_at hl 4 rfl) ?_
                  refine zr_iconst zC dX5_tells_99 ?_
                  refine zr_icmp_ge (tgt := 121) zC dX5_tells_100 (by decide) (by omega) (fun c100 => ?_) (fun c100 => ?_)
                  · refine zr_iconst zC dX5_tells_121 ?_
                    refine zr_iadd zC dX5_tells_122 ?_
                    refine lv_istore_n (lv' := [(2, .int (zI (u + 0))), (4, .int (zI 0)), (0, .ref (aM Γ)), (1, .int (zI w)), (3, .int (zI q))]) zC.1 zC.2.1 dX5_tells_123 rfl hl (by decide) rfl (fun ls hl => ?_)
                    refine zr_iinc (lv' := [(3, .int (zI (q + 1))), (2, .int (zI (u + 0))), (4, .int (zI 0)), (0, .ref (aM Γ)), (1, .int (zI w))]) zC dX5_tells_124 hl (k := 4) rfl (by decide) rfl (fun ls hl => ?_)
                    refine lv_goto (tgt := 4) zC.1 zC.2.1 dX5_tells_127 (by decide) ?_
                    exact ih4 (u + 0) (q + 1) H locs ls (by first | assumption | omega) (by rw [ctI_s hq.1, ← hu]; unfold zB; split <;> omega) (by omega) hG (lv_sub hl [3, 4, 1, 0] rfl)
                  · refine lv_aload_n zC.1 zC.2.1 dX5_tells_103 rfl (lv_at hl 1 rfl) ?_
                    refine gf_M_kept zC hG wl_X5_47 dX5_tells_104 ?_
                    refine zr_bipush zC dX5_tells_107 (by decide +kernel) ?_
                    refine lv_iload_n zC.1 zC.2.1 dX5_tells_109 rfl (lv_at hl 4 rfl) ?_
                    refine zr_imul zC dX5_tells_110 ?_
                    refine gi_m_kept (v := kpM (τ 7 q 3) (τ 7 q 4)) zC hG (by omega) (hR.2.2.2.2.2.2.2 q (by omega) (by omega)).1 dX5_tells_111 ?_
                    have k111 := kpM_s (τ 7 q 3) (τ 7 q 4)
                    have k111b := hI.2.2.2.2.2.2.2 q (by omega) (by omega)
                    obtain ⟨k111c, k111d, -⟩ := k111b
                    refine zr_bipush zC dX5_tells_112 (by decide +kernel) ?_
                    refine zr_icmp_eq (tgt := 121) zC dX5_tells_114 (by decide) (by omega) (fun c114 => ?_) (fun c114 => ?_)
                    · refine zr_iconst zC dX5_tells_121 ?_
                      refine zr_iadd zC dX5_tells_122 ?_
                      refine lv_istore_n (lv' := [(2, .int (zI (u + 0))), (4, .int (zI 0)), (0, .ref (aM Γ)), (1, .int (zI w)), (3, .int (zI q))]) zC.1 zC.2.1 dX5_tells_123 rfl hl (by decide) rfl (fun ls hl => ?_)
                      refine zr_iinc (lv' := [(3, .int (zI (q + 1))), (2, .int (zI (u + 0))), (4, .int (zI 0)), (0, .ref (aM Γ)), (1, .int (zI w))]) zC dX5_tells_124 hl (k := 4) rfl (by decide) rfl (fun ls hl => ?_)
                      refine lv_goto (tgt := 4) zC.1 zC.2.1 dX5_tells_127 (by decide) ?_
                      exact ih4 (u + 0) (q + 1) H locs ls (by first | assumption | omega) (by rw [ctI_s hq.1, ← hu]; unfold zB; split <;> omega) (by omega) hG (lv_sub hl [3, 4, 1, 0] rfl)
                    · refine zr_iconst zC dX5_tells_117 ?_
                      refine lv_goto (tgt := 122) zC.1 zC.2.1 dX5_tells_118 (by decide) ?_
                      refine zr_iadd zC dX5_tells_122 ?_
                      refine lv_istore_n (lv' := [(2, .int (zI (u + 1))), (4, .int (zI 0)), (0, .ref (aM Γ)), (1, .int (zI w)), (3, .int (zI q))]) zC.1 zC.2.1 dX5_tells_123 rfl hl (by decide) rfl (fun ls hl => ?_)
                      refine zr_iinc (lv' := [(3, .int (zI (q + 1))), (2, .int (zI (u + 1))), (4, .int (zI 0)), (0, .ref (aM Γ)), (1, .int (zI w))]) zC dX5_tells_124 hl (k := 4) rfl (by decide) rfl (fun ls hl => ?_)
                      refine lv_goto (tgt := 4) zC.1 zC.2.1 dX5_tells_127 (by decide) ?_
                      exact ih4 (u + 1) (q + 1) H locs ls (by first | assumption | omega) (by rw [ctI_s hq.1, ← hu]; unfold zB; split <;> omega) (by omega) hG (lv_sub hl [3, 4, 1, 0] rfl)
              · refine lv_iload_n zC.1 zC.2.1 dX5_tells_78 rfl (lv_at hl 4 rfl) ?_
                refine zr_iconst zC dX5_tells_79 ?_
                refine zr_icmp_ge (tgt := 92) zC dX5_tells_80 (by decide) (by omega) (fun c80 => ?_) (fun c80 => ?_)
                · refine lv_iload_n zC.1 zC.2.1 dX5_tells_92 rfl (lv_at hl 2 rfl) ?_
                  refine zr_bipush zC dX5_tells_93 (by decide +kernel) ?_
                  refine zr_icmp_ne (tgt := 121) zC dX5_tells_95 (by decide) (by omega) (fun c95 => ?_) (fun c95 => ?_)
                  · refine zr_iconst zC dX5_tells_121 ?_
                    refine zr_iadd zC dX5_tells_122 ?_
                    refine lv_istore_n (lv' := [(2, .int (zI (u + 0))), (4, .int (zI 0)), (0, .ref (aM Γ)), (1, .int (zI w)), (3, .int (zI q))]) zC.1 zC.2.1 dX5_tells_123 rfl hl (by decide) rfl (fun ls hl => ?_)
                    refine zr_iinc (lv' := [(3, .int (zI (q + 1))), (2, .int (zI (u + 0))), (4, .int (zI 0)), (0, .ref (aM Γ)), (1, .int (zI w))]) zC dX5_tells_124 hl (k := 4) rfl (by decide) rfl (fun ls hl => ?_)
                    refine lv_goto (tgt := 4) zC.1 zC.2.1 dX5_tells_127 (by decide) ?_
                    exact ih4 (u + 0) (q + 1) H locs ls (by first | assumption | omega) (by rw [ctI_s hq.1, ← hu]; unfold zB; split <;> omega) (by omega) hG (lv_sub hl [3, 4, 1, 0] rfl)
                  · refine lv_iload_n zC.1 zC.2.1 dX5_tells_98 rfl (lv_at hl 4 rfl) ?_
                    refine zr_iconst zC dX5_tells_99 ?_
                    refine zr_icmp_ge (tgt := 121) zC dX5_tells_100 (by decide) (by omega) (fun c100 => ?_) (fun c100 => ?_)
                    · refine zr_iconst zC dX5_tells_121 ?_
                      refine zr_iadd zC dX5_tells_122 ?_
                      refine lv_istore_n (lv' := [(2, .int (zI (u + 0))), (4, .int (zI 0)), (0, .ref (aM Γ)), (1, .int (zI w)), (3, .int (zI q))]) zC.1 zC.2.1 dX5_tells_123 rfl hl (by decide) rfl (fun ls hl => ?_)
                      refine zr_iinc (lv' := [(3, .int (zI (q + 1))), (2, .int (zI (u + 0))), (4, .int (zI 0)), (0, .ref (aM Γ)), (1, .int (zI w))]) zC dX5_tells_124 hl (k := 4) rfl (by decide) rfl (fun ls hl => ?_)
                      refine lv_goto (tgt := 4) zC.1 zC.2.1 dX5_tells_127 (by decide) ?_
                      exact ih4 (u + 0) (q + 1) H locs ls (by first | assumption | omega) (by rw [ctI_s hq.1, ← hu]; unfold zB; split <;> omega) (by omega) hG (lv_sub hl [3, 4, 1, 0] rfl)
                    · refine lv_aload_n zC.1 zC.2.1 dX5_tells_103 rfl (lv_at hl 1 rfl) ?_
                      refine gf_M_kept zC hG wl_X5_47 dX5_tells_104 ?_
                      refine zr_bipush zC dX5_tells_107 (by decide +kernel) ?_
                      refine lv_iload_n zC.1 zC.2.1 dX5_tells_109 rfl (lv_at hl 4 rfl) ?_
                      refine zr_imul zC dX5_tells_110 ?_
                      refine gi_m_kept (v := kpM (τ 7 q 3) (τ 7 q 4)) zC hG (by omega) (hR.2.2.2.2.2.2.2 q (by omega) (by omega)).1 dX5_tells_111 ?_
                      have k111 := kpM_s (τ 7 q 3) (τ 7 q 4)
                      have k111b := hI.2.2.2.2.2.2.2 q (by omega) (by omega)
                      obtain ⟨k111c, k111d, -⟩ := k111b
                      refine zr_bipush zC dX5_tells_112 (by decide +kernel) ?_
                      refine zr_icmp_eq (tgt := 121) zC dX5_tells_114 (by decide) (by omega) (fun c114 => ?_) (fun c114 => ?_)
                      · refine zr_iconst zC dX5_tells_121 ?_
                        refine zr_iadd zC dX5_tells_122 ?_
                        refine lv_istore_n (lv' := [(2, .int (zI (u + 0))), (4, .int (zI 0)), (0, .ref (aM Γ)), (1, .int (zI w)), (3, .int (zI q))]) zC.1 zC.2.1 dX5_tells_123 rfl hl (by decide) rfl (fun ls hl => ?_)
                        refine zr_iinc (lv' := [(3, .int (zI (q + 1))), (2, .int (zI (u + 0))), (4, .int (zI 0)), (0, .ref (aM Γ)), (1, .int (zI w))]) zC dX5_tells_124 hl (k := 4) rfl (by decide) rfl (fun ls hl => ?_)
                        refine lv_goto (tgt := 4) zC.1 zC.2.1 dX5_tells_127 (by decide) ?_
                        exact ih4 (u + 0) (q + 1) H locs ls (by first | assumption | omega) (by rw [ctI_s hq.1, ← hu]; unfold zB; split <;> omega) (by omega) hG (lv_sub hl [3, 4, 1, 0] rfl)
                      · refine zr_iconst zC dX5_tells_117 ?_
                        refine lv_goto (tgt := 122) zC.1 zC.2.1 dX5_tells_118 (by decide) ?_
                        refine zr_iadd zC dX5_tells_122 ?_
                        refine lv_istore_n (lv' := [(2, .int (zI (u + 1))), (4, .int (zI 0)), (0, .ref (aM Γ)), (1, .int (zI w)), (3, .int (zI q))]) zC.1 zC.2.1 dX5_tells_123 rfl hl (by decide) rfl (fun ls hl => ?_)
                        refine zr_iinc (lv' := [(3, .int (zI (q + 1))), (2, .int (zI (u + 1))), (4, .int (zI 0)), (0, .ref (aM Γ)), (1, .int (zI w))]) zC dX5_tells_124 hl (k := 4) rfl (by decide) rfl (fun ls hl => ?_)
                        refine lv_goto (tgt := 4) zC.1 zC.2.1 dX5_tells_127 (by decide) ?_
                        exact ih4 (u + 1) (q + 1) H locs ls (by first | assumption | omega) (by rw [ctI_s hq.1, ← hu]; unfold zB; split <;> omega) (by omega) hG (lv_sub hl [3, 4, 1, 0] rfl)
                · refine lv_aload_n zC.1 zC.2.1 dX5_tells_83 rfl (lv_at hl 1 rfl) ?_
                  refine gf_M_lengths zC hG wl_X5_26 dX5_tells_84 ?_
                  refine lv_iload_n zC.1 zC.2.1 dX5_tells_87 rfl (lv_at hl 4 rfl) ?_
                  refine gi_m_lengths (v := szM (τ 4 q 1)) zC hG (by omega) (hR.2.2.2.2.1 q (by omega) (by omega)) dX5_tells_88 ?_
                  have f88 := hI.2.2.2.2.1 q (by omega) (by omega)
                  have f88s := szM_s (τ 4 q 1)
                  refine zr_if_ge (tgt := 117) zC dX5_tells_89 (by decide) (by omega) (fun c89 => ?_) (fun c89 => ?_)
                  · refine zr_iconst zC dX5_tells_117 ?_
                    refine lv_goto (tgt := 122) zC.1 zC.2.1 dX5_tells_118 (by decide) ?_
                    refine zr_iadd zC dX5_tells_122 ?_
                    refine lv_istore_n (lv' := [(2, .int (zI (u + 1))), (4, .int (zI 0)), (0, .ref (aM Γ)), (1, .int (zI w)), (3, .int (zI q))]) zC.1 zC.2.1 dX5_tells_123 rfl hl (by decide) rfl (fun ls hl => ?_)
                    refine zr_iinc (lv' := [(3, .int (zI (q + 1))), (2, .int (zI (u + 1))), (4, .int (zI 0)), (0, .ref (aM Γ)), (1, .int (zI w))]) zC dX5_tells_124 hl (k := 4) rfl (by decide) rfl (fun ls hl => ?_)
                    refine lv_goto (tgt := 4) zC.1 zC.2.1 dX5_tells_127 (by decide) ?_
                    exact ih4 (u + 1) (q + 1) H locs ls (by first | assumption | omega) (by rw [ctI_s hq.1, ← hu]; unfold zB; split <;> omega) (by omega) hG (lv_sub hl [3, 4, 1, 0] rfl)
                  · refine lv_iload_n zC.1 zC.2.1 dX5_tells_92 rfl (lv_at hl 2 rfl) ?_
                    refine zr_bipush zC dX5_tells_93 (by decide +kernel) ?_
                    refine zr_icmp_ne (tgt := 121) zC dX5_tells_95 (by decide) (by omega) (fun c95 => ?_) (fun c95 => ?_)
                    · refine zr_iconst zC dX5_tells_121 ?_
                      refine zr_iadd zC dX5_tells_122 ?_
                      refine lv_istore_n (lv' := [(2, .int (zI (u + 0))), (4, .int (zI 0)), (0, .ref (aM Γ)), (1, .int (zI w)), (3, .int (zI q))]) zC.1 zC.2.1 dX5_tells_123 rfl hl (by decide) rfl (fun ls hl => ?_)
                      refine zr_iinc (lv' := [(3, .int (zI (q + 1))), (2, .int (zI (u + 0))), (4, .int (zI 0)), (0, .ref (aM Γ)), (1, .int (zI w))]) zC dX5_tells_124 hl (k := 4) rfl (by decide) rfl (fun ls hl => ?_)
                      refine lv_goto (tgt := 4) zC.1 zC.2.1 dX5_tells_127 (by decide) ?_
                      exact ih4 (u + 0) (q + 1) H locs ls (by first | assumption | omega) (by rw [ctI_s hq.1, ← hu]; unfold zB; split <;> omega) (by omega) hG (lv_sub hl [3, 4, 1, 0] rfl)
                    · refine lv_iload_n zC.1 zC.2.1 dX5_tells_98 rfl (lv_at hl 4 rfl) ?_
                      refine zr_iconst zC dX5_tells_99 ?_
                      refine zr_icmp_ge (tgt := 121) zC dX5_tells_100 (by decide) (by omega) (fun c100 => ?_) (fun c100 => ?_)
                      · refine zr_iconst zC dX5_tells_121 ?_
                        refine zr_iadd zC dX5_tells_122 ?_
                        refine lv_istore_n (lv' := [(2, .int (zI (u + 0))), (4, .int (zI 0)), (0, .ref (aM Γ)), (1, .int (zI w)), (3, .int (zI q))]) zC.1 zC.2.1 dX5_tells_123 rfl hl (by decide) rfl (fun ls hl => ?_)
                        refine zr_iinc (lv' := [(3, .int (zI (q + 1))), (2, .int (zI (u + 0))), (4, .int (zI 0)), (0, .ref (aM Γ)), (1, .int (zI w))]) zC dX5_tells_124 hl (k := 4) rfl (by decide) rfl (fun ls hl => ?_)
                        refine lv_goto (tgt := 4) zC.1 zC.2.1 dX5_tells_127 (by decide) ?_
                        exact ih4 (u + 0) (q + 1) H locs ls (by first | assumption | omega) (by rw [ctI_s hq.1, ← hu]; unfold zB; split <;> omega) (by omega) hG (lv_sub hl [3, 4, 1, 0] rfl)
                      · refine lv_aload_n zC.1 zC.2.1 dX5_tells_103 rfl (lv_at hl 1 rfl) ?_
                        refine gf_M_kept zC hG wl_X5_47 dX5_tells_104 ?_
                        refine zr_bipush zC dX5_tells_107 (by decide +kernel) ?_
                        refine lv_iload_n zC.1 zC.2.1 dX5_tells_109 rfl (lv_at hl 4 rfl) ?_
                        refine zr_imul zC dX5_tells_110 ?_
                        refine gi_m_kept (v := kpM (τ 7 q 3) (τ 7 q 4)) zC hG (by omega) (hR.2.2.2.2.2.2.2 q (by omega) (by omega)).1 dX5_tells_111 ?_
                        have k111 := kpM_s (τ 7 q 3) (τ 7 q 4)
                        have k111b := hI.2.2.2.2.2.2.2 q (by omega) (by omega)
                        obtain ⟨k111c, k111d, -⟩ := k111b
                        refine zr_bipush zC dX5_tells_112 (by decide +kernel) ?_
                        refine zr_icmp_eq (tgt := 121) zC dX5_tells_114 (by decide) (by omega) (fun c114 => ?_) (fun c114 => ?_)
                        · refine zr_iconst zC dX5_tells_121 ?_
                          refine zr_iadd zC dX5_tells_122 ?_
                          refine lv_istore_n (lv' := [(2, .int (zI (u + 0))), (4, .int (zI 0)), (0, .ref (aM Γ)), (1, .int (zI w)), (3, .int (zI q))]) zC.1 zC.2.1 dX5_tells_123 rfl hl (by decide) rfl (fun ls hl => ?_)
                          refine zr_iinc (lv' := [(3, .int (zI (q + 1))), (2, .int (zI (u + 0))), (4, .int (zI 0)), (0, .ref (aM Γ)), (1, .int (zI w))]) zC dX5_tells_124 hl (k := 4) rfl (by decide) rfl (fun ls hl => ?_)
                          refine lv_goto (tgt := 4) zC.1 zC.2.1 dX5_tells_127 (by decide) ?_
                          exact ih4 (u + 0) (q + 1) H locs ls (by first | assumption | omega) (by rw [ctI_s hq.1, ← hu]; unfold zB; split <;> omega) (by omega) hG (lv_sub hl [3, 4, 1, 0] rfl)
                        · refine zr_iconst zC dX5_tells_117 ?_
                          refine lv_goto (tgt := 122) zC.1 zC.2.1 dX5_tells_118 (by decide) ?_
                          refine zr_iadd zC dX5_tells_122 ?_
                          refine lv_istore_n (lv' := [(2, .int (zI (u + 1))), (4, .int (zI 0)), (0, .ref (aM Γ)), (1, .int (zI w)), (3, .int (zI q))]) zC.1 zC.2.1 dX5_tells_123 rfl hl (by decide) rfl (fun ls hl => ?_)
                          refine zr_iinc (lv' := [(3, .int (zI (q + 1))), (2, .int (zI (u + 1))), (4, .int (zI 0)), (0, .ref (aM Γ)), (1, .int (zI w))]) zC dX5_tells_124 hl (k := 4) rfl (by decide) rfl (fun ls hl => ?_)
                          refine lv_goto (tgt := 4) zC.1 zC.2.1 dX5_tells_127 (by decide) ?_
                          exact ih4 (u + 1) (q + 1) H locs ls (by first | assumption | omega) (by rw [ctI_s hq.1, ← hu]; unfold zB; split <;> omega) (by omega) hG (lv_sub hl [3, 4, 1, 0] rfl)
            · refine lv_aload_n zC.1 zC.2.1 dX5_tells_64 rfl (lv_at hl 1 rfl) ?_
              refine gf_M_sizes zC hG wl_X5_17 dX5_tells_65 ?_
              refine lv_iload_n zC.1 zC.2.1 dX5_tells_68 rfl (lv_at hl 4 rfl) ?_
              refine gi_m_sizes (v := szM (τ 2 q 1)) zC hG (by omega) (hR.2.2.1 q (by omega) (by omega)) dX5_tells_69 ?_
              have f69 := hI.2.2.1 q (by omega) (by omega)
              have f69s := szM_s (τ 2 q 1)
              refine zr_if_ge (tgt := 117) zC dX5_tells_70 (by decide) (by omega) (fun c70 => ?_) (fun c70 => ?_)
              · refine zr_iconst zC dX5_tells_117 ?_
                refine lv_goto (tgt := 122) zC.1 zC.2.1 dX5_tells_118 (by decide) ?_
                refine zr_iadd zC dX5_tells_122 ?_
                refine lv_istore_n (lv' := [(2, .int (zI (u + 1))), (4, .int (zI 0)), (0, .ref (aM Γ)), (1, .int (zI w)), (3, .int (zI q))]) zC.1 zC.2.1 dX5_tells_123 rfl hl (by decide) rfl (fun ls hl => ?_)
                refine zr_iinc (lv' := [(3, .int (zI (q + 1))), (2, .int (zI (u + 1))), (4, .int (zI 0)), (0, .ref (aM Γ)), (1, .int (zI w))]) zC dX5_tells_124 hl (k := 4) rfl (by decide) rfl (fun ls hl => ?_)
                refine lv_goto (tgt := 4) zC.1 zC.2.1 dX5_tells_127 (by decide) ?_
                exact ih4 (u + 1) (q + 1) H locs ls (by first | assumption | omega) (by rw [ctI_s hq.1, ← hu]; unfold zB; split <;> omega) (by omega) hG (lv_sub hl [3, 4, 1, 0] rfl)
              · refine lv_iload_n zC.1 zC.2.1 dX5_tells_73 rfl (lv_at hl 2 rfl) ?_
                refine zr_iconst zC dX5_tells_74 ?_
                refine zr_icmp_ne (tgt := 92) zC dX5_tells_75 (by decide) (by omega) (fun c75 => ?_) (fun c75 => ?_)
                · refine lv_iload_n zC.1 zC.2.1 dX5_tells_92 rfl (lv_at hl 2 rfl) ?_
                  refine zr_bipush zC dX5_tells_93 (by decide +kernel) ?_
                  refine zr_icmp_ne (tgt := 121) zC dX5_tells_95 (by decide) (by omega) (fun c95 => ?_) (fun c95 => ?_)
                  · refine zr_iconst zC dX5_tells_121 ?_
                    refine zr_iadd zC dX5_tells_122 ?_
                    refine lv_istore_n (lv' := [(2, .int (zI (u + 0))), (4, .int (zI 0)), (0, .ref (aM Γ)), (1, .int (zI w)), (3, .int (zI q))]) zC.1 zC.2.1 dX5_tells_123 rfl hl (by decide) rfl (fun ls hl => ?_)
                    refine zr_iinc (lv' := [(3, .int (zI (q + 1))), (2, .int (zI (u + 0))), (4, .int (zI 0)), (0, .ref (aM Γ)), (1, .int (zI w))]) zC dX5_tells_124 hl (k := 4) rfl (by decide) rfl (fun ls hl => ?_)
                    refine lv_goto (tgt := 4) zC.1 zC.2.1 dX5_tells_127 (by decide) ?_
                    exact ih4 (u + 0) (q + 1) H locs ls (by first | assumption | omega) (by rw [ctI_s hq.1, ← hu]; unfold zB; split <;> omega) (by omega) hG (lv_sub hl [3, 4, 1, 0] rfl)
                  · refine lv_iload_n zC.1 zC.2.1 dX5_tells_98 rfl (lv_at hl 4 rfl) ?_
                    refine zr_iconst zC dX5_tells_99 ?_
                    refine zr_icmp_ge (tgt := 121) zC dX5_tells_100 (by decide) (by omega) (fun c100 => ?_) (fun c100 => ?_)
                    · refine zr_iconst zC dX5_tells_121 ?_
                      refine zr_iadd zC dX5_tells_122 ?_
                      refine lv_istore_n (lv' := [(2, .int (zI (u + 0))), (4, .int (zI 0)), (0, .ref (aM Γ)), (1, .int (zI w)), (3, .int (zI q))]) zC.1 zC.2.1 dX5_tells_123 rfl hl (by decide) rfl (fun ls hl => ?_)
                      refine zr_iinc (lv' := [(3, .int (zI (q + 1))), (2, .int (zI (u + 0))), (4, .int (zI 0)), (0, .ref (aM Γ)), (1, .int (zI w))]) zC dX5_tells_124 hl (k := 4) rfl (by decide) rfl (fun ls hl => ?_)
                      refine lv_goto (tgt := 4) zC.1 zC.2.1 dX5_tells_127 (by decide) ?_
                      exact ih4 (u + 0) (q + 1) H locs ls (by first | assumption | omega) (by rw [ctI_s hq.1, ← hu]; unfold zB; split <;> omega) (by omega) hG (lv_sub hl [3, 4, 1, 0] rfl)
                    · refine lv_aload_n zC.1 zC.2.1 dX5_tells_103 rfl (lv_at hl 1 rfl) ?_
                      refine gf_M_kept zC hG wl_X5_47 dX5_tells_104 ?_
                      refine zr_bipush zC dX5_tells_107 (by decide +kernel) ?_
                      refine lv_iload_n zC.1 zC.2.1 dX5_tells_109 rfl (lv_at hl 4 rfl) ?_
                      refine zr_imul zC dX5_tells_110 ?_
                      refine gi_m_kept (v := kpM (τ 7 q 3) (τ 7 q 4)) zC hG (by omega) (hR.2.2.2.2.2.2.2 q (by omega) (by omega)).1 dX5_tells_111 ?_
                      have k111 := kpM_s (τ 7 q 3) (τ 7 q 4)
                      have k111b := hI.2.2.2.2.2.2.2 q (by omega) (by omega)
                      obtain ⟨k111c, k111d, -⟩ := k111b
                      refine zr_bipush zC dX5_tells_112 (by decide +kernel) ?_
                      refine zr_icmp_eq (tgt := 121) zC dX5_tells_114 (by decide) (by omega) (fun c114 => ?_) (fun c114 => ?_)
                      · refine zr_iconst zC dX5_tells_121 ?_
                        refine zr_iadd zC dX5_tells_122 ?_
                        refine lv_istore_n (lv' := [(2, .int (zI (u + 0))), (4, .int (zI 0)), (0, .ref (aM Γ)), (1, .int (zI w)), (3, .int (zI q))]) zC.1 zC.2.1 dX5_tells_123 rfl hl (by decide) rfl (fun ls hl => ?_)
                        refine zr_iinc (lv' := [(3, .int (zI (q + 1))), (2, .int (zI (u + 0))), (4, .int (zI 0)), (0, .ref (aM Γ)), (1, .int (zI w))]) zC dX5_tells_124 hl (k := 4) rfl (by decide) rfl (fun ls hl => ?_)
                        refine lv_goto (tgt := 4) zC.1 zC.2.1 dX5_tells_127 (by decide) ?_
                        exact ih4 (u + 0) (q + 1) H locs ls (by first | assumption | omega) (by rw [ctI_s hq.1, ← hu]; unfold zB; split <;> omega) (by omega) hG (lv_sub hl [3, 4, 1, 0] rfl)
                      · refine zr_iconst zC dX5_tells_117 ?_
                        refine lv_goto (tgt := 122) zC.1 zC.2.1 dX5_tells_118 (by decide) ?_
                        refine zr_iadd zC dX5_tells_122 ?_
                        refine lv_istore_n (lv' := [(2, .int (zI (u + 1))), (4, .int (zI 0)), (0, .ref (aM Γ)), (1, .int (zI w)), (3, .int (zI q))]) zC.1 zC.2.1 dX5_tells_123 rfl hl (by decide) rfl (fun ls hl => ?_)
                        refine zr_iinc (lv' := [(3, .int (zI (q + 1))), (2, .int (zI (u + 1))), (4, .int (zI 0)), (0, .ref (aM Γ)), (1, .int (zI w))]) zC dX5_tells_124 hl (k := 4) rfl (by decide) rfl (fun ls hl => ?_)
                        refine lv_goto (tgt := 4) zC.1 zC.2.1 dX5_tells_127 (by decide) ?_
                        exact ih4 (u + 1) (q + 1) H locs ls (by first | assumption | omega) (by rw [ctI_s hq.1, ← hu]; unfold zB; split <;> omega) (by omega) hG (lv_sub hl [3, 4, 1, 0] rfl)
                · refine lv_iload_n zC.1 zC.2.1 dX5_tells_78 rfl (lv_at hl 4 rfl) ?_
                  refine zr_iconst zC dX5_tells_79 ?_
                  refine zr_icmp_ge (tgt := 92) zC dX5_tells_80 (by decide) (by omega) (fun c80 => ?_) (fun c80 => ?_)
                  · refine lv_iload_n zC.1 zC.2.1 dX5_tells_92 rfl (lv_at hl 2 rfl) ?_
                    refine zr_bipush zC dX5_tells_93 (by decide +kernel) ?_
                    refine zr_icmp_ne (tgt := 121) zC dX5_tells_95 (by decide) (by omega) (fun c95 => ?_) (fun c95 => ?_)
                    · refine zr_iconst zC dX5_tells_121 ?_
                      refine zr_iadd zC dX5_tells_122 ?_
                      refine lv_istore_n (lv' := [(2, .int (zI (u + 0))), (4, .int (zI 0)), (0, .ref (aM Γ)), (1, .int (zI w)), (3, .int (zI q))]) zC.1 zC.2.1 dX5_tells_123 rfl hl (by decide) rfl (fun ls hl => ?_)
                      refine zr_iinc (lv' := [(3, .int (zI (q + 1))), (2, .int (zI (u + 0))), (4, .int (zI 0)), (0, .ref (aM Γ)), (1, .int (zI w))]) zC dX5_tells_124 hl (k := 4) rfl (by decide) rfl (fun ls hl => ?_)
                      refine lv_goto (tgt := 4) zC.1 zC.2.1 dX5_tells_127 (by decide) ?_
                      exact ih4 (u + 0) (q + 1) H locs ls (by first | assumption | omega) (by rw [ctI_s hq.1, ← hu]; unfold zB; split <;> omega) (by omega) hG (lv_sub hl [3, 4, 1, 0] rfl)
                    · refine lv_iload_n zC.1 zC.2.1 dX5_tells_98 rfl (lv_at hl 4 rfl) ?_
                      refine zr_iconst zC dX5_tells_99 ?_
                      refine zr_icmp_ge (tgt := 121) zC dX5_tells_100 (by decide) (by omega) (fun c100 => ?_) (fun c100 => ?_)
                      · refine zr_iconst zC dX5_tells_121 ?_
                        refine zr_iadd zC dX5_tells_122 ?_
                        refine lv_istore_n (lv' := [(2, .int (zI (u + 0))), (4, .int (zI 0)), (0, .ref (aM Γ)), (1, .int (zI w)), (3, .int (zI q))]) zC.1 zC.2.1 dX5_tells_123 rfl hl (by decide) rfl (fun ls hl => ?_)
                        refine zr_iinc (lv' := [(3, .int (zI (q + 1))), (2, .int (zI (u + 0))), (4, .int (zI 0)), (0, .ref (aM Γ)), (1, .int (zI w))]) zC dX5_tells_124 hl (k := 4) rfl (by decide) rfl (fun ls hl => ?_)
                        refine lv_goto (tgt := 4) zC.1 zC.2.1 dX5_tells_127 (by decide) ?_
                        exact ih4 (u + 0) (q + 1) H locs ls (by first | assumption | omega) (by rw [ctI_s hq.1, ← hu]; unfold zB; split <;> omega) (by omega) hG (lv_sub hl [3, 4, 1, 0] rfl)
                      · refine lv_aload_n zC.1 zC.2.1 dX5_tells_103 rfl (lv_at hl 1 rfl) ?_
                        refine gf_M_kept zC hG wl_X5_47 dX5_tells_104 ?_
                        refine zr_bipush zC dX5_tells_107 (by decide +kernel) ?_
                        refine lv_iload_n zC.1 zC.2.1 dX5_tells_109 rfl (lv_at hl 4 rfl) ?_
                        refine zr_imul zC dX5_tells_110 ?_
                        refine gi_m_kept (v := kpM (τ 7 q 3) (τ 7 q 4)) zC hG (by omega) (hR.2.2.2.2.2.2.2 q (by omega) (by omega)).1 dX5_tells_111 ?_
                        have k111 := kpM_s (τ 7 q 3) (τ 7 q 4)
                        have k111b := hI.2.2.2.2.2.2.2 q (by omega) (by omega)
                        obtain ⟨k111c, k111d, -⟩ := k111b
                        refine zr_bipush zC dX5_tells_112 (by decide +kernel) ?_
                        refine zr_icmp_eq (tgt := 121) zC dX5_tells_114 (by decide) (by omega) (fun c114 => ?_) (fun c114 => ?_)
                        · refine zr_iconst zC dX5_tells_121 ?_
                          refine zr_iadd zC dX5_tells_122 ?_
                          refine lv_istore_n (lv' := [(2, .int (zI (u + 0))), (4, .int (zI 0)), (0, .ref (aM Γ)), (1, .int (zI w)), (3, .int (zI q))]) zC.1 zC.2.1 dX5_tells_123 rfl hl (by decide) rfl (fun ls hl => ?_)
                          refine zr_iinc (lv' := [(3, .int (zI (q + 1))), (2, .int (zI (u + 0))), (4, .int (zI 0)), (0, .ref (aM Γ)), (1, .int (zI w))]) zC dX5_tells_124 hl (k := 4) rfl (by decide) rfl (fun ls hl => ?_)
                          refine lv_goto (tgt := 4) zC.1 zC.2.1 dX5_tells_127 (by decide) ?_
                          exact ih4 (u + 0) (q + 1) H locs ls (by first | assumption | omega) (by rw [ctI_s hq.1, ← hu]; unfold zB; split <;> omega) (by omega) hG (lv_sub hl [3, 4, 1, 0] rfl)
                        · refine zr_iconst zC dX5_tells_117 ?_
                          refine lv_goto (tgt := 122) zC.1 zC.2.1 dX5_tells_118 (by decide) ?_
                          refine zr_iadd zC dX5_tells_122 ?_
                          refine lv_istore_n (lv' := [(2, .int (zI (u + 1))), (4, .int (zI 0)), (0, .ref (aM Γ)), (1, .int (zI w)), (3, .int (zI q))]) zC.1 zC.2.1 dX5_tells_123 rfl hl (by decide) rfl (fun ls hl => ?_)
                          refine zr_iinc (lv' := [(3, .int (zI (q + 1))), (2, .int (zI (u + 1))), (4, .int (zI 0)), (0, .ref (aM Γ)), (1, .int (zI w))]) zC dX5_tells_124 hl (k := 4) rfl (by decide) rfl (fun ls hl => ?_)
                          refine lv_goto (tgt := 4) zC.1 zC.2.1 dX5_tells_127 (by decide) ?_
                          exact ih4 (u + 1) (q + 1) H locs ls (by first | assumption | omega) (by rw [ctI_s hq.1, ← hu]; unfold zB; split <;> omega) (by omega) hG (lv_sub hl [3, 4, 1, 0] rfl)
                  · refine lv_aload_n zC.1 zC.2.1 dX5_tells_83 rfl (lv_at hl 1 rfl) ?_
                    refine gf_M_lengths zC hG wl_X5_26 dX5_tells_84 ?_
                    refine lv_iload_n zC.1 zC.2.1 dX5_tells_87 rfl (lv_at hl 4 rfl) ?_
                    refine gi_m_lengths (v := szM (τ 4 q 1)) zC hG (by omega) (hR.2.2.2.2.1 q (by omega) (by omega)) dX5_tells_88 ?_
                    have f88 := hI.2.2.2.2.1 q (by omega) (by omega)
                    have f88s := szM_s (τ 4 q 1)
                    refine zr_if_ge (tgt := 117) zC dX5_tells_89 (by decide) (by omega) (fun c89 => ?_) (fun c89 => ?_)
                    · refine zr_iconst zC dX5_tells_117 ?_
                      refine lv_goto (tgt := 122) zC.1 zC.2.1 dX5_tells_118 (by decide) ?_
                      refine zr_iadd zC dX5_tells_122 ?_
                      refine lv_istore_n (lv' := [(2, .int (zI (u + 1))), (4, .int (zI 0)), (0, .ref (aM Γ)), (1, .int (zI w)), (3, .int (zI q))]) zC.1 zC.2.1 dX5_tells_123 rfl hl (by decide) rfl (fun ls hl => ?_)
                      refine zr_iinc (lv' := [(3, .int (zI (q + 1))), (2, .int (zI (u + 1))), (4, .int (zI 0)), (0, .ref (aM Γ)), (1, .int (zI w))]) zC dX5_tells_124 hl (k := 4) rfl (by decide) rfl (fun ls hl => ?_)
                      refine lv_goto (tgt := 4) zC.1 zC.2.1 dX5_tells_127 (by decide) ?_
                      exact ih4 (u + 1) (q + 1) H locs ls (by first | assumption | omega) (by rw [ctI_s hq.1, ← hu]; unfold zB; split <;> omega) (by omega) hG (lv_sub hl [3, 4, 1, 0] rfl)
                    · refine lv_iload_n zC.1 zC.2.1 dX5_tells_92 rfl (lv_at hl 2 rfl) ?_
                      refine zr_bipush zC dX5_tells_93 (by decide +kernel) ?_
                      refine zr_icmp_ne (tgt := 121) zC dX5_tells_95 (by decide) (by omega) (fun c95 => ?_) (fun c95 => ?_)
                      · refine zr_iconst zC dX5_tells_121 ?_
                        refine zr_iadd zC dX5_tells_122 ?_
                        refine lv_istore_n (lv' := [(2, .int (zI (u + 0))), (4, .int (zI 0)), (0, .ref (aM Γ)), (1, .int (zI w)), (3, .int (zI q))]) zC.1 zC.2.1 dX5_tells_123 rfl hl (by decide) rfl (fun ls hl => ?_)
                        refine zr_iinc (lv' := [(3, .int (zI (q + 1))), (2, .int (zI (u + 0))), (4, .int (zI 0)), (0, .ref (aM Γ)), (1, .int (zI w))]) zC dX5_tells_124 hl (k := 4) rfl (by decide) rfl (fun ls hl => ?_)
                        refine lv_goto (tgt := 4) zC.1 zC.2.1 dX5_tells_127 (by decide) ?_
                        exact ih4 (u + 0) (q + 1) H locs ls (by first | assumption | omega) (by rw [ctI_s hq.1, ← hu]; unfold zB; split <;> omega) (by omega) hG (lv_sub hl [3, 4, 1, 0] rfl)
                      · refine lv_iload_n zC.1 zC.2.1 dX5_tells_98 rfl (lv_at hl 4 rfl) ?_
                        refine zr_iconst zC dX5_tells_99 ?_
                        refine zr_icmp_ge (tgt := 121) zC dX5_tells_100 (by decide) (by omega) (fun c100 => ?_) (fun c100 => ?_)
                        · refine zr_iconst zC dX5_tells_121 ?_
                          refine zr_iadd zC dX5_tells_122 ?_
                          refine lv_istore_n (lv' := [(2, .int (zI (u + 0))), (4, .int (zI 0)), (0, .ref (aM Γ)), (1, .int (zI w)), (3, .int (zI q))]) zC.1 zC.2.1 dX5_tells_123 rfl hl (by decide) rfl (fun ls hl => ?_)
                          refine zr_iinc (lv' := [(3, .int (zI (q + 1))), (2, .int (zI (u + 0))), (4, .int (zI 0)), (0, .ref (aM Γ)), (1, .int (zI w))]) zC dX5_tells_124 hl (k := 4) rfl (by decide) rfl (fun ls hl => ?_)
                          refine lv_goto (tgt := 4) zC.1 zC.2.1 dX5_tells_127 (by decide) ?_
                          exact ih4 (u + 0) (q + 1) H locs ls (by first | assumption | omega) (by rw [ctI_s hq.1, ← hu]; unfold zB; split <;> omega) (by omega) hG (lv_sub hl [3, 4, 1, 0] rfl)
                        · refine lv_aload_n zC.1 zC.2.1 dX5_tells_103 rfl (lv_at hl 1 rfl) ?_
                          refine gf_M_kept zC hG wl_X5_47 dX5_tells_104 ?_
                          refine zr_bipush zC dX5_tells_107 (by decide +kernel) ?_
                          refine lv_iload_n zC.1 zC.2.1 dX5_tells_109 rfl (lv_at hl 4 rfl) ?_
                          refine zr_imul zC dX5_tells_110 ?_
                          refine gi_m_kept (v := kpM (τ 7 q 3) (τ 7 q 4)) zC hG (by omega) (hR.2.2.2.2.2.2.2 q (by omega) (by omega)).1 dX5_tells_111 ?_
                          have k111 := kpM_s (τ 7 q 3) (τ 7 q 4)
                          have k111b := hI.2.2.2.2.2.2.2 q (by omega) (by omega)
                          obtain ⟨k111c, k111d, -⟩ := k111b
                          refine zr_bipush zC dX5_tells_112 (by decide +kernel) ?_
                          refine zr_icmp_eq (tgt := 121) zC dX5_tells_114 (by decide) (by omega) (fun c114 => ?_) (fun c114 => ?_)
                          · refine zr_iconst zC dX5_tells_121 ?_
                            refine zr_iadd zC dX5_tells_122 ?_
                            refine lv_istore_n (lv' := [(2, .int (zI (u + 0))), (4, .int (zI 0)), (0, .ref (aM Γ)), (1, .int (zI w)), (3, .int (zI q))]) zC.1 zC.2.1 dX5_tells_123 rfl hl (by decide) rfl (fun ls hl => ?_)
                            refine zr_iinc (lv' := [(3, .int (zI (q + 1))), (2, .int (zI (u + 0))), (4, .int (zI 0)), (0, .ref (aM Γ)), (1, .int (zI w))]) zC dX5_tells_124 hl (k := 4) rfl (by decide) rfl (fun ls hl => ?_)
                            refine lv_goto (tgt := 4) zC.1 zC.2.1 dX5_tells_127 (by decide) ?_
                            exact ih4 (u + 0) (q + 1) H locs ls (by first | assumption | omega) (by rw [ctI_s hq.1, ← hu]; unfold zB; split <;> omega) (by omega) hG (lv_sub hl [3, 4, 1, 0] rfl)
                          · refine zr_iconst zC dX5_tells_117 ?_
                            refine lv_goto (tgt := 122) zC.1 zC.2.1 dX5_tells_118 (by decide) ?_
                            refine zr_iadd zC dX5_tells_122 ?_
                            refine lv_istore_n (lv' := [(2, .int (zI (u + 1))), (4, .int (zI 0)), (0, .ref (aM Γ)), (1, .int (zI w)), (3, .int (zI q))]) zC.1 zC.2.1 dX5_tells_123 rfl hl (by decide) rfl (fun ls hl => ?_)
                            refine zr_iinc (lv' := [(3, .int (zI (q + 1))), (2, .int (zI (u + 1))), (4, .int (zI 0)), (0, .ref (aM Γ)), (1, .int (zI w))]) zC dX5_tells_124 hl (k := 4) rfl (by decide) rfl (fun ls hl => ?_)
                            refine lv_goto (tgt := 4) zC.1 zC.2.1 dX5_tells_127 (by decide) ?_
                            exact ih4 (u + 1) (q + 1) H locs ls (by first | assumption | omega) (by rw [ctI_s hq.1, ← hu]; unfold zB; split <;> omega) (by omega) hG (lv_sub hl [3, 4, 1, 0] rfl)
        · refine lv_iload_n zC.1 zC.2.1 dX5_tells_18 rfl (lv_at hl 1 rfl) ?_
          refine zr_iconst zC dX5_tells_19 ?_
          refine zr_icmp_ne (tgt := 32) zC dX5_tells_20 (by decide) (by omega) (fun c20 => ?_) (fun c20 => ?_)
          · refine lv_iload_n zC.1 zC.2.1 dX5_tells_32 rfl (lv_at hl 1 rfl) ?_
            refine zr_iconst zC dX5_tells_33 ?_
            refine zr_icmp_ne (tgt := 50) zC dX5_tells_34 (by decide) (by omega) (fun c34 => ?_) (fun c34 => ?_)
            · refine zr_iconst zC dX5_tells_50 ?_
              refine lv_istore (lv' := [(4, .int (zI 0)), (0, .ref (aM Γ)), (1, .int (zI w)), (2, .int (zI u)), (3, .int (zI q))]) zC.1 zC.2.1 dX5_tells_51 hl (by decide) rfl (fun ls hl => ?_)
              refine lv_iload_n zC.1 zC.2.1 dX5_tells_53 rfl (lv_at hl 3 rfl) ?_
              refine lv_iload zC.1 zC.2.1 dX5_tells_54 (lv_at hl 0 rfl) ?_
              refine zr_if_ne (tgt := 117) zC dX5_tells_56 (by decide) (by omega) (fun c56 => ?_) (fun c56 => ?_)
              · refine zr_iconst zC dX5_tells_117 ?_
                refine lv_goto (tgt := 122) zC.1 zC.2.1 dX5_tells_118 (by decide) ?_
                refine zr_iadd zC dX5_tells_122 ?_
                refine lv_istore_n (lv' := [(2, .int (zI (u + 1))), (4, .int (zI 0)), (0, .ref (aM Γ)), (1, .int (zI w)), (3, .int (zI q))]) zC.1 zC.2.1 dX5_tells_123 rfl hl (by decide) rfl (fun ls hl => ?_)
                refine zr_iinc (lv' := [(3, .int (zI (q + 1))), (2, .int (zI (u + 1))), (4, .int (zI 0)), (0, .ref (aM Γ)), (1, .int (zI w))]) zC dX5_tells_124 hl (k := 4) rfl (by decide) rfl (fun ls hl => ?_)
                refine lv_goto (tgt := 4) zC.1 zC.2.1 dX5_tells_127 (by decide) ?_
                exact ih4 (u + 1) (q + 1) H locs ls (by first | assumption | omega) (by rw [ctI_s hq.1, ← hu]; unfold zB; split <;> omega) (by omega) hG (lv_sub hl [3, 4, 1, 0] rfl)
              · refine lv_iload_n zC.1 zC.2.1 dX5_tells_59 rfl (lv_at hl 2 rfl) ?_
                refine zr_iconst zC dX5_tells_60 ?_
                refine zr_icmp_ne (tgt := 73) zC dX5_tells_61 (by decide) (by omega) (fun c61 => ?_) (fun c61 => ?_)
                · refine lv_iload_n zC.1 zC.2.1 dX5_tells_73 rfl (lv_at hl 2 rfl) ?_
                  refine zr_iconst zC dX5_tells_74 ?_
                  refine zr_icmp_ne (tgt := 92) zC dX5_tells_75 (by decide) (by omega) (fun c75 => ?_) (fun c75 => ?_)
                  · refine lv_iload_n zC.1 zC.2.1 dX5_tells_92 rfl (lv_at hl 2 rfl) ?_
                    refine zr_bipush zC dX5_tells_93 (by decide +kernel) ?_
                    refine zr_icmp_ne (tgt := 121) zC dX5_tells_95 (by decide) (by omega) (fun c95 => ?_) (fun c95 => ?_)
                    · refine zr_iconst zC dX5_tells_121 ?_
                      refine zr_iadd zC dX5_tells_122 ?_
                      refine lv_istore_n (lv' := [(2, .int (zI (u + 0))), (4, .int (zI 0)), (0, .ref (aM Γ)), (1, .int (zI w)), (3, .int (zI q))]) zC.1 zC.2.1 dX5_tells_123 rfl hl (by decide) rfl (fun ls hl => ?_)
                      refine zr_iinc (lv' := [(3, .int (zI (q + 1))), (2, .int (zI (u + 0))), (4, .int (zI 0)), (0, .ref (aM Γ)), (1, .int (zI w))]) zC dX5_tells_124 hl (k := 4) rfl (by decide) rfl (fun ls hl => ?_)
                      refine lv_goto (tgt := 4) zC.1 zC.2.1 dX5_tells_127 (by decide) ?_
                      exact ih4 (u + 0) (q + 1) H locs ls (by first | assumption | omega) (by rw [ctI_s hq.1, ← hu]; unfold zB; split <;> omega) (by omega) hG (lv_sub hl [3, 4, 1, 0] rfl)
                    · refine lv_iload_n zC.1 zC.2.1 dX5_tells_98 rfl (lv_at hl 4 rfl) ?_
                      refine zr_iconst zC dX5_tells_99 ?_
                      refine zr_icmp_ge (tgt := 121) zC dX5_tells_100 (by decide) (by omega) (fun c100 => ?_) (fun c100 => ?_)
                      · refine zr_iconst zC dX5_tells_121 ?_
                        refine zr_iadd zC dX5_tells_122 ?_
                        refine lv_istore_n (lv' := [(2, .int (zI (u + 0))), (4, .int (zI 0)), (0, .ref (aM Γ)), (1, .int (zI w)), (3, .int (zI q))]) zC.1 zC.2.1 dX5_tells_123 rfl hl (by decide) rfl (fun ls hl => ?_)
                        refine zr_iinc (lv' := [(3, .int (zI (q + 1))), (2, .int (zI (u + 0))), (4, .int (zI 0)), (0, .ref (aM Γ)), (1, .int (zI w))]) zC dX5_tells_124 hl (k := 4) rfl (by decide) rfl (fun ls hl => ?_)
                        refine lv_goto (tgt := 4) zC.1 zC.2.1 dX5_tells_127 (by decide) ?_
                        exact ih4 (u + 0) (q + 1) H locs ls (by first | assumption | omega) (by rw [ctI_s hq.1, ← hu]; unfold zB; split <;> omega) (by omega) hG (lv_sub hl [3, 4, 1, 0] rfl)
                      · refine lv_aload_n zC.1 zC.2.1 dX5_tells_103 rfl (lv_at hl 1 rfl) ?_
                        refine gf_M_kept zC hG wl_X5_47 dX5_tells_104 ?_
                        refine zr_bipush zC dX5_tells_107 (by decide +kernel) ?_
                        refine lv_iload_n zC.1 zC.2.1 dX5_tells_109 rfl (lv_at hl 4 rfl) ?_
                        refine zr_imul zC dX5_tells_110 ?_
                        refine gi_m_kept (v := kpM (τ 7 q 3) (τ 7 q 4)) zC hG (by omega) (hR.2.2.2.2.2.2.2 q (by omega) (by omega)).1 dX5_tells_111 ?_
                        have k111 := kpM_s (τ 7 q 3) (τ 7 q 4)
                        have k111b := hI.2.2.2.2.2.2.2 q (by omega) (by omega)
                        obtain ⟨k111c, k111d, -⟩ := k111b
                        refine zr_bipush zC dX5_tells_112 (by decide +kernel) ?_
                        refine zr_icmp_eq (tgt := 121) zC dX5_tells_114 (by decide) (by omega) (fun c114 => ?_) (fun c114 => ?_)
                        · refine zr_iconst zC dX5_tells_121 ?_
                          refine zr_iadd zC dX5_tells_122 ?_
                          refine lv_istore_n (lv' := [(2, .int (zI (u + 0))), (4, .int (zI 0)), (0, .ref (aM Γ)), (1, .int (zI w)), (3, .int (zI q))]) zC.1 zC.2.1 dX5_tells_123 rfl hl (by decide) rfl (fun ls hl => ?_)
                          refine zr_iinc (lv' := [(3, .int (zI (q + 1))), (2, .int (zI (u + 0))), (4, .int (zI 0)), (0, .ref (aM Γ)), (1, .int (zI w))]) zC dX5_tells_124 hl (k := 4) rfl (by decide) rfl (fun ls hl => ?_)
                          refine lv_goto (tgt := 4) zC.1 zC.2.1 dX5_tells_127 (by decide) ?_
                          exact ih4 (u + 0) (q + 1) H locs ls (by first | assumption | omega) (by rw [ctI_s hq.1, ← hu]; unfold zB; split <;> omega) (by omega) hG (lv_sub hl [3, 4, 1, 0] rfl)
                        · refine zr_iconst zC dX5_tells_117 ?_
                          refine lv_goto (tgt := 122) zC.1 zC.2.1 dX5_tells_118 (by decide) ?_
                          refine zr_iadd zC dX5_tells_122 ?_
                          refine lv_istore_n (lv' := [(2, .int (zI (u + 1))), (4, .int (zI 0)), (0, .ref (aM Γ)), (1, .int (zI w)), (3, .int (zI q))]) zC.1 zC.2.1 dX5_tells_123 rfl hl (by decide) rfl (fun ls hl => ?_)
                          refine zr_iinc (lv' := [(3, .int (zI (q + 1))), (2, .int (zI (u + 1))), (4, .int (zI 0)), (0, .ref (aM Γ)), (1, .int (zI w))]) zC dX5_tells_124 hl (k := 4) rfl (by decide) rfl (fun ls hl => ?_)
                          refine lv_goto (tgt := 4) zC.1 zC.2.1 dX5_tells_127 (by decide) ?_
                          exact ih4 (u + 1) (q + 1) H locs ls (by first | assumption | omega) (by rw [ctI_s hq.1, ← hu]; unfold zB; split <;> omega) (by omega) hG (lv_sub hl [3, 4, 1, 0] rfl)
                  · refine lv_iload_n zC.1 zC.2.1 dX5_tells_78 rfl (lv_at hl 4 rfl) ?_
                    refine zr_iconst zC dX5_tells_79 ?_
                    refine zr_icmp_ge (tgt := 92) zC dX5_tells_80 (by decide) (by omega) (fun c80 => ?_) (fun c80 => ?_)
                    · refine lv_iload_n zC.1 zC.2.1 dX5_tells_92 rfl (lv_at hl 2 rfl) ?_
                      refine zr_bipush zC dX5_tells_93 (by decide +kernel) ?_
                      refine zr_icmp_ne (tgt := 121) zC dX5_tells_95 (by decide) (by omega) (fun c95 => ?_) (fun c95 => ?_)
                      · refine zr_iconst zC dX5_tells_121 ?_
                        refine zr_iadd zC dX5_tells_122 ?_
                        refine lv_istore_n (lv' := [(2, .int (zI (u + 0))), (4, .int (zI 0)), (0, .ref (aM Γ)), (1, .int (zI w)), (3, .int (zI q))]) zC.1 zC.2.1 dX5_tells_123 rfl hl (by decide) rfl (fun ls hl => ?_)
                        refine zr_iinc (lv' := [(3, .int (zI (q + 1))), (2, .int (zI (u + 0))), (4, .int (zI 0)), (0, .ref (aM Γ)), (1, .int (zI w))]) zC dX5_tells_124 hl (k := 4) rfl (by decide) rfl (fun ls hl => ?_)
                        refine lv_goto (tgt := 4) zC.1 zC.2.1 dX5_tells_127 (by decide) ?_
                        exact ih4 (u + 0) (q + 1) H locs ls (by first | assumption | omega) (by rw [ctI_s hq.1, ← hu]; unfold zB; split <;> omega) (by omega) hG (lv_sub hl [3, 4, 1, 0] rfl)
                      · refine lv_iload_n zC.1 zC.2.1 dX5_tells_98 rfl (lv_at hl 4 rfl) ?_
                        refine zr_iconst zC dX5_tells_99 ?_
                        refine zr_icmp_ge (tgt := 121) zC dX5_tells_100 (by decide) (by omega) (fun c100 => ?_) (fun c100 => ?_)
                        · refine zr_iconst zC dX5_tells_121 ?_
                          refine zr_iadd zC dX5_tells_122 ?_
                          refine lv_istore_n (lv' := [(2, .int (zI (u + 0))), (4, .int (zI 0)), (0, .ref (aM Γ)), (1, .int (zI w)), (3, .int (zI q))]) zC.1 zC.2.1 dX5_tells_123 rfl hl (by decide) rfl (fun ls hl => ?_)
                          refine zr_iinc (lv' := [(3, .int (zI (q + 1))), (2, .int (zI (u + 0))), (4, .int (zI 0)), (0, .ref (aM Γ)), (1, .int (zI w))]) zC dX5_tells_124 hl (k := 4) rfl (by decide) rfl (fun ls hl => ?_)
                          refine lv_goto (tgt := 4) zC.1 zC.2.1 dX5_tells_127 (by decide) ?_
                          exact ih4 (u + 0) (q + 1) H locs ls (by first | assumption | omega) (by rw [ctI_s hq.1, ← hu]; unfold zB; split <;> omega) (by omega) hG (lv_sub hl [3, 4, 1, 0] rfl)
                        · refine lv_aload_n zC.1 zC.2.1 dX5_tells_103 rfl (lv_at hl 1 rfl) ?_
                          refine gf_M_kept zC hG wl_X5_47 dX5_tells_104 ?_
                          refine zr_bipush zC dX5_tells_107 (by decide +kernel) ?_
                          refine lv_iload_n zC.1 zC.2.1 dX5_tells_109 rfl (lv_at hl 4 rfl) ?_
                          refine zr_imul zC dX5_tells_110 ?_
                          refine gi_m_kept (v := kpM (τ 7 q 3) (τ 7 q 4)) zC hG (by omega) (hR.2.2.2.2.2.2.2 q (by omega) (by omega)).1 dX5_tells_111 ?_
                          have k111 := kpM_s (τ 7 q 3) (τ 7 q 4)
                          have k111b := hI.2.2.2.2.2.2.2 q (by omega) (by omega)
                          obtain ⟨k111c, k111d, -⟩ := k111b
                          refine zr_bipush zC dX5_tells_112 (by decide +kernel) ?_
                          refine zr_icmp_eq (tgt := 121) zC dX5_tells_114 (by decide) (by omega) (fun c114 => ?_) (fun c114 => ?_)
                          · refine zr_iconst zC dX5_tells_121 ?_
                            refine zr_iadd zC dX5_tells_122 ?_
                            refine lv_istore_n (lv' := [(2, .int (zI (u + 0))), (4, .int (zI 0)), (0, .ref (aM Γ)), (1, .int (zI w)), (3, .int (zI q))]) zC.1 zC.2.1 dX5_tells_123 rfl hl (by decide) rfl (fun ls hl => ?_)
                            refine zr_iinc (lv' := [(3, .int (zI (q + 1))), (2, .int (zI (u + 0))), (4, .int (zI 0)), (0, .ref (aM Γ)), (1, .int (zI w))]) zC dX5_tells_124 hl (k := 4) rfl (by decide) rfl (fun ls hl => ?_)
                            refine lv_goto (tgt := 4) zC.1 zC.2.1 dX5_tells_127 (by decide) ?_
                            exact ih4 (u + 0) (q + 1) H locs ls (by first | assumption | omega) (by rw [ctI_s hq.1, ← hu]; unfold zB; split <;> omega) (by omega) hG (lv_sub hl [3, 4, 1, 0] rfl)
                          · refine zr_iconst zC dX5_tells_117 ?_
                            refine lv_goto (tgt := 122) zC.1 zC.2.1 dX5_tells_118 (by decide) ?_
                            refine zr_iadd zC dX5_tells_122 ?_
                            refine lv_istore_n (lv' := [(2, .int (zI (u + 1))), (4, .int (zI 0)), (0, .ref (aM Γ)), (1, .int (zI w)), (3, .int (zI q))]) zC.1 zC.2.1 dX5_tells_123 rfl hl (by decide) rfl (fun ls hl => ?_)
                            refine zr_iinc (lv' := [(3, .int (zI (q + 1))), (2, .int (zI (u + 1))), (4, .int (zI 0)), (0, .ref (aM Γ)), (1, .int (zI w))]) zC dX5_tells_124 hl (k := 4) rfl (by decide) rfl (fun ls hl => ?_)
                            refine lv_goto (tgt := 4) zC.1 zC.2.1 dX5_tells_127 (by decide) ?_
                            exact ih4 (u + 1) (q + 1) H locs ls (by first | assumption | omega) (by rw [ctI_s hq.1, ← hu]; unfold zB; split <;> omega) (by omega) hG (lv_sub hl [3, 4, 1, 0] rfl)
                    · refine lv_aload_n zC.1 zC.2.1 dX5_tells_83 rfl (lv_at hl 1 rfl) ?_
                      refine gf_M_lengths zC hG wl_X5_26 dX5_tells_84 ?_
                      refine lv_iload_n zC.1 zC.2.1 dX5_tells_87 rfl (lv_at hl 4 rfl) ?_
                      refine gi_m_lengths (v := szM (τ 4 q 1)) zC hG (by omega) (hR.2.2.2.2.1 q (by omega) (by omega)) dX5_tells_88 ?_
                      have f88 := hI.2.2.2.2.1 q (by omega) (by omega)
                      have f88s := szM_s (τ 4 q 1)
                      refine zr_if_ge (tgt := 117) zC dX5_tells_89 (by decide) (by omega) (fun c89 => ?_) (fun c89 => ?_)
                      · refine zr_iconst zC dX5_tells_117 ?_
                        refine lv_goto (tgt := 122) zC.1 zC.2.1 dX5_tells_118 (by decide) ?_
                        refine zr_iadd zC dX5_tells_122 ?_
                        refine lv_istore_n (lv' := [(2, .int (zI (u + 1))), (4, .int (zI 0)), (0, .ref (aM Γ)), (1, .int (zI w)), (3, .int (zI q))]) zC.1 zC.2.1 dX5_tells_123 rfl hl (by decide) rfl (fun ls hl => ?_)
                        refine zr_iinc (lv' := [(3, .int (zI (q + 1))), (2, .int (zI (u + 1))), (4, .int (zI 0)), (0, .ref (aM Γ)), (1, .int (zI w))]) zC dX5_tells_124 hl (k := 4) rfl (by decide) rfl (fun ls hl => ?_)
                        refine lv_goto (tgt := 4) zC.1 zC.2.1 dX5_tells_127 (by decide) ?_
                        exact ih4 (u + 1) (q + 1) H locs ls (by first | assumption | omega) (by rw [ctI_s hq.1, ← hu]; unfold zB; split <;> omega) (by omega) hG (lv_sub hl [3, 4, 1, 0] rfl)
                      · refine lv_iload_n zC.1 zC.2.1 dX5_tells_92 rfl (lv_at hl 2 rfl) ?_
                        refine zr_bipush zC dX5_tells_93 (by decide +kernel) ?_
                        refine zr_icmp_ne (tgt := 121) zC dX5_tells_95 (by decide) (by omega) (fun c95 => ?_) (fun c95 => ?_)
                        · refine zr_iconst zC dX5_tells_121 ?_
                          refine zr_iadd zC dX5_tells_122 ?_
                          refine lv_istore_n (lv' := [(2, .int (zI (u + 0))), (4, .int (zI 0)), (0, .ref (aM Γ)), (1, .int (zI w)), (3, .int (zI q))]) zC.1 zC.2.1 dX5_tells_123 rfl hl (by decide) rfl (fun ls hl => ?_)
                          refine zr_iinc (lv' := [(3, .int (zI (q + 1))), (2, .int (zI (u + 0))), (4, .int (zI 0)), (0, .ref (aM Γ)), (1, .int (zI w))]) zC dX5_tells_124 hl (k := 4) rfl (by decide) rfl (fun ls hl => ?_)
                          refine lv_goto (tgt := 4) zC.1 zC.2.1 dX5_tells_127 (by decide) ?_
                          exact ih4 (u + 0) (q + 1) H locs ls (by first | assumption | omega) (by rw [ctI_s hq.1, ← hu]; unfold zB; split <;> omega) (by omega) hG (lv_sub hl [3, 4, 1, 0] rfl)
                        · refine lv_iload_n zC.1 zC.2.1 dX5_tells_98 rfl (lv_at hl 4 rfl) ?_
                          refine zr_iconst zC dX5_tells_99 ?_
                          refine zr_icmp_ge (tgt := 121) zC dX5_tells_100 (by decide) (by omega) (fun c100 => ?_) (fun c100 => ?_)
                          · refine zr_iconst zC dX5_tells_121 ?_
                            refine zr_iadd zC dX5_tells_122 ?_
                            refine lv_istore_n (lv' := [(2, .int (zI (u + 0))), (4, .int (zI 0)), (0, .ref (aM Γ)), (1, .int (zI w)), (3, .int (zI q))]) zC.1 zC.2.1 dX5_tells_123 rfl hl (by decide) rfl (fun ls hl => ?_)
                            refine zr_iinc (lv' := [(3, .int (zI (q + 1))), (2, .int (zI (u + 0))), (4, .int (zI 0)), (0, .ref (aM Γ)), (1, .int (zI w))]) zC dX5_tells_124 hl (k := 4) rfl (by decide) rfl (fun ls hl => ?_)
                            refine lv_goto (tgt := 4) zC.1 zC.2.1 dX5_tells_127 (by decide) ?_
                            exact ih4 (u + 0) (q + 1) H locs ls (by first | assumption | omega) (by rw [ctI_s hq.1, ← hu]; unfold zB; split <;> omega) (by omega) hG (lv_sub hl [3, 4, 1, 0] rfl)
                          · refine lv_aload_n zC.1 zC.2.1 dX5_tells_103 rfl (lv_at hl 1 rfl) ?_
                            refine gf_M_kept zC hG wl_X5_47 dX5_tells_104 ?_
                            refine zr_bipush zC dX5_tells_107 (by decide +kernel) ?_
                            refine lv_iload_n zC.1 zC.2.1 dX5_tells_109 rfl (lv_at hl 4 rfl) ?_
                            refine zr_imul zC dX5_tells_110 ?_
                            refine gi_m_kept (v := kpM (τ 7 q 3) (τ 7 q 4)) zC hG (by omega) (hR.2.2.2.2.2.2.2 q (by omega) (by omega)).1 dX5_tells_111 ?_
                            have k111 := kpM_s (τ 7 q 3) (τ 7 q 4)
                            have k111b := hI.2.2.2.2.2.2.2 q (by omega) (by omega)
                            obtain ⟨k111c, k111d, -⟩ := k111b
                            refine zr_bipush zC dX5_tells_112 (by decide +kernel) ?_
                            refine zr_icmp_eq (tgt := 121) zC dX5_tells_114 (by decide) (by omega) (fun c114 => ?_) (fun c114 => ?_)
                            · refine zr_iconst zC dX5_tells_121 ?_
                              refine zr_iadd zC dX5_tells_122 ?_
                              refine lv_istore_n (lv' := [(2, .int (zI (u + 0))), (4, .int (zI 0)), (0, .ref (aM Γ)), (1, .int (zI w)), (3, .int (zI q))]) zC.1 zC.2.1 dX5_tells_123 rfl hl (by decide) rfl (fun ls hl => ?_)
                              refine zr_iinc (lv' := [(3, .int (zI (q + 1))), (2, .int (zI (u + 0))), (4, .int (zI 0)), (0, .ref (aM Γ)), (1, .int (zI w))]) zC dX5_tells_124 hl (k := 4) rfl (by decide) rfl (fun ls hl => ?_)
                              refine lv_goto (tgt := 4) zC.1 zC.2.1 dX5_tells_127 (by decide) ?_
                              exact ih4 (u + 0) (q + 1) H locs ls (by first | assumption | omega) (by rw [ctI_s hq.1, ← hu]; unfold zB; split <;> omega) (by omega) hG (lv_sub hl [3, 4, 1, 0] rfl)
                            · refine zr_iconst zC dX5_tells_117 ?_
                              refine lv_goto (tgt := 122) zC.1 zC.2.1 dX5_tells_118 (by decide) ?_
                              refine zr_iadd zC dX5_tells_122 ?_
                              refine lv_istore_n (lv' := [(2, .int (zI (u + 1))), (4, .int (zI 0)), (0, .ref (aM Γ)), (1, .int (zI w)), (3, .int (zI q))]) zC.1 zC.2.1 dX5_tells_123 rfl hl (by decide) rfl (fun ls hl => ?_)
                              refine zr_iinc (lv' := [(3, .int (zI (q + 1))), (2, .int (zI (u + 1))), (4, .int (zI 0)), (0, .ref (aM Γ)), (1, .int (zI w))]) zC dX5_tells_124 hl (k := 4) rfl (by decide) rfl (fun ls hl => ?_)
                              refine lv_goto (tgt := 4) zC.1 zC.2.1 dX5_tells_127 (by decide) ?_
                              exact ih4 (u + 1) (q + 1) H locs ls (by first | assumption | omega) (by rw [ctI_s hq.1, ← hu]; unfold zB; split <;> omega) (by omega) hG (lv_sub hl [3, 4, 1, 0] rfl)
                · refine lv_aload_n zC.1 zC.2.1 dX5_tells_64 rfl (lv_at hl 1 rfl) ?_
                  refine gf_M_sizes zC hG wl_X5_17 dX5_tells_65 ?_
                  refine lv_iload_n zC.1 zC.2.1 dX5_tells_68 rfl (lv_at hl 4 rfl) ?_
                  refine gi_m_sizes (v := szM (τ 2 q 1)) zC hG (by omega) (hR.2.2.1 q (by omega) (by omega)) dX5_tells_69 ?_
                  have f69 := hI.2.2.1 q (by omega) (by omega)
                  have f69s := szM_s (τ 2 q 1)
                  refine zr_if_ge (tgt := 117) zC dX5_tells_70 (by decide) (by omega) (fun c70 => ?_) (fun c70 => ?_)
                  · refine zr_iconst zC dX5_tells_117 ?_
                    refine lv_goto (tgt := 122) zC.1 zC.2.1 dX5_tells_118 (by decide) ?_
                    refine zr_iadd zC dX5_tells_122 ?_
                    refine lv_istore_n (lv' := [(2, .int (zI (u + 1))), (4, .int (zI 0)), (0, .ref (aM Γ)), (1, .int (zI w)), (3, .int (zI q))]) zC.1 zC.2.1 dX5_tells_123 rfl hl (by decide) rfl (fun ls hl => ?_)
                    refine zr_iinc (lv' := [(3, .int (zI (q + 1))), (2, .int (zI (u + 1))), (4, .int (zI 0)), (0, .ref (aM Γ)), (1, .int (zI w))]) zC dX5_tells_124 hl (k := 4) rfl (by decide) rfl (fun ls hl => ?_)
                    refine lv_goto (tgt := 4) zC.1 zC.2.1 dX5_tells_127 (by decide) ?_
                    exact ih4 (u + 1) (q + 1) H locs ls (by first | assumption | omega) (by rw [ctI_s hq.1, ← hu]; unfold zB; split <;> omega) (by omega) hG (lv_sub hl [3, 4, 1, 0] rfl)
                  · refine lv_iload_n zC.1 zC.2.1 dX5_tells_73 rfl (lv_at hl 2 rfl) ?_
                    refine zr_iconst zC dX5_tells_74 ?_
                    refine zr_icmp_ne (tgt := 92) zC dX5_tells_75 (by decide) (by omega) (fun c75 => ?_) (fun c75 => ?_)
                    · refine lv_iload_n zC.1 zC.2.1 dX5_tells_92 rfl (lv_at hl 2 rfl) ?_
                      refine zr_bipush zC dX5_tells_93 (by decide +kernel) ?_
                      refine zr_icmp_ne (tgt := 121) zC dX5_tells_95 (by decide) (by omega) (fun c95 => ?_) (fun c95 => ?_)
                      · refine zr_iconst zC dX5_tells_121 ?_
                        refine zr_iadd zC dX5_tells_122 ?_
                        refine lv_istore_n (lv' := [(2, .int (zI (u + 0))), (4, .int (zI 0)), (0, .ref (aM Γ)), (1, .int (zI w)), (3, .int (zI q))]) zC.1 zC.2.1 dX5_tells_123 rfl hl (by decide) rfl (fun ls hl => ?_)
                        refine zr_iinc (lv' := [(3, .int (zI (q + 1))), (2, .int (zI (u + 0))), (4, .int (zI 0)), (0, .ref (aM Γ)), (1, .int (zI w))]) zC dX5_tells_124 hl (k := 4) rfl (by decide) rfl (fun ls hl => ?_)
                        refine lv_goto (tgt := 4) zC.1 zC.2.1 dX5_tells_127 (by decide) ?_
                        exact ih4 (u + 0) (q + 1) H locs ls (by first | assumption | omega) (by rw [ctI_s hq.1, ← hu]; unfold zB; split <;> omega) (by omega) hG (lv_sub hl [3, 4, 1, 0] rfl)
                      · refine lv_iload_n zC.1 zC.2.1 dX5_tells_98 rfl (lv_at hl 4 rfl) ?_
                        refine zr_iconst zC dX5_tells_99 ?_
                        refine zr_icmp_ge (tgt := 121) zC dX5_tells_100 (by decide) (by omega) (fun c100 => ?_) (fun c100 => ?_)
                        · refine zr_iconst zC dX5_tells_121 ?_
                          refine zr_iadd zC dX5_tells_122 ?_
                          refine lv_istore_n (lv' := [(2, .int (zI (u + 0))), (4, .int (zI 0)), (0, .ref (aM Γ)), (1, .int (zI w)), (3, .int (zI q))]) zC.1 zC.2.1 dX5_tells_123 rfl hl (by decide) rfl (fun ls hl => ?_)
                          refine zr_iinc (lv' := [(3, .int (zI (q + 1))), (2, .int (zI (u + 0))), (4, .int (zI 0)), (0, .ref (aM Γ)), (1, .int (zI w))]) zC dX5_tells_124 hl (k := 4) rfl (by decide) rfl (fun ls hl => ?_)
                          refine lv_goto (tgt := 4) zC.1 zC.2.1 dX5_tells_127 (by decide) ?_
                          exact ih4 (u + 0) (q + 1) H locs ls (by first | assumption | omega) (by rw [ctI_s hq.1, ← hu]; unfold zB; split <;> omega) (by omega) hG (lv_sub hl [3, 4, 1, 0] rfl)
                        · refine lv_aload_n zC.1 zC.2.1 dX5_tells_103 rfl (lv_at hl 1 rfl) ?_
                          refine gf_M_kept zC hG wl_X5_47 dX5_tells_104 ?_
                          refine zr_bipush zC dX5_tells_107 (by decide +kernel) ?_
                          refine lv_iload_n zC.1 zC.2.1 dX5_tells_109 rfl (lv_at hl 4 rfl) ?_
                          refine zr_imul zC dX5_tells_110 ?_
                          refine gi_m_kept (v := kpM (τ 7 q 3) (τ 7 q 4)) zC hG (by omega) (hR.2.2.2.2.2.2.2 q (by omega) (by omega)).1 dX5_tells_111 ?_
                          have k111 := kpM_s (τ 7 q 3) (τ 7 q 4)
                          have k111b := hI.2.2.2.2.2.2.2 q (by omega) (by omega)
                          obtain ⟨k111c, k111d, -⟩ := k111b
                          refine zr_bipush zC dX5_tells_112 (by decide +kernel) ?_
                          refine zr_icmp_eq (tgt := 121) zC dX5_tells_114 (by decide) (by omega) (fun c114 => ?_) (fun c114 => ?_)
                          · refine zr_iconst zC dX5_tells_121 ?_
                            refine zr_iadd zC dX5_tells_122 ?_
                            refine lv_istore_n (lv' := [(2, .int (zI (u + 0))), (4, .int (zI 0)), (0, .ref (aM Γ)), (1, .int (zI w)), (3, .int (zI q))]) zC.1 zC.2.1 dX5_tells_123 rfl hl (by decide) rfl (fun ls hl => ?_)
                            refine zr_iinc (lv' := [(3, .int (zI (q + 1))), (2, .int (zI (u + 0))), (4, .int (zI 0)), (0, .ref (aM Γ)), (1, .int (zI w))]) zC dX5_tells_124 hl (k := 4) rfl (by decide) rfl (fun ls hl => ?_)
                            refine lv_goto (tgt := 4) zC.1 zC.2.1 dX5_tells_127 (by decide) ?_
                            exact ih4 (u + 0) (q + 1) H locs ls (by first | assumption | omega) (by rw [ctI_s hq.1, ← hu]; unfold zB; split <;> omega) (by omega) hG (lv_sub hl [3, 4, 1, 0] rfl)
                          · refine zr_iconst zC dX5_tells_117 ?_
                            refine lv_goto (tgt := 122) zC.1 zC.2.1 dX5_tells_118 (by decide) ?_
                            refine zr_iadd zC dX5_tells_122 ?_
                            refine lv_istore_n (lv' := [(2, .int (zI (u + 1))), (4, .int (zI 0)), (0, .ref (aM Γ)), (1, .int (zI w)), (3, .int (zI q))]) zC.1 zC.2.1 dX5_tells_123 rfl hl (by decide) rfl (fun ls hl => ?_)
                            refine zr_iinc (lv' := [(3, .int (zI (q + 1))), (2, .int (zI (u + 1))), (4, .int (zI 0)), (0, .ref (aM Γ)), (1, .int (zI w))]) zC dX5_tells_124 hl (k := 4) rfl (by decide) rfl (fun ls hl => ?_)
                            refine lv_goto (tgt := 4) zC.1 zC.2.1 dX5_tells_127 (by decide) ?_
                            exact ih4 (u + 1) (q + 1) H locs ls (by first | assumption | omega) (by rw [ctI_s hq.1, ← hu]; unfold zB; split <;> omega) (by omega) hG (lv_sub hl [3, 4, 1, 0] rfl)
                    · refine lv_iload_n zC.1 zC.2.1 dX5_tells_78 rfl (lv_at hl 4 rfl) ?_
                      refine zr_iconst zC dX5_tells_79 ?_
                      refine zr_icmp_ge (tgt := 92) zC dX5_tells_80 (by decide) (by omega) (fun c80 => ?_) (fun c80 => ?_)
                      · refine lv_iload_n zC.1 zC.2.1 dX5_tells_92 rfl (lv_at hl 2 rfl) ?_
                        refine zr_bipush zC dX5_tells_93 (by decide +kernel) ?_
                        refine zr_icmp_ne (tgt := 121) zC dX5_tells_95 (by decide) (by omega) (fun c95 => ?_) (fun c95 => ?_)
                        · refine zr_iconst zC dX5_tells_121 ?_
                          refine zr_iadd zC dX5_tells_122 ?_
                          refine lv_istore_n (lv' := [(2, .int (zI (u + 0))), (4, .int (zI 0)), (0, .ref (aM Γ)), (1, .int (zI w)), (3, .int (zI q))]) zC.1 zC.2.1 dX5_tells_123 rfl hl (by decide) rfl (fun ls hl => ?_)
                          refine zr_iinc (lv' := [(3, .int (zI (q + 1))), (2, .int (zI (u + 0))), (4, .int (zI 0)), (0, .ref (aM Γ)), (1, .int (zI w))]) zC dX5_tells_124 hl (k := 4) rfl (by decide) rfl (fun ls hl => ?_)
                          refine lv_goto (tgt := 4) zC.1 zC.2.1 dX5_tells_127 (by decide) ?_
                          exact ih4 (u + 0) (q + 1) H locs ls (by first | assumption | omega) (by rw [ctI_s hq.1, ← hu]; unfold zB; split <;> omega) (by omega) hG (lv_sub hl [3, 4, 1, 0] rfl)
                        · refine lv_iload_n zC.1 zC.2.1 dX5_tells_98 rfl (lv_at hl 4 rfl) ?_
                          refine zr_iconst zC dX5_tells_99 ?_
                          refine zr_icmp_ge (tgt := 121) zC dX5_tells_100 (by decide) (by omega) (fun c100 => ?_) (fun c100 => ?_)
                          · refine zr_iconst zC dX5_tells_121 ?_
                            refine zr_iadd zC dX5_tells_122 ?_
                            refine lv_istore_n (lv' := [(2, .int (zI (u + 0))), (4, .int (zI 0)), (0, .ref (aM Γ)), (1, .int (zI w)), (3, .int (zI q))]) zC.1 zC.2.1 dX5_tells_123 rfl hl (by decide) rfl (fun ls hl => ?_)
                            refine zr_iinc (lv' := [(3, .int (zI (q + 1))), (2, .int (zI (u + 0))), (4, .int (zI 0)), (0, .ref (aM Γ)), (1, .int (zI w))]) zC dX5_tells_124 hl (k := 4) rfl (by decide) rfl (fun ls hl => ?_)
                            refine lv_goto (tgt := 4) zC.1 zC.2.1 dX5_tells_127 (by decide) ?_
                            exact ih4 (u + 0) (q + 1) H locs ls (by first | assumption | omega) (by rw [ctI_s hq.1, ← hu]; unfold zB; split <;> omega) (by omega) hG (lv_sub hl [3, 4, 1, 0] rfl)
                          · refine lv_aload_n zC.1 zC.2.1 dX5_tells_103 rfl (lv_at hl 1 rfl) ?_
                            refine gf_M_kept zC hG wl_X5_47 dX5_tells_104 ?_
                            refine zr_bipush zC dX5_tells_107 (by decide +kernel) ?_
                            refine lv_iload_n zC.1 zC.2.1 dX5_tells_109 rfl (lv_at hl 4 rfl) ?_
                            refine zr_imul zC dX5_tells_110 ?_
                            refine gi_m_kept (v := kpM (τ 7 q 3) (τ 7 q 4)) zC hG (by omega) (hR.2.2.2.2.2.2.2 q (by omega) (by omega)).1 dX5_tells_111 ?_
                            have k111 := kpM_s (τ 7 q 3) (τ 7 q 4)
                            have k111b := hI.2.2.2.2.2.2.2 q (by omega) (by omega)
                            obtain ⟨k111c, k111d, -⟩ := k111b
                            refine zr_bipush zC dX5_tells_112 (by decide +kernel) ?_
                            refine zr_icmp_eq (tgt := 121) zC dX5_tells_114 (by decide) (by omega) (fun c114 => ?_) (fun c114 => ?_)
                            · refine zr_iconst zC dX5_tells_121 ?_
                              refine zr_iadd zC dX5_tells_122 ?_
                              refine lv_istore_n (lv' := [(2, .int (zI (u + 0))), (4, .int (zI 0)), (0, .ref (aM Γ)), (1, .int (zI w)), (3, .int (zI q))]) zC.1 zC.2.1 dX5_tells_123 rfl hl (by decide) rfl (fun ls hl => ?_)
                              refine zr_iinc (lv' := [(3, .int (zI (q + 1))), (2, .int (zI (u + 0))), (4, .int (zI 0)), (0, .ref (aM Γ)), (1, .int (zI w))]) zC dX5_tells_124 hl (k := 4) rfl (by decide) rfl (fun ls hl => ?_)
                              refine lv_goto (tgt := 4) zC.1 zC.2.1 dX5_tells_127 (by decide) ?_
                              exact ih4 (u + 0) (q + 1) H locs ls (by first | assumption | omega) (by rw [ctI_s hq.1, ← hu]; unfold zB; split <;> omega) (by omega) hG (lv_sub hl [3, 4, 1, 0] rfl)
                            · refine zr_iconst zC dX5_tells_117 ?_
                              refine lv_goto (tgt := 122) zC.1 zC.2.1 dX5_tells_118 (by decide) ?_
                              refine zr_iadd zC dX5_tells_122 ?_
                              refine lv_istore_n (lv' := [(2, .int (zI (u + 1))), (4, .int (zI 0)), (0, .ref (aM Γ)), (1, .int (zI w)), (3, .int (zI q))]) zC.1 zC.2.1 dX5_tells_123 rfl hl (by decide) rfl (fun ls hl => ?_)
                              refine zr_iinc (lv' := [(3, .int (zI (q + 1))), (2, .int (zI (u + 1))), (4, .int (zI 0)), (0, .ref (aM Γ)), (1, .int (zI w))]) zC dX5_tells_124 hl (k := 4) rfl (by decide) rfl (fun ls hl => ?_)
                              refine lv_goto (tgt := 4) zC.1 zC.2.1 dX5_tells_127 (by decide) ?_
                              exact ih4 (u + 1) (q + 1) H locs ls (by first | assumption | omega) (by rw [ctI_s hq.1, ← hu]; unfold zB; split <;> omega) (by omega) hG (lv_sub hl [3, 4, 1, 0] rfl)
                      · refine lv_aload_n zC.1 zC.2.1 dX5_tells_83 rfl (lv_at hl 1 rfl) ?_
                        refine gf_M_lengths zC hG wl_X5_26 dX5_tells_84 ?_
                        refine lv_iload_n zC.1 zC.2.1 dX5_tells_87 rfl (lv_at hl 4 rfl) ?_
                        refine gi_m_lengths (v := szM (τ 4 q 1)) zC hG (by omega) (hR.2.2.2.2.1 q (by omega) (by omega)) dX5_tells_88 ?_
                        have f88 := hI.2.2.2.2.1 q (by omega) (by omega)
                        have f88s := szM_s (τ 4 q 1)
                        refine zr_if_ge (tgt := 117) zC dX5_tells_89 (by decide) (by omega) (fun c89 => ?_) (fun c89 => ?_)
                        · refine zr_iconst zC dX5_tells_117 ?_
                          refine lv_goto (tgt := 122) zC.1 zC.2.1 dX5_tells_118 (by decide) ?_
                          refine zr_iadd zC dX5_tells_122 ?_
                          refine lv_istore_n (lv' := [(2, .int (zI (u + 1))), (4, .int (zI 0)), (0, .ref (aM Γ)), (1, .int (zI w)), (3, .int (zI q))]) zC.1 zC.2.1 dX5_tells_123 rfl hl (by decide) rfl (fun ls hl => ?_)
                          refine zr_iinc (lv' := [(3, .int (zI (q + 1))), (2, .int (zI (u + 1))), (4, .int (zI 0)), (0, .ref (aM Γ)), (1, .int (zI w))]) zC dX5_tells_124 hl (k := 4) rfl (by decide) rfl (fun ls hl => ?_)
                          refine lv_goto (tgt := 4) zC.1 zC.2.1 dX5_tells_127 (by decide) ?_
                          exact ih4 (u + 1) (q + 1) H locs ls (by first | assumption | omega) (by rw [ctI_s hq.1, ← hu]; unfold zB; split <;> omega) (by omega) hG (lv_sub hl [3, 4, 1, 0] rfl)
                        · refine lv_iload_n zC.1 zC.2.1 dX5_tells_92 rfl (lv_at hl 2 rfl) ?_
                          refine zr_bipush zC dX5_tells_93 (by decide +kernel) ?_
                          refine zr_icmp_ne (tgt := 121) zC dX5_tells_95 (by decide) (by omega) (fun c95 => ?_) (fun c95 => ?_)
                          · refine zr_iconst zC dX5_tells_121 ?_
                            refine zr_iadd zC dX5_tells_122 ?_
                            refine lv_istore_n (lv' := [(2, .int (zI (u + 0))), (4, .int (zI 0)), (0, .ref (aM Γ)), (1, .int (zI w)), (3, .int (zI q))]) zC.1 zC.2.1 dX5_tells_123 rfl hl (by decide) rfl (fun ls hl => ?_)
                            refine zr_iinc (lv' := [(3, .int (zI (q + 1))), (2, .int (zI (u + 0))), (4, .int (zI 0)), (0, .ref (aM Γ)), (1, .int (zI w))]) zC dX5_tells_124 hl (k := 4) rfl (by decide) rfl (fun ls hl => ?_)
                            refine lv_goto (tgt := 4) zC.1 zC.2.1 dX5_tells_127 (by decide) ?_
                            exact ih4 (u + 0) (q + 1) H locs ls (by first | assumption | omega) (by rw [ctI_s hq.1, ← hu]; unfold zB; split <;> omega) (by omega) hG (lv_sub hl [3, 4, 1, 0] rfl)
                          · refine lv_iload_n zC.1 zC.2.1 dX5_tells_98 rfl (lv_at hl 4 rfl) ?_
                            refine zr_iconst zC dX5_tells_99 ?_
                            refine zr_icmp_ge (tgt := 121) zC dX5_tells_100 (by decide) (by omega) (fun c100 => ?_) (fun c100 => ?_)
                            · refine zr_iconst zC dX5_tells_121 ?_
                              refine zr_iadd zC dX5_tells_122 ?_
                              refine lv_istore_n (lv' := [(2, .int (zI (u + 0))), (4, .int (zI 0)), (0, .ref (aM Γ)), (1, .int (zI w)), (3, .int (zI q))]) zC.1 zC.2.1 dX5_tells_123 rfl hl (by decide) rfl (fun ls hl => ?_)
                              refine zr_iinc (lv' := [(3, .int (zI (q + 1))), (2, .int (zI (u + 0))), (4, .int (zI 0)), (0, .ref (aM Γ)), (1, .int (zI w))]) zC dX5_tells_124 hl (k := 4) rfl (by decide) rfl (fun ls hl => ?_)
                              refine lv_goto (tgt := 4) zC.1 zC.2.1 dX5_tells_127 (by decide) ?_
                              exact ih4 (u + 0) (q + 1) H locs ls (by first | assumption | omega) (by rw [ctI_s hq.1, ← hu]; unfold zB; split <;> omega) (by omega) hG (lv_sub hl [3, 4, 1, 0] rfl)
                            · refine lv_aload_n zC.1 zC.2.1 dX5_tells_103 rfl (lv_at hl 1 rfl) ?_
                              refine gf_M_kept zC hG wl_X5_47 dX5_tells_104 ?_
                              refine zr_bipush zC dX5_tells_107 (by decide +kernel) ?_
                              refine lv_iload_n zC.1 zC.2.1 dX5_tells_109 rfl (lv_at hl 4 rfl) ?_
                              refine zr_imul zC dX5_tells_110 ?_
                              refine gi_m_kept (v := kpM (τ 7 q 3) (τ 7 q 4)) zC hG (by omega) (hR.2.2.2.2.2.2.2 q (by omega) (by omega)).1 dX5_tells_111 ?_
                              have k111 := kpM_s (τ 7 q 3) (τ 7 q 4)
                              have k111b := hI.2.2.2.2.2.2.2 q (by omega) (by omega)
                              obtain ⟨k111c, k111d, -⟩ := k111b
                              refine zr_bipush zC dX5_tells_112 (by decide +kernel) ?_
                              refine zr_icmp_eq (tgt := 121) zC dX5_tells_114 (by decide) (by omega) (fun c114 => ?_) (fun c114 => ?_)
                              · refine zr_iconst zC dX5_tells_121 ?_
                                refine zr_iadd zC dX5_tells_122 ?_
                                refine lv_istore_n (lv' := [(2, .int (zI (u + 0))), (4, .int (zI 0)), (0, .ref (aM Γ)), (1, .int (zI w)), (3, .int (zI q))]) zC.1 zC.2.1 dX5_tells_123 rfl hl (by decide) rfl (fun ls hl => ?_)
                                refine zr_iinc (lv' := [(3, .int (zI (q + 1))), (2, .int (zI (u + 0))), (4, .int (zI 0)), (0, .ref (aM Γ)), (1, .int (zI w))]) zC dX5_tells_124 hl (k := 4) rfl (by decide) rfl (fun ls hl => ?_)
                                refine lv_goto (tgt := 4) zC.1 zC.2.1 dX5_tells_127 (by decide) ?_
                                exact ih4 (u + 0) (q + 1) H locs ls (by first | assumption | omega) (by rw [ctI_s hq.1, ← hu]; unfold zB; split <;> omega) (by omega) hG (lv_sub hl [3, 4, 1, 0] rfl)
                              · refine zr_iconst zC dX5_tells_117 ?_
                                refine lv_goto (tgt := 122) zC.1 zC.2.1 dX5_tells_118 (by decide) ?_
                                refine zr_iadd zC dX5_tells_122 ?_
                                refine lv_istore_n (lv' := [(2, .int (zI (u + 1))), (4, .int (zI 0)), (0, .ref (aM Γ)), (1, .int (zI w)), (3, .int (zI q))]) zC.1 zC.2.1 dX5_tells_123 rfl hl (by decide) rfl (fun ls hl => ?_)
                                refine zr_iinc (lv' := [(3, .int (zI (q + 1))), (2, .int (zI (u + 1))), (4, .int (zI 0)), (0, .ref (aM Γ)), (1, .int (zI w))]) zC dX5_tells_124 hl (k := 4) rfl (by decide) rfl (fun ls hl => ?_)
                                refine lv_goto (tgt := 4) zC.1 zC.2.1 dX5_tells_127 (by decide) ?_
                                exact ih4 (u + 1) (q + 1) H locs ls (by first | assumption | omega) (by rw [ctI_s hq.1, ← hu]; unfold zB; split <;> omega) (by omega) hG (lv_sub hl [3, 4, 1, 0] rfl)
            · refine lv_aload_n zC.1 zC.2.1 dX5_tells_37 rfl (lv_at hl 0 rfl) ?_
              refine lv_iload_n zC.1 zC.2.1 dX5_tells_38 rfl (lv_at hl 3 rfl) ?_
              refine zr_iconst zC dX5_tells_39 ?_
              refine zr_callV zC hG (c_X5_isA (τ := τ) (σ := σ) (c := q) (w := 2) hR hI (by first | assumption | omega) (by first | assumption | omega)) mt_X5_isA wl_X5_178 pM rfl rfl ⟨by decide, by decide⟩ rfl hl.1 rfl (Nat.le_of_ble_eq_true rfl) dX5_tells_40 ⟨Nat.zero_le _, Nat.zero_le _⟩ (fun H locs hG => ?_)
              refine W.eq (g2 := F0 zm 43 ls [.int (zI (zB (isO (τ 6 q 0) 2)))]) rfl ?_
              refine zr_ifeqB (tgt := 50) zC dX5_tells_43 (by decide) (fun c43 => ?_) (fun c43 => ?_)
              · refine zr_iconst zC dX5_tells_50 ?_
                refine lv_istore (lv' := [(4, .int (zI 0)), (0, .ref (aM Γ)), (1, .int (zI w)), (2, .int (zI u)), (3, .int (zI q))]) zC.1 zC.2.1 dX5_tells_51 hl (by decide) rfl (fun ls hl => ?_)
                refine lv_iload_n zC.1 zC.2.1 dX5_tells_53 rfl (lv_at hl 3 rfl) ?_
                refine lv_iload zC.1 zC.2.1 dX5_tells_54 (lv_at hl 0 rfl) ?_
                refine zr_if_ne (tgt := 117) zC dX5_tells_56 (by decide) (by omega) (fun c56 => ?_) (fun c56 => ?_)
                · refine zr_iconst zC dX5_tells_117 ?_
                  refine lv_goto (tgt := 122) zC.1 zC.2.1 dX5_tells_118 (by decide) ?_
                  refine zr_iadd zC dX5_tells_122 ?_
                  refine lv_istore_n (lv' := [(2, .int (zI (u + 1))), (4, .int (zI 0)), (0, .ref (aM Γ)), (1, .int (zI w)), (3, .int (zI q))]) zC.1 zC.2.1 dX5_tells_123 rfl hl (by decide) rfl (fun ls hl => ?_)
                  refine zr_iinc (lv' := [(3, .int (zI (q + 1))), (2, .int (zI (u + 1))), (4, .int (zI 0)), (0, .ref (aM Γ)), (1, .int (zI w))]) zC dX5_tells_124 hl (k := 4) rfl (by decide) rfl (fun ls hl => ?_)
                  refine lv_goto (tgt := 4) zC.1 zC.2.1 dX5_tells_127 (by decide) ?_
                  exact ih4 (u + 1) (q + 1) H locs ls (by first | assumption | omega) (by rw [ctI_s hq.1, ← hu]; unfold zB; split <;> omega) (by omega) hG (lv_sub hl [3, 4, 1, 0] rfl)
                · refine lv_iload_n zC.1 zC.2.1 dX5_tells_59 rfl (lv_at hl 2 rfl) ?_
                  refine zr_iconst zC dX5_tells_60 ?_
                  refine zr_icmp_ne (tgt := 73) zC dX5_tells_61 (by decide) (by omega) (fun c61 => ?_) (fun c61 => ?_)
                  · refine lv_iload_n zC.1 zC.2.1 dX5_tells_73 rfl (lv_at hl 2 rfl) ?_
                    refine zr_iconst zC dX5_tells_74 ?_
                    refine zr_icmp_ne (tgt := 92) zC dX5_tells_75 (by decide) (by omega) (fun c75 => ?_) (fun c75 => ?_)
                    · refine lv_iload_n zC.1 zC.2.1 dX5_tells_92 rfl (lv_at hl 2 rfl) ?_
                      refine zr_bipush zC dX5_tells_93 (by decide +kernel) ?_
                      refine zr_icmp_ne (tgt := 121) zC dX5_tells_95 (by decide) (by omega) (fun c95 => ?_) (fun c95 => ?_)
                      · refine zr_iconst zC dX5_tells_121 ?_
                        refine zr_iadd zC dX5_tells_122 ?_
                        refine lv_istore_n (lv' := [(2, .int (zI (u + 0))), (4, .int (zI 0)), (0, .ref (aM Γ)), (1, .int (zI w)), (3, .int (zI q))]) zC.1 zC.2.1 dX5_tells_123 rfl hl (by decide) rfl (fun ls hl => ?_)
                        refine zr_iinc (lv' := [(3, .int (zI (q + 1))), (2, .int (zI (u + 0))), (4, .int (zI 0)), (0, .ref (aM Γ)), (1, .int (zI w))]) zC dX5_tells_124 hl (k := 4) rfl (by decide) rfl (fun ls hl => ?_)
                        refine lv_goto (tgt := 4) zC.1 zC.2.1 dX5_tells_127 (by decide) ?_
                        exact ih4 (u + 0) (q + 1) H locs ls (by first | assumption | omega) (by rw [ctI_s hq.1, ← hu]; unfold zB; split <;> omega) (by omega) hG (lv_sub hl [3, 4, 1, 0] rfl)
                      · refine lv_iload_n zC.1 zC.2.1 dX5_tells_98 rfl (lv_at hl 4 rfl) ?_
                        refine zr_iconst zC dX5_tells_99 ?_
                        refine zr_icmp_ge (tgt := 121) zC dX5_tells_100 (by decide) (by omega) (fun c100 => ?_) (fun c100 => ?_)
                        · refine zr_iconst zC dX5_tells_121 ?_
                          refine zr_iadd zC dX5_tells_122 ?_
                          refine lv_istore_n (lv' := [(2, .int (zI (u + 0))), (4, .int (zI 0)), (0, .ref (aM Γ)), (1, .int (zI w)), (3, .int (zI q))]) zC.1 zC.2.1 dX5_tells_123 rfl hl (by decide) rfl (fun ls hl => ?_)
                          refine zr_iinc (lv' := [(3, .int (zI (q + 1))), (2, .int (zI (u + 0))), (4, .int (zI 0)), (0, .ref (aM Γ)), (1, .int (zI w))]) zC dX5_tells_124 hl (k := 4) rfl (by decide) rfl (fun ls hl => ?_)
                          refine lv_goto (tgt := 4) zC.1 zC.2.1 dX5_tells_127 (by decide) ?_
                          exact ih4 (u + 0) (q + 1) H locs ls (by first | assumption | omega) (by rw [ctI_s hq.1, ← hu]; unfold zB; split <;> omega) (by omega) hG (lv_sub hl [3, 4, 1, 0] rfl)
                        · refine lv_aload_n zC.1 zC.2.1 dX5_tells_103 rfl (lv_at hl 1 rfl) ?_
                          refine gf_M_kept zC hG wl_X5_47 dX5_tells_104 ?_
                          refine zr_bipush zC dX5_tells_107 (by decide +kernel) ?_
                          refine lv_iload_n zC.1 zC.2.1 dX5_tells_109 rfl (lv_at hl 4 rfl) ?_
                          refine zr_imul zC dX5_tells_110 ?_
                          refine gi_m_kept (v := kpM (τ 7 q 3) (τ 7 q 4)) zC hG (by omega) (hR.2.2.2.2.2.2.2 q (by omega) (by omega)).1 dX5_tells_111 ?_
                          have k111 := kpM_s (τ 7 q 3) (τ 7 q 4)
                          have k111b := hI.2.2.2.2.2.2.2 q (by omega) (by omega)
                          obtain ⟨k111c, k111d, -⟩ := k111b
                          refine zr_bipush zC dX5_tells_112 (by decide +kernel) ?_
                          refine zr_icmp_eq (tgt := 121) zC dX5_tells_114 (by decide) (by omega) (fun c114 => ?_) (fun c114 => ?_)
                          · refine zr_iconst zC dX5_tells_121 ?_
                            refine zr_iadd zC dX5_tells_122 ?_
                            refine lv_istore_n (lv' := [(2, .int (zI (u + 0))), (4, .int (zI 0)), (0, .ref (aM Γ)), (1, .int (zI w)), (3, .int (zI q))]) zC.1 zC.2.1 dX5_tells_123 rfl hl (by decide) rfl (fun ls hl => ?_)
                            refine zr_iinc (lv' := [(3, .int (zI (q + 1))), (2, .int (zI (u + 0))), (4, .int (zI 0)), (0, .ref (aM Γ)), (1, .int (zI w))]) zC dX5_tells_124 hl (k := 4) rfl (by decide) rfl (fun ls hl => ?_)
                            refine lv_goto (tgt := 4) zC.1 zC.2.1 dX5_tells_127 (by decide) ?_
                            exact ih4 (u + 0) (q + 1) H locs ls (by first | assumption | omega) (by rw [ctI_s hq.1, ← hu]; unfold zB; split <;> omega) (by omega) hG (lv_sub hl [3, 4, 1, 0] rfl)
                          · refine zr_iconst zC dX5_tells_117 ?_
                            refine lv_goto (tgt := 122) zC.1 zC.2.1 dX5_tells_118 (by decide) ?_
                            refine zr_iadd zC dX5_tells_122 ?_
                            refine lv_istore_n (lv' := [(2, .int (zI (u + 1))), (4, .int (zI 0)), (0, .ref (aM Γ)), (1, .int (zI w)), (3, .int (zI q))]) zC.1 zC.2.1 dX5_tells_123 rfl hl (by decide) rfl (fun ls hl => ?_)
                            refine zr_iinc (lv' := [(3, .int (zI (q + 1))), (2, .int (zI (u + 1))), (4, .int (zI 0)), (0, .ref (aM Γ)), (1, .int (zI w))]) zC dX5_tells_124 hl (k := 4) rfl (by decide) rfl (fun ls hl => ?_)
                            refine lv_goto (tgt := 4) zC.1 zC.2.1 dX5_tells_127 (by decide) ?_
                            exact ih4 (u + 1) (q + 1) H locs ls (by first | assumption | omega) (by rw [ctI_s hq.1, ← hu]; unfold zB; split <;> omega) (by omega) hG (lv_sub hl [3, 4, 1, 0] rfl)
                    · refine lv_iload_n zC.1 zC.2.1 dX5_tells_78 rfl (lv_at hl 4 rfl) ?_
                      refine zr_iconst zC dX5_tells_79 ?_
                      refine zr_icmp_ge (tgt := 92) zC dX5_tells_80 (by decide) (by omega) (fun c80 => ?_) (fun c80 => ?_)
                      · refine lv_iload_n zC.1 zC.2.1 dX5_tells_92 rfl (lv_at hl 2 rfl) ?_
                        refine zr_bipush zC dX5_tells_93 (by decide +kernel) ?_
                        refine zr_icmp_ne (tgt := 121) zC dX5_tells_95 (by decide) (by omega) (fun c95 => ?_) (fun c95 => ?_)
                        · refine zr_iconst zC dX5_tells_121 ?_
                          refine zr_iadd zC dX5_tells_122 ?_
                          refine lv_istore_n (lv' := [(2, .int (zI (u + 0))), (4, .int (zI 0)), (0, .ref (aM Γ)), (1, .int (zI w)), (3, .int (zI q))]) zC.1 zC.2.1 dX5_tells_123 rfl hl (by decide) rfl (fun ls hl => ?_)
                          refine zr_iinc (lv' := [(3, .int (zI (q + 1))), (2, .int (zI (u + 0))), (4, .int (zI 0)), (0, .ref (aM Γ)), (1, .int (zI w))]) zC dX5_tells_124 hl (k := 4) rfl (by decide) rfl (fun ls hl => ?_)
                          refine lv_goto (tgt := 4) zC.1 zC.2.1 dX5_tells_127 (by decide) ?_
                          exact ih4 (u + 0) (q + 1) H locs ls (by first | assumption | omega) (by rw [ctI_s hq.1, ← hu]; unfold zB; split <;> omega) (by omega) hG (lv_sub hl [3, 4, 1, 0] rfl)
                        · refine lv_iload_n zC.1 zC.2.1 dX5_tells_98 rfl (lv_at hl 4 rfl) ?_
                          refine zr_iconst zC dX5_tells_99 ?_
                          refine zr_icmp_ge (tgt := 121) zC dX5_tells_100 (by decide) (by omega) (fun c100 => ?_) (fun c100 => ?_)
                          · refine zr_iconst zC dX5_tells_121 ?_
                            refine zr_iadd zC dX5_tells_122 ?_
                            refine lv_istore_n (lv' := [(2, .int (zI (u + 0))), (4, .int (zI 0)), (0, .ref (aM Γ)), (1, .int (zI w)), (3, .int (zI q))]) zC.1 zC.2.1 dX5_tells_123 rfl hl (by decide) rfl (fun ls hl => ?_)
                            refine zr_iinc (lv' := [(3, .int (zI (q + 1))), (2, .int (zI (u + 0))), (4, .int (zI 0)), (0, .ref (aM Γ)), (1, .int (zI w))]) zC dX5_tells_124 hl (k := 4) rfl (by decide) rfl (fun ls hl => ?_)
                            refine lv_goto (tgt := 4) zC.1 zC.2.1 dX5_tells_127 (by decide) ?_
                            exact ih4 (u + 0) (q + 1) H locs ls (by first | assumption | omega) (by rw [ctI_s hq.1, ← hu]; unfold zB; split <;> omega) (by omega) hG (lv_sub hl [3, 4, 1, 0] rfl)
                          · refine lv_aload_n zC.1 zC.2.1 dX5_tells_103 rfl (lv_at hl 1 rfl) ?_
                            refine gf_M_kept zC hG wl_X5_47 dX5_tells_104 ?_
                            refine zr_bipush zC dX5_tells_107 (by decide +kernel) ?_
                            refine lv_iload_n zC.1 zC.2.1 dX5_tells_109 rfl (lv_at hl 4 rfl) ?_
                            refine zr_imul zC dX5_tells_110 ?_
                            refine gi_m_kept (v := kpM (τ 7 q 3) (τ 7 q 4)) zC hG (by omega) (hR.2.2.2.2.2.2.2 q (by omega) (by omega)).1 dX5_tells_111 ?_
                            have k111 := kpM_s (τ 7 q 3) (τ 7 q 4)
                            have k111b := hI.2.2.2.2.2.2.2 q (by omega) (by omega)
                            obtain ⟨k111c, k111d, -⟩ := k111b
                            refine zr_bipush zC dX5_tells_112 (by decide +kernel) ?_
                            refine zr_icmp_eq (tgt := 121) zC dX5_tells_114 (by decide) (by omega) (fun c114 => ?_) (fun c114 => ?_)
                            · refine zr_iconst zC dX5_tells_121 ?_
                              refine zr_iadd zC dX5_tells_122 ?_
                              refine lv_istore_n (lv' := [(2, .int (zI (u + 0))), (4, .int (zI 0)), (0, .ref (aM Γ)), (1, .int (zI w)), (3, .int (zI q))]) zC.1 zC.2.1 dX5_tells_123 rfl hl (by decide) rfl (fun ls hl => ?_)
                              refine zr_iinc (lv' := [(3, .int (zI (q + 1))), (2, .int (zI (u + 0))), (4, .int (zI 0)), (0, .ref (aM Γ)), (1, .int (zI w))]) zC dX5_tells_124 hl (k := 4) rfl (by decide) rfl (fun ls hl => ?_)
                              refine lv_goto (tgt := 4) zC.1 zC.2.1 dX5_tells_127 (by decide) ?_
                              exact ih4 (u + 0) (q + 1) H locs ls (by first | assumption | omega) (by rw [ctI_s hq.1, ← hu]; unfold zB; split <;> omega) (by omega) hG (lv_sub hl [3, 4, 1, 0] rfl)
                            · refine zr_iconst zC dX5_tells_117 ?_
                              refine lv_goto (tgt := 122) zC.1 zC.2.1 dX5_tells_118 (by decide) ?_
                              refine zr_iadd zC dX5_tells_122 ?_
                              refine lv_istore_n (lv' := [(2, .int (zI (u + 1))), (4, .int (zI 0)), (0, .ref (aM Γ)), (1, .int (zI w)), (3, .int (zI q))]) zC.1 zC.2.1 dX5_tells_123 rfl hl (by decide) rfl (fun ls hl => ?_)
                              refine zr_iinc (lv' := [(3, .int (zI (q + 1))), (2, .int (zI (u + 1))), (4, .int (zI 0)), (0, .ref (aM Γ)), (1, .int (zI w))]) zC dX5_tells_124 hl (k := 4) rfl (by decide) rfl (fun ls hl => ?_)
                              refine lv_goto (tgt := 4) zC.1 zC.2.1 dX5_tells_127 (by decide) ?_
                              exact ih4 (u + 1) (q + 1) H locs ls (by first | assumption | omega) (by rw [ctI_s hq.1, ← hu]; unfold zB; split <;> omega) (by omega) hG (lv_sub hl [3, 4, 1, 0] rfl)
                      · refine lv_aload_n zC.1 zC.2.1 dX5_tells_83 rfl (lv_at hl 1 rfl) ?_
                        refine gf_M_lengths zC hG wl_X5_26 dX5_tells_84 ?_
                        refine lv_iload_n zC.1 zC.2.1 dX5_tells_87 rfl (lv_at hl 4 rfl) ?_
                        refine gi_m_lengths (v := szM (τ 4 q 1)) zC hG (by omega) (hR.2.2.2.2.1 q (by omega) (by omega)) dX5_tells_88 ?_
                        have f88 := hI.2.2.2.2.1 q (by omega) (by omega)
                        have f88s := szM_s (τ 4 q 1)
                        refine zr_if_ge (tgt := 117) zC dX5_tells_89 (by decide) (by omega) (fun c89 => ?_) (fun c89 => ?_)
                        · refine zr_iconst zC dX5_tells_117 ?_
                          refine lv_goto (tgt := 122) zC.1 zC.2.1 dX5_tells_118 (by decide) ?_
                          refine zr_iadd zC dX5_tells_122 ?_
                          refine lv_istore_n (lv' := [(2, .int (zI (u + 1))), (4, .int (zI 0)), (0, .ref (aM Γ)), (1, .int (zI w)), (3, .int (zI q))]) zC.1 zC.2.1 dX5_tells_123 rfl hl (by decide) rfl (fun ls hl => ?_)
                          refine zr_iinc (lv' := [(3, .int (zI (q + 1))), (2, .int (zI (u + 1))), (4, .int (zI 0)), (0, .ref (aM Γ)), (1, .int (zI w))]) zC dX5_tells_124 hl (k := 4) rfl (by decide) rfl (fun ls hl => ?_)
                          refine lv_goto (tgt := 4) zC.1 zC.2.1 dX5_tells_127 (by decide) ?_
                          exact ih4 (u + 1) (q + 1) H locs ls (by first | assumption | omega) (by rw [ctI_s hq.1, ← hu]; unfold zB; split <;> omega) (by omega) hG (lv_sub hl [3, 4, 1, 0] rfl)
                        · refine lv_iload_n zC.1 zC.2.1 dX5_tells_92 rfl (lv_at hl 2 rfl) ?_
                          refine zr_bipush zC dX5_tells_93 (by decide +kernel) ?_
                          refine zr_icmp_ne (tgt := 121) zC dX5_tells_95 (by decide) (by omega) (fun c95 => ?_) (fun c95 => ?_)
                          · refine zr_iconst zC dX5_tells_121 ?_
                            refine zr_iadd zC dX5_tells_122 ?_
                            refine lv_istore_n (lv' := [(2, .int (zI (u + 0))), (4, .int (zI 0)), (0, .ref (aM Γ)), (1, .int (zI w)), (3, .int (zI q))]) zC.1 zC.2.1 dX5_tells_123 rfl hl (by decide) rfl (fun ls hl => ?_)
                            refine zr_iinc (lv' := [(3, .int (zI (q + 1))), (2, .int (zI (u + 0))), (4, .int (zI 0)), (0, .ref (aM Γ)), (1, .int (zI w))]) zC dX5_tells_124 hl (k := 4) rfl (by decide) rfl (fun ls hl => ?_)
                            refine lv_goto (tgt := 4) zC.1 zC.2.1 dX5_tells_127 (by decide) ?_
                            exact ih4 (u + 0) (q + 1) H locs ls (by first | assumption | omega) (by rw [ctI_s hq.1, ← hu]; unfold zB; split <;> omega) (by omega) hG (lv_sub hl [3, 4, 1, 0] rfl)
                          · refine lv_iload_n zC.1 zC.2.1 dX5_tells_98 rfl (lv_at hl 4 rfl) ?_
                            refine zr_iconst zC dX5_tells_99 ?_
                            refine zr_icmp_ge (tgt := 121) zC dX5_tells_100 (by decide) (by omega) (fun c100 => ?_) (fun c100 => ?_)
                            · refine zr_iconst zC dX5_tells_121 ?_
                              refine zr_iadd zC dX5_tells_122 ?_
                              refine lv_istore_n (lv' := [(2, .int (zI (u + 0))), (4, .int (zI 0)), (0, .ref (aM Γ)), (1, .int (zI w)), (3, .int (zI q))]) zC.1 zC.2.1 dX5_tells_123 rfl hl (by decide) rfl (fun ls hl => ?_)
                              refine zr_iinc (lv' := [(3, .int (zI (q + 1))), (2, .int (zI (u + 0))), (4, .int (zI 0)), (0, .ref (aM Γ)), (1, .int (zI w))]) zC dX5_tells_124 hl (k := 4) rfl (by decide) rfl (fun ls hl => ?_)
                              refine lv_goto (tgt := 4) zC.1 zC.2.1 dX5_tells_127 (by decide) ?_
                              exact ih4 (u + 0) (q + 1) H locs ls (by first | assumption | omega) (by rw [ctI_s hq.1, ← hu]; unfold zB; split <;> omega) (by omega) hG (lv_sub hl [3, 4, 1, 0] rfl)
                            · refine lv_aload_n zC.1 zC.2.1 dX5_tells_103 rfl (lv_at hl 1 rfl) ?_
                              refine gf_M_kept zC hG wl_X5_47 dX5_tells_104 ?_
                              refine zr_bipush zC dX5_tells_107 (by decide +kernel) ?_
                              refine lv_iload_n zC.1 zC.2.1 dX5_tells_109 rfl (lv_at hl 4 rfl) ?_
                              refine zr_imul zC dX5_tells_110 ?_
                              refine gi_m_kept (v := kpM (τ 7 q 3) (τ 7 q 4)) zC hG (by omega) (hR.2.2.2.2.2.2.2 q (by omega) (by omega)).1 dX5_tells_111 ?_
                              have k111 := kpM_s (τ 7 q 3) (τ 7 q 4)
                              have k111b := hI.2.2.2.2.2.2.2 q (by omega) (by omega)
                              obtain ⟨k111c, k111d, -⟩ := k111b
                              refine zr_bipush zC dX5_tells_112 (by decide +kernel) ?_
                              refine zr_icmp_eq (tgt := 121) zC dX5_tells_114 (by decide) (by omega) (fun c114 => ?_) (fun c114 => ?_)
                              · refine zr_iconst zC dX5_tells_121 ?_
                                refine zr_iadd zC dX5_tells_122 ?_
                                refine lv_istore_n (lv' := [(2, .int (zI (u + 0))), (4, .int (zI 0)), (0, .ref (aM Γ)), (1, .int (zI w)), (3, .int (zI q))]) zC.1 zC.2.1 dX5_tells_123 rfl hl (by decide) rfl (fun ls hl => ?_)
                                refine zr_iinc (lv' := [(3, .int (zI (q + 1))), (2, .int (zI (u + 0))), (4, .int (zI 0)), (0, .ref (aM Γ)), (1, .int (zI w))]) zC dX5_tells_124 hl (k := 4) rfl (by decide) rfl (fun ls hl => ?_)
                                refine lv_goto (tgt := 4) zC.1 zC.2.1 dX5_tells_127 (by decide) ?_
                                exact ih4 (u + 0) (q + 1) H locs ls (by first | assumption | omega) (by rw [ctI_s hq.1, ← hu]; unfold zB; split <;> omega) (by omega) hG (lv_sub hl [3, 4, 1, 0] rfl)
                              · refine zr_iconst zC dX5_tells_117 ?_
                                refine lv_goto (tgt := 122) zC.1 zC.2.1 dX5_tells_118 (by decide) ?_
                                refine zr_iadd zC dX5_tells_122 ?_
                                refine lv_istore_n (lv' := [(2, .int (zI (u + 1))), (4, .int (zI 0)), (0, .ref (aM Γ)), (1, .int (zI w)), (3, .int (zI q))]) zC.1 zC.2.1 dX5_tells_123 rfl hl (by decide) rfl (fun ls hl => ?_)
                                refine zr_iinc (lv' := [(3, .int (zI (q + 1))), (2, .int (zI (u + 1))), (4, .int (zI 0)), (0, .ref (aM Γ)), (1, .int (zI w))]) zC dX5_tells_124 hl (k := 4) rfl (by decide) rfl (fun ls hl => ?_)
                                refine lv_goto (tgt := 4) zC.1 zC.2.1 dX5_tells_127 (by decide) ?_
                                exact ih4 (u + 1) (q + 1) H locs ls (by first | assumption | omega) (by rw [ctI_s hq.1, ← hu]; unfold zB; split <;> omega) (by omega) hG (lv_sub hl [3, 4, 1, 0] rfl)
                  · refine lv_aload_n zC.1 zC.2.1 dX5_tells_64 rfl (lv_at hl 1 rfl) ?_
                    refine gf_M_sizes zC hG wl_X5_17 dX5_tells_65 ?_
                    refine lv_iload_n zC.1 zC.2.1 dX5_tells_68 rfl (lv_at hl 4 rfl) ?_
                    refine gi_m_sizes (v := szM (τ 2 q 1)) zC hG (by omega) (hR.2.2.1 q (by omega) (by omega)) dX5_tells_69 ?_
                    have f69 := hI.2.2.1 q (by omega) (by omega)
                    have f69s := szM_s (τ 2 q 1)
                    refine zr_if_ge (tgt := 117) zC dX5_tells_70 (by decide) (by omega) (fun c70 => ?_) (fun c70 => ?_)
                    · refine zr_iconst zC dX5_tells_117 ?_
                      refine lv_goto (tgt := 122) zC.1 zC.2.1 dX5_tells_118 (by decide) ?_
                      refine zr_iadd zC dX5_tells_122 ?_
                      refine lv_istore_n (lv' := [(2, .int (zI (u + 1))), (4, .int (zI 0)), (0, .ref (aM Γ)), (1, .int (zI w)), (3, .int (zI q))]) zC.1 zC.2.1 dX5_tells_123 rfl hl (by decide) rfl (fun ls hl => ?_)
                      refine zr_iinc (lv' := [(3, .int (zI (q + 1))), (2, .int (zI (u + 1))), (4, .int (zI 0)), (0, .ref (aM Γ)), (1, .int (zI w))]) zC dX5_tells_124 hl (k := 4) rfl (by decide) rfl (fun ls hl => ?_)
                      refine lv_goto (tgt := 4) zC.1 zC.2.1 dX5_tells_127 (by decide) ?_
                      exact ih4 (u + 1) (q + 1) H locs ls (by first | assumption | omega) (by rw [ctI_s hq.1, ← hu]; unfold zB; split <;> omega) (by omega) hG (lv_sub hl [3, 4, 1, 0] rfl)
                    · refine lv_iload_n zC.1 zC.2.1 dX5_tells_73 rfl (lv_at hl 2 rfl) ?_
                      refine zr_iconst zC dX5_tells_74 ?_
                      refine zr_icmp_ne (tgt := 92) zC dX5_tells_75 (by decide) (by omega) (fun c75 => ?_) (fun c75 => ?_)
                      · refine lv_iload_n zC.1 zC.2.1 dX5_tells_92 rfl (lv_at hl 2 rfl) ?_
                        refine zr_bipush zC dX5_tells_93 (by decide +kernel) ?_
                        refine zr_icmp_ne (tgt := 121) zC dX5_tells_95 (by decide) (by omega) (fun c95 => ?_) (fun c95 => ?_)
                        · refine zr_iconst zC dX5_tells_121 ?_
                          refine zr_iadd zC dX5_tells_122 ?_
                          refine lv_istore_n (lv' := [(2, .int (zI (u + 0))), (4, .int (zI 0)), (0, .ref (aM Γ)), (1, .int (zI w)), (3, .int (zI q))]) zC.1 zC.2.1 dX5_tells_123 rfl hl (by decide) rfl (fun ls hl => ?_)
                          refine zr_iinc (lv' := [(3, .int (zI (q + 1))), (2, .int (zI (u + 0))), (4, .int (zI 0)), (0, .ref (aM Γ)), (1, .int (zI w))]) zC dX5_tells_124 hl (k := 4) rfl (by decide) rfl (fun ls hl => ?_)
                          refine lv_goto (tgt := 4) zC.1 zC.2.1 dX5_tells_127 (by decide) ?_
                          exact ih4 (u + 0) (q + 1) H locs ls (by first | assumption | omega) (by rw [ctI_s hq.1, ← hu]; unfold zB; split <;> omega) (by omega) hG (lv_sub hl [3, 4, 1, 0] rfl)
                        · refine lv_iload_n zC.1 zC.2.1 dX5_tells_98 rfl (lv_at hl 4 rfl) ?_
                          refine zr_iconst zC dX5_tells_99 ?_
                          refine zr_icmp_ge (tgt := 121) zC dX5_tells_100 (by decide) (by omega) (fun c100 => ?_) (fun c100 => ?_)
                          · refine zr_iconst zC dX5_tells_121 ?_
                            refine zr_iadd zC dX5_tells_122 ?_
                            refine lv_istore_n (lv' := [(2, .int (zI (u + 0))), (4, .int (zI 0)), (0, .ref (aM Γ)), (1, .int (zI w)), (3, .int (zI q))]) zC.1 zC.2.1 dX5_tells_123 rfl hl (by decide) rfl (fun ls hl => ?_)
                            refine zr_iinc (lv' := [(3, .int (zI (q + 1))), (2, .int (zI (u + 0))), (4, .int (zI 0)), (0, .ref (aM Γ)), (1, .int (zI w))]) zC dX5_tells_124 hl (k := 4) rfl (by decide) rfl (fun ls hl => ?_)
                            refine lv_goto (tgt := 4) zC.1 zC.2.1 dX5_tells_127 (by decide) ?_
                            exact ih4 (u + 0) (q + 1) H locs ls (by first | assumption | omega) (by rw [ctI_s hq.1, ← hu]; unfold zB; split <;> omega) (by omega) hG (lv_sub hl [3, 4, 1, 0] rfl)
                          · refine lv_aload_n zC.1 zC.2.1 dX5_tells_103 rfl (lv_at hl 1 rfl) ?_
                            refine gf_M_kept zC hG wl_X5_47 dX5_tells_104 ?_
                            refine zr_bipush zC dX5_tells_107 (by decide +kernel) ?_
                            refine lv_iload_n zC.1 zC.2.1 dX5_tells_109 rfl (lv_at hl 4 rfl) ?_
                            refine zr_imul zC dX5_tells_110 ?_
                            refine gi_m_kept (v := kpM (τ 7 q 3) (τ 7 q 4)) zC hG (by omega) (hR.2.2.2.2.2.2.2 q (by omega) (by omega)).1 dX5_tells_111 ?_
                            have k111 := kpM_s (τ 7 q 3) (τ 7 q 4)
                            have k111b := hI.2.2.2.2.2.2.2 q (by omega) (by omega)
                            obtain ⟨k111c, k111d, -⟩ := k111b
                            refine zr_bipush zC dX5_tells_112 (by decide +kernel) ?_
                            refine zr_icmp_eq (tgt := 121) zC dX5_tells_114 (by decide) (by omega) (fun c114 => ?_) (fun c114 => ?_)
                            · refine zr_iconst zC dX5_tells_121 ?_
                              refine zr_iadd zC dX5_tells_122 ?_
                              refine lv_istore_n (lv' := [(2, .int (zI (u + 0))), (4, .int (zI 0)), (0, .ref (aM Γ)), (1, .int (zI w)), (3, .int (zI q))]) zC.1 zC.2.1 dX5_tells_123 rfl hl (by decide) rfl (fun ls hl => ?_)
                              refine zr_iinc (lv' := [(3, .int (zI (q + 1))), (2, .int (zI (u + 0))), (4, .int (zI 0)), (0, .ref (aM Γ)), (1, .int (zI w))]) zC dX5_tells_124 hl (k := 4) rfl (by decide) rfl (fun ls hl => ?_)
                              refine lv_goto (tgt := 4) zC.1 zC.2.1 dX5_tells_127 (by decide) ?_
                              exact ih4 (u + 0) (q + 1) H locs ls (by first | assumption | omega) (by rw [ctI_s hq.1, ← hu]; unfold zB; split <;> omega) (by omega) hG (lv_sub hl [3, 4, 1, 0] rfl)
                            · refine zr_iconst zC dX5_tells_117 ?_
                              refine lv_goto (tgt := 122) zC.1 zC.2.1 dX5_tells_118 (by decide) ?_
                              refine zr_iadd zC dX5_tells_122 ?_
                              refine lv_istore_n (lv' := [(2, .int (zI (u + 1))), (4, .int (zI 0)), (0, .ref (aM Γ)), (1, .int (zI w)), (3, .int (zI q))]) zC.1 zC.2.1 dX5_tells_123 rfl hl (by decide) rfl (fun ls hl => ?_)
                              refine zr_iinc (lv' := [(3, .int (zI (q + 1))), (2, .int (zI (u + 1))), (4, .int (zI 0)), (0, .ref (aM Γ)), (1, .int (zI w))]) zC dX5_tells_124 hl (k := 4) rfl (by decide) rfl (fun ls hl => ?_)
                              refine lv_goto (tgt := 4) zC.1 zC.2.1 dX5_tells_127 (by decide) ?_
                              exact ih4 (u + 1) (q + 1) H locs ls (by first | assumption | omega) (by rw [ctI_s hq.1, ← hu]; unfold zB; split <;> omega) (by omega) hG (lv_sub hl [3, 4, 1, 0] rfl)
                      · refine lv_iload_n zC.1 zC.2.1 dX5_tells_78 rfl (lv_at hl 4 rfl) ?_
                        refine zr_iconst zC dX5_tells_79 ?_
                        refine zr_icmp_ge (tgt := 92) zC dX5_tells_80 (by decide) (by omega) (fun c80 => ?_) (fun c80 => ?_)
                        · refine lv_iload_n zC.1 zC.2.1 dX5_tells_92 rfl (lv_at hl 2 rfl) ?_
                          refine zr_bipush zC dX5_tells_93 (by decide +kernel) ?_
                          refine zr_icmp_ne (tgt := 121) zC dX5_tells_95 (by decide) (by omega) (fun c95 => ?_) (fun c95 => ?_)
                          · refine zr_iconst zC dX5_tells_121 ?_
                            refine zr_iadd zC dX5_tells_122 ?_
                            refine lv_istore_n (lv' := [(2, .int (zI (u + 0))), (4, .int (zI 0)), (0, .ref (aM Γ)), (1, .int (zI w)), (3, .int (zI q))]) zC.1 zC.2.1 dX5_tells_123 rfl hl (by decide) rfl (fun ls hl => ?_)
                            refine zr_iinc (lv' := [(3, .int (zI (q + 1))), (2, .int (zI (u + 0))), (4, .int (zI 0)), (0, .ref (aM Γ)), (1, .int (zI w))]) zC dX5_tells_124 hl (k := 4) rfl (by decide) rfl (fun ls hl => ?_)
                            refine lv_goto (tgt := 4) zC.1 zC.2.1 dX5_tells_127 (by decide) ?_
                            exact ih4 (u + 0) (q + 1) H locs ls (by first | assumption | omega) (by rw [ctI_s hq.1, ← hu]; unfold zB; split <;> omega) (by omega) hG (lv_sub hl [3, 4, 1, 0] rfl)
                          · refine lv_iload_n zC.1 zC.2.1 dX5_tells_98 rfl (lv_at hl 4 rfl) ?_
                            refine zr_iconst zC dX5_tells_99 ?_
                            refine zr_icmp_ge (tgt := 121) zC dX5_tells_100 (by decide) (by omega) (fun c100 => ?_) (fun c100 => ?_)
                            · refine zr_iconst zC dX5_tells_121 ?_
                              refine zr_iadd zC dX5_tells_122 ?_
                              refine lv_istore_n (lv' := [(2, .int (zI (u + 0))), (4, .int (zI 0)), (0, .ref (aM Γ)), (1, .int (zI w)), (3, .int (zI q))]) zC.1 zC.2.1 dX5_tells_123 rfl hl (by decide) rfl (fun ls hl => ?_)
                              refine zr_iinc (lv' := [(3, .int (zI (q + 1))), (2, .int (zI (u + 0))), (4, .int (zI 0)), (0, .ref (aM Γ)), (1, .int (zI w))]) zC dX5_tells_124 hl (k := 4) rfl (by decide) rfl (fun ls hl => ?_)
                              refine lv_goto (tgt := 4) zC.1 zC.2.1 dX5_tells_127 (by decide) ?_
                              exact ih4 (u + 0) (q + 1) H locs ls (by first | assumption | omega) (by rw [ctI_s hq.1, ← hu]; unfold zB; split <;> omega) (by omega) hG (lv_sub hl [3, 4, 1, 0] rfl)
                            · refine lv_aload_n zC.1 zC.2.1 dX5_tells_103 rfl (lv_at hl 1 rfl) ?_
                              refine gf_M_kept zC hG wl_X5_47 dX5_tells_104 ?_
                              refine zr_bipush zC dX5_tells_107 (by decide +kernel) ?_
                              refine lv_iload_n zC.1 zC.2.1 dX5_tells_109 rfl (lv_at hl 4 rfl) ?_
                              refine zr_imul zC dX5_tells_110 ?_
                              refine gi_m_kept (v := kpM (τ 7 q 3) (τ 7 q 4)) zC hG (by omega) (hR.2.2.2.2.2.2.2 q (by omega) (by omega)).1 dX5_tells_111 ?_
                              have k111 := kpM_s (τ 7 q 3) (τ 7 q 4)
                              have k111b := hI.2.2.2.2.2.2.2 q (by omega) (by omega)
                              obtain ⟨k111c, k111d, -⟩ := k111b
                              refine zr_bipush zC dX5_tells_112 (by decide +kernel) ?_
                              refine zr_icmp_eq (tgt := 121) zC dX5_tells_114 (by decide) (by omega) (fun c114 => ?_) (fun c114 => ?_)
                              · refine zr_iconst zC dX5_tells_121 ?_
                                refine zr_iadd zC dX5_tells_122 ?_
                                refine lv_istore_n (lv' := [(2, .int (zI (u + 0))), (4, .int (zI 0)), (0, .ref (aM Γ)), (1, .int (zI w)), (3, .int (zI q))]) zC.1 zC.2.1 dX5_tells_123 rfl hl (by decide) rfl (fun ls hl => ?_)
                                refine zr_iinc (lv' := [(3, .int (zI (q + 1))), (2, .int (zI (u + 0))), (4, .int (zI 0)), (0, .ref (aM Γ)), (1, .int (zI w))]) zC dX5_tells_124 hl (k := 4) rfl (by decide) rfl (fun ls hl => ?_)
                                refine lv_goto (tgt := 4) zC.1 zC.2.1 dX5_tells_127 (by decide) ?_
                                exact ih4 (u + 0) (q + 1) H locs ls (by first | assumption | omega) (by rw [ctI_s hq.1, ← hu]; unfold zB; split <;> omega) (by omega) hG (lv_sub hl [3, 4, 1, 0] rfl)
                              · refine zr_iconst zC dX5_tells_117 ?_
                                refine lv_goto (tgt := 122) zC.1 zC.2.1 dX5_tells_118 (by decide) ?_
                                refine zr_iadd zC dX5_tells_122 ?_
                                refine lv_istore_n (lv' := [(2, .int (zI (u + 1))), (4, .int (zI 0)), (0, .ref (aM Γ)), (1, .int (zI w)), (3, .int (zI q))]) zC.1 zC.2.1 dX5_tells_123 rfl hl (by decide) rfl (fun ls hl => ?_)
                                refine zr_iinc (lv' := [(3, .int (zI (q + 1))), (2, .int (zI (u + 1))), (4, .int (zI 0)), (0, .ref (aM Γ)), (1, .int (zI w))]) zC dX5_tells_124 hl (k := 4) rfl (by decide) rfl (fun ls hl => ?_)
                                refine lv_goto (tgt := 4) zC.1 zC.2.1 dX5_tells_127 (by decide) ?_
                                exact ih4 (u + 1) (q + 1) H locs ls (by first | assumption | omega) (by rw [ctI_s hq.1, ← hu]; unfold zB; split <;> omega) (by omega) hG (lv_sub hl [3, 4, 1, 0] rfl)
                        · refine lv_aload_n zC.1 zC.2.1 dX5_tells_83 rfl (lv_at hl 1 rfl) ?_
                          refine gf_M_lengths zC hG wl_X5_26 dX5_tells_84 ?_
                          refine lv_iload_n zC.1 zC.2.1 dX5_tells_87 rfl (lv_at hl 4 rfl) ?_
                          refine gi_m_lengths (v := szM (τ 4 q 1)) zC hG (by omega) (hR.2.2.2.2.1 q (by omega) (by omega)) dX5_tells_88 ?_
                          have f88 := hI.2.2.2.2.1 q (by omega) (by omega)
                          have f88s := szM_s (τ 4 q 1)
                          refine zr_if_ge (tgt := 117) zC dX5_tells_89 (by decide) (by omega) (fun c89 => ?_) (fun c89 => ?_)
                          · refine zr_iconst zC dX5_tells_117 ?_
                            refine lv_goto (tgt := 122) zC.1 zC.2.1 dX5_tells_118 (by decide) ?_
                            refine zr_iadd zC dX5_tells_122 ?_
                            refine lv_istore_n (lv' := [(2, .int (zI (u + 1))), (4, .int (zI 0)), (0, .ref (aM Γ)), (1, .int (zI w)), (3, .int (zI q))]) zC.1 zC.2.1 dX5_tells_123 rfl hl (by decide) rfl (fun ls hl => ?_)
                            refine zr_iinc (lv' := [(3, .int (zI (q + 1))), (2, .int (zI (u + 1))), (4, .int (zI 0)), (0, .ref (aM Γ)), (1, .int (zI w))]) zC dX5_tells_124 hl (k := 4) rfl (by decide) rfl (fun ls hl => ?_)
                            refine lv_goto (tgt := 4) zC.1 zC.2.1 dX5_tells_127 (by decide) ?_
                            exact ih4 (u + 1) (q + 1) H locs ls (by first | assumption | omega) (by rw [ctI_s hq.1, ← hu]; unfold zB; split <;> omega) (by omega) hG (lv_sub hl [3, 4, 1, 0] rfl)
                          · refine lv_iload_n zC.1 zC.2.1 dX5_tells_92 rfl (lv_at hl 2 rfl) ?_
                            refine zr_bipush zC dX5_tells_93 (by decide +kernel) ?_
                            refine zr_icmp_ne (tgt := 121) zC dX5_tells_95 (by decide) (by omega) (fun c95 => ?_) (fun c95 => ?_)
                            · refine zr_iconst zC dX5_tells_121 ?_
                              refine zr_iadd zC dX5_tells_122 ?_
                              refine lv_istore_n (lv' := [(2, .int (zI (u + 0))), (4, .int (zI 0)), (0, .ref (aM Γ)), (1, .int (zI w)), (3, .int (zI q))]) zC.1 zC.2.1 dX5_tells_123 rfl hl (by decide) rfl (fun ls hl => ?_)
                              refine zr_iinc (lv' := [(3, .int (zI (q + 1))), (2, .int (zI (u + 0))), (4, .int (zI 0)), (0, .ref (aM Γ)), (1, .int (zI w))]) zC dX5_tells_124 hl (k := 4) rfl (by decide) rfl (fun ls hl => ?_)
                              refine lv_goto (tgt := 4) zC.1 zC.2.1 dX5_tells_127 (by decide) ?_
                              exact ih4 (u + 0) (q + 1) H locs ls (by first | assumption | omega) (by rw [ctI_s hq.1, ← hu]; unfold zB; split <;> omega) (by omega) hG (lv_sub hl [3, 4, 1, 0] rfl)
                            · refine lv_iload_n zC.1 zC.2.1 dX5_tells_98 rfl (lv_at hl 4 rfl) ?_
                              refine zr_iconst zC dX5_tells_99 ?_
                              refine zr_icmp_ge (tgt := 121) zC dX5_tells_100 (by decide) (by omega) (fun c100 => ?_) (fun c100 => ?_)
                              · refine zr_iconst zC dX5_tells_121 ?_
                                refine zr_iadd zC dX5_tells_122 ?_
                                refine lv_istore_n (lv' := [(2, .int (zI (u + 0))), (4, .int (zI 0)), (0, .ref (aM Γ)), (1, .int (zI w)), (3, .int (zI q))]) zC.1 zC.2.1 dX5_tells_123 rfl hl (by decide) rfl (fun ls hl => ?_)
                                refine zr_iinc (lv' := [(3, .int (zI (q + 1))), (2, .int (zI (u + 0))), (4, .int (zI 0)), (0, .ref (aM Γ)), (1, .int (zI w))]) zC dX5_tells_124 hl (k := 4) rfl (by decide) rfl (fun ls hl => ?_)
                                refine lv_goto (tgt := 4) zC.1 zC.2.1 dX5_tells_127 (by decide) ?_
                                exact ih4 (u + 0) (q + 1) H locs ls (by first | assumption | omega) (by rw [ctI_s hq.1, ← hu]; unfold zB; split <;> omega) (by omega) hG (lv_sub hl [3, 4, 1, 0] rfl)
                              · refine lv_aload_n zC.1 zC.2.1 dX5_tells_103 rfl (lv_at hl 1 rfl) ?_
                                refine gf_M_kept zC hG wl_X5_47 dX5_tells_104 ?_
                                refine zr_bipush zC dX5_tells_107 (by decide +kernel) ?_
                                refine lv_iload_n zC.1 zC.2.1 dX5_tells_109 rfl (lv_at hl 4 rfl) ?_
                                refine zr_imul zC dX5_tells_110 ?_
                                refine gi_m_kept (v := kpM (τ 7 q 3) (τ 7 q 4)) zC hG (by omega) (hR.2.2.2.2.2.2.2 q (by omega) (by omega)).1 dX5_tells_111 ?_
                                have k111 := kpM_s (τ 7 q 3) (τ 7 q 4)
                                have k111b := hI.2.2.2.2.2.2.2 q (by omega) (by omega)
                                obtain ⟨k111c, k111d, -⟩ := k111b
                                refine zr_bipush zC dX5_tells_112 (by decide +kernel) ?_
                                refine zr_icmp_eq (tgt := 121) zC dX5_tells_114 (by decide) (by omega) (fun c114 => ?_) (fun c114 => ?_)
                                · refine zr_iconst zC dX5_tells_121 ?_
                                  refine zr_iadd zC dX5_tells_122 ?_
                                  refine lv_istore_n (lv' := [(2, .int (zI (u + 0))), (4, .int (zI 0)), (0, .ref (aM Γ)), (1, .int (zI w)), (3, .int (zI q))]) zC.1 zC.2.1 dX5_tells_123 rfl hl (by decide) rfl (fun ls hl => ?_)
                                  refine zr_iinc (lv' := [(3, .int (zI (q + 1))), (2, .int (zI (u + 0))), (4, .int (zI 0)), (0, .ref (aM Γ)), (1, .int (zI w))]) zC dX5_tells_124 hl (k := 4) rfl (by decide) rfl (fun ls hl => ?_)
                                  refine lv_goto (tgt := 4) zC.1 zC.2.1 dX5_tells_127 (by decide) ?_
                                  exact ih4 (u + 0) (q + 1) H locs ls (by first | assumption | omega) (by rw [ctI_s hq.1, ← hu]; unfold zB; split <;> omega) (by omega) hG (lv_sub hl [3, 4, 1, 0] rfl)
                                · refine zr_iconst zC dX5_tells_117 ?_
                                  refine lv_goto (tgt := 122) zC.1 zC.2.1 dX5_tells_118 (by decide) ?_
                                  refine zr_iadd zC dX5_tells_122 ?_
                                  refine lv_istore_n (lv' := [(2, .int (zI (u + 1))), (4, .int (zI 0)), (0, .ref (aM Γ)), (1, .int (zI w)), (3, .int (zI q))]) zC.1 zC.2.1 dX5_tells_123 rfl hl (by decide) rfl (fun ls hl => ?_)
                                  refine zr_iinc (lv' := [(3, .int (zI (q + 1))), (2, .int (zI (u + 1))), (4, .int (zI 0)), (0, .ref (aM Γ)), (1, .int (zI w))]) zC dX5_tells_124 hl (k := 4) rfl (by decide) rfl (fun ls hl => ?_)
                                  refine lv_goto (tgt := 4) zC.1 zC.2.1 dX5_tells_127 (by decide) ?_
                                  exact ih4 (u + 1) (q + 1) H locs ls (by first | assumption | omega) (by rw [ctI_s hq.1, ← hu]; unfold zB; split <;> omega) (by omega) hG (lv_sub hl [3, 4, 1, 0] rfl)
              · refine zr_iconst zC dX5_tells_46 ?_
                refine lv_goto (tgt := 51) zC.1 zC.2.1 dX5_tells_47 (by decide) ?_
                refine lv_istore (lv' := [(4, .int (zI 1)), (0, .ref (aM Γ)), (1, .int (zI w)), (2, .int (zI u)), (3, .int (zI q))]) zC.1 zC.2.1 dX5_tells_51 hl (by decide) rfl (fun ls hl => ?_)
                refine lv_iload_n zC.1 zC.2.1 dX5_tells_53 rfl (lv_at hl 3 rfl) ?_
                refine lv_iload zC.1 zC.2.1 dX5_tells_54 (lv_at hl 0 rfl) ?_
                refine zr_if_ne (tgt := 117) zC dX5_tells_56 (by decide) (by omega) (fun c56 => ?_) (fun c56 => ?_)
                · refine zr_iconst zC dX5_tells_117 ?_
                  refine lv_goto (tgt := 122) zC.1 zC.2.1 dX5_tells_118 (by decide) ?_
                  refine zr_iadd zC dX5_tells_122 ?_
                  refine lv_istore_n (lv' := [(2, .int (zI (u + 1))), (4, .int (zI 1)), (0, .ref (aM Γ)), (1, .int (zI w)), (3, .int (zI q))]) zC.1 zC.2.1 dX5_tells_123 rfl hl (by decide) rfl (fun ls hl => ?_)
                  refine zr_iinc (lv' := [(3, .int (zI (q + 1))), (2, .int (zI (u + 1))), (4, .int (zI 1)), (0, .ref (aM Γ)), (1, .int (zI w))]) zC dX5_tells_124 hl (k := 4) rfl (by decide) rfl (fun ls hl => ?_)
                  refine lv_goto (tgt := 4) zC.1 zC.2.1 dX5_tells_127 (by decide) ?_
                  exact ih4 (u + 1) (q + 1) H locs ls (by first | assumption | omega) (by rw [ctI_s hq.1, ← hu]; unfold zB; split <;> omega) (by omega) hG (lv_sub hl [3, 4, 1, 0] rfl)
                · refine lv_iload_n zC.1 zC.2.1 dX5_tells_59 rfl (lv_at hl 2 rfl) ?_
                  refine zr_iconst zC dX5_tells_60 ?_
                  refine zr_icmp_ne (tgt := 73) zC dX5_tells_61 (by decide) (by omega) (fun c61 => ?_) (fun c61 => ?_)
                  · refine lv_iload_n zC.1 zC.2.1 dX5_tells_73 rfl (lv_at hl 2 rfl) ?_
                    refine zr_iconst zC dX5_tells_74 ?_
                    refine zr_icmp_ne (tgt := 92) zC dX5_tells_75 (by decide) (by omega) (fun c75 => ?_) (fun c75 => ?_)
                    · refine lv_iload_n zC.1 zC.2.1 dX5_tells_92 rfl (lv_at hl 2 rfl) ?_
                      refine zr_bipush zC dX5_tells_93 (by decide +kernel) ?_
                      refine zr_icmp_ne (tgt := 121) zC dX5_tells_95 (by decide) (by omega) (fun c95 => ?_) (fun c95 => ?_)
                      · refine zr_iconst zC dX5_tells_121 ?_
                        refine zr_iadd zC dX5_tells_122 ?_
                        refine lv_istore_n (lv' := [(2, .int (zI (u + 0))), (4, .int (zI 1)), (0, .ref (aM Γ)), (1, .int (zI w)), (3, .int (zI q))]) zC.1 zC.2.1 dX5_tells_123 rfl hl (by decide) rfl (fun ls hl => ?_)
                        refine zr_iinc (lv' := [(3, .int (zI (q + 1))), (2, .int (zI (u + 0))), (4, .int (zI 1)), (0, .ref (aM Γ)), (1, .int (zI w))]) zC dX5_tells_124 hl (k := 4) rfl (by decide) rfl (fun ls hl => ?_)
                        refine lv_goto (tgt := 4) zC.1 zC.2.1 dX5_tells_127 (by decide) ?_
                        exact ih4 (u + 0) (q + 1) H locs ls (by first | assumption | omega) (by rw [ctI_s hq.1, ← hu]; unfold zB; split <;> omega) (by omega) hG (lv_sub hl [3, 4, 1, 0] rfl)
                      · refine lv_iload_n zC.1 zC.2.1 dX5_tells_98 rfl (lv_at hl 4 rfl) ?_
                        refine zr_iconst zC dX5_tells_99 ?_
                        refine zr_icmp_ge (tgt := 121) zC dX5_tells_100 (by decide) (by omega) (fun c100 => ?_) (fun c100 => ?_)
                        · refine zr_iconst zC dX5_tells_121 ?_
                          refine zr_iadd zC dX5_tells_122 ?_
                          refine lv_istore_n (lv' := [(2, .int (zI (u + 0))), (4, .int (zI 1)), (0, .ref (aM Γ)), (1, .int (zI w)), (3, .int (zI q))]) zC.1 zC.2.1 dX5_tells_123 rfl hl (by decide) rfl (fun ls hl => ?_)
                          refine zr_iinc (lv' := [(3, .int (zI (q + 1))), (2, .int (zI (u + 0))), (4, .int (zI 1)), (0, .ref (aM Γ)), (1, .int (zI w))]) zC dX5_tells_124 hl (k := 4) rfl (by decide) rfl (fun ls hl => ?_)
                          refine lv_goto (tgt := 4) zC.1 zC.2.1 dX5_tells_127 (by decide) ?_
                          exact ih4 (u + 0) (q + 1) H locs ls (by first | assumption | omega) (by rw [ctI_s hq.1, ← hu]; unfold zB; split <;> omega) (by omega) hG (lv_sub hl [3, 4, 1, 0] rfl)
                        · refine lv_aload_n zC.1 zC.2.1 dX5_tells_103 rfl (lv_at hl 1 rfl) ?_
                          refine gf_M_kept zC hG wl_X5_47 dX5_tells_104 ?_
                          refine zr_bipush zC dX5_tells_107 (by decide +kernel) ?_
                          refine lv_iload_n zC.1 zC.2.1 dX5_tells_109 rfl (lv_at hl 4 rfl) ?_
                          refine zr_imul zC dX5_tells_110 ?_
                          refine gi_m_kept (v := kpM (τ 7 q 3) (τ 7 q 4)) zC hG (by omega) (hR.2.2.2.2.2.2.2 q (by omega) (by omega)).1 dX5_tells_111 ?_
                          have k111 := kpM_s (τ 7 q 3) (τ 7 q 4)
                          have k111b := hI.2.2.2.2.2.2.2 q (by omega) (by omega)
                          obtain ⟨k111c, k111d, -⟩ := k111b
                          refine zr_bipush zC dX5_tells_112 (by decide +kernel) ?_
                          refine zr_icmp_eq (tgt := 121) zC dX5_tells_114 (by decide) (by omega) (fun c114 => ?_) (fun c114 => ?_)
                          · refine zr_iconst zC dX5_tells_121 ?_
                            refine zr_iadd zC dX5_tells_122 ?_
                            refine lv_istore_n (lv' := [(2, .int (zI (u + 0))), (4, .int (zI 1)), (0, .ref (aM Γ)), (1, .int (zI w)), (3, .int (zI q))]) zC.1 zC.2.1 dX5_tells_123 rfl hl (by decide) rfl (fun ls hl => ?_)
                            refine zr_iinc (lv' := [(3, .int (zI (q + 1))), (2, .int (zI (u + 0))), (4, .int (zI 1)), (0, .ref (aM Γ)), (1, .int (zI w))]) zC dX5_tells_124 hl (k := 4) rfl (by decide) rfl (fun ls hl => ?_)
                            refine lv_goto (tgt := 4) zC.1 zC.2.1 dX5_tells_127 (by decide) ?_
                            exact ih4 (u + 0) (q + 1) H locs ls (by first | assumption | omega) (by rw [ctI_s hq.1, ← hu]; unfold zB; split <;> omega) (by omega) hG (lv_sub hl [3, 4, 1, 0] rfl)
                          · refine zr_iconst zC dX5_tells_117 ?_
                            refine lv_goto (tgt := 122) zC.1 zC.2.1 dX5_tells_118 (by decide) ?_
                            refine zr_iadd zC dX5_tells_122 ?_
                            refine lv_istore_n (lv' := [(2, .int (zI (u + 1))), (4, .int (zI 1)), (0, .ref (aM Γ)), (1, .int (zI w)), (3, .int (zI q))]) zC.1 zC.2.1 dX5_tells_123 rfl hl (by decide) rfl (fun ls hl => ?_)
                            refine zr_iinc (lv' := [(3, .int (zI (q + 1))), (2, .int (zI (u + 1))), (4, .int (zI 1)), (0, .ref (aM Γ)), (1, .int (zI w))]) zC dX5_tells_124 hl (k := 4) rfl (by decide) rfl (fun ls hl => ?_)
                            refine lv_goto (tgt := 4) zC.1 zC.2.1 dX5_tells_127 (by decide) ?_
                            exact ih4 (u + 1) (q + 1) H locs ls (by first | assumption | omega) (by rw [ctI_s hq.1, ← hu]; unfold zB; split <;> omega) (by omega) hG (lv_sub hl [3, 4, 1, 0] rfl)
                    · refine lv_iload_n zC.1 zC.2.1 dX5_tells_78 rfl (lv_at hl 4 rfl) ?_
                      refine zr_iconst zC dX5_tells_79 ?_
                      refine zr_icmp_ge (tgt := 92) zC dX5_tells_80 (by decide) (by omega) (fun c80 => ?_) (fun c80 => ?_)
                      · refine lv_iload_n zC.1 zC.2.1 dX5_tells_92 rfl (lv_at hl 2 rfl) ?_
                        refine zr_bipush zC dX5_tells_93 (by decide +kernel) ?_
                        refine zr_icmp_ne (tgt := 121) zC dX5_tells_95 (by decide) (by omega) (fun c95 => ?_) (fun c95 => ?_)
                        · refine zr_iconst zC dX5_tells_121 ?_
                          refine zr_iadd zC dX5_tells_122 ?_
                          refine lv_istore_n (lv' := [(2, .int (zI (u + 0))), (4, .int (zI 1)), (0, .ref (aM Γ)), (1, .int (zI w)), (3, .int (zI q))]) zC.1 zC.2.1 dX5_tells_123 rfl hl (by decide) rfl (fun ls hl => ?_)
                          refine zr_iinc (lv' := [(3, .int (zI (q + 1))), (2, .int (zI (u + 0))), (4, .int (zI 1)), (0, .ref (aM Γ)), (1, .int (zI w))]) zC dX5_tells_124 hl (k := 4) rfl (by decide) rfl (fun ls hl => ?_)
                          refine lv_goto (tgt := 4) zC.1 zC.2.1 dX5_tells_127 (by decide) ?_
                          exact ih4 (u + 0) (q + 1) H locs ls (by first | assumption | omega) (by rw [ctI_s hq.1, ← hu]; unfold zB; split <;> omega) (by omega) hG (lv_sub hl [3, 4, 1, 0] rfl)
                        · refine lv_iload_n zC.1 zC.2.1 dX5_tells_98 rfl (lv_at hl 4 rfl) ?_
                          refine zr_iconst zC dX5_tells_99 ?_
                          refine zr_icmp_ge (tgt := 121) zC dX5_tells_100 (by decide) (by omega) (fun c100 => ?_) (fun c100 => ?_)
                          · refine zr_iconst zC dX5_tells_121 ?_
                            refine zr_iadd zC dX5_tells_122 ?_
                            refine lv_istore_n (lv' := [(2, .int (zI (u + 0))), (4, .int (zI 1)), (0, .ref (aM Γ)), (1, .int (zI w)), (3, .int (zI q))]) zC.1 zC.2.1 dX5_tells_123 rfl hl (by decide) rfl (fun ls hl => ?_)
                            refine zr_iinc (lv' := [(3, .int (zI (q + 1))), (2, .int (zI (u + 0))), (4, .int (zI 1)), (0, .ref (aM Γ)), (1, .int (zI w))]) zC dX5_tells_124 hl (k := 4) rfl (by decide) rfl (fun ls hl => ?_)
                            refine lv_goto (tgt := 4) zC.1 zC.2.1 dX5_tells_127 (by decide) ?_
                            exact ih4 (u + 0) (q + 1) H locs ls (by first | assumption | omega) (by rw [ctI_s hq.1, ← hu]; unfold zB; split <;> omega) (by omega) hG (lv_sub hl [3, 4, 1, 0] rfl)
                          · refine lv_aload_n zC.1 zC.2.1 dX5_tells_103 rfl (lv_at hl 1 rfl) ?_
                            refine gf_M_kept zC hG wl_X5_47 dX5_tells_104 ?_
                            refine zr_bipush zC dX5_tells_107 (by decide +kernel) ?_
                            refine lv_iload_n zC.1 zC.2.1 dX5_tells_109 rfl (lv_at hl 4 rfl) ?_
                            refine zr_imul zC dX5_tells_110 ?_
                            refine gi_m_kept (v := kpM (τ 7 q 3) (τ 7 q 4)) zC hG (by omega) (hR.2.2.2.2.2.2.2 q (by omega) (by omega)).1 dX5_tells_111 ?_
                            have k111 := kpM_s (τ 7 q 3) (τ 7 q 4)
                            have k111b := hI.2.2.2.2.2.2.2 q (by omega) (by omega)
                            obtain ⟨k111c, k111d, -⟩ := k111b
                            refine zr_bipush zC dX5_tells_112 (by decide +kernel) ?_
                            refine zr_icmp_eq (tgt := 121) zC dX5_tells_114 (by decide) (by omega) (fun c114 => ?_) (fun c114 => ?_)
                            · refine zr_iconst zC dX5_tells_121 ?_
                              refine zr_iadd zC dX5_tells_122 ?_
                              refine lv_istore_n (lv' := [(2, .int (zI (u + 0))), (4, .int (zI 1)), (0, .ref (aM Γ)), (1, .int (zI w)), (3, .int (zI q))]) zC.1 zC.2.1 dX5_tells_123 rfl hl (by decide) rfl (fun ls hl => ?_)
                              refine zr_iinc (lv' := [(3, .int (zI (q + 1))), (2, .int (zI (u + 0))), (4, .int (zI 1)), (0, .ref (aM Γ)), (1, .int (zI w))]) zC dX5_tells_124 hl (k := 4) rfl (by decide) rfl (fun ls hl => ?_)
                              refine lv_goto (tgt := 4) zC.1 zC.2.1 dX5_tells_127 (by decide) ?_
                              exact ih4 (u + 0) (q + 1) H locs ls (by first | assumption | omega) (by rw [ctI_s hq.1, ← hu]; unfold zB; split <;> omega) (by omega) hG (lv_sub hl [3, 4, 1, 0] rfl)
                            · refine zr_iconst zC dX5_tells_117 ?_
                              refine lv_goto (tgt := 122) zC.1 zC.2.1 dX5_tells_118 (by decide) ?_
                              refine zr_iadd zC dX5_tells_122 ?_
                              refine lv_istore_n (lv' := [(2, .int (zI (u + 1))), (4, .int (zI 1)), (0, .ref (aM Γ)), (1, .int (zI w)), (3, .int (zI q))]) zC.1 zC.2.1 dX5_tells_123 rfl hl (by decide) rfl (fun ls hl => ?_)
                              refine zr_iinc (lv' := [(3, .int (zI (q + 1))), (2, .int (zI (u + 1))), (4, .int (zI 1)), (0, .ref (aM Γ)), (1, .int (zI w))]) zC dX5_tells_124 hl (k := 4) rfl (by decide) rfl (fun ls hl => ?_)
                              refine lv_goto (tgt := 4) zC.1 zC.2.1 dX5_tells_127 (by decide) ?_
                              exact ih4 (u + 1) (q + 1) H locs ls (by first | assumption | omega) (by rw [ctI_s hq.1, ← hu]; unfold zB; split <;> omega) (by omega) hG (lv_sub hl [3, 4, 1, 0] rfl)
                      · refine lv_aload_n zC.1 zC.2.1 dX5_tells_83 rfl (lv_at hl 1 rfl) ?_
                        refine gf_M_lengths zC hG wl_X5_26 dX5_tells_84 ?_
                        refine lv_iload_n zC.1 zC.2.1 dX5_tells_87 rfl (lv_at hl 4 rfl) ?_
                        refine gi_m_lengths (v := szM (τ 4 q 1)) zC hG (by omega) (hR.2.2.2.2.1 q (by omega) (by omega)) dX5_tells_88 ?_
                        have f88 := hI.2.2.2.2.1 q (by omega) (by omega)
                        have f88s := szM_s (τ 4 q 1)
                        refine zr_if_ge (tgt := 117) zC dX5_tells_89 (by decide) (by omega) (fun c89 => ?_) (fun c89 => ?_)
                        · refine zr_iconst zC dX5_tells_117 ?_
                          refine lv_goto (tgt := 122) zC.1 zC.2.1 dX5_tells_118 (by decide) ?_
                          refine zr_iadd zC dX5_tells_122 ?_
                          refine lv_istore_n (lv' := [(2, .int (zI (u + 1))), (4, .int (zI 1)), (0, .ref (aM Γ)), (1, .int (zI w)), (3, .int (zI q))]) zC.1 zC.2.1 dX5_tells_123 rfl hl (by decide) rfl (fun ls hl => ?_)
                          refine zr_iinc (lv' := [(3, .int (zI (q + 1))), (2, .int (zI (u + 1))), (4, .int (zI 1)), (0, .ref (aM Γ)), (1, .int (zI w))]) zC dX5_tells_124 hl (k := 4) rfl (by decide) rfl (fun ls hl => ?_)
                          refine lv_goto (tgt := 4) zC.1 zC.2.1 dX5_tells_127 (by decide) ?_
                          exact ih4 (u + 1) (q + 1) H locs ls (by first | assumption | omega) (by rw [ctI_s hq.1, ← hu]; unfold zB; split <;> omega) (by omega) hG (lv_sub hl [3, 4, 1, 0] rfl)
                        · refine lv_iload_n zC.1 zC.2.1 dX5_tells_92 rfl (lv_at hl 2 rfl) ?_
                          refine zr_bipush zC dX5_tells_93 (by decide +kernel) ?_
                          refine zr_icmp_ne (tgt := 121) zC dX5_tells_95 (by decide) (by omega) (fun c95 => ?_) (fun c95 => ?_)
                          · refine zr_iconst zC dX5_tells_121 ?_
                            refine zr_iadd zC dX5_tells_122 ?_
                            refine lv_istore_n (lv' := [(2, .int (zI (u + 0))), (4, .int (zI 1)), (0, .ref (aM Γ)), (1, .int (zI w)), (3, .int (zI q))]) zC.1 zC.2.1 dX5_tells_123 rfl hl (by decide) rfl (fun ls hl => ?_)
                            refine zr_iinc (lv' := [(3, .int (zI (q + 1))), (2, .int (zI (u + 0))), (4, .int (zI 1)), (0, .ref (aM Γ)), (1, .int (zI w))]) zC dX5_tells_124 hl (k := 4) rfl (by decide) rfl (fun ls hl => ?_)
                            refine lv_goto (tgt := 4) zC.1 zC.2.1 dX5_tells_127 (by decide) ?_
                            exact ih4 (u + 0) (q + 1) H locs ls (by first | assumption | omega) (by rw [ctI_s hq.1, ← hu]; unfold zB; split <;> omega) (by omega) hG (lv_sub hl [3, 4, 1, 0] rfl)
                          · refine lv_iload_n zC.1 zC.2.1 dX5_tells_98 rfl (lv_at hl 4 rfl) ?_
                            refine zr_iconst zC dX5_tells_99 ?_
                            refine zr_icmp_ge (tgt := 121) zC dX5_tells_100 (by decide) (by omega) (fun c100 => ?_) (fun c100 => ?_)
                            · refine zr_iconst zC dX5_tells_121 ?_
                              refine zr_iadd zC dX5_tells_122 ?_
                              refine lv_istore_n (lv' := [(2, .int (zI (u + 0))), (4, .int (zI 1)), (0, .ref (aM Γ)), (1, .int (zI w)), (3, .int (zI q))]) zC.1 zC.2.1 dX5_tells_123 rfl hl (by decide) rfl (fun ls hl => ?_)
                              refine zr_iinc (lv' := [(3, .int (zI (q + 1))), (2, .int (zI (u + 0))), (4, .int (zI 1)), (0, .ref (aM Γ)), (1, .int (zI w))]) zC dX5_tells_124 hl (k := 4) rfl (by decide) rfl (fun ls hl => ?_)
                              refine lv_goto (tgt := 4) zC.1 zC.2.1 dX5_tells_127 (by decide) ?_
                              exact ih4 (u + 0) (q + 1) H locs ls (by first | assumption | omega) (by rw [ctI_s hq.1, ← hu]; unfold zB; split <;> omega) (by omega) hG (lv_sub hl [3, 4, 1, 0] rfl)
                            · refine lv_aload_n zC.1 zC.2.1 dX5_tells_103 rfl (lv_at hl 1 rfl) ?_
                              refine gf_M_kept zC hG wl_X5_47 dX5_tells_104 ?_
                              refine zr_bipush zC dX5_tells_107 (by decide +kernel) ?_
                              refine lv_iload_n zC.1 zC.2.1 dX5_tells_109 rfl (lv_at hl 4 rfl) ?_
                              refine zr_imul zC dX5_tells_110 ?_
                              refine gi_m_kept (v := kpM (τ 7 q 3) (τ 7 q 4)) zC hG (by omega) (hR.2.2.2.2.2.2.2 q (by omega) (by omega)).1 dX5_tells_111 ?_
                              have k111 := kpM_s (τ 7 q 3) (τ 7 q 4)
                              have k111b := hI.2.2.2.2.2.2.2 q (by omega) (by omega)
                              obtain ⟨k111c, k111d, -⟩ := k111b
                              refine zr_bipush zC dX5_tells_112 (by decide +kernel) ?_
                              refine zr_icmp_eq (tgt := 121) zC dX5_tells_114 (by decide) (by omega) (fun c114 => ?_) (fun c114 => ?_)
                              · refine zr_iconst zC dX5_tells_121 ?_
                                refine zr_iadd zC dX5_tells_122 ?_
                                refine lv_istore_n (lv' := [(2, .int (zI (u + 0))), (4, .int (zI 1)), (0, .ref (aM Γ)), (1, .int (zI w)), (3, .int (zI q))]) zC.1 zC.2.1 dX5_tells_123 rfl hl (by decide) rfl (fun ls hl => ?_)
                                refine zr_iinc (lv' := [(3, .int (zI (q + 1))), (2, .int (zI (u + 0))), (4, .int (zI 1)), (0, .ref (aM Γ)), (1, .int (zI w))]) zC dX5_tells_124 hl (k := 4) rfl (by decide) rfl (fun ls hl => ?_)
                                refine lv_goto (tgt := 4) zC.1 zC.2.1 dX5_tells_127 (by decide) ?_
                                exact ih4 (u + 0) (q + 1) H locs ls (by first | assumption | omega) (by rw [ctI_s hq.1, ← hu]; unfold zB; split <;> omega) (by omega) hG (lv_sub hl [3, 4, 1, 0] rfl)
                              · refine zr_iconst zC dX5_tells_117 ?_
                                refine lv_goto (tgt := 122) zC.1 zC.2.1 dX5_tells_118 (by decide) ?_
                                refine zr_iadd zC dX5_tells_122 ?_
                                refine lv_istore_n (lv' := [(2, .int (zI (u + 1))), (4, .int (zI 1)), (0, .ref (aM Γ)), (1, .int (zI w)), (3, .int (zI q))]) zC.1 zC.2.1 dX5_tells_123 rfl hl (by decide) rfl (fun ls hl => ?_)
                                refine zr_iinc (lv' := [(3, .int (zI (q + 1))), (2, .int (zI (u + 1))), (4, .int (zI 1)), (0, .ref (aM Γ)), (1, .int (zI w))]) zC dX5_tells_124 hl (k := 4) rfl (by decide) rfl (fun ls hl => ?_)
                                refine lv_goto (tgt := 4) zC.1 zC.2.1 dX5_tells_127 (by decide) ?_
                                exact ih4 (u + 1) (q + 1) H locs ls (by first | assumption | omega) (by rw [ctI_s hq.1, ← hu]; unfold zB; split <;> omega) (by omega) hG (lv_sub hl [3, 4, 1, 0] rfl)
                  · refine lv_aload_n zC.1 zC.2.1 dX5_tells_64 rfl (lv_at hl 1 rfl) ?_
                    refine gf_M_sizes zC hG wl_X5_17 dX5_tells_65 ?_
                    refine lv_iload_n zC.1 zC.2.1 dX5_tells_68 rfl (lv_at hl 4 rfl) ?_
                    refine gi_m_sizes (v := szM (τ 2 q 1)) zC hG (by omega) (hR.2.2.1 q (by omega) (by omega)) dX5_tells_69 ?_
                    have f69 := hI.2.2.1 q (by omega) (by omega)
                    have f69s := szM_s (τ 2 q 1)
                    refine zr_if_ge (tgt := 117) zC dX5_tells_70 (by decide) (by omega) (fun c70 => ?_) (fun c70 => ?_)
                    · refine zr_iconst zC dX5_tells_117 ?_
                      refine lv_goto (tgt := 122) zC.1 zC.2.1 dX5_tells_118 (by decide) ?_
                      refine zr_iadd zC dX5_tells_122 ?_
                      refine lv_istore_n (lv' := [(2, .int (zI (u + 1))), (4, .int (zI 1)), (0, .ref (aM Γ)), (1, .int (zI w)), (3, .int (zI q))]) zC.1 zC.2.1 dX5_tells_123 rfl hl (by decide) rfl (fun ls hl => ?_)
                      refine zr_iinc (lv' := [(3, .int (zI (q + 1))), (2, .int (zI (u + 1))), (4, .int (zI 1)), (0, .ref (aM Γ)), (1, .int (zI w))]) zC dX5_tells_124 hl (k := 4) rfl (by decide) rfl (fun ls hl => ?_)
                      refine lv_goto (tgt := 4) zC.1 zC.2.1 dX5_tells_127 (by decide) ?_
                      exact ih4 (u + 1) (q + 1) H locs ls (by first | assumption | omega) (by rw [ctI_s hq.1, ← hu]; unfold zB; split <;> omega) (by omega) hG (lv_sub hl [3, 4, 1, 0] rfl)
                    · refine lv_iload_n zC.1 zC.2.1 dX5_tells_73 rfl (lv_at hl 2 rfl) ?_
                      refine zr_iconst zC dX5_tells_74 ?_
                      refine zr_icmp_ne (tgt := 92) zC dX5_tells_75 (by decide) (by omega) (fun c75 => ?_) (fun c75 => ?_)
                      · refine lv_iload_n zC.1 zC.2.1 dX5_tells_92 rfl (lv_at hl 2 rfl) ?_
                        refine zr_bipush zC dX5_tells_93 (by decide +kernel) ?_
                        refine zr_icmp_ne (tgt := 121) zC dX5_tells_95 (by decide) (by omega) (fun c95 => ?_) (fun c95 => ?_)
                        · refine zr_iconst zC dX5_tells_121 ?_
                          refine zr_iadd zC dX5_tells_122 ?_
                          refine lv_istore_n (lv' := [(2, .int (zI (u + 0))), (4, .int (zI 1)), (0, .ref (aM Γ)), (1, .int (zI w)), (3, .int (zI q))]) zC.1 zC.2.1 dX5_tells_123 rfl hl (by decide) rfl (fun ls hl => ?_)
                          refine zr_iinc (lv' := [(3, .int (zI (q + 1))), (2, .int (zI (u + 0))), (4, .int (zI 1)), (0, .ref (aM Γ)), (1, .int (zI w))]) zC dX5_tells_124 hl (k := 4) rfl (by decide) rfl (fun ls hl => ?_)
                          refine lv_goto (tgt := 4) zC.1 zC.2.1 dX5_tells_127 (by decide) ?_
                          exact ih4 (u + 0) (q + 1) H locs ls (by first | assumption | omega) (by rw [ctI_s hq.1, ← hu]; unfold zB; split <;> omega) (by omega) hG (lv_sub hl [3, 4, 1, 0] rfl)
                        · refine lv_iload_n zC.1 zC.2.1 dX5_tells_98 rfl (lv_at hl 4 rfl) ?_
                          refine zr_iconst zC dX5_tells_99 ?_
                          refine zr_icmp_ge (tgt := 121) zC dX5_tells_100 (by decide) (by omega) (fun c100 => ?_) (fun c100 => ?_)
                          · refine zr_iconst zC dX5_tells_121 ?_
                            refine zr_iadd zC dX5_tells_122 ?_
                            refine lv_istore_n (lv' := [(2, .int (zI (u + 0))), (4, .int (zI 1)), (0, .ref (aM Γ)), (1, .int (zI w)), (3, .int (zI q))]) zC.1 zC.2.1 dX5_tells_123 rfl hl (by decide) rfl (fun ls hl => ?_)
                            refine zr_iinc (lv' := [(3, .int (zI (q + 1))), (2, .int (zI (u + 0))), (4, .int (zI 1)), (0, .ref (aM Γ)), (1, .int (zI w))]) zC dX5_tells_124 hl (k := 4) rfl (by decide) rfl (fun ls hl => ?_)
                            refine lv_goto (tgt := 4) zC.1 zC.2.1 dX5_tells_127 (by decide) ?_
                            exact ih4 (u + 0) (q + 1) H locs ls (by first | assumption | omega) (by rw [ctI_s hq.1, ← hu]; unfold zB; split <;> omega) (by omega) hG (lv_sub hl [3, 4, 1, 0] rfl)
                          · refine lv_aload_n zC.1 zC.2.1 dX5_tells_103 rfl (lv_at hl 1 rfl) ?_
                            refine gf_M_kept zC hG wl_X5_47 dX5_tells_104 ?_
                            refine zr_bipush zC dX5_tells_107 (by decide +kernel) ?_
                            refine lv_iload_n zC.1 zC.2.1 dX5_tells_109 rfl (lv_at hl 4 rfl) ?_
                            refine zr_imul zC dX5_tells_110 ?_
                            refine gi_m_kept (v := kpM (τ 7 q 3) (τ 7 q 4)) zC hG (by omega) (hR.2.2.2.2.2.2.2 q (by omega) (by omega)).1 dX5_tells_111 ?_
                            have k111 := kpM_s (τ 7 q 3) (τ 7 q 4)
                            have k111b := hI.2.2.2.2.2.2.2 q (by omega) (by omega)
                            obtain ⟨k111c, k111d, -⟩ := k111b
                            refine zr_bipush zC dX5_tells_112 (by decide +kernel) ?_
                            refine zr_icmp_eq (tgt := 121) zC dX5_tells_114 (by decide) (by omega) (fun c114 => ?_) (fun c114 => ?_)
                            · refine zr_iconst zC dX5_tells_121 ?_
                              refine zr_iadd zC dX5_tells_122 ?_
                              refine lv_istore_n (lv' := [(2, .int (zI (u + 0))), (4, .int (zI 1)), (0, .ref (aM Γ)), (1, .int (zI w)), (3, .int (zI q))]) zC.1 zC.2.1 dX5_tells_123 rfl hl (by decide) rfl (fun ls hl => ?_)
                              refine zr_iinc (lv' := [(3, .int (zI (q + 1))), (2, .int (zI (u + 0))), (4, .int (zI 1)), (0, .ref (aM Γ)), (1, .int (zI w))]) zC dX5_tells_124 hl (k := 4) rfl (by decide) rfl (fun ls hl => ?_)
                              refine lv_goto (tgt := 4) zC.1 zC.2.1 dX5_tells_127 (by decide) ?_
                              exact ih4 (u + 0) (q + 1) H locs ls (by first | assumption | omega) (by rw [ctI_s hq.1, ← hu]; unfold zB; split <;> omega) (by omega) hG (lv_sub hl [3, 4, 1, 0] rfl)
                            · refine zr_iconst zC dX5_tells_117 ?_
                              refine lv_goto (tgt := 122) zC.1 zC.2.1 dX5_tells_118 (by decide) ?_
                              refine zr_iadd zC dX5_tells_122 ?_
                              refine lv_istore_n (lv' := [(2, .int (zI (u + 1))), (4, .int (zI 1)), (0, .ref (aM Γ)), (1, .int (zI w)), (3, .int (zI q))]) zC.1 zC.2.1 dX5_tells_123 rfl hl (by decide) rfl (fun ls hl => ?_)
                              refine zr_iinc (lv' := [(3, .int (zI (q + 1))), (2, .int (zI (u + 1))), (4, .int (zI 1)), (0, .ref (aM Γ)), (1, .int (zI w))]) zC dX5_tells_124 hl (k := 4) rfl (by decide) rfl (fun ls hl => ?_)
                              refine lv_goto (tgt := 4) zC.1 zC.2.1 dX5_tells_127 (by decide) ?_
                              exact ih4 (u + 1) (q + 1) H locs ls (by first | assumption | omega) (by rw [ctI_s hq.1, ← hu]; unfold zB; split <;> omega) (by omega) hG (lv_sub hl [3, 4, 1, 0] rfl)
                      · refine lv_iload_n zC.1 zC.2.1 dX5_tells_78 rfl (lv_at hl 4 rfl) ?_
                        refine zr_iconst zC dX5_tells_79 ?_
                        refine zr_icmp_ge (tgt := 92) zC dX5_tells_80 (by decide) (by omega) (fun c80 => ?_) (fun c80 => ?_)
                        · refine lv_iload_n zC.1 zC.2.1 dX5_tells_92 rfl (lv_at hl 2 rfl) ?_
                          refine zr_bipush zC dX5_tells_93 (by decide +kernel) ?_
                          refine zr_icmp_ne (tgt := 121) zC dX5_tells_95 (by decide) (by omega) (fun c95 => ?_) (fun c95 => ?_)
                          · refine zr_iconst zC dX5_tells_121 ?_
                            refine zr_iadd zC dX5_tells_122 ?_
                            refine lv_istore_n (lv' := [(2, .int (zI (u + 0))), (4, .int (zI 1)), (0, .ref (aM Γ)), (1, .int (zI w)), (3, .int (zI q))]) zC.1 zC.2.1 dX5_tells_123 rfl hl (by decide) rfl (fun ls hl => ?_)
                            refine zr_iinc (lv' := [(3, .int (zI (q + 1))), (2, .int (zI (u + 0))), (4, .int (zI 1)), (0, .ref (aM Γ)), (1, .int (zI w))]) zC dX5_tells_124 hl (k := 4) rfl (by decide) rfl (fun ls hl => ?_)
                            refine lv_goto (tgt := 4) zC.1 zC.2.1 dX5_tells_127 (by decide) ?_
                            exact ih4 (u + 0) (q + 1) H locs ls (by first | assumption | omega) (by rw [ctI_s hq.1, ← hu]; unfold zB; split <;> omega) (by omega) hG (lv_sub hl [3, 4, 1, 0] rfl)
                          · refine lv_iload_n zC.1 zC.2.1 dX5_tells_98 rfl (lv_at hl 4 rfl) ?_
                            refine zr_iconst zC dX5_tells_99 ?_
                            refine zr_icmp_ge (tgt := 121) zC dX5_tells_100 (by decide) (by omega) (fun c100 => ?_) (fun c100 => ?_)
                            · refine zr_iconst zC dX5_tells_121 ?_
                              refine zr_iadd zC dX5_tells_122 ?_
                              refine lv_istore_n (lv' := [(2, .int (zI (u + 0))), (4, .int (zI 1)), (0, .ref (aM Γ)), (1, .int (zI w)), (3, .int (zI q))]) zC.1 zC.2.1 dX5_tells_123 rfl hl (by decide) rfl (fun ls hl => ?_)
                              refine zr_iinc (lv' := [(3, .int (zI (q + 1))), (2, .int (zI (u + 0))), (4, .int (zI 1)), (0, .ref (aM Γ)), (1, .int (zI w))]) zC dX5_tells_124 hl (k := 4) rfl (by decide) rfl (fun ls hl => ?_)
                              refine lv_goto (tgt := 4) zC.1 zC.2.1 dX5_tells_127 (by decide) ?_
                              exact ih4 (u + 0) (q + 1) H locs ls (by first | assumption | omega) (by rw [ctI_s hq.1, ← hu]; unfold zB; split <;> omega) (by omega) hG (lv_sub hl [3, 4, 1, 0] rfl)
                            · refine lv_aload_n zC.1 zC.2.1 dX5_tells_103 rfl (lv_at hl 1 rfl) ?_
                              refine gf_M_kept zC hG wl_X5_47 dX5_tells_104 ?_
                              refine zr_bipush zC dX5_tells_107 (by decide +kernel) ?_
                              refine lv_iload_n zC.1 zC.2.1 dX5_tells_109 rfl (lv_at hl 4 rfl) ?_
                              refine zr_imul zC dX5_tells_110 ?_
                              refine gi_m_kept (v := kpM (τ 7 q 3) (τ 7 q 4)) zC hG (by omega) (hR.2.2.2.2.2.2.2 q (by omega) (by omega)).1 dX5_tells_111 ?_
                              have k111 := kpM_s (τ 7 q 3) (τ 7 q 4)
                              have k111b := hI.2.2.2.2.2.2.2 q (by omega) (by omega)
                              obtain ⟨k111c, k111d, -⟩ := k111b
                              refine zr_bipush zC dX5_tells_112 (by decide +kernel) ?_
                              refine zr_icmp_eq (tgt := 121) zC dX5_tells_114 (by decide) (by omega) (fun c114 => ?_) (fun c114 => ?_)
                              · refine zr_iconst zC dX5_tells_121 ?_
                                refine zr_iadd zC dX5_tells_122 ?_
                                refine lv_istore_n (lv' := [(2, .int (zI (u + 0))), (4, .int (zI 1)), (0, .ref (aM Γ)), (1, .int (zI w)), (3, .int (zI q))]) zC.1 zC.2.1 dX5_tells_123 rfl hl (by decide) rfl (fun ls hl => ?_)
                                refine zr_iinc (lv' := [(3, .int (zI (q + 1))), (2, .int (zI (u + 0))), (4, .int (zI 1)), (0, .ref (aM Γ)), (1, .int (zI w))]) zC dX5_tells_124 hl (k := 4) rfl (by decide) rfl (fun ls hl => ?_)
                                refine lv_goto (tgt := 4) zC.1 zC.2.1 dX5_tells_127 (by decide) ?_
                                exact ih4 (u + 0) (q + 1) H locs ls (by first | assumption | omega) (by rw [ctI_s hq.1, ← hu]; unfold zB; split <;> omega) (by omega) hG (lv_sub hl [3, 4, 1, 0] rfl)
                              · refine zr_iconst zC dX5_tells_117 ?_
                                refine lv_goto (tgt := 122) zC.1 zC.2.1 dX5_tells_118 (by decide) ?_
                                refine zr_iadd zC dX5_tells_122 ?_
                                refine lv_istore_n (lv' := [(2, .int (zI (u + 1))), (4, .int (zI 1)), (0, .ref (aM Γ)), (1, .int (zI w)), (3, .int (zI q))]) zC.1 zC.2.1 dX5_tells_123 rfl hl (by decide) rfl (fun ls hl => ?_)
                                refine zr_iinc (lv' := [(3, .int (zI (q + 1))), (2, .int (zI (u + 1))), (4, .int (zI 1)), (0, .ref (aM Γ)), (1, .int (zI w))]) zC dX5_tells_124 hl (k := 4) rfl (by decide) rfl (fun ls hl => ?_)
                                refine lv_goto (tgt := 4) zC.1 zC.2.1 dX5_tells_127 (by decide) ?_
                                exact ih4 (u + 1) (q + 1) H locs ls (by first | assumption | omega) (by rw [ctI_s hq.1, ← hu]; unfold zB; split <;> omega) (by omega) hG (lv_sub hl [3, 4, 1, 0] rfl)
                        · refine lv_aload_n zC.1 zC.2.1 dX5_tells_83 rfl (lv_at hl 1 rfl) ?_
                          refine gf_M_lengths zC hG wl_X5_26 dX5_tells_84 ?_
                          refine lv_iload_n zC.1 zC.2.1 dX5_tells_87 rfl (lv_at hl 4 rfl) ?_
                          refine gi_m_lengths (v := szM (τ 4 q 1)) zC hG (by omega) (hR.2.2.2.2.1 q (by omega) (by omega)) dX5_tells_88 ?_
                          have f88 := hI.2.2.2.2.1 q (by omega) (by omega)
                          have f88s := szM_s (τ 4 q 1)
                          refine zr_if_ge (tgt := 117) zC dX5_tells_89 (by decide) (by omega) (fun c89 => ?_) (fun c89 => ?_)
                          · refine zr_iconst zC dX5_tells_117 ?_
                            refine lv_goto (tgt := 122) zC.1 zC.2.1 dX5_tells_118 (by decide) ?_
                            refine zr_iadd zC dX5_tells_122 ?_
                            refine lv_istore_n (lv' := [(2, .int (zI (u + 1))), (4, .int (zI 1)), (0, .ref (aM Γ)), (1, .int (zI w)), (3, .int (zI q))]) zC.1 zC.2.1 dX5_tells_123 rfl hl (by decide) rfl (fun ls hl => ?_)
                            refine zr_iinc (lv' := [(3, .int (zI (q + 1))), (2, .int (zI (u + 1))), (4, .int (zI 1)), (0, .ref (aM Γ)), (1, .int (zI w))]) zC dX5_tells_124 hl (k := 4) rfl (by decide) rfl (fun ls hl => ?_)
                            refine lv_goto (tgt := 4) zC.1 zC.2.1 dX5_tells_127 (by decide) ?_
                            exact ih4 (u + 1) (q + 1) H locs ls (by first | assumption | omega) (by rw [ctI_s hq.1, ← hu]; unfold zB; split <;> omega) (by omega) hG (lv_sub hl [3, 4, 1, 0] rfl)
                          · refine lv_iload_n zC.1 zC.2.1 dX5_tells_92 rfl (lv_at hl 2 rfl) ?_
                            refine zr_bipush zC dX5_tells_93 (by decide +kernel) ?_
                            refine zr_icmp_ne (tgt := 121) zC dX5_tells_95 (by decide) (by omega) (fun c95 => ?_) (fun c95 => ?_)
                            · refine zr_iconst zC dX5_tells_121 ?_
                              refine zr_iadd zC dX5_tells_122 ?_
                              refine lv_istore_n (lv' := [(2, .int (zI (u + 0))), (4, .int (zI 1)), (0, .ref (aM Γ)), (1, .int (zI w)), (3, .int (zI q))]) zC.1 zC.2.1 dX5_tells_123 rfl hl (by decide) rfl (fun ls hl => ?_)
                              refine zr_iinc (lv' := [(3, .int (zI (q + 1))), (2, .int (zI (u + 0))), (4, .int (zI 1)), (0, .ref (aM Γ)), (1, .int (zI w))]) zC dX5_tells_124 hl (k := 4) rfl (by decide) rfl (fun ls hl => ?_)
                              refine lv_goto (tgt := 4) zC.1 zC.2.1 dX5_tells_127 (by decide) ?_
                              exact ih4 (u + 0) (q + 1) H locs ls (by first | assumption | omega) (by rw [ctI_s hq.1, ← hu]; unfold zB; split <;> omega) (by omega) hG (lv_sub hl [3, 4, 1, 0] rfl)
                            · refine lv_iload_n zC.1 zC.2.1 dX5_tells_98 rfl (lv_at hl 4 rfl) ?_
                              refine zr_iconst zC dX5_tells_99 ?_
                              refine zr_icmp_ge (tgt := 121) zC dX5_tells_100 (by decide) (by omega) (fun c100 => ?_) (fun c100 => ?_)
                              · refine zr_iconst zC dX5_tells_121 ?_
                                refine zr_iadd zC dX5_tells_122 ?_
                                refine lv_istore_n (lv' := [(2, .int (zI (u + 0))), (4, .int (zI 1)), (0, .ref (aM Γ)), (1, .int (zI w)), (3, .int (zI q))]) zC.1 zC.2.1 dX5_tells_123 rfl hl (by decide) rfl (fun ls hl => ?_)
                                refine zr_iinc (lv' := [(3, .int (zI (q + 1))), (2, .int (zI (u + 0))), (4, .int (zI 1)), (0, .ref (aM Γ)), (1, .int (zI w))]) zC dX5_tells_124 hl (k := 4) rfl (by decide) rfl (fun ls hl => ?_)
                                refine lv_goto (tgt := 4) zC.1 zC.2.1 dX5_tells_127 (by decide) ?_
                                exact ih4 (u + 0) (q + 1) H locs ls (by first | assumption | omega) (by rw [ctI_s hq.1, ← hu]; unfold zB; split <;> omega) (by omega) hG (lv_sub hl [3, 4, 1, 0] rfl)
                              · refine lv_aload_n zC.1 zC.2.1 dX5_tells_103 rfl (lv_at hl 1 rfl) ?_
                                refine gf_M_kept zC hG wl_X5_47 dX5_tells_104 ?_
                                refine zr_bipush zC dX5_tells_107 (by decide +kernel) ?_
                                refine lv_iload_n zC.1 zC.2.1 dX5_tells_109 rfl (lv_at hl 4 rfl) ?_
                                refine zr_imul zC dX5_tells_110 ?_
                                refine gi_m_kept (v := kpM (τ 7 q 3) (τ 7 q 4)) zC hG (by omega) (hR.2.2.2.2.2.2.2 q (by omega) (by omega)).1 dX5_tells_111 ?_
                                have k111 := kpM_s (τ 7 q 3) (τ 7 q 4)
                                have k111b := hI.2.2.2.2.2.2.2 q (by omega) (by omega)
                                obtain ⟨k111c, k111d, -⟩ := k111b
                                refine zr_bipush zC dX5_tells_112 (by decide +kernel) ?_
                                refine zr_icmp_eq (tgt := 121) zC dX5_tells_114 (by decide) (by omega) (fun c114 => ?_) (fun c114 => ?_)
                                · refine zr_iconst zC dX5_tells_121 ?_
                                  refine zr_iadd zC dX5_tells_122 ?_
                                  refine lv_istore_n (lv' := [(2, .int (zI (u + 0))), (4, .int (zI 1)), (0, .ref (aM Γ)), (1, .int (zI w)), (3, .int (zI q))]) zC.1 zC.2.1 dX5_tells_123 rfl hl (by decide) rfl (fun ls hl => ?_)
                                  refine zr_iinc (lv' := [(3, .int (zI (q + 1))), (2, .int (zI (u + 0))), (4, .int (zI 1)), (0, .ref (aM Γ)), (1, .int (zI w))]) zC dX5_tells_124 hl (k := 4) rfl (by decide) rfl (fun ls hl => ?_)
                                  refine lv_goto (tgt := 4) zC.1 zC.2.1 dX5_tells_127 (by decide) ?_
                                  exact ih4 (u + 0) (q + 1) H locs ls (by first | assumption | omega) (by rw [ctI_s hq.1, ← hu]; unfold zB; split <;> omega) (by omega) hG (lv_sub hl [3, 4, 1, 0] rfl)
                                · refine zr_iconst zC dX5_tells_117 ?_
                                  refine lv_goto (tgt := 122) zC.1 zC.2.1 dX5_tells_118 (by decide) ?_
                                  refine zr_iadd zC dX5_tells_122 ?_
                                  refine lv_istore_n (lv' := [(2, .int (zI (u + 1))), (4, .int (zI 1)), (0, .ref (aM Γ)), (1, .int (zI w)), (3, .int (zI q))]) zC.1 zC.2.1 dX5_tells_123 rfl hl (by decide) rfl (fun ls hl => ?_)
                                  refine zr_iinc (lv' := [(3, .int (zI (q + 1))), (2, .int (zI (u + 1))), (4, .int (zI 1)), (0, .ref (aM Γ)), (1, .int (zI w))]) zC dX5_tells_124 hl (k := 4) rfl (by decide) rfl (fun ls hl => ?_)
                                  refine lv_goto (tgt := 4) zC.1 zC.2.1 dX5_tells_127 (by decide) ?_
                                  exact ih4 (u + 1) (q + 1) H locs ls (by first | assumption | omega) (by rw [ctI_s hq.1, ← hu]; unfold zB; split <;> omega) (by omega) hG (lv_sub hl [3, 4, 1, 0] rfl)
          · refine lv_aload_n zC.1 zC.2.1 dX5_tells_23 rfl (lv_at hl 0 rfl) ?_
            refine lv_iload_n zC.1 zC.2.1 dX5_tells_24 rfl (lv_at hl 3 rfl) ?_
            refine zr_iconst zC dX5_tells_25 ?_
            refine zr_callV zC hG (c_X5_isA (τ := τ) (σ := σ) (c := q) (w := 1) hR hI (by first | assumption | omega) (by first | assumption | omega)) mt_X5_isA wl_X5_178 pM rfl rfl ⟨by decide, by decide⟩ rfl hl.1 rfl (Nat.le_of_ble_eq_true rfl) dX5_tells_26 ⟨Nat.zero_le _, Nat.zero_le _⟩ (fun H locs hG => ?_)
            refine W.eq (g2 := F0 zm 29 ls [.int (zI (zB (isO (τ 6 q 0) 1)))]) rfl ?_
            refine zr_ifneB (tgt := 46) zC dX5_tells_29 (by decide) (fun c29 => ?_) (fun c29 => ?_)
            · refine zr_iconst zC dX5_tells_46 ?_
              refine lv_goto (tgt := 51) zC.1 zC.2.1 dX5_tells_47 (by decide) ?_
              refine lv_istore (lv' := [(4, .int (zI 1)), (0, .ref (aM Γ)), (1, .int (zI w)), (2, .int (zI u)), (3, .int (zI q))]) zC.1 zC.2.1 dX5_tells_51 hl (by decide) rfl (fun ls hl => ?_)
              refine lv_iload_n zC.1 zC.2.1 dX5_tells_53 rfl (lv_at hl 3 rfl) ?_
              refine lv_iload zC.1 zC.2.1 dX5_tells_54 (lv_at hl 0 rfl) ?_
              refine zr_if_ne (tgt := 117) zC dX5_tells_56 (by decide) (by omega) (fun c56 => ?_) (fun c56 => ?_)
              · refine zr_iconst zC dX5_tells_117 ?_
                refine lv_goto (tgt := 122) zC.1 zC.2.1 dX5_tells_118 (by decide) ?_
                refine zr_iadd zC dX5_tells_122 ?_
                refine lv_istore_n (lv' := [(2, .int (zI (u + 1))), (4, .int (zI 1)), (0, .ref (aM Γ)), (1, .int (zI w)), (3, .int (zI q))]) zC.1 zC.2.1 dX5_tells_123 rfl hl (by decide) rfl (fun ls hl => ?_)
                refine zr_iinc (lv' := [(3, .int (zI (q + 1))), (2, .int (zI (u + 1))), (4, .int (zI 1)), (0, .ref (aM Γ)), (1, .int (zI w))]) zC dX5_tells_124 hl (k := 4) rfl (by decide) rfl (fun ls hl => ?_)
                refine lv_goto (tgt := 4) zC.1 zC.2.1 dX5_tells_127 (by decide) ?_
                exact ih4 (u + 1) (q + 1) H locs ls (by first | assumption | omega) (by rw [ctI_s hq.1, ← hu]; unfold zB; split <;> omega) (by omega) hG (lv_sub hl [3, 4, 1, 0] rfl)
              · refine lv_iload_n zC.1 zC.2.1 dX5_tells_59 rfl (lv_at hl 2 rfl) ?_
                refine zr_iconst zC dX5_tells_60 ?_
                refine zr_icmp_ne (tgt := 73) zC dX5_tells_61 (by decide) (by omega) (fun c61 => ?_) (fun c61 => ?_)
                · refine lv_iload_n zC.1 zC.2.1 dX5_tells_73 rfl (lv_at hl 2 rfl) ?_
                  refine zr_iconst zC dX5_tells_74 ?_
                  refine zr_icmp_ne (tgt := 92) zC dX5_tells_75 (by decide) (by omega) (fun c75 => ?_) (fun c75 => ?_)
                  · refine lv_iload_n zC.1 zC.2.1 dX5_tells_92 rfl (lv_at hl 2 rfl) ?_
                    refine zr_bipush zC dX5_tells_93 (by decide +kernel) ?_
                    refine zr_icmp_ne (tgt := 121) zC dX5_tells_95 (by decide) (by omega) (fun c95 => ?_) (fun c95 => ?_)
                    · refine zr_iconst zC dX5_tells_121 ?_
                      refine zr_iadd zC dX5_tells_122 ?_
                      refine lv_istore_n (lv' := [(2, .int (zI (u + 0))), (4, .int (zI 1)), (0, .ref (aM Γ)), (1, .int (zI w)), (3, .int (zI q))]) zC.1 zC.2.1 dX5_tells_123 rfl hl (by decide) rfl (fun ls hl => ?_)
                      refine zr_iinc (lv' := [(3, .int (zI (q + 1))), (2, .int (zI (u + 0))), (4, .int (zI 1)), (0, .ref (aM Γ)), (1, .int (zI w))]) zC dX5_tells_124 hl (k := 4) rfl (by decide) rfl (fun ls hl => ?_)
                      refine lv_goto (tgt := 4) zC.1 zC.2.1 dX5_tells_127 (by decide) ?_
                      exact ih4 (u + 0) (q + 1) H locs ls (by first | assumption | omega) (by rw [ctI_s hq.1, ← hu]; unfold zB; split <;> omega) (by omega) hG (lv_sub hl [3, 4, 1, 0] rfl)
                    · refine lv_iload_n zC.1 zC.2.1 dX5_tells_98 rfl (lv_at hl 4 rfl) ?_
                      refine zr_iconst zC dX5_tells_99 ?_
                      refine zr_icmp_ge (tgt := 121) zC dX5_tells_100 (by decide) (by omega) (fun c100 => ?_) (fun c100 => ?_)
                      · refine zr_iconst zC dX5_tells_121 ?_
                        refine zr_iadd zC dX5_tells_122 ?_
                        refine lv_istore_n (lv' := [(2, .int (zI (u + 0))), (4, .int (zI 1)), (0, .ref (aM Γ)), (1, .int (zI w)), (3, .int (zI q))]) zC.1 zC.2.1 dX5_tells_123 rfl hl (by decide) rfl (fun ls hl => ?_)
                        refine zr_iinc (lv' := [(3, .int (zI (q + 1))), (2, .int (zI (u + 0))), (4, .int (zI 1)), (0, .ref (aM Γ)), (1, .int (zI w))]) zC dX5_tells_124 hl (k := 4) rfl (by decide) rfl (fun ls hl => ?_)
                        refine lv_goto (tgt := 4) zC.1 zC.2.1 dX5_tells_127 (by decide) ?_
                        exact ih4 (u + 0) (q + 1) H locs ls (by first | assumption | omega) (by rw [ctI_s hq.1, ← hu]; unfold zB; split <;> omega) (by omega) hG (lv_sub hl [3, 4, 1, 0] rfl)
                      · refine lv_aload_n zC.1 zC.2.1 dX5_tells_103 rfl (lv_at hl 1 rfl) ?_
                        refine gf_M_kept zC hG wl_X5_47 dX5_tells_104 ?_
                        refine zr_bipush zC dX5_tells_107 (by decide +kernel) ?_
                        refine lv_iload_n zC.1 zC.2.1 dX5_tells_109 rfl (lv_at hl 4 rfl) ?_
                        refine zr_imul zC dX5_tells_110 ?_
                        refine gi_m_kept (v := kpM (τ 7 q 3) (τ 7 q 4)) zC hG (by omega) (hR.2.2.2.2.2.2.2 q (by omega) (by omega)).1 dX5_tells_111 ?_
                        have k111 := kpM_s (τ 7 q 3) (τ 7 q 4)
                        have k111b := hI.2.2.2.2.2.2.2 q (by omega) (by omega)
                        obtain ⟨k111c, k111d, -⟩ := k111b
                        refine zr_bipush zC dX5_tells_112 (by decide +kernel) ?_
                        refine zr_icmp_eq (tgt := 121) zC dX5_tells_114 (by decide) (by omega) (fun c114 => ?_) (fun c114 => ?_)
                        · refine zr_iconst zC dX5_tells_121 ?_
                          refine zr_iadd zC dX5_tells_122 ?_
                          refine lv_istore_n (lv' := [(2, .int (zI (u + 0))), (4, .int (zI 1)), (0, .ref (aM Γ)), (1, .int (zI w)), (3, .int (zI q))]) zC.1 zC.2.1 dX5_tells_123 rfl hl (by decide) rfl (fun ls hl => ?_)
                          refine zr_iinc (lv' := [(3, .int (zI (q + 1))), (2, .int (zI (u + 0))), (4, .int (zI 1)), (0, .ref (aM Γ)), (1, .int (zI w))]) zC dX5_tells_124 hl (k := 4) rfl (by decide) rfl (fun ls hl => ?_)
                          refine lv_goto (tgt := 4) zC.1 zC.2.1 dX5_tells_127 (by decide) ?_
                          exact ih4 (u + 0) (q + 1) H locs ls (by first | assumption | omega) (by rw [ctI_s hq.1, ← hu]; unfold zB; split <;> omega) (by omega) hG (lv_sub hl [3, 4, 1, 0] rfl)
                        · refine zr_iconst zC dX5_tells_117 ?_
                          refine lv_goto (tgt := 122) zC.1 zC.2.1 dX5_tells_118 (by decide) ?_
                          refine zr_iadd zC dX5_tells_122 ?_
                          refine lv_istore_n (lv' := [(2, .int (zI (u + 1))), (4, .int (zI 1)), (0, .ref (aM Γ)), (1, .int (zI w)), (3, .int (zI q))]) zC.1 zC.2.1 dX5_tells_123 rfl hl (by decide) rfl (fun ls hl => ?_)
                          refine zr_iinc (lv' := [(3, .int (zI (q + 1))), (2, .int (zI (u + 1))), (4, .int (zI 1)), (0, .ref (aM Γ)), (1, .int (zI w))]) zC dX5_tells_124 hl (k := 4) rfl (by decide) rfl (fun ls hl => ?_)
                          refine lv_goto (tgt := 4) zC.1 zC.2.1 dX5_tells_127 (by decide) ?_
                          exact ih4 (u + 1) (q + 1) H locs ls (by first | assumption | omega) (by rw [ctI_s hq.1, ← hu]; unfold zB; split <;> omega) (by omega) hG (lv_sub hl [3, 4, 1, 0] rfl)
                  · refine lv_iload_n zC.1 zC.2.1 dX5_tells_78 rfl (lv_at hl 4 rfl) ?_
                    refine zr_iconst zC dX5_tells_79 ?_
                    refine zr_icmp_ge (tgt := 92) zC dX5_tells_80 (by decide) (by omega) (fun c80 => ?_) (fun c80 => ?_)
                    · refine lv_iload_n zC.1 zC.2.1 dX5_tells_92 rfl (lv_at hl 2 rfl) ?_
                      refine zr_bipush zC dX5_tells_93 (by decide +kernel) ?_
                      refine zr_icmp_ne (tgt := 121) zC dX5_tells_95 (by decide) (by omega) (fun c95 => ?_) (fun c95 => ?_)
                      · refine zr_iconst zC dX5_tells_121 ?_
                        refine zr_iadd zC dX5_tells_122 ?_
                        refine lv_istore_n (lv' := [(2, .int (zI (u + 0))), (4, .int (zI 1)), (0, .ref (aM Γ)), (1, .int (zI w)), (3, .int (zI q))]) zC.1 zC.2.1 dX5_tells_123 rfl hl (by decide) rfl (fun ls hl => ?_)
                        refine zr_iinc (lv' := [(3, .int (zI (q + 1))), (2, .int (zI (u + 0))), (4, .int (zI 1)), (0, .ref (aM Γ)), (1, .int (zI w))]) zC dX5_tells_124 hl (k := 4) rfl (by decide) rfl (fun ls hl => ?_)
                        refine lv_goto (tgt := 4) zC.1 zC.2.1 dX5_tells_127 (by decide) ?_
                        exact ih4 (u + 0) (q + 1) H locs ls (by first | assumption | omega) (by rw [ctI_s hq.1, ← hu]; unfold zB; split <;> omega) (by omega) hG (lv_sub hl [3, 4, 1, 0] rfl)
                      · refine lv_iload_n zC.1 zC.2.1 dX5_tells_98 rfl (lv_at hl 4 rfl) ?_
                        refine zr_iconst zC dX5_tells_99 ?_
                        refine zr_icmp_ge (tgt := 121) zC dX5_tells_100 (by decide) (by omega) (fun c100 => ?_) (fun c100 => ?_)
                        · refine zr_iconst zC dX5_tells_121 ?_
                          refine zr_iadd zC dX5_tells_122 ?_
                          refine lv_istore_n (lv' := [(2, .int (zI (u + 0))), (4, .int (zI 1)), (0, .ref (aM Γ)), (1, .int (zI w)), (3, .int (zI q))]) zC.1 zC.2.1 dX5_tells_123 rfl hl (by decide) rfl (fun ls hl => ?_)
                          refine zr_iinc (lv' := [(3, .int (zI (q + 1))), (2, .int (zI (u + 0))), (4, .int (zI 1)), (0, .ref (aM Γ)), (1, .int (zI w))]) zC dX5_tells_124 hl (k := 4) rfl (by decide) rfl (fun ls hl => ?_)
                          refine lv_goto (tgt := 4) zC.1 zC.2.1 dX5_tells_127 (by decide) ?_
                          exact ih4 (u + 0) (q + 1) H locs ls (by first | assumption | omega) (by rw [ctI_s hq.1, ← hu]; unfold zB; split <;> omega) (by omega) hG (lv_sub hl [3, 4, 1, 0] rfl)
                        · refine lv_aload_n zC.1 zC.2.1 dX5_tells_103 rfl (lv_at hl 1 rfl) ?_
                          refine gf_M_kept zC hG wl_X5_47 dX5_tells_104 ?_
                          refine zr_bipush zC dX5_tells_107 (by decide +kernel) ?_
                          refine lv_iload_n zC.1 zC.2.1 dX5_tells_109 rfl (lv_at hl 4 rfl) ?_
                          refine zr_imul zC dX5_tells_110 ?_
                          refine gi_m_kept (v := kpM (τ 7 q 3) (τ 7 q 4)) zC hG (by omega) (hR.2.2.2.2.2.2.2 q (by omega) (by omega)).1 dX5_tells_111 ?_
                          have k111 := kpM_s (τ 7 q 3) (τ 7 q 4)
                          have k111b := hI.2.2.2.2.2.2.2 q (by omega) (by omega)
                          obtain ⟨k111c, k111d, -⟩ := k111b
                          refine zr_bipush zC dX5_tells_112 (by decide +kernel) ?_
                          refine zr_icmp_eq (tgt := 121) zC dX5_tells_114 (by decide) (by omega) (fun c114 => ?_) (fun c114 => ?_)
                          · refine zr_iconst zC dX5_tells_121 ?_
                            refine zr_iadd zC dX5_tells_122 ?_
                            refine lv_istore_n (lv' := [(2, .int (zI (u + 0))), (4, .int (zI 1)), (0, .ref (aM Γ)), (1, .int (zI w)), (3, .int (zI q))]) zC.1 zC.2.1 dX5_tells_123 rfl hl (by decide) rfl (fun ls hl => ?_)
                            refine zr_iinc (lv' := [(3, .int (zI (q + 1))), (2, .int (zI (u + 0))), (4, .int (zI 1)), (0, .ref (aM Γ)), (1, .int (zI w))]) zC dX5_tells_124 hl (k := 4) rfl (by decide) rfl (fun ls hl => ?_)
                            refine lv_goto (tgt := 4) zC.1 zC.2.1 dX5_tells_127 (by decide) ?_
                            exact ih4 (u + 0) (q + 1) H locs ls (by first | assumption | omega) (by rw [ctI_s hq.1, ← hu]; unfold zB; split <;> omega) (by omega) hG (lv_sub hl [3, 4, 1, 0] rfl)
                          · refine zr_iconst zC dX5_tells_117 ?_
                            refine lv_goto (tgt := 122) zC.1 zC.2.1 dX5_tells_118 (by decide) ?_
                            refine zr_iadd zC dX5_tells_122 ?_
                            refine lv_istore_n (lv' := [(2, .int (zI (u + 1))), (4, .int (zI 1)), (0, .ref (aM Γ)), (1, .int (zI w)), (3, .int (zI q))]) zC.1 zC.2.1 dX5_tells_123 rfl hl (by decide) rfl (fun ls hl => ?_)
                            refine zr_iinc (lv' := [(3, .int (zI (q + 1))), (2, .int (zI (u + 1))), (4, .int (zI 1)), (0, .ref (aM Γ)), (1, .int (zI w))]) zC dX5_tells_124 hl (k := 4) rfl (by decide) rfl (fun ls hl => ?_)
                            refine lv_goto (tgt := 4) zC.1 zC.2.1 dX5_tells_127 (by decide) ?_
                            exact ih4 (u + 1) (q + 1) H locs ls (by first | assumption | omega) (by rw [ctI_s hq.1, ← hu]; unfold zB; split <;> omega) (by omega) hG (lv_sub hl [3, 4, 1, 0] rfl)
                    · refine lv_aload_n zC.1 zC.2.1 dX5_tells_83 rfl (lv_at hl 1 rfl) ?_
                      refine gf_M_lengths zC hG wl_X5_26 dX5_tells_84 ?_
                      refine lv_iload_n zC.1 zC.2.1 dX5_tells_87 rfl (lv_at hl 4 rfl) ?_
                      refine gi_m_lengths (v := szM (τ 4 q 1)) zC hG (by omega) (hR.2.2.2.2.1 q (by omega) (by omega)) dX5_tells_88 ?_
                      have f88 := hI.2.2.2.2.1 q (by omega) (by omega)
                      have f88s := szM_s (τ 4 q 1)
                      refine zr_if_ge (tgt := 117) zC dX5_tells_89 (by decide) (by omega) (fun c89 => ?_) (fun c89 => ?_)
                      · refine zr_iconst zC dX5_tells_117 ?_
                        refine lv_goto (tgt := 122) zC.1 zC.2.1 dX5_tells_118 (by decide) ?_
                        refine zr_iadd zC dX5_tells_122 ?_
                        refine lv_istore_n (lv' := [(2, .int (zI (u + 1))), (4, .int (zI 1)), (0, .ref (aM Γ)), (1, .int (zI w)), (3, .int (zI q))]) zC.1 zC.2.1 dX5_tells_123 rfl hl (by decide) rfl (fun ls hl => ?_)
                        refine zr_iinc (lv' := [(3, .int (zI (q + 1))), (2, .int (zI (u + 1))), (4, .int (zI 1)), (0, .ref (aM Γ)), (1, .int (zI w))]) zC dX5_tells_124 hl (k := 4) rfl (by decide) rfl (fun ls hl => ?_)
                        refine lv_goto (tgt := 4) zC.1 zC.2.1 dX5_tells_127 (by decide) ?_
                        exact ih4 (u + 1) (q + 1) H locs ls (by first | assumption | omega) (by rw [ctI_s hq.1, ← hu]; unfold zB; split <;> omega) (by omega) hG (lv_sub hl [3, 4, 1, 0] rfl)
                      · refine lv_iload_n zC.1 zC.2.1 dX5_tells_92 rfl (lv_at hl 2 rfl) ?_
                        refine zr_bipush zC dX5_tells_93 (by decide +kernel) ?_
                        refine zr_icmp_ne (tgt := 121) zC dX5_tells_95 (by decide) (by omega) (fun c95 => ?_) (fun c95 => ?_)
                        · refine zr_iconst zC dX5_tells_121 ?_
                          refine zr_iadd zC dX5_tells_122 ?_
                          refine lv_istore_n (lv' := [(2, .int (zI (u + 0))), (4, .int (zI 1)), (0, .ref (aM Γ)), (1, .int (zI w)), (3, .int (zI q))]) zC.1 zC.2.1 dX5_tells_123 rfl hl (by decide) rfl (fun ls hl => ?_)
                          refine zr_iinc (lv' := [(3, .int (zI (q + 1))), (2, .int (zI (u + 0))), (4, .int (zI 1)), (0, .ref (aM Γ)), (1, .int (zI w))]) zC dX5_tells_124 hl (k := 4) rfl (by decide) rfl (fun ls hl => ?_)
                          refine lv_goto (tgt := 4) zC.1 zC.2.1 dX5_tells_127 (by decide) ?_
                          exact ih4 (u + 0) (q + 1) H locs ls (by first | assumption | omega) (by rw [ctI_s hq.1, ← hu]; unfold zB; split <;> omega) (by omega) hG (lv_sub hl [3, 4, 1, 0] rfl)
                        · refine lv_iload_n zC.1 zC.2.1 dX5_tells_98 rfl (lv_at hl 4 rfl) ?_
                          refine zr_iconst zC dX5_tells_99 ?_
                          refine zr_icmp_ge (tgt := 121) zC dX5_tells_100 (by decide) (by omega) (fun c100 => ?_) (fun c100 => ?_)
                          · refine zr_iconst zC dX5_tells_121 ?_
                            refine zr_iadd zC dX5_tells_122 ?_
                            refine lv_istore_n (lv' := [(2, .int (zI (u + 0))), (4, .int (zI 1)), (0, .ref (aM Γ)), (1, .int (zI w)), (3, .int (zI q))]) zC.1 zC.2.1 dX5_tells_123 rfl hl (by decide) rfl (fun ls hl => ?_)
                            refine zr_iinc (lv' := [(3, .int (zI (q + 1))), (2, .int (zI (u + 0))), (4, .int (zI 1)), (0, .ref (aM Γ)), (1, .int (zI w))]) zC dX5_tells_124 hl (k := 4) rfl (by decide) rfl (fun ls hl => ?_)
                            refine lv_goto (tgt := 4) zC.1 zC.2.1 dX5_tells_127 (by decide) ?_
                            exact ih4 (u + 0) (q + 1) H locs ls (by first | assumption | omega) (by rw [ctI_s hq.1, ← hu]; unfold zB; split <;> omega) (by omega) hG (lv_sub hl [3, 4, 1, 0] rfl)
                          · refine lv_aload_n zC.1 zC.2.1 dX5_tells_103 rfl (lv_at hl 1 rfl) ?_
                            refine gf_M_kept zC hG wl_X5_47 dX5_tells_104 ?_
                            refine zr_bipush zC dX5_tells_107 (by decide +kernel) ?_
                            refine lv_iload_n zC.1 zC.2.1 dX5_tells_109 rfl (lv_at hl 4 rfl) ?_
                            refine zr_imul zC dX5_tells_110 ?_
                            refine gi_m_kept (v := kpM (τ 7 q 3) (τ 7 q 4)) zC hG (by omega) (hR.2.2.2.2.2.2.2 q (by omega) (by omega)).1 dX5_tells_111 ?_
                            have k111 := kpM_s (τ 7 q 3) (τ 7 q 4)
                            have k111b := hI.2.2.2.2.2.2.2 q (by omega) (by omega)
                            obtain ⟨k111c, k111d, -⟩ := k111b
                            refine zr_bipush zC dX5_tells_112 (by decide +kernel) ?_
                            refine zr_icmp_eq (tgt := 121) zC dX5_tells_114 (by decide) (by omega) (fun c114 => ?_) (fun c114 => ?_)
                            · refine zr_iconst zC dX5_tells_121 ?_
                              refine zr_iadd zC dX5_tells_122 ?_
                              refine lv_istore_n (lv' := [(2, .int (zI (u + 0))), (4, .int (zI 1)), (0, .ref (aM Γ)), (1, .int (zI w)), (3, .int (zI q))]) zC.1 zC.2.1 dX5_tells_123 rfl hl (by decide) rfl (fun ls hl => ?_)
                              refine zr_iinc (lv' := [(3, .int (zI (q + 1))), (2, .int (zI (u + 0))), (4, .int (zI 1)), (0, .ref (aM Γ)), (1, .int (zI w))]) zC dX5_tells_124 hl (k := 4) rfl (by decide) rfl (fun ls hl => ?_)
                              refine lv_goto (tgt := 4) zC.1 zC.2.1 dX5_tells_127 (by decide) ?_
                              exact ih4 (u + 0) (q + 1) H locs ls (by first | assumption | omega) (by rw [ctI_s hq.1, ← hu]; unfold zB; split <;> omega) (by omega) hG (lv_sub hl [3, 4, 1, 0] rfl)
                            · refine zr_iconst zC dX5_tells_117 ?_
                              refine lv_goto (tgt := 122) zC.1 zC.2.1 dX5_tells_118 (by decide) ?_
                              refine zr_iadd zC dX5_tells_122 ?_
                              refine lv_istore_n (lv' := [(2, .int (zI (u + 1))), (4, .int (zI 1)), (0, .ref (aM Γ)), (1, .int (zI w)), (3, .int (zI q))]) zC.1 zC.2.1 dX5_tells_123 rfl hl (by decide) rfl (fun ls hl => ?_)
                              refine zr_iinc (lv' := [(3, .int (zI (q + 1))), (2, .int (zI (u + 1))), (4, .int (zI 1)), (0, .ref (aM Γ)), (1, .int (zI w))]) zC dX5_tells_124 hl (k := 4) rfl (by decide) rfl (fun ls hl => ?_)
                              refine lv_goto (tgt := 4) zC.1 zC.2.1 dX5_tells_127 (by decide) ?_
                              exact ih4 (u + 1) (q + 1) H locs ls (by first | assumption | omega) (by rw [ctI_s hq.1, ← hu]; unfold zB; split <;> omega) (by omega) hG (lv_sub hl [3, 4, 1, 0] rfl)
                · refine lv_aload_n zC.1 zC.2.1 dX5_tells_64 rfl (lv_at hl 1 rfl) ?_
                  refine gf_M_sizes zC hG wl_X5_17 dX5_tells_65 ?_
                  refine lv_iload_n zC.1 zC.2.1 dX5_tells_68 rfl (lv_at hl 4 rfl) ?_
                  refine gi_m_sizes (v := szM (τ 2 q 1)) zC hG (by omega) (hR.2.2.1 q (by omega) (by omega)) dX5_tells_69 ?_
                  have f69 := hI.2.2.1 q (by omega) (by omega)
                  have f69s := szM_s (τ 2 q 1)
                  refine zr_if_ge (tgt := 117) zC dX5_tells_70 (by decide) (by omega) (fun c70 => ?_) (fun c70 => ?_)
                  · refine zr_iconst zC dX5_tells_117 ?_
                    refine lv_goto (tgt := 122) zC.1 zC.2.1 dX5_tells_118 (by decide) ?_
                    refine zr_iadd zC dX5_tells_122 ?_
                    refine lv_istore_n (lv' := [(2, .int (zI (u + 1))), (4, .int (zI 1)), (0, .ref (aM Γ)), (1, .int (zI w)), (3, .int (zI q))]) zC.1 zC.2.1 dX5_tells_123 rfl hl (by decide) rfl (fun ls hl => ?_)
                    refine zr_iinc (lv' := [(3, .int (zI (q + 1))), (2, .int (zI (u + 1))), (4, .int (zI 1)), (0, .ref (aM Γ)), (1, .int (zI w))]) zC dX5_tells_124 hl (k := 4) rfl (by decide) rfl (fun ls hl => ?_)
                    refine lv_goto (tgt := 4) zC.1 zC.2.1 dX5_tells_127 (by decide) ?_
                    exact ih4 (u + 1) (q + 1) H locs ls (by first | assumption | omega) (by rw [ctI_s hq.1, ← hu]; unfold zB; split <;> omega) (by omega) hG (lv_sub hl [3, 4, 1, 0] rfl)
                  · refine lv_iload_n zC.1 zC.2.1 dX5_tells_73 rfl (lv_at hl 2 rfl) ?_
                    refine zr_iconst zC dX5_tells_74 ?_
                    refine zr_icmp_ne (tgt := 92) zC dX5_tells_75 (by decide) (by omega) (fun c75 => ?_) (fun c75 => ?_)
                    · refine lv_iload_n zC.1 zC.2.1 dX5_tells_92 rfl (lv_at hl 2 rfl) ?_
                      refine zr_bipush zC dX5_tells_93 (by decide +kernel) ?_
                      refine zr_icmp_ne (tgt := 121) zC dX5_tells_95 (by decide) (by omega) (fun c95 => ?_) (fun c95 => ?_)
                      · refine zr_iconst zC dX5_tells_121 ?_
                        refine zr_iadd zC dX5_tells_122 ?_
                        refine lv_istore_n (lv' := [(2, .int (zI (u + 0))), (4, .int (zI 1)), (0, .ref (aM Γ)), (1, .int (zI w)), (3, .int (zI q))]) zC.1 zC.2.1 dX5_tells_123 rfl hl (by decide) rfl (fun ls hl => ?_)
                        refine zr_iinc (lv' := [(3, .int (zI (q + 1))), (2, .int (zI (u + 0))), (4, .int (zI 1)), (0, .ref (aM Γ)), (1, .int (zI w))]) zC dX5_tells_124 hl (k := 4) rfl (by decide) rfl (fun ls hl => ?_)
                        refine lv_goto (tgt := 4) zC.1 zC.2.1 dX5_tells_127 (by decide) ?_
                        exact ih4 (u + 0) (q + 1) H locs ls (by first | assumption | omega) (by rw [ctI_s hq.1, ← hu]; unfold zB; split <;> omega) (by omega) hG (lv_sub hl [3, 4, 1, 0] rfl)
                      · refine lv_iload_n zC.1 zC.2.1 dX5_tells_98 rfl (lv_at hl 4 rfl) ?_
                        refine zr_iconst zC dX5_tells_99 ?_
                        refine zr_icmp_ge (tgt := 121) zC dX5_tells_100 (by decide) (by omega) (fun c100 => ?_) (fun c100 => ?_)
                        · refine zr_iconst zC dX5_tells_121 ?_
                          refine zr_iadd zC dX5_tells_122 ?_
                          refine lv_istore_n (lv' := [(2, .int (zI (u + 0))), (4, .int (zI 1)), (0, .ref (aM Γ)), (1, .int (zI w)), (3, .int (zI q))]) zC.1 zC.2.1 dX5_tells_123 rfl hl (by decide) rfl (fun ls hl => ?_)
                          refine zr_iinc (lv' := [(3, .int (zI (q + 1))), (2, .int (zI (u + 0))), (4, .int (zI 1)), (0, .ref (aM Γ)), (1, .int (zI w))]) zC dX5_tells_124 hl (k := 4) rfl (by decide) rfl (fun ls hl => ?_)
                          refine lv_goto (tgt := 4) zC.1 zC.2.1 dX5_tells_127 (by decide) ?_
                          exact ih4 (u + 0) (q + 1) H locs ls (by first | assumption | omega) (by rw [ctI_s hq.1, ← hu]; unfold zB; split <;> omega) (by omega) hG (lv_sub hl [3, 4, 1, 0] rfl)
                        · refine lv_aload_n zC.1 zC.2.1 dX5_tells_103 rfl (lv_at hl 1 rfl) ?_
                          refine gf_M_kept zC hG wl_X5_47 dX5_tells_104 ?_
                          refine zr_bipush zC dX5_tells_107 (by decide +kernel) ?_
                          refine lv_iload_n zC.1 zC.2.1 dX5_tells_109 rfl (lv_at hl 4 rfl) ?_
                          refine zr_imul zC dX5_tells_110 ?_
                          refine gi_m_kept (v := kpM (τ 7 q 3) (τ 7 q 4)) zC hG (by omega) (hR.2.2.2.2.2.2.2 q (by omega) (by omega)).1 dX5_tells_111 ?_
                          have k111 := kpM_s (τ 7 q 3) (τ 7 q 4)
                          have k111b := hI.2.2.2.2.2.2.2 q (by omega) (by omega)
                          obtain ⟨k111c, k111d, -⟩ := k111b
                          refine zr_bipush zC dX5_tells_112 (by decide +kernel) ?_
                          refine zr_icmp_eq (tgt := 121) zC dX5_tells_114 (by decide) (by omega) (fun c114 => ?_) (fun c114 => ?_)
                          · refine zr_iconst zC dX5_tells_121 ?_
                            refine zr_iadd zC dX5_tells_122 ?_
                            refine lv_istore_n (lv' := [(2, .int (zI (u + 0))), (4, .int (zI 1)), (0, .ref (aM Γ)), (1, .int (zI w)), (3, .int (zI q))]) zC.1 zC.2.1 dX5_tells_123 rfl hl (by decide) rfl (fun ls hl => ?_)
                            refine zr_iinc (lv' := [(3, .int (zI (q + 1))), (2, .int (zI (u + 0))), (4, .int (zI 1)), (0, .ref (aM Γ)), (1, .int (zI w))]) zC dX5_tells_124 hl (k := 4) rfl (by decide) rfl (fun ls hl => ?_)
                            refine lv_goto (tgt := 4) zC.1 zC.2.1 dX5_tells_127 (by decide) ?_
                            exact ih4 (u + 0) (q + 1) H locs ls (by first | assumption | omega) (by rw [ctI_s hq.1, ← hu]; unfold zB; split <;> omega) (by omega) hG (lv_sub hl [3, 4, 1, 0] rfl)
                          · refine zr_iconst zC dX5_tells_117 ?_
                            refine lv_goto (tgt := 122) zC.1 zC.2.1 dX5_tells_118 (by decide) ?_
                            refine zr_iadd zC dX5_tells_122 ?_
                            refine lv_istore_n (lv' := [(2, .int (zI (u + 1))), (4, .int (zI 1)), (0, .ref (aM Γ)), (1, .int (zI w)), (3, .int (zI q))]) zC.1 zC.2.1 dX5_tells_123 rfl hl (by decide) rfl (fun ls hl => ?_)
                            refine zr_iinc (lv' := [(3, .int (zI (q + 1))), (2, .int (zI (u + 1))), (4, .int (zI 1)), (0, .ref (aM Γ)), (1, .int (zI w))]) zC dX5_tells_124 hl (k := 4) rfl (by decide) rfl (fun ls hl => ?_)
                            refine lv_goto (tgt := 4) zC.1 zC.2.1 dX5_tells_127 (by decide) ?_
                            exact ih4 (u + 1) (q + 1) H locs ls (by first | assumption | omega) (by rw [ctI_s hq.1, ← hu]; unfold zB; split <;> omega) (by omega) hG (lv_sub hl [3, 4, 1, 0] rfl)
                    · refine lv_iload_n zC.1 zC.2.1 dX5_tells_78 rfl (lv_at hl 4 rfl) ?_
                      refine zr_iconst zC dX5_tells_79 ?_
                      refine zr_icmp_ge (tgt := 92) zC dX5_tells_80 (by decide) (by omega) (fun c80 => ?_) (fun c80 => ?_)
                      · refine lv_iload_n zC.1 zC.2.1 dX5_tells_92 rfl (lv_at hl 2 rfl) ?_
                        refine zr_bipush zC dX5_tells_93 (by decide +kernel) ?_
                        refine zr_icmp_ne (tgt := 121) zC dX5_tells_95 (by decide) (by omega) (fun c95 => ?_) (fun c95 => ?_)
                        · refine zr_iconst zC dX5_tells_121 ?_
                          refine zr_iadd zC dX5_tells_122 ?_
                          refine lv_istore_n (lv' := [(2, .int (zI (u + 0))), (4, .int (zI 1)), (0, .ref (aM Γ)), (1, .int (zI w)), (3, .int (zI q))]) zC.1 zC.2.1 dX5_tells_123 rfl hl (by decide) rfl (fun ls hl => ?_)
                          refine zr_iinc (lv' := [(3, .int (zI (q + 1))), (2, .int (zI (u + 0))), (4, .int (zI 1)), (0, .ref (aM Γ)), (1, .int (zI w))]) zC dX5_tells_124 hl (k := 4) rfl (by decide) rfl (fun ls hl => ?_)
                          refine lv_goto (tgt := 4) zC.1 zC.2.1 dX5_tells_127 (by decide) ?_
                          exact ih4 (u + 0) (q + 1) H locs ls (by first | assumption | omega) (by rw [ctI_s hq.1, ← hu]; unfold zB; split <;> omega) (by omega) hG (lv_sub hl [3, 4, 1, 0] rfl)
                        · refine lv_iload_n zC.1 zC.2.1 dX5_tells_98 rfl (lv_at hl 4 rfl) ?_
                          refine zr_iconst zC dX5_tells_99 ?_
                          refine zr_icmp_ge (tgt := 121) zC dX5_tells_100 (by decide) (by omega) (fun c100 => ?_) (fun c100 => ?_)
                          · refine zr_iconst zC dX5_tells_121 ?_
                            refine zr_iadd zC dX5_tells_122 ?_
                            refine lv_istore_n (lv' := [(2, .int (zI (u + 0))), (4, .int (zI 1)), (0, .ref (aM Γ)), (1, .int (zI w)), (3, .int (zI q))]) zC.1 zC.2.1 dX5_tells_123 rfl hl (by decide) rfl (fun ls hl => ?_)
                            refine zr_iinc (lv' := [(3, .int (zI (q + 1))), (2, .int (zI (u + 0))), (4, .int (zI 1)), (0, .ref (aM Γ)), (1, .int (zI w))]) zC dX5_tells_124 hl (k := 4) rfl (by decide) rfl (fun ls hl => ?_)
                            refine lv_goto (tgt := 4) zC.1 zC.2.1 dX5_tells_127 (by decide) ?_
                            exact ih4 (u + 0) (q + 1) H locs ls (by first | assumption | omega) (by rw [ctI_s hq.1, ← hu]; unfold zB; split <;> omega) (by omega) hG (lv_sub hl [3, 4, 1, 0] rfl)
                          · refine lv_aload_n zC.1 zC.2.1 dX5_tells_103 rfl (lv_at hl 1 rfl) ?_
                            refine gf_M_kept zC hG wl_X5_47 dX5_tells_104 ?_
                            refine zr_bipush zC dX5_tells_107 (by decide +kernel) ?_
                            refine lv_iload_n zC.1 zC.2.1 dX5_tells_109 rfl (lv_at hl 4 rfl) ?_
                            refine zr_imul zC dX5_tells_110 ?_
                            refine gi_m_kept (v := kpM (τ 7 q 3) (τ 7 q 4)) zC hG (by omega) (hR.2.2.2.2.2.2.2 q (by omega) (by omega)).1 dX5_tells_111 ?_
                            have k111 := kpM_s (τ 7 q 3) (τ 7 q 4)
                            have k111b := hI.2.2.2.2.2.2.2 q (by omega) (by omega)
                            obtain ⟨k111c, k111d, -⟩ := k111b
                            refine zr_bipush zC dX5_tells_112 (by decide +kernel) ?_
                            refine zr_icmp_eq (tgt := 121) zC dX5_tells_114 (by decide) (by omega) (fun c114 => ?_) (fun c114 => ?_)
                            · refine zr_iconst zC dX5_tells_121 ?_
                              refine zr_iadd zC dX5_tells_122 ?_
                              refine lv_istore_n (lv' := [(2, .int (zI (u + 0))), (4, .int (zI 1)), (0, .ref (aM Γ)), (1, .int (zI w)), (3, .int (zI q))]) zC.1 zC.2.1 dX5_tells_123 rfl hl (by decide) rfl (fun ls hl => ?_)
                              refine zr_iinc (lv' := [(3, .int (zI (q + 1))), (2, .int (zI (u + 0))), (4, .int (zI 1)), (0, .ref (aM Γ)), (1, .int (zI w))]) zC dX5_tells_124 hl (k := 4) rfl (by decide) rfl (fun ls hl => ?_)
                              refine lv_goto (tgt := 4) zC.1 zC.2.1 dX5_tells_127 (by decide) ?_
                              exact ih4 (u + 0) (q + 1) H locs ls (by first | assumption | omega) (by rw [ctI_s hq.1, ← hu]; unfold zB; split <;> omega) (by omega) hG (lv_sub hl [3, 4, 1, 0] rfl)
                            · refine zr_iconst zC dX5_tells_117 ?_
                              refine lv_goto (tgt := 122) zC.1 zC.2.1 dX5_tells_118 (by decide) ?_
                              refine zr_iadd zC dX5_tells_122 ?_
                              refine lv_istore_n (lv' := [(2, .int (zI (u + 1))), (4, .int (zI 1)), (0, .ref (aM Γ)), (1, .int (zI w)), (3, .int (zI q))]) zC.1 zC.2.1 dX5_tells_123 rfl hl (by decide) rfl (fun ls hl => ?_)
                              refine zr_iinc (lv' := [(3, .int (zI (q + 1))), (2, .int (zI (u + 1))), (4, .int (zI 1)), (0, .ref (aM Γ)), (1, .int (zI w))]) zC dX5_tells_124 hl (k := 4) rfl (by decide) rfl (fun ls hl => ?_)
                              refine lv_goto (tgt := 4) zC.1 zC.2.1 dX5_tells_127 (by decide) ?_
                              exact ih4 (u + 1) (q + 1) H locs ls (by first | assumption | omega) (by rw [ctI_s hq.1, ← hu]; unfold zB; split <;> omega) (by omega) hG (lv_sub hl [3, 4, 1, 0] rfl)
                      · refine lv_aload_n zC.1 zC.2.1 dX5_tells_83 rfl (lv_at hl 1 rfl) ?_
                        refine gf_M_lengths zC hG wl_X5_26 dX5_tells_84 ?_
                        refine lv_iload_n zC.1 zC.2.1 dX5_tells_87 rfl (lv_at hl 4 rfl) ?_
                        refine gi_m_lengths (v := szM (τ 4 q 1)) zC hG (by omega) (hR.2.2.2.2.1 q (by omega) (by omega)) dX5_tells_88 ?_
                        have f88 := hI.2.2.2.2.1 q (by omega) (by omega)
                        have f88s := szM_s (τ 4 q 1)
                        refine zr_if_ge (tgt := 117) zC dX5_tells_89 (by decide) (by omega) (fun c89 => ?_) (fun c89 => ?_)
                        · refine zr_iconst zC dX5_tells_117 ?_
                          refine lv_goto (tgt := 122) zC.1 zC.2.1 dX5_tells_118 (by decide) ?_
                          refine zr_iadd zC dX5_tells_122 ?_
                          refine lv_istore_n (lv' := [(2, .int (zI (u + 1))), (4, .int (zI 1)), (0, .ref (aM Γ)), (1, .int (zI w)), (3, .int (zI q))]) zC.1 zC.2.1 dX5_tells_123 rfl hl (by decide) rfl (fun ls hl => ?_)
                          refine zr_iinc (lv' := [(3, .int (zI (q + 1))), (2, .int (zI (u + 1))), (4, .int (zI 1)), (0, .ref (aM Γ)), (1, .int (zI w))]) zC dX5_tells_124 hl (k := 4) rfl (by decide) rfl (fun ls hl => ?_)
                          refine lv_goto (tgt := 4) zC.1 zC.2.1 dX5_tells_127 (by decide) ?_
                          exact ih4 (u + 1) (q + 1) H locs ls (by first | assumption | omega) (by rw [ctI_s hq.1, ← hu]; unfold zB; split <;> omega) (by omega) hG (lv_sub hl [3, 4, 1, 0] rfl)
                        · refine lv_iload_n zC.1 zC.2.1 dX5_tells_92 rfl (lv_at hl 2 rfl) ?_
                          refine zr_bipush zC dX5_tells_93 (by decide +kernel) ?_
                          refine zr_icmp_ne (tgt := 121) zC dX5_tells_95 (by decide) (by omega) (fun c95 => ?_) (fun c95 => ?_)
                          · refine zr_iconst zC dX5_tells_121 ?_
                            refine zr_iadd zC dX5_tells_122 ?_
                            refine lv_istore_n (lv' := [(2, .int (zI (u + 0))), (4, .int (zI 1)), (0, .ref (aM Γ)), (1, .int (zI w)), (3, .int (zI q))]) zC.1 zC.2.1 dX5_tells_123 rfl hl (by decide) rfl (fun ls hl => ?_)
                            refine zr_iinc (lv' := [(3, .int (zI (q + 1))), (2, .int (zI (u + 0))), (4, .int (zI 1)), (0, .ref (aM Γ)), (1, .int (zI w))]) zC dX5_tells_124 hl (k := 4) rfl (by decide) rfl (fun ls hl => ?_)
                            refine lv_goto (tgt := 4) zC.1 zC.2.1 dX5_tells_127 (by decide) ?_
                            exact ih4 (u + 0) (q + 1) H locs ls (by first | assumption | omega) (by rw [ctI_s hq.1, ← hu]; unfold zB; split <;> omega) (by omega) hG (lv_sub hl [3, 4, 1, 0] rfl)
                          · refine lv_iload_n zC.1 zC.2.1 dX5_tells_98 rfl (lv_at hl 4 rfl) ?_
                            refine zr_iconst zC dX5_tells_99 ?_
                            refine zr_icmp_ge (tgt := 121) zC dX5_tells_100 (by decide) (by omega) (fun c100 => ?_) (fun c100 => ?_)
                            · refine zr_iconst zC dX5_tells_121 ?_
                              refine zr_iadd zC dX5_tells_122 ?_
                              refine lv_istore_n (lv' := [(2, .int (zI (u + 0))), (4, .int (zI 1)), (0, .ref (aM Γ)), (1, .int (zI w)), (3, .int (zI q))]) zC.1 zC.2.1 dX5_tells_123 rfl hl (by decide) rfl (fun ls hl => ?_)
                              refine zr_iinc (lv' := [(3, .int (zI (q + 1))), (2, .int (zI (u + 0))), (4, .int (zI 1)), (0, .ref (aM Γ)), (1, .int (zI w))]) zC dX5_tells_124 hl (k := 4) rfl (by decide) rfl (fun ls hl => ?_)
                              refine lv_goto (tgt := 4) zC.1 zC.2.1 dX5_tells_127 (by decide) ?_
                              exact ih4 (u + 0) (q + 1) H locs ls (by first | assumption | omega) (by rw [ctI_s hq.1, ← hu]; unfold zB; split <;> omega) (by omega) hG (lv_sub hl [3, 4, 1, 0] rfl)
                            · refine lv_aload_n zC.1 zC.2.1 dX5_tells_103 rfl (lv_at hl 1 rfl) ?_
                              refine gf_M_kept zC hG wl_X5_47 dX5_tells_104 ?_
                              refine zr_bipush zC dX5_tells_107 (by decide +kernel) ?_
                              refine lv_iload_n zC.1 zC.2.1 dX5_tells_109 rfl (lv_at hl 4 rfl) ?_
                              refine zr_imul zC dX5_tells_110 ?_
                              refine gi_m_kept (v := kpM (τ 7 q 3) (τ 7 q 4)) zC hG (by omega) (hR.2.2.2.2.2.2.2 q (by omega) (by omega)).1 dX5_tells_111 ?_
                              have k111 := kpM_s (τ 7 q 3) (τ 7 q 4)
                              have k111b := hI.2.2.2.2.2.2.2 q (by omega) (by omega)
                              obtain ⟨k111c, k111d, -⟩ := k111b
                              refine zr_bipush zC dX5_tells_112 (by decide +kernel) ?_
                              refine zr_icmp_eq (tgt := 121) zC dX5_tells_114 (by decide) (by omega) (fun c114 => ?_) (fun c114 => ?_)
                              · refine zr_iconst zC dX5_tells_121 ?_
                                refine zr_iadd zC dX5_tells_122 ?_
                                refine lv_istore_n (lv' := [(2, .int (zI (u + 0))), (4, .int (zI 1)), (0, .ref (aM Γ)), (1, .int (zI w)), (3, .int (zI q))]) zC.1 zC.2.1 dX5_tells_123 rfl hl (by decide) rfl (fun ls hl => ?_)
                                refine zr_iinc (lv' := [(3, .int (zI (q + 1))), (2, .int (zI (u + 0))), (4, .int (zI 1)), (0, .ref (aM Γ)), (1, .int (zI w))]) zC dX5_tells_124 hl (k := 4) rfl (by decide) rfl (fun ls hl => ?_)
                                refine lv_goto (tgt := 4) zC.1 zC.2.1 dX5_tells_127 (by decide) ?_
                                exact ih4 (u + 0) (q + 1) H locs ls (by first | assumption | omega) (by rw [ctI_s hq.1, ← hu]; unfold zB; split <;> omega) (by omega) hG (lv_sub hl [3, 4, 1, 0] rfl)
                              · refine zr_iconst zC dX5_tells_117 ?_
                                refine lv_goto (tgt := 122) zC.1 zC.2.1 dX5_tells_118 (by decide) ?_
                                refine zr_iadd zC dX5_tells_122 ?_
                                refine lv_istore_n (lv' := [(2, .int (zI (u + 1))), (4, .int (zI 1)), (0, .ref (aM Γ)), (1, .int (zI w)), (3, .int (zI q))]) zC.1 zC.2.1 dX5_tells_123 rfl hl (by decide) rfl (fun ls hl => ?_)
                                refine zr_iinc (lv' := [(3, .int (zI (q + 1))), (2, .int (zI (u + 1))), (4, .int (zI 1)), (0, .ref (aM Γ)), (1, .int (zI w))]) zC dX5_tells_124 hl (k := 4) rfl (by decide) rfl (fun ls hl => ?_)
                                refine lv_goto (tgt := 4) zC.1 zC.2.1 dX5_tells_127 (by decide) ?_
                                exact ih4 (u + 1) (q + 1) H locs ls (by first | assumption | omega) (by rw [ctI_s hq.1, ← hu]; unfold zB; split <;> omega) (by omega) hG (lv_sub hl [3, 4, 1, 0] rfl)
            · refine lv_iload_n zC.1 zC.2.1 dX5_tells_32 rfl (lv_at hl 1 rfl) ?_
              refine zr_iconst zC dX5_tells_33 ?_
              refine zr_icmp_ne (tgt := 50) zC dX5_tells_34 (by decide) (by omega) (fun c34 => ?_) (fun c34 => ?_)
              · refine zr_iconst zC dX5_tells_50 ?_
                refine lv_istore (lv' := [(4, .int (zI 0)), (0, .ref (aM Γ)), (1, .int (zI w)), (2, .int (zI u)), (3, .int (zI q))]) zC.1 zC.2.1 dX5_tells_51 hl (by decide) rfl (fun ls hl => ?_)
                refine lv_iload_n zC.1 zC.2.1 dX5_tells_53 rfl (lv_at hl 3 rfl) ?_
                refine lv_iload zC.1 zC.2.1 dX5_tells_54 (lv_at hl 0 rfl) ?_
                refine zr_if_ne (tgt := 117) zC dX5_tells_56 (by decide) (by omega) (fun c56 => ?_) (fun c56 => ?_)
                · refine zr_iconst zC dX5_tells_117 ?_
                  refine lv_goto (tgt := 122) zC.1 zC.2.1 dX5_tells_118 (by decide) ?_
                  refine zr_iadd zC dX5_tells_122 ?_
                  refine lv_istore_n (lv' := [(2, .int (zI (u + 1))), (4, .int (zI 0)), (0, .ref (aM Γ)), (1, .int (zI w)), (3, .int (zI q))]) zC.1 zC.2.1 dX5_tells_123 rfl hl (by decide) rfl (fun ls hl => ?_)
                  refine zr_iinc (lv' := [(3, .int (zI (q + 1))), (2, .int (zI (u + 1))), (4, .int (zI 0)), (0, .ref (aM Γ)), (1, .int (zI w))]) zC dX5_tells_124 hl (k := 4) rfl (by decide) rfl (fun ls hl => ?_)
                  refine lv_goto (tgt := 4) zC.1 zC.2.1 dX5_tells_127 (by decide) ?_
                  exact ih4 (u + 1) (q + 1) H locs ls (by first | assumption | omega) (by rw [ctI_s hq.1, ← hu]; unfold zB; split <;> omega) (by omega) hG (lv_sub hl [3, 4, 1, 0] rfl)
                · refine lv_iload_n zC.1 zC.2.1 dX5_tells_59 rfl (lv_at hl 2 rfl) ?_
                  refine zr_iconst zC dX5_tells_60 ?_
                  refine zr_icmp_ne (tgt := 73) zC dX5_tells_61 (by decide) (by omega) (fun c61 => ?_) (fun c61 => ?_)
                  · refine lv_iload_n zC.1 zC.2.1 dX5_tells_73 rfl (lv_at hl 2 rfl) ?_
                    refine zr_iconst zC dX5_tells_74 ?_
                    refine zr_icmp_ne (tgt := 92) zC dX5_tells_75 (by decide) (by omega) (fun c75 => ?_) (fun c75 => ?_)
                    · refine lv_iload_n zC.1 zC.2.1 dX5_tells_92 rfl (lv_at hl 2 rfl) ?_
                      refine zr_bipush zC dX5_tells_93 (by decide +kernel) ?_
                      refine zr_icmp_ne (tgt := 121) zC dX5_tells_95 (by decide) (by omega) (fun c95 => ?_) (fun c95 => ?_)
                      · refine zr_iconst zC dX5_tells_121 ?_
                        refine zr_iadd zC dX5_tells_122 ?_
                        refine lv_istore_n (lv' := [(2, .int (zI (u + 0))), (4, .int (zI 0)), (0, .ref (aM Γ)), (1, .int (zI w)), (3, .int (zI q))]) zC.1 zC.2.1 dX5_tells_123 rfl hl (by decide) rfl (fun ls hl => ?_)
                        refine zr_iinc (lv' := [(3, .int (zI (q + 1))), (2, .int (zI (u + 0))), (4, .int (zI 0)), (0, .ref (aM Γ)), (1, .int (zI w))]) zC dX5_tells_124 hl (k := 4) rfl (by decide) rfl (fun ls hl => ?_)
                        refine lv_goto (tgt := 4) zC.1 zC.2.1 dX5_tells_127 (by decide) ?_
                        exact ih4 (u + 0) (q + 1) H locs ls (by first | assumption | omega) (by rw [ctI_s hq.1, ← hu]; unfold zB; split <;> omega) (by omega) hG (lv_sub hl [3, 4, 1, 0] rfl)
                      · refine lv_iload_n zC.1 zC.2.1 dX5_tells_98 rfl (lv_at hl 4 rfl) ?_
                        refine zr_iconst zC dX5_tells_99 ?_
                        refine zr_icmp_ge (tgt := 121) zC dX5_tells_100 (by decide) (by omega) (fun c100 => ?_) (fun c100 => ?_)
                        · refine zr_iconst zC dX5_tells_121 ?_
                          refine zr_iadd zC dX5_tells_122 ?_
                          refine lv_istore_n (lv' := [(2, .int (zI (u + 0))), (4, .int (zI 0)), (0, .ref (aM Γ)), (1, .int (zI w)), (3, .int (zI q))]) zC.1 zC.2.1 dX5_tells_123 rfl hl (by decide) rfl (fun ls hl => ?_)
                          refine zr_iinc (lv' := [(3, .int (zI (q + 1))), (2, .int (zI (u + 0))), (4, .int (zI 0)), (0, .ref (aM Γ)), (1, .int (zI w))]) zC dX5_tells_124 hl (k := 4) rfl (by decide) rfl (fun ls hl => ?_)
                          refine lv_goto (tgt := 4) zC.1 zC.2.1 dX5_tells_127 (by decide) ?_
                          exact ih4 (u + 0) (q + 1) H locs ls (by first | assumption | omega) (by rw [ctI_s hq.1, ← hu]; unfold zB; split <;> omega) (by omega) hG (lv_sub hl [3, 4, 1, 0] rfl)
                        · refine lv_aload_n zC.1 zC.2.1 dX5_tells_103 rfl (lv_at hl 1 rfl) ?_
                          refine gf_M_kept zC hG wl_X5_47 dX5_tells_104 ?_
                          refine zr_bipush zC dX5_tells_107 (by decide +kernel) ?_
                          refine lv_iload_n zC.1 zC.2.1 dX5_tells_109 rfl (lv_at hl 4 rfl) ?_
                          refine zr_imul zC dX5_tells_110 ?_
                          refine gi_m_kept (v := kpM (τ 7 q 3) (τ 7 q 4)) zC hG (by omega) (hR.2.2.2.2.2.2.2 q (by omega) (by omega)).1 dX5_tells_111 ?_
                          have k111 := kpM_s (τ 7 q 3) (τ 7 q 4)
                          have k111b := hI.2.2.2.2.2.2.2 q (by omega) (by omega)
                          obtain ⟨k111c, k111d, -⟩ := k111b
                          refine zr_bipush zC dX5_tells_112 (by decide +kernel) ?_
                          refine zr_icmp_eq (tgt := 121) zC dX5_tells_114 (by decide) (by omega) (fun c114 => ?_) (fun c114 => ?_)
                          · refine zr_iconst zC dX5_tells_121 ?_
                            refine zr_iadd zC dX5_tells_122 ?_
                            refine lv_istore_n (lv' := [(2, .int (zI (u + 0))), (4, .int (zI 0)), (0, .ref (aM Γ)), (1, .int (zI w)), (3, .int (zI q))]) zC.1 zC.2.1 dX5_tells_123 rfl hl (by decide) rfl (fun ls hl => ?_)
                            refine zr_iinc (lv' := [(3, .int (zI (q + 1))), (2, .int (zI (u + 0))), (4, .int (zI 0)), (0, .ref (aM Γ)), (1, .int (zI w))]) zC dX5_tells_124 hl (k := 4) rfl (by decide) rfl (fun ls hl => ?_)
                            refine lv_goto (tgt := 4) zC.1 zC.2.1 dX5_tells_127 (by decide) ?_
                            exact ih4 (u + 0) (q + 1) H locs ls (by first | assumption | omega) (by rw [ctI_s hq.1, ← hu]; unfold zB; split <;> omega) (by omega) hG (lv_sub hl [3, 4, 1, 0] rfl)
                          · refine zr_iconst zC dX5_tells_117 ?_
                            refine lv_goto (tgt := 122) zC.1 zC.2.1 dX5_tells_118 (by decide) ?_
                            refine zr_iadd zC dX5_tells_122 ?_
                            refine lv_istore_n (lv' := [(2, .int (zI (u + 1))), (4, .int (zI 0)), (0, .ref (aM Γ)), (1, .int (zI w)), (3, .int (zI q))]) zC.1 zC.2.1 dX5_tells_123 rfl hl (by decide) rfl (fun ls hl => ?_)
                            refine zr_iinc (lv' := [(3, .int (zI (q + 1))), (2, .int (zI (u + 1))), (4, .int (zI 0)), (0, .ref (aM Γ)), (1, .int (zI w))]) zC dX5_tells_124 hl (k := 4) rfl (by decide) rfl (fun ls hl => ?_)
                            refine lv_goto (tgt := 4) zC.1 zC.2.1 dX5_tells_127 (by decide) ?_
                            exact ih4 (u + 1) (q + 1) H locs ls (by first | assumption | omega) (by rw [ctI_s hq.1, ← hu]; unfold zB; split <;> omega) (by omega) hG (lv_sub hl [3, 4, 1, 0] rfl)
                    · refine lv_iload_n zC.1 zC.2.1 dX5_tells_78 rfl (lv_at hl 4 rfl) ?_
                      refine zr_iconst zC dX5_tells_79 ?_
                      refine zr_icmp_ge (tgt := 92) zC dX5_tells_80 (by decide) (by omega) (fun c80 => ?_) (fun c80 => ?_)
                      · refine lv_iload_n zC.1 zC.2.1 dX5_tells_92 rfl (lv_at hl 2 rfl) ?_
                        refine zr_bipush zC dX5_tells_93 (by decide +kernel) ?_
                        refine zr_icmp_ne (tgt := 121) zC dX5_tells_95 (by decide) (by omega) (fun c95 => ?_) (fun c95 => ?_)
                        · refine zr_iconst zC dX5_tells_121 ?_
                          refine zr_iadd zC dX5_tells_122 ?_
                          refine lv_istore_n (lv' := [(2, .int (zI (u + 0))), (4, .int (zI 0)), (0, .ref (aM Γ)), (1, .int (zI w)), (3, .int (zI q))]) zC.1 zC.2.1 dX5_tells_123 rfl hl (by decide) rfl (fun ls hl => ?_)
                          refine zr_iinc (lv' := [(3, .int (zI (q + 1))), (2, .int (zI (u + 0))), (4, .int (zI 0)), (0, .ref (aM Γ)), (1, .int (zI w))]) zC dX5_tells_124 hl (k := 4) rfl (by decide) rfl (fun ls hl => ?_)
                          refine lv_goto (tgt := 4) zC.1 zC.2.1 dX5_tells_127 (by decide) ?_
                          exact ih4 (u + 0) (q + 1) H locs ls (by first | assumption | omega) (by rw [ctI_s hq.1, ← hu]; unfold zB; split <;> omega) (by omega) hG (lv_sub hl [3, 4, 1, 0] rfl)
                        · refine lv_iload_n zC.1 zC.2.1 dX5_tells_98 rfl (lv_at hl 4 rfl) ?_
                          refine zr_iconst zC dX5_tells_99 ?_
                          refine zr_icmp_ge (tgt := 121) zC dX5_tells_100 (by decide) (by omega) (fun c100 => ?_) (fun c100 => ?_)
                          · refine zr_iconst zC dX5_tells_121 ?_
                            refine zr_iadd zC dX5_tells_122 ?_
                            refine lv_istore_n (lv' := [(2, .int (zI (u + 0))), (4, .int (zI 0)), (0, .ref (aM Γ)), (1, .int (zI w)), (3, .int (zI q))]) zC.1 zC.2.1 dX5_tells_123 rfl hl (by decide) rfl (fun ls hl => ?_)
                            refine zr_iinc (lv' := [(3, .int (zI (q + 1))), (2, .int (zI (u + 0))), (4, .int (zI 0)), (0, .ref (aM Γ)), (1, .int (zI w))]) zC dX5_tells_124 hl (k := 4) rfl (by decide) rfl (fun ls hl => ?_)
                            refine lv_goto (tgt := 4) zC.1 zC.2.1 dX5_tells_127 (by decide) ?_
                            exact ih4 (u + 0) (q + 1) H locs ls (by first | assumption | omega) (by rw [ctI_s hq.1, ← hu]; unfold zB; split <;> omega) (by omega) hG (lv_sub hl [3, 4, 1, 0] rfl)
                          · refine lv_aload_n zC.1 zC.2.1 dX5_tells_103 rfl (lv_at hl 1 rfl) ?_
                            refine gf_M_kept zC hG wl_X5_47 dX5_tells_104 ?_
                            refine zr_bipush zC dX5_tells_107 (by decide +kernel) ?_
                            refine lv_iload_n zC.1 zC.2.1 dX5_tells_109 rfl (lv_at hl 4 rfl) ?_
                            refine zr_imul zC dX5_tells_110 ?_
                            refine gi_m_kept (v := kpM (τ 7 q 3) (τ 7 q 4)) zC hG (by omega) (hR.2.2.2.2.2.2.2 q (by omega) (by omega)).1 dX5_tells_111 ?_
                            have k111 := kpM_s (τ 7 q 3) (τ 7 q 4)
                            have k111b := hI.2.2.2.2.2.2.2 q (by omega) (by omega)
                            obtain ⟨k111c, k111d, -⟩ := k111b
                            refine zr_bipush zC dX5_tells_112 (by decide +kernel) ?_
                            refine zr_icmp_eq (tgt := 121) zC dX5_tells_114 (by decide) (by omega) (fun c114 => ?_) (fun c114 => ?_)
                            · refine zr_iconst zC dX5_tells_121 ?_
                              refine zr_iadd zC dX5_tells_122 ?_
                              refine lv_istore_n (lv' := [(2, .int (zI (u + 0))), (4, .int (zI 0)), (0, .ref (aM Γ)), (1, .int (zI w)), (3, .int (zI q))]) zC.1 zC.2.1 dX5_tells_123 rfl hl (by decide) rfl (fun ls hl => ?_)
                              refine zr_iinc (lv' := [(3, .int (zI (q + 1))), (2, .int (zI (u + 0))), (4, .int (zI 0)), (0, .ref (aM Γ)), (1, .int (zI w))]) zC dX5_tells_124 hl (k := 4) rfl (by decide) rfl (fun ls hl => ?_)
                              refine lv_goto (tgt := 4) zC.1 zC.2.1 dX5_tells_127 (by decide) ?_
                              exact ih4 (u + 0) (q + 1) H locs ls (by first | assumption | omega) (by rw [ctI_s hq.1, ← hu]; unfold zB; split <;> omega) (by omega) hG (lv_sub hl [3, 4, 1, 0] rfl)
                            · refine zr_iconst zC dX5_tells_117 ?_
                              refine lv_goto (tgt := 122) zC.1 zC.2.1 dX5_tells_118 (by decide) ?_
                              refine zr_iadd zC dX5_tells_122 ?_
                              refine lv_istore_n (lv' := [(2, .int (zI (u + 1))), (4, .int (zI 0)), (0, .ref (aM Γ)), (1, .int (zI w)), (3, .int (zI q))]) zC.1 zC.2.1 dX5_tells_123 rfl hl (by decide) rfl (fun ls hl => ?_)
                              refine zr_iinc (lv' := [(3, .int (zI (q + 1))), (2, .int (zI (u + 1))), (4, .int (zI 0)), (0, .ref (aM Γ)), (1, .int (zI w))]) zC dX5_tells_124 hl (k := 4) rfl (by decide) rfl (fun ls hl => ?_)
                              refine lv_goto (tgt := 4) zC.1 zC.2.1 dX5_tells_127 (by decide) ?_
                              exact ih4 (u + 1) (q + 1) H locs ls (by first | assumption | omega) (by rw [ctI_s hq.1, ← hu]; unfold zB; split <;> omega) (by omega) hG (lv_sub hl [3, 4, 1, 0] rfl)
                      · refine lv_aload_n zC.1 zC.2.1 dX5_tells_83 rfl (lv_at hl 1 rfl) ?_
                        refine gf_M_lengths zC hG wl_X5_26 dX5_tells_84 ?_
                        refine lv_iload_n zC.1 zC.2.1 dX5_tells_87 rfl (lv_at hl 4 rfl) ?_
                        refine gi_m_lengths (v := szM (τ 4 q 1)) zC hG (by omega) (hR.2.2.2.2.1 q (by omega) (by omega)) dX5_tells_88 ?_
                        have f88 := hI.2.2.2.2.1 q (by omega) (by omega)
                        have f88s := szM_s (τ 4 q 1)
                        refine zr_if_ge (tgt := 117) zC dX5_tells_89 (by decide) (by omega) (fun c89 => ?_) (fun c89 => ?_)
                        · refine zr_iconst zC dX5_tells_117 ?_
                          refine lv_goto (tgt := 122) zC.1 zC.2.1 dX5_tells_118 (by decide) ?_
                          refine zr_iadd zC dX5_tells_122 ?_
                          refine lv_istore_n (lv' := [(2, .int (zI (u + 1))), (4, .int (zI 0)), (0, .ref (aM Γ)), (1, .int (zI w)), (3, .int (zI q))]) zC.1 zC.2.1 dX5_tells_123 rfl hl (by decide) rfl (fun ls hl => ?_)
                          refine zr_iinc (lv' := [(3, .int (zI (q + 1))), (2, .int (zI (u + 1))), (4, .int (zI 0)), (0, .ref (aM Γ)), (1, .int (zI w))]) zC dX5_tells_124 hl (k := 4) rfl (by decide) rfl (fun ls hl => ?_)
                          refine lv_goto (tgt := 4) zC.1 zC.2.1 dX5_tells_127 (by decide) ?_
                          exact ih4 (u + 1) (q + 1) H locs ls (by first | assumption | omega) (by rw [ctI_s hq.1, ← hu]; unfold zB; split <;> omega) (by omega) hG (lv_sub hl [3, 4, 1, 0] rfl)
                        · refine lv_iload_n zC.1 zC.2.1 dX5_tells_92 rfl (lv_at hl 2 rfl) ?_
                          refine zr_bipush zC dX5_tells_93 (by decide +kernel) ?_
                          refine zr_icmp_ne (tgt := 121) zC dX5_tells_95 (by decide) (by omega) (fun c95 => ?_) (fun c95 => ?_)
                          · refine zr_iconst zC dX5_tells_121 ?_
                            refine zr_iadd zC dX5_tells_122 ?_
                            refine lv_istore_n (lv' := [(2, .int (zI (u + 0))), (4, .int (zI 0)), (0, .ref (aM Γ)), (1, .int (zI w)), (3, .int (zI q))]) zC.1 zC.2.1 dX5_tells_123 rfl hl (by decide) rfl (fun ls hl => ?_)
                            refine zr_iinc (lv' := [(3, .int (zI (q + 1))), (2, .int (zI (u + 0))), (4, .int (zI 0)), (0, .ref (aM Γ)), (1, .int (zI w))]) zC dX5_tells_124 hl (k := 4) rfl (by decide) rfl (fun ls hl => ?_)
                            refine lv_goto (tgt := 4) zC.1 zC.2.1 dX5_tells_127 (by decide) ?_
                            exact ih4 (u + 0) (q + 1) H locs ls (by first | assumption | omega) (by rw [ctI_s hq.1, ← hu]; unfold zB; split <;> omega) (by omega) hG (lv_sub hl [3, 4, 1, 0] rfl)
                          · refine lv_iload_n zC.1 zC.2.1 dX5_tells_98 rfl (lv_at hl 4 rfl) ?_
                            refine zr_iconst zC dX5_tells_99 ?_
                            refine zr_icmp_ge (tgt := 121) zC dX5_tells_100 (by decide) (by omega) (fun c100 => ?_) (fun c100 => ?_)
                            · refine zr_iconst zC dX5_tells_121 ?_
                              refine zr_iadd zC dX5_tells_122 ?_
                              refine lv_istore_n (lv' := [(2, .int (zI (u + 0))), (4, .int (zI 0)), (0, .ref (aM Γ)), (1, .int (zI w)), (3, .int (zI q))]) zC.1 zC.2.1 dX5_tells_123 rfl hl (by decide) rfl (fun ls hl => ?_)
                              refine zr_iinc (lv' := [(3, .int (zI (q + 1))), (2, .int (zI (u + 0))), (4, .int (zI 0)), (0, .ref (aM Γ)), (1, .int (zI w))]) zC dX5_tells_124 hl (k := 4) rfl (by decide) rfl (fun ls hl => ?_)
                              refine lv_goto (tgt := 4) zC.1 zC.2.1 dX5_tells_127 (by decide) ?_
                              exact ih4 (u + 0) (q + 1) H locs ls (by first | assumption | omega) (by rw [ctI_s hq.1, ← hu]; unfold zB; split <;> omega) (by omega) hG (lv_sub hl [3, 4, 1, 0] rfl)
                            · refine lv_aload_n zC.1 zC.2.1 dX5_tells_103 rfl (lv_at hl 1 rfl) ?_
                              refine gf_M_kept zC hG wl_X5_47 dX5_tells_104 ?_
                              refine zr_bipush zC dX5_tells_107 (by decide +kernel) ?_
                              refine lv_iload_n zC.1 zC.2.1 dX5_tells_109 rfl (lv_at hl 4 rfl) ?_
                              refine zr_imul zC dX5_tells_110 ?_
                              refine gi_m_kept (v := kpM (τ 7 q 3) (τ 7 q 4)) zC hG (by omega) (hR.2.2.2.2.2.2.2 q (by omega) (by omega)).1 dX5_tells_111 ?_
                              have k111 := kpM_s (τ 7 q 3) (τ 7 q 4)
                              have k111b := hI.2.2.2.2.2.2.2 q (by omega) (by omega)
                              obtain ⟨k111c, k111d, -⟩ := k111b
                              refine zr_bipush zC dX5_tells_112 (by decide +kernel) ?_
                              refine zr_icmp_eq (tgt := 121) zC dX5_tells_114 (by decide) (by omega) (fun c114 => ?_) (fun c114 => ?_)
                              · refine zr_iconst zC dX5_tells_121 ?_
                                refine zr_iadd zC dX5_tells_122 ?_
                                refine lv_istore_n (lv' := [(2, .int (zI (u + 0))), (4, .int (zI 0)), (0, .ref (aM Γ)), (1, .int (zI w)), (3, .int (zI q))]) zC.1 zC.2.1 dX5_tells_123 rfl hl (by decide) rfl (fun ls hl => ?_)
                                refine zr_iinc (lv' := [(3, .int (zI (q + 1))), (2, .int (zI (u + 0))), (4, .int (zI 0)), (0, .ref (aM Γ)), (1, .int (zI w))]) zC dX5_tells_124 hl (k := 4) rfl (by decide) rfl (fun ls hl => ?_)
                                refine lv_goto (tgt := 4) zC.1 zC.2.1 dX5_tells_127 (by decide) ?_
                                exact ih4 (u + 0) (q + 1) H locs ls (by first | assumption | omega) (by rw [ctI_s hq.1, ← hu]; unfold zB; split <;> omega) (by omega) hG (lv_sub hl [3, 4, 1, 0] rfl)
                              · refine zr_iconst zC dX5_tells_117 ?_
                                refine lv_goto (tgt := 122) zC.1 zC.2.1 dX5_tells_118 (by decide) ?_
                                refine zr_iadd zC dX5_tells_122 ?_
                                refine lv_istore_n (lv' := [(2, .int (zI (u + 1))), (4, .int (zI 0)), (0, .ref (aM Γ)), (1, .int (zI w)), (3, .int (zI q))]) zC.1 zC.2.1 dX5_tells_123 rfl hl (by decide) rfl (fun ls hl => ?_)
                                refine zr_iinc (lv' := [(3, .int (zI (q + 1))), (2, .int (zI (u + 1))), (4, .int (zI 0)), (0, .ref (aM Γ)), (1, .int (zI w))]) zC dX5_tells_124 hl (k := 4) rfl (by decide) rfl (fun ls hl => ?_)
                                refine lv_goto (tgt := 4) zC.1 zC.2.1 dX5_tells_127 (by decide) ?_
                                exact ih4 (u + 1) (q + 1) H locs ls (by first | assumption | omega) (by rw [ctI_s hq.1, ← hu]; unfold zB; split <;> omega) (by omega) hG (lv_sub hl [3, 4, 1, 0] rfl)
                  · refine lv_aload_n zC.1 zC.2.1 dX5_tells_64 rfl (lv_at hl 1 rfl) ?_
                    refine gf_M_sizes zC hG wl_X5_17 dX5_tells_65 ?_
                    refine lv_iload_n zC.1 zC.2.1 dX5_tells_68 rfl (lv_at hl 4 rfl) ?_
                    refine gi_m_sizes (v := szM (τ 2 q 1)) zC hG (by omega) (hR.2.2.1 q (by omega) (by omega)) dX5_tells_69 ?_
                    have f69 := hI.2.2.1 q (by omega) (by omega)
                    have f69s := szM_s (τ 2 q 1)
                    refine zr_if_ge (tgt := 117) zC dX5_tells_70 (by decide) (by omega) (fun c70 => ?_) (fun c70 => ?_)
                    · refine zr_iconst zC dX5_tells_117 ?_
                      refine lv_goto (tgt := 122) zC.1 zC.2.1 dX5_tells_118 (by decide) ?_
                      refine zr_iadd zC dX5_tells_122 ?_
                      refine lv_istore_n (lv' := [(2, .int (zI (u + 1))), (4, .int (zI 0)), (0, .ref (aM Γ)), (1, .int (zI w)), (3, .int (zI q))]) zC.1 zC.2.1 dX5_tells_123 rfl hl (by decide) rfl (fun ls hl => ?_)
                      refine zr_iinc (lv' := [(3, .int (zI (q + 1))), (2, .int (zI (u + 1))), (4, .int (zI 0)), (0, .ref (aM Γ)), (1, .int (zI w))]) zC dX5_tells_124 hl (k := 4) rfl (by decide) rfl (fun ls hl => ?_)
                      refine lv_goto (tgt := 4) zC.1 zC.2.1 dX5_tells_127 (by decide) ?_
                      exact ih4 (u + 1) (q + 1) H locs ls (by first | assumption | omega) (by rw [ctI_s hq.1, ← hu]; unfold zB; split <;> omega) (by omega) hG (lv_sub hl [3, 4, 1, 0] rfl)
                    · refine lv_iload_n zC.1 zC.2.1 dX5_tells_73 rfl (lv_at hl 2 rfl) ?_
                      refine zr_iconst zC dX5_tells_74 ?_
                      refine zr_icmp_ne (tgt := 92) zC dX5_tells_75 (by decide) (by omega) (fun c75 => ?_) (fun c75 => ?_)
                      · refine lv_iload_n zC.1 zC.2.1 dX5_tells_92 rfl (lv_at hl 2 rfl) ?_
                        refine zr_bipush zC dX5_tells_93 (by decide +kernel) ?_
                        refine zr_icmp_ne (tgt := 121) zC dX5_tells_95 (by decide) (by omega) (fun c95 => ?_) (fun c95 => ?_)
                        · refine zr_iconst zC dX5_tells_121 ?_
                          refine zr_iadd zC dX5_tells_122 ?_
                          refine lv_istore_n (lv' := [(2, .int (zI (u + 0))), (4, .int (zI 0)), (0, .ref (aM Γ)), (1, .int (zI w)), (3, .int (zI q))]) zC.1 zC.2.1 dX5_tells_123 rfl hl (by decide) rfl (fun ls hl => ?_)
                          refine zr_iinc (lv' := [(3, .int (zI (q + 1))), (2, .int (zI (u + 0))), (4, .int (zI 0)), (0, .ref (aM Γ)), (1, .int (zI w))]) zC dX5_tells_124 hl (k := 4) rfl (by decide) rfl (fun ls hl => ?_)
                          refine lv_goto (tgt := 4) zC.1 zC.2.1 dX5_tells_127 (by decide) ?_
                          exact ih4 (u + 0) (q + 1) H locs ls (by first | assumption | omega) (by rw [ctI_s hq.1, ← hu]; unfold zB; split <;> omega) (by omega) hG (lv_sub hl [3, 4, 1, 0] rfl)
                        · refine lv_iload_n zC.1 zC.2.1 dX5_tells_98 rfl (lv_at hl 4 rfl) ?_
                          refine zr_iconst zC dX5_tells_99 ?_
                          refine zr_icmp_ge (tgt := 121) zC dX5_tells_100 (by decide) (by omega) (fun c100 => ?_) (fun c100 => ?_)
                          · refine zr_iconst zC dX5_tells_121 ?_
                            refine zr_iadd zC dX5_tells_122 ?_
                            refine lv_istore_n (lv' := [(2, .int (zI (u + 0))), (4, .int (zI 0)), (0, .ref (aM Γ)), (1, .int (zI w)), (3, .int (zI q))]) zC.1 zC.2.1 dX5_tells_123 rfl hl (by decide) rfl (fun ls hl => ?_)
                            refine zr_iinc (lv' := [(3, .int (zI (q + 1))), (2, .int (zI (u + 0))), (4, .int (zI 0)), (0, .ref (aM Γ)), (1, .int (zI w))]) zC dX5_tells_124 hl (k := 4) rfl (by decide) rfl (fun ls hl => ?_)
                            refine lv_goto (tgt := 4) zC.1 zC.2.1 dX5_tells_127 (by decide) ?_
                            exact ih4 (u + 0) (q + 1) H locs ls (by first | assumption | omega) (by rw [ctI_s hq.1, ← hu]; unfold zB; split <;> omega) (by omega) hG (lv_sub hl [3, 4, 1, 0] rfl)
                          · refine lv_aload_n zC.1 zC.2.1 dX5_tells_103 rfl (lv_at hl 1 rfl) ?_
                            refine gf_M_kept zC hG wl_X5_47 dX5_tells_104 ?_
                            refine zr_bipush zC dX5_tells_107 (by decide +kernel) ?_
                            refine lv_iload_n zC.1 zC.2.1 dX5_tells_109 rfl (lv_at hl 4 rfl) ?_
                            refine zr_imul zC dX5_tells_110 ?_
                            refine gi_m_kept (v := kpM (τ 7 q 3) (τ 7 q 4)) zC hG (by omega) (hR.2.2.2.2.2.2.2 q (by omega) (by omega)).1 dX5_tells_111 ?_
                            have k111 := kpM_s (τ 7 q 3) (τ 7 q 4)
                            have k111b := hI.2.2.2.2.2.2.2 q (by omega) (by omega)
                            obtain ⟨k111c, k111d, -⟩ := k111b
                            refine zr_bipush zC dX5_tells_112 (by decide +kernel) ?_
                            refine zr_icmp_eq (tgt := 121) zC dX5_tells_114 (by decide) (by omega) (fun c114 => ?_) (fun c114 => ?_)
                            · refine zr_iconst zC dX5_tells_121 ?_
                              refine zr_iadd zC dX5_tells_122 ?_
                              refine lv_istore_n (lv' := [(2, .int (zI (u + 0))), (4, .int (zI 0)), (0, .ref (aM Γ)), (1, .int (zI w)), (3, .int (zI q))]) zC.1 zC.2.1 dX5_tells_123 rfl hl (by decide) rfl (fun ls hl => ?_)
                              refine zr_iinc (lv' := [(3, .int (zI (q + 1))), (2, .int (zI (u + 0))), (4, .int (zI 0)), (0, .ref (aM Γ)), (1, .int (zI w))]) zC dX5_tells_124 hl (k := 4) rfl (by decide) rfl (fun ls hl => ?_)
                              refine lv_goto (tgt := 4) zC.1 zC.2.1 dX5_tells_127 (by decide) ?_
                              exact ih4 (u + 0) (q + 1) H locs ls (by first | assumption | omega) (by rw [ctI_s hq.1, ← hu]; unfold zB; split <;> omega) (by omega) hG (lv_sub hl [3, 4, 1, 0] rfl)
                            · refine zr_iconst zC dX5_tells_117 ?_
                              refine lv_goto (tgt := 122) zC.1 zC.2.1 dX5_tells_118 (by decide) ?_
                              refine zr_iadd zC dX5_tells_122 ?_
                              refine lv_istore_n (lv' := [(2, .int (zI (u + 1))), (4, .int (zI 0)), (0, .ref (aM Γ)), (1, .int (zI w)), (3, .int (zI q))]) zC.1 zC.2.1 dX5_tells_123 rfl hl (by decide) rfl (fun ls hl => ?_)
                              refine zr_iinc (lv' := [(3, .int (zI (q + 1))), (2, .int (zI (u + 1))), (4, .int (zI 0)), (0, .ref (aM Γ)), (1, .int (zI w))]) zC dX5_tells_124 hl (k := 4) rfl (by decide) rfl (fun ls hl => ?_)
                              refine lv_goto (tgt := 4) zC.1 zC.2.1 dX5_tells_127 (by decide) ?_
                              exact ih4 (u + 1) (q + 1) H locs ls (by first | assumption | omega) (by rw [ctI_s hq.1, ← hu]; unfold zB; split <;> omega) (by omega) hG (lv_sub hl [3, 4, 1, 0] rfl)
                      · refine lv_iload_n zC.1 zC.2.1 dX5_tells_78 rfl (lv_at hl 4 rfl) ?_
                        refine zr_iconst zC dX5_tells_79 ?_
                        refine zr_icmp_ge (tgt := 92) zC dX5_tells_80 (by decide) (by omega) (fun c80 => ?_) (fun c80 => ?_)
                        · refine lv_iload_n zC.1 zC.2.1 dX5_tells_92 rfl (lv_at hl 2 rfl) ?_
                          refine zr_bipush zC dX5_tells_93 (by decide +kernel) ?_
                          refine zr_icmp_ne (tgt := 121) zC dX5_tells_95 (by decide) (by omega) (fun c95 => ?_) (fun c95 => ?_)
                          · refine zr_iconst zC dX5_tells_121 ?_
                            refine zr_iadd zC dX5_tells_122 ?_
                            refine lv_istore_n (lv' := [(2, .int (zI (u + 0))), (4, .int (zI 0)), (0, .ref (aM Γ)), (1, .int (zI w)), (3, .int (zI q))]) zC.1 zC.2.1 dX5_tells_123 rfl hl (by decide) rfl (fun ls hl => ?_)
                            refine zr_iinc (lv' := [(3, .int (zI (q + 1))), (2, .int (zI (u + 0))), (4, .int (zI 0)), (0, .ref (aM Γ)), (1, .int (zI w))]) zC dX5_tells_124 hl (k := 4) rfl (by decide) rfl (fun ls hl => ?_)
                            refine lv_goto (tgt := 4) zC.1 zC.2.1 dX5_tells_127 (by decide) ?_
                            exact ih4 (u + 0) (q + 1) H locs ls (by first | assumption | omega) (by rw [ctI_s hq.1, ← hu]; unfold zB; split <;> omega) (by omega) hG (lv_sub hl [3, 4, 1, 0] rfl)
                          · refine lv_iload_n zC.1 zC.2.1 dX5_tells_98 rfl (lv_at hl 4 rfl) ?_
                            refine zr_iconst zC dX5_tells_99 ?_
                            refine zr_icmp_ge (tgt := 121) zC dX5_tells_100 (by decide) (by omega) (fun c100 => ?_) (fun c100 => ?_)
                            · refine zr_iconst zC dX5_tells_121 ?_
                              refine zr_iadd zC dX5_tells_122 ?_
                              refine lv_istore_n (lv' := [(2, .int (zI (u + 0))), (4, .int (zI 0)), (0, .ref (aM Γ)), (1, .int (zI w)), (3, .int (zI q))]) zC.1 zC.2.1 dX5_tells_123 rfl hl (by decide) rfl (fun ls hl => ?_)
                              refine zr_iinc (lv' := [(3, .int (zI (q + 1))), (2, .int (zI (u + 0))), (4, .int (zI 0)), (0, .ref (aM Γ)), (1, .int (zI w))]) zC dX5_tells_124 hl (k := 4) rfl (by decide) rfl (fun ls hl => ?_)
                              refine lv_goto (tgt := 4) zC.1 zC.2.1 dX5_tells_127 (by decide) ?_
                              exact ih4 (u + 0) (q + 1) H locs ls (by first | assumption | omega) (by rw [ctI_s hq.1, ← hu]; unfold zB; split <;> omega) (by omega) hG (lv_sub hl [3, 4, 1, 0] rfl)
                            · refine lv_aload_n zC.1 zC.2.1 dX5_tells_103 rfl (lv_at hl 1 rfl) ?_
                              refine gf_M_kept zC hG wl_X5_47 dX5_tells_104 ?_
                              refine zr_bipush zC dX5_tells_107 (by decide +kernel) ?_
                              refine lv_iload_n zC.1 zC.2.1 dX5_tells_109 rfl (lv_at hl 4 rfl) ?_
                              refine zr_imul zC dX5_tells_110 ?_
                              refine gi_m_kept (v := kpM (τ 7 q 3) (τ 7 q 4)) zC hG (by omega) (hR.2.2.2.2.2.2.2 q (by omega) (by omega)).1 dX5_tells_111 ?_
                              have k111 := kpM_s (τ 7 q 3) (τ 7 q 4)
                              have k111b := hI.2.2.2.2.2.2.2 q (by omega) (by omega)
                              obtain ⟨k111c, k111d, -⟩ := k111b
                              refine zr_bipush zC dX5_tells_112 (by decide +kernel) ?_
                              refine zr_icmp_eq (tgt := 121) zC dX5_tells_114 (by decide) (by omega) (fun c114 => ?_) (fun c114 => ?_)
                              · refine zr_iconst zC dX5_tells_121 ?_
                                refine zr_iadd zC dX5_tells_122 ?_
                                refine lv_istore_n (lv' := [(2, .int (zI (u + 0))), (4, .int (zI 0)), (0, .ref (aM Γ)), (1, .int (zI w)), (3, .int (zI q))]) zC.1 zC.2.1 dX5_tells_123 rfl hl (by decide) rfl (fun ls hl => ?_)
                                refine zr_iinc (lv' := [(3, .int (zI (q + 1))), (2, .int (zI (u + 0))), (4, .int (zI 0)), (0, .ref (aM Γ)), (1, .int (zI w))]) zC dX5_tells_124 hl (k := 4) rfl (by decide) rfl (fun ls hl => ?_)
                                refine lv_goto (tgt := 4) zC.1 zC.2.1 dX5_tells_127 (by decide) ?_
                                exact ih4 (u + 0) (q + 1) H locs ls (by first | assumption | omega) (by rw [ctI_s hq.1, ← hu]; unfold zB; split <;> omega) (by omega) hG (lv_sub hl [3, 4, 1, 0] rfl)
                              · refine zr_iconst zC dX5_tells_117 ?_
                                refine lv_goto (tgt := 122) zC.1 zC.2.1 dX5_tells_118 (by decide) ?_
                                refine zr_iadd zC dX5_tells_122 ?_
                                refine lv_istore_n (lv' := [(2, .int (zI (u + 1))), (4, .int (zI 0)), (0, .ref (aM Γ)), (1, .int (zI w)), (3, .int (zI q))]) zC.1 zC.2.1 dX5_tells_123 rfl hl (by decide) rfl (fun ls hl => ?_)
                                refine zr_iinc (lv' := [(3, .int (zI (q + 1))), (2, .int (zI (u + 1))), (4, .int (zI 0)), (0, .ref (aM Γ)), (1, .int (zI w))]) zC dX5_tells_124 hl (k := 4) rfl (by decide) rfl (fun ls hl => ?_)
                                refine lv_goto (tgt := 4) zC.1 zC.2.1 dX5_tells_127 (by decide) ?_
                                exact ih4 (u + 1) (q + 1) H locs ls (by first | assumption | omega) (by rw [ctI_s hq.1, ← hu]; unfold zB; split <;> omega) (by omega) hG (lv_sub hl [3, 4, 1, 0] rfl)
                        · refine lv_aload_n zC.1 zC.2.1 dX5_tells_83 rfl (lv_at hl 1 rfl) ?_
                          refine gf_M_lengths zC hG wl_X5_26 dX5_tells_84 ?_
                          refine lv_iload_n zC.1 zC.2.1 dX5_tells_87 rfl (lv_at hl 4 rfl) ?_
                          refine gi_m_lengths (v := szM (τ 4 q 1)) zC hG (by omega) (hR.2.2.2.2.1 q (by omega) (by omega)) dX5_tells_88 ?_
                          have f88 := hI.2.2.2.2.1 q (by omega) (by omega)
                          have f88s := szM_s (τ 4 q 1)
                          refine zr_if_ge (tgt := 117) zC dX5_tells_89 (by decide) (by omega) (fun c89 => ?_) (fun c89 => ?_)
                          · refine zr_iconst zC dX5_tells_117 ?_
                            refine lv_goto (tgt := 122) zC.1 zC.2.1 dX5_tells_118 (by decide) ?_
                            refine zr_iadd zC dX5_tells_122 ?_
                            refine lv_istore_n (lv' := [(2, .int (zI (u + 1))), (4, .int (zI 0)), (0, .ref (aM Γ)), (1, .int (zI w)), (3, .int (zI q))]) zC.1 zC.2.1 dX5_tells_123 rfl hl (by decide) rfl (fun ls hl => ?_)
                            refine zr_iinc (lv' := [(3, .int (zI (q + 1))), (2, .int (zI (u + 1))), (4, .int (zI 0)), (0, .ref (aM Γ)), (1, .int (zI w))]) zC dX5_tells_124 hl (k := 4) rfl (by decide) rfl (fun ls hl => ?_)
                            refine lv_goto (tgt := 4) zC.1 zC.2.1 dX5_tells_127 (by decide) ?_
                            exact ih4 (u + 1) (q + 1) H locs ls (by first | assumption | omega) (by rw [ctI_s hq.1, ← hu]; unfold zB; split <;> omega) (by omega) hG (lv_sub hl [3, 4, 1, 0] rfl)
                          · refine lv_iload_n zC.1 zC.2.1 dX5_tells_92 rfl (lv_at hl 2 rfl) ?_
                            refine zr_bipush zC dX5_tells_93 (by decide +kernel) ?_
                            refine zr_icmp_ne (tgt := 121) zC dX5_tells_95 (by decide) (by omega) (fun c95 => ?_) (fun c95 => ?_)
                            · refine zr_iconst zC dX5_tells_121 ?_
                              refine zr_iadd zC dX5_tells_122 ?_
                              refine lv_istore_n (lv' := [(2, .int (zI (u + 0))), (4, .int (zI 0)), (0, .ref (aM Γ)), (1, .int (zI w)), (3, .int (zI q))]) zC.1 zC.2.1 dX5_tells_123 rfl hl (by decide) rfl (fun ls hl => ?_)
                              refine zr_iinc (lv' := [(3, .int (zI (q + 1))), (2, .int (zI (u + 0))), (4, .int (zI 0)), (0, .ref (aM Γ)), (1, .int (zI w))]) zC dX5_tells_124 hl (k := 4) rfl (by decide) rfl (fun ls hl => ?_)
                              refine lv_goto (tgt := 4) zC.1 zC.2.1 dX5_tells_127 (by decide) ?_
                              exact ih4 (u + 0) (q + 1) H locs ls (by first | assumption | omega) (by rw [ctI_s hq.1, ← hu]; unfold zB; split <;> omega) (by omega) hG (lv_sub hl [3, 4, 1, 0] rfl)
                            · refine lv_iload_n zC.1 zC.2.1 dX5_tells_98 rfl (lv_at hl 4 rfl) ?_
                              refine zr_iconst zC dX5_tells_99 ?_
                              refine zr_icmp_ge (tgt := 121) zC dX5_tells_100 (by decide) (by omega) (fun c100 => ?_) (fun c100 => ?_)
                              · refine zr_iconst zC dX5_tells_121 ?_
                                refine zr_iadd zC dX5_tells_122 ?_
                                refine lv_istore_n (lv' := [(2, .int (zI (u + 0))), (4, .int (zI 0)), (0, .ref (aM Γ)), (1, .int (zI w)), (3, .int (zI q))]) zC.1 zC.2.1 dX5_tells_123 rfl hl (by decide) rfl (fun ls hl => ?_)
                                refine zr_iinc (lv' := [(3, .int (zI (q + 1))), (2, .int (zI (u + 0))), (4, .int (zI 0)), (0, .ref (aM Γ)), (1, .int (zI w))]) zC dX5_tells_124 hl (k := 4) rfl (by decide) rfl (fun ls hl => ?_)
                                refine lv_goto (tgt := 4) zC.1 zC.2.1 dX5_tells_127 (by decide) ?_
                                exact ih4 (u + 0) (q + 1) H locs ls (by first | assumption | omega) (by rw [ctI_s hq.1, ← hu]; unfold zB; split <;> omega) (by omega) hG (lv_sub hl [3, 4, 1, 0] rfl)
                              · refine lv_aload_n zC.1 zC.2.1 dX5_tells_103 rfl (lv_at hl 1 rfl) ?_
                                refine gf_M_kept zC hG wl_X5_47 dX5_tells_104 ?_
                                refine zr_bipush zC dX5_tells_107 (by decide +kernel) ?_
                                refine lv_iload_n zC.1 zC.2.1 dX5_tells_109 rfl (lv_at hl 4 rfl) ?_
                                refine zr_imul zC dX5_tells_110 ?_
                                refine gi_m_kept (v := kpM (τ 7 q 3) (τ 7 q 4)) zC hG (by omega) (hR.2.2.2.2.2.2.2 q (by omega) (by omega)).1 dX5_tells_111 ?_
                                have k111 := kpM_s (τ 7 q 3) (τ 7 q 4)
                                have k111b := hI.2.2.2.2.2.2.2 q (by omega) (by omega)
                                obtain ⟨k111c, k111d, -⟩ := k111b
                                refine zr_bipush zC dX5_tells_112 (by decide +kernel) ?_
                                refine zr_icmp_eq (tgt := 121) zC dX5_tells_114 (by decide) (by omega) (fun c114 => ?_) (fun c114 => ?_)
                                · refine zr_iconst zC dX5_tells_121 ?_
                                  refine zr_iadd zC dX5_tells_122 ?_
                                  refine lv_istore_n (lv' := [(2, .int (zI (u + 0))), (4, .int (zI 0)), (0, .ref (aM Γ)), (1, .int (zI w)), (3, .int (zI q))]) zC.1 zC.2.1 dX5_tells_123 rfl hl (by decide) rfl (fun ls hl => ?_)
                                  refine zr_iinc (lv' := [(3, .int (zI (q + 1))), (2, .int (zI (u + 0))), (4, .int (zI 0)), (0, .ref (aM Γ)), (1, .int (zI w))]) zC dX5_tells_124 hl (k := 4) rfl (by decide) rfl (fun ls hl => ?_)
                                  refine lv_goto (tgt := 4) zC.1 zC.2.1 dX5_tells_127 (by decide) ?_
                                  exact ih4 (u + 0) (q + 1) H locs ls (by first | assumption | omega) (by rw [ctI_s hq.1, ← hu]; unfold zB; split <;> omega) (by omega) hG (lv_sub hl [3, 4, 1, 0] rfl)
                                · refine zr_iconst zC dX5_tells_117 ?_
                                  refine lv_goto (tgt := 122) zC.1 zC.2.1 dX5_tells_118 (by decide) ?_
                                  refine zr_iadd zC dX5_tells_122 ?_
                                  refine lv_istore_n (lv' := [(2, .int (zI (u + 1))), (4, .int (zI 0)), (0, .ref (aM Γ)), (1, .int (zI w)), (3, .int (zI q))]) zC.1 zC.2.1 dX5_tells_123 rfl hl (by decide) rfl (fun ls hl => ?_)
                                  refine zr_iinc (lv' := [(3, .int (zI (q + 1))), (2, .int (zI (u + 1))), (4, .int (zI 0)), (0, .ref (aM Γ)), (1, .int (zI w))]) zC dX5_tells_124 hl (k := 4) rfl (by decide) rfl (fun ls hl => ?_)
                                  refine lv_goto (tgt := 4) zC.1 zC.2.1 dX5_tells_127 (by decide) ?_
                                  exact ih4 (u + 1) (q + 1) H locs ls (by first | assumption | omega) (by rw [ctI_s hq.1, ← hu]; unfold zB; split <;> omega) (by omega) hG (lv_sub hl [3, 4, 1, 0] rfl)
              · refine lv_aload_n zC.1 zC.2.1 dX5_tells_37 rfl (lv_at hl 0 rfl) ?_
                refine lv_iload_n zC.1 zC.2.1 dX5_tells_38 rfl (lv_at hl 3 rfl) ?_
                refine zr_iconst zC dX5_tells_39 ?_
                refine zr_callV zC hG (c_X5_isA (τ := τ) (σ := σ) (c := q) (w := 2) hR hI (by first | assumption | omega) (by first | assumption | omega)) mt_X5_isA wl_X5_178 pM rfl rfl ⟨by decide, by decide⟩ rfl hl.1 rfl (Nat.le_of_ble_eq_true rfl) dX5_tells_40 ⟨Nat.zero_le _, Nat.zero_le _⟩ (fun H locs hG => ?_)
                refine W.eq (g2 := F0 zm 43 ls [.int (zI (zB (isO (τ 6 q 0) 2)))]) rfl ?_
                refine zr_ifeqB (tgt := 50) zC dX5_tells_43 (by decide) (fun c43 => ?_) (fun c43 => ?_)
                · refine zr_iconst zC dX5_tells_50 ?_
                  refine lv_istore (lv' := [(4, .int (zI 0)), (0, .ref (aM Γ)), (1, .int (zI w)), (2, .int (zI u)), (3, .int (zI q))]) zC.1 zC.2.1 dX5_tells_51 hl (by decide) rfl (fun ls hl => ?_)
                  refine lv_iload_n zC.1 zC.2.1 dX5_tells_53 rfl (lv_at hl 3 rfl) ?_
                  refine lv_iload zC.1 zC.2.1 dX5_tells_54 (lv_at hl 0 rfl) ?_
                  refine zr_if_ne (tgt := 117) zC dX5_tells_56 (by decide) (by omega) (fun c56 => ?_) (fun c56 => ?_)
                  · refine zr_iconst zC dX5_tells_117 ?_
                    refine lv_goto (tgt := 122) zC.1 zC.2.1 dX5_tells_118 (by decide) ?_
                    refine zr_iadd zC dX5_tells_122 ?_
                    refine lv_istore_n (lv' := [(2, .int (zI (u + 1))), (4, .int (zI 0)), (0, .ref (aM Γ)), (1, .int (zI w)), (3, .int (zI q))]) zC.1 zC.2.1 dX5_tells_123 rfl hl (by decide) rfl (fun ls hl => ?_)
                    refine zr_iinc (lv' := [(3, .int (zI (q + 1))), (2, .int (zI (u + 1))), (4, .int (zI 0)), (0, .ref (aM Γ)), (1, .int (zI w))]) zC dX5_tells_124 hl (k := 4) rfl (by decide) rfl (fun ls hl => ?_)
                    refine lv_goto (tgt := 4) zC.1 zC.2.1 dX5_tells_127 (by decide) ?_
                    exact ih4 (u + 1) (q + 1) H locs ls (by first | assumption | omega) (by rw [ctI_s hq.1, ← hu]; unfold zB; split <;> omega) (by omega) hG (lv_sub hl [3, 4, 1, 0] rfl)
                  · refine lv_iload_n zC.1 zC.2.1 dX5_tells_59 rfl (lv_at hl 2 rfl) ?_
                    refine zr_iconst zC dX5_tells_60 ?_
                    refine zr_icmp_ne (tgt := 73) zC dX5_tells_61 (by decide) (by omega) (fun c61 => ?_) (fun c61 => ?_)
                    · refine lv_iload_n zC.1 zC.2.1 dX5_tells_73 rfl (lv_at hl 2 rfl) ?_
                      refine zr_iconst zC dX5_tells_74 ?_
                      refine zr_icmp_ne (tgt := 92) zC dX5_tells_75 (by decide) (by omega) (fun c75 => ?_) (fun c75 => ?_)
                      · refine lv_iload_n zC.1 zC.2.1 dX5_tells_92 rfl (lv_at hl 2 rfl) ?_
                        refine zr_bipush zC dX5_tells_93 (by decide +kernel) ?_
                        refine zr_icmp_ne (tgt := 121) zC dX5_tells_95 (by decide) (by omega) (fun c95 => ?_) (fun c95 => ?_)
                        · refine zr_iconst zC dX5_tells_121 ?_
                          refine zr_iadd zC dX5_tells_122 ?_
                          refine lv_istore_n (lv' := [(2, .int (zI (u + 0))), (4, .int (zI 0)), (0, .ref (aM Γ)), (1, .int (zI w)), (3, .int (zI q))]) zC.1 zC.2.1 dX5_tells_123 rfl hl (by decide) rfl (fun ls hl => ?_)
                          refine zr_iinc (lv' := [(3, .int (zI (q + 1))), (2, .int (zI (u + 0))), (4, .int (zI 0)), (0, .ref (aM Γ)), (1, .int (zI w))]) zC dX5_tells_124 hl (k := 4) rfl (by decide) rfl (fun ls hl => ?_)
                          refine lv_goto (tgt := 4) zC.1 zC.2.1 dX5_tells_127 (by decide) ?_
                          exact ih4 (u + 0) (q + 1) H locs ls (by first | assumption | omega) (by rw [ctI_s hq.1, ← hu]; unfold zB; split <;> omega) (by omega) hG (lv_sub hl [3, 4, 1, 0] rfl)
                        · refine lv_iload_n zC.1 zC.2.1 dX5_tells_98 rfl (lv_at hl 4 rfl) ?_
                          refine zr_iconst zC dX5_tells_99 ?_
                          refine zr_icmp_ge (tgt := 121) zC dX5_tells_100 (by decide) (by omega) (fun c100 => ?_) (fun c100 => ?_)
                          · refine zr_iconst zC dX5_tells_121 ?_
                            refine zr_iadd zC dX5_tells_122 ?_
                            refine lv_istore_n (lv' := [(2, .int (zI (u + 0))), (4, .int (zI 0)), (0, .ref (aM Γ)), (1, .int (zI w)), (3, .int (zI q))]) zC.1 zC.2.1 dX5_tells_123 rfl hl (by decide) rfl (fun ls hl => ?_)
                            refine zr_iinc (lv' := [(3, .int (zI (q + 1))), (2, .int (zI (u + 0))), (4, .int (zI 0)), (0, .ref (aM Γ)), (1, .int (zI w))]) zC dX5_tells_124 hl (k := 4) rfl (by decide) rfl (fun ls hl => ?_)
                            refine lv_goto (tgt := 4) zC.1 zC.2.1 dX5_tells_127 (by decide) ?_
                            exact ih4 (u + 0) (q + 1) H locs ls (by first | assumption | omega) (by rw [ctI_s hq.1, ← hu]; unfold zB; split <;> omega) (by omega) hG (lv_sub hl [3, 4, 1, 0] rfl)
                          · refine lv_aload_n zC.1 zC.2.1 dX5_tells_103 rfl (lv_at hl 1 rfl) ?_
                            refine gf_M_kept zC hG wl_X5_47 dX5_tells_104 ?_
                            refine zr_bipush zC dX5_tells_107 (by decide +kernel) ?_
                            refine lv_iload_n zC.1 zC.2.1 dX5_tells_109 rfl (lv_at hl 4 rfl) ?_
                            refine zr_imul zC dX5_tells_110 ?_
                            refine gi_m_kept (v := kpM (τ 7 q 3) (τ 7 q 4)) zC hG (by omega) (hR.2.2.2.2.2.2.2 q (by omega) (by omega)).1 dX5_tells_111 ?_
                            have k111 := kpM_s (τ 7 q 3) (τ 7 q 4)
                            have k111b := hI.2.2.2.2.2.2.2 q (by omega) (by omega)
                            obtain ⟨k111c, k111d, -⟩ := k111b
                            refine zr_bipush zC dX5_tells_112 (by decide +kernel) ?_
                            refine zr_icmp_eq (tgt := 121) zC dX5_tells_114 (by decide) (by omega) (fun c114 => ?_) (fun c114 => ?_)
                            · refine zr_iconst zC dX5_tells_121 ?_
                              refine zr_iadd zC dX5_tells_122 ?_
                              refine lv_istore_n (lv' := [(2, .int (zI (u + 0))), (4, .int (zI 0)), (0, .ref (aM Γ)), (1, .int (zI w)), (3, .int (zI q))]) zC.1 zC.2.1 dX5_tells_123 rfl hl (by decide) rfl (fun ls hl => ?_)
                              refine zr_iinc (lv' := [(3, .int (zI (q + 1))), (2, .int (zI (u + 0))), (4, .int (zI 0)), (0, .ref (aM Γ)), (1, .int (zI w))]) zC dX5_tells_124 hl (k := 4) rfl (by decide) rfl (fun ls hl => ?_)
                              refine lv_goto (tgt := 4) zC.1 zC.2.1 dX5_tells_127 (by decide) ?_
                              exact ih4 (u + 0) (q + 1) H locs ls (by first | assumption | omega) (by rw [ctI_s hq.1, ← hu]; unfold zB; split <;> omega) (by omega) hG (lv_sub hl [3, 4, 1, 0] rfl)
                            · refine zr_iconst zC dX5_tells_117 ?_
                              refine lv_goto (tgt := 122) zC.1 zC.2.1 dX5_tells_118 (by decide) ?_
                              refine zr_iadd zC dX5_tells_122 ?_
                              refine lv_istore_n (lv' := [(2, .int (zI (u + 1))), (4, .int (zI 0)), (0, .ref (aM Γ)), (1, .int (zI w)), (3, .int (zI q))]) zC.1 zC.2.1 dX5_tells_123 rfl hl (by decide) rfl (fun ls hl => ?_)
                              refine zr_iinc (lv' := [(3, .int (zI (q + 1))), (2, .int (zI (u + 1))), (4, .int (zI 0)), (0, .ref (aM Γ)), (1, .int (zI w))]) zC dX5_tells_124 hl (k := 4) rfl (by decide) rfl (fun ls hl => ?_)
                              refine lv_goto (tgt := 4) zC.1 zC.2.1 dX5_tells_127 (by decide) ?_
                              exact ih4 (u + 1) (q + 1) H locs ls (by first | assumption | omega) (by rw [ctI_s hq.1, ← hu]; unfold zB; split <;> omega) (by omega) hG (lv_sub hl [3, 4, 1, 0] rfl)
                      · refine lv_iload_n zC.1 zC.2.1 dX5_tells_78 rfl (lv_at hl 4 rfl) ?_
                        refine zr_iconst zC dX5_tells_79 ?_
                        refine zr_icmp_ge (tgt := 92) zC dX5_tells_80 (by decide) (by omega) (fun c80 => ?_) (fun c80 => ?_)
                        · refine lv_iload_n zC.1 zC.2.1 dX5_tells_92 rfl (lv_at hl 2 rfl) ?_
                          refine zr_bipush zC dX5_tells_93 (by decide +kernel) ?_
                          refine zr_icmp_ne (tgt := 121) zC dX5_tells_95 (by decide) (by omega) (fun c95 => ?_) (fun c95 => ?_)
                          · refine zr_iconst zC dX5_tells_121 ?_
                            refine zr_iadd zC dX5_tells_122 ?_
                            refine lv_istore_n (lv' := [(2, .int (zI (u + 0))), (4, .int (zI 0)), (0, .ref (aM Γ)), (1, .int (zI w)), (3, .int (zI q))]) zC.1 zC.2.1 dX5_tells_123 rfl hl (by decide) rfl (fun ls hl => ?_)
                            refine zr_iinc (lv' := [(3, .int (zI (q + 1))), (2, .int (zI (u + 0))), (4, .int (zI 0)), (0, .ref (aM Γ)), (1, .int (zI w))]) zC dX5_tells_124 hl (k := 4) rfl (by decide) rfl (fun ls hl => ?_)
                            refine lv_goto (tgt := 4) zC.1 zC.2.1 dX5_tells_127 (by decide) ?_
                            exact ih4 (u + 0) (q + 1) H locs ls (by first | assumption | omega) (by rw [ctI_s hq.1, ← hu]; unfold zB; split <;> omega) (by omega) hG (lv_sub hl [3, 4, 1, 0] rfl)
                          · refine lv_iload_n zC.1 zC.2.1 dX5_tells_98 rfl (lv_at hl 4 rfl) ?_
                            refine zr_iconst zC dX5_tells_99 ?_
                            refine zr_icmp_ge (tgt := 121) zC dX5_tells_100 (by decide) (by omega) (fun c100 => ?_) (fun c100 => ?_)
                            · refine zr_iconst zC dX5_tells_121 ?_
                              refine zr_iadd zC dX5_tells_122 ?_
                              refine lv_istore_n (lv' := [(2, .int (zI (u + 0))), (4, .int (zI 0)), (0, .ref (aM Γ)), (1, .int (zI w)), (3, .int (zI q))]) zC.1 zC.2.1 dX5_tells_123 rfl hl (by decide) rfl (fun ls hl => ?_)
                              refine zr_iinc (lv' := [(3, .int (zI (q + 1))), (2, .int (zI (u + 0))), (4, .int (zI 0)), (0, .ref (aM Γ)), (1, .int (zI w))]) zC dX5_tells_124 hl (k := 4) rfl (by decide) rfl (fun ls hl => ?_)
                              refine lv_goto (tgt := 4) zC.1 zC.2.1 dX5_tells_127 (by decide) ?_
                              exact ih4 (u + 0) (q + 1) H locs ls (by first | assumption | omega) (by rw [ctI_s hq.1, ← hu]; unfold zB; split <;> omega) (by omega) hG (lv_sub hl [3, 4, 1, 0] rfl)
                            · refine lv_aload_n zC.1 zC.2.1 dX5_tells_103 rfl (lv_at hl 1 rfl) ?_
                              refine gf_M_kept zC hG wl_X5_47 dX5_tells_104 ?_
                              refine zr_bipush zC dX5_tells_107 (by decide +kernel) ?_
                              refine lv_iload_n zC.1 zC.2.1 dX5_tells_109 rfl (lv_at hl 4 rfl) ?_
                              refine zr_imul zC dX5_tells_110 ?_
                              refine gi_m_kept (v := kpM (τ 7 q 3) (τ 7 q 4)) zC hG (by omega) (hR.2.2.2.2.2.2.2 q (by omega) (by omega)).1 dX5_tells_111 ?_
                              have k111 := kpM_s (τ 7 q 3) (τ 7 q 4)
                              have k111b := hI.2.2.2.2.2.2.2 q (by omega) (by omega)
                              obtain ⟨k111c, k111d, -⟩ := k111b
                              refine zr_bipush zC dX5_tells_112 (by decide +kernel) ?_
                              refine zr_icmp_eq (tgt := 121) zC dX5_tells_114 (by decide) (by omega) (fun c114 => ?_) (fun c114 => ?_)
                              · refine zr_iconst zC dX5_tells_121 ?_
                                refine zr_iadd zC dX5_tells_122 ?_
                                refine lv_istore_n (lv' := [(2, .int (zI (u + 0))), (4, .int (zI 0)), (0, .ref (aM Γ)), (1, .int (zI w)), (3, .int (zI q))]) zC.1 zC.2.1 dX5_tells_123 rfl hl (by decide) rfl (fun ls hl => ?_)
                                refine zr_iinc (lv' := [(3, .int (zI (q + 1))), (2, .int (zI (u + 0))), (4, .int (zI 0)), (0, .ref (aM Γ)), (1, .int (zI w))]) zC dX5_tells_124 hl (k := 4) rfl (by decide) rfl (fun ls hl => ?_)
                                refine lv_goto (tgt := 4) zC.1 zC.2.1 dX5_tells_127 (by decide) ?_
                                exact ih4 (u + 0) (q + 1) H locs ls (by first | assumption | omega) (by rw [ctI_s hq.1, ← hu]; unfold zB; split <;> omega) (by omega) hG (lv_sub hl [3, 4, 1, 0] rfl)
                              · refine zr_iconst zC dX5_tells_117 ?_
                                refine lv_goto (tgt := 122) zC.1 zC.2.1 dX5_tells_118 (by decide) ?_
                                refine zr_iadd zC dX5_tells_122 ?_
                                refine lv_istore_n (lv' := [(2, .int (zI (u + 1))), (4, .int (zI 0)), (0, .ref (aM Γ)), (1, .int (zI w)), (3, .int (zI q))]) zC.1 zC.2.1 dX5_tells_123 rfl hl (by decide) rfl (fun ls hl => ?_)
                                refine zr_iinc (lv' := [(3, .int (zI (q + 1))), (2, .int (zI (u + 1))), (4, .int (zI 0)), (0, .ref (aM Γ)), (1, .int (zI w))]) zC dX5_tells_124 hl (k := 4) rfl (by decide) rfl (fun ls hl => ?_)
                                refine lv_goto (tgt := 4) zC.1 zC.2.1 dX5_tells_127 (by decide) ?_
                                exact ih4 (u + 1) (q + 1) H locs ls (by first | assumption | omega) (by rw [ctI_s hq.1, ← hu]; unfold zB; split <;> omega) (by omega) hG (lv_sub hl [3, 4, 1, 0] rfl)
                        · refine lv_aload_n zC.1 zC.2.1 dX5_tells_83 rfl (lv_at hl 1 rfl) ?_
                          refine gf_M_lengths zC hG wl_X5_26 dX5_tells_84 ?_
                          refine lv_iload_n zC.1 zC.2.1 dX5_tells_87 rfl (lv_at hl 4 rfl) ?_
                          refine gi_m_lengths (v := szM (τ 4 q 1)) zC hG (by omega) (hR.2.2.2.2.1 q (by omega) (by omega)) dX5_tells_88 ?_
                          have f88 := hI.2.2.2.2.1 q (by omega) (by omega)
                          have f88s := szM_s (τ 4 q 1)
                          refine zr_if_ge (tgt := 117) zC dX5_tells_89 (by decide) (by omega) (fun c89 => ?_) (fun c89 => ?_)
                          · refine zr_iconst zC dX5_tells_117 ?_
                            refine lv_goto (tgt := 122) zC.1 zC.2.1 dX5_tells_118 (by decide) ?_
                            refine zr_iadd zC dX5_tells_122 ?_
                            refine lv_istore_n (lv' := [(2, .int (zI (u + 1))), (4, .int (zI 0)), (0, .ref (aM Γ)), (1, .int (zI w)), (3, .int (zI q))]) zC.1 zC.2.1 dX5_tells_123 rfl hl (by decide) rfl (fun ls hl => ?_)
                            refine zr_iinc (lv' := [(3, .int (zI (q + 1))), (2, .int (zI (u + 1))), (4, .int (zI 0)), (0, .ref (aM Γ)), (1, .int (zI w))]) zC dX5_tells_124 hl (k := 4) rfl (by decide) rfl (fun ls hl => ?_)
                            refine lv_goto (tgt := 4) zC.1 zC.2.1 dX5_tells_127 (by decide) ?_
                            exact ih4 (u + 1) (q + 1) H locs ls (by first | assumption | omega) (by rw [ctI_s hq.1, ← hu]; unfold zB; split <;> omega) (by omega) hG (lv_sub hl [3, 4, 1, 0] rfl)
                          · refine lv_iload_n zC.1 zC.2.1 dX5_tells_92 rfl (lv_at hl 2 rfl) ?_
                            refine zr_bipush zC dX5_tells_93 (by decide +kernel) ?_
                            refine zr_icmp_ne (tgt := 121) zC dX5_tells_95 (by decide) (by omega) (fun c95 => ?_) (fun c95 => ?_)
                            · refine zr_iconst zC dX5_tells_121 ?_
                              refine zr_iadd zC dX5_tells_122 ?_
                              refine lv_istore_n (lv' := [(2, .int (zI (u + 0))), (4, .int (zI 0)), (0, .ref (aM Γ)), (1, .int (zI w)), (3, .int (zI q))]) zC.1 zC.2.1 dX5_tells_123 rfl hl (by decide) rfl (fun ls hl => ?_)
                              refine zr_iinc (lv' := [(3, .int (zI (q + 1))), (2, .int (zI (u + 0))), (4, .int (zI 0)), (0, .ref (aM Γ)), (1, .int (zI w))]) zC dX5_tells_124 hl (k := 4) rfl (by decide) rfl (fun ls hl => ?_)
                              refine lv_goto (tgt := 4) zC.1 zC.2.1 dX5_tells_127 (by decide) ?_
                              exact ih4 (u + 0) (q + 1) H locs ls (by first | assumption | omega) (by rw [ctI_s hq.1, ← hu]; unfold zB; split <;> omega) (by omega) hG (lv_sub hl [3, 4, 1, 0] rfl)
                            · refine lv_iload_n zC.1 zC.2.1 dX5_tells_98 rfl (lv_at hl 4 rfl) ?_
                              refine zr_iconst zC dX5_tells_99 ?_
                              refine zr_icmp_ge (tgt := 121) zC dX5_tells_100 (by decide) (by omega) (fun c100 => ?_) (fun c100 => ?_)
                              · refine zr_iconst zC dX5_tells_121 ?_
                                refine zr_iadd zC dX5_tells_122 ?_
                                refine lv_istore_n (lv' := [(2, .int (zI (u + 0))), (4, .int (zI 0)), (0, .ref (aM Γ)), (1, .int (zI w)), (3, .int (zI q))]) zC.1 zC.2.1 dX5_tells_123 rfl hl (by decide) rfl (fun ls hl => ?_)
                                refine zr_iinc (lv' := [(3, .int (zI (q + 1))), (2, .int (zI (u + 0))), (4, .int (zI 0)), (0, .ref (aM Γ)), (1, .int (zI w))]) zC dX5_tells_124 hl (k := 4) rfl (by decide) rfl (fun ls hl => ?_)
                                refine lv_goto (tgt := 4) zC.1 zC.2.1 dX5_tells_127 (by decide) ?_
                                exact ih4 (u + 0) (q + 1) H locs ls (by first | assumption | omega) (by rw [ctI_s hq.1, ← hu]; unfold zB; split <;> omega) (by omega) hG (lv_sub hl [3, 4, 1, 0] rfl)
                              · refine lv_aload_n zC.1 zC.2.1 dX5_tells_103 rfl (lv_at hl 1 rfl) ?_
                                refine gf_M_kept zC hG wl_X5_47 dX5_tells_104 ?_
                                refine zr_bipush zC dX5_tells_107 (by decide +kernel) ?_
                                refine lv_iload_n zC.1 zC.2.1 dX5_tells_109 rfl (lv_at hl 4 rfl) ?_
                                refine zr_imul zC dX5_tells_110 ?_
                                refine gi_m_kept (v := kpM (τ 7 q 3) (τ 7 q 4)) zC hG (by omega) (hR.2.2.2.2.2.2.2 q (by omega) (by omega)).1 dX5_tells_111 ?_
                                have k111 := kpM_s (τ 7 q 3) (τ 7 q 4)
                                have k111b := hI.2.2.2.2.2.2.2 q (by omega) (by omega)
                                obtain ⟨k111c, k111d, -⟩ := k111b
                                refine zr_bipush zC dX5_tells_112 (by decide +kernel) ?_
                                refine zr_icmp_eq (tgt := 121) zC dX5_tells_114 (by decide) (by omega) (fun c114 => ?_) (fun c114 => ?_)
                                · refine zr_iconst zC dX5_tells_121 ?_
                                  refine zr_iadd zC dX5_tells_122 ?_
                                  refine lv_istore_n (lv' := [(2, .int (zI (u + 0))), (4, .int (zI 0)), (0, .ref (aM Γ)), (1, .int (zI w)), (3, .int (zI q))]) zC.1 zC.2.1 dX5_tells_123 rfl hl (by decide) rfl (fun ls hl => ?_)
                                  refine zr_iinc (lv' := [(3, .int (zI (q + 1))), (2, .int (zI (u + 0))), (4, .int (zI 0)), (0, .ref (aM Γ)), (1, .int (zI w))]) zC dX5_tells_124 hl (k := 4) rfl (by decide) rfl (fun ls hl => ?_)
                                  refine lv_goto (tgt := 4) zC.1 zC.2.1 dX5_tells_127 (by decide) ?_
                                  exact ih4 (u + 0) (q + 1) H locs ls (by first | assumption | omega) (by rw [ctI_s hq.1, ← hu]; unfold zB; split <;> omega) (by omega) hG (lv_sub hl [3, 4, 1, 0] rfl)
                                · refine zr_iconst zC dX5_tells_117 ?_
                                  refine lv_goto (tgt := 122) zC.1 zC.2.1 dX5_tells_118 (by decide) ?_
                                  refine zr_iadd zC dX5_tells_122 ?_
                                  refine lv_istore_n (lv' := [(2, .int (zI (u + 1))), (4, .int (zI 0)), (0, .ref (aM Γ)), (1, .int (zI w)), (3, .int (zI q))]) zC.1 zC.2.1 dX5_tells_123 rfl hl (by decide) rfl (fun ls hl => ?_)
                                  refine zr_iinc (lv' := [(3, .int (zI (q + 1))), (2, .int (zI (u + 1))), (4, .int (zI 0)), (0, .ref (aM Γ)), (1, .int (zI w))]) zC dX5_tells_124 hl (k := 4) rfl (by decide) rfl (fun ls hl => ?_)
                                  refine lv_goto (tgt := 4) zC.1 zC.2.1 dX5_tells_127 (by decide) ?_
                                  exact ih4 (u + 1) (q + 1) H locs ls (by first | assumption | omega) (by rw [ctI_s hq.1, ← hu]; unfold zB; split <;> omega) (by omega) hG (lv_sub hl [3, 4, 1, 0] rfl)
                    · refine lv_aload_n zC.1 zC.2.1 dX5_tells_64 rfl (lv_at hl 1 rfl) ?_
                      refine gf_M_sizes zC hG wl_X5_17 dX5_tells_65 ?_
                      refine lv_iload_n zC.1 zC.2.1 dX5_tells_68 rfl (lv_at hl 4 rfl) ?_
                      refine gi_m_sizes (v := szM (τ 2 q 1)) zC hG (by omega) (hR.2.2.1 q (by omega) (by omega)) dX5_tells_69 ?_
                      have f69 := hI.2.2.1 q (by omega) (by omega)
                      have f69s := szM_s (τ 2 q 1)
                      refine zr_if_ge (tgt := 117) zC dX5_tells_70 (by decide) (by omega) (fun c70 => ?_) (fun c70 => ?_)
                      · refine zr_iconst zC dX5_tells_117 ?_
                        refine lv_goto (tgt := 122) zC.1 zC.2.1 dX5_tells_118 (by decide) ?_
                        refine zr_iadd zC dX5_tells_122 ?_
                        refine lv_istore_n (lv' := [(2, .int (zI (u + 1))), (4, .int (zI 0)), (0, .ref (aM Γ)), (1, .int (zI w)), (3, .int (zI q))]) zC.1 zC.2.1 dX5_tells_123 rfl hl (by decide) rfl (fun ls hl => ?_)
                        refine zr_iinc (lv' := [(3, .int (zI (q + 1))), (2, .int (zI (u + 1))), (4, .int (zI 0)), (0, .ref (aM Γ)), (1, .int (zI w))]) zC dX5_tells_124 hl (k := 4) rfl (by decide) rfl (fun ls hl => ?_)
                        refine lv_goto (tgt := 4) zC.1 zC.2.1 dX5_tells_127 (by decide) ?_
                        exact ih4 (u + 1) (q + 1) H locs ls (by first | assumption | omega) (by rw [ctI_s hq.1, ← hu]; unfold zB; split <;> omega) (by omega) hG (lv_sub hl [3, 4, 1, 0] rfl)
                      · refine lv_iload_n zC.1 zC.2.1 dX5_tells_73 rfl (lv_at hl 2 rfl) ?_
                        refine zr_iconst zC dX5_tells_74 ?_
                        refine zr_icmp_ne (tgt := 92) zC dX5_tells_75 (by decide) (by omega) (fun c75 => ?_) (fun c75 => ?_)
                        · refine lv_iload_n zC.1 zC.2.1 dX5_tells_92 rfl (lv_at hl 2 rfl) ?_
                          refine zr_bipush zC dX5_tells_93 (by decide +kernel) ?_
                          refine zr_icmp_ne (tgt := 121) zC dX5_tells_95 (by decide) (by omega) (fun c95 => ?_) (fun c95 => ?_)
                          · refine zr_iconst zC dX5_tells_121 ?_
                            refine zr_iadd zC dX5_tells_122 ?_
                            refine lv_istore_n (lv' := [(2, .int (zI (u + 0))), (4, .int (zI 0)), (0, .ref (aM Γ)), (1, .int (zI w)), (3, .int (zI q))]) zC.1 zC.2.1 dX5_tells_123 rfl hl (by decide) rfl (fun ls hl => ?_)
                            refine zr_iinc (lv' := [(3, .int (zI (q + 1))), (2, .int (zI (u + 0))), (4, .int (zI 0)), (0, .ref (aM Γ)), (1, .int (zI w))]) zC dX5_tells_124 hl (k := 4) rfl (by decide) rfl (fun ls hl => ?_)
                            refine lv_goto (tgt := 4) zC.1 zC.2.1 dX5_tells_127 (by decide) ?_
                            exact ih4 (u + 0) (q + 1) H locs ls (by first | assumption | omega) (by rw [ctI_s hq.1, ← hu]; unfold zB; split <;> omega) (by omega) hG (lv_sub hl [3, 4, 1, 0] rfl)
                          · refine lv_iload_n zC.1 zC.2.1 dX5_tells_98 rfl (lv_at hl 4 rfl) ?_
                            refine zr_iconst zC dX5_tells_99 ?_
                            refine zr_icmp_ge (tgt := 121) zC dX5_tells_100 (by decide) (by omega) (fun c100 => ?_) (fun c100 => ?_)
                            · refine zr_iconst zC dX5_tells_121 ?_
                              refine zr_iadd zC dX5_tells_122 ?_
                              refine lv_istore_n (lv' := [(2, .int (zI (u + 0))), (4, .int (zI 0)), (0, .ref (aM Γ)), (1, .int (zI w)), (3, .int (zI q))]) zC.1 zC.2.1 dX5_tells_123 rfl hl (by decide) rfl (fun ls hl => ?_)
                              refine zr_iinc (lv' := [(3, .int (zI (q + 1))), (2, .int (zI (u + 0))), (4, .int (zI 0)), (0, .ref (aM Γ)), (1, .int (zI w))]) zC dX5_tells_124 hl (k := 4) rfl (by decide) rfl (fun ls hl => ?_)
                              refine lv_goto (tgt := 4) zC.1 zC.2.1 dX5_tells_127 (by decide) ?_
                              exact ih4 (u + 0) (q + 1) H locs ls (by first | assumption | omega) (by rw [ctI_s hq.1, ← hu]; unfold zB; split <;> omega) (by omega) hG (lv_sub hl [3, 4, 1, 0] rfl)
                            · refine lv_aload_n zC.1 zC.2.1 dX5_tells_103 rfl (lv_at hl 1 rfl) ?_
                              refine gf_M_kept zC hG wl_X5_47 dX5_tells_104 ?_
                              refine zr_bipush zC dX5_tells_107 (by decide +kernel) ?_
                              refine lv_iload_n zC.1 zC.2.1 dX5_tells_109 rfl (lv_at hl 4 rfl) ?_
                              refine zr_imul zC dX5_tells_110 ?_
                              refine gi_m_kept (v := kpM (τ 7 q 3) (τ 7 q 4)) zC hG (by omega) (hR.2.2.2.2.2.2.2 q (by omega) (by omega)).1 dX5_tells_111 ?_
                              have k111 := kpM_s (τ 7 q 3) (τ 7 q 4)
                              have k111b := hI.2.2.2.2.2.2.2 q (by omega) (by omega)
                              obtain ⟨k111c, k111d, -⟩ := k111b
                              refine zr_bipush zC dX5_tells_112 (by decide +kernel) ?_
                              refine zr_icmp_eq (tgt := 121) zC dX5_tells_114 (by decide) (by omega) (fun c114 => ?_) (fun c114 => ?_)
                              · refine zr_iconst zC dX5_tells_121 ?_
                                refine zr_iadd zC dX5_tells_122 ?_
                                refine lv_istore_n (lv' := [(2, .int (zI (u + 0))), (4, .int (zI 0)), (0, .ref (aM Γ)), (1, .int (zI w)), (3, .int (zI q))]) zC.1 zC.2.1 dX5_tells_123 rfl hl (by decide) rfl (fun ls hl => ?_)
                                refine zr_iinc (lv' := [(3, .int (zI (q + 1))), (2, .int (zI (u + 0))), (4, .int (zI 0)), (0, .ref (aM Γ)), (1, .int (zI w))]) zC dX5_tells_124 hl (k := 4) rfl (by decide) rfl (fun ls hl => ?_)
                                refine lv_goto (tgt := 4) zC.1 zC.2.1 dX5_tells_127 (by decide) ?_
                                exact ih4 (u + 0) (q + 1) H locs ls (by first | assumption | omega) (by rw [ctI_s hq.1, ← hu]; unfold zB; split <;> omega) (by omega) hG (lv_sub hl [3, 4, 1, 0] rfl)
                              · refine zr_iconst zC dX5_tells_117 ?_
                                refine lv_goto (tgt := 122) zC.1 zC.2.1 dX5_tells_118 (by decide) ?_
                                refine zr_iadd zC dX5_tells_122 ?_
                                refine lv_istore_n (lv' := [(2, .int (zI (u + 1))), (4, .int (zI 0)), (0, .ref (aM Γ)), (1, .int (zI w)), (3, .int (zI q))]) zC.1 zC.2.1 dX5_tells_123 rfl hl (by decide) rfl (fun ls hl => ?_)
                                refine zr_iinc (lv' := [(3, .int (zI (q + 1))), (2, .int (zI (u + 1))), (4, .int (zI 0)), (0, .ref (aM Γ)), (1, .int (zI w))]) zC dX5_tells_124 hl (k := 4) rfl (by decide) rfl (fun ls hl => ?_)
                                refine lv_goto (tgt := 4) zC.1 zC.2.1 dX5_tells_127 (by decide) ?_
                                exact ih4 (u + 1) (q + 1) H locs ls (by first | assumption | omega) (by rw [ctI_s hq.1, ← hu]; unfold zB; split <;> omega) (by omega) hG (lv_sub hl [3, 4, 1, 0] rfl)
                        · refine lv_iload_n zC.1 zC.2.1 dX5_tells_78 rfl (lv_at hl 4 rfl) ?_
                          refine zr_iconst zC dX5_tells_79 ?_
                          refine zr_icmp_ge (tgt := 92) zC dX5_tells_80 (by decide) (by omega) (fun c80 => ?_) (fun c80 => ?_)
                          · refine lv_iload_n zC.1 zC.2.1 dX5_tells_92 rfl (lv_at hl 2 rfl) ?_
                            refine zr_bipush zC dX5_tells_93 (by decide +kernel) ?_
                            refine zr_icmp_ne (tgt := 121) zC dX5_tells_95 (by decide) (by omega) (fun c95 => ?_) (fun c95 => ?_)
                            · refine zr_iconst zC dX5_tells_121 ?_
                              refine zr_iadd zC dX5_tells_122 ?_
                              refine lv_istore_n (lv' := [(2, .int (zI (u + 0))), (4, .int (zI 0)), (0, .ref (aM Γ)), (1, .int (zI w)), (3, .int (zI q))]) zC.1 zC.2.1 dX5_tells_123 rfl hl (by decide) rfl (fun ls hl => ?_)
                              refine zr_iinc (lv' := [(3, .int (zI (q + 1))), (2, .int (zI (u + 0))), (4, .int (zI 0)), (0, .ref (aM Γ)), (1, .int (zI w))]) zC dX5_tells_124 hl (k := 4) rfl (by decide) rfl (fun ls hl => ?_)
                              refine lv_goto (tgt := 4) zC.1 zC.2.1 dX5_tells_127 (by decide) ?_
                              exact ih4 (u + 0) (q + 1) H locs ls (by first | assumption | omega) (by rw [ctI_s hq.1, ← hu]; unfold zB; split <;> omega) (by omega) hG (lv_sub hl [3, 4, 1, 0] rfl)
                            · refine lv_iload_n zC.1 zC.2.1 dX5_tells_98 rfl (lv_at hl 4 rfl) ?_
                              refine zr_iconst zC dX5_tells_99 ?_
                              refine zr_icmp_ge (tgt := 121) zC dX5_tells_100 (by decide) (by omega) (fun c100 => ?_) (fun c100 => ?_)
                              · refine zr_iconst zC dX5_tells_121 ?_
                                refine zr_iadd zC dX5_tells_122 ?_
                                refine lv_istore_n (lv' := [(2, .int (zI (u + 0))), (4, .int (zI 0)), (0, .ref (aM Γ)), (1, .int (zI w)), (3, .int (zI q))]) zC.1 zC.2.1 dX5_tells_123 rfl hl (by decide) rfl (fun ls hl => ?_)
                                refine zr_iinc (lv' := [(3, .int (zI (q + 1))), (2, .int (zI (u + 0))), (4, .int (zI 0)), (0, .ref (aM Γ)), (1, .int (zI w))]) zC dX5_tells_124 hl (k := 4) rfl (by decide) rfl (fun ls hl => ?_)
                                refine lv_goto (tgt := 4) zC.1 zC.2.1 dX5_tells_127 (by decide) ?_
                                exact ih4 (u + 0) (q + 1) H locs ls (by first | assumption | omega) (by rw [ctI_s hq.1, ← hu]; unfold zB; split <;> omega) (by omega) hG (lv_sub hl [3, 4, 1, 0] rfl)
                              · refine lv_aload_n zC.1 zC.2.1 dX5_tells_103 rfl (lv_at hl 1 rfl) ?_
                                refine gf_M_kept zC hG wl_X5_47 dX5_tells_104 ?_
                                refine zr_bipush zC dX5_tells_107 (by decide +kernel) ?_
                                refine lv_iload_n zC.1 zC.2.1 dX5_tells_109 rfl (lv_at hl 4 rfl) ?_
                                refine zr_imul zC dX5_tells_110 ?_
                                refine gi_m_kept (v := kpM (τ 7 q 3) (τ 7 q 4)) zC hG (by omega) (hR.2.2.2.2.2.2.2 q (by omega) (by omega)).1 dX5_tells_111 ?_
                                have k111 := kpM_s (τ 7 q 3) (τ 7 q 4)
                                have k111b := hI.2.2.2.2.2.2.2 q (by omega) (by omega)
                                obtain ⟨k111c, k111d, -⟩ := k111b
                                refine zr_bipush zC dX5_tells_112 (by decide +kernel) ?_
                                refine zr_icmp_eq (tgt := 121) zC dX5_tells_114 (by decide) (by omega) (fun c114 => ?_) (fun c114 => ?_)
                                · refine zr_iconst zC dX5_tells_121 ?_
                                  refine zr_iadd zC dX5_tells_122 ?_
                                  refine lv_istore_n (lv' := [(2, .int (zI (u + 0))), (4, .int (zI 0)), (0, .ref (aM Γ)), (1, .int (zI w)), (3, .int (zI q))]) zC.1 zC.2.1 dX5_tells_123 rfl hl (by decide) rfl (fun ls hl => ?_)
                                  refine zr_iinc (lv' := [(3, .int (zI (q + 1))), (2, .int (zI (u + 0))), (4, .int (zI 0)), (0, .ref (aM Γ)), (1, .int (zI w))]) zC dX5_tells_124 hl (k := 4) rfl (by decide) rfl (fun ls hl => ?_)
                                  refine lv_goto (tgt := 4) zC.1 zC.2.1 dX5_tells_127 (by decide) ?_
                                  exact ih4 (u + 0) (q + 1) H locs ls (by first | assumption | omega) (by rw [ctI_s hq.1, ← hu]; unfold zB; split <;> omega) (by omega) hG (lv_sub hl [3, 4, 1, 0] rfl)
                                · refine zr_iconst zC dX5_tells_117 ?_
                                  refine lv_goto (tgt := 122) zC.1 zC.2.1 dX5_tells_118 (by decide) ?_
                                  refine zr_iadd zC dX5_tells_122 ?_
                                  refine lv_istore_n (lv' := [(2, .int (zI (u + 1))), (4, .int (zI 0)), (0, .ref (aM Γ)), (1, .int (zI w)), (3, .int (zI q))]) zC.1 zC.2.1 dX5_tells_123 rfl hl (by decide) rfl (fun ls hl => ?_)
                                  refine zr_iinc (lv' := [(3, .int (zI (q + 1))), (2, .int (zI (u + 1))), (4, .int (zI 0)), (0, .ref (aM Γ)), (1, .int (zI w))]) zC dX5_tells_124 hl (k := 4) rfl (by decide) rfl (fun ls hl => ?_)
                                  refine lv_goto (tgt := 4) zC.1 zC.2.1 dX5_tells_127 (by decide) ?_
                                  exact ih4 (u + 1) (q + 1) H locs ls (by first | assumption | omega) (by rw [ctI_s hq.1, ← hu]; unfold zB; split <;> omega) (by omega) hG (lv_sub hl [3, 4, 1, 0] rfl)
                          · refine lv_aload_n zC.1 zC.2.1 dX5_tells_83 rfl (lv_at hl 1 rfl) ?_
                            refine gf_M_lengths zC hG wl_X5_26 dX5_tells_84 ?_
                            refine lv_iload_n zC.1 zC.2.1 dX5_tells_87 rfl (lv_at hl 4 rfl) ?_
                            refine gi_m_lengths (v := szM (τ 4 q 1)) zC hG (by omega) (hR.2.2.2.2.1 q (by omega) (by omega)) dX5_tells_88 ?_
                            have f88 := hI.2.2.2.2.1 q (by omega) (by omega)
                            have f88s := szM_s (τ 4 q 1)
                            refine zr_if_ge (tgt := 117) zC dX5_tells_89 (by decide) (by omega) (fun c89 => ?_) (fun c89 => ?_)
                            · refine zr_iconst zC dX5_tells_117 ?_
                              refine lv_goto (tgt := 122) zC.1 zC.2.1 dX5_tells_118 (by decide) ?_
                              refine zr_iadd zC dX5_tells_122 ?_
                              refine lv_istore_n (lv' := [(2, .int (zI (u + 1))), (4, .int (zI 0)), (0, .ref (aM Γ)), (1, .int (zI w)), (3, .int (zI q))]) zC.1 zC.2.1 dX5_tells_123 rfl hl (by decide) rfl (fun ls hl => ?_)
                              refine zr_iinc (lv' := [(3, .int (zI (q + 1))), (2, .int (zI (u + 1))), (4, .int (zI 0)), (0, .ref (aM Γ)), (1, .int (zI w))]) zC dX5_tells_124 hl (k := 4) rfl (by decide) rfl (fun ls hl => ?_)
                              refine lv_goto (tgt := 4) zC.1 zC.2.1 dX5_tells_127 (by decide) ?_
                              exact ih4 (u + 1) (q + 1) H locs ls (by first | assumption | omega) (by rw [ctI_s hq.1, ← hu]; unfold zB; split <;> omega) (by omega) hG (lv_sub hl [3, 4, 1, 0] rfl)
                            · refine lv_iload_n zC.1 zC.2.1 dX5_tells_92 rfl (lv_at hl 2 rfl) ?_
                              refine zr_bipush zC dX5_tells_93 (by decide +kernel) ?_
                              refine zr_icmp_ne (tgt := 121) zC dX5_tells_95 (by decide) (by omega) (fun c95 => ?_) (fun c95 => ?_)
                              · refine zr_iconst zC dX5_tells_121 ?_
                                refine zr_iadd zC dX5_tells_122 ?_
                                refine lv_istore_n (lv' := [(2, .int (zI (u + 0))), (4, .int (zI 0)), (0, .ref (aM Γ)), (1, .int (zI w)), (3, .int (zI q))]) zC.1 zC.2.1 dX5_tells_123 rfl hl (by decide) rfl (fun ls hl => ?_)
                                refine zr_iinc (lv' := [(3, .int (zI (q + 1))), (2, .int (zI (u + 0))), (4, .int (zI 0)), (0, .ref (aM Γ)), (1, .int (zI w))]) zC dX5_tells_124 hl (k := 4) rfl (by decide) rfl (fun ls hl => ?_)
                                refine lv_goto (tgt := 4) zC.1 zC.2.1 dX5_tells_127 (by decide) ?_
                                exact ih4 (u + 0) (q + 1) H locs ls (by first | assumption | omega) (by rw [ctI_s hq.1, ← hu]; unfold zB; split <;> omega) (by omega) hG (lv_sub hl [3, 4, 1, 0] rfl)
                              · refine lv_iload_n zC.1 zC.2.1 dX5_tells_98 rfl (lv_at hl 4 rfl) ?_
                                refine zr_iconst zC dX5_tells_99 ?_
                                refine zr_icmp_ge (tgt := 121) zC dX5_tells_100 (by decide) (by omega) (fun c100 => ?_) (fun c100 => ?_)
                                · refine zr_iconst zC dX5_tells_121 ?_
                                  refine zr_iadd zC dX5_tells_122 ?_
                                  refine lv_istore_n (lv' := [(2, .int (zI (u + 0))), (4, .int (zI 0)), (0, .ref (aM Γ)), (1, .int (zI w)), (3, .int (zI q))]) zC.1 zC.2.1 dX5_tells_123 rfl hl (by decide) rfl (fun ls hl => ?_)
                                  refine zr_iinc (lv' := [(3, .int (zI (q + 1))), (2, .int (zI (u + 0))), (4, .int (zI 0)), (0, .ref (aM Γ)), (1, .int (zI w))]) zC dX5_tells_124 hl (k := 4) rfl (by decide) rfl (fun ls hl => ?_)
                                  refine lv_goto (tgt := 4) zC.1 zC.2.1 dX5_tells_127 (by decide) ?_
                                  exact ih4 (u + 0) (q + 1) H locs ls (by first | assumption | omega) (by rw [ctI_s hq.1, ← hu]; unfold zB; split <;> omega) (by omega) hG (lv_sub hl [3, 4, 1, 0] rfl)
                                · refine lv_aload_n zC.1 zC.2.1 dX5_tells_103 rfl (lv_at hl 1 rfl) ?_
                                  refine gf_M_kept zC hG wl_X5_47 dX5_tells_104 ?_
                                  refine zr_bipush zC dX5_tells_107 (by decide +kernel) ?_
                                  refine lv_iload_n zC.1 zC.2.1 dX5_tells_109 rfl (lv_at hl 4 rfl) ?_
                                  refine zr_imul zC dX5_tells_110 ?_
                                  refine gi_m_kept (v := kpM (τ 7 q 3) (τ 7 q 4)) zC hG (by omega) (hR.2.2.2.2.2.2.2 q (by omega) (by omega)).1 dX5_tells_111 ?_
                                  have k111 := kpM_s (τ 7 q 3) (τ 7 q 4)
                                  have k111b := hI.2.2.2.2.2.2.2 q (by omega) (by omega)
                                  obtain ⟨k111c, k111d, -⟩ := k111b
                                  refine zr_bipush zC dX5_tells_112 (by decide +kernel) ?_
                                  refine zr_icmp_eq (tgt := 121) zC dX5_tells_114 (by decide) (by omega) (fun c114 => ?_) (fun c114 => ?_)
                                  · refine zr_iconst zC dX5_tells_121 ?_
                                    refine zr_iadd zC dX5_tells_122 ?_
                                    refine lv_istore_n (lv' := [(2, .int (zI (u + 0))), (4, .int (zI 0)), (0, .ref (aM Γ)), (1, .int (zI w)), (3, .int (zI q))]) zC.1 zC.2.1 dX5_tells_123 rfl hl (by decide) rfl (fun ls hl => ?_)
                                    refine zr_iinc (lv' := [(3, .int (zI (q + 1))), (2, .int (zI (u + 0))), (4, .int (zI 0)), (0, .ref (aM Γ)), (1, .int (zI w))]) zC dX5_tells_124 hl (k := 4) rfl (by decide) rfl (fun ls hl => ?_)
                                    refine lv_goto (tgt := 4) zC.1 zC.2.1 dX5_tells_127 (by decide) ?_
                                    exact ih4 (u + 0) (q + 1) H locs ls (by first | assumption | omega) (by rw [ctI_s hq.1, ← hu]; unfold zB; split <;> omega) (by omega) hG (lv_sub hl [3, 4, 1, 0] rfl)
                                  · refine zr_iconst zC dX5_tells_117 ?_
                                    refine lv_goto (tgt := 122) zC.1 zC.2.1 dX5_tells_118 (by decide) ?_
                                    refine zr_iadd zC dX5_tells_122 ?_
                                    refine lv_istore_n (lv' := [(2, .int (zI (u + 1))), (4, .int (zI 0)), (0, .ref (aM Γ)), (1, .int (zI w)), (3, .int (zI q))]) zC.1 zC.2.1 dX5_tells_123 rfl hl (by decide) rfl (fun ls hl => ?_)
                                    refine zr_iinc (lv' := [(3, .int (zI (q + 1))), (2, .int (zI (u + 1))), (4, .int (zI 0)), (0, .ref (aM Γ)), (1, .int (zI w))]) zC dX5_tells_124 hl (k := 4) rfl (by decide) rfl (fun ls hl => ?_)
                                    refine lv_goto (tgt := 4) zC.1 zC.2.1 dX5_tells_127 (by decide) ?_
                                    exact ih4 (u + 1) (q + 1) H locs ls (by first | assumption | omega) (by rw [ctI_s hq.1, ← hu]; unfold zB; split <;> omega) (by omega) hG (lv_sub hl [3, 4, 1, 0] rfl)
                · refine zr_iconst zC dX5_tells_46 ?_
                  refine lv_goto (tgt := 51) zC.1 zC.2.1 dX5_tells_47 (by decide) ?_
                  refine lv_istore (lv' := [(4, .int (zI 1)), (0, .ref (aM Γ)), (1, .int (zI w)), (2, .int (zI u)), (3, .int (zI q))]) zC.1 zC.2.1 dX5_tells_51 hl (by decide) rfl (fun ls hl => ?_)
                  refine lv_iload_n zC.1 zC.2.1 dX5_tells_53 rfl (lv_at hl 3 rfl) ?_
                  refine lv_iload zC.1 zC.2.1 dX5_tells_54 (lv_at hl 0 rfl) ?_
                  refine zr_if_ne (tgt := 117) zC dX5_tells_56 (by decide) (by omega) (fun c56 => ?_) (fun c56 => ?_)
                  · refine zr_iconst zC dX5_tells_117 ?_
                    refine lv_goto (tgt := 122) zC.1 zC.2.1 dX5_tells_118 (by decide) ?_
                    refine zr_iadd zC dX5_tells_122 ?_
                    refine lv_istore_n (lv' := [(2, .int (zI (u + 1))), (4, .int (zI 1)), (0, .ref (aM Γ)), (1, .int (zI w)), (3, .int (zI q))]) zC.1 zC.2.1 dX5_tells_123 rfl hl (by decide) rfl (fun ls hl => ?_)
                    refine zr_iinc (lv' := [(3, .int (zI (q + 1))), (2, .int (zI (u + 1))), (4, .int (zI 1)), (0, .ref (aM Γ)), (1, .int (zI w))]) zC dX5_tells_124 hl (k := 4) rfl (by decide) rfl (fun ls hl => ?_)
                    refine lv_goto (tgt := 4) zC.1 zC.2.1 dX5_tells_127 (by decide) ?_
                    exact ih4 (u + 1) (q + 1) H locs ls (by first | assumption | omega) (by rw [ctI_s hq.1, ← hu]; unfold zB; split <;> omega) (by omega) hG (lv_sub hl [3, 4, 1, 0] rfl)
                  · refine lv_iload_n zC.1 zC.2.1 dX5_tells_59 rfl (lv_at hl 2 rfl) ?_
                    refine zr_iconst zC dX5_tells_60 ?_
                    refine zr_icmp_ne (tgt := 73) zC dX5_tells_61 (by decide) (by omega) (fun c61 => ?_) (fun c61 => ?_)
                    · refine lv_iload_n zC.1 zC.2.1 dX5_tells_73 rfl (lv_at hl 2 rfl) ?_
                      refine zr_iconst zC dX5_tells_74 ?_
                      refine zr_icmp_ne (tgt := 92) zC dX5_tells_75 (by decide) (by omega) (fun c75 => ?_) (fun c75 => ?_)
                      · refine lv_iload_n zC.1 zC.2.1 dX5_tells_92 rfl (lv_at hl 2 rfl) ?_
                        refine zr_bipush zC dX5_tells_93 (by decide +kernel) ?_
                        refine zr_icmp_ne (tgt := 121) zC dX5_tells_95 (by decide) (by omega) (fun c95 => ?_) (fun c95 => ?_)
                        · refine zr_iconst zC dX5_tells_121 ?_
                          refine zr_iadd zC dX5_tells_122 ?_
                          refine lv_istore_n (lv' := [(2, .int (zI (u + 0))), (4, .int (zI 1)), (0, .ref (aM Γ)), (1, .int (zI w)), (3, .int (zI q))]) zC.1 zC.2.1 dX5_tells_123 rfl hl (by decide) rfl (fun ls hl => ?_)
                          refine zr_iinc (lv' := [(3, .int (zI (q + 1))), (2, .int (zI (u + 0))), (4, .int (zI 1)), (0, .ref (aM Γ)), (1, .int (zI w))]) zC dX5_tells_124 hl (k := 4) rfl (by decide) rfl (fun ls hl => ?_)
                          refine lv_goto (tgt := 4) zC.1 zC.2.1 dX5_tells_127 (by decide) ?_
                          exact ih4 (u + 0) (q + 1) H locs ls (by first | assumption | omega) (by rw [ctI_s hq.1, ← hu]; unfold zB; split <;> omega) (by omega) hG (lv_sub hl [3, 4, 1, 0] rfl)
                        · refine lv_iload_n zC.1 zC.2.1 dX5_tells_98 rfl (lv_at hl 4 rfl) ?_
                          refine zr_iconst zC dX5_tells_99 ?_
                          refine zr_icmp_ge (tgt := 121) zC dX5_tells_100 (by decide) (by omega) (fun c100 => ?_) (fun c100 => ?_)
                          · refine zr_iconst zC dX5_tells_121 ?_
                            refine zr_iadd zC dX5_tells_122 ?_
                            refine lv_istore_n (lv' := [(2, .int (zI (u + 0))), (4, .int (zI 1)), (0, .ref (aM Γ)), (1, .int (zI w)), (3, .int (zI q))]) zC.1 zC.2.1 dX5_tells_123 rfl hl (by decide) rfl (fun ls hl => ?_)
                            refine zr_iinc (lv' := [(3, .int (zI (q + 1))), (2, .int (zI (u + 0))), (4, .int (zI 1)), (0, .ref (aM Γ)), (1, .int (zI w))]) zC dX5_tells_124 hl (k := 4) rfl (by decide) rfl (fun ls hl => ?_)
                            refine lv_goto (tgt := 4) zC.1 zC.2.1 dX5_tells_127 (by decide) ?_
                            exact ih4 (u + 0) (q + 1) H locs ls (by first | assumption | omega) (by rw [ctI_s hq.1, ← hu]; unfold zB; split <;> omega) (by omega) hG (lv_sub hl [3, 4, 1, 0] rfl)
                          · refine lv_aload_n zC.1 zC.2.1 dX5_tells_103 rfl (lv_at hl 1 rfl) ?_
                            refine gf_M_kept zC hG wl_X5_47 dX5_tells_104 ?_
                            refine zr_bipush zC dX5_tells_107 (by decide +kernel) ?_
                            refine lv_iload_n zC.1 zC.2.1 dX5_tells_109 rfl (lv_at hl 4 rfl) ?_
                            refine zr_imul zC dX5_tells_110 ?_
                            refine gi_m_kept (v := kpM (τ 7 q 3) (τ 7 q 4)) zC hG (by omega) (hR.2.2.2.2.2.2.2 q (by omega) (by omega)).1 dX5_tells_111 ?_
                            have k111 := kpM_s (τ 7 q 3) (τ 7 q 4)
                            have k111b := hI.2.2.2.2.2.2.2 q (by omega) (by omega)
                            obtain ⟨k111c, k111d, -⟩ := k111b
                            refine zr_bipush zC dX5_tells_112 (by decide +kernel) ?_
                            refine zr_icmp_eq (tgt := 121) zC dX5_tells_114 (by decide) (by omega) (fun c114 => ?_) (fun c114 => ?_)
                            · refine zr_iconst zC dX5_tells_121 ?_
                              refine zr_iadd zC dX5_tells_122 ?_
                              refine lv_istore_n (lv' := [(2, .int (zI (u + 0))), (4, .int (zI 1)), (0, .ref (aM Γ)), (1, .int (zI w)), (3, .int (zI q))]) zC.1 zC.2.1 dX5_tells_123 rfl hl (by decide) rfl (fun ls hl => ?_)
                              refine zr_iinc (lv' := [(3, .int (zI (q + 1))), (2, .int (zI (u + 0))), (4, .int (zI 1)), (0, .ref (aM Γ)), (1, .int (zI w))]) zC dX5_tells_124 hl (k := 4) rfl (by decide) rfl (fun ls hl => ?_)
                              refine lv_goto (tgt := 4) zC.1 zC.2.1 dX5_tells_127 (by decide) ?_
                              exact ih4 (u + 0) (q + 1) H locs ls (by first | assumption | omega) (by rw [ctI_s hq.1, ← hu]; unfold zB; split <;> omega) (by omega) hG (lv_sub hl [3, 4, 1, 0] rfl)
                            · refine zr_iconst zC dX5_tells_117 ?_
                              refine lv_goto (tgt := 122) zC.1 zC.2.1 dX5_tells_118 (by decide) ?_
                              refine zr_iadd zC dX5_tells_122 ?_
                              refine lv_istore_n (lv' := [(2, .int (zI (u + 1))), (4, .int (zI 1)), (0, .ref (aM Γ)), (1, .int (zI w)), (3, .int (zI q))]) zC.1 zC.2.1 dX5_tells_123 rfl hl (by decide) rfl (fun ls hl => ?_)
                              refine zr_iinc (lv' := [(3, .int (zI (q + 1))), (2, .int (zI (u + 1))), (4, .int (zI 1)), (0, .ref (aM Γ)), (1, .int (zI w))]) zC dX5_tells_124 hl (k := 4) rfl (by decide) rfl (fun ls hl => ?_)
                              refine lv_goto (tgt := 4) zC.1 zC.2.1 dX5_tells_127 (by decide) ?_
                              exact ih4 (u + 1) (q + 1) H locs ls (by first | assumption | omega) (by rw [ctI_s hq.1, ← hu]; unfold zB; split <;> omega) (by omega) hG (lv_sub hl [3, 4, 1, 0] rfl)
                      · refine lv_iload_n zC.1 zC.2.1 dX5_tells_78 rfl (lv_at hl 4 rfl) ?_
                        refine zr_iconst zC dX5_tells_79 ?_
                        refine zr_icmp_ge (tgt := 92) zC dX5_tells_80 (by decide) (by omega) (fun c80 => ?_) (fun c80 => ?_)
                        · refine lv_iload_n zC.1 zC.2.1 dX5_tells_92 rfl (lv_at hl 2 rfl) ?_
                          refine zr_bipush zC dX5_tells_93 (by decide +kernel) ?_
                          refine zr_icmp_ne (tgt := 121) zC dX5_tells_95 (by decide) (by omega) (fun c95 => ?_) (fun c95 => ?_)
                          · refine zr_iconst zC dX5_tells_121 ?_
                            refine zr_iadd zC dX5_tells_122 ?_
                            refine lv_istore_n (lv' := [(2, .int (zI (u + 0))), (4, .int (zI 1)), (0, .ref (aM Γ)), (1, .int (zI w)), (3, .int (zI q))]) zC.1 zC.2.1 dX5_tells_123 rfl hl (by decide) rfl (fun ls hl => ?_)
                            refine zr_iinc (lv' := [(3, .int (zI (q + 1))), (2, .int (zI (u + 0))), (4, .int (zI 1)), (0, .ref (aM Γ)), (1, .int (zI w))]) zC dX5_tells_124 hl (k := 4) rfl (by decide) rfl (fun ls hl => ?_)
                            refine lv_goto (tgt := 4) zC.1 zC.2.1 dX5_tells_127 (by decide) ?_
                            exact ih4 (u + 0) (q + 1) H locs ls (by first | assumption | omega) (by rw [ctI_s hq.1, ← hu]; unfold zB; split <;> omega) (by omega) hG (lv_sub hl [3, 4, 1, 0] rfl)
                          · refine lv_iload_n zC.1 zC.2.1 dX5_tells_98 rfl (lv_at hl 4 rfl) ?_
                            refine zr_iconst zC dX5_tells_99 ?_
                            refine zr_icmp_ge (tgt := 121) zC dX5_tells_100 (by decide) (by omega) (fun c100 => ?_) (fun c100 => ?_)
                            · refine zr_iconst zC dX5_tells_121 ?_
                              refine zr_iadd zC dX5_tells_122 ?_
                              refine lv_istore_n (lv' := [(2, .int (zI (u + 0))), (4, .int (zI 1)), (0, .ref (aM Γ)), (1, .int (zI w)), (3, .int (zI q))]) zC.1 zC.2.1 dX5_tells_123 rfl hl (by decide) rfl (fun ls hl => ?_)
                              refine zr_iinc (lv' := [(3, .int (zI (q + 1))), (2, .int (zI (u + 0))), (4, .int (zI 1)), (0, .ref (aM Γ)), (1, .int (zI w))]) zC dX5_tells_124 hl (k := 4) rfl (by decide) rfl (fun ls hl => ?_)
                              refine lv_goto (tgt := 4) zC.1 zC.2.1 dX5_tells_127 (by decide) ?_
                              exact ih4 (u + 0) (q + 1) H locs ls (by first | assumption | omega) (by rw [ctI_s hq.1, ← hu]; unfold zB; split <;> omega) (by omega) hG (lv_sub hl [3, 4, 1, 0] rfl)
                            · refine lv_aload_n zC.1 zC.2.1 dX5_tells_103 rfl (lv_at hl 1 rfl) ?_
                              refine gf_M_kept zC hG wl_X5_47 dX5_tells_104 ?_
                              refine zr_bipush zC dX5_tells_107 (by decide +kernel) ?_
                              refine lv_iload_n zC.1 zC.2.1 dX5_tells_109 rfl (lv_at hl 4 rfl) ?_
                              refine zr_imul zC dX5_tells_110 ?_
                              refine gi_m_kept (v := kpM (τ 7 q 3) (τ 7 q 4)) zC hG (by omega) (hR.2.2.2.2.2.2.2 q (by omega) (by omega)).1 dX5_tells_111 ?_
                              have k111 := kpM_s (τ 7 q 3) (τ 7 q 4)
                              have k111b := hI.2.2.2.2.2.2.2 q (by omega) (by omega)
                              obtain ⟨k111c, k111d, -⟩ := k111b
                              refine zr_bipush zC dX5_tells_112 (by decide +kernel) ?_
                              refine zr_icmp_eq (tgt := 121) zC dX5_tells_114 (by decide) (by omega) (fun c114 => ?_) (fun c114 => ?_)
                              · refine zr_iconst zC dX5_tells_121 ?_
                                refine zr_iadd zC dX5_tells_122 ?_
                                refine lv_istore_n (lv' := [(2, .int (zI (u + 0))), (4, .int (zI 1)), (0, .ref (aM Γ)), (1, .int (zI w)), (3, .int (zI q))]) zC.1 zC.2.1 dX5_tells_123 rfl hl (by decide) rfl (fun ls hl => ?_)
                                refine zr_iinc (lv' := [(3, .int (zI (q + 1))), (2, .int (zI (u + 0))), (4, .int (zI 1)), (0, .ref (aM Γ)), (1, .int (zI w))]) zC dX5_tells_124 hl (k := 4) rfl (by decide) rfl (fun ls hl => ?_)
                                refine lv_goto (tgt := 4) zC.1 zC.2.1 dX5_tells_127 (by decide) ?_
                                exact ih4 (u + 0) (q + 1) H locs ls (by first | assumption | omega) (by rw [ctI_s hq.1, ← hu]; unfold zB; split <;> omega) (by omega) hG (lv_sub hl [3, 4, 1, 0] rfl)
                              · refine zr_iconst zC dX5_tells_117 ?_
                                refine lv_goto (tgt := 122) zC.1 zC.2.1 dX5_tells_118 (by decide) ?_
                                refine zr_iadd zC dX5_tells_122 ?_
                                refine lv_istore_n (lv' := [(2, .int (zI (u + 1))), (4, .int (zI 1)), (0, .ref (aM Γ)), (1, .int (zI w)), (3, .int (zI q))]) zC.1 zC.2.1 dX5_tells_123 rfl hl (by decide) rfl (fun ls hl => ?_)
                                refine zr_iinc (lv' := [(3, .int (zI (q + 1))), (2, .int (zI (u + 1))), (4, .int (zI 1)), (0, .ref (aM Γ)), (1, .int (zI w))]) zC dX5_tells_124 hl (k := 4) rfl (by decide) rfl (fun ls hl => ?_)
                                refine lv_goto (tgt := 4) zC.1 zC.2.1 dX5_tells_127 (by decide) ?_
                                exact ih4 (u + 1) (q + 1) H locs ls (by first | assumption | omega) (by rw [ctI_s hq.1, ← hu]; unfold zB; split <;> omega) (by omega) hG (lv_sub hl [3, 4, 1, 0] rfl)
                        · refine lv_aload_n zC.1 zC.2.1 dX5_tells_83 rfl (lv_at hl 1 rfl) ?_
                          refine gf_M_lengths zC hG wl_X5_26 dX5_tells_84 ?_
                          refine lv_iload_n zC.1 zC.2.1 dX5_tells_87 rfl (lv_at hl 4 rfl) ?_
                          refine gi_m_lengths (v := szM (τ 4 q 1)) zC hG (by omega) (hR.2.2.2.2.1 q (by omega) (by omega)) dX5_tells_88 ?_
                          have f88 := hI.2.2.2.2.1 q (by omega) (by omega)
                          have f88s := szM_s (τ 4 q 1)
                          refine zr_if_ge (tgt := 117) zC dX5_tells_89 (by decide) (by omega) (fun c89 => ?_) (fun c89 => ?_)
                          · refine zr_iconst zC dX5_tells_117 ?_
                            refine lv_goto (tgt := 122) zC.1 zC.2.1 dX5_tells_118 (by decide) ?_
                            refine zr_iadd zC dX5_tells_122 ?_
                            refine lv_istore_n (lv' := [(2, .int (zI (u + 1))), (4, .int (zI 1)), (0, .ref (aM Γ)), (1, .int (zI w)), (3, .int (zI q))]) zC.1 zC.2.1 dX5_tells_123 rfl hl (by decide) rfl (fun ls hl => ?_)
                            refine zr_iinc (lv' := [(3, .int (zI (q + 1))), (2, .int (zI (u + 1))), (4, .int (zI 1)), (0, .ref (aM Γ)), (1, .int (zI w))]) zC dX5_tells_124 hl (k := 4) rfl (by decide) rfl (fun ls hl => ?_)
                            refine lv_goto (tgt := 4) zC.1 zC.2.1 dX5_tells_127 (by decide) ?_
                            exact ih4 (u + 1) (q + 1) H locs ls (by first | assumption | omega) (by rw [ctI_s hq.1, ← hu]; unfold zB; split <;> omega) (by omega) hG (lv_sub hl [3, 4, 1, 0] rfl)
                          · refine lv_iload_n zC.1 zC.2.1 dX5_tells_92 rfl (lv_at hl 2 rfl) ?_
                            refine zr_bipush zC dX5_tells_93 (by decide +kernel) ?_
                            refine zr_icmp_ne (tgt := 121) zC dX5_tells_95 (by decide) (by omega) (fun c95 => ?_) (fun c95 => ?_)
                            · refine zr_iconst zC dX5_tells_121 ?_
                              refine zr_iadd zC dX5_tells_122 ?_
                              refine lv_istore_n (lv' := [(2, .int (zI (u + 0))), (4, .int (zI 1)), (0, .ref (aM Γ)), (1, .int (zI w)), (3, .int (zI q))]) zC.1 zC.2.1 dX5_tells_123 rfl hl (by decide) rfl (fun ls hl => ?_)
                              refine zr_iinc (lv' := [(3, .int (zI (q + 1))), (2, .int (zI (u + 0))), (4, .int (zI 1)), (0, .ref (aM Γ)), (1, .int (zI w))]) zC dX5_tells_124 hl (k := 4) rfl (by decide) rfl (fun ls hl => ?_)
                              refine lv_goto (tgt := 4) zC.1 zC.2.1 dX5_tells_127 (by decide) ?_
                              exact ih4 (u + 0) (q + 1) H locs ls (by first | assumption | omega) (by rw [ctI_s hq.1, ← hu]; unfold zB; split <;> omega) (by omega) hG (lv_sub hl [3, 4, 1, 0] rfl)
                            · refine lv_iload_n zC.1 zC.2.1 dX5_tells_98 rfl (lv_at hl 4 rfl) ?_
                              refine zr_iconst zC dX5_tells_99 ?_
                              refine zr_icmp_ge (tgt := 121) zC dX5_tells_100 (by decide) (by omega) (fun c100 => ?_) (fun c100 => ?_)
                              · refine zr_iconst zC dX5_tells_121 ?_
                                refine zr_iadd zC dX5_tells_122 ?_
                                refine lv_istore_n (lv' := [(2, .int (zI (u + 0))), (4, .int (zI 1)), (0, .ref (aM Γ)), (1, .int (zI w)), (3, .int (zI q))]) zC.1 zC.2.1 dX5_tells_123 rfl hl (by decide) rfl (fun ls hl => ?_)
                                refine zr_iinc (lv' := [(3, .int (zI (q + 1))), (2, .int (zI (u + 0))), (4, .int (zI 1)), (0, .ref (aM Γ)), (1, .int (zI w))]) zC dX5_tells_124 hl (k := 4) rfl (by decide) rfl (fun ls hl => ?_)
                                refine lv_goto (tgt := 4) zC.1 zC.2.1 dX5_tells_127 (by decide) ?_
                                exact ih4 (u + 0) (q + 1) H locs ls (by first | assumption | omega) (by rw [ctI_s hq.1, ← hu]; unfold zB; split <;> omega) (by omega) hG (lv_sub hl [3, 4, 1, 0] rfl)
                              · refine lv_aload_n zC.1 zC.2.1 dX5_tells_103 rfl (lv_at hl 1 rfl) ?_
                                refine gf_M_kept zC hG wl_X5_47 dX5_tells_104 ?_
                                refine zr_bipush zC dX5_tells_107 (by decide +kernel) ?_
                                refine lv_iload_n zC.1 zC.2.1 dX5_tells_109 rfl (lv_at hl 4 rfl) ?_
                                refine zr_imul zC dX5_tells_110 ?_
                                refine gi_m_kept (v := kpM (τ 7 q 3) (τ 7 q 4)) zC hG (by omega) (hR.2.2.2.2.2.2.2 q (by omega) (by omega)).1 dX5_tells_111 ?_
                                have k111 := kpM_s (τ 7 q 3) (τ 7 q 4)
                                have k111b := hI.2.2.2.2.2.2.2 q (by omega) (by omega)
                                obtain ⟨k111c, k111d, -⟩ := k111b
                                refine zr_bipush zC dX5_tells_112 (by decide +kernel) ?_
                                refine zr_icmp_eq (tgt := 121) zC dX5_tells_114 (by decide) (by omega) (fun c114 => ?_) (fun c114 => ?_)
                                · refine zr_iconst zC dX5_tells_121 ?_
                                  refine zr_iadd zC dX5_tells_122 ?_
                                  refine lv_istore_n (lv' := [(2, .int (zI (u + 0))), (4, .int (zI 1)), (0, .ref (aM Γ)), (1, .int (zI w)), (3, .int (zI q))]) zC.1 zC.2.1 dX5_tells_123 rfl hl (by decide) rfl (fun ls hl => ?_)
                                  refine zr_iinc (lv' := [(3, .int (zI (q + 1))), (2, .int (zI (u + 0))), (4, .int (zI 1)), (0, .ref (aM Γ)), (1, .int (zI w))]) zC dX5_tells_124 hl (k := 4) rfl (by decide) rfl (fun ls hl => ?_)
                                  refine lv_goto (tgt := 4) zC.1 zC.2.1 dX5_tells_127 (by decide) ?_
                                  exact ih4 (u + 0) (q + 1) H locs ls (by first | assumption | omega) (by rw [ctI_s hq.1, ← hu]; unfold zB; split <;> omega) (by omega) hG (lv_sub hl [3, 4, 1, 0] rfl)
                                · refine zr_iconst zC dX5_tells_117 ?_
                                  refine lv_goto (tgt := 122) zC.1 zC.2.1 dX5_tells_118 (by decide) ?_
                                  refine zr_iadd zC dX5_tells_122 ?_
                                  refine lv_istore_n (lv' := [(2, .int (zI (u + 1))), (4, .int (zI 1)), (0, .ref (aM Γ)), (1, .int (zI w)), (3, .int (zI q))]) zC.1 zC.2.1 dX5_tells_123 rfl hl (by decide) rfl (fun ls hl => ?_)
                                  refine zr_iinc (lv' := [(3, .int (zI (q + 1))), (2, .int (zI (u + 1))), (4, .int (zI 1)), (0, .ref (aM Γ)), (1, .int (zI w))]) zC dX5_tells_124 hl (k := 4) rfl (by decide) rfl (fun ls hl => ?_)
                                  refine lv_goto (tgt := 4) zC.1 zC.2.1 dX5_tells_127 (by decide) ?_
                                  exact ih4 (u + 1) (q + 1) H locs ls (by first | assumption | omega) (by rw [ctI_s hq.1, ← hu]; unfold zB; split <;> omega) (by omega) hG (lv_sub hl [3, 4, 1, 0] rfl)
                    · refine lv_aload_n zC.1 zC.2.1 dX5_tells_64 rfl (lv_at hl 1 rfl) ?_
                      refine gf_M_sizes zC hG wl_X5_17 dX5_tells_65 ?_
                      refine lv_iload_n zC.1 zC.2.1 dX5_tells_68 rfl (lv_at hl 4 rfl) ?_
                      refine gi_m_sizes (v := szM (τ 2 q 1)) zC hG (by omega) (hR.2.2.1 q (by omega) (by omega)) dX5_tells_69 ?_
                      have f69 := hI.2.2.1 q (by omega) (by omega)
                      have f69s := szM_s (τ 2 q 1)
                      refine zr_if_ge (tgt := 117) zC dX5_tells_70 (by decide) (by omega) (fun c70 => ?_) (fun c70 => ?_)
                      · refine zr_iconst zC dX5_tells_117 ?_
                        refine lv_goto (tgt := 122) zC.1 zC.2.1 dX5_tells_118 (by decide) ?_
                        refine zr_iadd zC dX5_tells_122 ?_
                        refine lv_istore_n (lv' := [(2, .int (zI (u + 1))), (4, .int (zI 1)), (0, .ref (aM Γ)), (1, .int (zI w)), (3, .int (zI q))]) zC.1 zC.2.1 dX5_tells_123 rfl hl (by decide) rfl (fun ls hl => ?_)
                        refine zr_iinc (lv' := [(3, .int (zI (q + 1))), (2, .int (zI (u + 1))), (4, .int (zI 1)), (0, .ref (aM Γ)), (1, .int (zI w))]) zC dX5_tells_124 hl (k := 4) rfl (by decide) rfl (fun ls hl => ?_)
                        refine lv_goto (tgt := 4) zC.1 zC.2.1 dX5_tells_127 (by decide) ?_
                        exact ih4 (u + 1) (q + 1) H locs ls (by first | assumption | omega) (by rw [ctI_s hq.1, ← hu]; unfold zB; split <;> omega) (by omega) hG (lv_sub hl [3, 4, 1, 0] rfl)
                      · refine lv_iload_n zC.1 zC.2.1 dX5_tells_73 rfl (lv_at hl 2 rfl) ?_
                        refine zr_iconst zC dX5_tells_74 ?_
                        refine zr_icmp_ne (tgt := 92) zC dX5_tells_75 (by decide) (by omega) (fun c75 => ?_) (fun c75 => ?_)
                        · refine lv_iload_n zC.1 zC.2.1 dX5_tells_92 rfl (lv_at hl 2 rfl) ?_
                          refine zr_bipush zC dX5_tells_93 (by decide +kernel) ?_
                          refine zr_icmp_ne (tgt := 121) zC dX5_tells_95 (by decide) (by omega) (fun c95 => ?_) (fun c95 => ?_)
                          · refine zr_iconst zC dX5_tells_121 ?_
                            refine zr_iadd zC dX5_tells_122 ?_
                            refine lv_istore_n (lv' := [(2, .int (zI (u + 0))), (4, .int (zI 1)), (0, .ref (aM Γ)), (1, .int (zI w)), (3, .int (zI q))]) zC.1 zC.2.1 dX5_tells_123 rfl hl (by decide) rfl (fun ls hl => ?_)
                            refine zr_iinc (lv' := [(3, .int (zI (q + 1))), (2, .int (zI (u + 0))), (4, .int (zI 1)), (0, .ref (aM Γ)), (1, .int (zI w))]) zC dX5_tells_124 hl (k := 4) rfl (by decide) rfl (fun ls hl => ?_)
                            refine lv_goto (tgt := 4) zC.1 zC.2.1 dX5_tells_127 (by decide) ?_
                            exact ih4 (u + 0) (q + 1) H locs ls (by first | assumption | omega) (by rw [ctI_s hq.1, ← hu]; unfold zB; split <;> omega) (by omega) hG (lv_sub hl [3, 4, 1, 0] rfl)
                          · refine lv_iload_n zC.1 zC.2.1 dX5_tells_98 rfl (lv_at hl 4 rfl) ?_
                            refine zr_iconst zC dX5_tells_99 ?_
                            refine zr_icmp_ge (tgt := 121) zC dX5_tells_100 (by decide) (by omega) (fun c100 => ?_) (fun c100 => ?_)
                            · refine zr_iconst zC dX5_tells_121 ?_
                              refine zr_iadd zC dX5_tells_122 ?_
                              refine lv_istore_n (lv' := [(2, .int (zI (u + 0))), (4, .int (zI 1)), (0, .ref (aM Γ)), (1, .int (zI w)), (3, .int (zI q))]) zC.1 zC.2.1 dX5_tells_123 rfl hl (by decide) rfl (fun ls hl => ?_)
                              refine zr_iinc (lv' := [(3, .int (zI (q + 1))), (2, .int (zI (u + 0))), (4, .int (zI 1)), (0, .ref (aM Γ)), (1, .int (zI w))]) zC dX5_tells_124 hl (k := 4) rfl (by decide) rfl (fun ls hl => ?_)
                              refine lv_goto (tgt := 4) zC.1 zC.2.1 dX5_tells_127 (by decide) ?_
                              exact ih4 (u + 0) (q + 1) H locs ls (by first | assumption | omega) (by rw [ctI_s hq.1, ← hu]; unfold zB; split <;> omega) (by omega) hG (lv_sub hl [3, 4, 1, 0] rfl)
                            · refine lv_aload_n zC.1 zC.2.1 dX5_tells_103 rfl (lv_at hl 1 rfl) ?_
                              refine gf_M_kept zC hG wl_X5_47 dX5_tells_104 ?_
                              refine zr_bipush zC dX5_tells_107 (by decide +kernel) ?_
                              refine lv_iload_n zC.1 zC.2.1 dX5_tells_109 rfl (lv_at hl 4 rfl) ?_
                              refine zr_imul zC dX5_tells_110 ?_
                              refine gi_m_kept (v := kpM (τ 7 q 3) (τ 7 q 4)) zC hG (by omega) (hR.2.2.2.2.2.2.2 q (by omega) (by omega)).1 dX5_tells_111 ?_
                              have k111 := kpM_s (τ 7 q 3) (τ 7 q 4)
                              have k111b := hI.2.2.2.2.2.2.2 q (by omega) (by omega)
                              obtain ⟨k111c, k111d, -⟩ := k111b
                              refine zr_bipush zC dX5_tells_112 (by decide +kernel) ?_
                              refine zr_icmp_eq (tgt := 121) zC dX5_tells_114 (by decide) (by omega) (fun c114 => ?_) (fun c114 => ?_)
                              · refine zr_iconst zC dX5_tells_121 ?_
                                refine zr_iadd zC dX5_tells_122 ?_
                                refine lv_istore_n (lv' := [(2, .int (zI (u + 0))), (4, .int (zI 1)), (0, .ref (aM Γ)), (1, .int (zI w)), (3, .int (zI q))]) zC.1 zC.2.1 dX5_tells_123 rfl hl (by decide) rfl (fun ls hl => ?_)
                                refine zr_iinc (lv' := [(3, .int (zI (q + 1))), (2, .int (zI (u + 0))), (4, .int (zI 1)), (0, .ref (aM Γ)), (1, .int (zI w))]) zC dX5_tells_124 hl (k := 4) rfl (by decide) rfl (fun ls hl => ?_)
                                refine lv_goto (tgt := 4) zC.1 zC.2.1 dX5_tells_127 (by decide) ?_
                                exact ih4 (u + 0) (q + 1) H locs ls (by first | assumption | omega) (by rw [ctI_s hq.1, ← hu]; unfold zB; split <;> omega) (by omega) hG (lv_sub hl [3, 4, 1, 0] rfl)
                              · refine zr_iconst zC dX5_tells_117 ?_
                                refine lv_goto (tgt := 122) zC.1 zC.2.1 dX5_tells_118 (by decide) ?_
                                refine zr_iadd zC dX5_tells_122 ?_
                                refine lv_istore_n (lv' := [(2, .int (zI (u + 1))), (4, .int (zI 1)), (0, .ref (aM Γ)), (1, .int (zI w)), (3, .int (zI q))]) zC.1 zC.2.1 dX5_tells_123 rfl hl (by decide) rfl (fun ls hl => ?_)
                                refine zr_iinc (lv' := [(3, .int (zI (q + 1))), (2, .int (zI (u + 1))), (4, .int (zI 1)), (0, .ref (aM Γ)), (1, .int (zI w))]) zC dX5_tells_124 hl (k := 4) rfl (by decide) rfl (fun ls hl => ?_)
                                refine lv_goto (tgt := 4) zC.1 zC.2.1 dX5_tells_127 (by decide) ?_
                                exact ih4 (u + 1) (q + 1) H locs ls (by first | assumption | omega) (by rw [ctI_s hq.1, ← hu]; unfold zB; split <;> omega) (by omega) hG (lv_sub hl [3, 4, 1, 0] rfl)
                        · refine lv_iload_n zC.1 zC.2.1 dX5_tells_78 rfl (lv_at hl 4 rfl) ?_
                          refine zr_iconst zC dX5_tells_79 ?_
                          refine zr_icmp_ge (tgt := 92) zC dX5_tells_80 (by decide) (by omega) (fun c80 => ?_) (fun c80 => ?_)
                          · refine lv_iload_n zC.1 zC.2.1 dX5_tells_92 rfl (lv_at hl 2 rfl) ?_
                            refine zr_bipush zC dX5_tells_93 (by decide +kernel) ?_
                            refine zr_icmp_ne (tgt := 121) zC dX5_tells_95 (by decide) (by omega) (fun c95 => ?_) (fun c95 => ?_)
                            · refine zr_iconst zC dX5_tells_121 ?_
                              refine zr_iadd zC dX5_tells_122 ?_
                              refine lv_istore_n (lv' := [(2, .int (zI (u + 0))), (4, .int (zI 1)), (0, .ref (aM Γ)), (1, .int (zI w)), (3, .int (zI q))]) zC.1 zC.2.1 dX5_tells_123 rfl hl (by decide) rfl (fun ls hl => ?_)
                              refine zr_iinc (lv' := [(3, .int (zI (q + 1))), (2, .int (zI (u + 0))), (4, .int (zI 1)), (0, .ref (aM Γ)), (1, .int (zI w))]) zC dX5_tells_124 hl (k := 4) rfl (by decide) rfl (fun ls hl => ?_)
                              refine lv_goto (tgt := 4) zC.1 zC.2.1 dX5_tells_127 (by decide) ?_
                              exact ih4 (u + 0) (q + 1) H locs ls (by first | assumption | omega) (by rw [ctI_s hq.1, ← hu]; unfold zB; split <;> omega) (by omega) hG (lv_sub hl [3, 4, 1, 0] rfl)
                            · refine lv_iload_n zC.1 zC.2.1 dX5_tells_98 rfl (lv_at hl 4 rfl) ?_
                              refine zr_iconst zC dX5_tells_99 ?_
                              refine zr_icmp_ge (tgt := 121) zC dX5_tells_100 (by decide) (by omega) (fun c100 => ?_) (fun c100 => ?_)
                              · refine zr_iconst zC dX5_tells_121 ?_
                                refine zr_iadd zC dX5_tells_122 ?_
                                refine lv_istore_n (lv' := [(2, .int (zI (u + 0))), (4, .int (zI 1)), (0, .ref (aM Γ)), (1, .int (zI w)), (3, .int (zI q))]) zC.1 zC.2.1 dX5_tells_123 rfl hl (by decide) rfl (fun ls hl => ?_)
                                refine zr_iinc (lv' := [(3, .int (zI (q + 1))), (2, .int (zI (u + 0))), (4, .int (zI 1)), (0, .ref (aM Γ)), (1, .int (zI w))]) zC dX5_tells_124 hl (k := 4) rfl (by decide) rfl (fun ls hl => ?_)
                                refine lv_goto (tgt := 4) zC.1 zC.2.1 dX5_tells_127 (by decide) ?_
                                exact ih4 (u + 0) (q + 1) H locs ls (by first | assumption | omega) (by rw [ctI_s hq.1, ← hu]; unfold zB; split <;> omega) (by omega) hG (lv_sub hl [3, 4, 1, 0] rfl)
                              · refine lv_aload_n zC.1 zC.2.1 dX5_tells_103 rfl (lv_at hl 1 rfl) ?_
                                refine gf_M_kept zC hG wl_X5_47 dX5_tells_104 ?_
                                refine zr_bipush zC dX5_tells_107 (by decide +kernel) ?_
                                refine lv_iload_n zC.1 zC.2.1 dX5_tells_109 rfl (lv_at hl 4 rfl) ?_
                                refine zr_imul zC dX5_tells_110 ?_
                                refine gi_m_kept (v := kpM (τ 7 q 3) (τ 7 q 4)) zC hG (by omega) (hR.2.2.2.2.2.2.2 q (by omega) (by omega)).1 dX5_tells_111 ?_
                                have k111 := kpM_s (τ 7 q 3) (τ 7 q 4)
                                have k111b := hI.2.2.2.2.2.2.2 q (by omega) (by omega)
                                obtain ⟨k111c, k111d, -⟩ := k111b
                                refine zr_bipush zC dX5_tells_112 (by decide +kernel) ?_
                                refine zr_icmp_eq (tgt := 121) zC dX5_tells_114 (by decide) (by omega) (fun c114 => ?_) (fun c114 => ?_)
                                · refine zr_iconst zC dX5_tells_121 ?_
                                  refine zr_iadd zC dX5_tells_122 ?_
                                  refine lv_istore_n (lv' := [(2, .int (zI (u + 0))), (4, .int (zI 1)), (0, .ref (aM Γ)), (1, .int (zI w)), (3, .int (zI q))]) zC.1 zC.2.1 dX5_tells_123 rfl hl (by decide) rfl (fun ls hl => ?_)
                                  refine zr_iinc (lv' := [(3, .int (zI (q + 1))), (2, .int (zI (u + 0))), (4, .int (zI 1)), (0, .ref (aM Γ)), (1, .int (zI w))]) zC dX5_tells_124 hl (k := 4) rfl (by decide) rfl (fun ls hl => ?_)
                                  refine lv_goto (tgt := 4) zC.1 zC.2.1 dX5_tells_127 (by decide) ?_
                                  exact ih4 (u + 0) (q + 1) H locs ls (by first | assumption | omega) (by rw [ctI_s hq.1, ← hu]; unfold zB; split <;> omega) (by omega) hG (lv_sub hl [3, 4, 1, 0] rfl)
                                · refine zr_iconst zC dX5_tells_117 ?_
                                  refine lv_goto (tgt := 122) zC.1 zC.2.1 dX5_tells_118 (by decide) ?_
                                  refine zr_iadd zC dX5_tells_122 ?_
                                  refine lv_istore_n (lv' := [(2, .int (zI (u + 1))), (4, .int (zI 1)), (0, .ref (aM Γ)), (1, .int (zI w)), (3, .int (zI q))]) zC.1 zC.2.1 dX5_tells_123 rfl hl (by decide) rfl (fun ls hl => ?_)
                                  refine zr_iinc (lv' := [(3, .int (zI (q + 1))), (2, .int (zI (u + 1))), (4, .int (zI 1)), (0, .ref (aM Γ)), (1, .int (zI w))]) zC dX5_tells_124 hl (k := 4) rfl (by decide) rfl (fun ls hl => ?_)
                                  refine lv_goto (tgt := 4) zC.1 zC.2.1 dX5_tells_127 (by decide) ?_
                                  exact ih4 (u + 1) (q + 1) H locs ls (by first | assumption | omega) (by rw [ctI_s hq.1, ← hu]; unfold zB; split <;> omega) (by omega) hG (lv_sub hl [3, 4, 1, 0] rfl)
                          · refine lv_aload_n zC.1 zC.2.1 dX5_tells_83 rfl (lv_at hl 1 rfl) ?_
                            refine gf_M_lengths zC hG wl_X5_26 dX5_tells_84 ?_
                            refine lv_iload_n zC.1 zC.2.1 dX5_tells_87 rfl (lv_at hl 4 rfl) ?_
                            refine gi_m_lengths (v := szM (τ 4 q 1)) zC hG (by omega) (hR.2.2.2.2.1 q (by omega) (by omega)) dX5_tells_88 ?_
                            have f88 := hI.2.2.2.2.1 q (by omega) (by omega)
                            have f88s := szM_s (τ 4 q 1)
                            refine zr_if_ge (tgt := 117) zC dX5_tells_89 (by decide) (by omega) (fun c89 => ?_) (fun c89 => ?_)
                            · refine zr_iconst zC dX5_tells_117 ?_
                              refine lv_goto (tgt := 122) zC.1 zC.2.1 dX5_tells_118 (by decide) ?_
                              refine zr_iadd zC dX5_tells_122 ?_
                              refine lv_istore_n (lv' := [(2, .int (zI (u + 1))), (4, .int (zI 1)), (0, .ref (aM Γ)), (1, .int (zI w)), (3, .int (zI q))]) zC.1 zC.2.1 dX5_tells_123 rfl hl (by decide) rfl (fun ls hl => ?_)
                              refine zr_iinc (lv' := [(3, .int (zI (q + 1))), (2, .int (zI (u + 1))), (4, .int (zI 1)), (0, .ref (aM Γ)), (1, .int (zI w))]) zC dX5_tells_124 hl (k := 4) rfl (by decide) rfl (fun ls hl => ?_)
                              refine lv_goto (tgt := 4) zC.1 zC.2.1 dX5_tells_127 (by decide) ?_
                              exact ih4 (u + 1) (q + 1) H locs ls (by first | assumption | omega) (by rw [ctI_s hq.1, ← hu]; unfold zB; split <;> omega) (by omega) hG (lv_sub hl [3, 4, 1, 0] rfl)
                            · refine lv_iload_n zC.1 zC.2.1 dX5_tells_92 rfl (lv_at hl 2 rfl) ?_
                              refine zr_bipush zC dX5_tells_93 (by decide +kernel) ?_
                              refine zr_icmp_ne (tgt := 121) zC dX5_tells_95 (by decide) (by omega) (fun c95 => ?_) (fun c95 => ?_)
                              · refine zr_iconst zC dX5_tells_121 ?_
                                refine zr_iadd zC dX5_tells_122 ?_
                                refine lv_istore_n (lv' := [(2, .int (zI (u + 0))), (4, .int (zI 1)), (0, .ref (aM Γ)), (1, .int (zI w)), (3, .int (zI q))]) zC.1 zC.2.1 dX5_tells_123 rfl hl (by decide) rfl (fun ls hl => ?_)
                                refine zr_iinc (lv' := [(3, .int (zI (q + 1))), (2, .int (zI (u + 0))), (4, .int (zI 1)), (0, .ref (aM Γ)), (1, .int (zI w))]) zC dX5_tells_124 hl (k := 4) rfl (by decide) rfl (fun ls hl => ?_)
                                refine lv_goto (tgt := 4) zC.1 zC.2.1 dX5_tells_127 (by decide) ?_
                                exact ih4 (u + 0) (q + 1) H locs ls (by first | assumption | omega) (by rw [ctI_s hq.1, ← hu]; unfold zB; split <;> omega) (by omega) hG (lv_sub hl [3, 4, 1, 0] rfl)
                              · refine lv_iload_n zC.1 zC.2.1 dX5_tells_98 rfl (lv_at hl 4 rfl) ?_
                                refine zr_iconst zC dX5_tells_99 ?_
                                refine zr_icmp_ge (tgt := 121) zC dX5_tells_100 (by decide) (by omega) (fun c100 => ?_) (fun c100 => ?_)
                                · refine zr_iconst zC dX5_tells_121 ?_
                                  refine zr_iadd zC dX5_tells_122 ?_
                                  refine lv_istore_n (lv' := [(2, .int (zI (u + 0))), (4, .int (zI 1)), (0, .ref (aM Γ)), (1, .int (zI w)), (3, .int (zI q))]) zC.1 zC.2.1 dX5_tells_123 rfl hl (by decide) rfl (fun ls hl => ?_)
                                  refine zr_iinc (lv' := [(3, .int (zI (q + 1))), (2, .int (zI (u + 0))), (4, .int (zI 1)), (0, .ref (aM Γ)), (1, .int (zI w))]) zC dX5_tells_124 hl (k := 4) rfl (by decide) rfl (fun ls hl => ?_)
                                  refine lv_goto (tgt := 4) zC.1 zC.2.1 dX5_tells_127 (by decide) ?_
                                  exact ih4 (u + 0) (q + 1) H locs ls (by first | assumption | omega) (by rw [ctI_s hq.1, ← hu]; unfold zB; split <;> omega) (by omega) hG (lv_sub hl [3, 4, 1, 0] rfl)
                                · refine lv_aload_n zC.1 zC.2.1 dX5_tells_103 rfl (lv_at hl 1 rfl) ?_
                                  refine gf_M_kept zC hG wl_X5_47 dX5_tells_104 ?_
                                  refine zr_bipush zC dX5_tells_107 (by decide +kernel) ?_
                                  refine lv_iload_n zC.1 zC.2.1 dX5_tells_109 rfl (lv_at hl 4 rfl) ?_
                                  refine zr_imul zC dX5_tells_110 ?_
                                  refine gi_m_kept (v := kpM (τ 7 q 3) (τ 7 q 4)) zC hG (by omega) (hR.2.2.2.2.2.2.2 q (by omega) (by omega)).1 dX5_tells_111 ?_
                                  have k111 := kpM_s (τ 7 q 3) (τ 7 q 4)
                                  have k111b := hI.2.2.2.2.2.2.2 q (by omega) (by omega)
                                  obtain ⟨k111c, k111d, -⟩ := k111b
                                  refine zr_bipush zC dX5_tells_112 (by decide +kernel) ?_
                                  refine zr_icmp_eq (tgt := 121) zC dX5_tells_114 (by decide) (by omega) (fun c114 => ?_) (fun c114 => ?_)
                                  · refine zr_iconst zC dX5_tells_121 ?_
                                    refine zr_iadd zC dX5_tells_122 ?_
                                    refine lv_istore_n (lv' := [(2, .int (zI (u + 0))), (4, .int (zI 1)), (0, .ref (aM Γ)), (1, .int (zI w)), (3, .int (zI q))]) zC.1 zC.2.1 dX5_tells_123 rfl hl (by decide) rfl (fun ls hl => ?_)
                                    refine zr_iinc (lv' := [(3, .int (zI (q + 1))), (2, .int (zI (u + 0))), (4, .int (zI 1)), (0, .ref (aM Γ)), (1, .int (zI w))]) zC dX5_tells_124 hl (k := 4) rfl (by decide) rfl (fun ls hl => ?_)
                                    refine lv_goto (tgt := 4) zC.1 zC.2.1 dX5_tells_127 (by decide) ?_
                                    exact ih4 (u + 0) (q + 1) H locs ls (by first | assumption | omega) (by rw [ctI_s hq.1, ← hu]; unfold zB; split <;> omega) (by omega) hG (lv_sub hl [3, 4, 1, 0] rfl)
                                  · refine zr_iconst zC dX5_tells_117 ?_
                                    refine lv_goto (tgt := 122) zC.1 zC.2.1 dX5_tells_118 (by decide) ?_
                                    refine zr_iadd zC dX5_tells_122 ?_
                                    refine lv_istore_n (lv' := [(2, .int (zI (u + 1))), (4, .int (zI 1)), (0, .ref (aM Γ)), (1, .int (zI w)), (3, .int (zI q))]) zC.1 zC.2.1 dX5_tells_123 rfl hl (by decide) rfl (fun ls hl => ?_)
                                    refine zr_iinc (lv' := [(3, .int (zI (q + 1))), (2, .int (zI (u + 1))), (4, .int (zI 1)), (0, .ref (aM Γ)), (1, .int (zI w))]) zC dX5_tells_124 hl (k := 4) rfl (by decide) rfl (fun ls hl => ?_)
                                    refine lv_goto (tgt := 4) zC.1 zC.2.1 dX5_tells_127 (by decide) ?_
                                    exact ih4 (u + 1) (q + 1) H locs ls (by first | assumption | omega) (by rw [ctI_s hq.1, ← hu]; unfold zB; split <;> omega) (by omega) hG (lv_sub hl [3, 4, 1, 0] rfl)
  exact loop4 ((6 - 0 : Int).toNat + 1) 0 0 H locs ls (by first | assumption | omega) rfl (by omega) hG (lv_sub hl [2, 3, 1, 0] rfl)

set_option maxHeartbeats 4000000 in
set_option maxRecDepth 100000 in
theorem c_X5_count {Γ : Gm} {zl : Launch} {A : Nat → Prop} {τ σ : Mm} {w : Int} (hR : Rel2 τ σ) (hI : IC τ) (hw : -2147483648 ≤ w ∧ w < 2147483648) : Fr Γ zl A yX5_count cX5_count 2 (some .int) 2 47 [.ref (aM Γ), .int (zI w)] σ (some (.int (zI (rC_count τ w)))) τ := by
  refine Fr_of (by decide) (Nat.le_of_ble_eq_true rfl) ?_
  intro zp ze zs zm args below meth zc zQ H locs ls zC zK hG hl
  have hl : lv_has ls 2 [(0, .ref (aM Γ)), (1, .int (zI w))] := hl
  obtain ⟨hmany, htoday, -⟩ := id hI
  refine lv_iload_n zC.1 zC.2.1 dX5_count_0 rfl (lv_at hl 1 rfl) ?_
  refine zr_iconst zC dX5_count_1 ?_
  refine zr_bipush zC dX5_count_2 (by decide +kernel) ?_
  refine zr_callS zC hG (c_X5_in (σ := σ) (v := w) (a := 0) (b := 6) (by first | assumption | omega) (by first | assumption | omega) (by first | assumption | omega)) mt_X5_in wl_X5_60 ⟨by decide, by decide⟩ rfl hl.1 rfl (Nat.le_of_ble_eq_true rfl) dX5_count_4 ⟨Nat.zero_le _, Nat.zero_le _⟩ (fun H locs hG => ?_)
  refine W.eq (g2 := F0 zm 7 ls [.int (zI (zB (0 ≤ w ∧ w ≤ 6)))]) rfl ?_
  refine zr_ifeqB (tgt := 18) zC dX5_count_7 (by decide) (fun c7 => ?_) (fun c7 => ?_)
  · refine zr_iconst zC dX5_count_18 ?_
    exact zm_iret zC zK hG dX5_count_19 (by unfold rC_count; (repeat' split) <;> omega) hR (sC_r _)
  · refine lv_aload_n zC.1 zC.2.1 dX5_count_10 rfl (lv_at hl 0 rfl) ?_
    refine lv_iload_n zC.1 zC.2.1 dX5_count_11 rfl (lv_at hl 1 rfl) ?_
    refine zr_callV zC hG (c_X5_tells (τ := τ) (σ := σ) (w := w) hR hI (by first | assumption | omega)) mt_X5_tells wl_X5_240 pM rfl rfl ⟨by decide, by decide⟩ rfl hl.1 rfl (Nat.le_of_ble_eq_true rfl) dX5_count_12 ⟨Nat.zero_le _, Nat.zero_le _⟩ (fun H locs hG => ?_)
    refine W.eq (g2 := F0 zm 15 ls [.int (zI (rC_count τ w))]) rfl ?_
    have b12_0 := count_r hI w
    refine lv_goto (tgt := 19) zC.1 zC.2.1 dX5_count_15 (by decide) ?_
    exact zm_iret zC zK hG dX5_count_19 rfl hR (sC_r _)
