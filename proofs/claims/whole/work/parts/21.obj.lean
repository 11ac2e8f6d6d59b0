set_option maxHeartbeats 4000000 in
set_option maxRecDepth 100000 in
theorem c_X0_timesAgain {Γ : Gm} {zl : Launch} {A : Nat → Prop} {σ : Mm} {i t td : Int} (hi : 0 ≤ i ∧ i < 6) (ho : CalOK σ i) (ht : 0 ≤ t ∧ t ≤ 400000) (htd : 0 ≤ td ∧ td ≤ 19999) : Fn Γ zl A yX0_timesAgain cX0_timesAgain 8 (some .int) 4 88 [.ref (aCal Γ i), .int (zI t), .int (zI td)] σ (some (.int (zI (tmA (σ 6 i 0) (σ 6 i 1) (σ 6 i 2) (σ 6 i 3) t td)))) σ := by
  refine Fn_of (by decide) (Nat.le_of_ble_eq_true rfl) ?_
  intro zp ze zs zm args below meth zc zQ H locs ls zC zK hG hl
  have hl : lv_has ls 8 [(0, .ref (aCal Γ i)), (1, .int (zI t)), (2, .int (zI td))] := hl
  obtain ⟨hk, hlp, hod, hgp⟩ := id ho
  refine lv_iload_n zC.1 zC.2.1 dX0_timesAgain_0 rfl (lv_at hl 1 rfl) ?_
  refine zr_sipush zC dX0_timesAgain_1 (by decide +kernel) ?_
  refine zr_irem zC dX0_timesAgain_4 (by omega) ?_
  refine lv_istore_n (lv' := [(3, .int (zI (t % 1000))), (0, .ref (aCal Γ i)), (1, .int (zI t)), (2, .int (zI td))]) zC.1 zC.2.1 dX0_timesAgain_5 rfl hl (by decide) rfl (fun ls hl => ?_)
  refine lv_aload_n zC.1 zC.2.1 dX0_timesAgain_6 rfl (lv_at hl 1 rfl) ?_
  refine lv_iload_n zC.1 zC.2.1 dX0_timesAgain_7 rfl (lv_at hl 3 rfl) ?_
  refine zr_callV zC hG (c_X0_dateOn (σ := σ) (i := i) (d := td) (by first | assumption | omega) (by first | assumption | omega) (by first | assumption | omega)) mt_X0_dateOn wl_X0_75 (pCal (by first | assumption | omega)) rfl rfl ⟨by decide, by decide⟩ rfl hl.1 rfl (Nat.le_of_ble_eq_true rfl) dX0_timesAgain_8 ⟨Nat.zero_le _, Nat.zero_le _⟩ (fun H locs hG => ?_)
  refine W.eq (g2 := F0 zm 11 ls [.int (zI (dtD (σ 6 i 0) (σ 6 i 1) (σ 6 i 2) (σ 6 i 3) td))]) rfl ?_
  have b8_0 := dtD_r (k := (σ 6 i 0)) (lp := (σ 6 i 1)) (o := (σ 6 i 2)) (g := (σ 6 i 3)) (d := td) (by omega) (by omega) (by omega)
  refine zr_sipush zC dX0_timesAgain_11 (by decide +kernel) ?_
  refine zr_idiv zC dX0_timesAgain_14 (by omega) ?_
  refine lv_istore (lv' := [(4, .int (zI ((dtD (σ 6 i 0) (σ 6 i 1) (σ 6 i 2) (σ 6 i 3) td) / 1000))), (3, .int (zI (t % 1000))), (0, .ref (aCal Γ i)), (1, .int (zI t)), (2, .int (zI td))]) zC.1 zC.2.1 dX0_timesAgain_15 hl (by decide) rfl (fun ls hl => ?_)
  refine zr_iconst zC dX0_timesAgain_17 ?_
  refine lv_istore (lv' := [(5, .int (zI 0)), (4, .int (zI ((dtD (σ 6 i 0) (σ 6 i 1) (σ 6 i 2) (σ 6 i 3) td) / 1000))), (3, .int (zI (t % 1000))), (0, .ref (aCal Γ i)), (1, .int (zI t)), (2, .int (zI td))]) zC.1 zC.2.1 dX0_timesAgain_18 hl (by decide) rfl (fun ls hl => ?_)
  refine lv_iload_n zC.1 zC.2.1 dX0_timesAgain_20 rfl (lv_at hl 4 rfl) ?_
  refine zr_sipush zC dX0_timesAgain_21 (by decide +kernel) ?_
  refine zr_idiv zC dX0_timesAgain_24 (by omega) ?_
  refine zr_iconst zC dX0_timesAgain_25 ?_
  refine zr_iadd zC dX0_timesAgain_26 ?_
  refine lv_istore (lv' := [(6, .int (zI ((t / 1000) + 1))), (5, .int (zI 0)), (4, .int (zI ((dtD (σ 6 i 0) (σ 6 i 1) (σ 6 i 2) (σ 6 i 3) td) / 1000))), (3, .int (zI (t % 1000))), (0, .ref (aCal Γ i)), (1, .int (zI t)), (2, .int (zI td))]) zC.1 zC.2.1 dX0_timesAgain_27 hl (by decide) rfl (fun ls hl => ?_)
  have loop29 : ∀ (nf : Nat) (q y : Int) (H : Heap) (locs : List Loc) (ls : Array Slot), (t / 1000 + 1 ≤ y ∧ y ≤ max (dtD (σ 6 i 0) (σ 6 i 1) (σ 6 i 2) (σ 6 i 3) td / 1000 + 1) (t / 1000 + 1)) → (q = ctI (agP (σ 6 i 0) (σ 6 i 1) (σ 6 i 2) (σ 6 i 3) (t % 1000) td) (t / 1000 + 1) (y - (t / 1000 + 1)).toNat) → (1000 - y < (nf : Int)) → GM Γ A σ zs H locs → lv_has ls 8 [(0, .ref (aCal Γ i)), (1, .int (zI t)), (2, .int (zI td)), (3, .int (zI (t % 1000))), (4, .int (zI ((dtD (σ 6 i 0) (σ 6 i 1) (σ 6 i 2) (σ 6 i 3) td) / 1000))), (5, .int (zI q)), (6, .int (zI y))] → W zp zl ze { frames := 4, cells := 0, slots := 0, locals := 88 } zs zm args below meth zc H locs 0 0 zQ (F0 zm 29 ls []) := by
    intro nf
    induction nf with
    | zero =>
      intro q y H locs ls hy hq hm29 _ _
      exact absurd hm29 (by omega)
    | succ nf ih29 =>
      intro q y H locs ls hy hq hm29 hG hl
      have b29 := ctI_r (agP (σ 6 i 0) (σ 6 i 1) (σ 6 i 2) (σ 6 i 3) (t % 1000) td) (t / 1000 + 1) (y - (t / 1000 + 1)).toNat
      refine lv_iload zC.1 zC.2.1 dX0_timesAgain_29 (lv_at hl 6 rfl) ?_
      refine lv_iload zC.1 zC.2.1 dX0_timesAgain_31 (lv_at hl 4 rfl) ?_
      refine zr_icmp_gt (tgt := 71) zC dX0_timesAgain_33 (by decide) (by omega) (fun c33 => ?_) (fun c33 => ?_)
      · refine lv_iload zC.1 zC.2.1 dX0_timesAgain_71 (lv_at hl 5 rfl) ?_
        exact zr_iret zC zK hG dX0_timesAgain_73 (by unfold tmA; rw [hq]; congr 1; omega) rfl
      · refine lv_aload_n zC.1 zC.2.1 dX0_timesAgain_36 rfl (lv_at hl 0 rfl) ?_
        refine zr_sipush zC dX0_timesAgain_37 (by decide +kernel) ?_
        refine lv_iload zC.1 zC.2.1 dX0_timesAgain_40 (lv_at hl 6 rfl) ?_
        refine zr_imul zC dX0_timesAgain_42 ?_
        refine lv_iload_n zC.1 zC.2.1 dX0_timesAgain_43 rfl (lv_at hl 3 rfl) ?_
        refine zr_iadd zC dX0_timesAgain_44 ?_
        refine zr_callV zC hG (c_X0_dayOfDate (σ := σ) (i := i) (t := (1000 * y) + (t % 1000)) (by first | assumption | omega) (by first | assumption | omega) (by first | assumption | omega)) mt_X0_dayOfDate wl_X0_83 (pCal (by first | assumption | omega)) rfl rfl ⟨by decide, by decide⟩ rfl hl.1 rfl (Nat.le_of_ble_eq_true rfl) dX0_timesAgain_45 ⟨Nat.zero_le _, Nat.zero_le _⟩ (fun H locs hG => ?_)
        refine W.eq (g2 := F0 zm 48 ls [.int (zI (dyD (σ 6 i 0) (σ 6 i 1) (σ 6 i 2) (σ 6 i 3) ((1000 * y) + (t % 1000))))]) rfl ?_
        have b45_0 := dyD_r (k := (σ 6 i 0)) (lp := (σ 6 i 1)) (o := (σ 6 i 2)) (g := (σ 6 i 3)) (t := ((1000 * y) + (t % 1000))) (by omega) (by omega)
        refine lv_istore (lv' := [(7, .int (zI (dyD (σ 6 i 0) (σ 6 i 1) (σ 6 i 2) (σ 6 i 3) ((1000 * y) + (t % 1000))))), (0, .ref (aCal Γ i)), (1, .int (zI t)), (2, .int (zI td)), (3, .int (zI (t % 1000))), (4, .int (zI ((dtD (σ 6 i 0) (σ 6 i 1) (σ 6 i 2) (σ 6 i 3) td) / 1000))), (5, .int (zI q)), (6, .int (zI y))]) zC.1 zC.2.1 dX0_timesAgain_48 hl (by decide) rfl (fun ls hl => ?_)
        refine lv_iload zC.1 zC.2.1 dX0_timesAgain_50 (lv_at hl 0 rfl) ?_
        refine zr_iconst zC dX0_timesAgain_52 ?_
        refine zr_icmp_eq (tgt := 65) zC dX0_timesAgain_53 (by decide) (by omega) (fun c53 => ?_) (fun c53 => ?_)
        · refine zr_iinc (lv' := [(6, .int (zI (y + 1))), (7, .int (zI (dyD (σ 6 i 0) (σ 6 i 1) (σ 6 i 2) (σ 6 i 3) ((1000 * y) + (t % 1000))))), (0, .ref (aCal Γ i)), (1, .int (zI t)), (2, .int (zI td)), (3, .int (zI (t % 1000))), (4, .int (zI ((dtD (σ 6 i 0) (σ 6 i 1) (σ 6 i 2) (σ 6 i 3) td) / 1000))), (5, .int (zI q))]) zC dX0_timesAgain_65 hl (k := 7) rfl (by decide) rfl (fun ls hl => ?_)
          refine lv_goto (tgt := 29) zC.1 zC.2.1 dX0_timesAgain_68 (by decide) ?_
          exact ih29 q (y + 1) H locs ls (by first | assumption | omega) (by rw [ctI_s hy.1, ← hq]; unfold zB; split <;> omega) (by omega) hG (lv_sub hl [2, 3, 4, 5, 6, 7, 0] rfl)
        · refine lv_iload zC.1 zC.2.1 dX0_timesAgain_56 (lv_at hl 0 rfl) ?_
          refine lv_iload_n zC.1 zC.2.1 dX0_timesAgain_58 rfl (lv_at hl 3 rfl) ?_
          refine zr_icmp_gt (tgt := 65) zC dX0_timesAgain_59 (by decide) (by omega) (fun c59 => ?_) (fun c59 => ?_)
          · refine zr_iinc (lv' := [(6, .int (zI (y + 1))), (7, .int (zI (dyD (σ 6 i 0) (σ 6 i 1) (σ 6 i 2) (σ 6 i 3) ((1000 * y) + (t % 1000))))), (0, .ref (aCal Γ i)), (1, .int (zI t)), (2, .int (zI td)), (3, .int (zI (t % 1000))), (4, .int (zI ((dtD (σ 6 i 0) (σ 6 i 1) (σ 6 i 2) (σ 6 i 3) td) / 1000))), (5, .int (zI q))]) zC dX0_timesAgain_65 hl (k := 7) rfl (by decide) rfl (fun ls hl => ?_)
            refine lv_goto (tgt := 29) zC.1 zC.2.1 dX0_timesAgain_68 (by decide) ?_
            exact ih29 q (y + 1) H locs ls (by first | assumption | omega) (by rw [ctI_s hy.1, ← hq]; unfold zB; split <;> omega) (by omega) hG (lv_sub hl [2, 3, 4, 5, 6, 7, 0] rfl)
          · refine zr_iinc (lv' := [(5, .int (zI (q + 1))), (7, .int (zI (dyD (σ 6 i 0) (σ 6 i 1) (σ 6 i 2) (σ 6 i 3) ((1000 * y) + (t % 1000))))), (0, .ref (aCal Γ i)), (1, .int (zI t)), (2, .int (zI td)), (3, .int (zI (t % 1000))), (4, .int (zI ((dtD (σ 6 i 0) (σ 6 i 1) (σ 6 i 2) (σ 6 i 3) td) / 1000))), (6, .int (zI y))]) zC dX0_timesAgain_62 hl (k := 6) rfl (by decide) rfl (fun ls hl => ?_)
            refine zr_iinc (lv' := [(6, .int (zI (y + 1))), (5, .int (zI (q + 1))), (7, .int (zI (dyD (σ 6 i 0) (σ 6 i 1) (σ 6 i 2) (σ 6 i 3) ((1000 * y) + (t % 1000))))), (0, .ref (aCal Γ i)), (1, .int (zI t)), (2, .int (zI td)), (3, .int (zI (t % 1000))), (4, .int (zI ((dtD (σ 6 i 0) (σ 6 i 1) (σ 6 i 2) (σ 6 i 3) td) / 1000)))]) zC dX0_timesAgain_65 hl (k := 7) rfl (by decide) rfl (fun ls hl => ?_)
            refine lv_goto (tgt := 29) zC.1 zC.2.1 dX0_timesAgain_68 (by decide) ?_
            exact ih29 (q + 1) (y + 1) H locs ls (by first | assumption | omega) (by rw [ctI_s hy.1, ← hq]; unfold zB; split <;> omega) (by omega) hG (lv_sub hl [3, 4, 5, 6, 7, 1, 0] rfl)
  exact loop29 ((1000 - ((t / 1000) + 1) : Int).toNat + 1) 0 ((t / 1000) + 1) H locs ls (by first | assumption | omega) (by rw [show (t / 1000 + 1 - (t / 1000 + 1)).toNat = 0 by omega]; rfl) (by omega) hG (lv_sub hl [4, 5, 6, 3, 2, 1, 0] rfl)

set_option maxHeartbeats 4000000 in
set_option maxRecDepth 100000 in
theorem c_X0_markOf {Γ : Gm} {zl : Launch} {A : Nat → Prop} {σ : Mm} {i w td : Int} (hi : 0 ≤ i ∧ i < 6) (ho : CalOK σ i) (hw : 1 ≤ w ∧ w ≤ 5) (htd : 0 ≤ td ∧ td ≤ 19999) (ha : isO (σ 6 i 0) w) : Fn Γ zl A yX0_markOf cX0_markOf 3 (some .int) 4 86 [.ref (aCal Γ i), .int (zI w), .int (zI td)] σ (some (.int (zI (mrk (σ 6 i 0) (σ 6 i 1) (σ 6 i 2) (σ 6 i 3) w td)))) σ := by
  refine Fn_of (by decide) (Nat.le_of_ble_eq_true rfl) ?_
  intro zp ze zs zm args below meth zc zQ H locs ls zC zK hG hl
  have hl : lv_has ls 3 [(0, .ref (aCal Γ i)), (1, .int (zI w)), (2, .int (zI td))] := hl
  obtain ⟨hk, hlp, hod, hgp⟩ := id ho
  refine lv_iload_n zC.1 zC.2.1 dX0_markOf_0 rfl (lv_at hl 1 rfl) ?_
  rcases (show w = 1 ∨ w = 2 ∨ w = 3 ∨ w = 4 ∨ (w < 1 ∨ 4 < w) by omega) with c1 | c1 | c1 | c1 | c1
  · refine lv_tableIn (off := 31) (tgt := 32) zC.1 zC.2.1 dX0_markOf_1 (by rw [zI_t (by omega)]; omega) (by rw [zI_t (by omega)]; omega) (by rw [zI_t (by omega), c1]; rfl) (by decide) ?_
    have b32 := dtD_r (k := σ 6 i 0) (lp := σ 6 i 1) (o := σ 6 i 2) (g := σ 6 i 3) (d := td) (by omega) (by omega) (by omega)
    have b32b := Int.emod_nonneg (dtD (σ 6 i 0) (σ 6 i 1) (σ 6 i 2) (σ 6 i 3) td / 1000) (show σ 6 i 1 ≠ 0 by omega)
    have b32c := Int.emod_lt_of_pos (dtD (σ 6 i 0) (σ 6 i 1) (σ 6 i 2) (σ 6 i 3) td / 1000) (show 0 < σ 6 i 1 by omega)
    refine lv_aload_n zC.1 zC.2.1 dX0_markOf_32 rfl (lv_at hl 0 rfl) ?_
    refine zr_callV zC hG (c_X0_hasLeaps (σ := σ) (i := i) (by first | assumption | omega) (by first | assumption | omega)) mt_X0_hasLeaps wl_X0_49 (pCal (by first | assumption | omega)) rfl rfl ⟨by decide, by decide⟩ rfl hl.1 rfl (Nat.le_of_ble_eq_true rfl) dX0_markOf_33 ⟨Nat.zero_le _, Nat.zero_le _⟩ (fun H locs hG => ?_)
    refine W.eq (g2 := F0 zm 36 ls [.int (zI (zB (isO (σ 6 i 0) 1)))]) rfl ?_
    refine zr_ifeqB (tgt := 66) zC dX0_markOf_36 (by decide) (fun c36 => ?_) (fun c36 => ?_)
    · exact absurd (by rw [c1] at ha; exact ha) c36
    · refine lv_aload_n zC.1 zC.2.1 dX0_markOf_39 rfl (lv_at hl 0 rfl) ?_
      refine gf_Cal_leap (v := σ 6 i 1) zC hG (by first | assumption | omega) wl_X0_15 rfl dX0_markOf_40 ?_
      refine lv_aload_n zC.1 zC.2.1 dX0_markOf_43 rfl (lv_at hl 0 rfl) ?_
      refine lv_iload_n zC.1 zC.2.1 dX0_markOf_44 rfl (lv_at hl 2 rfl) ?_
      refine zr_callV zC hG (c_X0_dateOn (σ := σ) (i := i) (d := td) (by first | assumption | omega) (by first | assumption | omega) (by first | assumption | omega)) mt_X0_dateOn wl_X0_75 (pCal (by first | assumption | omega)) rfl rfl ⟨by decide, by decide⟩ rfl hl.1 rfl (Nat.le_of_ble_eq_true rfl) dX0_markOf_45 ⟨Nat.zero_le _, Nat.zero_le _⟩ (fun H locs hG => ?_)
      refine W.eq (g2 := F0 zm 48 ls [.int (zI (dtD (σ 6 i 0) (σ 6 i 1) (σ 6 i 2) (σ 6 i 3) td)), .int (zI (σ 6 i 1))]) rfl ?_
      have b45_0 := dtD_r (k := (σ 6 i 0)) (lp := (σ 6 i 1)) (o := (σ 6 i 2)) (g := (σ 6 i 3)) (d := td) (by omega) (by omega) (by omega)
      refine zr_sipush zC dX0_markOf_48 (by decide +kernel) ?_
      refine zr_idiv zC dX0_markOf_51 (by omega) ?_
      refine lv_aload_n zC.1 zC.2.1 dX0_markOf_52 rfl (lv_at hl 0 rfl) ?_
      refine gf_Cal_leap (v := σ 6 i 1) zC hG (by first | assumption | omega) wl_X0_15 rfl dX0_markOf_53 ?_
      refine zr_irem zC dX0_markOf_56 (by omega) ?_
      refine zr_isub zC dX0_markOf_57 ?_
      refine lv_aload_n zC.1 zC.2.1 dX0_markOf_58 rfl (lv_at hl 0 rfl) ?_
      refine gf_Cal_leap (v := σ 6 i 1) zC hG (by first | assumption | omega) wl_X0_15 rfl dX0_markOf_59 ?_
      refine zr_irem zC dX0_markOf_62 (by omega) ?_
      refine lv_goto (tgt := 67) zC.1 zC.2.1 dX0_markOf_63 (by decide) ?_
      exact zr_iret zC zK hG dX0_markOf_67 (by unfold mrk; (repeat' split) <;> first | rfl | omega) rfl
  · refine lv_tableIn (off := 67) (tgt := 68) zC.1 zC.2.1 dX0_markOf_1 (by rw [zI_t (by omega)]; omega) (by rw [zI_t (by omega)]; omega) (by rw [zI_t (by omega), c1]; rfl) (by decide) ?_
    refine zr_iconst zC dX0_markOf_68 ?_
    refine lv_aload_n zC.1 zC.2.1 dX0_markOf_69 rfl (lv_at hl 0 rfl) ?_
    refine gf_Cal_order (v := σ 6 i 2) zC hG (by first | assumption | omega) wl_X0_18 rfl dX0_markOf_70 ?_
    refine lv_iload_n zC.1 zC.2.1 dX0_markOf_73 rfl (lv_at hl 2 rfl) ?_
    refine zr_isub zC dX0_markOf_74 ?_
    refine zr_max zC wl_X0_86 (by omega) ⟨by decide, Nat.le_of_ble_eq_true rfl, Nat.zero_le _, Nat.zero_le _⟩ hl.1 dX0_markOf_75 ?_
    exact zr_iret zC zK hG dX0_markOf_78 (by unfold mrk; (repeat' split) <;> first | rfl | omega) rfl
  · refine lv_tableIn (off := 78) (tgt := 79) zC.1 zC.2.1 dX0_markOf_1 (by rw [zI_t (by omega)]; omega) (by rw [zI_t (by omega)]; omega) (by rw [zI_t (by omega), c1]; rfl) (by decide) ?_
    refine lv_aload_n zC.1 zC.2.1 dX0_markOf_79 rfl (lv_at hl 0 rfl) ?_
    refine lv_iload_n zC.1 zC.2.1 dX0_markOf_80 rfl (lv_at hl 2 rfl) ?_
    refine zr_callV zC hG (c_X0_dateOn (σ := σ) (i := i) (d := td) (by first | assumption | omega) (by first | assumption | omega) (by first | assumption | omega)) mt_X0_dateOn wl_X0_75 (pCal (by first | assumption | omega)) rfl rfl ⟨by decide, by decide⟩ rfl hl.1 rfl (Nat.le_of_ble_eq_true rfl) dX0_markOf_81 ⟨Nat.zero_le _, Nat.zero_le _⟩ (fun H locs hG => ?_)
    refine W.eq (g2 := F0 zm 84 ls [.int (zI (dtD (σ 6 i 0) (σ 6 i 1) (σ 6 i 2) (σ 6 i 3) td))]) rfl ?_
    have b81_0 := dtD_r (k := (σ 6 i 0)) (lp := (σ 6 i 1)) (o := (σ 6 i 2)) (g := (σ 6 i 3)) (d := td) (by omega) (by omega) (by omega)
    refine zr_sipush zC dX0_markOf_84 (by decide +kernel) ?_
    refine zr_idiv zC dX0_markOf_87 (by omega) ?_
    refine zr_iconst zC dX0_markOf_88 ?_
    refine zr_iadd zC dX0_markOf_89 ?_
    exact zr_iret zC zK hG dX0_markOf_90 (by unfold mrk; (repeat' split) <;> first | rfl | omega) rfl
  · refine lv_tableIn (off := 90) (tgt := 91) zC.1 zC.2.1 dX0_markOf_1 (by rw [zI_t (by omega)]; omega) (by rw [zI_t (by omega)]; omega) (by rw [zI_t (by omega), c1]; rfl) (by decide) ?_
    refine lv_aload_n zC.1 zC.2.1 dX0_markOf_91 rfl (lv_at hl 0 rfl) ?_
    refine gf_Cal_gap (v := σ 6 i 3) zC hG (by first | assumption | omega) wl_X0_21 rfl dX0_markOf_92 ?_
    refine lv_aload_n zC.1 zC.2.1 dX0_markOf_95 rfl (lv_at hl 0 rfl) ?_
    refine lv_iload_n zC.1 zC.2.1 dX0_markOf_96 rfl (lv_at hl 2 rfl) ?_
    refine zr_callV zC hG (c_X0_cutsBy (σ := σ) (i := i) (d := td) (by first | assumption | omega) (by first | assumption | omega) (by first | assumption | omega)) mt_X0_cutsBy wl_X0_46 (pCal (by first | assumption | omega)) rfl rfl ⟨by decide, by decide⟩ rfl hl.1 rfl (Nat.le_of_ble_eq_true rfl) dX0_markOf_97 ⟨Nat.zero_le _, Nat.zero_le _⟩ (fun H locs hG => ?_)
    refine W.eq (g2 := F0 zm 100 ls [.int (zI (cby (σ 6 i 0) (σ 6 i 2) td)), .int (zI (σ 6 i 3))]) rfl ?_
    have b97_0 := cby_r (σ 6 i 0) (σ 6 i 2) td
    refine zr_imul zC dX0_markOf_100 ?_
    exact zr_iret zC zK hG dX0_markOf_101 (by unfold mrk; (repeat' split) <;> first | rfl | omega) rfl
  · refine lv_tableOut (tgt := 102) zC.1 zC.2.1 dX0_markOf_1 (by rw [zI_t (by omega)]; omega) (by decide) ?_
    refine lv_aload_n zC.1 zC.2.1 dX0_markOf_102 rfl (lv_at hl 0 rfl) ?_
    refine gf_Cal_gap (v := σ 6 i 3) zC hG (by first | assumption | omega) wl_X0_21 rfl dX0_markOf_103 ?_
    refine zr_if_ne (tgt := 113) zC dX0_markOf_106 (by decide) (by omega) (fun c106 => ?_) (fun c106 => ?_)
    · refine lv_aload_n zC.1 zC.2.1 dX0_markOf_113 rfl (lv_at hl 0 rfl) ?_
      refine lv_iload_n zC.1 zC.2.1 dX0_markOf_114 rfl (lv_at hl 2 rfl) ?_
      refine zr_callV zC hG (c_X0_cutsBy (σ := σ) (i := i) (d := td) (by first | assumption | omega) (by first | assumption | omega) (by first | assumption | omega)) mt_X0_cutsBy wl_X0_46 (pCal (by first | assumption | omega)) rfl rfl ⟨by decide, by decide⟩ rfl hl.1 rfl (Nat.le_of_ble_eq_true rfl) dX0_markOf_115 ⟨Nat.zero_le _, Nat.zero_le _⟩ (fun H locs hG => ?_)
      refine W.eq (g2 := F0 zm 118 ls [.int (zI (cby (σ 6 i 0) (σ 6 i 2) td))]) rfl ?_
      have b115_0 := cby_r (σ 6 i 0) (σ 6 i 2) td
      exact zr_iret zC zK hG dX0_markOf_118 (by unfold mrk; (repeat' split) <;> first | rfl | omega) rfl
    · refine zr_iconst zC dX0_markOf_109 ?_
      refine lv_goto (tgt := 118) zC.1 zC.2.1 dX0_markOf_110 (by decide) ?_
      exact zr_iret zC zK hG dX0_markOf_118 (by unfold mrk; (repeat' split) <;> first | rfl | omega) rfl

set_option maxHeartbeats 4000000 in
set_option maxRecDepth 100000 in
theorem c_X0_becomeLike {Γ : Gm} {zl : Launch} {A : Nat → Prop} {σ : Mm} {i j : Int} (hi : 0 ≤ i ∧ i < 6) (hj : 0 ≤ j ∧ j < 6) : Fn Γ zl A yX0_becomeLike cX0_becomeLike 2 none 0 0 [.ref (aCal Γ i), .ref (aCal Γ j)] σ none (up (up (up (up σ 6 i 0 (σ 6 j 0)) 6 i 1 (σ 6 j 1)) 6 i 2 (σ 6 j 2)) 6 i 3 (σ 6 j 3)) := by
  refine Fn_of (by decide) (Nat.le_of_ble_eq_true rfl) ?_
  intro zp ze zs zm args below meth zc zQ H locs ls zC zK hG hl
  have hl : lv_has ls 2 [(0, .ref (aCal Γ i)), (1, .ref (aCal Γ j))] := hl
  refine lv_aload_n zC.1 zC.2.1 dX0_becomeLike_0 rfl (lv_at hl 0 rfl) ?_
  refine lv_aload_n zC.1 zC.2.1 dX0_becomeLike_1 rfl (lv_at hl 1 rfl) ?_
  refine gf_Cal_kind (v := σ 6 j 0) zC hG (by first | assumption | omega) wl_X0_9 rfl dX0_becomeLike_2 ?_
  refine pf_Cal_kind zC hG (by first | assumption | omega) wl_X0_9 dX0_becomeLike_5 (fun H locs hG => ?_)
  refine lv_aload_n zC.1 zC.2.1 dX0_becomeLike_8 rfl (lv_at hl 0 rfl) ?_
  refine lv_aload_n zC.1 zC.2.1 dX0_becomeLike_9 rfl (lv_at hl 1 rfl) ?_
  refine gf_Cal_leap (v := σ 6 j 1) zC hG (by first | assumption | omega) wl_X0_15 (by first | rfl | simp [up]) dX0_becomeLike_10 ?_
  refine pf_Cal_leap zC hG (by first | assumption | omega) wl_X0_15 dX0_becomeLike_13 (fun H locs hG => ?_)
  refine lv_aload_n zC.1 zC.2.1 dX0_becomeLike_16 rfl (lv_at hl 0 rfl) ?_
  refine lv_aload_n zC.1 zC.2.1 dX0_becomeLike_17 rfl (lv_at hl 1 rfl) ?_
  refine gf_Cal_order (v := σ 6 j 2) zC hG (by first | assumption | omega) wl_X0_18 (by first | rfl | simp [up]) dX0_becomeLike_18 ?_
  refine pf_Cal_order zC hG (by first | assumption | omega) wl_X0_18 dX0_becomeLike_21 (fun H locs hG => ?_)
  refine lv_aload_n zC.1 zC.2.1 dX0_becomeLike_24 rfl (lv_at hl 0 rfl) ?_
  refine lv_aload_n zC.1 zC.2.1 dX0_becomeLike_25 rfl (lv_at hl 1 rfl) ?_
  refine gf_Cal_gap (v := σ 6 j 3) zC hG (by first | assumption | omega) wl_X0_21 (by first | rfl | simp [up]) dX0_becomeLike_26 ?_
  refine pf_Cal_gap zC hG (by first | assumption | omega) wl_X0_21 dX0_becomeLike_29 (fun H locs hG => ?_)
  exact zr_vret zC zK hG dX0_becomeLike_32 rfl

set_option maxHeartbeats 4000000 in
set_option maxRecDepth 100000 in
theorem c_X2_renew {Γ : Gm} {zl : Launch} {A : Nat → Prop} {σ : Mm} {i n : Int} (hi : 0 ≤ i ∧ i < 6) : Fn Γ zl A yX2_renew cX2_renew 3 none 0 0 [.ref (aRow Γ i), .int (zI n)] σ none (mFill (up σ 2 i 1 n) 3 i 40 0) := by
  refine Fn_of (by decide) (Nat.le_of_ble_eq_true rfl) ?_
  intro zp ze zs zm args below meth zc zQ H locs ls zC zK hG hl
  have hl : lv_has ls 3 [(0, .ref (aRow Γ i)), (1, .int (zI n))] := hl
  refine lv_aload_n zC.1 zC.2.1 dX2_renew_0 rfl (lv_at hl 0 rfl) ?_
  refine lv_iload_n zC.1 zC.2.1 dX2_renew_1 rfl (lv_at hl 1 rfl) ?_
  refine pf_Row_size zC hG (by first | assumption | omega) wl_X2_15 dX2_renew_2 (fun H locs hG => ?_)
  refine zr_iconst zC dX2_renew_5 ?_
  refine lv_istore_n (lv' := [(2, .int (zI 0)), (0, .ref (aRow Γ i)), (1, .int (zI n))]) zC.1 zC.2.1 dX2_renew_6 rfl hl (by decide) rfl (fun ls hl => ?_)
  have loop7 : ∀ (nf : Nat) (q : Int) (H : Heap) (locs : List Loc) (ls : Array Slot), (0 ≤ q ∧ q ≤ 40) → (40 - q < (nf : Int)) → GM Γ A (mFill (up σ 2 i 1 n) 3 i q 0) zs H locs → lv_has ls 3 [(0, .ref (aRow Γ i)), (1, .int (zI n)), (2, .int (zI q))] → W zp zl ze { frames := 0, cells := 0, slots := 0, locals := 0 } zs zm args below meth zc H locs 0 0 zQ (F0 zm 7 ls []) := by
    intro nf
    induction nf with
    | zero =>
      intro q H locs ls hq hm7 _ _
      exact absurd hm7 (by omega)
    | succ nf ih7 =>
      intro q H locs ls hq hm7 hG hl
      refine lv_iload_n zC.1 zC.2.1 dX2_renew_7 rfl (lv_at hl 2 rfl) ?_
      refine zr_bipush zC dX2_renew_8 (by decide +kernel) ?_
      refine zr_icmp_ge (tgt := 26) zC dX2_renew_10 (by decide) (by omega) (fun c10 => ?_) (fun c10 => ?_)
      · exact zr_vret zC zK hG dX2_renew_26 (by rw [show q = 40 by omega])
      · refine lv_aload_n zC.1 zC.2.1 dX2_renew_13 rfl (lv_at hl 0 rfl) ?_
        refine gf_Row_places zC hG (by first | assumption | omega) wl_X2_9 dX2_renew_14 ?_
        refine lv_iload_n zC.1 zC.2.1 dX2_renew_17 rfl (lv_at hl 2 rfl) ?_
        refine zr_iconst zC dX2_renew_18 ?_
        refine pi_Pl zC hG (by first | assumption | omega) (by omega) dX2_renew_19 (fun H locs hG => ?_)
        refine zr_iinc (lv' := [(2, .int (zI (q + 1))), (0, .ref (aRow Γ i)), (1, .int (zI n))]) zC dX2_renew_20 hl (k := 2) rfl (by decide) rfl (fun ls hl => ?_)
        refine lv_goto (tgt := 7) zC.1 zC.2.1 dX2_renew_23 (by decide) ?_
        exact ih7 (q + 1) H locs ls (by first | assumption | omega) (by omega) ((show up (mFill (up σ 2 i 1 n) 3 i q 0) 3 i q 0 = mFill (up σ 2 i 1 n) 3 i (q + 1) 0 from mFill_s _ _ _ _ _ (by omega)) ▸ hG) (lv_sub hl [1, 2, 0] rfl)
  exact loop7 ((40 - 0 : Int).toNat + 1) 0 H locs ls (by first | assumption | omega) (by omega) ((show up σ 2 i 1 n = mFill (up σ 2 i 1 n) 3 i 0 0 from mFill_0 _ _ _ _) ▸ hG) (lv_sub hl [1, 2, 0] rfl)

set_option maxHeartbeats 4000000 in
set_option maxRecDepth 100000 in
theorem c_X2_add {Γ : Gm} {zl : Launch} {A : Nat → Prop} {σ : Mm} {i v : Int} (hi : 0 ≤ i ∧ i < 6) (hs : -1 ≤ σ 2 i 1 ∧ σ 2 i 1 < 40) (hs0 : 0 ≤ σ 2 i 1) : Fn Γ zl A yX2_add cX2_add 2 none 0 0 [.ref (aRow Γ i), .int (zI v)] σ none (up (up σ 3 i (σ 2 i 1) v) 2 i 1 ((σ 2 i 1) + 1)) := by
  refine Fn_of (by decide) (Nat.le_of_ble_eq_true rfl) ?_
  intro zp ze zs zm args below meth zc zQ H locs ls zC zK hG hl
  have hl : lv_has ls 2 [(0, .ref (aRow Γ i)), (1, .int (zI v))] := hl
  refine lv_aload_n zC.1 zC.2.1 dX2_add_0 rfl (lv_at hl 0 rfl) ?_
  refine gf_Row_size (v := σ 2 i 1) zC hG (by first | assumption | omega) wl_X2_15 rfl dX2_add_1 ?_
  refine zr_if_lt (tgt := 36) zC dX2_add_4 (by decide) (by omega) (fun c4 => ?_) (fun c4 => ?_)
  · exact absurd c4 (by omega)
  · refine lv_aload_n zC.1 zC.2.1 dX2_add_7 rfl (lv_at hl 0 rfl) ?_
    refine gf_Row_size (v := σ 2 i 1) zC hG (by first | assumption | omega) wl_X2_15 rfl dX2_add_8 ?_
    refine zr_bipush zC dX2_add_11 (by decide +kernel) ?_
    refine zr_icmp_ge (tgt := 36) zC dX2_add_13 (by decide) (by omega) (fun c13 => ?_) (fun c13 => ?_)
    · exact absurd c13 (by omega)
    · refine lv_aload_n zC.1 zC.2.1 dX2_add_16 rfl (lv_at hl 0 rfl) ?_
      refine gf_Row_places zC hG (by first | assumption | omega) wl_X2_9 dX2_add_17 ?_
      refine lv_aload_n zC.1 zC.2.1 dX2_add_20 rfl (lv_at hl 0 rfl) ?_
      refine gf_Row_size (v := σ 2 i 1) zC hG (by first | assumption | omega) wl_X2_15 rfl dX2_add_21 ?_
      refine lv_iload_n zC.1 zC.2.1 dX2_add_24 rfl (lv_at hl 1 rfl) ?_
      refine pi_Pl zC hG (by first | assumption | omega) (by omega) dX2_add_25 (fun H locs hG => ?_)
      refine lv_aload_n zC.1 zC.2.1 dX2_add_26 rfl (lv_at hl 0 rfl) ?_
      refine lv_dup zC.1 zC.2.1 dX2_add_27 rfl ?_
      refine gf_Row_size (v := σ 2 i 1) zC hG (by first | assumption | omega) wl_X2_15 (by first | rfl | simp [up]) dX2_add_28 ?_
      refine zr_iconst zC dX2_add_31 ?_
      refine zr_iadd zC dX2_add_32 ?_
      refine pf_Row_size zC hG (by first | assumption | omega) wl_X2_15 dX2_add_33 (fun H locs hG => ?_)
      exact zr_vret zC zK hG dX2_add_36 rfl

set_option maxHeartbeats 4000000 in
set_option maxRecDepth 100000 in
theorem c_X2_holds {Γ : Gm} {zl : Launch} {A : Nat → Prop} {σ : Mm} {i a n : Int} (hi : 0 ≤ i ∧ i < 6) (hs : -1 ≤ σ 2 i 1 ∧ σ 2 i 1 ≤ 40) (ha : -2147483648 ≤ a ∧ a < 2147483648) (hn : 0 ≤ n ∧ n < 2147483648) : Fn Γ zl A yX2_holds cX2_holds 3 (some .boolean) 0 0 [.ref (aRow Γ i), .int (zI a), .int (zI n)] σ (some (.int (zI (zB (0 ≤ a ∧ a + n ≤ (σ 2 i 1)))))) σ := by
  refine Fn_of (by decide) (Nat.le_of_ble_eq_true rfl) ?_
  intro zp ze zs zm args below meth zc zQ H locs ls zC zK hG hl
  have hl : lv_has ls 3 [(0, .ref (aRow Γ i)), (1, .int (zI a)), (2, .int (zI n))] := hl
  refine lv_iload_n zC.1 zC.2.1 dX2_holds_0 rfl (lv_at hl 1 rfl) ?_
  refine zr_if_lt (tgt := 18) zC dX2_holds_1 (by decide) (by omega) (fun c1 => ?_) (fun c1 => ?_)
  · refine zr_iconst zC dX2_holds_18 ?_
    exact zr_zret zC zK hG dX2_holds_19 (zB_f (by omega)) (Or.inl rfl) rfl
  · refine lv_iload_n zC.1 zC.2.1 dX2_holds_4 rfl (lv_at hl 2 rfl) ?_
    refine lv_aload_n zC.1 zC.2.1 dX2_holds_5 rfl (lv_at hl 0 rfl) ?_
    refine gf_Row_size (v := σ 2 i 1) zC hG (by first | assumption | omega) wl_X2_15 rfl dX2_holds_6 ?_
    refine lv_iload_n zC.1 zC.2.1 dX2_holds_9 rfl (lv_at hl 1 rfl) ?_
    refine zr_isub zC dX2_holds_10 ?_
    refine zr_icmp_gt (tgt := 18) zC dX2_holds_11 (by decide) (by omega) (fun c11 => ?_) (fun c11 => ?_)
    · refine zr_iconst zC dX2_holds_18 ?_
      exact zr_zret zC zK hG dX2_holds_19 (zB_f (by omega)) (Or.inl rfl) rfl
    · refine zr_iconst zC dX2_holds_14 ?_
      refine lv_goto (tgt := 19) zC.1 zC.2.1 dX2_holds_15 (by decide) ?_
      exact zr_zret zC zK hG dX2_holds_19 (zB_t (by omega)) (Or.inr rfl) rfl

set_option maxHeartbeats 4000000 in
set_option maxRecDepth 100000 in
theorem c_X2_sum {Γ : Gm} {zl : Launch} {A : Nat → Prop} {σ : Mm} {i : Int} (hi : 0 ≤ i ∧ i < 6) (hs : -1 ≤ σ 2 i 1 ∧ σ 2 i 1 ≤ 40) (hc : ∀ j : Int, 0 ≤ j → j < 40 → -2147483648 ≤ σ 3 i j ∧ σ 3 i j < 2147483648) : Fn Γ zl A yX2_sum cX2_sum 4 (some .long) 0 0 [.ref (aRow Γ i)] σ (some (.long (zL (smI (fun j => (σ 3 i j)) ((σ 2 i 1)).toNat)))) σ := by
  refine Fn_of (by decide) (Nat.le_of_ble_eq_true rfl) ?_
  intro zp ze zs zm args below meth zc zQ H locs ls zC zK hG hl
  have hl : lv_has ls 4 [(0, .ref (aRow Γ i))] := hl
  refine zr_lconst (z := 0) zC dX2_sum_0 (by decide +kernel) ?_
  refine lv_lstore_n (lv' := [(1, .long (zL 0)), (0, .ref (aRow Γ i))]) zC.1 zC.2.1 dX2_sum_1 rfl hl (by decide) rfl (fun ls hl => ?_)
  refine zr_iconst zC dX2_sum_2 ?_
  refine lv_istore_n (lv' := [(3, .int (zI 0)), (1, .long (zL 0)), (0, .ref (aRow Γ i))]) zC.1 zC.2.1 dX2_sum_3 rfl hl (by decide) rfl (fun ls hl => ?_)
  have loop4 : ∀ (nf : Nat) (u q : Int) (H : Heap) (locs : List Loc) (ls : Array Slot), (0 ≤ q ∧ (q ≤ σ 2 i 1 ∨ q = 0)) → (u = smI (fun j => σ 3 i j) q.toNat) → (41 - q < (nf : Int)) → GM Γ A σ zs H locs → lv_has ls 4 [(0, .ref (aRow Γ i)), (1, .long (zL u)), (3, .int (zI q))] → W zp zl ze { frames := 0, cells := 0, slots := 0, locals := 0 } zs zm args below meth zc H locs 0 0 zQ (F0 zm 4 ls []) := by
    intro nf
    induction nf with
    | zero =>
      intro u q H locs ls hq hu hm4 _ _
      exact absurd hm4 (by omega)
    | succ nf ih4 =>
      intro u q H locs ls hq hu hm4 hG hl
      refine lv_iload_n zC.1 zC.2.1 dX2_sum_4 rfl (lv_at hl 2 rfl) ?_
      refine lv_aload_n zC.1 zC.2.1 dX2_sum_5 rfl (lv_at hl 0 rfl) ?_
      refine gf_Row_size (v := σ 2 i 1) zC hG (by first | assumption | omega) wl_X2_15 rfl dX2_sum_6 ?_
      refine zr_icmp_ge (tgt := 28) zC dX2_sum_9 (by decide) (by omega) (fun c9 => ?_) (fun c9 => ?_)
      · refine lv_lload_n zC.1 zC.2.1 dX2_sum_28 rfl (lv_at hl 1 rfl) ?_
        exact zr_lret zC zK hG dX2_sum_29 (by rw [hu]; congr 1; omega) rfl
      · refine lv_lload_n zC.1 zC.2.1 dX2_sum_12 rfl (lv_at hl 1 rfl) ?_
        refine lv_aload_n zC.1 zC.2.1 dX2_sum_13 rfl (lv_at hl 0 rfl) ?_
        refine gf_Row_places zC hG (by first | assumption | omega) wl_X2_9 dX2_sum_14 ?_
        refine lv_iload_n zC.1 zC.2.1 dX2_sum_17 rfl (lv_at hl 2 rfl) ?_
        refine gi_Pl (v := σ 3 i q) zC hG (by first | assumption | omega) (by omega) rfl dX2_sum_18 ?_
        have b19 := hc q (by omega) (by omega)
        refine zr_i2l zC dX2_sum_19 (by omega) ?_
        refine zr_ladd zC dX2_sum_20 ?_
        refine lv_lstore_n (lv' := [(1, .long (zL (u + (σ 3 i q)))), (0, .ref (aRow Γ i)), (3, .int (zI q))]) zC.1 zC.2.1 dX2_sum_21 rfl hl (by decide) rfl (fun ls hl => ?_)
        refine zr_iinc (lv' := [(3, .int (zI (q + 1))), (1, .long (zL (u + (σ 3 i q)))), (0, .ref (aRow Γ i))]) zC dX2_sum_22 hl (k := 2) rfl (by decide) rfl (fun ls hl => ?_)
        refine lv_goto (tgt := 4) zC.1 zC.2.1 dX2_sum_25 (by decide) ?_
        exact ih4 (u + (σ 3 i q)) (q + 1) H locs ls (by first | assumption | omega) (by rw [smI_s hq.1, hu]) (by omega) hG (lv_sub hl [2, 1, 0] rfl)
  exact loop4 ((41 - 0 : Int).toNat + 1) 0 0 H locs ls (by first | assumption | omega) rfl (by omega) hG (lv_sub hl [2, 1, 0] rfl)

set_option maxHeartbeats 4000000 in
set_option maxRecDepth 100000 in
theorem c_X2_digestFrom {Γ : Gm} {zl : Launch} {A : Nat → Prop} {σ : Mm} {i h : Int} (hi : 0 ≤ i ∧ i < 6) (hs : -1 ≤ σ 2 i 1 ∧ σ 2 i 1 ≤ 40) (hc : ∀ j : Int, 0 ≤ j → j < 40 → -2147483648 ≤ σ 3 i j ∧ σ 3 i j < 2147483648) : Fn Γ zl A yX2_digestFrom cX2_digestFrom 6 (some .long) 0 0 [.ref (aRow Γ i), .long (zL h)] σ (some (.long (zL (hsI (fun j => (σ 3 i j)) (31 * h + (σ 2 i 1)) ((σ 2 i 1)).toNat)))) σ := by
  refine Fn_of (by decide) (Nat.le_of_ble_eq_true rfl) ?_
  intro zp ze zs zm args below meth zc zQ H locs ls zC zK hG hl
  have hl : lv_has ls 6 [(0, .ref (aRow Γ i)), (1, .long (zL h))] := hl
  refine zr_ldc2 (z := 31) zC wl_X2_19 (by decide +kernel) dX2_digestFrom_0 ?_
  refine lv_lload_n zC.1 zC.2.1 dX2_digestFrom_3 rfl (lv_at hl 1 rfl) ?_
  refine zr_lmul zC dX2_digestFrom_4 ?_
  refine lv_aload_n zC.1 zC.2.1 dX2_digestFrom_5 rfl (lv_at hl 0 rfl) ?_
  refine gf_Row_size (v := σ 2 i 1) zC hG (by first | assumption | omega) wl_X2_15 rfl dX2_digestFrom_6 ?_
  refine zr_i2l zC dX2_digestFrom_9 (by omega) ?_
  refine zr_ladd zC dX2_digestFrom_10 ?_
  refine lv_lstore_n (lv' := [(3, .long (zL ((31 * h) + (σ 2 i 1)))), (0, .ref (aRow Γ i)), (1, .long (zL h))]) zC.1 zC.2.1 dX2_digestFrom_11 rfl hl (by decide) rfl (fun ls hl => ?_)
  refine zr_iconst zC dX2_digestFrom_12 ?_
  refine lv_istore (lv' := [(5, .int (zI 0)), (3, .long (zL ((31 * h) + (σ 2 i 1)))), (0, .ref (aRow Γ i)), (1, .long (zL h))]) zC.1 zC.2.1 dX2_digestFrom_13 hl (by decide) rfl (fun ls hl => ?_)
  have loop15 : ∀ (nf : Nat) (u q : Int) (H : Heap) (locs : List Loc) (ls : Array Slot), (0 ≤ q ∧ (q ≤ σ 2 i 1 ∨ q = 0)) → (u = hsI (fun j => σ 3 i j) (31 * h + σ 2 i 1) q.toNat) → (41 - q < (nf : Int)) → GM Γ A σ zs H locs → lv_has ls 6 [(0, .ref (aRow Γ i)), (1, .long (zL h)), (3, .long (zL u)), (5, .int (zI q))] → W zp zl ze { frames := 0, cells := 0, slots := 0, locals := 0 } zs zm args below meth zc H locs 0 0 zQ (F0 zm 15 ls []) := by
    intro nf
    induction nf with
    | zero =>
      intro u q H locs ls hq hu hm15 _ _
      exact absurd hm15 (by omega)
    | succ nf ih15 =>
      intro u q H locs ls hq hu hm15 hG hl
      refine lv_iload zC.1 zC.2.1 dX2_digestFrom_15 (lv_at hl 3 rfl) ?_
      refine lv_aload_n zC.1 zC.2.1 dX2_digestFrom_17 rfl (lv_at hl 0 rfl) ?_
      refine gf_Row_size (v := σ 2 i 1) zC hG (by first | assumption | omega) wl_X2_15 rfl dX2_digestFrom_18 ?_
      refine zr_icmp_ge (tgt := 45) zC dX2_digestFrom_21 (by decide) (by omega) (fun c21 => ?_) (fun c21 => ?_)
      · refine lv_lload_n zC.1 zC.2.1 dX2_digestFrom_45 rfl (lv_at hl 2 rfl) ?_
        exact zr_lret zC zK hG dX2_digestFrom_46 (by rw [hu]; congr 1; omega) rfl
      · refine zr_ldc2 (z := 31) zC wl_X2_19 (by decide +kernel) dX2_digestFrom_24 ?_
        refine lv_lload_n zC.1 zC.2.1 dX2_digestFrom_27 rfl (lv_at hl 2 rfl) ?_
        refine zr_lmul zC dX2_digestFrom_28 ?_
        refine lv_aload_n zC.1 zC.2.1 dX2_digestFrom_29 rfl (lv_at hl 0 rfl) ?_
        refine gf_Row_places zC hG (by first | assumption | omega) wl_X2_9 dX2_digestFrom_30 ?_
        refine lv_iload zC.1 zC.2.1 dX2_digestFrom_33 (lv_at hl 3 rfl) ?_
        refine gi_Pl (v := σ 3 i q) zC hG (by first | assumption | omega) (by omega) rfl dX2_digestFrom_35 ?_
        have b36 := hc q (by omega) (by omega)
        refine zr_i2l zC dX2_digestFrom_36 (by omega) ?_
        refine zr_ladd zC dX2_digestFrom_37 ?_
        refine lv_lstore_n (lv' := [(3, .long (zL ((31 * u) + (σ 3 i q)))), (0, .ref (aRow Γ i)), (1, .long (zL h)), (5, .int (zI q))]) zC.1 zC.2.1 dX2_digestFrom_38 rfl hl (by decide) rfl (fun ls hl => ?_)
        refine zr_iinc (lv' := [(5, .int (zI (q + 1))), (3, .long (zL ((31 * u) + (σ 3 i q)))), (0, .ref (aRow Γ i)), (1, .long (zL h))]) zC dX2_digestFrom_39 hl (k := 3) rfl (by decide) rfl (fun ls hl => ?_)
        refine lv_goto (tgt := 15) zC.1 zC.2.1 dX2_digestFrom_42 (by decide) ?_
        exact ih15 ((31 * u) + (σ 3 i q)) (q + 1) H locs ls (by first | assumption | omega) (by rw [hsI_s hq.1, hu]) (by omega) hG (lv_sub hl [2, 3, 1, 0] rfl)
  exact loop15 ((41 - 0 : Int).toNat + 1) ((31 * h) + (σ 2 i 1)) 0 H locs ls (by first | assumption | omega) rfl (by omega) hG (lv_sub hl [2, 3, 1, 0] rfl)

set_option maxHeartbeats 4000000 in
set_option maxRecDepth 100000 in
theorem c_X3_renew {Γ : Gm} {zl : Launch} {A : Nat → Prop} {σ : Mm} {i n : Int} (hi : 0 ≤ i ∧ i < 4) : Fn Γ zl A yX3_renew cX3_renew 3 none 0 0 [.ref (aTx Γ i), .int (zI n)] σ none (mFill (up σ 4 i 1 n) 5 i 60 32) := by
  refine Fn_of (by decide) (Nat.le_of_ble_eq_true rfl) ?_
  intro zp ze zs zm args below meth zc zQ H locs ls zC zK hG hl
  have hl : lv_has ls 3 [(0, .ref (aTx Γ i)), (1, .int (zI n))] := hl
  refine lv_aload_n zC.1 zC.2.1 dX3_renew_0 rfl (lv_at hl 0 rfl) ?_
  refine lv_iload_n zC.1 zC.2.1 dX3_renew_1 rfl (lv_at hl 1 rfl) ?_
  refine pf_Tx_size zC hG (by first | assumption | omega) wl_X3_15 dX3_renew_2 (fun H locs hG => ?_)
  refine zr_iconst zC dX3_renew_5 ?_
  refine lv_istore_n (lv' := [(2, .int (zI 0)), (0, .ref (aTx Γ i)), (1, .int (zI n))]) zC.1 zC.2.1 dX3_renew_6 rfl hl (by decide) rfl (fun ls hl => ?_)
  have loop7 : ∀ (nf : Nat) (q : Int) (H : Heap) (locs : List Loc) (ls : Array Slot), (0 ≤ q ∧ q ≤ 60) → (60 - q < (nf : Int)) → GM Γ A (mFill (up σ 4 i 1 n) 5 i q 32) zs H locs → lv_has ls 3 [(0, .ref (aTx Γ i)), (1, .int (zI n)), (2, .int (zI q))] → W zp zl ze { frames := 0, cells := 0, slots := 0, locals := 0 } zs zm args below meth zc H locs 0 0 zQ (F0 zm 7 ls []) := by
    intro nf
    induction nf with
    | zero =>
      intro q H locs ls hq hm7 _ _
      exact absurd hm7 (by omega)
    | succ nf ih7 =>
      intro q H locs ls hq hm7 hG hl
      refine lv_iload_n zC.1 zC.2.1 dX3_renew_7 rfl (lv_at hl 2 rfl) ?_
      refine zr_bipush zC dX3_renew_8 (by decide +kernel) ?_
      refine zr_icmp_ge (tgt := 27) zC dX3_renew_10 (by decide) (by omega) (fun c10 => ?_) (fun c10 => ?_)
      · exact zr_vret zC zK hG dX3_renew_27 (by rw [show q = 60 by omega])
      · refine lv_aload_n zC.1 zC.2.1 dX3_renew_13 rfl (lv_at hl 0 rfl) ?_
        refine gf_Tx_signs zC hG (by first | assumption | omega) wl_X3_9 dX3_renew_14 ?_
        refine lv_iload_n zC.1 zC.2.1 dX3_renew_17 rfl (lv_at hl 2 rfl) ?_
        refine zr_bipush zC dX3_renew_18 (by decide +kernel) ?_
        refine pi_Sg zC hG (by first | assumption | omega) (by omega) (by omega) dX3_renew_20 (fun H locs hG => ?_)
        refine zr_iinc (lv' := [(2, .int (zI (q + 1))), (0, .ref (aTx Γ i)), (1, .int (zI n))]) zC dX3_renew_21 hl (k := 2) rfl (by decide) rfl (fun ls hl => ?_)
        refine lv_goto (tgt := 7) zC.1 zC.2.1 dX3_renew_24 (by decide) ?_
        exact ih7 (q + 1) H locs ls (by first | assumption | omega) (by omega) ((show up (mFill (up σ 4 i 1 n) 5 i q 32) 5 i q 32 = mFill (up σ 4 i 1 n) 5 i (q + 1) 32 from mFill_s _ _ _ _ _ (by omega)) ▸ hG) (lv_sub hl [1, 2, 0] rfl)
  exact loop7 ((60 - 0 : Int).toNat + 1) 0 H locs ls (by first | assumption | omega) (by omega) ((show up σ 4 i 1 n = mFill (up σ 4 i 1 n) 5 i 0 32 from mFill_0 _ _ _ _) ▸ hG) (lv_sub hl [1, 2, 0] rfl)

set_option maxHeartbeats 4000000 in
set_option maxRecDepth 100000 in
theorem c_X3_digestFrom {Γ : Gm} {zl : Launch} {A : Nat → Prop} {σ : Mm} {i h : Int} (hi : 0 ≤ i ∧ i < 4) (hs : -1 ≤ σ 4 i 1 ∧ σ 4 i 1 ≤ 60) (hc : ∀ j : Int, 0 ≤ j → j < 60 → -128 ≤ σ 5 i j ∧ σ 5 i j < 128) : Fn Γ zl A yX3_digestFrom cX3_digestFrom 6 (some .long) 0 0 [.ref (aTx Γ i), .long (zL h)] σ (some (.long (zL (hsI (fun j => (σ 5 i j)) (31 * h + (σ 4 i 1)) ((σ 4 i 1)).toNat)))) σ := by
  refine Fn_of (by decide) (Nat.le_of_ble_eq_true rfl) ?_
  intro zp ze zs zm args below meth zc zQ H locs ls zC zK hG hl
  have hl : lv_has ls 6 [(0, .ref (aTx Γ i)), (1, .long (zL h))] := hl
  refine zr_ldc2 (z := 31) zC wl_X3_62 (by decide +kernel) dX3_digestFrom_0 ?_
  refine lv_lload_n zC.1 zC.2.1 dX3_digestFrom_3 rfl (lv_at hl 1 rfl) ?_
  refine zr_lmul zC dX3_digestFrom_4 ?_
  refine lv_aload_n zC.1 zC.2.1 dX3_digestFrom_5 rfl (lv_at hl 0 rfl) ?_
  refine gf_Tx_size (v := σ 4 i 1) zC hG (by first | assumption | omega) wl_X3_15 rfl dX3_digestFrom_6 ?_
  refine zr_i2l zC dX3_digestFrom_9 (by omega) ?_
  refine zr_ladd zC dX3_digestFrom_10 ?_
  refine lv_lstore_n (lv' := [(3, .long (zL ((31 * h) + (σ 4 i 1)))), (0, .ref (aTx Γ i)), (1, .long (zL h))]) zC.1 zC.2.1 dX3_digestFrom_11 rfl hl (by decide) rfl (fun ls hl => ?_)
  refine zr_iconst zC dX3_digestFrom_12 ?_
  refine lv_istore (lv' := [(5, .int (zI 0)), (3, .long (zL ((31 * h) + (σ 4 i 1)))), (0, .ref (aTx Γ i)), (1, .long (zL h))]) zC.1 zC.2.1 dX3_digestFrom_13 hl (by decide) rfl (fun ls hl => ?_)
  have loop15 : ∀ (nf : Nat) (u q : Int) (H : Heap) (locs : List Loc) (ls : Array Slot), (0 ≤ q ∧ (q ≤ σ 4 i 1 ∨ q = 0)) → (u = hsI (fun j => σ 5 i j) (31 * h + σ 4 i 1) q.toNat) → (61 - q < (nf : Int)) → GM Γ A σ zs H locs → lv_has ls 6 [(0, .ref (aTx Γ i)), (1, .long (zL h)), (3, .long (zL u)), (5, .int (zI q))] → W zp zl ze { frames := 0, cells := 0, slots := 0, locals := 0 } zs zm args below meth zc H locs 0 0 zQ (F0 zm 15 ls []) := by
    intro nf
    induction nf with
    | zero =>
      intro u q H locs ls hq hu hm15 _ _
      exact absurd hm15 (by omega)
    | succ nf ih15 =>
      intro u q H locs ls hq hu hm15 hG hl
      refine lv_iload zC.1 zC.2.1 dX3_digestFrom_15 (lv_at hl 3 rfl) ?_
      refine lv_aload_n zC.1 zC.2.1 dX3_digestFrom_17 rfl (lv_at hl 0 rfl) ?_
      refine gf_Tx_size (v := σ 4 i 1) zC hG (by first | assumption | omega) wl_X3_15 rfl dX3_digestFrom_18 ?_
      refine zr_icmp_ge (tgt := 45) zC dX3_digestFrom_21 (by decide) (by omega) (fun c21 => ?_) (fun c21 => ?_)
      · refine lv_lload_n zC.1 zC.2.1 dX3_digestFrom_45 rfl (lv_at hl 2 rfl) ?_
        exact zr_lret zC zK hG dX3_digestFrom_46 (by rw [hu]; congr 1; omega) rfl
      · refine zr_ldc2 (z := 31) zC wl_X3_62 (by decide +kernel) dX3_digestFrom_24 ?_
        refine lv_lload_n zC.1 zC.2.1 dX3_digestFrom_27 rfl (lv_at hl 2 rfl) ?_
        refine zr_lmul zC dX3_digestFrom_28 ?_
        refine lv_aload_n zC.1 zC.2.1 dX3_digestFrom_29 rfl (lv_at hl 0 rfl) ?_
        refine gf_Tx_signs zC hG (by first | assumption | omega) wl_X3_9 dX3_digestFrom_30 ?_
        refine lv_iload zC.1 zC.2.1 dX3_digestFrom_33 (lv_at hl 3 rfl) ?_
        refine gi_Sg (v := σ 5 i q) zC hG (by first | assumption | omega) (by omega) rfl dX3_digestFrom_35 ?_
        have b36 := hc q (by omega) (by omega)
        refine zr_i2l zC dX3_digestFrom_36 (by omega) ?_
        refine zr_ladd zC dX3_digestFrom_37 ?_
        refine lv_lstore_n (lv' := [(3, .long (zL ((31 * u) + (σ 5 i q)))), (0, .ref (aTx Γ i)), (1, .long (zL h)), (5, .int (zI q))]) zC.1 zC.2.1 dX3_digestFrom_38 rfl hl (by decide) rfl (fun ls hl => ?_)
        refine zr_iinc (lv' := [(5, .int (zI (q + 1))), (3, .long (zL ((31 * u) + (σ 5 i q)))), (0, .ref (aTx Γ i)), (1, .long (zL h))]) zC dX3_digestFrom_39 hl (k := 3) rfl (by decide) rfl (fun ls hl => ?_)
        refine lv_goto (tgt := 15) zC.1 zC.2.1 dX3_digestFrom_42 (by decide) ?_
        exact ih15 ((31 * u) + (σ 5 i q)) (q + 1) H locs ls (by first | assumption | omega) (by rw [hsI_s hq.1, hu]) (by omega) hG (lv_sub hl [2, 3, 1, 0] rfl)
  exact loop15 ((61 - 0 : Int).toNat + 1) ((31 * h) + (σ 4 i 1)) 0 H locs ls (by first | assumption | omega) rfl (by omega) hG (lv_sub hl [2, 3, 1, 0] rfl)

set_option maxHeartbeats 4000000 in
set_option maxRecDepth 100000 in
theorem c_X1_take {Γ : Gm} {zl : Launch} {A : Nat → Prop} {σ : Mm} {i td : Int} (hi : 0 ≤ i ∧ i < 3) : Fn Γ zl A yX1_take cX1_take 4 none 0 0 [.ref (aKp Γ i), .ref (aTo Γ), .int (zI td)] σ none (mTk σ i td 5) := by
  refine Fn_of (by decide) (Nat.le_of_ble_eq_true rfl) ?_
  intro zp ze zs zm args below meth zc zQ H locs ls zC zK hG hl
  have hl : lv_has ls 4 [(0, .ref (aKp Γ i)), (1, .ref (aTo Γ)), (2, .int (zI td))] := hl
  refine lv_aload_n zC.1 zC.2.1 dX1_take_0 rfl (lv_at hl 0 rfl) ?_
  refine zr_iconst zC dX1_take_1 ?_
  refine pf_Kp_isThere zC hG (by first | assumption | omega) wl_X1_21 (by first | exact Or.inl rfl | exact Or.inr rfl | omega) dX1_take_2 (fun H locs hG => ?_)
  refine lv_aload_n zC.1 zC.2.1 dX1_take_5 rfl (lv_at hl 0 rfl) ?_
  refine lv_iload_n zC.1 zC.2.1 dX1_take_6 rfl (lv_at hl 2 rfl) ?_
  refine pf_Kp_today zC hG (by first | assumption | omega) wl_X1_25 dX1_take_7 (fun H locs hG => ?_)
  refine zr_iconst zC dX1_take_10 ?_
  refine lv_istore_n (lv' := [(3, .int (zI 0)), (0, .ref (aKp Γ i)), (1, .ref (aTo Γ)), (2, .int (zI td))]) zC.1 zC.2.1 dX1_take_11 rfl hl (by decide) rfl (fun ls hl => ?_)
  have loop12 : ∀ (nf : Nat) (q : Int) (H : Heap) (locs : List Loc) (ls : Array Slot), (0 ≤ q ∧ q ≤ 5) → (5 - q < (nf : Int)) → GM Γ A (mTk σ i td q) zs H locs → lv_has ls 4 [(0, .ref (aKp Γ i)), (1, .ref (aTo Γ)), (2, .int (zI td)), (3, .int (zI q))] → W zp zl ze { frames := 0, cells := 0, slots := 0, locals := 0 } zs zm args below meth zc H locs 0 0 zQ (F0 zm 12 ls []) := by
    intro nf
    induction nf with
    | zero =>
      intro q H locs ls hq hm12 _ _
      exact absurd hm12 (by omega)
    | succ nf ih12 =>
      intro q H locs ls hq hm12 hG hl
      refine lv_iload_n zC.1 zC.2.1 dX1_take_12 rfl (lv_at hl 3 rfl) ?_
      refine zr_iconst zC dX1_take_13 ?_
      refine zr_icmp_ge (tgt := 65) zC dX1_take_14 (by decide) (by omega) (fun c14 => ?_) (fun c14 => ?_)
      · exact zr_vret zC zK hG dX1_take_65 (by rw [show q = 5 by omega])
      · refine lv_iload_n zC.1 zC.2.1 dX1_take_17 rfl (lv_at hl 3 rfl) ?_
        refine lv_aload_n zC.1 zC.2.1 dX1_take_18 rfl (lv_at hl 1 rfl) ?_
        refine gl_To zC hG dX1_take_19 ?_
        refine zr_icmp_ge (tgt := 65) zC dX1_take_20 (by decide) (by omega) (fun c20 => ?_) (fun c20 => ?_)
        · exact absurd c20 (by omega)
        · refine lv_aload_n zC.1 zC.2.1 dX1_take_23 rfl (lv_at hl 0 rfl) ?_
          refine gf_Kp_leaps zC hG (by first | assumption | omega) wl_X1_9 dX1_take_24 ?_
          refine lv_iload_n zC.1 zC.2.1 dX1_take_27 rfl (lv_at hl 3 rfl) ?_
          refine lv_aload_n zC.1 zC.2.1 dX1_take_28 rfl (lv_at hl 1 rfl) ?_
          refine lv_iload_n zC.1 zC.2.1 dX1_take_29 rfl (lv_at hl 3 rfl) ?_
          refine gr_To zC hG (by omega) dX1_take_30 ?_
          refine gf_Cal_leap (v := σ 6 q 1) zC hG (by first | assumption | omega) wl_X1_29 (by first | rfl | simp [up]) dX1_take_31 ?_
          refine pi_Kl zC hG (by first | assumption | omega) (by omega) dX1_take_34 (fun H locs hG => ?_)
          refine lv_aload_n zC.1 zC.2.1 dX1_take_35 rfl (lv_at hl 0 rfl) ?_
          refine gf_Kp_orders zC hG (by first | assumption | omega) wl_X1_15 dX1_take_36 ?_
          refine lv_iload_n zC.1 zC.2.1 dX1_take_39 rfl (lv_at hl 3 rfl) ?_
          refine lv_aload_n zC.1 zC.2.1 dX1_take_40 rfl (lv_at hl 1 rfl) ?_
          refine lv_iload_n zC.1 zC.2.1 dX1_take_41 rfl (lv_at hl 3 rfl) ?_
          refine gr_To zC hG (by omega) dX1_take_42 ?_
          refine gf_Cal_order (v := σ 6 q 2) zC hG (by first | assumption | omega) wl_X1_34 (by first | rfl | simp [up]) dX1_take_43 ?_
          refine pi_Ko zC hG (by first | assumption | omega) (by omega) dX1_take_46 (fun H locs hG => ?_)
          refine lv_aload_n zC.1 zC.2.1 dX1_take_47 rfl (lv_at hl 0 rfl) ?_
          refine gf_Kp_gaps zC hG (by first | assumption | omega) wl_X1_18 dX1_take_48 ?_
          refine lv_iload_n zC.1 zC.2.1 dX1_take_51 rfl (lv_at hl 3 rfl) ?_
          refine lv_aload_n zC.1 zC.2.1 dX1_take_52 rfl (lv_at hl 1 rfl) ?_
          refine lv_iload_n zC.1 zC.2.1 dX1_take_53 rfl (lv_at hl 3 rfl) ?_
          refine gr_To zC hG (by omega) dX1_take_54 ?_
          refine gf_Cal_gap (v := σ 6 q 3) zC hG (by first | assumption | omega) wl_X1_37 (by first | rfl | simp [up]) dX1_take_55 ?_
          refine pi_Kg zC hG (by first | assumption | omega) (by omega) dX1_take_58 (fun H locs hG => ?_)
          refine zr_iinc (lv' := [(3, .int (zI (q + 1))), (0, .ref (aKp Γ i)), (1, .ref (aTo Γ)), (2, .int (zI td))]) zC dX1_take_59 hl (k := 3) rfl (by decide) rfl (fun ls hl => ?_)
          refine lv_goto (tgt := 12) zC.1 zC.2.1 dX1_take_62 (by decide) ?_
          exact ih12 (q + 1) H locs ls (by first | assumption | omega) (by omega) ((show up (up (up (mTk σ i td q) 8 i q (σ 6 q 1)) 9 i q (σ 6 q 2)) 10 i q (σ 6 q 3) = mTk σ i td (q + 1) from mTk_s _ _ _ _ (by omega)) ▸ hG) (lv_sub hl [1, 2, 3, 0] rfl)
  exact loop12 ((5 - 0 : Int).toNat + 1) 0 H locs ls (by first | assumption | omega) (by omega) ((show up (up σ 7 i 3 1) 7 i 4 td = mTk σ i td 0 from mTk_0 _ _ _) ▸ hG) (lv_sub hl [1, 2, 3, 0] rfl)

set_option maxHeartbeats 4000000 in
set_option maxRecDepth 100000 in
theorem c_X1_giveBack {Γ : Gm} {zl : Launch} {A : Nat → Prop} {σ : Mm} {i : Int} (hi : 0 ≤ i ∧ i < 3) : Fn Γ zl A yX1_giveBack cX1_giveBack 3 none 0 0 [.ref (aKp Γ i), .ref (aTo Γ)] σ none (mGv σ i 5) := by
  refine Fn_of (by decide) (Nat.le_of_ble_eq_true rfl) ?_
  intro zp ze zs zm args below meth zc zQ H locs ls zC zK hG hl
  have hl : lv_has ls 3 [(0, .ref (aKp Γ i)), (1, .ref (aTo Γ))] := hl
  refine zr_iconst zC dX1_giveBack_0 ?_
  refine lv_istore_n (lv' := [(2, .int (zI 0)), (0, .ref (aKp Γ i)), (1, .ref (aTo Γ))]) zC.1 zC.2.1 dX1_giveBack_1 rfl hl (by decide) rfl (fun ls hl => ?_)
  have loop2 : ∀ (nf : Nat) (q : Int) (H : Heap) (locs : List Loc) (ls : Array Slot), (0 ≤ q ∧ q ≤ 5) → (5 - q < (nf : Int)) → GM Γ A (mGv σ i q) zs H locs → lv_has ls 3 [(0, .ref (aKp Γ i)), (1, .ref (aTo Γ)), (2, .int (zI q))] → W zp zl ze { frames := 0, cells := 0, slots := 0, locals := 0 } zs zm args below meth zc H locs 0 0 zQ (F0 zm 2 ls []) := by
    intro nf
    induction nf with
    | zero =>
      intro q H locs ls hq hm2 _ _
      exact absurd hm2 (by omega)
    | succ nf ih2 =>
      intro q H locs ls hq hm2 hG hl
      refine lv_iload_n zC.1 zC.2.1 dX1_giveBack_2 rfl (lv_at hl 2 rfl) ?_
      refine zr_iconst zC dX1_giveBack_3 ?_
      refine zr_icmp_ge (tgt := 55) zC dX1_giveBack_4 (by decide) (by omega) (fun c4 => ?_) (fun c4 => ?_)
      · exact zr_vret zC zK hG dX1_giveBack_55 (by rw [show q = 5 by omega])
      · refine lv_iload_n zC.1 zC.2.1 dX1_giveBack_7 rfl (lv_at hl 2 rfl) ?_
        refine lv_aload_n zC.1 zC.2.1 dX1_giveBack_8 rfl (lv_at hl 1 rfl) ?_
        refine gl_To zC hG dX1_giveBack_9 ?_
        refine zr_icmp_ge (tgt := 55) zC dX1_giveBack_10 (by decide) (by omega) (fun c10 => ?_) (fun c10 => ?_)
        · exact absurd c10 (by omega)
        · refine lv_aload_n zC.1 zC.2.1 dX1_giveBack_13 rfl (lv_at hl 1 rfl) ?_
          refine lv_iload_n zC.1 zC.2.1 dX1_giveBack_14 rfl (lv_at hl 2 rfl) ?_
          refine gr_To zC hG (by omega) dX1_giveBack_15 ?_
          refine lv_aload_n zC.1 zC.2.1 dX1_giveBack_16 rfl (lv_at hl 0 rfl) ?_
          refine gf_Kp_leaps zC hG (by first | assumption | omega) wl_X1_9 dX1_giveBack_17 ?_
          refine lv_iload_n zC.1 zC.2.1 dX1_giveBack_20 rfl (lv_at hl 2 rfl) ?_
          refine gi_Kl (v := σ 8 i q) zC hG (by first | assumption | omega) (by omega) (by first | rfl | simp [up]) dX1_giveBack_21 ?_
          refine pf_Cal_leap zC hG (by first | assumption | omega) wl_X1_29 dX1_giveBack_22 (fun H locs hG => ?_)
          refine lv_aload_n zC.1 zC.2.1 dX1_giveBack_25 rfl (lv_at hl 1 rfl) ?_
          refine lv_iload_n zC.1 zC.2.1 dX1_giveBack_26 rfl (lv_at hl 2 rfl) ?_
          refine gr_To zC hG (by omega) dX1_giveBack_27 ?_
          refine lv_aload_n zC.1 zC.2.1 dX1_giveBack_28 rfl (lv_at hl 0 rfl) ?_
          refine gf_Kp_orders zC hG (by first | assumption | omega) wl_X1_15 dX1_giveBack_29 ?_
          refine lv_iload_n zC.1 zC.2.1 dX1_giveBack_32 rfl (lv_at hl 2 rfl) ?_
          refine gi_Ko (v := σ 9 i q) zC hG (by first | assumption | omega) (by omega) (by first | rfl | simp [up]) dX1_giveBack_33 ?_
          refine pf_Cal_order zC hG (by first | assumption | omega) wl_X1_34 dX1_giveBack_34 (fun H locs hG => ?_)
          refine lv_aload_n zC.1 zC.2.1 dX1_giveBack_37 rfl (lv_at hl 1 rfl) ?_
          refine lv_iload_n zC.1 zC.2.1 dX1_giveBack_38 rfl (lv_at hl 2 rfl) ?_
          refine gr_To zC hG (by omega) dX1_giveBack_39 ?_
          refine lv_aload_n zC.1 zC.2.1 dX1_giveBack_40 rfl (lv_at hl 0 rfl) ?_
          refine gf_Kp_gaps zC hG (by first | assumption | omega) wl_X1_18 dX1_giveBack_41 ?_
          refine lv_iload_n zC.1 zC.2.1 dX1_giveBack_44 rfl (lv_at hl 2 rfl) ?_
          refine gi_Kg (v := σ 10 i q) zC hG (by first | assumption | omega) (by omega) (by first | rfl | simp [up]) dX1_giveBack_45 ?_
          refine pf_Cal_gap zC hG (by first | assumption | omega) wl_X1_37 dX1_giveBack_46 (fun H locs hG => ?_)
          refine zr_iinc (lv' := [(2, .int (zI (q + 1))), (0, .ref (aKp Γ i)), (1, .ref (aTo Γ))]) zC dX1_giveBack_49 hl (k := 2) rfl (by decide) rfl (fun ls hl => ?_)
          refine lv_goto (tgt := 2) zC.1 zC.2.1 dX1_giveBack_52 (by decide) ?_
          exact ih2 (q + 1) H locs ls (by first | assumption | omega) (by omega) ((show up (up (up (mGv σ i q) 6 q 1 (σ 8 i q)) 6 q 2 (σ 9 i q)) 6 q 3 (σ 10 i q) = mGv σ i (q + 1) from mGv_s _ _ _ (by omega)) ▸ hG) (lv_sub hl [1, 2, 0] rfl)
  exact loop2 ((5 - 0 : Int).toNat + 1) 0 H locs ls (by first | assumption | omega) (by omega) ((show σ = mGv σ i 0 from mGv_0 _ _) ▸ hG) (lv_sub hl [1, 2, 0] rfl)
