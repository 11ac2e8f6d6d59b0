set_option maxHeartbeats 4000000 in
set_option maxRecDepth 100000 in
theorem c_X5_doesQuarrel {Γ : Gm} {zl : Launch} {A : Nat → Prop} {τ σ : Mm} {r x : Int} (hR : Rel2 τ σ) (hI : IC τ) (hr : 0 ≤ r ∧ r < 6) (hx : 0 ≤ x ∧ x + 2 < 40) (hc : isT τ (τ 3 r x)) (ht : 0 ≤ τ 3 r (x + 1)) (hy : 0 ≤ τ 3 r (x + 2) ∧ τ 3 r (x + 2) ≤ 50) : Fr Γ zl A yX5_doesQuarrel cX5_doesQuarrel 5 (some .boolean) 4 88 [.ref (aM Γ), .int (zI r), .int (zI x)] σ (some (.int (zI (zB (qrX τ r x))))) τ := by
  refine Fr_of (by decide) (Nat.le_of_ble_eq_true rfl) ?_
  intro zp ze zs zm args below meth zc zQ H locs ls zC zK hG hl
  have hl : lv_has ls 5 [(0, .ref (aM Γ)), (1, .int (zI r)), (2, .int (zI x))] := hl
  obtain ⟨hmany, htoday, -⟩ := id hI
  refine lv_aload_n zC.1 zC.2.1 dX5_doesQuarrel_0 rfl (lv_at hl 0 rfl) ?_
  refine lv_iload_n zC.1 zC.2.1 dX5_doesQuarrel_1 rfl (lv_at hl 1 rfl) ?_
  refine lv_iload_n zC.1 zC.2.1 dX5_doesQuarrel_2 rfl (lv_at hl 2 rfl) ?_
  refine zr_iconst zC dX5_doesQuarrel_3 ?_
  refine zr_iadd zC dX5_doesQuarrel_4 ?_
  refine zr_callV zC hG (c_X5_rowAt (τ := τ) (σ := σ) (r := r) (x := x + 2) hR hI (by first | assumption | omega) (by first | assumption | omega)) mt_X5_rowAt wl_X5_82 pM rfl rfl ⟨by decide, by decide⟩ rfl hl.1 rfl (Nat.le_of_ble_eq_true rfl) dX5_doesQuarrel_5 ⟨Nat.zero_le _, Nat.zero_le _⟩ (fun H locs hG => ?_)
  refine W.eq (g2 := F0 zm 8 ls [.int (zI (τ 3 r (x + 2)))]) rfl ?_
  have b5_0 := hI.2.2.2.1 r (x + 2) (by omega) (by omega) (by omega) (by omega)
  refine lv_istore_n (lv' := [(3, .int (zI (τ 3 r (x + 2)))), (0, .ref (aM Γ)), (1, .int (zI r)), (2, .int (zI x))]) zC.1 zC.2.1 dX5_doesQuarrel_8 rfl hl (by decide) rfl (fun ls hl => ?_)
  refine lv_aload_n zC.1 zC.2.1 dX5_doesQuarrel_9 rfl (lv_at hl 1 rfl) ?_
  refine lv_aload_n zC.1 zC.2.1 dX5_doesQuarrel_10 rfl (lv_at hl 1 rfl) ?_
  refine lv_iload_n zC.1 zC.2.1 dX5_doesQuarrel_11 rfl (lv_at hl 2 rfl) ?_
  refine lv_iload_n zC.1 zC.2.1 dX5_doesQuarrel_12 rfl (lv_at hl 3 rfl) ?_
  refine zr_callV zC hG (c_X5_rowAt (τ := τ) (σ := σ) (r := r) (x := x) hR hI (by first | assumption | omega) (by first | assumption | omega)) mt_X5_rowAt wl_X5_82 pM rfl rfl ⟨by decide, by decide⟩ rfl hl.1 rfl (Nat.le_of_ble_eq_true rfl) dX5_doesQuarrel_13 ⟨Nat.zero_le _, Nat.zero_le _⟩ (fun H locs hG => ?_)
  refine W.eq (g2 := F0 zm 16 ls [.int (zI (τ 3 r x)), .ref (aM Γ)]) rfl ?_
  have b13_0 := hI.2.2.2.1 r x (by omega) (by omega) (by omega) (by omega)
  refine lv_aload_n zC.1 zC.2.1 dX5_doesQuarrel_16 rfl (lv_at hl 1 rfl) ?_
  refine lv_iload_n zC.1 zC.2.1 dX5_doesQuarrel_17 rfl (lv_at hl 2 rfl) ?_
  refine lv_iload_n zC.1 zC.2.1 dX5_doesQuarrel_18 rfl (lv_at hl 3 rfl) ?_
  refine zr_iconst zC dX5_doesQuarrel_19 ?_
  refine zr_iadd zC dX5_doesQuarrel_20 ?_
  refine zr_callV zC hG (c_X5_rowAt (τ := τ) (σ := σ) (r := r) (x := x + 1) hR hI (by first | assumption | omega) (by first | assumption | omega)) mt_X5_rowAt wl_X5_82 pM rfl rfl ⟨by decide, by decide⟩ rfl hl.1 rfl (Nat.le_of_ble_eq_true rfl) dX5_doesQuarrel_21 ⟨Nat.zero_le _, Nat.zero_le _⟩ (fun H locs hG => ?_)
  refine W.eq (g2 := F0 zm 24 ls [.int (zI (τ 3 r (x + 1))), .int (zI (τ 3 r x)), .ref (aM Γ)]) rfl ?_
  have b21_0 := hI.2.2.2.1 r (x + 1) (by omega) (by omega) (by omega) (by omega)
  refine zr_callV zC hG (c_X5_dayIn (τ := τ) (σ := σ) (c := τ 3 r x) (t := τ 3 r (x + 1)) hR hI (by first | assumption | omega) (by first | assumption | omega)) mt_X5_dayIn wl_X5_185 pM rfl rfl ⟨by decide, by decide⟩ rfl hl.1 rfl (Nat.le_of_ble_eq_true rfl) dX5_doesQuarrel_24 ⟨Nat.zero_le _, Nat.zero_le _⟩ (fun H locs hG => ?_)
  refine W.eq (g2 := F0 zm 27 ls [.int (zI (dyM (dyD (τ 6 (τ 3 r x) 0) (τ 6 (τ 3 r x) 1) (τ 6 (τ 3 r x) 2) (τ 6 (τ 3 r x) 3) (τ 3 r (x + 1)))))]) rfl ?_
  have b24_0 := dyD_r (k := (τ 6 (τ 3 r x) 0)) (lp := (τ 6 (τ 3 r x) 1)) (o := (τ 6 (τ 3 r x) 2)) (g := (τ 6 (τ 3 r x) 3)) (t := (τ 3 r (x + 1))) (hI.2.2.2.2.2.2.1 (τ 3 r x) (by omega) (by omega)).2.1 (hI.2.2.2.2.2.2.1 (τ 3 r x) (by omega) (by omega)).2.2.1.1
  have b24_1 := dyM_s (dyD (τ 6 (τ 3 r x) 0) (τ 6 (τ 3 r x) 1) (τ 6 (τ 3 r x) 2) (τ 6 (τ 3 r x) 3) (τ 3 r (x + 1)))
  refine lv_istore (lv' := [(4, .int (zI (dyM (dyD (τ 6 (τ 3 r x) 0) (τ 6 (τ 3 r x) 1) (τ 6 (τ 3 r x) 2) (τ 6 (τ 3 r x) 3) (τ 3 r (x + 1)))))), (3, .int (zI (τ 3 r (x + 2)))), (0, .ref (aM Γ)), (1, .int (zI r)), (2, .int (zI x))]) zC.1 zC.2.1 dX5_doesQuarrel_27 hl (by decide) rfl (fun ls hl => ?_)
  refine lv_iload zC.1 zC.2.1 dX5_doesQuarrel_29 (lv_at hl 0 rfl) ?_
  refine zr_bipush zC dX5_doesQuarrel_31 (by decide +kernel) ?_
  refine zr_icmp_eq (tgt := 64) zC dX5_doesQuarrel_33 (by decide) (by omega) (fun c33 => ?_) (fun c33 => ?_)
  · refine zr_iconst zC dX5_doesQuarrel_64 ?_
    refine lv_goto (tgt := 69) zC.1 zC.2.1 dX5_doesQuarrel_65 (by decide) ?_
    exact zm_zret zC zK hG dX5_doesQuarrel_69 (zB_t (by omega)) (Or.inr rfl) hR (sC_up (sC_up (sC_up (sC_up (sC_r _) (by decide)) (by decide)) (by decide)) (by decide))
  · obtain ⟨kca, kcb, kcc, kcd⟩ := hI.2.2.2.2.2.2.1 (τ 3 r x) (by omega) (by omega)
    have h33 := dyD_lt (k := τ 6 (τ 3 r x) 0) (lp := τ 6 (τ 3 r x) 1) (o := τ 6 (τ 3 r x) 2) (g := τ 6 (τ 3 r x) 3) (t := τ 3 r (x + 1)) kcb kcd (by omega)
    refine lv_aload_n zC.1 zC.2.1 dX5_doesQuarrel_36 rfl (lv_at hl 2 rfl) ?_
    refine lv_aload_n zC.1 zC.2.1 dX5_doesQuarrel_37 rfl (lv_at hl 2 rfl) ?_
    refine lv_iload_n zC.1 zC.2.1 dX5_doesQuarrel_38 rfl (lv_at hl 3 rfl) ?_
    refine lv_iload_n zC.1 zC.2.1 dX5_doesQuarrel_39 rfl (lv_at hl 4 rfl) ?_
    refine zr_iconst zC dX5_doesQuarrel_40 ?_
    refine zr_iadd zC dX5_doesQuarrel_41 ?_
    refine zr_callV zC hG (c_X5_rowAt (τ := τ) (σ := up (up (up (up σ 20 0 19 (τ 6 (τ 3 r x) 0)) 20 0 20 (τ 6 (τ 3 r x) 1)) 20 0 21 (τ 6 (τ 3 r x) 2)) 20 0 22 (τ 6 (τ 3 r x) 3)) (r := r) (x := x + 1) hR hI (by first | assumption | omega) (by first | assumption | omega)) mt_X5_rowAt wl_X5_82 pM rfl rfl ⟨by decide, by decide⟩ rfl hl.1 rfl (Nat.le_of_ble_eq_true rfl) dX5_doesQuarrel_42 ⟨Nat.zero_le _, Nat.zero_le _⟩ (fun H locs hG => ?_)
    refine W.eq (g2 := F0 zm 45 ls [.int (zI (τ 3 r (x + 1))), .ref (aM Γ)]) rfl ?_
    have b42_0 := hI.2.2.2.1 r (x + 1) (by omega) (by omega) (by omega) (by omega)
    refine zr_sipush zC dX5_doesQuarrel_45 (by decide +kernel) ?_
    refine lv_iload_n zC.1 zC.2.1 dX5_doesQuarrel_48 rfl (lv_at hl 1 rfl) ?_
    refine zr_imul zC dX5_doesQuarrel_49 ?_
    refine zr_iadd zC dX5_doesQuarrel_50 ?_
    have k51 := hI.2.2.2.2.2.2.1 (τ 3 r x) (by omega) (by omega)
    obtain ⟨k51a, k51b, k51c, k51d⟩ := id k51
    refine zr_callV zC hG (c_X5_dayOfDate (σ := up (up (up (up σ 20 0 19 (τ 6 (τ 3 r x) 0)) 20 0 20 (τ 6 (τ 3 r x) 1)) 20 0 21 (τ 6 (τ 3 r x) 2)) 20 0 22 (τ 6 (τ 3 r x) 3)) (t := (τ 3 r (x + 1)) + (1000 * (τ 3 r (x + 2)))) k51 (by first | assumption | omega)) mt_X5_dayOfDate wl_X5_163 pM rfl rfl ⟨by decide, by decide⟩ rfl hl.1 rfl (Nat.le_of_ble_eq_true rfl) dX5_doesQuarrel_51 ⟨Nat.zero_le _, Nat.zero_le _⟩ (fun H locs hG => ?_)
    refine W.eq (g2 := F0 zm 54 ls [.int (zI (dyM (dyD (τ 6 (τ 3 r x) 0) (τ 6 (τ 3 r x) 1) (τ 6 (τ 3 r x) 2) (τ 6 (τ 3 r x) 3) ((τ 3 r (x + 1)) + (1000 * (τ 3 r (x + 2)))))))]) rfl ?_
    have b51_0 := dyD_r (k := (τ 6 (τ 3 r x) 0)) (lp := (τ 6 (τ 3 r x) 1)) (o := (τ 6 (τ 3 r x) 2)) (g := (τ 6 (τ 3 r x) 3)) (t := ((τ 3 r (x + 1)) + (1000 * (τ 3 r (x + 2))))) (by omega) (by omega)
    have b51_1 := dyM_s (dyD (τ 6 (τ 3 r x) 0) (τ 6 (τ 3 r x) 1) (τ 6 (τ 3 r x) 2) (τ 6 (τ 3 r x) 3) ((τ 3 r (x + 1)) + (1000 * (τ 3 r (x + 2)))))
    refine lv_iload zC.1 zC.2.1 dX5_doesQuarrel_54 (lv_at hl 0 rfl) ?_
    refine zr_bipush zC dX5_doesQuarrel_56 (by decide +kernel) ?_
    refine lv_iload_n zC.1 zC.2.1 dX5_doesQuarrel_58 rfl (lv_at hl 1 rfl) ?_
    refine zr_imul zC dX5_doesQuarrel_59 ?_
    refine zr_iadd zC dX5_doesQuarrel_60 ?_
    refine zr_icmp_eq (tgt := 68) zC dX5_doesQuarrel_61 (by decide) (by omega) (fun c61 => ?_) (fun c61 => ?_)
    · refine zr_iconst zC dX5_doesQuarrel_68 ?_
      exact zm_zret zC zK hG dX5_doesQuarrel_69 (zB_f (by omega)) (Or.inl rfl) hR (sC_up (sC_up (sC_up (sC_up (sC_r _) (by decide)) (by decide)) (by decide)) (by decide))
    · refine zr_iconst zC dX5_doesQuarrel_64 ?_
      refine lv_goto (tgt := 69) zC.1 zC.2.1 dX5_doesQuarrel_65 (by decide) ?_
      exact zm_zret zC zK hG dX5_doesQuarrel_69 (zB_t (by omega)) (Or.inr rfl) hR (sC_up (sC_up (sC_up (sC_up (sC_r _) (by decide)) (by decide)) (by decide)) (by decide))

set_option maxHeartbeats 4000000 in
set_option maxRecDepth 100000 in
theorem c_X5_quarrelMany {Γ : Gm} {zl : Launch} {A : Nat → Prop} {τ σ : Mm} {r : Int} (hR : Rel2 τ σ) (hI : IC τ) (hr : 0 ≤ r ∧ r < 6) (hs : 0 ≤ τ 2 r 1 ∧ τ 2 r 1 % 3 = 0) (hv : ∀ q, 0 ≤ q → q < τ 2 r 1 / 3 → cOK τ r q) : Fr Γ zl A yX5_quarrelMany cX5_quarrelMany 4 (some .int) 5 112 [.ref (aM Γ), .int (zI r)] σ (some (.int (zI (ctI (fun q => qrX τ r (3 * q)) 0 (τ 2 r 1 / 3).toNat)))) τ := by
  refine Fr_of (by decide) (Nat.le_of_ble_eq_true rfl) ?_
  intro zp ze zs zm args below meth zc zQ H locs ls zC zK hG hl
  have hl : lv_has ls 4 [(0, .ref (aM Γ)), (1, .int (zI r))] := hl
  obtain ⟨hmany, htoday, -⟩ := id hI
  refine zr_iconst zC dX5_quarrelMany_0 ?_
  refine lv_istore_n (lv' := [(2, .int (zI 0)), (0, .ref (aM Γ)), (1, .int (zI r))]) zC.1 zC.2.1 dX5_quarrelMany_1 rfl hl (by decide) rfl (fun ls hl => ?_)
  refine zr_iconst zC dX5_quarrelMany_2 ?_
  refine lv_istore_n (lv' := [(3, .int (zI 0)), (2, .int (zI 0)), (0, .ref (aM Γ)), (1, .int (zI r))]) zC.1 zC.2.1 dX5_quarrelMany_3 rfl hl (by decide) rfl (fun ls hl => ?_)
  have loop4 : ∀ (nf : Nat) (u p : Int) (σ4q : Mm) (H : Heap) (locs : List Loc) (ls : Array Slot), (0 ≤ p ∧ p ≤ τ 2 r 1 ∧ p % 3 = 0) → (u = ctI (fun q => qrX τ r (3 * q)) 0 (p / 3 - 0).toNat) → (Rel2 τ σ4q) → (sC σ σ4q) → (τ 2 r 1 - p < (nf : Int)) → GM Γ A σ4q zs H locs → lv_has ls 4 [(0, .ref (aM Γ)), (1, .int (zI r)), (2, .int (zI u)), (3, .int (zI p))] → W zp zl ze { frames := 5, cells := 0, slots := 0, locals := 112 } zs zm args below meth zc H locs 0 0 zQ (F0 zm 4 ls []) := by
    intro nf
    induction nf with
    | zero =>
      intro u p σ4q H locs ls hp hu hR4q hC4q hm4 _ _
      exact absurd hm4 (by omega)
    | succ nf ih4 =>
      intro u p σ4q H locs ls hp hu hR4q hC4q hm4 hG hl
      refine lv_iload_n zC.1 zC.2.1 dX5_quarrelMany_4 rfl (lv_at hl 3 rfl) ?_
      refine lv_aload_n zC.1 zC.2.1 dX5_quarrelMany_5 rfl (lv_at hl 0 rfl) ?_
      refine gf_M_sizes zC hG wl_X5_17 dX5_quarrelMany_6 ?_
      refine lv_iload_n zC.1 zC.2.1 dX5_quarrelMany_9 rfl (lv_at hl 1 rfl) ?_
      refine gi_m_sizes (v := szM (τ 2 r 1)) zC hG (by omega) (hR4q.2.2.1 r (by omega) (by omega)) dX5_quarrelMany_10 ?_
      have f10 := hI.2.2.1 r (by omega) (by omega)
      have f10s := szM_s (τ 2 r 1)
      refine zr_icmp_ge (tgt := 37) zC dX5_quarrelMany_11 (by decide) (by omega) (fun c11 => ?_) (fun c11 => ?_)
      · refine lv_iload_n zC.1 zC.2.1 dX5_quarrelMany_37 rfl (lv_at hl 2 rfl) ?_
        exact zm_iret zC zK hG dX5_quarrelMany_38 (by rw [hu, show p = τ 2 r 1 by omega]; congr 1; omega) hR4q hC4q
      · obtain ⟨g1, g2, g3, g4⟩ := hv (p / 3) (by omega) (by omega)
        rw [show 3 * (p / 3) = p by omega] at g1 g2 g3 g4
        refine lv_iload_n zC.1 zC.2.1 dX5_quarrelMany_14 rfl (lv_at hl 2 rfl) ?_
        refine lv_aload_n zC.1 zC.2.1 dX5_quarrelMany_15 rfl (lv_at hl 0 rfl) ?_
        refine lv_iload_n zC.1 zC.2.1 dX5_quarrelMany_16 rfl (lv_at hl 1 rfl) ?_
        refine lv_iload_n zC.1 zC.2.1 dX5_quarrelMany_17 rfl (lv_at hl 3 rfl) ?_
        refine zm_callV zC hG (c_X5_doesQuarrel (τ := τ) (σ := σ4q) (r := r) (x := p) hR4q hI (by first | assumption | omega) (by first | assumption | omega) (by first | assumption | omega) (by first | assumption | omega) (by first | assumption | omega)) mt_X5_doesQuarrel wl_X5_207 pM rfl rfl ⟨by decide, by decide⟩ rfl hl.1 rfl (Nat.le_of_ble_eq_true rfl) dX5_quarrelMany_18 ⟨Nat.zero_le _, Nat.zero_le _⟩ (fun σ18 H locs hR18 hC18 hG => ?_)
        refine W.eq (g2 := F0 zm 21 ls [.int (zI (zB (qrX τ r p))), .int (zI u)]) rfl ?_
        refine zr_ifeqB (tgt := 28) zC dX5_quarrelMany_21 (by decide) (fun c21 => ?_) (fun c21 => ?_)
        · refine zr_iconst zC dX5_quarrelMany_28 ?_
          refine zr_iadd zC dX5_quarrelMany_29 ?_
          refine lv_istore_n (lv' := [(2, .int (zI (u + 0))), (0, .ref (aM Γ)), (1, .int (zI r)), (3, .int (zI p))]) zC.1 zC.2.1 dX5_quarrelMany_30 rfl hl (by decide) rfl (fun ls hl => ?_)
          refine zr_iinc (lv' := [(3, .int (zI (p + 3))), (2, .int (zI (u + 0))), (0, .ref (aM Γ)), (1, .int (zI r))]) zC dX5_quarrelMany_31 hl (k := 3) rfl (by decide) rfl (fun ls hl => ?_)
          refine lv_goto (tgt := 4) zC.1 zC.2.1 dX5_quarrelMany_34 (by decide) ?_
          exact ih4 (u + 0) (p + 3) σ18 H locs ls (by first | assumption | omega) (by rw [show (p + 3) / 3 = p / 3 + 1 by omega, ctI_s (by omega), ← hu, show 3 * (p / 3) = p by omega]; unfold zB; split <;> omega) hR18 (sC_t hC4q hC18) (by omega) hG (lv_sub hl [2, 3, 1, 0] rfl)
        · refine zr_iconst zC dX5_quarrelMany_24 ?_
          refine lv_goto (tgt := 29) zC.1 zC.2.1 dX5_quarrelMany_25 (by decide) ?_
          refine zr_iadd zC dX5_quarrelMany_29 ?_
          refine lv_istore_n (lv' := [(2, .int (zI (u + 1))), (0, .ref (aM Γ)), (1, .int (zI r)), (3, .int (zI p))]) zC.1 zC.2.1 dX5_quarrelMany_30 rfl hl (by decide) rfl (fun ls hl => ?_)
          refine zr_iinc (lv' := [(3, .int (zI (p + 3))), (2, .int (zI (u + 1))), (0, .ref (aM Γ)), (1, .int (zI r))]) zC dX5_quarrelMany_31 hl (k := 3) rfl (by decide) rfl (fun ls hl => ?_)
          refine lv_goto (tgt := 4) zC.1 zC.2.1 dX5_quarrelMany_34 (by decide) ?_
          exact ih4 (u + 1) (p + 3) σ18 H locs ls (by first | assumption | omega) (by rw [show (p + 3) / 3 = p / 3 + 1 by omega, ctI_s (by omega), ← hu, show 3 * (p / 3) = p by omega]; unfold zB; split <;> omega) hR18 (sC_t hC4q hC18) (by omega) hG (lv_sub hl [2, 3, 1, 0] rfl)
  exact loop4 ((τ 2 r 1 - 0 : Int).toNat + 1) 0 0 σ H locs ls (by first | assumption | omega) rfl hR (sC_r _) (by omega) hG (lv_sub hl [2, 3, 1, 0] rfl)
