set_option maxHeartbeats 4000000 in
set_option maxRecDepth 100000 in
theorem c_X4_commonDivisor {Γ : Gm} {zl : Launch} {A : Nat → Prop} {σ : Mm} {a b : Int} (ha : 0 ≤ a ∧ a ≤ 10000000000) (hb : 0 < b ∧ b ≤ 1000000) : Fn Γ zl A yX4_commonDivisor cX4_commonDivisor 11 (some .long) 0 0 [.long (zL a), .long (zL b)] σ (some (.long (zL (gdI a b)))) σ := by
  refine Fn_of (by decide) (Nat.le_of_ble_eq_true rfl) ?_
  intro zp ze zs zm args below meth zc zQ H locs ls zC zK hG hl
  have hl : lv_has ls 11 [(0, .long (zL a)), (2, .long (zL b))] := hl
  have hab := mul_r (a := a) (b := b) (m := 10000000000) (n := 1000000) (by omega) (by omega)
  refine lv_lload_n zC.1 zC.2.1 dX4_commonDivisor_0 rfl (lv_at hl 0 rfl) ?_
  refine lv_lstore (lv' := [(4, .long (zL a)), (0, .long (zL a)), (2, .long (zL b))]) zC.1 zC.2.1 dX4_commonDivisor_1 hl (by decide) rfl (fun ls hl => ?_)
  refine lv_lload_n zC.1 zC.2.1 dX4_commonDivisor_3 rfl (lv_at hl 2 rfl) ?_
  refine lv_lstore (lv' := [(6, .long (zL b)), (4, .long (zL a)), (0, .long (zL a)), (2, .long (zL b))]) zC.1 zC.2.1 dX4_commonDivisor_4 hl (by decide) rfl (fun ls hl => ?_)
  refine zr_iconst zC dX4_commonDivisor_6 ?_
  refine lv_istore (lv' := [(8, .int (zI 0)), (6, .long (zL b)), (4, .long (zL a)), (0, .long (zL a)), (2, .long (zL b))]) zC.1 zC.2.1 dX4_commonDivisor_7 hl (by decide) rfl (fun ls hl => ?_)
  have loop9 : ∀ (nf : Nat) (x y n : Int) (H : Heap) (locs : List Loc) (ls : Array Slot), ((0 ≤ x ∧ x ≤ 10000000000) ∧ (0 ≤ y ∧ y ≤ 10000000000) ∧ 0 ≤ n ∧ n ≤ 100) → ((n = 0 ∧ x = a ∧ y = b) ∨ (1 ≤ n ∧ y < x ∧ x * y * 2 ^ n.toNat ≤ 2 * (a * b))) → (Int.gcd x y = Int.gcd a b) → (100 - n < (nf : Int)) → GM Γ A σ zs H locs → lv_has ls 11 [(0, .long (zL a)), (2, .long (zL b)), (4, .long (zL x)), (6, .long (zL y)), (8, .int (zI n))] → W zp zl ze { frames := 0, cells := 0, slots := 0, locals := 0 } zs zm args below meth zc H locs 0 0 zQ (F0 zm 9 ls []) := by
    intro nf
    induction nf with
    | zero =>
      intro x y n H locs ls hx hn hg hm9 _ _
      exact absurd hm9 (by omega)
    | succ nf ih9 =>
      intro x y n H locs ls hx hn hg hm9 hG hl
      refine lv_iload zC.1 zC.2.1 dX4_commonDivisor_9 (lv_at hl 4 rfl) ?_
      refine zr_bipush zC dX4_commonDivisor_11 (by decide +kernel) ?_
      refine zr_icmp_ge (tgt := 44) zC dX4_commonDivisor_13 (by decide) (by omega) (fun c13 => ?_) (fun c13 => ?_)
      · refine lv_lload zC.1 zC.2.1 dX4_commonDivisor_44 (lv_at hl 2 rfl) ?_
        exact zr_lret zC zK hG dX4_commonDivisor_46 (by have y1 : y = 0 := (by first | exact y0 | (rcases hn with ⟨e1, _⟩ | ⟨e1, e2, e3⟩; (exfalso; omega); by_cases w : y = 0; exact w; exfalso; exact eu_e (x := x) (y := y) (c := 2 * (a * b)) (by omega) (by omega) (by rw [show n.toNat = 100 by omega] at e3; exact e3) (by omega))); unfold gdI; rw [← hg, y1, gdI_0 (by omega)]) rfl
      · refine lv_lload zC.1 zC.2.1 dX4_commonDivisor_16 (lv_at hl 3 rfl) ?_
        refine zr_lconst (z := 0) zC dX4_commonDivisor_18 (by decide +kernel) ?_
        refine zr_lcmp zC dX4_commonDivisor_19 (by omega) ?_
        refine zr_if_eq (tgt := 44) zC dX4_commonDivisor_20 (by decide) (by omega) (fun c20 => ?_) (fun c20 => ?_)
        · have y0 : y = 0 := by by_cases w : y = 0; exact w; exfalso; revert c20; rw [if_neg (by omega), if_neg w]; decide
          refine lv_lload zC.1 zC.2.1 dX4_commonDivisor_44 (lv_at hl 2 rfl) ?_
          exact zr_lret zC zK hG dX4_commonDivisor_46 (by have y1 : y = 0 := (by first | exact y0 | (rcases hn with ⟨e1, _⟩ | ⟨e1, e2, e3⟩; (exfalso; omega); by_cases w : y = 0; exact w; exfalso; exact eu_e (x := x) (y := y) (c := 2 * (a * b)) (by omega) (by omega) (by rw [show n.toNat = 100 by omega] at e3; exact e3) (by omega))); unfold gdI; rw [← hg, y1, gdI_0 (by omega)]) rfl
        · have y0 : y ≠ 0 := fun z => by rw [z] at c20; exact c20 (by decide)
          refine lv_lload zC.1 zC.2.1 dX4_commonDivisor_23 (lv_at hl 2 rfl) ?_
          refine lv_lload zC.1 zC.2.1 dX4_commonDivisor_25 (lv_at hl 3 rfl) ?_
          refine zr_lrem zC dX4_commonDivisor_27 (by omega) ?_
          refine lv_lstore (lv' := [(9, .long (zL (x % y))), (0, .long (zL a)), (2, .long (zL b)), (4, .long (zL x)), (6, .long (zL y)), (8, .int (zI n))]) zC.1 zC.2.1 dX4_commonDivisor_28 hl (by decide) rfl (fun ls hl => ?_)
          refine lv_lload zC.1 zC.2.1 dX4_commonDivisor_30 (lv_at hl 4 rfl) ?_
          refine lv_lstore (lv' := [(4, .long (zL y)), (9, .long (zL (x % y))), (0, .long (zL a)), (2, .long (zL b)), (6, .long (zL y)), (8, .int (zI n))]) zC.1 zC.2.1 dX4_commonDivisor_32 hl (by decide) rfl (fun ls hl => ?_)
          refine lv_lload zC.1 zC.2.1 dX4_commonDivisor_34 (lv_at hl 1 rfl) ?_
          refine lv_lstore (lv' := [(6, .long (zL (x % y))), (4, .long (zL y)), (9, .long (zL (x % y))), (0, .long (zL a)), (2, .long (zL b)), (8, .int (zI n))]) zC.1 zC.2.1 dX4_commonDivisor_36 hl (by decide) rfl (fun ls hl => ?_)
          refine zr_iinc (lv' := [(8, .int (zI (n + 1))), (6, .long (zL (x % y))), (4, .long (zL y)), (9, .long (zL (x % y))), (0, .long (zL a)), (2, .long (zL b))]) zC dX4_commonDivisor_38 hl (k := 5) rfl (by decide) rfl (fun ls hl => ?_)
          refine lv_goto (tgt := 9) zC.1 zC.2.1 dX4_commonDivisor_41 (by decide) ?_
          have hst : y * (x % y) * 2 ^ (n.toNat + 1) ≤ 2 * (a * b) := by rcases hn with ⟨e1, e2, e3⟩ | ⟨e1, e2, e3⟩; (rw [e1, e2, e3]; by_cases w : a < b; exact eu_0 w (by omega); exact eu_s (n := 0) (by omega) (by omega) (by omega) (by rw [Int.pow_zero, Int.mul_one]; omega)); exact eu_s (by omega) (by omega) (by omega) e3
          have b41 := Int.emod_nonneg x (show y ≠ 0 by omega)
          have b41b := Int.emod_lt_of_pos x (show 0 < y by omega)
          exact ih9 y (x % y) (n + 1) H locs ls (by first | assumption | omega) (Or.inr ⟨by omega, by omega, by rw [show (n + 1).toNat = n.toNat + 1 by omega]; exact hst⟩) (by rw [gdI_s (by omega) (by omega)]; exact hg) (by omega) hG (lv_sub hl [4, 5, 2, 1, 0] rfl)
  exact loop9 ((100 - 0 : Int).toNat + 1) a b 0 H locs ls (by first | assumption | omega) (Or.inl ⟨rfl, rfl, rfl⟩) rfl (by omega) hG (lv_sub hl [3, 4, 2, 1, 0] rfl)

set_option maxHeartbeats 4000000 in
set_option maxRecDepth 100000 in
theorem c_X4_tellFraction {Γ : Gm} {zl : Launch} {A : Nat → Prop} {σ : Mm} {a b : Int} (hI : IC σ) (ha : 0 ≤ a ∧ a ≤ 10000000000) (hb : 0 < b ∧ b ≤ 1000000) : Fn Γ zl A yX4_tellFraction cX4_tellFraction 7 none 1 30 [.ref (aL Γ), .long (zL a), .long (zL b)] σ none (mFr σ a b) := by
  refine Fn_of (by decide) (Nat.le_of_ble_eq_true rfl) ?_
  intro zp ze zs zm args below meth zc zQ H locs ls zC zK hG hl
  have hl : lv_has ls 7 [(0, .ref (aL Γ)), (1, .long (zL a)), (3, .long (zL b))] := hl
  obtain ⟨hmany, htoday, -⟩ := id hI
  refine lv_lload_n zC.1 zC.2.1 dX4_tellFraction_0 rfl (lv_at hl 1 rfl) ?_
  refine lv_lload_n zC.1 zC.2.1 dX4_tellFraction_1 rfl (lv_at hl 2 rfl) ?_
  refine zr_callS zC hG (c_X4_commonDivisor (σ := σ) (a := a) (b := b) (by first | assumption | omega) (by first | assumption | omega)) mt_X4_commonDivisor wl_X4_316 ⟨by decide, by decide⟩ rfl hl.1 rfl (Nat.le_of_ble_eq_true rfl) dX4_tellFraction_2 ⟨Nat.zero_le _, Nat.zero_le _⟩ (fun H locs hG => ?_)
  refine W.eq (g2 := F0 zm 5 ls [.long (zL (gdI a b))]) rfl ?_
  have b2_0 := gdI_r (a := a) (b := b) (by omega)
  refine lv_lstore (lv' := [(5, .long (zL (gdI a b))), (0, .ref (aL Γ)), (1, .long (zL a)), (3, .long (zL b))]) zC.1 zC.2.1 dX4_tellFraction_5 hl (by decide) rfl (fun ls hl => ?_)
  refine lv_lload zC.1 zC.2.1 dX4_tellFraction_7 (lv_at hl 0 rfl) ?_
  refine zr_lconst (z := 1) zC dX4_tellFraction_9 (by decide +kernel) ?_
  refine zr_lcmp zC dX4_tellFraction_10 (by omega) ?_
  refine zr_if_ge (tgt := 15) zC dX4_tellFraction_11 (by decide) (by split <;> omega) (fun c11 => ?_) (fun c11 => ?_)
  · refine lv_aload_n zC.1 zC.2.1 dX4_tellFraction_15 rfl (lv_at hl 1 rfl) ?_
    refine lv_lload_n zC.1 zC.2.1 dX4_tellFraction_16 rfl (lv_at hl 2 rfl) ?_
    refine lv_lload zC.1 zC.2.1 dX4_tellFraction_17 (lv_at hl 0 rfl) ?_
    refine zr_ldiv zC dX4_tellFraction_19 (by omega) ?_
    refine pf_L_toldUpper zC hG wl_X4_52 dX4_tellFraction_20 (fun H locs hG => ?_)
    refine lv_aload_n zC.1 zC.2.1 dX4_tellFraction_23 rfl (lv_at hl 1 rfl) ?_
    refine lv_lload_n zC.1 zC.2.1 dX4_tellFraction_24 rfl (lv_at hl 3 rfl) ?_
    refine lv_lload zC.1 zC.2.1 dX4_tellFraction_25 (lv_at hl 0 rfl) ?_
    refine zr_ldiv zC dX4_tellFraction_27 (by omega) ?_
    refine pf_L_toldLower zC hG wl_X4_56 dX4_tellFraction_28 (fun H locs hG => ?_)
    exact zr_vret zC zK hG dX4_tellFraction_31 rfl
  · exact absurd c11 (by rw [if_neg (by omega)]; split <;> omega)

set_option maxHeartbeats 4000000 in
set_option maxRecDepth 100000 in
theorem c_X4_rent {Γ : Gm} {zl : Launch} {A : Nat → Prop} {σ : Mm} {c v a b : Int} (hI : IC σ) (hc : -2147483648 ≤ c ∧ c < 2147483648) (hv : -2147483648 ≤ v ∧ v < 2147483648) (ha : -2147483648 ≤ a ∧ a < 2147483648) (hb : -2147483648 ≤ b ∧ b < 2147483648) : Fn Γ zl A yX4_rent cX4_rent 10 (some .int) 4 86 [.ref (aL Γ), .int (zI c), .int (zI v), .int (zI a), .int (zI b)] σ (some (.int (zI (rC_rent σ c v a b)))) (mC_rent σ c v a b) := by
  refine Fn_of (by decide) (Nat.le_of_ble_eq_true rfl) ?_
  intro zp ze zs zm args below meth zc zQ H locs ls zC zK hG hl
  have hl : lv_has ls 10 [(0, .ref (aL Γ)), (1, .int (zI c)), (2, .int (zI v)), (3, .int (zI a)), (4, .int (zI b))] := hl
  obtain ⟨hmany, htoday, -⟩ := id hI
  refine lv_aload_n zC.1 zC.2.1 dX4_rent_0 rfl (lv_at hl 0 rfl) ?_
  refine lv_iload_n zC.1 zC.2.1 dX4_rent_1 rfl (lv_at hl 1 rfl) ?_
  refine zr_callV zC hG (c_X4_isTown (σ := σ) (c := c) hI (by first | assumption | omega)) mt_X4_isTown wl_X4_128 pL rfl rfl ⟨by decide, by decide⟩ rfl hl.1 rfl (Nat.le_of_ble_eq_true rfl) dX4_rent_2 ⟨Nat.zero_le _, Nat.zero_le _⟩ (fun H locs hG => ?_)
  refine W.eq (g2 := F0 zm 5 ls [.int (zI (zB (isT σ c)))]) rfl ?_
  refine zr_ifeqB (tgt := 38) zC dX4_rent_5 (by decide) (fun c5 => ?_) (fun c5 => ?_)
  · refine zr_iconst zC dX4_rent_38 ?_
    exact zr_iret zC zK hG dX4_rent_39 (by unfold rC_rent; (repeat' split) <;> first | rfl | omega) (by unfold mC_rent; (repeat' split) <;> first | rfl | (exfalso; omega))
  · refine lv_iload_n zC.1 zC.2.1 dX4_rent_8 rfl (lv_at hl 2 rfl) ?_
    refine zr_iconst zC dX4_rent_9 ?_
    refine zr_sipush zC dX4_rent_10 (by decide +kernel) ?_
    refine zr_callS zC hG (c_X4_isWithin (σ := σ) (v := v) (a := 0) (b := 9999) (by first | assumption | omega) (by first | assumption | omega) (by first | assumption | omega)) mt_X4_isWithin wl_X4_140 ⟨by decide, by decide⟩ rfl hl.1 rfl (Nat.le_of_ble_eq_true rfl) dX4_rent_13 ⟨Nat.zero_le _, Nat.zero_le _⟩ (fun H locs hG => ?_)
    refine W.eq (g2 := F0 zm 16 ls [.int (zI (zB (0 ≤ v ∧ v ≤ 9999)))]) rfl ?_
    refine zr_ifeqB (tgt := 38) zC dX4_rent_16 (by decide) (fun c16 => ?_) (fun c16 => ?_)
    · refine zr_iconst zC dX4_rent_38 ?_
      exact zr_iret zC zK hG dX4_rent_39 (by unfold rC_rent; (repeat' split) <;> first | rfl | omega) (by unfold mC_rent; (repeat' split) <;> first | rfl | (exfalso; omega))
    · refine lv_iload_n zC.1 zC.2.1 dX4_rent_19 rfl (lv_at hl 3 rfl) ?_
      refine lv_iload zC.1 zC.2.1 dX4_rent_20 (lv_at hl 4 rfl) ?_
      refine zr_callS zC hG (c_X4_isSpan (σ := σ) (a := a) (b := b) (by first | assumption | omega) (by first | assumption | omega)) mt_X4_isSpan wl_X4_197 ⟨by decide, by decide⟩ rfl hl.1 rfl (Nat.le_of_ble_eq_true rfl) dX4_rent_22 ⟨Nat.zero_le _, Nat.zero_le _⟩ (fun H locs hG => ?_)
      refine W.eq (g2 := F0 zm 25 ls [.int (zI (zB (0 ≤ a ∧ a ≤ b ∧ b ≤ 19999)))]) rfl ?_
      refine zr_ifeqB (tgt := 38) zC dX4_rent_25 (by decide) (fun c25 => ?_) (fun c25 => ?_)
      · refine zr_iconst zC dX4_rent_38 ?_
        exact zr_iret zC zK hG dX4_rent_39 (by unfold rC_rent; (repeat' split) <;> first | rfl | omega) (by unfold mC_rent; (repeat' split) <;> first | rfl | (exfalso; omega))
      · refine lv_iload zC.1 zC.2.1 dX4_rent_28 (lv_at hl 4 rfl) ?_
        refine lv_iload_n zC.1 zC.2.1 dX4_rent_30 rfl (lv_at hl 3 rfl) ?_
        refine zr_isub zC dX4_rent_31 ?_
        refine zr_sipush zC dX4_rent_32 (by decide +kernel) ?_
        refine zr_icmp_le (tgt := 40) zC dX4_rent_35 (by decide) (by omega) (fun c35 => ?_) (fun c35 => ?_)
        · refine zr_iconst zC dX4_rent_40 ?_
          refine lv_istore (lv' := [(5, .int (zI 0)), (0, .ref (aL Γ)), (1, .int (zI c)), (2, .int (zI v)), (3, .int (zI a)), (4, .int (zI b))]) zC.1 zC.2.1 dX4_rent_41 hl (by decide) rfl (fun ls hl => ?_)
          refine lv_iload_n zC.1 zC.2.1 dX4_rent_43 rfl (lv_at hl 4 rfl) ?_
          refine lv_istore (lv' := [(6, .int (zI a)), (5, .int (zI 0)), (0, .ref (aL Γ)), (1, .int (zI c)), (2, .int (zI v)), (3, .int (zI a)), (4, .int (zI b))]) zC.1 zC.2.1 dX4_rent_44 hl (by decide) rfl (fun ls hl => ?_)
          have loop46 : ∀ (nf : Nat) (u x : Int) (H : Heap) (locs : List Loc) (ls : Array Slot), (a ≤ x ∧ x ≤ b) → (u = ctI (fun z => lenY (σ 6 c 0) (σ 6 c 1) (dtD (σ 6 c 0) (σ 6 c 1) (σ 6 c 2) (σ 6 c 3) z / 1000) = 101) a (x - a).toNat) → (b - x < (nf : Int)) → GM Γ A σ zs H locs → lv_has ls 10 [(0, .ref (aL Γ)), (1, .int (zI c)), (2, .int (zI v)), (3, .int (zI a)), (4, .int (zI b)), (5, .int (zI u)), (6, .int (zI x))] → W zp zl ze { frames := 4, cells := 0, slots := 0, locals := 86 } zs zm args below meth zc H locs 0 0 zQ (F0 zm 46 ls []) := by
            intro nf
            induction nf with
            | zero =>
              intro u x H locs ls hx hu hm46 _ _
              exact absurd hm46 (by omega)
            | succ nf ih46 =>
              intro u x H locs ls hx hu hm46 hG hl
              have b46 := ctI_r (fun z => lenY (σ 6 c 0) (σ 6 c 1) (dtD (σ 6 c 0) (σ 6 c 1) (σ 6 c 2) (σ 6 c 3) z / 1000) = 101) a (x - a).toNat
              rw [← hu] at b46
              refine lv_iload zC.1 zC.2.1 dX4_rent_46 (lv_at hl 6 rfl) ?_
              refine lv_iload zC.1 zC.2.1 dX4_rent_48 (lv_at hl 4 rfl) ?_
              refine zr_icmp_ge (tgt := 91) zC dX4_rent_50 (by decide) (by omega) (fun c50 => ?_) (fun c50 => ?_)
              · refine lv_iload zC.1 zC.2.1 dX4_rent_91 (lv_at hl 4 rfl) ?_
                refine lv_iload_n zC.1 zC.2.1 dX4_rent_93 rfl (lv_at hl 3 rfl) ?_
                refine zr_isub zC dX4_rent_94 ?_
                refine lv_iload zC.1 zC.2.1 dX4_rent_95 (lv_at hl 5 rfl) ?_
                refine zr_isub zC dX4_rent_97 ?_
                refine zr_i2l zC dX4_rent_98 (by omega) ?_
                refine lv_lstore (lv' := [(6, .long (zL ((b - a) - u))), (0, .ref (aL Γ)), (1, .int (zI c)), (2, .int (zI v)), (3, .int (zI a)), (4, .int (zI b)), (5, .int (zI u))]) zC.1 zC.2.1 dX4_rent_99 hl (by decide) rfl (fun ls hl => ?_)
                refine lv_aload_n zC.1 zC.2.1 dX4_rent_101 rfl (lv_at hl 1 rfl) ?_
                refine gf_L_towns zC hG wl_X4_23 dX4_rent_102 ?_
                refine lv_iload_n zC.1 zC.2.1 dX4_rent_105 rfl (lv_at hl 2 rfl) ?_
                refine gr_To zC hG (by omega) dX4_rent_106 ?_
                have k107 := hI.2.2.2.2.2.2.1 c (by omega) (by omega)
                obtain ⟨k107a, k107b, k107c, k107d⟩ := id k107
                refine zr_callV zC hG (c_X0_shortLength (σ := σ) (i := c) (by first | assumption | omega) k107) mt_X0_shortLength wl_X4_246 (pCal (by first | assumption | omega)) rfl rfl ⟨by decide, by decide⟩ rfl hl.1 rfl (Nat.le_of_ble_eq_true rfl) dX4_rent_107 ⟨Nat.zero_le _, Nat.zero_le _⟩ (fun H locs hG => ?_)
                refine W.eq (g2 := F0 zm 110 ls [.int (zI (shL (σ 6 c 0)))]) rfl ?_
                have b107_0 := shL_r (σ 6 c 0)
                refine zr_i2l zC dX4_rent_110 (by omega) ?_
                refine lv_lstore (lv' := [(8, .long (zL (shL (σ 6 c 0)))), (6, .long (zL ((b - a) - u))), (0, .ref (aL Γ)), (1, .int (zI c)), (2, .int (zI v)), (3, .int (zI a)), (4, .int (zI b)), (5, .int (zI u))]) zC.1 zC.2.1 dX4_rent_111 hl (by decide) rfl (fun ls hl => ?_)
                have m1 := mul_r (a := u) (b := shL (σ 6 c 0)) (m := 400) (n := 100) (by omega) (by omega)
                have m2 := mul_r (a := v) (b := (b - a - u) * 101 + u * shL (σ 6 c 0)) (m := 9999) (n := 80400) (by omega) (by omega)
                refine lv_aload_n zC.1 zC.2.1 dX4_rent_113 rfl (lv_at hl 2 rfl) ?_
                refine lv_iload_n zC.1 zC.2.1 dX4_rent_114 rfl (lv_at hl 4 rfl) ?_
                refine zr_i2l zC dX4_rent_115 (by omega) ?_
                refine lv_lload zC.1 zC.2.1 dX4_rent_116 (lv_at hl 1 rfl) ?_
                refine zr_ldc2 (z := 101) zC wl_X4_249 (by decide +kernel) dX4_rent_118 ?_
                refine zr_lmul zC dX4_rent_121 ?_
                refine lv_iload zC.1 zC.2.1 dX4_rent_122 (lv_at hl 7 rfl) ?_
                refine zr_i2l zC dX4_rent_124 (by omega) ?_
                refine lv_lload zC.1 zC.2.1 dX4_rent_125 (lv_at hl 0 rfl) ?_
                refine zr_lmul zC dX4_rent_127 ?_
                refine zr_ladd zC dX4_rent_128 ?_
                refine zr_lmul zC dX4_rent_129 ?_
                refine lv_lload zC.1 zC.2.1 dX4_rent_130 (lv_at hl 0 rfl) ?_
                refine zr_ldc2 (z := 101) zC wl_X4_249 (by decide +kernel) dX4_rent_132 ?_
                refine zr_lmul zC dX4_rent_135 ?_
                refine zr_callV zC hG (c_X4_tellFraction (σ := σ) (a := v * ((((b - a) - u) * 101) + (u * (shL (σ 6 c 0))))) (b := (shL (σ 6 c 0)) * 101) hI (by first | assumption | omega) (by first | assumption | omega)) mt_X4_tellFraction wl_X4_251 pL rfl rfl ⟨by decide, by decide⟩ rfl hl.1 rfl (Nat.le_of_ble_eq_true rfl) dX4_rent_136 ⟨Nat.zero_le _, Nat.zero_le _⟩ (fun H locs hG => ?_)
                refine W.eq (g2 := F0 zm 139 ls []) rfl ?_
                refine zr_iconst zC dX4_rent_139 ?_
                exact zr_iret zC zK hG dX4_rent_140 (by unfold rC_rent; (repeat' split) <;> first | rfl | omega) (by unfold mC_rent; rw [if_neg (by omega), ← show u = (ctI (fun z => lenY (σ 6 c 0) (σ 6 c 1) (dtD (σ 6 c 0) (σ 6 c 1) (σ 6 c 2) (σ 6 c 3) z / 1000) = 101) a (b - a).toNat) from (by rw [hu, show x = b by omega])])
              · refine lv_aload_n zC.1 zC.2.1 dX4_rent_53 rfl (lv_at hl 0 rfl) ?_
                refine gf_L_towns zC hG wl_X4_23 dX4_rent_54 ?_
                refine lv_iload_n zC.1 zC.2.1 dX4_rent_57 rfl (lv_at hl 1 rfl) ?_
                refine gr_To zC hG (by omega) dX4_rent_58 ?_
                refine lv_aload_n zC.1 zC.2.1 dX4_rent_59 rfl (lv_at hl 0 rfl) ?_
                refine gf_L_towns zC hG wl_X4_23 dX4_rent_60 ?_
                refine lv_iload_n zC.1 zC.2.1 dX4_rent_63 rfl (lv_at hl 1 rfl) ?_
                refine gr_To zC hG (by omega) dX4_rent_64 ?_
                refine lv_iload zC.1 zC.2.1 dX4_rent_65 (lv_at hl 6 rfl) ?_
                have k67 := hI.2.2.2.2.2.2.1 c (by omega) (by omega)
                obtain ⟨k67a, k67b, k67c, k67d⟩ := id k67
                refine zr_callV zC hG (c_X0_dateOn (σ := σ) (i := c) (d := x) (by first | assumption | omega) k67 (by first | assumption | omega)) mt_X0_dateOn wl_X4_171 (pCal (by first | assumption | omega)) rfl rfl ⟨by decide, by decide⟩ rfl hl.1 rfl (Nat.le_of_ble_eq_true rfl) dX4_rent_67 ⟨Nat.zero_le _, Nat.zero_le _⟩ (fun H locs hG => ?_)
                refine W.eq (g2 := F0 zm 70 ls [.int (zI (dtD (σ 6 c 0) (σ 6 c 1) (σ 6 c 2) (σ 6 c 3) x)), .ref (aCal Γ c)]) rfl ?_
                have b67_0 := dtD_r (k := (σ 6 c 0)) (lp := (σ 6 c 1)) (o := (σ 6 c 2)) (g := (σ 6 c 3)) (d := x) (by omega) (by omega) (by omega)
                refine zr_sipush zC dX4_rent_70 (by decide +kernel) ?_
                refine zr_idiv zC dX4_rent_73 (by omega) ?_
                have k74 := hI.2.2.2.2.2.2.1 c (by omega) (by omega)
                obtain ⟨k74a, k74b, k74c, k74d⟩ := id k74
                refine zr_callV zC hG (c_X0_lengthOf (σ := σ) (i := c) (y := (dtD (σ 6 c 0) (σ 6 c 1) (σ 6 c 2) (σ 6 c 3) x) / 1000) (by first | assumption | omega) k74 (by first | assumption | omega)) mt_X0_lengthOf wl_X4_177 (pCal (by first | assumption | omega)) rfl rfl ⟨by decide, by decide⟩ rfl hl.1 rfl (Nat.le_of_ble_eq_true rfl) dX4_rent_74 ⟨Nat.zero_le _, Nat.zero_le _⟩ (fun H locs hG => ?_)
                refine W.eq (g2 := F0 zm 77 ls [.int (zI (lenY (σ 6 c 0) (σ 6 c 1) ((dtD (σ 6 c 0) (σ 6 c 1) (σ 6 c 2) (σ 6 c 3) x) / 1000)))]) rfl ?_
                have b74_0 := lenY_r (σ 6 c 0) (σ 6 c 1) ((dtD (σ 6 c 0) (σ 6 c 1) (σ 6 c 2) (σ 6 c 3) x) / 1000)
                refine zr_bipush zC dX4_rent_77 (by decide +kernel) ?_
                refine zr_icmp_ne (tgt := 85) zC dX4_rent_79 (by decide) (by omega) (fun c79 => ?_) (fun c79 => ?_)
                · refine zr_iinc (lv' := [(6, .int (zI (x + 1))), (0, .ref (aL Γ)), (1, .int (zI c)), (2, .int (zI v)), (3, .int (zI a)), (4, .int (zI b)), (5, .int (zI u))]) zC dX4_rent_85 hl (k := 6) rfl (by decide) rfl (fun ls hl => ?_)
                  refine lv_goto (tgt := 46) zC.1 zC.2.1 dX4_rent_88 (by decide) ?_
                  exact ih46 u (x + 1) H locs ls (by first | assumption | omega) (by rw [ctI_s hx.1, ← hu]; unfold zB; split <;> omega) (by omega) hG (lv_sub hl [1, 2, 3, 4, 5, 6, 0] rfl)
                · refine zr_iinc (lv' := [(5, .int (zI (u + 1))), (0, .ref (aL Γ)), (1, .int (zI c)), (2, .int (zI v)), (3, .int (zI a)), (4, .int (zI b)), (6, .int (zI x))]) zC dX4_rent_82 hl (k := 5) rfl (by decide) rfl (fun ls hl => ?_)
                  refine zr_iinc (lv' := [(6, .int (zI (x + 1))), (5, .int (zI (u + 1))), (0, .ref (aL Γ)), (1, .int (zI c)), (2, .int (zI v)), (3, .int (zI a)), (4, .int (zI b))]) zC dX4_rent_85 hl (k := 6) rfl (by decide) rfl (fun ls hl => ?_)
                  refine lv_goto (tgt := 46) zC.1 zC.2.1 dX4_rent_88 (by decide) ?_
                  exact ih46 (u + 1) (x + 1) H locs ls (by first | assumption | omega) (by rw [ctI_s hx.1, ← hu]; unfold zB; split <;> omega) (by omega) hG (lv_sub hl [2, 3, 4, 5, 6, 1, 0] rfl)
          exact loop46 ((b - a : Int).toNat + 1) 0 a H locs ls (by first | assumption | omega) (by rw [show (a - a).toNat = 0 by omega]; rfl) (by omega) hG (lv_sub hl [2, 3, 4, 5, 6, 1, 0] rfl)
        · refine zr_iconst zC dX4_rent_38 ?_
          exact zr_iret zC zK hG dX4_rent_39 (by unfold rC_rent; (repeat' split) <;> first | rfl | omega) (by unfold mC_rent; (repeat' split) <;> first | rfl | (exfalso; omega))

set_option maxHeartbeats 4000000 in
set_option maxRecDepth 100000 in
theorem c_X4_copy {Γ : Gm} {zl : Launch} {A : Nat → Prop} {σ : Mm} {r x y j n : Int} (hI : IC σ) (hr : -2147483648 ≤ r ∧ r < 2147483648) (hx : -2147483648 ≤ x ∧ x < 2147483648) (hy : -2147483648 ≤ y ∧ y < 2147483648) (hj : -2147483648 ≤ j ∧ j < 2147483648) (hn : -2147483648 ≤ n ∧ n < 2147483648) : Fn Γ zl A yX4_copy cX4_copy 6 (some .int) 1 40 [.ref (aL Γ), .int (zI r), .int (zI x), .int (zI y), .int (zI j), .int (zI n)] σ (some (.int (zI (rC_copy σ r x y j n)))) (mC_copy σ r x y j n) := by
  refine Fn_of (by decide) (Nat.le_of_ble_eq_true rfl) ?_
  intro zp ze zs zm args below meth zc zQ H locs ls zC zK hG hl
  have hl : lv_has ls 6 [(0, .ref (aL Γ)), (1, .int (zI r)), (2, .int (zI x)), (3, .int (zI y)), (4, .int (zI j)), (5, .int (zI n))] := hl
  obtain ⟨hmany, htoday, -⟩ := id hI
  refine lv_iload_n zC.1 zC.2.1 dX4_copy_0 rfl (lv_at hl 1 rfl) ?_
  refine zr_callS zC hG (c_X4_isRow (σ := σ) (v := r) (by first | assumption | omega)) mt_X4_isRow wl_X4_65 ⟨by decide, by decide⟩ rfl hl.1 rfl (Nat.le_of_ble_eq_true rfl) dX4_copy_1 ⟨Nat.zero_le _, Nat.zero_le _⟩ (fun H locs hG => ?_)
  refine W.eq (g2 := F0 zm 4 ls [.int (zI (zB (0 ≤ r ∧ r < 6)))]) rfl ?_
  refine zr_ifeqB (tgt := 14) zC dX4_copy_4 (by decide) (fun c4 => ?_) (fun c4 => ?_)
  · refine zr_iconst zC dX4_copy_14 ?_
    exact zr_iret zC zK hG dX4_copy_15 (by unfold rC_copy; (repeat' split) <;> first | rfl | omega) (by unfold mC_copy; (repeat' split) <;> first | rfl | (exfalso; omega))
  · refine lv_iload_n zC.1 zC.2.1 dX4_copy_7 rfl (lv_at hl 3 rfl) ?_
    refine zr_callS zC hG (c_X4_isRow (σ := σ) (v := y) (by first | assumption | omega)) mt_X4_isRow wl_X4_65 ⟨by decide, by decide⟩ rfl hl.1 rfl (Nat.le_of_ble_eq_true rfl) dX4_copy_8 ⟨Nat.zero_le _, Nat.zero_le _⟩ (fun H locs hG => ?_)
    refine W.eq (g2 := F0 zm 11 ls [.int (zI (zB (0 ≤ y ∧ y < 6)))]) rfl ?_
    refine zr_ifneB (tgt := 16) zC dX4_copy_11 (by decide) (fun c11 => ?_) (fun c11 => ?_)
    · refine lv_iload zC.1 zC.2.1 dX4_copy_16 (lv_at hl 5 rfl) ?_
      refine zr_if_ge (tgt := 27) zC dX4_copy_18 (by decide) (by omega) (fun c18 => ?_) (fun c18 => ?_)
      · refine lv_aload_n zC.1 zC.2.1 dX4_copy_27 rfl (lv_at hl 0 rfl) ?_
        refine gf_L_rows zC hG wl_X4_11 dX4_copy_28 ?_
        refine lv_iload_n zC.1 zC.2.1 dX4_copy_31 rfl (lv_at hl 1 rfl) ?_
        refine gr_Rs zC hG (by omega) dX4_copy_32 ?_
        refine gf_Row_size (v := σ 2 r 1) zC hG (by first | assumption | omega) wl_X4_87 rfl dX4_copy_33 ?_
        have f33 := hI.2.2.1 r (by omega) (by omega)
        refine zr_iconst zC dX4_copy_36 ?_
        refine zr_icmp_eq (tgt := 53) zC dX4_copy_37 (by decide) (by omega) (fun c37 => ?_) (fun c37 => ?_)
        · refine lv_aload_n zC.1 zC.2.1 dX4_copy_53 rfl (lv_at hl 0 rfl) ?_
          refine zr_iconst zC dX4_copy_54 ?_
          refine zr_callV zC hG (c_X4_found (σ := σ) (f := 1) hI (by first | assumption | omega)) mt_X4_found wl_X4_69 pL rfl rfl ⟨by decide, by decide⟩ rfl hl.1 rfl (Nat.le_of_ble_eq_true rfl) dX4_copy_55 ⟨Nat.zero_le _, Nat.zero_le _⟩ (fun H locs hG => ?_)
          refine W.eq (g2 := F0 zm 58 ls [.int (zI (-3))]) rfl ?_
          exact zr_iret zC zK hG dX4_copy_58 (by unfold rC_copy; (repeat' split) <;> first | rfl | omega) (by unfold mC_copy; (repeat' split) <;> first | rfl | (exfalso; omega))
        · refine lv_aload_n zC.1 zC.2.1 dX4_copy_40 rfl (lv_at hl 0 rfl) ?_
          refine gf_L_rows zC hG wl_X4_11 dX4_copy_41 ?_
          refine lv_iload_n zC.1 zC.2.1 dX4_copy_44 rfl (lv_at hl 3 rfl) ?_
          refine gr_Rs zC hG (by omega) dX4_copy_45 ?_
          refine gf_Row_size (v := σ 2 y 1) zC hG (by first | assumption | omega) wl_X4_87 rfl dX4_copy_46 ?_
          have f46 := hI.2.2.1 y (by omega) (by omega)
          refine zr_iconst zC dX4_copy_49 ?_
          refine zr_icmp_ne (tgt := 59) zC dX4_copy_50 (by decide) (by omega) (fun c50 => ?_) (fun c50 => ?_)
          · refine lv_aload_n zC.1 zC.2.1 dX4_copy_59 rfl (lv_at hl 0 rfl) ?_
            refine gf_L_rows zC hG wl_X4_11 dX4_copy_60 ?_
            refine lv_iload_n zC.1 zC.2.1 dX4_copy_63 rfl (lv_at hl 1 rfl) ?_
            refine gr_Rs zC hG (by omega) dX4_copy_64 ?_
            refine lv_iload_n zC.1 zC.2.1 dX4_copy_65 rfl (lv_at hl 2 rfl) ?_
            refine lv_iload zC.1 zC.2.1 dX4_copy_66 (lv_at hl 5 rfl) ?_
            refine zr_callV zC hG (c_X2_holds (σ := σ) (i := r) (a := x) (n := n) (by first | assumption | omega) (hI.2.2.1 r (by omega) (by omega)) (by first | assumption | omega) (by first | assumption | omega)) mt_X2_holds wl_X4_90 (pRow (by first | assumption | omega)) rfl rfl ⟨by decide, by decide⟩ rfl hl.1 rfl (Nat.le_of_ble_eq_true rfl) dX4_copy_68 ⟨Nat.zero_le _, Nat.zero_le _⟩ (fun H locs hG => ?_)
            refine W.eq (g2 := F0 zm 71 ls [.int (zI (zB (0 ≤ x ∧ x + n ≤ (σ 2 r 1))))]) rfl ?_
            refine zr_ifeqB (tgt := 90) zC dX4_copy_71 (by decide) (fun c71 => ?_) (fun c71 => ?_)
            · refine lv_aload_n zC.1 zC.2.1 dX4_copy_90 rfl (lv_at hl 0 rfl) ?_
              refine zr_iconst zC dX4_copy_91 ?_
              refine zr_callV zC hG (c_X4_found (σ := σ) (f := 2) hI (by first | assumption | omega)) mt_X4_found wl_X4_69 pL rfl rfl ⟨by decide, by decide⟩ rfl hl.1 rfl (Nat.le_of_ble_eq_true rfl) dX4_copy_92 ⟨Nat.zero_le _, Nat.zero_le _⟩ (fun H locs hG => ?_)
              refine W.eq (g2 := F0 zm 95 ls [.int (zI (-3))]) rfl ?_
              exact zr_iret zC zK hG dX4_copy_95 (by unfold rC_copy; (repeat' split) <;> first | rfl | omega) (by unfold mC_copy; (repeat' split) <;> first | rfl | (exfalso; omega))
            · refine lv_aload_n zC.1 zC.2.1 dX4_copy_74 rfl (lv_at hl 0 rfl) ?_
              refine gf_L_rows zC hG wl_X4_11 dX4_copy_75 ?_
              refine lv_iload_n zC.1 zC.2.1 dX4_copy_78 rfl (lv_at hl 3 rfl) ?_
              refine gr_Rs zC hG (by omega) dX4_copy_79 ?_
              refine lv_iload zC.1 zC.2.1 dX4_copy_80 (lv_at hl 4 rfl) ?_
              refine lv_iload zC.1 zC.2.1 dX4_copy_82 (lv_at hl 5 rfl) ?_
              refine zr_callV zC hG (c_X2_holds (σ := σ) (i := y) (a := j) (n := n) (by first | assumption | omega) (hI.2.2.1 y (by omega) (by omega)) (by first | assumption | omega) (by first | assumption | omega)) mt_X2_holds wl_X4_90 (pRow (by first | assumption | omega)) rfl rfl ⟨by decide, by decide⟩ rfl hl.1 rfl (Nat.le_of_ble_eq_true rfl) dX4_copy_84 ⟨Nat.zero_le _, Nat.zero_le _⟩ (fun H locs hG => ?_)
              refine W.eq (g2 := F0 zm 87 ls [.int (zI (zB (0 ≤ j ∧ j + n ≤ (σ 2 y 1))))]) rfl ?_
              refine zr_ifneB (tgt := 96) zC dX4_copy_87 (by decide) (fun c87 => ?_) (fun c87 => ?_)
              · refine lv_aload_n zC.1 zC.2.1 dX4_copy_96 rfl (lv_at hl 0 rfl) ?_
                refine gf_L_rows zC hG wl_X4_11 dX4_copy_97 ?_
                refine lv_iload_n zC.1 zC.2.1 dX4_copy_100 rfl (lv_at hl 1 rfl) ?_
                refine gr_Rs zC hG (by omega) dX4_copy_101 ?_
                refine gf_Row_places zC hG (by first | assumption | omega) wl_X4_81 dX4_copy_102 ?_
                refine lv_iload_n zC.1 zC.2.1 dX4_copy_105 rfl (lv_at hl 2 rfl) ?_
                refine lv_aload_n zC.1 zC.2.1 dX4_copy_106 rfl (lv_at hl 0 rfl) ?_
                refine gf_L_rows zC hG wl_X4_11 dX4_copy_107 ?_
                refine lv_iload_n zC.1 zC.2.1 dX4_copy_110 rfl (lv_at hl 3 rfl) ?_
                refine gr_Rs zC hG (by omega) dX4_copy_111 ?_
                refine gf_Row_places zC hG (by first | assumption | omega) wl_X4_81 dX4_copy_112 ?_
                refine lv_iload zC.1 zC.2.1 dX4_copy_115 (lv_at hl 4 rfl) ?_
                refine lv_iload zC.1 zC.2.1 dX4_copy_117 (lv_at hl 5 rfl) ?_
                refine zr_copy zC hG (by first | assumption | omega) (by first | assumption | omega) (by omega) wl_X4_94 ⟨by decide, Nat.le_of_ble_eq_true rfl⟩ hl.1 dX4_copy_119 (fun H locs hG => ?_)
                refine zr_iconst zC dX4_copy_122 ?_
                exact zr_iret zC zK hG dX4_copy_123 (by unfold rC_copy; (repeat' split) <;> first | rfl | omega) (by unfold mC_copy; (repeat' split) <;> first | rfl | (exfalso; omega))
              · refine lv_aload_n zC.1 zC.2.1 dX4_copy_90 rfl (lv_at hl 0 rfl) ?_
                refine zr_iconst zC dX4_copy_91 ?_
                refine zr_callV zC hG (c_X4_found (σ := σ) (f := 2) hI (by first | assumption | omega)) mt_X4_found wl_X4_69 pL rfl rfl ⟨by decide, by decide⟩ rfl hl.1 rfl (Nat.le_of_ble_eq_true rfl) dX4_copy_92 ⟨Nat.zero_le _, Nat.zero_le _⟩ (fun H locs hG => ?_)
                refine W.eq (g2 := F0 zm 95 ls [.int (zI (-3))]) rfl ?_
                exact zr_iret zC zK hG dX4_copy_95 (by unfold rC_copy; (repeat' split) <;> first | rfl | omega) (by unfold mC_copy; (repeat' split) <;> first | rfl | (exfalso; omega))
          · refine lv_aload_n zC.1 zC.2.1 dX4_copy_53 rfl (lv_at hl 0 rfl) ?_
            refine zr_iconst zC dX4_copy_54 ?_
            refine zr_callV zC hG (c_X4_found (σ := σ) (f := 1) hI (by first | assumption | omega)) mt_X4_found wl_X4_69 pL rfl rfl ⟨by decide, by decide⟩ rfl hl.1 rfl (Nat.le_of_ble_eq_true rfl) dX4_copy_55 ⟨Nat.zero_le _, Nat.zero_le _⟩ (fun H locs hG => ?_)
            refine W.eq (g2 := F0 zm 58 ls [.int (zI (-3))]) rfl ?_
            exact zr_iret zC zK hG dX4_copy_58 (by unfold rC_copy; (repeat' split) <;> first | rfl | omega) (by unfold mC_copy; (repeat' split) <;> first | rfl | (exfalso; omega))
      · refine lv_aload_n zC.1 zC.2.1 dX4_copy_21 rfl (lv_at hl 0 rfl) ?_
        refine zr_iconst zC dX4_copy_22 ?_
        refine zr_callV zC hG (c_X4_found (σ := σ) (f := 5) hI (by first | assumption | omega)) mt_X4_found wl_X4_69 pL rfl rfl ⟨by decide, by decide⟩ rfl hl.1 rfl (Nat.le_of_ble_eq_true rfl) dX4_copy_23 ⟨Nat.zero_le _, Nat.zero_le _⟩ (fun H locs hG => ?_)
        refine W.eq (g2 := F0 zm 26 ls [.int (zI (-3))]) rfl ?_
        exact zr_iret zC zK hG dX4_copy_26 (by unfold rC_copy; (repeat' split) <;> first | rfl | omega) (by unfold mC_copy; (repeat' split) <;> first | rfl | (exfalso; omega))
    · refine zr_iconst zC dX4_copy_14 ?_
      exact zr_iret zC zK hG dX4_copy_15 (by unfold rC_copy; (repeat' split) <;> first | rfl | omega) (by unfold mC_copy; (repeat' split) <;> first | rfl | (exfalso; omega))
