set_option maxHeartbeats 4000000 in
set_option maxRecDepth 100000 in
/-- THE LAW'S LOOP -/
theorem law_loop {p : Program} {l : Launch} {e : Env} {s : State} {m : MethodId} {below : List Frame} {meth : Method} {c : Code} {Γ : Gm} {b L : Nat} {xs : Nat → Int32} (hL : L ≤ 384) (C0 : lw_At p s m meth c b L xs) :
    ∀ (n : Nat) (i : Int) (σ : Mm) (H : Heap) (locs : List Loc) (ls : Array Slot), 0 ≤ i → i ≤ L + 6 → (L : Int) + 7 - i ≤ n → GM Γ (fun q : Nat => s.heap.size ≤ q) σ s H locs → IC σ → Rel2 σ σ → lv_has ls 4 [(3, .int (zI i)), (2, .ref (aM Γ)), (1, .ref (aL Γ)), (0, .ref b)] → W p l e room_1 s m #[Value.ref b] below meth c H locs 57 1284 (lw_Z below #[Value.ref b] s) (F0 m 18 ls []) := by
  obtain ⟨hx, hb, hr, hml, hown, hts, hX, hbl, hlocks, hgv⟩ := C0
  have zC : CallFix p m c cL_law 4 s #[Value.ref b] tb RL := ⟨hx, hb, hml, hown, fun w hw => hts w (List.mem_filter.mp hw).1⟩
  have hbA : ¬ (fun q : Nat => s.heap.size ≤ q) b := Nat.not_le.mpr hbl
  intro n
  induction n with
  | zero =>
    intro i σ H locs ls h1 h2 h3
    exact absurd h3 (by omega)
  | succ n ih =>
    intro i σ H locs ls h1 h2 h3 hG hI hR hl
    refine lv_iload_n zC.1 zC.2.1 dL_law_18 rfl (lv_at hl 0 rfl) ?_
    refine lv_aload_n zC.1 zC.2.1 dL_law_19 rfl (lv_at hl 3 rfl) ?_
    refine zl_len zC hG hX hbl hbA dL_law_20 ?_
    refine zr_bipush zC dL_law_21 (by decide +kernel) ?_
    refine zr_isub zC dL_law_23 ?_
    refine zr_icmp_gt (tgt := 2021) zC dL_law_24 (by decide) (by omega) (fun c24 => ?_) (fun c24 => ?_)
    · refine lv_iconst (v := 1) hx hb dL_law_2021 (by decide) ?_
      refine va_forget (fun q hq => hG.2.2.2.1.2.2 q hq) ?_
      refine W.widen (k := 600000) (n := 7302250) (by omega) (by omega) ?_
      exact lw_ret hx hb hr hlocks dL_law_2022
    · have hi : 0 ≤ i ∧ i + 6 ≤ L := by omega
      have nxt : ∀ (σ2 : Mm) (H : Heap) (locs : List Loc), GM Γ (fun q : Nat => s.heap.size ≤ q) σ2 s H locs → IC σ2 → Rel2 σ2 σ2 → W p l e room_1 s m #[Value.ref b] below meth c H locs 57 1284 (lw_Z below #[Value.ref b] s) (F0 m 2015 ls []) := by
        intro σ2 H locs hG hI hR
        refine zr_iinc (lv' := [(3, .int (zI (i + 6))), (2, .ref (aM Γ)), (1, .ref (aL Γ)), (0, .ref b)]) zC dL_law_2015 hl (k := 0) rfl (by decide) rfl (fun ls hl => ?_)
        refine lv_goto (tgt := 18) zC.1 zC.2.1 dL_law_2018 (by decide) ?_
        exact ih (i + 6) σ2 H locs ls (by omega) (by omega) (by omega) hG hI hR hl
      refine lv_aload_n zC.1 zC.2.1 dL_law_27 rfl (lv_at hl 3 rfl) ?_
      refine lv_iload_n zC.1 zC.2.1 dL_law_28 rfl (lv_at hl 0 rfl) ?_
      refine zl_sld zC hG hX hbl hbA hL (by omega) dL_law_29 ?_
      refine zr_bipush zC dL_law_30 (by decide +kernel) ?_
      refine lv_iand zC.1 zC.2.1 dL_law_32 ?_
      refine lv_topi (fun x ex => ?_)
      rcases (show x.toInt = 0 ∨ x.toInt = 1 ∨ x.toInt = 2 ∨ x.toInt = 3 ∨ x.toInt = 4 ∨ x.toInt = 5 ∨ x.toInt = 6 ∨ x.toInt = 7 ∨ x.toInt = 8 ∨ x.toInt = 9 ∨ x.toInt = 10 ∨ x.toInt = 11 ∨ x.toInt = 12 ∨ x.toInt = 13 ∨ x.toInt = 14 ∨ x.toInt = 15 ∨ x.toInt = 16 ∨ x.toInt = 17 ∨ x.toInt = 18 ∨ x.toInt = 19 ∨ x.toInt = 20 ∨ x.toInt = 21 ∨ x.toInt = 22 ∨ x.toInt = 23 ∨ x.toInt = 24 ∨ x.toInt = 25 ∨ x.toInt = 26 ∨ x.toInt = 27 ∨ x.toInt = 28 ∨ x.toInt = 29 ∨ x.toInt = 30 ∨ x.toInt = 31 ∨ x.toInt = 32 ∨ x.toInt = 33 ∨ x.toInt = 34 ∨ x.toInt = 35 ∨ x.toInt = 36 ∨ x.toInt = 37 ∨ x.toInt = 38 ∨ x.toInt = 39 ∨ x.toInt = 40 ∨ x.toInt = 41 ∨ x.toInt = 42 ∨ x.toInt = 43 ∨ x.toInt = 44 ∨ x.toInt = 45 ∨ x.toInt = 46 ∨ x.toInt = 47 ∨ x.toInt = 48 ∨ x.toInt = 49 ∨ x.toInt = 50 ∨ x.toInt = 51 ∨ (x.toInt < 0 ∨ 51 < x.toInt) by omega) with c33 | c33 | c33 | c33 | c33 | c33 | c33 | c33 | c33 | c33 | c33 | c33 | c33 | c33 | c33 | c33 | c33 | c33 | c33 | c33 | c33 | c33 | c33 | c33 | c33 | c33 | c33 | c33 | c33 | c33 | c33 | c33 | c33 | c33 | c33 | c33 | c33 | c33 | c33 | c33 | c33 | c33 | c33 | c33 | c33 | c33 | c33 | c33 | c33 | c33 | c33 | c33 | c33
      · refine lv_tableIn (off := 223) (tgt := 256) zC.1 zC.2.1 dL_law_33 (by omega) (by omega) (by rw [c33]; rfl) (by decide) ?_
        exact lw_c0 zC hG hI hR hX hbl hbA hL hi hl nxt
      · refine lv_tableIn (off := 256) (tgt := 289) zC.1 zC.2.1 dL_law_33 (by omega) (by omega) (by rw [c33]; rfl) (by decide) ?_
        exact lw_c1 zC hG hI hR hX hbl hbA hL hi hl nxt
      · refine lv_tableIn (off := 299) (tgt := 332) zC.1 zC.2.1 dL_law_33 (by omega) (by omega) (by rw [c33]; rfl) (by decide) ?_
        exact lw_c2 zC hG hI hR hX hbl hbA hL hi hl nxt
      · refine lv_tableIn (off := 332) (tgt := 365) zC.1 zC.2.1 dL_law_33 (by omega) (by omega) (by rw [c33]; rfl) (by decide) ?_
        exact lw_c3 zC hG hI hR hX hbl hbA hL hi hl nxt
      · refine lv_tableIn (off := 355) (tgt := 388) zC.1 zC.2.1 dL_law_33 (by omega) (by omega) (by rw [c33]; rfl) (by decide) ?_
        exact lw_c4 zC hG hI hR hX hbl hbA hL hi hl nxt
      · refine lv_tableIn (off := 418) (tgt := 451) zC.1 zC.2.1 dL_law_33 (by omega) (by omega) (by rw [c33]; rfl) (by decide) ?_
        exact lw_c5 zC hG hI hR hX hbl hbA hL hi hl nxt
      · refine lv_tableIn (off := 441) (tgt := 474) zC.1 zC.2.1 dL_law_33 (by omega) (by omega) (by rw [c33]; rfl) (by decide) ?_
        exact lw_c6 zC hG hI hR hX hbl hbA hL hi hl nxt
      · refine lv_tableIn (off := 474) (tgt := 507) zC.1 zC.2.1 dL_law_33 (by omega) (by omega) (by rw [c33]; rfl) (by decide) ?_
        exact lw_c7 zC hG hI hR hX hbl hbA hL hi hl nxt
      · refine lv_tableIn (off := 517) (tgt := 550) zC.1 zC.2.1 dL_law_33 (by omega) (by omega) (by rw [c33]; rfl) (by decide) ?_
        exact lw_c8 zC hG hI hR hX hbl hbA hL hi hl nxt
      · refine lv_tableIn (off := 540) (tgt := 573) zC.1 zC.2.1 dL_law_33 (by omega) (by omega) (by rw [c33]; rfl) (by decide) ?_
        exact lw_c9 zC hG hI hR hX hbl hbA hL hi hl nxt
      · refine lv_tableIn (off := 563) (tgt := 596) zC.1 zC.2.1 dL_law_33 (by omega) (by omega) (by rw [c33]; rfl) (by decide) ?_
        exact lw_c10 zC hG hI hR hX hbl hbA hL hi hl nxt
      · refine lv_tableIn (off := 596) (tgt := 629) zC.1 zC.2.1 dL_law_33 (by omega) (by omega) (by rw [c33]; rfl) (by decide) ?_
        exact lw_c11 zC hG hI hR hX hbl hbA hL hi hl nxt
      · refine lv_tableIn (off := 629) (tgt := 662) zC.1 zC.2.1 dL_law_33 (by omega) (by omega) (by rw [c33]; rfl) (by decide) ?_
        exact lw_c12 zC hG hI hR hX hbl hbA hL hi hl nxt
      · refine lv_tableIn (off := 662) (tgt := 695) zC.1 zC.2.1 dL_law_33 (by omega) (by omega) (by rw [c33]; rfl) (by decide) ?_
        exact lw_c13 zC hG hI hR hX hbl hbA hL hi hl nxt
      · refine lv_tableIn (off := 695) (tgt := 728) zC.1 zC.2.1 dL_law_33 (by omega) (by omega) (by rw [c33]; rfl) (by decide) ?_
        exact lw_c14 zC hG hI hR hX hbl hbA hL hi hl nxt
      · refine lv_tableIn (off := 728) (tgt := 761) zC.1 zC.2.1 dL_law_33 (by omega) (by omega) (by rw [c33]; rfl) (by decide) ?_
        exact lw_c15 zC hG hI hR hX hbl hbA hL hi hl nxt
      · refine lv_tableIn (off := 751) (tgt := 784) zC.1 zC.2.1 dL_law_33 (by omega) (by omega) (by rw [c33]; rfl) (by decide) ?_
        exact lw_c16 zC hG hI hR hX hbl hbA hL hi hl nxt
      · refine lv_tableIn (off := 774) (tgt := 807) zC.1 zC.2.1 dL_law_33 (by omega) (by omega) (by rw [c33]; rfl) (by decide) ?_
        exact lw_c17 zC hG hI hR hX hbl hbA hL hi hl nxt
      · refine lv_tableIn (off := 797) (tgt := 830) zC.1 zC.2.1 dL_law_33 (by omega) (by omega) (by rw [c33]; rfl) (by decide) ?_
        exact lw_c18 zC hG hI hR hX hbl hbA hL hi hl nxt
      · refine lv_tableIn (off := 820) (tgt := 853) zC.1 zC.2.1 dL_law_33 (by omega) (by omega) (by rw [c33]; rfl) (by decide) ?_
        exact lw_c19 zC hG hI hR hX hbl hbA hL hi hl nxt
      · refine lv_tableIn (off := 853) (tgt := 886) zC.1 zC.2.1 dL_law_33 (by omega) (by omega) (by rw [c33]; rfl) (by decide) ?_
        exact lw_c20 zC hG hI hR hX hbl hbA hL hi hl nxt
      · refine lv_tableIn (off := 886) (tgt := 919) zC.1 zC.2.1 dL_law_33 (by omega) (by omega) (by rw [c33]; rfl) (by decide) ?_
        exact lw_c21 zC hG hI hR hX hbl hbA hL hi hl nxt
      · refine lv_tableIn (off := 919) (tgt := 952) zC.1 zC.2.1 dL_law_33 (by omega) (by omega) (by rw [c33]; rfl) (by decide) ?_
        exact lw_c22 zC hG hI hR hX hbl hbA hL hi hl nxt
      · refine lv_tableIn (off := 962) (tgt := 995) zC.1 zC.2.1 dL_law_33 (by omega) (by omega) (by rw [c33]; rfl) (by decide) ?_
        exact lw_c23 zC hG hI hR hX hbl hbA hL hi hl nxt
      · refine lv_tableIn (off := 1005) (tgt := 1038) zC.1 zC.2.1 dL_law_33 (by omega) (by omega) (by rw [c33]; rfl) (by decide) ?_
        exact lw_c24 zC hG hI hR hX hbl hbA hL hi hl nxt
      · refine lv_tableIn (off := 1038) (tgt := 1071) zC.1 zC.2.1 dL_law_33 (by omega) (by omega) (by rw [c33]; rfl) (by decide) ?_
        exact lw_c25 zC hG hI hR hX hbl hbA hL hi hl nxt
      · refine lv_tableIn (off := 1071) (tgt := 1104) zC.1 zC.2.1 dL_law_33 (by omega) (by omega) (by rw [c33]; rfl) (by decide) ?_
        exact lw_c26 zC hG hI hR hX hbl hbA hL hi hl nxt
      · refine lv_tableIn (off := 1124) (tgt := 1157) zC.1 zC.2.1 dL_law_33 (by omega) (by omega) (by rw [c33]; rfl) (by decide) ?_
        exact lw_c27 zC hG hI hR hX hbl hbA hL hi hl nxt
      · refine lv_tableIn (off := 1157) (tgt := 1190) zC.1 zC.2.1 dL_law_33 (by omega) (by omega) (by rw [c33]; rfl) (by decide) ?_
        exact lw_c28 zC hG hI hR hX hbl hbA hL hi hl nxt
      · refine lv_tableIn (off := 1180) (tgt := 1213) zC.1 zC.2.1 dL_law_33 (by omega) (by omega) (by rw [c33]; rfl) (by decide) ?_
        exact lw_c29 zC hG hI hR hX hbl hbA hL hi hl nxt
      · refine lv_tableIn (off := 1233) (tgt := 1266) zC.1 zC.2.1 dL_law_33 (by omega) (by omega) (by rw [c33]; rfl) (by decide) ?_
        exact lw_c30 zC hG hI hR hX hbl hbA hL hi hl nxt
      · refine lv_tableIn (off := 1266) (tgt := 1299) zC.1 zC.2.1 dL_law_33 (by omega) (by omega) (by rw [c33]; rfl) (by decide) ?_
        exact lw_c31 zC hG hI hR hX hbl hbA hL hi hl nxt
      · refine lv_tableIn (off := 1319) (tgt := 1352) zC.1 zC.2.1 dL_law_33 (by omega) (by omega) (by rw [c33]; rfl) (by decide) ?_
        exact lw_c32 zC hG hI hR hX hbl hbA hL hi hl nxt
      · refine lv_tableIn (off := 1362) (tgt := 1395) zC.1 zC.2.1 dL_law_33 (by omega) (by omega) (by rw [c33]; rfl) (by decide) ?_
        exact lw_c33 zC hG hI hR hX hbl hbA hL hi hl nxt
      · refine lv_tableIn (off := 1385) (tgt := 1418) zC.1 zC.2.1 dL_law_33 (by omega) (by omega) (by rw [c33]; rfl) (by decide) ?_
        exact lw_c34 zC hG hI hR hX hbl hbA hL hi hl nxt
      · refine lv_tableIn (off := 1438) (tgt := 1471) zC.1 zC.2.1 dL_law_33 (by omega) (by omega) (by rw [c33]; rfl) (by decide) ?_
        exact lw_c35 zC hG hI hR hX hbl hbA hL hi hl nxt
      · refine lv_tableIn (off := 1491) (tgt := 1524) zC.1 zC.2.1 dL_law_33 (by omega) (by omega) (by rw [c33]; rfl) (by decide) ?_
        exact lw_c36 zC hG hI hR hX hbl hbA hL hi hl nxt
      · refine lv_tableIn (off := 1544) (tgt := 1577) zC.1 zC.2.1 dL_law_33 (by omega) (by omega) (by rw [c33]; rfl) (by decide) ?_
        exact lw_c37 zC hG hI hR hX hbl hbA hL hi hl nxt
      · refine lv_tableIn (off := 1587) (tgt := 1620) zC.1 zC.2.1 dL_law_33 (by omega) (by omega) (by rw [c33]; rfl) (by decide) ?_
        exact lw_c38 zC hG hI hR hX hbl hbA hL hi hl nxt
      · refine lv_tableIn (off := 1620) (tgt := 1653) zC.1 zC.2.1 dL_law_33 (by omega) (by omega) (by rw [c33]; rfl) (by decide) ?_
        exact lw_c39 zC hG hI hR hX hbl hbA hL hi hl nxt
      · refine lv_tableIn (off := 1643) (tgt := 1676) zC.1 zC.2.1 dL_law_33 (by omega) (by omega) (by rw [c33]; rfl) (by decide) ?_
        exact lw_c40 zC hG hI hR hX hbl hbA hL hi hl nxt
      · refine lv_tableIn (off := 1676) (tgt := 1709) zC.1 zC.2.1 dL_law_33 (by omega) (by omega) (by rw [c33]; rfl) (by decide) ?_
        exact lw_c41 zC hG hI hR hX hbl hbA hL hi hl nxt
      · refine lv_tableIn (off := 1729) (tgt := 1762) zC.1 zC.2.1 dL_law_33 (by omega) (by omega) (by rw [c33]; rfl) (by decide) ?_
        exact lw_c42 zC hG hI hR hX hbl hbA hL hi hl nxt
      · refine lv_tableIn (off := 1772) (tgt := 1805) zC.1 zC.2.1 dL_law_33 (by omega) (by omega) (by rw [c33]; rfl) (by decide) ?_
        exact lw_c43 zC hG hI hR hX hbl hbA hL hi hl nxt
      · refine lv_tableIn (off := 1815) (tgt := 1848) zC.1 zC.2.1 dL_law_33 (by omega) (by omega) (by rw [c33]; rfl) (by decide) ?_
        exact lw_c44 zC hG hI hR hX hbl hbA hL hi hl nxt
      · refine lv_tableIn (off := 1868) (tgt := 1901) zC.1 zC.2.1 dL_law_33 (by omega) (by omega) (by rw [c33]; rfl) (by decide) ?_
        exact lw_c45 zC hG hI hR hX hbl hbA hL hi hl nxt
      · refine lv_tableIn (off := 1881) (tgt := 1914) zC.1 zC.2.1 dL_law_33 (by omega) (by omega) (by rw [c33]; rfl) (by decide) ?_
        exact lw_c46 zC hG hI hR hX hbl hbA hL hi hl nxt
      · refine lv_tableIn (off := 1895) (tgt := 1928) zC.1 zC.2.1 dL_law_33 (by omega) (by omega) (by rw [c33]; rfl) (by decide) ?_
        exact lw_c47 zC hG hI hR hX hbl hbA hL hi hl nxt
      · refine lv_tableIn (off := 1909) (tgt := 1942) zC.1 zC.2.1 dL_law_33 (by omega) (by omega) (by rw [c33]; rfl) (by decide) ?_
        exact lw_c48 zC hG hI hR hX hbl hbA hL hi hl nxt
      · refine lv_tableIn (off := 1932) (tgt := 1965) zC.1 zC.2.1 dL_law_33 (by omega) (by omega) (by rw [c33]; rfl) (by decide) ?_
        exact lw_c49 zC hG hI hR hX hbl hbA hL hi hl nxt
      · refine lv_tableIn (off := 1945) (tgt := 1978) zC.1 zC.2.1 dL_law_33 (by omega) (by omega) (by rw [c33]; rfl) (by decide) ?_
        exact lw_c50 zC hG hI hR hX hbl hbA hL hi hl nxt
      · refine lv_tableIn (off := 1968) (tgt := 2001) zC.1 zC.2.1 dL_law_33 (by omega) (by omega) (by rw [c33]; rfl) (by decide) ?_
        exact lw_c51 zC hG hI hR hX hbl hbA hL hi hl nxt
      · refine lv_tableOut (tgt := 2015) zC.1 zC.2.1 dL_law_33 c33 (by decide) ?_
        exact nxt σ H locs hG hI hR
