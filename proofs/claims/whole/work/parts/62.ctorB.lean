theorem tn_0 {c0 c1 y : Nat × va_E} (L : va_W) (z : va_W) : (c0 :: c1 :: (L ++ (y :: z)))[2 + L.length]? = some y := by
  rw [Nat.add_comm]
  simp
theorem tn_1 {c0 c1 c2 y : Nat × va_E} (L : va_W) (z : va_W) : (c0 :: c1 :: c2 :: (L ++ (y :: z)))[3 + L.length]? = some y := by
  rw [Nat.add_comm]
  simp
theorem tn_2 {c0 c1 c2 c3 y : Nat × va_E} (L : va_W) (z : va_W) : (c0 :: c1 :: c2 :: c3 :: (L ++ (y :: z)))[4 + L.length]? = some y := by
  rw [Nat.add_comm]
  simp
theorem tn_3 {c0 c1 c2 c3 c4 y : Nat × va_E} (L : va_W) (z : va_W) : (c0 :: c1 :: c2 :: c3 :: c4 :: (L ++ (y :: z)))[5 + L.length]? = some y := by
  rw [Nat.add_comm]
  simp
set_option maxHeartbeats 4000000 in
set_option maxRecDepth 100000 in
theorem it_row {zp : Program} {zl : Launch} {ze : Env} {zs : State} {zm : MethodId} {args : Array Value} {below : List Frame} {meth : Method} {zc : Code} {zQ : State → Prop} {D : va_G} {k : Nat → ClassId} {A : Nat → Prop} {W0 L2 : va_W} {H : Heap} {locs : List Loc} {ls : Array Slot} {cells slots : Nat} {o a : Nat} {r1 r2 r3 : Value} {fs : List Value} {f : Nat → Option Nat} {i : Int} (zC : CallFix zp zm zc cX4_init 2 zs args tb RX4) (hG : GK D k A W0 ((o, .inr (4, .ref a :: r1 :: r2 :: r3 :: fs)) :: (a, .inl (k 2, 6, .inr (.inr (.inr (.inr f))))) :: L2) zs H locs) (hi : 0 ≤ i ∧ i < 6) (hl : lv_has ls 2 [(1, .int (zI i)), (0, .ref o)]) (hc : cells + 2 ≤ 43) (hs : slots + 42 ≤ 608)
    (kk : ∀ (q q1 : Nat) (H : Heap) (locs : List Loc) (ls : Array Slot), GK D k A W0 ((o, .inr (4, .ref a :: r1 :: r2 :: r3 :: fs)) :: (a, .inl (k 2, 6, .inr (.inr (.inr (.inr (va_up f i.toNat (some q))))))) :: (L2 ++ [(q, .inr (2, [.ref q1, .int (zI (-1))])), (q1, .inl (k 0, 40, .inl (fun _ => zI 0)))])) zs H locs → lv_has ls 2 [(1, .int (zI (i + 1))), (0, .ref o)] → W zp zl ze { frames := 2, cells := 43, slots := 608, locals := 32 } zs zm args below meth zc H locs (cells + 2) (slots + 42) zQ (F0 zm 88 ls [])) : W zp zl ze { frames := 2, cells := 43, slots := 608, locals := 32 } zs zm args below meth zc H locs cells slots zQ (F0 zm 88 ls []) := by
  refine lv_iload_n zC.1 zC.2.1 dX4_init_88 rfl (lv_at hl 0 rfl) ?_
  refine zr_bipush zC dX4_init_89 (by decide +kernel) ?_
  refine zr_icmp_ge (tgt := 113) zC dX4_init_91 (by decide) (by omega) (fun cX => ?_) (fun cX => ?_)
  · exact absurd cX (by omega)
  refine lv_aload_n zC.1 zC.2.1 dX4_init_94 rfl (lv_at hl 1 rfl) ?_
  refine zk_get (Cn := RX4) (T := TX4) (N := 12) (ci := 4) zC hG uw_X4 0 rfl rfl 0 (by decide) wl_X4_11 (fun _ h => h) rfl dX4_init_95 ?_
  refine lv_iload_n zC.1 zC.2.1 dX4_init_98 rfl (lv_at hl 0 rfl) ?_
  refine zk_new (Cn := RX2) (T := TX2) (N := 2) (ci := 2) (fs := [.null, .int 0]) zC hG uw_X2 tyX2 tyX2_ok wl_X4_9 wz_X2 wn_X2 rfl (fun j hj => by rcases (show j = 0 ∨ j = 1 by omega) with rfl | rfl <;> rfl) (by show _ ≤ 43; omega) (by show _ ≤ 608; omega) dX4_init_99 (fun q H hG => ?_)
  refine lv_dup zC.1 zC.2.1 dX4_init_102 rfl ?_
  refine zk_callN zC (gk_l hG) c_X2_init wc_X2_init wn_X2 wi_X2_init hG.2.2.2.2.2.2.1 rfl ⟨by decide, by decide, by decide +kernel⟩ ⟨by decide, by decide⟩ hl.1 (Nat.le_of_ble_eq_true rfl) dX4_init_103 ⟨by show _ ≤ 43; omega, by show _ ≤ 608; omega⟩ (fun L9 H locs hF hG => ?_)
  obtain ⟨q1, rfl⟩ := hF
  have hG := gk_r hG
  refine zk_astq zC hG 1 2 (2 + L2.length) 2 rfl rfl (tn_0 _ _) rfl (by omega) (by decide) dX4_init_106 (fun H locs hG => ?_)
  refine zr_iinc (lv' := [(1, .int (zI (i + 1))), (0, .ref o)]) zC dX4_init_107 hl (k := 0) rfl (by decide) rfl (fun ls hl => ?_)
  refine lv_goto (tgt := 88) zC.1 zC.2.1 dX4_init_110 (by decide) ?_
  refine W.widen (k := cells + 2) (n := slots + 42) (by omega) (by omega) ?_
  exact kk q q1 H locs ls hG hl
set_option maxHeartbeats 4000000 in
set_option maxRecDepth 100000 in
theorem it_text {zp : Program} {zl : Launch} {ze : Env} {zs : State} {zm : MethodId} {args : Array Value} {below : List Frame} {meth : Method} {zc : Code} {zQ : State → Prop} {D : va_G} {k : Nat → ClassId} {A : Nat → Prop} {W0 L2 : va_W} {H : Heap} {locs : List Loc} {ls : Array Slot} {cells slots : Nat} {o a : Nat} {r0 r2 r3 : Value} {fs : List Value} {x1 : Nat × va_E} {f : Nat → Option Nat} {i : Int} (zC : CallFix zp zm zc cX4_init 2 zs args tb RX4) (hG : GK D k A W0 ((o, .inr (4, r0 :: .ref a :: r2 :: r3 :: fs)) :: x1 :: (a, .inl (k 3, 4, .inr (.inr (.inr (.inr f))))) :: L2) zs H locs) (hi : 0 ≤ i ∧ i < 4) (hl : lv_has ls 2 [(1, .int (zI i)), (0, .ref o)]) (hc : cells + 2 ≤ 43) (hs : slots + 62 ≤ 608)
    (kk : ∀ (q q1 : Nat) (H : Heap) (locs : List Loc) (ls : Array Slot), GK D k A W0 ((o, .inr (4, r0 :: .ref a :: r2 :: r3 :: fs)) :: x1 :: (a, .inl (k 3, 4, .inr (.inr (.inr (.inr (va_up f i.toNat (some q))))))) :: (L2 ++ [(q, .inr (3, [.ref q1, .int (zI (-1))])), (q1, .inl (k 1, 60, .inl (fun _ => zI 0)))])) zs H locs → lv_has ls 2 [(1, .int (zI (i + 1))), (0, .ref o)] → W zp zl ze { frames := 2, cells := 43, slots := 608, locals := 32 } zs zm args below meth zc H locs (cells + 2) (slots + 62) zQ (F0 zm 115 ls [])) : W zp zl ze { frames := 2, cells := 43, slots := 608, locals := 32 } zs zm args below meth zc H locs cells slots zQ (F0 zm 115 ls []) := by
  refine lv_iload_n zC.1 zC.2.1 dX4_init_115 rfl (lv_at hl 0 rfl) ?_
  refine zr_iconst zC dX4_init_116 ?_
  refine zr_icmp_ge (tgt := 139) zC dX4_init_117 (by decide) (by omega) (fun cX => ?_) (fun cX => ?_)
  · exact absurd cX (by omega)
  refine lv_aload_n zC.1 zC.2.1 dX4_init_120 rfl (lv_at hl 1 rfl) ?_
  refine zk_get (Cn := RX4) (T := TX4) (N := 12) (ci := 4) zC hG uw_X4 0 rfl rfl 1 (by decide) wl_X4_17 (fun _ h => h) rfl dX4_init_121 ?_
  refine lv_iload_n zC.1 zC.2.1 dX4_init_124 rfl (lv_at hl 0 rfl) ?_
  refine zk_new (Cn := RX3) (T := TX3) (N := 2) (ci := 3) (fs := [.null, .int 0]) zC hG uw_X3 tyX3 tyX3_ok wl_X4_15 wz_X3 wn_X3 rfl (fun j hj => by rcases (show j = 0 ∨ j = 1 by omega) with rfl | rfl <;> rfl) (by show _ ≤ 43; omega) (by show _ ≤ 608; omega) dX4_init_125 (fun q H hG => ?_)
  refine lv_dup zC.1 zC.2.1 dX4_init_128 rfl ?_
  refine zk_callN zC (gk_l hG) c_X3_init wc_X3_init wn_X3 wi_X3_init hG.2.2.2.2.2.2.2.1 rfl ⟨by decide, by decide, by decide +kernel⟩ ⟨by decide, by decide⟩ hl.1 (Nat.le_of_ble_eq_true rfl) dX4_init_129 ⟨by show _ ≤ 43; omega, by show _ ≤ 608; omega⟩ (fun L9 H locs hF hG => ?_)
  obtain ⟨q1, rfl⟩ := hF
  have hG := gk_r hG
  refine zk_astq zC hG 2 3 (3 + L2.length) 3 rfl rfl (tn_1 _ _) rfl (by omega) (by decide) dX4_init_132 (fun H locs hG => ?_)
  refine zr_iinc (lv' := [(1, .int (zI (i + 1))), (0, .ref o)]) zC dX4_init_133 hl (k := 0) rfl (by decide) rfl (fun ls hl => ?_)
  refine lv_goto (tgt := 115) zC.1 zC.2.1 dX4_init_136 (by decide) ?_
  refine W.widen (k := cells + 2) (n := slots + 62) (by omega) (by omega) ?_
  exact kk q q1 H locs ls hG hl
set_option maxHeartbeats 4000000 in
set_option maxRecDepth 100000 in
theorem it_cal {zp : Program} {zl : Launch} {ze : Env} {zs : State} {zm : MethodId} {args : Array Value} {below : List Frame} {meth : Method} {zc : Code} {zQ : State → Prop} {D : va_G} {k : Nat → ClassId} {A : Nat → Prop} {W0 L2 : va_W} {H : Heap} {locs : List Loc} {ls : Array Slot} {cells slots : Nat} {o a : Nat} {r0 r1 r3 : Value} {fs : List Value} {x1 x2 : Nat × va_E} {f : Nat → Option Nat} {i : Int} (zC : CallFix zp zm zc cX4_init 2 zs args tb RX4) (hG : GK D k A W0 ((o, .inr (4, r0 :: r1 :: .ref a :: r3 :: fs)) :: x1 :: x2 :: (a, .inl (k 4, 5, .inr (.inr (.inr (.inr f))))) :: L2) zs H locs) (hi : 0 ≤ i ∧ i < 5) (hl : lv_has ls 2 [(1, .int (zI i)), (0, .ref o)]) (hc : cells + 1 ≤ 43) (hs : slots + 4 ≤ 608)
    (kk : ∀ (q : Nat) (H : Heap) (locs : List Loc) (ls : Array Slot), GK D k A W0 ((o, .inr (4, r0 :: r1 :: .ref a :: r3 :: fs)) :: x1 :: x2 :: (a, .inl (k 4, 5, .inr (.inr (.inr (.inr (va_up f i.toNat (some q))))))) :: (L2 ++ [(q, .inr (0, [.int (zI 0), .int (zI 2), .int (zI 0), .int (zI 0)]))])) zs H locs → lv_has ls 2 [(1, .int (zI (i + 1))), (0, .ref o)] → W zp zl ze { frames := 2, cells := 43, slots := 608, locals := 32 } zs zm args below meth zc H locs (cells + 1) (slots + 4) zQ (F0 zm 141 ls [])) : W zp zl ze { frames := 2, cells := 43, slots := 608, locals := 32 } zs zm args below meth zc H locs cells slots zQ (F0 zm 141 ls []) := by
  refine lv_iload_n zC.1 zC.2.1 dX4_init_141 rfl (lv_at hl 0 rfl) ?_
  refine zr_iconst zC dX4_init_142 ?_
  refine zr_icmp_ge (tgt := 165) zC dX4_init_143 (by decide) (by omega) (fun cX => ?_) (fun cX => ?_)
  · exact absurd cX (by omega)
  refine lv_aload_n zC.1 zC.2.1 dX4_init_146 rfl (lv_at hl 1 rfl) ?_
  refine zk_get (Cn := RX4) (T := TX4) (N := 12) (ci := 4) zC hG uw_X4 0 rfl rfl 2 (by decide) wl_X4_23 (fun _ h => h) rfl dX4_init_147 ?_
  refine lv_iload_n zC.1 zC.2.1 dX4_init_150 rfl (lv_at hl 0 rfl) ?_
  refine zk_new (Cn := RX0) (T := TX0) (N := 4) (ci := 0) (fs := [.int 0, .int 0, .int 0, .int 0]) zC hG uw_X0 tyX0 tyX0_ok wl_X4_21 wz_X0 wn_X0 rfl (fun j hj => by rcases (show j = 0 ∨ j = 1 ∨ j = 2 ∨ j = 3 by omega) with rfl | rfl | rfl | rfl <;> rfl) (by show _ ≤ 43; omega) (by show _ ≤ 608; omega) dX4_init_151 (fun q H hG => ?_)
  refine lv_dup zC.1 zC.2.1 dX4_init_154 rfl ?_
  refine zk_callN zC (gk_l hG) c_X0_init wc_X0_init wn_X0 wi_X0_init hG.2.2.2.2.2.1 rfl ⟨by decide, by decide, by decide +kernel⟩ ⟨by decide, by decide⟩ hl.1 (Nat.le_of_ble_eq_true rfl) dX4_init_155 ⟨by show _ ≤ 43; omega, by show _ ≤ 608; omega⟩ (fun L9 H locs hF hG => ?_)
  subst hF
  have hG := gk_r hG
  refine zk_astq zC hG 3 4 (4 + L2.length) 0 rfl rfl (tn_2 _ _) rfl (by omega) (by decide) dX4_init_158 (fun H locs hG => ?_)
  refine zr_iinc (lv' := [(1, .int (zI (i + 1))), (0, .ref o)]) zC dX4_init_159 hl (k := 0) rfl (by decide) rfl (fun ls hl => ?_)
  refine lv_goto (tgt := 141) zC.1 zC.2.1 dX4_init_162 (by decide) ?_
  refine W.widen (k := cells + 1) (n := slots + 4) (by omega) (by omega) ?_
  exact kk q H locs ls hG hl
set_option maxHeartbeats 4000000 in
set_option maxRecDepth 100000 in
theorem it_kept {zp : Program} {zl : Launch} {ze : Env} {zs : State} {zm : MethodId} {args : Array Value} {below : List Frame} {meth : Method} {zc : Code} {zQ : State → Prop} {D : va_G} {k : Nat → ClassId} {A : Nat → Prop} {W0 L2 : va_W} {H : Heap} {locs : List Loc} {ls : Array Slot} {cells slots : Nat} {o a : Nat} {r0 r1 r2 : Value} {fs : List Value} {x1 x2 x3 : Nat × va_E} {f : Nat → Option Nat} {i : Int} (zC : CallFix zp zm zc cX4_init 2 zs args tb RX4) (hG : GK D k A W0 ((o, .inr (4, r0 :: r1 :: r2 :: .ref a :: fs)) :: x1 :: x2 :: x3 :: (a, .inl (k 5, 3, .inr (.inr (.inr (.inr f))))) :: L2) zs H locs) (hi : 0 ≤ i ∧ i < 3) (hl : lv_has ls 2 [(1, .int (zI i)), (0, .ref o)]) (hc : cells + 4 ≤ 43) (hs : slots + 20 ≤ 608)
    (kk : ∀ (q q1 q2 q3 : Nat) (H : Heap) (locs : List Loc) (ls : Array Slot), GK D k A W0 ((o, .inr (4, r0 :: r1 :: r2 :: .ref a :: fs)) :: x1 :: x2 :: x3 :: (a, .inl (k 5, 3, .inr (.inr (.inr (.inr (va_up f i.toNat (some q))))))) :: (L2 ++ [(q, .inr (1, [.ref q1, .ref q2, .ref q3, .int (zI 0), .int (zI 0)])), (q1, .inl (k 0, 5, .inl (fun _ => zI 0))), (q2, .inl (k 0, 5, .inl (fun _ => zI 0))), (q3, .inl (k 0, 5, .inl (fun _ => zI 0)))])) zs H locs → lv_has ls 2 [(1, .int (zI (i + 1))), (0, .ref o)] → W zp zl ze { frames := 2, cells := 43, slots := 608, locals := 32 } zs zm args below meth zc H locs (cells + 4) (slots + 20) zQ (F0 zm 167 ls [])) : W zp zl ze { frames := 2, cells := 43, slots := 608, locals := 32 } zs zm args below meth zc H locs cells slots zQ (F0 zm 167 ls []) := by
  refine lv_iload_n zC.1 zC.2.1 dX4_init_167 rfl (lv_at hl 0 rfl) ?_
  refine zr_iconst zC dX4_init_168 ?_
  refine zr_icmp_ge (tgt := 191) zC dX4_init_169 (by decide) (by omega) (fun cX => ?_) (fun cX => ?_)
  · exact absurd cX (by omega)
  refine lv_aload_n zC.1 zC.2.1 dX4_init_172 rfl (lv_at hl 1 rfl) ?_
  refine zk_get (Cn := RX4) (T := TX4) (N := 12) (ci := 4) zC hG uw_X4 0 rfl rfl 3 (by decide) wl_X4_29 (fun _ h => h) rfl dX4_init_173 ?_
  refine lv_iload_n zC.1 zC.2.1 dX4_init_176 rfl (lv_at hl 0 rfl) ?_
  refine zk_new (Cn := RX1) (T := TX1) (N := 5) (ci := 1) (fs := [.null, .null, .null, .int 0, .int 0]) zC hG uw_X1 tyX1 tyX1_ok wl_X4_27 wz_X1 wn_X1 rfl (fun j hj => by rcases (show j = 0 ∨ j = 1 ∨ j = 2 ∨ j = 3 ∨ j = 4 by omega) with rfl | rfl | rfl | rfl | rfl <;> rfl) (by show _ ≤ 43; omega) (by show _ ≤ 608; omega) dX4_init_177 (fun q H hG => ?_)
  refine lv_dup zC.1 zC.2.1 dX4_init_180 rfl ?_
  refine zk_callN zC (gk_l hG) c_X1_init wc_X1_init wn_X1 wi_X1_init hG.2.2.2.2.2.2.2.2.1 rfl ⟨by decide, by decide, by decide +kernel⟩ ⟨by decide, by decide⟩ hl.1 (Nat.le_of_ble_eq_true rfl) dX4_init_181 ⟨by show _ ≤ 43; omega, by show _ ≤ 608; omega⟩ (fun L9 H locs hF hG => ?_)
  obtain ⟨q1, q2, q3, rfl⟩ := hF
  have hG := gk_r hG
  refine zk_astq zC hG 4 5 (5 + L2.length) 1 rfl rfl (tn_3 _ _) rfl (by omega) (by decide) dX4_init_184 (fun H locs hG => ?_)
  refine zr_iinc (lv' := [(1, .int (zI (i + 1))), (0, .ref o)]) zC dX4_init_185 hl (k := 0) rfl (by decide) rfl (fun ls hl => ?_)
  refine lv_goto (tgt := 167) zC.1 zC.2.1 dX4_init_188 (by decide) ?_
  refine W.widen (k := cells + 4) (n := slots + 20) (by omega) (by omega) ?_
  exact kk q q1 q2 q3 H locs ls hG hl
