theorem fyo_ct {lp v k n : Int} (hn : 0 ≤ n) : fyo lp v k n = -9 ↔ ctI (offP lp v k) 0 (n + 1).toNat = 0 := by
  unfold fyo
  rcases fstI_r (offP lp v k) (a := 0) (by omega) (n + 1).toNat with ⟨h1, h2⟩ | ⟨h1, h2, h3, -⟩
  · exact ⟨fun _ => ctI_z h2, fun _ => h1⟩
  · exact ⟨fun z => by omega, fun z => absurd z (ctI_nz h1 h3 h2)⟩
