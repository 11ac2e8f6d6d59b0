/-! THE MEMORY: every cell of the system and of the reference, as one function of (family, number, place) -/
abbrev Mm : Type := Nat → Int → Int → Int
def up (σ : Mm) (t : Nat) (i j v : Int) : Mm := fun t1 i1 j1 => if t1 = t ∧ i1 = i ∧ j1 = j then v else σ t1 i1 j1
/-- class numbers and slots; addresses; array classes; addresses of the static tables -/
abbrev Gm : Type := va_G × (Nat → Nat) × (Nat → ClassId) × (Nat → Nat)
abbrev clsG : List vw_C := [(RX0, TX0, 4), (RX1, TX1, 5), (RX2, TX2, 2), (RX3, TX3, 2), (RX4, TX4, 12), (RX5, TX5, 25)]
def tyG (Γ : Gm) : List (ClassId × FieldType) := [(Γ.2.2.1 0, .int), (Γ.2.2.1 1, .byte), (Γ.2.2.1 2, .object "LostDays$Row"), (Γ.2.2.1 3, .object "LostDays$Text"), (Γ.2.2.1 4, .object "LostDays$Calendar"), (Γ.2.2.1 5, .object "LostDays$Kept")]
def aL (Γ : Gm) : Nat := Γ.2.1 0
def aRs (Γ : Gm) : Nat := Γ.2.1 1
def aTs (Γ : Gm) : Nat := Γ.2.1 2
def aTo (Γ : Gm) : Nat := Γ.2.1 3
def aKs (Γ : Gm) : Nat := Γ.2.1 4
def aTf (Γ : Gm) : Nat := Γ.2.1 5
def aRow (Γ : Gm) (i : Int) : Nat := Γ.2.1 (6 + i.toNat)
def aPl (Γ : Gm) (i : Int) : Nat := Γ.2.1 (12 + i.toNat)
def aTx (Γ : Gm) (i : Int) : Nat := Γ.2.1 (18 + i.toNat)
def aSg (Γ : Gm) (i : Int) : Nat := Γ.2.1 (22 + i.toNat)
def aCal (Γ : Gm) (i : Int) : Nat := Γ.2.1 (26 + i.toNat)
def aKp (Γ : Gm) (i : Int) : Nat := Γ.2.1 (32 + i.toNat)
def aKl (Γ : Gm) (i : Int) : Nat := Γ.2.1 (35 + i.toNat)
def aKo (Γ : Gm) (i : Int) : Nat := Γ.2.1 (38 + i.toNat)
def aKg (Γ : Gm) (i : Int) : Nat := Γ.2.1 (41 + i.toNat)
def aM (Γ : Gm) : Nat := Γ.2.1 44
def am_findings (Γ : Gm) : Nat := Γ.2.1 45
def am_sizes (Γ : Gm) : Nat := Γ.2.1 46
def am_rows (Γ : Gm) : Nat := Γ.2.1 47
def am_moving (Γ : Gm) : Nat := Γ.2.1 48
def am_lengths (Γ : Gm) : Nat := Γ.2.1 49
def am_texts (Γ : Gm) : Nat := Γ.2.1 50
def am_kindOf (Γ : Gm) : Nat := Γ.2.1 51
def am_leapOf (Γ : Gm) : Nat := Γ.2.1 52
def am_orderOf (Γ : Gm) : Nat := Γ.2.1 53
def am_gapOf (Γ : Gm) : Nat := Γ.2.1 54
def am_read (Γ : Gm) : Nat := Γ.2.1 55
def am_kept (Γ : Gm) : Nat := Γ.2.1 56
def cL (Γ : Gm) (σ : Mm) : Nat × va_E := (aL Γ, .inr (4, [.ref (aRs Γ), .ref (aTs Γ), .ref (aTo Γ), .ref (aKs Γ), .ref (aCal Γ 5), .ref (aTf Γ), .int (zI (σ 0 0 6)), .int (zI (σ 0 0 7)), .int (zI (σ 0 0 8)), .long (zL (σ 0 0 9)), .long (zL (σ 0 0 10)), .int (zI (σ 0 0 11))]))
def cRs (Γ : Gm) (σ : Mm) : Nat × va_E := (aRs Γ, .inl (Γ.2.2.1 2, 6, .inr (.inr (.inr (.inr (fun j => some (aRow Γ (j : Int))))))))
def cTs (Γ : Gm) (σ : Mm) : Nat × va_E := (aTs Γ, .inl (Γ.2.2.1 3, 4, .inr (.inr (.inr (.inr (fun j => some (aTx Γ (j : Int))))))))
def cTo (Γ : Gm) (σ : Mm) : Nat × va_E := (aTo Γ, .inl (Γ.2.2.1 4, 5, .inr (.inr (.inr (.inr (fun j => some (aCal Γ (j : Int))))))))
def cKs (Γ : Gm) (σ : Mm) : Nat × va_E := (aKs Γ, .inl (Γ.2.2.1 5, 3, .inr (.inr (.inr (.inr (fun j => some (aKp Γ (j : Int))))))))
def cTf (Γ : Gm) (σ : Mm) : Nat × va_E := (aTf Γ, .inl (Γ.2.2.1 0, 6, .inl (fun j => zI (σ 1 0 (j : Int)))))
def cRow (Γ : Gm) (σ : Mm) (i : Int) : Nat × va_E := (aRow Γ i, .inr (2, [.ref (aPl Γ i), .int (zI (σ 2 i 1))]))
def cPl (Γ : Gm) (σ : Mm) (i : Int) : Nat × va_E := (aPl Γ i, .inl (Γ.2.2.1 0, 40, .inl (fun j => zI (σ 3 i (j : Int)))))
def cTx (Γ : Gm) (σ : Mm) (i : Int) : Nat × va_E := (aTx Γ i, .inr (3, [.ref (aSg Γ i), .int (zI (σ 4 i 1))]))
def cSg (Γ : Gm) (σ : Mm) (i : Int) : Nat × va_E := (aSg Γ i, .inl (Γ.2.2.1 1, 60, .inl (fun j => zI (σ 5 i (j : Int)))))
def cCal (Γ : Gm) (σ : Mm) (i : Int) : Nat × va_E := (aCal Γ i, .inr (0, [.int (zI (σ 6 i 0)), .int (zI (σ 6 i 1)), .int (zI (σ 6 i 2)), .int (zI (σ 6 i 3))]))
def cKp (Γ : Gm) (σ : Mm) (i : Int) : Nat × va_E := (aKp Γ i, .inr (1, [.ref (aKl Γ i), .ref (aKo Γ i), .ref (aKg Γ i), .int (zI (σ 7 i 3)), .int (zI (σ 7 i 4))]))
def cKl (Γ : Gm) (σ : Mm) (i : Int) : Nat × va_E := (aKl Γ i, .inl (Γ.2.2.1 0, 5, .inl (fun j => zI (σ 8 i (j : Int)))))
def cKo (Γ : Gm) (σ : Mm) (i : Int) : Nat × va_E := (aKo Γ i, .inl (Γ.2.2.1 0, 5, .inl (fun j => zI (σ 9 i (j : Int)))))
def cKg (Γ : Gm) (σ : Mm) (i : Int) : Nat × va_E := (aKg Γ i, .inl (Γ.2.2.1 0, 5, .inl (fun j => zI (σ 10 i (j : Int)))))
def cM (Γ : Gm) (σ : Mm) : Nat × va_E := (aM Γ, .inr (5, [.int (zI (σ 20 0 0)), .ref (am_findings Γ), .int (zI (σ 20 0 2)), .long (zL (σ 20 0 3)), .long (zL (σ 20 0 4)), .ref (am_sizes Γ), .ref (am_rows Γ), .ref (am_moving Γ), .ref (am_lengths Γ), .ref (am_texts Γ), .int (zI (σ 20 0 10)), .int (zI (σ 20 0 11)), .ref (am_kindOf Γ), .ref (am_leapOf Γ), .ref (am_orderOf Γ), .ref (am_gapOf Γ), .int (zI (σ 20 0 16)), .int (zI (σ 20 0 17)), .ref (am_read Γ), .int (zI (σ 20 0 19)), .int (zI (σ 20 0 20)), .int (zI (σ 20 0 21)), .int (zI (σ 20 0 22)), .ref (am_kept Γ), .long (zL (σ 20 0 24))]))
def cm_findings (Γ : Gm) (σ : Mm) : Nat × va_E := (am_findings Γ, .inl (Γ.2.2.1 0, 6, .inl (fun j => zI (σ 21 0 (j : Int)))))
def cm_sizes (Γ : Gm) (σ : Mm) : Nat × va_E := (am_sizes Γ, .inl (Γ.2.2.1 0, 6, .inl (fun j => zI (σ 22 0 (j : Int)))))
def cm_rows (Γ : Gm) (σ : Mm) : Nat × va_E := (am_rows Γ, .inl (Γ.2.2.1 0, 240, .inl (fun j => zI (σ 23 0 (j : Int)))))
def cm_moving (Γ : Gm) (σ : Mm) : Nat × va_E := (am_moving Γ, .inl (Γ.2.2.1 0, 40, .inl (fun j => zI (σ 24 0 (j : Int)))))
def cm_lengths (Γ : Gm) (σ : Mm) : Nat × va_E := (am_lengths Γ, .inl (Γ.2.2.1 0, 4, .inl (fun j => zI (σ 25 0 (j : Int)))))
def cm_texts (Γ : Gm) (σ : Mm) : Nat × va_E := (am_texts Γ, .inl (Γ.2.2.1 0, 240, .inl (fun j => zI (σ 26 0 (j : Int)))))
def cm_kindOf (Γ : Gm) (σ : Mm) : Nat × va_E := (am_kindOf Γ, .inl (Γ.2.2.1 0, 5, .inl (fun j => zI (σ 27 0 (j : Int)))))
def cm_leapOf (Γ : Gm) (σ : Mm) : Nat × va_E := (am_leapOf Γ, .inl (Γ.2.2.1 0, 5, .inl (fun j => zI (σ 28 0 (j : Int)))))
def cm_orderOf (Γ : Gm) (σ : Mm) : Nat × va_E := (am_orderOf Γ, .inl (Γ.2.2.1 0, 5, .inl (fun j => zI (σ 29 0 (j : Int)))))
def cm_gapOf (Γ : Gm) (σ : Mm) : Nat × va_E := (am_gapOf Γ, .inl (Γ.2.2.1 0, 5, .inl (fun j => zI (σ 30 0 (j : Int)))))
def cm_read (Γ : Gm) (σ : Mm) : Nat × va_E := (am_read Γ, .inl (Γ.2.2.1 0, 20, .inl (fun j => zI (σ 31 0 (j : Int)))))
def cm_kept (Γ : Gm) (σ : Mm) : Nat × va_E := (am_kept Γ, .inl (Γ.2.2.1 0, 63, .inl (fun j => zI (σ 32 0 (j : Int)))))
def gw (Γ : Gm) (σ : Mm) : va_W := [cL Γ σ, cRs Γ σ, cTs Γ σ, cTo Γ σ, cKs Γ σ, cTf Γ σ, cRow Γ σ 0, cRow Γ σ 1, cRow Γ σ 2, cRow Γ σ 3, cRow Γ σ 4, cRow Γ σ 5, cPl Γ σ 0, cPl Γ σ 1, cPl Γ σ 2, cPl Γ σ 3, cPl Γ σ 4, cPl Γ σ 5, cTx Γ σ 0, cTx Γ σ 1, cTx Γ σ 2, cTx Γ σ 3, cSg Γ σ 0, cSg Γ σ 1, cSg Γ σ 2, cSg Γ σ 3, cCal Γ σ 0, cCal Γ σ 1, cCal Γ σ 2, cCal Γ σ 3, cCal Γ σ 4, cCal Γ σ 5, cKp Γ σ 0, cKp Γ σ 1, cKp Γ σ 2, cKl Γ σ 0, cKl Γ σ 1, cKl Γ σ 2, cKo Γ σ 0, cKo Γ σ 1, cKo Γ σ 2, cKg Γ σ 0, cKg Γ σ 1, cKg Γ σ 2, cM Γ σ, cm_findings Γ σ, cm_sizes Γ σ, cm_rows Γ σ, cm_moving Γ σ, cm_lengths Γ σ, cm_texts Γ σ, cm_kindOf Γ σ, cm_leapOf Γ σ, cm_orderOf Γ σ, cm_gapOf Γ σ, cm_read Γ σ, cm_kept Γ σ]
theorem pL {Γ : Gm} {σ : Mm} : (gw Γ σ)[0]? = some (cL Γ σ) := rfl
theorem pRs {Γ : Gm} {σ : Mm} : (gw Γ σ)[1]? = some (cRs Γ σ) := rfl
theorem pTs {Γ : Gm} {σ : Mm} : (gw Γ σ)[2]? = some (cTs Γ σ) := rfl
theorem pTo {Γ : Gm} {σ : Mm} : (gw Γ σ)[3]? = some (cTo Γ σ) := rfl
theorem pKs {Γ : Gm} {σ : Mm} : (gw Γ σ)[4]? = some (cKs Γ σ) := rfl
theorem pTf {Γ : Gm} {σ : Mm} : (gw Γ σ)[5]? = some (cTf Γ σ) := rfl
theorem pRow {Γ : Gm} {σ : Mm} {i : Int} (h : 0 ≤ i ∧ i < 6) : (gw Γ σ)[6 + i.toNat]? = some (cRow Γ σ i) := by
  rcases (show i = 0 ∨ i = 1 ∨ i = 2 ∨ i = 3 ∨ i = 4 ∨ i = 5 by omega) with rfl | rfl | rfl | rfl | rfl | rfl <;> rfl
theorem pPl {Γ : Gm} {σ : Mm} {i : Int} (h : 0 ≤ i ∧ i < 6) : (gw Γ σ)[12 + i.toNat]? = some (cPl Γ σ i) := by
  rcases (show i = 0 ∨ i = 1 ∨ i = 2 ∨ i = 3 ∨ i = 4 ∨ i = 5 by omega) with rfl | rfl | rfl | rfl | rfl | rfl <;> rfl
theorem pTx {Γ : Gm} {σ : Mm} {i : Int} (h : 0 ≤ i ∧ i < 4) : (gw Γ σ)[18 + i.toNat]? = some (cTx Γ σ i) := by
  rcases (show i = 0 ∨ i = 1 ∨ i = 2 ∨ i = 3 by omega) with rfl | rfl | rfl | rfl <;> rfl
theorem pSg {Γ : Gm} {σ : Mm} {i : Int} (h : 0 ≤ i ∧ i < 4) : (gw Γ σ)[22 + i.toNat]? = some (cSg Γ σ i) := by
  rcases (show i = 0 ∨ i = 1 ∨ i = 2 ∨ i = 3 by omega) with rfl | rfl | rfl | rfl <;> rfl
theorem pCal {Γ : Gm} {σ : Mm} {i : Int} (h : 0 ≤ i ∧ i < 6) : (gw Γ σ)[26 + i.toNat]? = some (cCal Γ σ i) := by
  rcases (show i = 0 ∨ i = 1 ∨ i = 2 ∨ i = 3 ∨ i = 4 ∨ i = 5 by omega) with rfl | rfl | rfl | rfl | rfl | rfl <;> rfl
theorem pKp {Γ : Gm} {σ : Mm} {i : Int} (h : 0 ≤ i ∧ i < 3) : (gw Γ σ)[32 + i.toNat]? = some (cKp Γ σ i) := by
  rcases (show i = 0 ∨ i = 1 ∨ i = 2 by omega) with rfl | rfl | rfl <;> rfl
theorem pKl {Γ : Gm} {σ : Mm} {i : Int} (h : 0 ≤ i ∧ i < 3) : (gw Γ σ)[35 + i.toNat]? = some (cKl Γ σ i) := by
  rcases (show i = 0 ∨ i = 1 ∨ i = 2 by omega) with rfl | rfl | rfl <;> rfl
theorem pKo {Γ : Gm} {σ : Mm} {i : Int} (h : 0 ≤ i ∧ i < 3) : (gw Γ σ)[38 + i.toNat]? = some (cKo Γ σ i) := by
  rcases (show i = 0 ∨ i = 1 ∨ i = 2 by omega) with rfl | rfl | rfl <;> rfl
theorem pKg {Γ : Gm} {σ : Mm} {i : Int} (h : 0 ≤ i ∧ i < 3) : (gw Γ σ)[41 + i.toNat]? = some (cKg Γ σ i) := by
  rcases (show i = 0 ∨ i = 1 ∨ i = 2 by omega) with rfl | rfl | rfl <;> rfl
theorem pM {Γ : Gm} {σ : Mm} : (gw Γ σ)[44]? = some (cM Γ σ) := rfl
theorem pm_findings {Γ : Gm} {σ : Mm} : (gw Γ σ)[45]? = some (cm_findings Γ σ) := rfl
theorem pm_sizes {Γ : Gm} {σ : Mm} : (gw Γ σ)[46]? = some (cm_sizes Γ σ) := rfl
theorem pm_rows {Γ : Gm} {σ : Mm} : (gw Γ σ)[47]? = some (cm_rows Γ σ) := rfl
theorem pm_moving {Γ : Gm} {σ : Mm} : (gw Γ σ)[48]? = some (cm_moving Γ σ) := rfl
theorem pm_lengths {Γ : Gm} {σ : Mm} : (gw Γ σ)[49]? = some (cm_lengths Γ σ) := rfl
theorem pm_texts {Γ : Gm} {σ : Mm} : (gw Γ σ)[50]? = some (cm_texts Γ σ) := rfl
theorem pm_kindOf {Γ : Gm} {σ : Mm} : (gw Γ σ)[51]? = some (cm_kindOf Γ σ) := rfl
theorem pm_leapOf {Γ : Gm} {σ : Mm} : (gw Γ σ)[52]? = some (cm_leapOf Γ σ) := rfl
theorem pm_orderOf {Γ : Gm} {σ : Mm} : (gw Γ σ)[53]? = some (cm_orderOf Γ σ) := rfl
theorem pm_gapOf {Γ : Gm} {σ : Mm} : (gw Γ σ)[54]? = some (cm_gapOf Γ σ) := rfl
theorem pm_read {Γ : Gm} {σ : Mm} : (gw Γ σ)[55]? = some (cm_read Γ σ) := rfl
theorem pm_kept {Γ : Gm} {σ : Mm} : (gw Γ σ)[56]? = some (cm_kept Γ σ) := rfl
theorem up_arr (σ : Mm) (t : Nat) (i : Int) {z v : Int} (hz : 0 ≤ z) : upd (fun j : Nat => zI (σ t i (j : Int))) z.toNat (zI v) = fun j : Nat => zI (up σ t i z v t i (j : Int)) := by
  funext j
  unfold upd up
  by_cases q : j = z.toNat
  · have q2 : (j : Int) = z := by omega
    rw [if_pos q, if_pos ⟨rfl, rfl, q2⟩]
  · have q2 : ¬ (j : Int) = z := by omega
    rw [if_neg q, if_neg (fun h => q2 h.2.2)]
theorem sL_6 {Γ : Gm} {σ : Mm} {v : Int} : (gw Γ σ).set 0 (aL Γ, .inr (4, [.ref (aRs Γ), .ref (aTs Γ), .ref (aTo Γ), .ref (aKs Γ), .ref (aCal Γ 5), .ref (aTf Γ), .int (zI v), .int (zI (σ 0 0 7)), .int (zI (σ 0 0 8)), .long (zL (σ 0 0 9)), .long (zL (σ 0 0 10)), .int (zI (σ 0 0 11))])) = gw Γ (up σ 0 0 6 v) := rfl
theorem sL_7 {Γ : Gm} {σ : Mm} {v : Int} : (gw Γ σ).set 0 (aL Γ, .inr (4, [.ref (aRs Γ), .ref (aTs Γ), .ref (aTo Γ), .ref (aKs Γ), .ref (aCal Γ 5), .ref (aTf Γ), .int (zI (σ 0 0 6)), .int (zI v), .int (zI (σ 0 0 8)), .long (zL (σ 0 0 9)), .long (zL (σ 0 0 10)), .int (zI (σ 0 0 11))])) = gw Γ (up σ 0 0 7 v) := rfl
theorem sL_8 {Γ : Gm} {σ : Mm} {v : Int} : (gw Γ σ).set 0 (aL Γ, .inr (4, [.ref (aRs Γ), .ref (aTs Γ), .ref (aTo Γ), .ref (aKs Γ), .ref (aCal Γ 5), .ref (aTf Γ), .int (zI (σ 0 0 6)), .int (zI (σ 0 0 7)), .int (zI v), .long (zL (σ 0 0 9)), .long (zL (σ 0 0 10)), .int (zI (σ 0 0 11))])) = gw Γ (up σ 0 0 8 v) := rfl
theorem sL_9 {Γ : Gm} {σ : Mm} {v : Int} : (gw Γ σ).set 0 (aL Γ, .inr (4, [.ref (aRs Γ), .ref (aTs Γ), .ref (aTo Γ), .ref (aKs Γ), .ref (aCal Γ 5), .ref (aTf Γ), .int (zI (σ 0 0 6)), .int (zI (σ 0 0 7)), .int (zI (σ 0 0 8)), .long (zL v), .long (zL (σ 0 0 10)), .int (zI (σ 0 0 11))])) = gw Γ (up σ 0 0 9 v) := rfl
theorem sL_10 {Γ : Gm} {σ : Mm} {v : Int} : (gw Γ σ).set 0 (aL Γ, .inr (4, [.ref (aRs Γ), .ref (aTs Γ), .ref (aTo Γ), .ref (aKs Γ), .ref (aCal Γ 5), .ref (aTf Γ), .int (zI (σ 0 0 6)), .int (zI (σ 0 0 7)), .int (zI (σ 0 0 8)), .long (zL (σ 0 0 9)), .long (zL v), .int (zI (σ 0 0 11))])) = gw Γ (up σ 0 0 10 v) := rfl
theorem sL_11 {Γ : Gm} {σ : Mm} {v : Int} : (gw Γ σ).set 0 (aL Γ, .inr (4, [.ref (aRs Γ), .ref (aTs Γ), .ref (aTo Γ), .ref (aKs Γ), .ref (aCal Γ 5), .ref (aTf Γ), .int (zI (σ 0 0 6)), .int (zI (σ 0 0 7)), .int (zI (σ 0 0 8)), .long (zL (σ 0 0 9)), .long (zL (σ 0 0 10)), .int (zI v)])) = gw Γ (up σ 0 0 11 v) := rfl
theorem sRow_1 {Γ : Gm} {σ : Mm} {i v : Int} (h : 0 ≤ i ∧ i < 6) : (gw Γ σ).set (6 + i.toNat) (aRow Γ i, .inr (2, [.ref (aPl Γ i), .int (zI v)])) = gw Γ (up σ 2 i 1 v) := by
  rcases (show i = 0 ∨ i = 1 ∨ i = 2 ∨ i = 3 ∨ i = 4 ∨ i = 5 by omega) with rfl | rfl | rfl | rfl | rfl | rfl <;> rfl
theorem sTx_1 {Γ : Gm} {σ : Mm} {i v : Int} (h : 0 ≤ i ∧ i < 4) : (gw Γ σ).set (18 + i.toNat) (aTx Γ i, .inr (3, [.ref (aSg Γ i), .int (zI v)])) = gw Γ (up σ 4 i 1 v) := by
  rcases (show i = 0 ∨ i = 1 ∨ i = 2 ∨ i = 3 by omega) with rfl | rfl | rfl | rfl <;> rfl
theorem sCal_0 {Γ : Gm} {σ : Mm} {i v : Int} (h : 0 ≤ i ∧ i < 6) : (gw Γ σ).set (26 + i.toNat) (aCal Γ i, .inr (0, [.int (zI v), .int (zI (σ 6 i 1)), .int (zI (σ 6 i 2)), .int (zI (σ 6 i 3))])) = gw Γ (up σ 6 i 0 v) := by
  rcases (show i = 0 ∨ i = 1 ∨ i = 2 ∨ i = 3 ∨ i = 4 ∨ i = 5 by omega) with rfl | rfl | rfl | rfl | rfl | rfl <;> rfl
theorem sCal_1 {Γ : Gm} {σ : Mm} {i v : Int} (h : 0 ≤ i ∧ i < 6) : (gw Γ σ).set (26 + i.toNat) (aCal Γ i, .inr (0, [.int (zI (σ 6 i 0)), .int (zI v), .int (zI (σ 6 i 2)), .int (zI (σ 6 i 3))])) = gw Γ (up σ 6 i 1 v) := by
  rcases (show i = 0 ∨ i = 1 ∨ i = 2 ∨ i = 3 ∨ i = 4 ∨ i = 5 by omega) with rfl | rfl | rfl | rfl | rfl | rfl <;> rfl
theorem sCal_2 {Γ : Gm} {σ : Mm} {i v : Int} (h : 0 ≤ i ∧ i < 6) : (gw Γ σ).set (26 + i.toNat) (aCal Γ i, .inr (0, [.int (zI (σ 6 i 0)), .int (zI (σ 6 i 1)), .int (zI v), .int (zI (σ 6 i 3))])) = gw Γ (up σ 6 i 2 v) := by
  rcases (show i = 0 ∨ i = 1 ∨ i = 2 ∨ i = 3 ∨ i = 4 ∨ i = 5 by omega) with rfl | rfl | rfl | rfl | rfl | rfl <;> rfl
theorem sCal_3 {Γ : Gm} {σ : Mm} {i v : Int} (h : 0 ≤ i ∧ i < 6) : (gw Γ σ).set (26 + i.toNat) (aCal Γ i, .inr (0, [.int (zI (σ 6 i 0)), .int (zI (σ 6 i 1)), .int (zI (σ 6 i 2)), .int (zI v)])) = gw Γ (up σ 6 i 3 v) := by
  rcases (show i = 0 ∨ i = 1 ∨ i = 2 ∨ i = 3 ∨ i = 4 ∨ i = 5 by omega) with rfl | rfl | rfl | rfl | rfl | rfl <;> rfl
theorem sKp_3 {Γ : Gm} {σ : Mm} {i v : Int} (h : 0 ≤ i ∧ i < 3) : (gw Γ σ).set (32 + i.toNat) (aKp Γ i, .inr (1, [.ref (aKl Γ i), .ref (aKo Γ i), .ref (aKg Γ i), .int (zI v), .int (zI (σ 7 i 4))])) = gw Γ (up σ 7 i 3 v) := by
  rcases (show i = 0 ∨ i = 1 ∨ i = 2 by omega) with rfl | rfl | rfl <;> rfl
theorem sKp_4 {Γ : Gm} {σ : Mm} {i v : Int} (h : 0 ≤ i ∧ i < 3) : (gw Γ σ).set (32 + i.toNat) (aKp Γ i, .inr (1, [.ref (aKl Γ i), .ref (aKo Γ i), .ref (aKg Γ i), .int (zI (σ 7 i 3)), .int (zI v)])) = gw Γ (up σ 7 i 4 v) := by
  rcases (show i = 0 ∨ i = 1 ∨ i = 2 by omega) with rfl | rfl | rfl <;> rfl
theorem sM_0 {Γ : Gm} {σ : Mm} {v : Int} : (gw Γ σ).set 44 (aM Γ, .inr (5, [.int (zI v), .ref (am_findings Γ), .int (zI (σ 20 0 2)), .long (zL (σ 20 0 3)), .long (zL (σ 20 0 4)), .ref (am_sizes Γ), .ref (am_rows Γ), .ref (am_moving Γ), .ref (am_lengths Γ), .ref (am_texts Γ), .int (zI (σ 20 0 10)), .int (zI (σ 20 0 11)), .ref (am_kindOf Γ), .ref (am_leapOf Γ), .ref (am_orderOf Γ), .ref (am_gapOf Γ), .int (zI (σ 20 0 16)), .int (zI (σ 20 0 17)), .ref (am_read Γ), .int (zI (σ 20 0 19)), .int (zI (σ 20 0 20)), .int (zI (σ 20 0 21)), .int (zI (σ 20 0 22)), .ref (am_kept Γ), .long (zL (σ 20 0 24))])) = gw Γ (up σ 20 0 0 v) := rfl
theorem sM_2 {Γ : Gm} {σ : Mm} {v : Int} : (gw Γ σ).set 44 (aM Γ, .inr (5, [.int (zI (σ 20 0 0)), .ref (am_findings Γ), .int (zI v), .long (zL (σ 20 0 3)), .long (zL (σ 20 0 4)), .ref (am_sizes Γ), .ref (am_rows Γ), .ref (am_moving Γ), .ref (am_lengths Γ), .ref (am_texts Γ), .int (zI (σ 20 0 10)), .int (zI (σ 20 0 11)), .ref (am_kindOf Γ), .ref (am_leapOf Γ), .ref (am_orderOf Γ), .ref (am_gapOf Γ), .int (zI (σ 20 0 16)), .int (zI (σ 20 0 17)), .ref (am_read Γ), .int (zI (σ 20 0 19)), .int (zI (σ 20 0 20)), .int (zI (σ 20 0 21)), .int (zI (σ 20 0 22)), .ref (am_kept Γ), .long (zL (σ 20 0 24))])) = gw Γ (up σ 20 0 2 v) := rfl
theorem sM_3 {Γ : Gm} {σ : Mm} {v : Int} : (gw Γ σ).set 44 (aM Γ, .inr (5, [.int (zI (σ 20 0 0)), .ref (am_findings Γ), .int (zI (σ 20 0 2)), .long (zL v), .long (zL (σ 20 0 4)), .ref (am_sizes Γ), .ref (am_rows Γ), .ref (am_moving Γ), .ref (am_lengths Γ), .ref (am_texts Γ), .int (zI (σ 20 0 10)), .int (zI (σ 20 0 11)), .ref (am_kindOf Γ), .ref (am_leapOf Γ), .ref (am_orderOf Γ), .ref (am_gapOf Γ), .int (zI (σ 20 0 16)), .int (zI (σ 20 0 17)), .ref (am_read Γ), .int (zI (σ 20 0 19)), .int (zI (σ 20 0 20)), .int (zI (σ 20 0 21)), .int (zI (σ 20 0 22)), .ref (am_kept Γ), .long (zL (σ 20 0 24))])) = gw Γ (up σ 20 0 3 v) := rfl
theorem sM_4 {Γ : Gm} {σ : Mm} {v : Int} : (gw Γ σ).set 44 (aM Γ, .inr (5, [.int (zI (σ 20 0 0)), .ref (am_findings Γ), .int (zI (σ 20 0 2)), .long (zL (σ 20 0 3)), .long (zL v), .ref (am_sizes Γ), .ref (am_rows Γ), .ref (am_moving Γ), .ref (am_lengths Γ), .ref (am_texts Γ), .int (zI (σ 20 0 10)), .int (zI (σ 20 0 11)), .ref (am_kindOf Γ), .ref (am_leapOf Γ), .ref (am_orderOf Γ), .ref (am_gapOf Γ), .int (zI (σ 20 0 16)), .int (zI (σ 20 0 17)), .ref (am_read Γ), .int (zI (σ 20 0 19)), .int (zI (σ 20 0 20)), .int (zI (σ 20 0 21)), .int (zI (σ 20 0 22)), .ref (am_kept Γ), .long (zL (σ 20 0 24))])) = gw Γ (up σ 20 0 4 v) := rfl
theorem sM_10 {Γ : Gm} {σ : Mm} {v : Int} : (gw Γ σ).set 44 (aM Γ, .inr (5, [.int (zI (σ 20 0 0)), .ref (am_findings Γ), .int (zI (σ 20 0 2)), .long (zL (σ 20 0 3)), .long (zL (σ 20 0 4)), .ref (am_sizes Γ), .ref (am_rows Γ), .ref (am_moving Γ), .ref (am_lengths Γ), .ref (am_texts Γ), .int (zI v), .int (zI (σ 20 0 11)), .ref (am_kindOf Γ), .ref (am_leapOf Γ), .ref (am_orderOf Γ), .ref (am_gapOf Γ), .int (zI (σ 20 0 16)), .int (zI (σ 20 0 17)), .ref (am_read Γ), .int (zI (σ 20 0 19)), .int (zI (σ 20 0 20)), .int (zI (σ 20 0 21)), .int (zI (σ 20 0 22)), .ref (am_kept Γ), .long (zL (σ 20 0 24))])) = gw Γ (up σ 20 0 10 v) := rfl
theorem sM_11 {Γ : Gm} {σ : Mm} {v : Int} : (gw Γ σ).set 44 (aM Γ, .inr (5, [.int (zI (σ 20 0 0)), .ref (am_findings Γ), .int (zI (σ 20 0 2)), .long (zL (σ 20 0 3)), .long (zL (σ 20 0 4)), .ref (am_sizes Γ), .ref (am_rows Γ), .ref (am_moving Γ), .ref (am_lengths Γ), .ref (am_texts Γ), .int (zI (σ 20 0 10)), .int (zI v), .ref (am_kindOf Γ), .ref (am_leapOf Γ), .ref (am_orderOf Γ), .ref (am_gapOf Γ), .int (zI (σ 20 0 16)), .int (zI (σ 20 0 17)), .ref (am_read Γ), .int (zI (σ 20 0 19)), .int (zI (σ 20 0 20)), .int (zI (σ 20 0 21)), .int (zI (σ 20 0 22)), .ref (am_kept Γ), .long (zL (σ 20 0 24))])) = gw Γ (up σ 20 0 11 v) := rfl
theorem sM_16 {Γ : Gm} {σ : Mm} {v : Int} : (gw Γ σ).set 44 (aM Γ, .inr (5, [.int (zI (σ 20 0 0)), .ref (am_findings Γ), .int (zI (σ 20 0 2)), .long (zL (σ 20 0 3)), .long (zL (σ 20 0 4)), .ref (am_sizes Γ), .ref (am_rows Γ), .ref (am_moving Γ), .ref (am_lengths Γ), .ref (am_texts Γ), .int (zI (σ 20 0 10)), .int (zI (σ 20 0 11)), .ref (am_kindOf Γ), .ref (am_leapOf Γ), .ref (am_orderOf Γ), .ref (am_gapOf Γ), .int (zI v), .int (zI (σ 20 0 17)), .ref (am_read Γ), .int (zI (σ 20 0 19)), .int (zI (σ 20 0 20)), .int (zI (σ 20 0 21)), .int (zI (σ 20 0 22)), .ref (am_kept Γ), .long (zL (σ 20 0 24))])) = gw Γ (up σ 20 0 16 v) := rfl
theorem sM_17 {Γ : Gm} {σ : Mm} {v : Int} : (gw Γ σ).set 44 (aM Γ, .inr (5, [.int (zI (σ 20 0 0)), .ref (am_findings Γ), .int (zI (σ 20 0 2)), .long (zL (σ 20 0 3)), .long (zL (σ 20 0 4)), .ref (am_sizes Γ), .ref (am_rows Γ), .ref (am_moving Γ), .ref (am_lengths Γ), .ref (am_texts Γ), .int (zI (σ 20 0 10)), .int (zI (σ 20 0 11)), .ref (am_kindOf Γ), .ref (am_leapOf Γ), .ref (am_orderOf Γ), .ref (am_gapOf Γ), .int (zI (σ 20 0 16)), .int (zI v), .ref (am_read Γ), .int (zI (σ 20 0 19)), .int (zI (σ 20 0 20)), .int (zI (σ 20 0 21)), .int (zI (σ 20 0 22)), .ref (am_kept Γ), .long (zL (σ 20 0 24))])) = gw Γ (up σ 20 0 17 v) := rfl
theorem sM_19 {Γ : Gm} {σ : Mm} {v : Int} : (gw Γ σ).set 44 (aM Γ, .inr (5, [.int (zI (σ 20 0 0)), .ref (am_findings Γ), .int (zI (σ 20 0 2)), .long (zL (σ 20 0 3)), .long (zL (σ 20 0 4)), .ref (am_sizes Γ), .ref (am_rows Γ), .ref (am_moving Γ), .ref (am_lengths Γ), .ref (am_texts Γ), .int (zI (σ 20 0 10)), .int (zI (σ 20 0 11)), .ref (am_kindOf Γ), .ref (am_leapOf Γ), .ref (am_orderOf Γ), .ref (am_gapOf Γ), .int (zI (σ 20 0 16)), .int (zI (σ 20 0 17)), .ref (am_read Γ), .int (zI v), .int (zI (σ 20 0 20)), .int (zI (σ 20 0 21)), .int (zI (σ 20 0 22)), .ref (am_kept Γ), .long (zL (σ 20 0 24))])) = gw Γ (up σ 20 0 19 v) := rfl
theorem sM_20 {Γ : Gm} {σ : Mm} {v : Int} : (gw Γ σ).set 44 (aM Γ, .inr (5, [.int (zI (σ 20 0 0)), .ref (am_findings Γ), .int (zI (σ 20 0 2)), .long (zL (σ 20 0 3)), .long (zL (σ 20 0 4)), .ref (am_sizes Γ), .ref (am_rows Γ), .ref (am_moving Γ), .ref (am_lengths Γ), .ref (am_texts Γ), .int (zI (σ 20 0 10)), .int (zI (σ 20 0 11)), .ref (am_kindOf Γ), .ref (am_leapOf Γ), .ref (am_orderOf Γ), .ref (am_gapOf Γ), .int (zI (σ 20 0 16)), .int (zI (σ 20 0 17)), .ref (am_read Γ), .int (zI (σ 20 0 19)), .int (zI v), .int (zI (σ 20 0 21)), .int (zI (σ 20 0 22)), .ref (am_kept Γ), .long (zL (σ 20 0 24))])) = gw Γ (up σ 20 0 20 v) := rfl
theorem sM_21 {Γ : Gm} {σ : Mm} {v : Int} : (gw Γ σ).set 44 (aM Γ, .inr (5, [.int (zI (σ 20 0 0)), .ref (am_findings Γ), .int (zI (σ 20 0 2)), .long (zL (σ 20 0 3)), .long (zL (σ 20 0 4)), .ref (am_sizes Γ), .ref (am_rows Γ), .ref (am_moving Γ), .ref (am_lengths Γ), .ref (am_texts Γ), .int (zI (σ 20 0 10)), .int (zI (σ 20 0 11)), .ref (am_kindOf Γ), .ref (am_leapOf Γ), .ref (am_orderOf Γ), .ref (am_gapOf Γ), .int (zI (σ 20 0 16)), .int (zI (σ 20 0 17)), .ref (am_read Γ), .int (zI (σ 20 0 19)), .int (zI (σ 20 0 20)), .int (zI v), .int (zI (σ 20 0 22)), .ref (am_kept Γ), .long (zL (σ 20 0 24))])) = gw Γ (up σ 20 0 21 v) := rfl
theorem sM_22 {Γ : Gm} {σ : Mm} {v : Int} : (gw Γ σ).set 44 (aM Γ, .inr (5, [.int (zI (σ 20 0 0)), .ref (am_findings Γ), .int (zI (σ 20 0 2)), .long (zL (σ 20 0 3)), .long (zL (σ 20 0 4)), .ref (am_sizes Γ), .ref (am_rows Γ), .ref (am_moving Γ), .ref (am_lengths Γ), .ref (am_texts Γ), .int (zI (σ 20 0 10)), .int (zI (σ 20 0 11)), .ref (am_kindOf Γ), .ref (am_leapOf Γ), .ref (am_orderOf Γ), .ref (am_gapOf Γ), .int (zI (σ 20 0 16)), .int (zI (σ 20 0 17)), .ref (am_read Γ), .int (zI (σ 20 0 19)), .int (zI (σ 20 0 20)), .int (zI (σ 20 0 21)), .int (zI v), .ref (am_kept Γ), .long (zL (σ 20 0 24))])) = gw Γ (up σ 20 0 22 v) := rfl
theorem sM_24 {Γ : Gm} {σ : Mm} {v : Int} : (gw Γ σ).set 44 (aM Γ, .inr (5, [.int (zI (σ 20 0 0)), .ref (am_findings Γ), .int (zI (σ 20 0 2)), .long (zL (σ 20 0 3)), .long (zL (σ 20 0 4)), .ref (am_sizes Γ), .ref (am_rows Γ), .ref (am_moving Γ), .ref (am_lengths Γ), .ref (am_texts Γ), .int (zI (σ 20 0 10)), .int (zI (σ 20 0 11)), .ref (am_kindOf Γ), .ref (am_leapOf Γ), .ref (am_orderOf Γ), .ref (am_gapOf Γ), .int (zI (σ 20 0 16)), .int (zI (σ 20 0 17)), .ref (am_read Γ), .int (zI (σ 20 0 19)), .int (zI (σ 20 0 20)), .int (zI (σ 20 0 21)), .int (zI (σ 20 0 22)), .ref (am_kept Γ), .long (zL v)])) = gw Γ (up σ 20 0 24 v) := rfl
theorem sTf {Γ : Gm} {σ : Mm} {z v : Int} : (gw Γ σ).set 5 (aTf Γ, .inl (Γ.2.2.1 0, 6, .inl (fun j : Nat => zI (up σ 1 0 z v 1 0 (j : Int))))) = gw Γ (up σ 1 0 z v) := rfl
theorem sPl {Γ : Gm} {σ : Mm} {i z v : Int} (h : 0 ≤ i ∧ i < 6) : (gw Γ σ).set (12 + i.toNat) (aPl Γ i, .inl (Γ.2.2.1 0, 40, .inl (fun j : Nat => zI (up σ 3 i z v 3 i (j : Int))))) = gw Γ (up σ 3 i z v) := by
  rcases (show i = 0 ∨ i = 1 ∨ i = 2 ∨ i = 3 ∨ i = 4 ∨ i = 5 by omega) with rfl | rfl | rfl | rfl | rfl | rfl <;> rfl
theorem sSg {Γ : Gm} {σ : Mm} {i z v : Int} (h : 0 ≤ i ∧ i < 4) : (gw Γ σ).set (22 + i.toNat) (aSg Γ i, .inl (Γ.2.2.1 1, 60, .inl (fun j : Nat => zI (up σ 5 i z v 5 i (j : Int))))) = gw Γ (up σ 5 i z v) := by
  rcases (show i = 0 ∨ i = 1 ∨ i = 2 ∨ i = 3 by omega) with rfl | rfl | rfl | rfl <;> rfl
theorem sKl {Γ : Gm} {σ : Mm} {i z v : Int} (h : 0 ≤ i ∧ i < 3) : (gw Γ σ).set (35 + i.toNat) (aKl Γ i, .inl (Γ.2.2.1 0, 5, .inl (fun j : Nat => zI (up σ 8 i z v 8 i (j : Int))))) = gw Γ (up σ 8 i z v) := by
  rcases (show i = 0 ∨ i = 1 ∨ i = 2 by omega) with rfl | rfl | rfl <;> rfl
theorem sKo {Γ : Gm} {σ : Mm} {i z v : Int} (h : 0 ≤ i ∧ i < 3) : (gw Γ σ).set (38 + i.toNat) (aKo Γ i, .inl (Γ.2.2.1 0, 5, .inl (fun j : Nat => zI (up σ 9 i z v 9 i (j : Int))))) = gw Γ (up σ 9 i z v) := by
  rcases (show i = 0 ∨ i = 1 ∨ i = 2 by omega) with rfl | rfl | rfl <;> rfl
theorem sKg {Γ : Gm} {σ : Mm} {i z v : Int} (h : 0 ≤ i ∧ i < 3) : (gw Γ σ).set (41 + i.toNat) (aKg Γ i, .inl (Γ.2.2.1 0, 5, .inl (fun j : Nat => zI (up σ 10 i z v 10 i (j : Int))))) = gw Γ (up σ 10 i z v) := by
  rcases (show i = 0 ∨ i = 1 ∨ i = 2 by omega) with rfl | rfl | rfl <;> rfl
theorem sm_findings {Γ : Gm} {σ : Mm} {z v : Int} : (gw Γ σ).set 45 (am_findings Γ, .inl (Γ.2.2.1 0, 6, .inl (fun j : Nat => zI (up σ 21 0 z v 21 0 (j : Int))))) = gw Γ (up σ 21 0 z v) := rfl
theorem sm_sizes {Γ : Gm} {σ : Mm} {z v : Int} : (gw Γ σ).set 46 (am_sizes Γ, .inl (Γ.2.2.1 0, 6, .inl (fun j : Nat => zI (up σ 22 0 z v 22 0 (j : Int))))) = gw Γ (up σ 22 0 z v) := rfl
theorem sm_rows {Γ : Gm} {σ : Mm} {z v : Int} : (gw Γ σ).set 47 (am_rows Γ, .inl (Γ.2.2.1 0, 240, .inl (fun j : Nat => zI (up σ 23 0 z v 23 0 (j : Int))))) = gw Γ (up σ 23 0 z v) := rfl
theorem sm_moving {Γ : Gm} {σ : Mm} {z v : Int} : (gw Γ σ).set 48 (am_moving Γ, .inl (Γ.2.2.1 0, 40, .inl (fun j : Nat => zI (up σ 24 0 z v 24 0 (j : Int))))) = gw Γ (up σ 24 0 z v) := rfl
theorem sm_lengths {Γ : Gm} {σ : Mm} {z v : Int} : (gw Γ σ).set 49 (am_lengths Γ, .inl (Γ.2.2.1 0, 4, .inl (fun j : Nat => zI (up σ 25 0 z v 25 0 (j : Int))))) = gw Γ (up σ 25 0 z v) := rfl
theorem sm_texts {Γ : Gm} {σ : Mm} {z v : Int} : (gw Γ σ).set 50 (am_texts Γ, .inl (Γ.2.2.1 0, 240, .inl (fun j : Nat => zI (up σ 26 0 z v 26 0 (j : Int))))) = gw Γ (up σ 26 0 z v) := rfl
theorem sm_kindOf {Γ : Gm} {σ : Mm} {z v : Int} : (gw Γ σ).set 51 (am_kindOf Γ, .inl (Γ.2.2.1 0, 5, .inl (fun j : Nat => zI (up σ 27 0 z v 27 0 (j : Int))))) = gw Γ (up σ 27 0 z v) := rfl
theorem sm_leapOf {Γ : Gm} {σ : Mm} {z v : Int} : (gw Γ σ).set 52 (am_leapOf Γ, .inl (Γ.2.2.1 0, 5, .inl (fun j : Nat => zI (up σ 28 0 z v 28 0 (j : Int))))) = gw Γ (up σ 28 0 z v) := rfl
theorem sm_orderOf {Γ : Gm} {σ : Mm} {z v : Int} : (gw Γ σ).set 53 (am_orderOf Γ, .inl (Γ.2.2.1 0, 5, .inl (fun j : Nat => zI (up σ 29 0 z v 29 0 (j : Int))))) = gw Γ (up σ 29 0 z v) := rfl
theorem sm_gapOf {Γ : Gm} {σ : Mm} {z v : Int} : (gw Γ σ).set 54 (am_gapOf Γ, .inl (Γ.2.2.1 0, 5, .inl (fun j : Nat => zI (up σ 30 0 z v 30 0 (j : Int))))) = gw Γ (up σ 30 0 z v) := rfl
theorem sm_read {Γ : Gm} {σ : Mm} {z v : Int} : (gw Γ σ).set 55 (am_read Γ, .inl (Γ.2.2.1 0, 20, .inl (fun j : Nat => zI (up σ 31 0 z v 31 0 (j : Int))))) = gw Γ (up σ 31 0 z v) := rfl
theorem sm_kept {Γ : Gm} {σ : Mm} {z v : Int} : (gw Γ σ).set 56 (am_kept Γ, .inl (Γ.2.2.1 0, 63, .inl (fun j : Nat => zI (up σ 32 0 z v 32 0 (j : Int))))) = gw Γ (up σ 32 0 z v) := rfl
