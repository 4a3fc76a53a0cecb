/-! ===== Inv before the first order ===== -/
/-- the ints, the longs, the references behind both constructors -/
def xI_0 (I : zI) : zI := xI_101_75 (zup1 (xI_53c (xI_53b (xI_53a (zup1 I 0 zzf)))) 75 zzf)
def xJ_0 (J : zJ) : zJ := xJ_101_75 (zup1 (xJ_53c (xJ_53b (xJ_53a (zup1 J 0 zzl)))) 75 zzl)
def xR_0 : zR := xR_101_75 (zup1 (xR_53c (xR_53b (xR_53a (zup1 (fun _ => zzr) 0 zzr)))) 75 zzr)
theorem xR_0_ok : (∀ q ∈ qrefs, xR_0 q.1 q.2.1 = some q.2.2) ∧ xR_0 5 8 = some 1 ∧ xR_0 12 8 = some 1 ∧ xR_0 19 8 = some 1 ∧ xR_0 61 3 = none := by decide +kernel
theorem iR_0 {h : Int} (q : 0 ≤ h) {j : Nat} : iR (zzf j) 0 h := ⟨Int.le_refl 0, q⟩
theorem iSd_0 : iSd 0 0 0 0 0 0 0 zzf zzf zzf zzf zzf zzf zzf zzf zzf zzf :=
  ⟨⟨rfl, rfl, rfl⟩, ⟨rfl, rfl, rfl, rfl, rfl⟩, ⟨0, by decide, rfl⟩, ⟨0, by decide, rfl⟩, ⟨0, by decide, rfl⟩, ⟨fun _ => iR_0 (by decide), fun _ => iR_0 (by decide), fun _ => iR_0 (by decide), fun _ => iR_0 (by decide), fun _ => iR_0 (by decide)⟩, ⟨fun _ _ => rfl, fun _ _ => rfl, fun _ _ => rfl, fun _ _ => rfl, fun _ _ => rfl⟩⟩
theorem iNt_0 : iNt 0 0 0 0 0 0 0 zzf zzf zzf zzf zzf zzf zzf zzf :=
  ⟨⟨rfl, rfl, rfl⟩, ⟨rfl, rfl, rfl, rfl⟩, ⟨0, by decide, rfl⟩, ⟨0, by decide, rfl⟩, ⟨0, by decide, rfl, fun _ h => absurd h (by omega)⟩, ⟨fun _ => iR_0 (by decide), fun _ => .inl rfl, fun _ => iR_0 (by decide)⟩, ⟨fun _ _ => rfl, fun _ _ => rfl, fun _ _ => rfl, fun _ _ => rfl⟩⟩
theorem iTx_0 : iTx 0 0 zzf zzf := ⟨⟨rfl, 0, by decide, rfl⟩, rfl, fun _ => iR_0 (by decide)⟩
def r89 : Nat → Int32 := (va_up (va_up (va_up (va_up (va_up (va_up (va_up (va_up (va_up (va_up (va_up (va_up (va_up (va_up (va_up (va_up (va_up (va_up (va_up (va_up (va_up (va_up (va_up (va_up (va_up zzf 0 111) 1 118) 2 101) 3 114) 4 117) 5 110) 6 100) 7 101) 8 114) 9 103) 10 105) 11 118) 12 101) 13 108) 14 101) 15 97) 16 118) 17 101) 18 104) 19 97) 20 108) 21 102) 22 97) 23 108) 24 108)
def r107 : Nat → Int32 := (va_up (va_up (va_up (va_up (va_up (va_up zzf 0 (-1)) 1 (-1)) 2 (-1)) 3 (-1)) 4 (-1)) 5 (-1))
theorem r89_a : ∀ j, j < 25 → r89 j = ([111, 118, 101, 114, 117, 110, 100, 101, 114, 103, 105, 118, 101, 108, 101, 97, 118, 101, 104, 97, 108, 102, 97, 108, 108] : List Int32).getD j 0 := by decide +kernel
theorem r107_a : ∀ j, j < 6 → r107 j = -1 := by decide +kernel
theorem va_up_n2 {α : Type} {f : Nat → α} {j b : Nat} {x : α} (h : b ≠ j) : va_up f j x b = f b := by
  unfold va_up
  exact if_neg h
theorem r89_b : r89 = fun j => ([111, 118, 101, 114, 117, 110, 100, 101, 114, 103, 105, 118, 101, 108, 101, 97, 118, 101, 104, 97, 108, 102, 97, 108, 108] : List Int32).getD j 0 := by
  funext j
  by_cases h : j < 25
  · exact r89_a j h
  · show r89 j = (([111, 118, 101, 114, 117, 110, 100, 101, 114, 103, 105, 118, 101, 108, 101, 97, 118, 101, 104, 97, 108, 102, 97, 108, 108] : List Int32)[j]?).getD 0
    rw [List.getElem?_eq_none (Nat.le_of_not_lt h)]
    unfold r89
    iterate 25 rw [va_up_n2 (by omega)]
    rfl
theorem q_25 : (0 : Int32).toNatClampNeg = 0 ∧ (1 : Int32).toNatClampNeg = 1 ∧ (2 : Int32).toNatClampNeg = 2 ∧ (3 : Int32).toNatClampNeg = 3 ∧ (4 : Int32).toNatClampNeg = 4 ∧ (5 : Int32).toNatClampNeg = 5 ∧ (6 : Int32).toNatClampNeg = 6 ∧ (7 : Int32).toNatClampNeg = 7 ∧ (8 : Int32).toNatClampNeg = 8 ∧ (9 : Int32).toNatClampNeg = 9 ∧ (10 : Int32).toNatClampNeg = 10 ∧ (11 : Int32).toNatClampNeg = 11 ∧ (12 : Int32).toNatClampNeg = 12 ∧ (13 : Int32).toNatClampNeg = 13 ∧ (14 : Int32).toNatClampNeg = 14 ∧ (15 : Int32).toNatClampNeg = 15 ∧ (16 : Int32).toNatClampNeg = 16 ∧ (17 : Int32).toNatClampNeg = 17 ∧ (18 : Int32).toNatClampNeg = 18 ∧ (19 : Int32).toNatClampNeg = 19 ∧ (20 : Int32).toNatClampNeg = 20 ∧ (21 : Int32).toNatClampNeg = 21 ∧ (22 : Int32).toNatClampNeg = 22 ∧ (23 : Int32).toNatClampNeg = 23 ∧ (24 : Int32).toNatClampNeg = 24 := by
  refine ⟨?_, ?_, ?_, ?_, ?_, ?_, ?_, ?_, ?_, ?_, ?_, ?_, ?_, ?_, ?_, ?_, ?_, ?_, ?_, ?_, ?_, ?_, ?_, ?_, ?_⟩ <;> decide
set_option maxRecDepth 40000 in
theorem x0_0 {I : zI} : xI_0 I 5 0 = 0 := by
  simp only [↓xI_0, ↓xI_101_75, ↓xI_53c, ↓xI_53b, ↓xI_53a, ↓xI_46, ↓xI_17_61, ↓xI_0_63, ↓xI_12_26, ↓xI_12_31, ↓xI_28_5, ↓xI_28_12, ↓xI_28_19, ↓xI_6_1, ↓xI_6_37, ↓xI_6_41, ↓xI_6_45, ↓xI_6_49, ↓xI_6_53, ↓xI_6_57, ↓zup_row, ↓zup1_at, va_up, q_25, Nat.reduceEqDiff, Nat.reduceLeDiff, Nat.reduceAdd, Nat.reduceLT, false_and, and_false, ↓reduceIte, zzf]
set_option maxRecDepth 40000 in
theorem x0_1 {I : zI} : xI_0 I 5 6 = 0 := by
  simp only [↓xI_0, ↓xI_101_75, ↓xI_53c, ↓xI_53b, ↓xI_53a, ↓xI_46, ↓xI_17_61, ↓xI_0_63, ↓xI_12_26, ↓xI_12_31, ↓xI_28_5, ↓xI_28_12, ↓xI_28_19, ↓xI_6_1, ↓xI_6_37, ↓xI_6_41, ↓xI_6_45, ↓xI_6_49, ↓xI_6_53, ↓xI_6_57, ↓zup_row, ↓zup1_at, va_up, q_25, Nat.reduceEqDiff, Nat.reduceLeDiff, Nat.reduceAdd, Nat.reduceLT, false_and, and_false, ↓reduceIte, zzf]
set_option maxRecDepth 40000 in
theorem x0_2 {I : zI} : xI_0 I 5 7 = 0 := by
  simp only [↓xI_0, ↓xI_101_75, ↓xI_53c, ↓xI_53b, ↓xI_53a, ↓xI_46, ↓xI_17_61, ↓xI_0_63, ↓xI_12_26, ↓xI_12_31, ↓xI_28_5, ↓xI_28_12, ↓xI_28_19, ↓xI_6_1, ↓xI_6_37, ↓xI_6_41, ↓xI_6_45, ↓xI_6_49, ↓xI_6_53, ↓xI_6_57, ↓zup_row, ↓zup1_at, va_up, q_25, Nat.reduceEqDiff, Nat.reduceLeDiff, Nat.reduceAdd, Nat.reduceLT, false_and, and_false, ↓reduceIte, zzf]
set_option maxRecDepth 40000 in
theorem x0_3 {I : zI} : xI_0 I 75 0 = 0 := by
  simp only [↓xI_0, ↓xI_101_75, ↓xI_53c, ↓xI_53b, ↓xI_53a, ↓xI_46, ↓xI_17_61, ↓xI_0_63, ↓xI_12_26, ↓xI_12_31, ↓xI_28_5, ↓xI_28_12, ↓xI_28_19, ↓xI_6_1, ↓xI_6_37, ↓xI_6_41, ↓xI_6_45, ↓xI_6_49, ↓xI_6_53, ↓xI_6_57, ↓zup_row, ↓zup1_at, va_up, q_25, Nat.reduceEqDiff, Nat.reduceLeDiff, Nat.reduceAdd, Nat.reduceLT, false_and, and_false, ↓reduceIte, zzf]
set_option maxRecDepth 40000 in
theorem x0_4 {I : zI} : xI_0 I 75 1 = 0 := by
  simp only [↓xI_0, ↓xI_101_75, ↓xI_53c, ↓xI_53b, ↓xI_53a, ↓xI_46, ↓xI_17_61, ↓xI_0_63, ↓xI_12_26, ↓xI_12_31, ↓xI_28_5, ↓xI_28_12, ↓xI_28_19, ↓xI_6_1, ↓xI_6_37, ↓xI_6_41, ↓xI_6_45, ↓xI_6_49, ↓xI_6_53, ↓xI_6_57, ↓zup_row, ↓zup1_at, va_up, q_25, Nat.reduceEqDiff, Nat.reduceLeDiff, Nat.reduceAdd, Nat.reduceLT, false_and, and_false, ↓reduceIte, zzf]
set_option maxRecDepth 40000 in
theorem x0_5 {I : zI} : xI_0 I 75 2 = 0 := by
  simp only [↓xI_0, ↓xI_101_75, ↓xI_53c, ↓xI_53b, ↓xI_53a, ↓xI_46, ↓xI_17_61, ↓xI_0_63, ↓xI_12_26, ↓xI_12_31, ↓xI_28_5, ↓xI_28_12, ↓xI_28_19, ↓xI_6_1, ↓xI_6_37, ↓xI_6_41, ↓xI_6_45, ↓xI_6_49, ↓xI_6_53, ↓xI_6_57, ↓zup_row, ↓zup1_at, va_up, q_25, Nat.reduceEqDiff, Nat.reduceLeDiff, Nat.reduceAdd, Nat.reduceLT, false_and, and_false, ↓reduceIte, zzf]
set_option maxRecDepth 40000 in
theorem x0_6 {I : zI} : xI_0 I 12 0 = 0 := by
  simp only [↓xI_0, ↓xI_101_75, ↓xI_53c, ↓xI_53b, ↓xI_53a, ↓xI_46, ↓xI_17_61, ↓xI_0_63, ↓xI_12_26, ↓xI_12_31, ↓xI_28_5, ↓xI_28_12, ↓xI_28_19, ↓xI_6_1, ↓xI_6_37, ↓xI_6_41, ↓xI_6_45, ↓xI_6_49, ↓xI_6_53, ↓xI_6_57, ↓zup_row, ↓zup1_at, va_up, q_25, Nat.reduceEqDiff, Nat.reduceLeDiff, Nat.reduceAdd, Nat.reduceLT, false_and, and_false, ↓reduceIte, zzf]
set_option maxRecDepth 40000 in
theorem x0_7 {I : zI} : xI_0 I 12 6 = 0 := by
  simp only [↓xI_0, ↓xI_101_75, ↓xI_53c, ↓xI_53b, ↓xI_53a, ↓xI_46, ↓xI_17_61, ↓xI_0_63, ↓xI_12_26, ↓xI_12_31, ↓xI_28_5, ↓xI_28_12, ↓xI_28_19, ↓xI_6_1, ↓xI_6_37, ↓xI_6_41, ↓xI_6_45, ↓xI_6_49, ↓xI_6_53, ↓xI_6_57, ↓zup_row, ↓zup1_at, va_up, q_25, Nat.reduceEqDiff, Nat.reduceLeDiff, Nat.reduceAdd, Nat.reduceLT, false_and, and_false, ↓reduceIte, zzf]
set_option maxRecDepth 40000 in
theorem x0_8 {I : zI} : xI_0 I 12 7 = 0 := by
  simp only [↓xI_0, ↓xI_101_75, ↓xI_53c, ↓xI_53b, ↓xI_53a, ↓xI_46, ↓xI_17_61, ↓xI_0_63, ↓xI_12_26, ↓xI_12_31, ↓xI_28_5, ↓xI_28_12, ↓xI_28_19, ↓xI_6_1, ↓xI_6_37, ↓xI_6_41, ↓xI_6_45, ↓xI_6_49, ↓xI_6_53, ↓xI_6_57, ↓zup_row, ↓zup1_at, va_up, q_25, Nat.reduceEqDiff, Nat.reduceLeDiff, Nat.reduceAdd, Nat.reduceLT, false_and, and_false, ↓reduceIte, zzf]
set_option maxRecDepth 40000 in
theorem x0_9 {I : zI} : xI_0 I 75 44 = 0 := by
  simp only [↓xI_0, ↓xI_101_75, ↓xI_53c, ↓xI_53b, ↓xI_53a, ↓xI_46, ↓xI_17_61, ↓xI_0_63, ↓xI_12_26, ↓xI_12_31, ↓xI_28_5, ↓xI_28_12, ↓xI_28_19, ↓xI_6_1, ↓xI_6_37, ↓xI_6_41, ↓xI_6_45, ↓xI_6_49, ↓xI_6_53, ↓xI_6_57, ↓zup_row, ↓zup1_at, va_up, q_25, Nat.reduceEqDiff, Nat.reduceLeDiff, Nat.reduceAdd, Nat.reduceLT, false_and, and_false, ↓reduceIte, zzf]
set_option maxRecDepth 40000 in
theorem x0_10 {I : zI} : xI_0 I 75 45 = 0 := by
  simp only [↓xI_0, ↓xI_101_75, ↓xI_53c, ↓xI_53b, ↓xI_53a, ↓xI_46, ↓xI_17_61, ↓xI_0_63, ↓xI_12_26, ↓xI_12_31, ↓xI_28_5, ↓xI_28_12, ↓xI_28_19, ↓xI_6_1, ↓xI_6_37, ↓xI_6_41, ↓xI_6_45, ↓xI_6_49, ↓xI_6_53, ↓xI_6_57, ↓zup_row, ↓zup1_at, va_up, q_25, Nat.reduceEqDiff, Nat.reduceLeDiff, Nat.reduceAdd, Nat.reduceLT, false_and, and_false, ↓reduceIte, zzf]
set_option maxRecDepth 40000 in
theorem x0_11 {I : zI} : xI_0 I 75 46 = 0 := by
  simp only [↓xI_0, ↓xI_101_75, ↓xI_53c, ↓xI_53b, ↓xI_53a, ↓xI_46, ↓xI_17_61, ↓xI_0_63, ↓xI_12_26, ↓xI_12_31, ↓xI_28_5, ↓xI_28_12, ↓xI_28_19, ↓xI_6_1, ↓xI_6_37, ↓xI_6_41, ↓xI_6_45, ↓xI_6_49, ↓xI_6_53, ↓xI_6_57, ↓zup_row, ↓zup1_at, va_up, q_25, Nat.reduceEqDiff, Nat.reduceLeDiff, Nat.reduceAdd, Nat.reduceLT, false_and, and_false, ↓reduceIte, zzf]
set_option maxRecDepth 40000 in
theorem x0_12 {I : zI} : xI_0 I 26 1 = 0 := by
  simp only [↓xI_0, ↓xI_101_75, ↓xI_53c, ↓xI_53b, ↓xI_53a, ↓xI_46, ↓xI_17_61, ↓xI_0_63, ↓xI_12_26, ↓xI_12_31, ↓xI_28_5, ↓xI_28_12, ↓xI_28_19, ↓xI_6_1, ↓xI_6_37, ↓xI_6_41, ↓xI_6_45, ↓xI_6_49, ↓xI_6_53, ↓xI_6_57, ↓zup_row, ↓zup1_at, va_up, q_25, Nat.reduceEqDiff, Nat.reduceLeDiff, Nat.reduceAdd, Nat.reduceLT, false_and, and_false, ↓reduceIte, zzf]
set_option maxRecDepth 40000 in
theorem x0_13 {I : zI} : xI_0 I 26 3 = 0 := by
  simp only [↓xI_0, ↓xI_101_75, ↓xI_53c, ↓xI_53b, ↓xI_53a, ↓xI_46, ↓xI_17_61, ↓xI_0_63, ↓xI_12_26, ↓xI_12_31, ↓xI_28_5, ↓xI_28_12, ↓xI_28_19, ↓xI_6_1, ↓xI_6_37, ↓xI_6_41, ↓xI_6_45, ↓xI_6_49, ↓xI_6_53, ↓xI_6_57, ↓zup_row, ↓zup1_at, va_up, q_25, Nat.reduceEqDiff, Nat.reduceLeDiff, Nat.reduceAdd, Nat.reduceLT, false_and, and_false, ↓reduceIte, zzf]
set_option maxRecDepth 40000 in
theorem x0_14 {I : zI} : xI_0 I 26 6 = 0 := by
  simp only [↓xI_0, ↓xI_101_75, ↓xI_53c, ↓xI_53b, ↓xI_53a, ↓xI_46, ↓xI_17_61, ↓xI_0_63, ↓xI_12_26, ↓xI_12_31, ↓xI_28_5, ↓xI_28_12, ↓xI_28_19, ↓xI_6_1, ↓xI_6_37, ↓xI_6_41, ↓xI_6_45, ↓xI_6_49, ↓xI_6_53, ↓xI_6_57, ↓zup_row, ↓zup1_at, va_up, q_25, Nat.reduceEqDiff, Nat.reduceLeDiff, Nat.reduceAdd, Nat.reduceLT, false_and, and_false, ↓reduceIte, zzf]
set_option maxRecDepth 40000 in
theorem x0_15 {I : zI} : xI_0 I 75 35 = 0 := by
  simp only [↓xI_0, ↓xI_101_75, ↓xI_53c, ↓xI_53b, ↓xI_53a, ↓xI_46, ↓xI_17_61, ↓xI_0_63, ↓xI_12_26, ↓xI_12_31, ↓xI_28_5, ↓xI_28_12, ↓xI_28_19, ↓xI_6_1, ↓xI_6_37, ↓xI_6_41, ↓xI_6_45, ↓xI_6_49, ↓xI_6_53, ↓xI_6_57, ↓zup_row, ↓zup1_at, va_up, q_25, Nat.reduceEqDiff, Nat.reduceLeDiff, Nat.reduceAdd, Nat.reduceLT, false_and, and_false, ↓reduceIte, zzf]
set_option maxRecDepth 40000 in
theorem x0_16 {I : zI} : xI_0 I 75 37 = 0 := by
  simp only [↓xI_0, ↓xI_101_75, ↓xI_53c, ↓xI_53b, ↓xI_53a, ↓xI_46, ↓xI_17_61, ↓xI_0_63, ↓xI_12_26, ↓xI_12_31, ↓xI_28_5, ↓xI_28_12, ↓xI_28_19, ↓xI_6_1, ↓xI_6_37, ↓xI_6_41, ↓xI_6_45, ↓xI_6_49, ↓xI_6_53, ↓xI_6_57, ↓zup_row, ↓zup1_at, va_up, q_25, Nat.reduceEqDiff, Nat.reduceLeDiff, Nat.reduceAdd, Nat.reduceLT, false_and, and_false, ↓reduceIte, zzf]
set_option maxRecDepth 40000 in
theorem x0_17 {I : zI} : xI_0 I 75 38 = 0 := by
  simp only [↓xI_0, ↓xI_101_75, ↓xI_53c, ↓xI_53b, ↓xI_53a, ↓xI_46, ↓xI_17_61, ↓xI_0_63, ↓xI_12_26, ↓xI_12_31, ↓xI_28_5, ↓xI_28_12, ↓xI_28_19, ↓xI_6_1, ↓xI_6_37, ↓xI_6_41, ↓xI_6_45, ↓xI_6_49, ↓xI_6_53, ↓xI_6_57, ↓zup_row, ↓zup1_at, va_up, q_25, Nat.reduceEqDiff, Nat.reduceLeDiff, Nat.reduceAdd, Nat.reduceLT, false_and, and_false, ↓reduceIte, zzf]
set_option maxRecDepth 40000 in
theorem x0_18 {I : zI} : xI_0 I 31 1 = 0 := by
  simp only [↓xI_0, ↓xI_101_75, ↓xI_53c, ↓xI_53b, ↓xI_53a, ↓xI_46, ↓xI_17_61, ↓xI_0_63, ↓xI_12_26, ↓xI_12_31, ↓xI_28_5, ↓xI_28_12, ↓xI_28_19, ↓xI_6_1, ↓xI_6_37, ↓xI_6_41, ↓xI_6_45, ↓xI_6_49, ↓xI_6_53, ↓xI_6_57, ↓zup_row, ↓zup1_at, va_up, q_25, Nat.reduceEqDiff, Nat.reduceLeDiff, Nat.reduceAdd, Nat.reduceLT, false_and, and_false, ↓reduceIte, zzf]
set_option maxRecDepth 40000 in
theorem x0_19 {I : zI} : xI_0 I 31 3 = 0 := by
  simp only [↓xI_0, ↓xI_101_75, ↓xI_53c, ↓xI_53b, ↓xI_53a, ↓xI_46, ↓xI_17_61, ↓xI_0_63, ↓xI_12_26, ↓xI_12_31, ↓xI_28_5, ↓xI_28_12, ↓xI_28_19, ↓xI_6_1, ↓xI_6_37, ↓xI_6_41, ↓xI_6_45, ↓xI_6_49, ↓xI_6_53, ↓xI_6_57, ↓zup_row, ↓zup1_at, va_up, q_25, Nat.reduceEqDiff, Nat.reduceLeDiff, Nat.reduceAdd, Nat.reduceLT, false_and, and_false, ↓reduceIte, zzf]
set_option maxRecDepth 40000 in
theorem x0_20 {I : zI} : xI_0 I 31 6 = 0 := by
  simp only [↓xI_0, ↓xI_101_75, ↓xI_53c, ↓xI_53b, ↓xI_53a, ↓xI_46, ↓xI_17_61, ↓xI_0_63, ↓xI_12_26, ↓xI_12_31, ↓xI_28_5, ↓xI_28_12, ↓xI_28_19, ↓xI_6_1, ↓xI_6_37, ↓xI_6_41, ↓xI_6_45, ↓xI_6_49, ↓xI_6_53, ↓xI_6_57, ↓zup_row, ↓zup1_at, va_up, q_25, Nat.reduceEqDiff, Nat.reduceLeDiff, Nat.reduceAdd, Nat.reduceLT, false_and, and_false, ↓reduceIte, zzf]
set_option maxRecDepth 40000 in
theorem x0_21 {I : zI} : xI_0 I 75 47 = 0 := by
  simp only [↓xI_0, ↓xI_101_75, ↓xI_53c, ↓xI_53b, ↓xI_53a, ↓xI_46, ↓xI_17_61, ↓xI_0_63, ↓xI_12_26, ↓xI_12_31, ↓xI_28_5, ↓xI_28_12, ↓xI_28_19, ↓xI_6_1, ↓xI_6_37, ↓xI_6_41, ↓xI_6_45, ↓xI_6_49, ↓xI_6_53, ↓xI_6_57, ↓zup_row, ↓zup1_at, va_up, q_25, Nat.reduceEqDiff, Nat.reduceLeDiff, Nat.reduceAdd, Nat.reduceLT, false_and, and_false, ↓reduceIte, zzf]
set_option maxRecDepth 40000 in
theorem x0_22 {I : zI} : xI_0 I 75 48 = 0 := by
  simp only [↓xI_0, ↓xI_101_75, ↓xI_53c, ↓xI_53b, ↓xI_53a, ↓xI_46, ↓xI_17_61, ↓xI_0_63, ↓xI_12_26, ↓xI_12_31, ↓xI_28_5, ↓xI_28_12, ↓xI_28_19, ↓xI_6_1, ↓xI_6_37, ↓xI_6_41, ↓xI_6_45, ↓xI_6_49, ↓xI_6_53, ↓xI_6_57, ↓zup_row, ↓zup1_at, va_up, q_25, Nat.reduceEqDiff, Nat.reduceLeDiff, Nat.reduceAdd, Nat.reduceLT, false_and, and_false, ↓reduceIte, zzf]
set_option maxRecDepth 40000 in
theorem x0_23 {I : zI} : xI_0 I 75 49 = 0 := by
  simp only [↓xI_0, ↓xI_101_75, ↓xI_53c, ↓xI_53b, ↓xI_53a, ↓xI_46, ↓xI_17_61, ↓xI_0_63, ↓xI_12_26, ↓xI_12_31, ↓xI_28_5, ↓xI_28_12, ↓xI_28_19, ↓xI_6_1, ↓xI_6_37, ↓xI_6_41, ↓xI_6_45, ↓xI_6_49, ↓xI_6_53, ↓xI_6_57, ↓zup_row, ↓zup1_at, va_up, q_25, Nat.reduceEqDiff, Nat.reduceLeDiff, Nat.reduceAdd, Nat.reduceLT, false_and, and_false, ↓reduceIte, zzf]
set_option maxRecDepth 40000 in
theorem x0_24 {I : zI} : xI_0 I 61 1 = 0 := by
  simp only [↓xI_0, ↓xI_101_75, ↓xI_53c, ↓xI_53b, ↓xI_53a, ↓xI_46, ↓xI_17_61, ↓xI_0_63, ↓xI_12_26, ↓xI_12_31, ↓xI_28_5, ↓xI_28_12, ↓xI_28_19, ↓xI_6_1, ↓xI_6_37, ↓xI_6_41, ↓xI_6_45, ↓xI_6_49, ↓xI_6_53, ↓xI_6_57, ↓zup_row, ↓zup1_at, va_up, q_25, Nat.reduceEqDiff, Nat.reduceLeDiff, Nat.reduceAdd, Nat.reduceLT, false_and, and_false, ↓reduceIte, zzf]
set_option maxRecDepth 40000 in
theorem x0_25 {I : zI} : xI_0 I 75 10 = 0 := by
  simp only [↓xI_0, ↓xI_101_75, ↓xI_53c, ↓xI_53b, ↓xI_53a, ↓xI_46, ↓xI_17_61, ↓xI_0_63, ↓xI_12_26, ↓xI_12_31, ↓xI_28_5, ↓xI_28_12, ↓xI_28_19, ↓xI_6_1, ↓xI_6_37, ↓xI_6_41, ↓xI_6_45, ↓xI_6_49, ↓xI_6_53, ↓xI_6_57, ↓zup_row, ↓zup1_at, va_up, q_25, Nat.reduceEqDiff, Nat.reduceLeDiff, Nat.reduceAdd, Nat.reduceLT, false_and, and_false, ↓reduceIte, zzf]
set_option maxRecDepth 40000 in
theorem x0_26 {I : zI} : xI_0 I 0 7 = 0 := by
  simp only [↓xI_0, ↓xI_101_75, ↓xI_53c, ↓xI_53b, ↓xI_53a, ↓xI_46, ↓xI_17_61, ↓xI_0_63, ↓xI_12_26, ↓xI_12_31, ↓xI_28_5, ↓xI_28_12, ↓xI_28_19, ↓xI_6_1, ↓xI_6_37, ↓xI_6_41, ↓xI_6_45, ↓xI_6_49, ↓xI_6_53, ↓xI_6_57, ↓zup_row, ↓zup1_at, va_up, q_25, Nat.reduceEqDiff, Nat.reduceLeDiff, Nat.reduceAdd, Nat.reduceLT, false_and, and_false, ↓reduceIte, zzf]
set_option maxRecDepth 40000 in
theorem x0_27 {I : zI} : xI_0 I 75 8 = 0 := by
  simp only [↓xI_0, ↓xI_101_75, ↓xI_53c, ↓xI_53b, ↓xI_53a, ↓xI_46, ↓xI_17_61, ↓xI_0_63, ↓xI_12_26, ↓xI_12_31, ↓xI_28_5, ↓xI_28_12, ↓xI_28_19, ↓xI_6_1, ↓xI_6_37, ↓xI_6_41, ↓xI_6_45, ↓xI_6_49, ↓xI_6_53, ↓xI_6_57, ↓zup_row, ↓zup1_at, va_up, q_25, Nat.reduceEqDiff, Nat.reduceLeDiff, Nat.reduceAdd, Nat.reduceLT, false_and, and_false, ↓reduceIte, zzf]
set_option maxRecDepth 40000 in
theorem x0_28 {I : zI} : xI_0 I 0 4 = 0 := by
  simp only [↓xI_0, ↓xI_101_75, ↓xI_53c, ↓xI_53b, ↓xI_53a, ↓xI_46, ↓xI_17_61, ↓xI_0_63, ↓xI_12_26, ↓xI_12_31, ↓xI_28_5, ↓xI_28_12, ↓xI_28_19, ↓xI_6_1, ↓xI_6_37, ↓xI_6_41, ↓xI_6_45, ↓xI_6_49, ↓xI_6_53, ↓xI_6_57, ↓zup_row, ↓zup1_at, va_up, q_25, Nat.reduceEqDiff, Nat.reduceLeDiff, Nat.reduceAdd, Nat.reduceLT, false_and, and_false, ↓reduceIte, zzf]
set_option maxRecDepth 40000 in
theorem x0_29 {I : zI} : xI_0 I 75 42 = 0 := by
  simp only [↓xI_0, ↓xI_101_75, ↓xI_53c, ↓xI_53b, ↓xI_53a, ↓xI_46, ↓xI_17_61, ↓xI_0_63, ↓xI_12_26, ↓xI_12_31, ↓xI_28_5, ↓xI_28_12, ↓xI_28_19, ↓xI_6_1, ↓xI_6_37, ↓xI_6_41, ↓xI_6_45, ↓xI_6_49, ↓xI_6_53, ↓xI_6_57, ↓zup_row, ↓zup1_at, va_up, q_25, Nat.reduceEqDiff, Nat.reduceLeDiff, Nat.reduceAdd, Nat.reduceLT, false_and, and_false, ↓reduceIte, zzf]
set_option maxRecDepth 40000 in
theorem x0_30 {I : zI} : xI_0 I 63 1 = 0 := by
  simp only [↓xI_0, ↓xI_101_75, ↓xI_53c, ↓xI_53b, ↓xI_53a, ↓xI_46, ↓xI_17_61, ↓xI_0_63, ↓xI_12_26, ↓xI_12_31, ↓xI_28_5, ↓xI_28_12, ↓xI_28_19, ↓xI_6_1, ↓xI_6_37, ↓xI_6_41, ↓xI_6_45, ↓xI_6_49, ↓xI_6_53, ↓xI_6_57, ↓zup_row, ↓zup1_at, va_up, q_25, Nat.reduceEqDiff, Nat.reduceLeDiff, Nat.reduceAdd, Nat.reduceLT, false_and, and_false, ↓reduceIte, zzf]
set_option maxRecDepth 40000 in
theorem x0_31 {I : zI} : xI_0 I 75 59 = 0 := by
  simp only [↓xI_0, ↓xI_101_75, ↓xI_53c, ↓xI_53b, ↓xI_53a, ↓xI_46, ↓xI_17_61, ↓xI_0_63, ↓xI_12_26, ↓xI_12_31, ↓xI_28_5, ↓xI_28_12, ↓xI_28_19, ↓xI_6_1, ↓xI_6_37, ↓xI_6_41, ↓xI_6_45, ↓xI_6_49, ↓xI_6_53, ↓xI_6_57, ↓zup_row, ↓zup1_at, va_up, q_25, Nat.reduceEqDiff, Nat.reduceLeDiff, Nat.reduceAdd, Nat.reduceLT, false_and, and_false, ↓reduceIte, zzf]
set_option maxRecDepth 40000 in
theorem x0_32 {I : zI} : xI_0 I 1 2 = 0 := by
  simp only [↓xI_0, ↓xI_101_75, ↓xI_53c, ↓xI_53b, ↓xI_53a, ↓xI_46, ↓xI_17_61, ↓xI_0_63, ↓xI_12_26, ↓xI_12_31, ↓xI_28_5, ↓xI_28_12, ↓xI_28_19, ↓xI_6_1, ↓xI_6_37, ↓xI_6_41, ↓xI_6_45, ↓xI_6_49, ↓xI_6_53, ↓xI_6_57, ↓zup_row, ↓zup1_at, va_up, q_25, Nat.reduceEqDiff, Nat.reduceLeDiff, Nat.reduceAdd, Nat.reduceLT, false_and, and_false, ↓reduceIte, zzf]
set_option maxRecDepth 40000 in
theorem x0_33 {I : zI} : xI_0 I 1 7 = 0 := by
  simp only [↓xI_0, ↓xI_101_75, ↓xI_53c, ↓xI_53b, ↓xI_53a, ↓xI_46, ↓xI_17_61, ↓xI_0_63, ↓xI_12_26, ↓xI_12_31, ↓xI_28_5, ↓xI_28_12, ↓xI_28_19, ↓xI_6_1, ↓xI_6_37, ↓xI_6_41, ↓xI_6_45, ↓xI_6_49, ↓xI_6_53, ↓xI_6_57, ↓zup_row, ↓zup1_at, va_up, q_25, Nat.reduceEqDiff, Nat.reduceLeDiff, Nat.reduceAdd, Nat.reduceLT, false_and, and_false, ↓reduceIte, zzf]
set_option maxRecDepth 40000 in
theorem x0_34 {I : zI} : xI_0 I 5 11 = 0 := by
  simp only [↓xI_0, ↓xI_101_75, ↓xI_53c, ↓xI_53b, ↓xI_53a, ↓xI_46, ↓xI_17_61, ↓xI_0_63, ↓xI_12_26, ↓xI_12_31, ↓xI_28_5, ↓xI_28_12, ↓xI_28_19, ↓xI_6_1, ↓xI_6_37, ↓xI_6_41, ↓xI_6_45, ↓xI_6_49, ↓xI_6_53, ↓xI_6_57, ↓zup_row, ↓zup1_at, va_up, q_25, Nat.reduceEqDiff, Nat.reduceLeDiff, Nat.reduceAdd, Nat.reduceLT, false_and, and_false, ↓reduceIte, zzf]
set_option maxRecDepth 40000 in
theorem x0_35 {I : zI} : xI_0 I 12 11 = 0 := by
  simp only [↓xI_0, ↓xI_101_75, ↓xI_53c, ↓xI_53b, ↓xI_53a, ↓xI_46, ↓xI_17_61, ↓xI_0_63, ↓xI_12_26, ↓xI_12_31, ↓xI_28_5, ↓xI_28_12, ↓xI_28_19, ↓xI_6_1, ↓xI_6_37, ↓xI_6_41, ↓xI_6_45, ↓xI_6_49, ↓xI_6_53, ↓xI_6_57, ↓zup_row, ↓zup1_at, va_up, q_25, Nat.reduceEqDiff, Nat.reduceLeDiff, Nat.reduceAdd, Nat.reduceLT, false_and, and_false, ↓reduceIte, zzf]
set_option maxRecDepth 40000 in
theorem x0_36 {I : zI} : xI_0 I 75 9 = -1 := by
  simp only [↓xI_0, ↓xI_101_75, ↓xI_53c, ↓xI_53b, ↓xI_53a, ↓xI_46, ↓xI_17_61, ↓xI_0_63, ↓xI_12_26, ↓xI_12_31, ↓xI_28_5, ↓xI_28_12, ↓xI_28_19, ↓xI_6_1, ↓xI_6_37, ↓xI_6_41, ↓xI_6_45, ↓xI_6_49, ↓xI_6_53, ↓xI_6_57, ↓zup_row, ↓zup1_at, va_up, q_25, Nat.reduceEqDiff, Nat.reduceLeDiff, Nat.reduceAdd, Nat.reduceLT, false_and, and_false, ↓reduceIte, zzf]
set_option maxRecDepth 40000 in
theorem x0_37 {I : zI} : xI_0 I 75 43 = -1 := by
  simp only [↓xI_0, ↓xI_101_75, ↓xI_53c, ↓xI_53b, ↓xI_53a, ↓xI_46, ↓xI_17_61, ↓xI_0_63, ↓xI_12_26, ↓xI_12_31, ↓xI_28_5, ↓xI_28_12, ↓xI_28_19, ↓xI_6_1, ↓xI_6_37, ↓xI_6_41, ↓xI_6_45, ↓xI_6_49, ↓xI_6_53, ↓xI_6_57, ↓zup_row, ↓zup1_at, va_up, q_25, Nat.reduceEqDiff, Nat.reduceLeDiff, Nat.reduceAdd, Nat.reduceLT, false_and, and_false, ↓reduceIte, zzf]
set_option maxRecDepth 40000 in
theorem x0_38 {I : zI} : xI_0 I 75 25 = -1 := by
  simp only [↓xI_0, ↓xI_101_75, ↓xI_53c, ↓xI_53b, ↓xI_53a, ↓xI_46, ↓xI_17_61, ↓xI_0_63, ↓xI_12_26, ↓xI_12_31, ↓xI_28_5, ↓xI_28_12, ↓xI_28_19, ↓xI_6_1, ↓xI_6_37, ↓xI_6_41, ↓xI_6_45, ↓xI_6_49, ↓xI_6_53, ↓xI_6_57, ↓zup_row, ↓zup1_at, va_up, q_25, Nat.reduceEqDiff, Nat.reduceLeDiff, Nat.reduceAdd, Nat.reduceLT, false_and, and_false, ↓reduceIte, zzf]
set_option maxRecDepth 40000 in
theorem x0_39 {I : zI} : xI_0 I 75 26 = -1 := by
  simp only [↓xI_0, ↓xI_101_75, ↓xI_53c, ↓xI_53b, ↓xI_53a, ↓xI_46, ↓xI_17_61, ↓xI_0_63, ↓xI_12_26, ↓xI_12_31, ↓xI_28_5, ↓xI_28_12, ↓xI_28_19, ↓xI_6_1, ↓xI_6_37, ↓xI_6_41, ↓xI_6_45, ↓xI_6_49, ↓xI_6_53, ↓xI_6_57, ↓zup_row, ↓zup1_at, va_up, q_25, Nat.reduceEqDiff, Nat.reduceLeDiff, Nat.reduceAdd, Nat.reduceLT, false_and, and_false, ↓reduceIte, zzf]
set_option maxRecDepth 40000 in
theorem x0_40 {I : zI} : xI_0 I 75 27 = -1 := by
  simp only [↓xI_0, ↓xI_101_75, ↓xI_53c, ↓xI_53b, ↓xI_53a, ↓xI_46, ↓xI_17_61, ↓xI_0_63, ↓xI_12_26, ↓xI_12_31, ↓xI_28_5, ↓xI_28_12, ↓xI_28_19, ↓xI_6_1, ↓xI_6_37, ↓xI_6_41, ↓xI_6_45, ↓xI_6_49, ↓xI_6_53, ↓xI_6_57, ↓zup_row, ↓zup1_at, va_up, q_25, Nat.reduceEqDiff, Nat.reduceLeDiff, Nat.reduceAdd, Nat.reduceLT, false_and, and_false, ↓reduceIte, zzf]
set_option maxRecDepth 40000 in
theorem x0_41 {I : zI} : xI_0 I 75 29 = 99999 := by
  simp only [↓xI_0, ↓xI_101_75, ↓xI_53c, ↓xI_53b, ↓xI_53a, ↓xI_46, ↓xI_17_61, ↓xI_0_63, ↓xI_12_26, ↓xI_12_31, ↓xI_28_5, ↓xI_28_12, ↓xI_28_19, ↓xI_6_1, ↓xI_6_37, ↓xI_6_41, ↓xI_6_45, ↓xI_6_49, ↓xI_6_53, ↓xI_6_57, ↓zup_row, ↓zup1_at, va_up, q_25, Nat.reduceEqDiff, Nat.reduceLeDiff, Nat.reduceAdd, Nat.reduceLT, false_and, and_false, ↓reduceIte, zzf]
set_option maxRecDepth 40000 in
theorem x0_42 {I : zI} : xI_0 I 1 5 = 1 := by
  simp only [↓xI_0, ↓xI_101_75, ↓xI_53c, ↓xI_53b, ↓xI_53a, ↓xI_46, ↓xI_17_61, ↓xI_0_63, ↓xI_12_26, ↓xI_12_31, ↓xI_28_5, ↓xI_28_12, ↓xI_28_19, ↓xI_6_1, ↓xI_6_37, ↓xI_6_41, ↓xI_6_45, ↓xI_6_49, ↓xI_6_53, ↓xI_6_57, ↓zup_row, ↓zup1_at, va_up, q_25, Nat.reduceEqDiff, Nat.reduceLeDiff, Nat.reduceAdd, Nat.reduceLT, false_and, and_false, ↓reduceIte, zzf]
set_option maxRecDepth 40000 in
theorem x0_43 {I : zI} : xI_0 I 1 6 = 2 := by
  simp only [↓xI_0, ↓xI_101_75, ↓xI_53c, ↓xI_53b, ↓xI_53a, ↓xI_46, ↓xI_17_61, ↓xI_0_63, ↓xI_12_26, ↓xI_12_31, ↓xI_28_5, ↓xI_28_12, ↓xI_28_19, ↓xI_6_1, ↓xI_6_37, ↓xI_6_41, ↓xI_6_45, ↓xI_6_49, ↓xI_6_53, ↓xI_6_57, ↓zup_row, ↓zup1_at, va_up, q_25, Nat.reduceEqDiff, Nat.reduceLeDiff, Nat.reduceAdd, Nat.reduceLT, false_and, and_false, ↓reduceIte, zzf]
set_option maxRecDepth 40000 in
theorem x0_44 {I : zI} : xI_0 I 5 9 = 1 := by
  simp only [↓xI_0, ↓xI_101_75, ↓xI_53c, ↓xI_53b, ↓xI_53a, ↓xI_46, ↓xI_17_61, ↓xI_0_63, ↓xI_12_26, ↓xI_12_31, ↓xI_28_5, ↓xI_28_12, ↓xI_28_19, ↓xI_6_1, ↓xI_6_37, ↓xI_6_41, ↓xI_6_45, ↓xI_6_49, ↓xI_6_53, ↓xI_6_57, ↓zup_row, ↓zup1_at, va_up, q_25, Nat.reduceEqDiff, Nat.reduceLeDiff, Nat.reduceAdd, Nat.reduceLT, false_and, and_false, ↓reduceIte, zzf]
set_option maxRecDepth 40000 in
theorem x0_45 {I : zI} : xI_0 I 5 10 = 2 := by
  simp only [↓xI_0, ↓xI_101_75, ↓xI_53c, ↓xI_53b, ↓xI_53a, ↓xI_46, ↓xI_17_61, ↓xI_0_63, ↓xI_12_26, ↓xI_12_31, ↓xI_28_5, ↓xI_28_12, ↓xI_28_19, ↓xI_6_1, ↓xI_6_37, ↓xI_6_41, ↓xI_6_45, ↓xI_6_49, ↓xI_6_53, ↓xI_6_57, ↓zup_row, ↓zup1_at, va_up, q_25, Nat.reduceEqDiff, Nat.reduceLeDiff, Nat.reduceAdd, Nat.reduceLT, false_and, and_false, ↓reduceIte, zzf]
set_option maxRecDepth 40000 in
theorem x0_46 {I : zI} : xI_0 I 12 9 = 1 := by
  simp only [↓xI_0, ↓xI_101_75, ↓xI_53c, ↓xI_53b, ↓xI_53a, ↓xI_46, ↓xI_17_61, ↓xI_0_63, ↓xI_12_26, ↓xI_12_31, ↓xI_28_5, ↓xI_28_12, ↓xI_28_19, ↓xI_6_1, ↓xI_6_37, ↓xI_6_41, ↓xI_6_45, ↓xI_6_49, ↓xI_6_53, ↓xI_6_57, ↓zup_row, ↓zup1_at, va_up, q_25, Nat.reduceEqDiff, Nat.reduceLeDiff, Nat.reduceAdd, Nat.reduceLT, false_and, and_false, ↓reduceIte, zzf]
set_option maxRecDepth 40000 in
theorem x0_47 {I : zI} : xI_0 I 12 10 = 2 := by
  simp only [↓xI_0, ↓xI_101_75, ↓xI_53c, ↓xI_53b, ↓xI_53a, ↓xI_46, ↓xI_17_61, ↓xI_0_63, ↓xI_12_26, ↓xI_12_31, ↓xI_28_5, ↓xI_28_12, ↓xI_28_19, ↓xI_6_1, ↓xI_6_37, ↓xI_6_41, ↓xI_6_45, ↓xI_6_49, ↓xI_6_53, ↓xI_6_57, ↓zup_row, ↓zup1_at, va_up, q_25, Nat.reduceEqDiff, Nat.reduceLeDiff, Nat.reduceAdd, Nat.reduceLT, false_and, and_false, ↓reduceIte, zzf]
set_option maxRecDepth 40000 in
theorem x0_48 {I : zI} : xI_0 I 6 = zzf := by
  simp only [↓xI_0, ↓xI_101_75, ↓xI_53c, ↓xI_53b, ↓xI_53a, ↓xI_46, ↓xI_17_61, ↓xI_0_63, ↓xI_12_26, ↓xI_12_31, ↓xI_28_5, ↓xI_28_12, ↓xI_28_19, ↓xI_6_1, ↓xI_6_37, ↓xI_6_41, ↓xI_6_45, ↓xI_6_49, ↓xI_6_53, ↓xI_6_57, ↓zup_row, ↓zup1_at, va_up, q_25, Nat.reduceEqDiff, Nat.reduceLeDiff, Nat.reduceAdd, Nat.reduceLT, false_and, and_false, ↓reduceIte]
set_option maxRecDepth 40000 in
theorem x0_49 {I : zI} : xI_0 I 7 = zzf := by
  simp only [↓xI_0, ↓xI_101_75, ↓xI_53c, ↓xI_53b, ↓xI_53a, ↓xI_46, ↓xI_17_61, ↓xI_0_63, ↓xI_12_26, ↓xI_12_31, ↓xI_28_5, ↓xI_28_12, ↓xI_28_19, ↓xI_6_1, ↓xI_6_37, ↓xI_6_41, ↓xI_6_45, ↓xI_6_49, ↓xI_6_53, ↓xI_6_57, ↓zup_row, ↓zup1_at, va_up, q_25, Nat.reduceEqDiff, Nat.reduceLeDiff, Nat.reduceAdd, Nat.reduceLT, false_and, and_false, ↓reduceIte]
set_option maxRecDepth 40000 in
theorem x0_50 {I : zI} : xI_0 I 8 = zzf := by
  simp only [↓xI_0, ↓xI_101_75, ↓xI_53c, ↓xI_53b, ↓xI_53a, ↓xI_46, ↓xI_17_61, ↓xI_0_63, ↓xI_12_26, ↓xI_12_31, ↓xI_28_5, ↓xI_28_12, ↓xI_28_19, ↓xI_6_1, ↓xI_6_37, ↓xI_6_41, ↓xI_6_45, ↓xI_6_49, ↓xI_6_53, ↓xI_6_57, ↓zup_row, ↓zup1_at, va_up, q_25, Nat.reduceEqDiff, Nat.reduceLeDiff, Nat.reduceAdd, Nat.reduceLT, false_and, and_false, ↓reduceIte]
set_option maxRecDepth 40000 in
theorem x0_51 {I : zI} : xI_0 I 9 = zzf := by
  simp only [↓xI_0, ↓xI_101_75, ↓xI_53c, ↓xI_53b, ↓xI_53a, ↓xI_46, ↓xI_17_61, ↓xI_0_63, ↓xI_12_26, ↓xI_12_31, ↓xI_28_5, ↓xI_28_12, ↓xI_28_19, ↓xI_6_1, ↓xI_6_37, ↓xI_6_41, ↓xI_6_45, ↓xI_6_49, ↓xI_6_53, ↓xI_6_57, ↓zup_row, ↓zup1_at, va_up, q_25, Nat.reduceEqDiff, Nat.reduceLeDiff, Nat.reduceAdd, Nat.reduceLT, false_and, and_false, ↓reduceIte]
set_option maxRecDepth 40000 in
theorem x0_52 {I : zI} : xI_0 I 10 = zzf := by
  simp only [↓xI_0, ↓xI_101_75, ↓xI_53c, ↓xI_53b, ↓xI_53a, ↓xI_46, ↓xI_17_61, ↓xI_0_63, ↓xI_12_26, ↓xI_12_31, ↓xI_28_5, ↓xI_28_12, ↓xI_28_19, ↓xI_6_1, ↓xI_6_37, ↓xI_6_41, ↓xI_6_45, ↓xI_6_49, ↓xI_6_53, ↓xI_6_57, ↓zup_row, ↓zup1_at, va_up, q_25, Nat.reduceEqDiff, Nat.reduceLeDiff, Nat.reduceAdd, Nat.reduceLT, false_and, and_false, ↓reduceIte]
set_option maxRecDepth 40000 in
theorem x0_53 {I : zI} : xI_0 I 76 = zzf := by
  simp only [↓xI_0, ↓xI_101_75, ↓xI_53c, ↓xI_53b, ↓xI_53a, ↓xI_46, ↓xI_17_61, ↓xI_0_63, ↓xI_12_26, ↓xI_12_31, ↓xI_28_5, ↓xI_28_12, ↓xI_28_19, ↓xI_6_1, ↓xI_6_37, ↓xI_6_41, ↓xI_6_45, ↓xI_6_49, ↓xI_6_53, ↓xI_6_57, ↓zup_row, ↓zup1_at, va_up, q_25, Nat.reduceEqDiff, Nat.reduceLeDiff, Nat.reduceAdd, Nat.reduceLT, false_and, and_false, ↓reduceIte]
set_option maxRecDepth 40000 in
theorem x0_54 {I : zI} : xI_0 I 77 = zzf := by
  simp only [↓xI_0, ↓xI_101_75, ↓xI_53c, ↓xI_53b, ↓xI_53a, ↓xI_46, ↓xI_17_61, ↓xI_0_63, ↓xI_12_26, ↓xI_12_31, ↓xI_28_5, ↓xI_28_12, ↓xI_28_19, ↓xI_6_1, ↓xI_6_37, ↓xI_6_41, ↓xI_6_45, ↓xI_6_49, ↓xI_6_53, ↓xI_6_57, ↓zup_row, ↓zup1_at, va_up, q_25, Nat.reduceEqDiff, Nat.reduceLeDiff, Nat.reduceAdd, Nat.reduceLT, false_and, and_false, ↓reduceIte]
set_option maxRecDepth 40000 in
theorem x0_55 {I : zI} : xI_0 I 78 = zzf := by
  simp only [↓xI_0, ↓xI_101_75, ↓xI_53c, ↓xI_53b, ↓xI_53a, ↓xI_46, ↓xI_17_61, ↓xI_0_63, ↓xI_12_26, ↓xI_12_31, ↓xI_28_5, ↓xI_28_12, ↓xI_28_19, ↓xI_6_1, ↓xI_6_37, ↓xI_6_41, ↓xI_6_45, ↓xI_6_49, ↓xI_6_53, ↓xI_6_57, ↓zup_row, ↓zup1_at, va_up, q_25, Nat.reduceEqDiff, Nat.reduceLeDiff, Nat.reduceAdd, Nat.reduceLT, false_and, and_false, ↓reduceIte]
set_option maxRecDepth 40000 in
theorem x0_56 {I : zI} : xI_0 I 79 = zzf := by
  simp only [↓xI_0, ↓xI_101_75, ↓xI_53c, ↓xI_53b, ↓xI_53a, ↓xI_46, ↓xI_17_61, ↓xI_0_63, ↓xI_12_26, ↓xI_12_31, ↓xI_28_5, ↓xI_28_12, ↓xI_28_19, ↓xI_6_1, ↓xI_6_37, ↓xI_6_41, ↓xI_6_45, ↓xI_6_49, ↓xI_6_53, ↓xI_6_57, ↓zup_row, ↓zup1_at, va_up, q_25, Nat.reduceEqDiff, Nat.reduceLeDiff, Nat.reduceAdd, Nat.reduceLT, false_and, and_false, ↓reduceIte]
set_option maxRecDepth 40000 in
theorem x0_57 {I : zI} : xI_0 I 80 = zzf := by
  simp only [↓xI_0, ↓xI_101_75, ↓xI_53c, ↓xI_53b, ↓xI_53a, ↓xI_46, ↓xI_17_61, ↓xI_0_63, ↓xI_12_26, ↓xI_12_31, ↓xI_28_5, ↓xI_28_12, ↓xI_28_19, ↓xI_6_1, ↓xI_6_37, ↓xI_6_41, ↓xI_6_45, ↓xI_6_49, ↓xI_6_53, ↓xI_6_57, ↓zup_row, ↓zup1_at, va_up, q_25, Nat.reduceEqDiff, Nat.reduceLeDiff, Nat.reduceAdd, Nat.reduceLT, false_and, and_false, ↓reduceIte]
set_option maxRecDepth 40000 in
theorem x0_58 {I : zI} : xI_0 I 13 = zzf := by
  simp only [↓xI_0, ↓xI_101_75, ↓xI_53c, ↓xI_53b, ↓xI_53a, ↓xI_46, ↓xI_17_61, ↓xI_0_63, ↓xI_12_26, ↓xI_12_31, ↓xI_28_5, ↓xI_28_12, ↓xI_28_19, ↓xI_6_1, ↓xI_6_37, ↓xI_6_41, ↓xI_6_45, ↓xI_6_49, ↓xI_6_53, ↓xI_6_57, ↓zup_row, ↓zup1_at, va_up, q_25, Nat.reduceEqDiff, Nat.reduceLeDiff, Nat.reduceAdd, Nat.reduceLT, false_and, and_false, ↓reduceIte]
set_option maxRecDepth 40000 in
theorem x0_59 {I : zI} : xI_0 I 14 = zzf := by
  simp only [↓xI_0, ↓xI_101_75, ↓xI_53c, ↓xI_53b, ↓xI_53a, ↓xI_46, ↓xI_17_61, ↓xI_0_63, ↓xI_12_26, ↓xI_12_31, ↓xI_28_5, ↓xI_28_12, ↓xI_28_19, ↓xI_6_1, ↓xI_6_37, ↓xI_6_41, ↓xI_6_45, ↓xI_6_49, ↓xI_6_53, ↓xI_6_57, ↓zup_row, ↓zup1_at, va_up, q_25, Nat.reduceEqDiff, Nat.reduceLeDiff, Nat.reduceAdd, Nat.reduceLT, false_and, and_false, ↓reduceIte]
set_option maxRecDepth 40000 in
theorem x0_60 {I : zI} : xI_0 I 15 = zzf := by
  simp only [↓xI_0, ↓xI_101_75, ↓xI_53c, ↓xI_53b, ↓xI_53a, ↓xI_46, ↓xI_17_61, ↓xI_0_63, ↓xI_12_26, ↓xI_12_31, ↓xI_28_5, ↓xI_28_12, ↓xI_28_19, ↓xI_6_1, ↓xI_6_37, ↓xI_6_41, ↓xI_6_45, ↓xI_6_49, ↓xI_6_53, ↓xI_6_57, ↓zup_row, ↓zup1_at, va_up, q_25, Nat.reduceEqDiff, Nat.reduceLeDiff, Nat.reduceAdd, Nat.reduceLT, false_and, and_false, ↓reduceIte]
set_option maxRecDepth 40000 in
theorem x0_61 {I : zI} : xI_0 I 16 = zzf := by
  simp only [↓xI_0, ↓xI_101_75, ↓xI_53c, ↓xI_53b, ↓xI_53a, ↓xI_46, ↓xI_17_61, ↓xI_0_63, ↓xI_12_26, ↓xI_12_31, ↓xI_28_5, ↓xI_28_12, ↓xI_28_19, ↓xI_6_1, ↓xI_6_37, ↓xI_6_41, ↓xI_6_45, ↓xI_6_49, ↓xI_6_53, ↓xI_6_57, ↓zup_row, ↓zup1_at, va_up, q_25, Nat.reduceEqDiff, Nat.reduceLeDiff, Nat.reduceAdd, Nat.reduceLT, false_and, and_false, ↓reduceIte]
set_option maxRecDepth 40000 in
theorem x0_62 {I : zI} : xI_0 I 17 = zzf := by
  simp only [↓xI_0, ↓xI_101_75, ↓xI_53c, ↓xI_53b, ↓xI_53a, ↓xI_46, ↓xI_17_61, ↓xI_0_63, ↓xI_12_26, ↓xI_12_31, ↓xI_28_5, ↓xI_28_12, ↓xI_28_19, ↓xI_6_1, ↓xI_6_37, ↓xI_6_41, ↓xI_6_45, ↓xI_6_49, ↓xI_6_53, ↓xI_6_57, ↓zup_row, ↓zup1_at, va_up, q_25, Nat.reduceEqDiff, Nat.reduceLeDiff, Nat.reduceAdd, Nat.reduceLT, false_and, and_false, ↓reduceIte]
set_option maxRecDepth 40000 in
theorem x0_63 {I : zI} : xI_0 I 97 = zzf := by
  simp only [↓xI_0, ↓xI_101_75, ↓xI_53c, ↓xI_53b, ↓xI_53a, ↓xI_46, ↓xI_17_61, ↓xI_0_63, ↓xI_12_26, ↓xI_12_31, ↓xI_28_5, ↓xI_28_12, ↓xI_28_19, ↓xI_6_1, ↓xI_6_37, ↓xI_6_41, ↓xI_6_45, ↓xI_6_49, ↓xI_6_53, ↓xI_6_57, ↓zup_row, ↓zup1_at, va_up, q_25, Nat.reduceEqDiff, Nat.reduceLeDiff, Nat.reduceAdd, Nat.reduceLT, false_and, and_false, ↓reduceIte]
set_option maxRecDepth 40000 in
theorem x0_64 {I : zI} : xI_0 I 98 = zzf := by
  simp only [↓xI_0, ↓xI_101_75, ↓xI_53c, ↓xI_53b, ↓xI_53a, ↓xI_46, ↓xI_17_61, ↓xI_0_63, ↓xI_12_26, ↓xI_12_31, ↓xI_28_5, ↓xI_28_12, ↓xI_28_19, ↓xI_6_1, ↓xI_6_37, ↓xI_6_41, ↓xI_6_45, ↓xI_6_49, ↓xI_6_53, ↓xI_6_57, ↓zup_row, ↓zup1_at, va_up, q_25, Nat.reduceEqDiff, Nat.reduceLeDiff, Nat.reduceAdd, Nat.reduceLT, false_and, and_false, ↓reduceIte]
set_option maxRecDepth 40000 in
theorem x0_65 {I : zI} : xI_0 I 99 = zzf := by
  simp only [↓xI_0, ↓xI_101_75, ↓xI_53c, ↓xI_53b, ↓xI_53a, ↓xI_46, ↓xI_17_61, ↓xI_0_63, ↓xI_12_26, ↓xI_12_31, ↓xI_28_5, ↓xI_28_12, ↓xI_28_19, ↓xI_6_1, ↓xI_6_37, ↓xI_6_41, ↓xI_6_45, ↓xI_6_49, ↓xI_6_53, ↓xI_6_57, ↓zup_row, ↓zup1_at, va_up, q_25, Nat.reduceEqDiff, Nat.reduceLeDiff, Nat.reduceAdd, Nat.reduceLT, false_and, and_false, ↓reduceIte]
set_option maxRecDepth 40000 in
theorem x0_66 {I : zI} : xI_0 I 100 = zzf := by
  simp only [↓xI_0, ↓xI_101_75, ↓xI_53c, ↓xI_53b, ↓xI_53a, ↓xI_46, ↓xI_17_61, ↓xI_0_63, ↓xI_12_26, ↓xI_12_31, ↓xI_28_5, ↓xI_28_12, ↓xI_28_19, ↓xI_6_1, ↓xI_6_37, ↓xI_6_41, ↓xI_6_45, ↓xI_6_49, ↓xI_6_53, ↓xI_6_57, ↓zup_row, ↓zup1_at, va_up, q_25, Nat.reduceEqDiff, Nat.reduceLeDiff, Nat.reduceAdd, Nat.reduceLT, false_and, and_false, ↓reduceIte]
set_option maxRecDepth 40000 in
theorem x0_67 {I : zI} : xI_0 I 101 = zzf := by
  simp only [↓xI_0, ↓xI_101_75, ↓xI_53c, ↓xI_53b, ↓xI_53a, ↓xI_46, ↓xI_17_61, ↓xI_0_63, ↓xI_12_26, ↓xI_12_31, ↓xI_28_5, ↓xI_28_12, ↓xI_28_19, ↓xI_6_1, ↓xI_6_37, ↓xI_6_41, ↓xI_6_45, ↓xI_6_49, ↓xI_6_53, ↓xI_6_57, ↓zup_row, ↓zup1_at, va_up, q_25, Nat.reduceEqDiff, Nat.reduceLeDiff, Nat.reduceAdd, Nat.reduceLT, false_and, and_false, ↓reduceIte]
set_option maxRecDepth 40000 in
theorem x0_68 {I : zI} : xI_0 I 27 = zzf := by
  simp only [↓xI_0, ↓xI_101_75, ↓xI_53c, ↓xI_53b, ↓xI_53a, ↓xI_46, ↓xI_17_61, ↓xI_0_63, ↓xI_12_26, ↓xI_12_31, ↓xI_28_5, ↓xI_28_12, ↓xI_28_19, ↓xI_6_1, ↓xI_6_37, ↓xI_6_41, ↓xI_6_45, ↓xI_6_49, ↓xI_6_53, ↓xI_6_57, ↓zup_row, ↓zup1_at, va_up, q_25, Nat.reduceEqDiff, Nat.reduceLeDiff, Nat.reduceAdd, Nat.reduceLT, false_and, and_false, ↓reduceIte]
set_option maxRecDepth 40000 in
theorem x0_69 {I : zI} : xI_0 I 28 = zzf := by
  simp only [↓xI_0, ↓xI_101_75, ↓xI_53c, ↓xI_53b, ↓xI_53a, ↓xI_46, ↓xI_17_61, ↓xI_0_63, ↓xI_12_26, ↓xI_12_31, ↓xI_28_5, ↓xI_28_12, ↓xI_28_19, ↓xI_6_1, ↓xI_6_37, ↓xI_6_41, ↓xI_6_45, ↓xI_6_49, ↓xI_6_53, ↓xI_6_57, ↓zup_row, ↓zup1_at, va_up, q_25, Nat.reduceEqDiff, Nat.reduceLeDiff, Nat.reduceAdd, Nat.reduceLT, false_and, and_false, ↓reduceIte]
set_option maxRecDepth 40000 in
theorem x0_70 {I : zI} : xI_0 I 29 = zzf := by
  simp only [↓xI_0, ↓xI_101_75, ↓xI_53c, ↓xI_53b, ↓xI_53a, ↓xI_46, ↓xI_17_61, ↓xI_0_63, ↓xI_12_26, ↓xI_12_31, ↓xI_28_5, ↓xI_28_12, ↓xI_28_19, ↓xI_6_1, ↓xI_6_37, ↓xI_6_41, ↓xI_6_45, ↓xI_6_49, ↓xI_6_53, ↓xI_6_57, ↓zup_row, ↓zup1_at, va_up, q_25, Nat.reduceEqDiff, Nat.reduceLeDiff, Nat.reduceAdd, Nat.reduceLT, false_and, and_false, ↓reduceIte]
set_option maxRecDepth 40000 in
theorem x0_71 {I : zI} : xI_0 I 30 = zzf := by
  simp only [↓xI_0, ↓xI_101_75, ↓xI_53c, ↓xI_53b, ↓xI_53a, ↓xI_46, ↓xI_17_61, ↓xI_0_63, ↓xI_12_26, ↓xI_12_31, ↓xI_28_5, ↓xI_28_12, ↓xI_28_19, ↓xI_6_1, ↓xI_6_37, ↓xI_6_41, ↓xI_6_45, ↓xI_6_49, ↓xI_6_53, ↓xI_6_57, ↓zup_row, ↓zup1_at, va_up, q_25, Nat.reduceEqDiff, Nat.reduceLeDiff, Nat.reduceAdd, Nat.reduceLT, false_and, and_false, ↓reduceIte]
set_option maxRecDepth 40000 in
theorem x0_72 {I : zI} : xI_0 I 93 = zzf := by
  simp only [↓xI_0, ↓xI_101_75, ↓xI_53c, ↓xI_53b, ↓xI_53a, ↓xI_46, ↓xI_17_61, ↓xI_0_63, ↓xI_12_26, ↓xI_12_31, ↓xI_28_5, ↓xI_28_12, ↓xI_28_19, ↓xI_6_1, ↓xI_6_37, ↓xI_6_41, ↓xI_6_45, ↓xI_6_49, ↓xI_6_53, ↓xI_6_57, ↓zup_row, ↓zup1_at, va_up, q_25, Nat.reduceEqDiff, Nat.reduceLeDiff, Nat.reduceAdd, Nat.reduceLT, false_and, and_false, ↓reduceIte]
set_option maxRecDepth 40000 in
theorem x0_73 {I : zI} : xI_0 I 94 = zzf := by
  simp only [↓xI_0, ↓xI_101_75, ↓xI_53c, ↓xI_53b, ↓xI_53a, ↓xI_46, ↓xI_17_61, ↓xI_0_63, ↓xI_12_26, ↓xI_12_31, ↓xI_28_5, ↓xI_28_12, ↓xI_28_19, ↓xI_6_1, ↓xI_6_37, ↓xI_6_41, ↓xI_6_45, ↓xI_6_49, ↓xI_6_53, ↓xI_6_57, ↓zup_row, ↓zup1_at, va_up, q_25, Nat.reduceEqDiff, Nat.reduceLeDiff, Nat.reduceAdd, Nat.reduceLT, false_and, and_false, ↓reduceIte]
set_option maxRecDepth 40000 in
theorem x0_74 {I : zI} : xI_0 I 95 = zzf := by
  simp only [↓xI_0, ↓xI_101_75, ↓xI_53c, ↓xI_53b, ↓xI_53a, ↓xI_46, ↓xI_17_61, ↓xI_0_63, ↓xI_12_26, ↓xI_12_31, ↓xI_28_5, ↓xI_28_12, ↓xI_28_19, ↓xI_6_1, ↓xI_6_37, ↓xI_6_41, ↓xI_6_45, ↓xI_6_49, ↓xI_6_53, ↓xI_6_57, ↓zup_row, ↓zup1_at, va_up, q_25, Nat.reduceEqDiff, Nat.reduceLeDiff, Nat.reduceAdd, Nat.reduceLT, false_and, and_false, ↓reduceIte]
set_option maxRecDepth 40000 in
theorem x0_75 {I : zI} : xI_0 I 96 = zzf := by
  simp only [↓xI_0, ↓xI_101_75, ↓xI_53c, ↓xI_53b, ↓xI_53a, ↓xI_46, ↓xI_17_61, ↓xI_0_63, ↓xI_12_26, ↓xI_12_31, ↓xI_28_5, ↓xI_28_12, ↓xI_28_19, ↓xI_6_1, ↓xI_6_37, ↓xI_6_41, ↓xI_6_45, ↓xI_6_49, ↓xI_6_53, ↓xI_6_57, ↓zup_row, ↓zup1_at, va_up, q_25, Nat.reduceEqDiff, Nat.reduceLeDiff, Nat.reduceAdd, Nat.reduceLT, false_and, and_false, ↓reduceIte]
set_option maxRecDepth 40000 in
theorem x0_76 {I : zI} : xI_0 I 32 = zzf := by
  simp only [↓xI_0, ↓xI_101_75, ↓xI_53c, ↓xI_53b, ↓xI_53a, ↓xI_46, ↓xI_17_61, ↓xI_0_63, ↓xI_12_26, ↓xI_12_31, ↓xI_28_5, ↓xI_28_12, ↓xI_28_19, ↓xI_6_1, ↓xI_6_37, ↓xI_6_41, ↓xI_6_45, ↓xI_6_49, ↓xI_6_53, ↓xI_6_57, ↓zup_row, ↓zup1_at, va_up, q_25, Nat.reduceEqDiff, Nat.reduceLeDiff, Nat.reduceAdd, Nat.reduceLT, false_and, and_false, ↓reduceIte]
set_option maxRecDepth 40000 in
theorem x0_77 {I : zI} : xI_0 I 33 = zzf := by
  simp only [↓xI_0, ↓xI_101_75, ↓xI_53c, ↓xI_53b, ↓xI_53a, ↓xI_46, ↓xI_17_61, ↓xI_0_63, ↓xI_12_26, ↓xI_12_31, ↓xI_28_5, ↓xI_28_12, ↓xI_28_19, ↓xI_6_1, ↓xI_6_37, ↓xI_6_41, ↓xI_6_45, ↓xI_6_49, ↓xI_6_53, ↓xI_6_57, ↓zup_row, ↓zup1_at, va_up, q_25, Nat.reduceEqDiff, Nat.reduceLeDiff, Nat.reduceAdd, Nat.reduceLT, false_and, and_false, ↓reduceIte]
set_option maxRecDepth 40000 in
theorem x0_78 {I : zI} : xI_0 I 34 = zzf := by
  simp only [↓xI_0, ↓xI_101_75, ↓xI_53c, ↓xI_53b, ↓xI_53a, ↓xI_46, ↓xI_17_61, ↓xI_0_63, ↓xI_12_26, ↓xI_12_31, ↓xI_28_5, ↓xI_28_12, ↓xI_28_19, ↓xI_6_1, ↓xI_6_37, ↓xI_6_41, ↓xI_6_45, ↓xI_6_49, ↓xI_6_53, ↓xI_6_57, ↓zup_row, ↓zup1_at, va_up, q_25, Nat.reduceEqDiff, Nat.reduceLeDiff, Nat.reduceAdd, Nat.reduceLT, false_and, and_false, ↓reduceIte]
set_option maxRecDepth 40000 in
theorem x0_79 {I : zI} : xI_0 I 35 = zzf := by
  simp only [↓xI_0, ↓xI_101_75, ↓xI_53c, ↓xI_53b, ↓xI_53a, ↓xI_46, ↓xI_17_61, ↓xI_0_63, ↓xI_12_26, ↓xI_12_31, ↓xI_28_5, ↓xI_28_12, ↓xI_28_19, ↓xI_6_1, ↓xI_6_37, ↓xI_6_41, ↓xI_6_45, ↓xI_6_49, ↓xI_6_53, ↓xI_6_57, ↓zup_row, ↓zup1_at, va_up, q_25, Nat.reduceEqDiff, Nat.reduceLeDiff, Nat.reduceAdd, Nat.reduceLT, false_and, and_false, ↓reduceIte]
set_option maxRecDepth 40000 in
theorem x0_80 {I : zI} : xI_0 I 102 = zzf := by
  simp only [↓xI_0, ↓xI_101_75, ↓xI_53c, ↓xI_53b, ↓xI_53a, ↓xI_46, ↓xI_17_61, ↓xI_0_63, ↓xI_12_26, ↓xI_12_31, ↓xI_28_5, ↓xI_28_12, ↓xI_28_19, ↓xI_6_1, ↓xI_6_37, ↓xI_6_41, ↓xI_6_45, ↓xI_6_49, ↓xI_6_53, ↓xI_6_57, ↓zup_row, ↓zup1_at, va_up, q_25, Nat.reduceEqDiff, Nat.reduceLeDiff, Nat.reduceAdd, Nat.reduceLT, false_and, and_false, ↓reduceIte]
set_option maxRecDepth 40000 in
theorem x0_81 {I : zI} : xI_0 I 103 = zzf := by
  simp only [↓xI_0, ↓xI_101_75, ↓xI_53c, ↓xI_53b, ↓xI_53a, ↓xI_46, ↓xI_17_61, ↓xI_0_63, ↓xI_12_26, ↓xI_12_31, ↓xI_28_5, ↓xI_28_12, ↓xI_28_19, ↓xI_6_1, ↓xI_6_37, ↓xI_6_41, ↓xI_6_45, ↓xI_6_49, ↓xI_6_53, ↓xI_6_57, ↓zup_row, ↓zup1_at, va_up, q_25, Nat.reduceEqDiff, Nat.reduceLeDiff, Nat.reduceAdd, Nat.reduceLT, false_and, and_false, ↓reduceIte]
set_option maxRecDepth 40000 in
theorem x0_82 {I : zI} : xI_0 I 104 = zzf := by
  simp only [↓xI_0, ↓xI_101_75, ↓xI_53c, ↓xI_53b, ↓xI_53a, ↓xI_46, ↓xI_17_61, ↓xI_0_63, ↓xI_12_26, ↓xI_12_31, ↓xI_28_5, ↓xI_28_12, ↓xI_28_19, ↓xI_6_1, ↓xI_6_37, ↓xI_6_41, ↓xI_6_45, ↓xI_6_49, ↓xI_6_53, ↓xI_6_57, ↓zup_row, ↓zup1_at, va_up, q_25, Nat.reduceEqDiff, Nat.reduceLeDiff, Nat.reduceAdd, Nat.reduceLT, false_and, and_false, ↓reduceIte]
set_option maxRecDepth 40000 in
theorem x0_83 {I : zI} : xI_0 I 105 = zzf := by
  simp only [↓xI_0, ↓xI_101_75, ↓xI_53c, ↓xI_53b, ↓xI_53a, ↓xI_46, ↓xI_17_61, ↓xI_0_63, ↓xI_12_26, ↓xI_12_31, ↓xI_28_5, ↓xI_28_12, ↓xI_28_19, ↓xI_6_1, ↓xI_6_37, ↓xI_6_41, ↓xI_6_45, ↓xI_6_49, ↓xI_6_53, ↓xI_6_57, ↓zup_row, ↓zup1_at, va_up, q_25, Nat.reduceEqDiff, Nat.reduceLeDiff, Nat.reduceAdd, Nat.reduceLT, false_and, and_false, ↓reduceIte]
set_option maxRecDepth 40000 in
theorem x0_84 {I : zI} : xI_0 I 62 = zzf := by
  simp only [↓xI_0, ↓xI_101_75, ↓xI_53c, ↓xI_53b, ↓xI_53a, ↓xI_46, ↓xI_17_61, ↓xI_0_63, ↓xI_12_26, ↓xI_12_31, ↓xI_28_5, ↓xI_28_12, ↓xI_28_19, ↓xI_6_1, ↓xI_6_37, ↓xI_6_41, ↓xI_6_45, ↓xI_6_49, ↓xI_6_53, ↓xI_6_57, ↓zup_row, ↓zup1_at, va_up, q_25, Nat.reduceEqDiff, Nat.reduceLeDiff, Nat.reduceAdd, Nat.reduceLT, false_and, and_false, ↓reduceIte]
set_option maxRecDepth 40000 in
theorem x0_85 {I : zI} : xI_0 I 81 = zzf := by
  simp only [↓xI_0, ↓xI_101_75, ↓xI_53c, ↓xI_53b, ↓xI_53a, ↓xI_46, ↓xI_17_61, ↓xI_0_63, ↓xI_12_26, ↓xI_12_31, ↓xI_28_5, ↓xI_28_12, ↓xI_28_19, ↓xI_6_1, ↓xI_6_37, ↓xI_6_41, ↓xI_6_45, ↓xI_6_49, ↓xI_6_53, ↓xI_6_57, ↓zup_row, ↓zup1_at, va_up, q_25, Nat.reduceEqDiff, Nat.reduceLeDiff, Nat.reduceAdd, Nat.reduceLT, false_and, and_false, ↓reduceIte]
set_option maxRecDepth 40000 in
theorem x0_86 {I : zI} : xI_0 I 64 = zzf := by
  simp only [↓xI_0, ↓xI_101_75, ↓xI_53c, ↓xI_53b, ↓xI_53a, ↓xI_46, ↓xI_17_61, ↓xI_0_63, ↓xI_12_26, ↓xI_12_31, ↓xI_28_5, ↓xI_28_12, ↓xI_28_19, ↓xI_6_1, ↓xI_6_37, ↓xI_6_41, ↓xI_6_45, ↓xI_6_49, ↓xI_6_53, ↓xI_6_57, ↓zup_row, ↓zup1_at, va_up, q_25, Nat.reduceEqDiff, Nat.reduceLeDiff, Nat.reduceAdd, Nat.reduceLT, false_and, and_false, ↓reduceIte]
set_option maxRecDepth 40000 in
theorem x0_87 {I : zI} : xI_0 I 106 = zzf := by
  simp only [↓xI_0, ↓xI_101_75, ↓xI_53c, ↓xI_53b, ↓xI_53a, ↓xI_46, ↓xI_17_61, ↓xI_0_63, ↓xI_12_26, ↓xI_12_31, ↓xI_28_5, ↓xI_28_12, ↓xI_28_19, ↓xI_6_1, ↓xI_6_37, ↓xI_6_41, ↓xI_6_45, ↓xI_6_49, ↓xI_6_53, ↓xI_6_57, ↓zup_row, ↓zup1_at, va_up, q_25, Nat.reduceEqDiff, Nat.reduceLeDiff, Nat.reduceAdd, Nat.reduceLT, false_and, and_false, ↓reduceIte]
set_option maxRecDepth 40000 in
theorem x0_88 {I : zI} : xI_0 I 20 = zzf := by
  simp only [↓xI_0, ↓xI_101_75, ↓xI_53c, ↓xI_53b, ↓xI_53a, ↓xI_46, ↓xI_17_61, ↓xI_0_63, ↓xI_12_26, ↓xI_12_31, ↓xI_28_5, ↓xI_28_12, ↓xI_28_19, ↓xI_6_1, ↓xI_6_37, ↓xI_6_41, ↓xI_6_45, ↓xI_6_49, ↓xI_6_53, ↓xI_6_57, ↓zup_row, ↓zup1_at, va_up, q_25, Nat.reduceEqDiff, Nat.reduceLeDiff, Nat.reduceAdd, Nat.reduceLT, false_and, and_false, ↓reduceIte]
set_option maxRecDepth 40000 in
theorem x0_89 {I : zI} : xI_0 I 21 = zzf := by
  simp only [↓xI_0, ↓xI_101_75, ↓xI_53c, ↓xI_53b, ↓xI_53a, ↓xI_46, ↓xI_17_61, ↓xI_0_63, ↓xI_12_26, ↓xI_12_31, ↓xI_28_5, ↓xI_28_12, ↓xI_28_19, ↓xI_6_1, ↓xI_6_37, ↓xI_6_41, ↓xI_6_45, ↓xI_6_49, ↓xI_6_53, ↓xI_6_57, ↓zup_row, ↓zup1_at, va_up, q_25, Nat.reduceEqDiff, Nat.reduceLeDiff, Nat.reduceAdd, Nat.reduceLT, false_and, and_false, ↓reduceIte]
set_option maxRecDepth 40000 in
theorem x0_90 {I : zI} : xI_0 I 22 = zzf := by
  simp only [↓xI_0, ↓xI_101_75, ↓xI_53c, ↓xI_53b, ↓xI_53a, ↓xI_46, ↓xI_17_61, ↓xI_0_63, ↓xI_12_26, ↓xI_12_31, ↓xI_28_5, ↓xI_28_12, ↓xI_28_19, ↓xI_6_1, ↓xI_6_37, ↓xI_6_41, ↓xI_6_45, ↓xI_6_49, ↓xI_6_53, ↓xI_6_57, ↓zup_row, ↓zup1_at, va_up, q_25, Nat.reduceEqDiff, Nat.reduceLeDiff, Nat.reduceAdd, Nat.reduceLT, false_and, and_false, ↓reduceIte]
set_option maxRecDepth 40000 in
theorem x0_91 {I : zI} : xI_0 I 24 = zzf := by
  simp only [↓xI_0, ↓xI_101_75, ↓xI_53c, ↓xI_53b, ↓xI_53a, ↓xI_46, ↓xI_17_61, ↓xI_0_63, ↓xI_12_26, ↓xI_12_31, ↓xI_28_5, ↓xI_28_12, ↓xI_28_19, ↓xI_6_1, ↓xI_6_37, ↓xI_6_41, ↓xI_6_45, ↓xI_6_49, ↓xI_6_53, ↓xI_6_57, ↓zup_row, ↓zup1_at, va_up, q_25, Nat.reduceEqDiff, Nat.reduceLeDiff, Nat.reduceAdd, Nat.reduceLT, false_and, and_false, ↓reduceIte]
set_option maxRecDepth 40000 in
theorem x0_92 {I : zI} : xI_0 I 89 = r89 := by
  simp only [↓xI_0, ↓xI_101_75, ↓xI_53c, ↓xI_53b, ↓xI_53a, ↓xI_46, ↓xI_17_61, ↓xI_0_63, ↓xI_12_26, ↓xI_12_31, ↓xI_28_5, ↓xI_28_12, ↓xI_28_19, ↓xI_6_1, ↓xI_6_37, ↓xI_6_41, ↓xI_6_45, ↓xI_6_49, ↓xI_6_53, ↓xI_6_57, ↓zup_row, ↓zup1_at, q_25, Nat.reduceEqDiff, Nat.reduceLeDiff, Nat.reduceAdd, Nat.reduceLT, false_and, and_false, ↓reduceIte]
  rfl
set_option maxRecDepth 40000 in
theorem x0_93 {I : zI} : xI_0 I 66 = r107 := by
  simp only [↓xI_0, ↓xI_101_75, ↓xI_53c, ↓xI_53b, ↓xI_53a, ↓xI_46, ↓xI_17_61, ↓xI_0_63, ↓xI_12_26, ↓xI_12_31, ↓xI_28_5, ↓xI_28_12, ↓xI_28_19, ↓xI_6_1, ↓xI_6_37, ↓xI_6_41, ↓xI_6_45, ↓xI_6_49, ↓xI_6_53, ↓xI_6_57, ↓zup_row, ↓zup1_at, q_25, Nat.reduceEqDiff, Nat.reduceLeDiff, Nat.reduceAdd, Nat.reduceLT, false_and, and_false, ↓reduceIte]
  rfl
set_option maxRecDepth 40000 in
theorem x0_94 {I : zI} : xI_0 I 107 = r107 := by
  simp only [↓xI_0, ↓xI_101_75, ↓xI_53c, ↓xI_53b, ↓xI_53a, ↓xI_46, ↓xI_17_61, ↓xI_0_63, ↓xI_12_26, ↓xI_12_31, ↓xI_28_5, ↓xI_28_12, ↓xI_28_19, ↓xI_6_1, ↓xI_6_37, ↓xI_6_41, ↓xI_6_45, ↓xI_6_49, ↓xI_6_53, ↓xI_6_57, ↓zup_row, ↓zup1_at, q_25, Nat.reduceEqDiff, Nat.reduceLeDiff, Nat.reduceAdd, Nat.reduceLT, false_and, and_false, ↓reduceIte]
  rfl
set_option maxRecDepth 40000 in
theorem x0_95 {I : zI} : xI_0 I 1021 = I 1021 := by
  simp only [↓xI_0, ↓xI_101_75, ↓xI_53c, ↓xI_53b, ↓xI_53a, ↓xI_46, ↓xI_17_61, ↓xI_0_63, ↓xI_12_26, ↓xI_12_31, ↓xI_28_5, ↓xI_28_12, ↓xI_28_19, ↓xI_6_1, ↓xI_6_37, ↓xI_6_41, ↓xI_6_45, ↓xI_6_49, ↓xI_6_53, ↓xI_6_57, ↓zup_row, ↓zup1_at, va_up, q_25, Nat.reduceEqDiff, Nat.reduceLeDiff, Nat.reduceAdd, Nat.reduceLT, false_and, and_false, ↓reduceIte]
set_option maxRecDepth 40000 in
theorem x0_96 {I : zI} : xI_0 I 1022 = I 1022 := by
  simp only [↓xI_0, ↓xI_101_75, ↓xI_53c, ↓xI_53b, ↓xI_53a, ↓xI_46, ↓xI_17_61, ↓xI_0_63, ↓xI_12_26, ↓xI_12_31, ↓xI_28_5, ↓xI_28_12, ↓xI_28_19, ↓xI_6_1, ↓xI_6_37, ↓xI_6_41, ↓xI_6_45, ↓xI_6_49, ↓xI_6_53, ↓xI_6_57, ↓zup_row, ↓zup1_at, va_up, q_25, Nat.reduceEqDiff, Nat.reduceLeDiff, Nat.reduceAdd, Nat.reduceLT, false_and, and_false, ↓reduceIte]
theorem iW_mk0 {L : Nat} {xs : Nat → Int32} {I : zI} {J : zJ} (h1 : I 1021 = xs) (h2 : I 1022 0 = Int32.ofNat L) (f0 : I 5 0 = 0)  (f1 : I 5 6 = 0)  (f2 : I 5 7 = 0)  (f3 : I 75 0 = 0)  (f4 : I 75 1 = 0)  (f5 : I 75 2 = 0)  (f6 : I 12 0 = 0)  (f7 : I 12 6 = 0)  (f8 : I 12 7 = 0)  (f9 : I 75 44 = 0)  (f10 : I 75 45 = 0)  (f11 : I 75 46 = 0)  (f12 : I 26 1 = 0)  (f13 : I 26 3 = 0)  (f14 : I 26 6 = 0)  (f15 : I 75 35 = 0)  (f16 : I 75 37 = 0)  (f17 : I 75 38 = 0)  (f18 : I 31 1 = 0)  (f19 : I 31 3 = 0)  (f20 : I 31 6 = 0)  (f21 : I 75 47 = 0)  (f22 : I 75 48 = 0)  (f23 : I 75 49 = 0)  (f24 : I 61 1 = 0)  (f25 : I 75 10 = 0)  (f26 : I 0 7 = 0)  (f27 : I 75 8 = 0)  (f28 : I 0 4 = 0)  (f29 : I 75 42 = 0)  (f30 : I 63 1 = 0)  (f31 : I 75 59 = 0)  (f32 : I 1 2 = 0)  (f33 : I 1 7 = 0)  (f34 : I 5 11 = 0)  (f35 : I 12 11 = 0)  (f36 : I 75 9 = -1)  (f37 : I 75 43 = -1)  (f38 : I 75 25 = -1)  (f39 : I 75 26 = -1)  (f40 : I 75 27 = -1)  (f41 : I 75 29 = 99999)  (f42 : I 1 5 = 1)  (f43 : I 1 6 = 2)  (f44 : I 5 9 = 1)  (f45 : I 5 10 = 2)  (f46 : I 12 9 = 1)  (f47 : I 12 10 = 2)  (f48 : I 6 = zzf)  (f49 : I 7 = zzf)  (f50 : I 8 = zzf)  (f51 : I 9 = zzf)  (f52 : I 10 = zzf)  (f53 : I 76 = zzf)  (f54 : I 77 = zzf)  (f55 : I 78 = zzf)  (f56 : I 79 = zzf)  (f57 : I 80 = zzf)  (f58 : I 13 = zzf)  (f59 : I 14 = zzf)  (f60 : I 15 = zzf)  (f61 : I 16 = zzf)  (f62 : I 17 = zzf)  (f63 : I 97 = zzf)  (f64 : I 98 = zzf)  (f65 : I 99 = zzf)  (f66 : I 100 = zzf)  (f67 : I 101 = zzf)  (f68 : I 27 = zzf)  (f69 : I 28 = zzf)  (f70 : I 29 = zzf)  (f71 : I 30 = zzf)  (f72 : I 93 = zzf)  (f73 : I 94 = zzf)  (f74 : I 95 = zzf)  (f75 : I 96 = zzf)  (f76 : I 32 = zzf)  (f77 : I 33 = zzf)  (f78 : I 34 = zzf)  (f79 : I 35 = zzf)  (f80 : I 102 = zzf)  (f81 : I 103 = zzf)  (f82 : I 104 = zzf)  (f83 : I 105 = zzf)  (f84 : I 62 = zzf)  (f85 : I 81 = zzf)  (f86 : I 64 = zzf)  (f87 : I 106 = zzf)  (f88 : I 20 = zzf)  (f89 : I 21 = zzf)  (f90 : I 22 = zzf)  (f91 : I 24 = zzf) (f_89 : I 89 = r89) (f_66 : I 66 = r107) (f_107 : I 107 = r107) : iW L xs 0 I J := by
  have hk : iKn 0 0 I := ⟨rfl, ⟨0, by decide, rfl, fun f h => absurd h (by omega)⟩, f32, f42, f43, f33⟩
  have ht : iTh 0 (-1) 1 2 0 I := ⟨.inl rfl, f42.symm, f43.symm, f33.symm⟩
  unfold iW
  simp only [h1, h2, f0, f1, f2, f3, f4, f5, f6, f7, f8, f9, f10, f11, f12, f13, f14, f15, f16, f17, f18, f19, f20, f21, f22, f23, f24, f25, f26, f27, f28, f29, f30, f31, f32, f33, f34, f35, f36, f37, f38, f39, f40, f41, f42, f43, f44, f45, f46, f47, f48, f49, f50, f51, f52, f53, f54, f55, f56, f57, f58, f59, f60, f61, f62, f63, f64, f65, f66, f67, f68, f69, f70, f71, f72, f73, f74, f75, f76, f77, f78, f79, f80, f81, f82, f83, f84, f85, f86, f87, f88, f89, f90, f91, f_89, f_66, f_107]
  exact ⟨⟨trivial, trivial⟩, iSd_0, iSd_0, iNt_0, iNt_0, iTx_0, hk, ht, ht, ⟨⟨rfl, rfl, rfl, rfl⟩, r89_b⟩, ⟨rfl, .inl rfl⟩, ⟨rfl, rfl⟩, ⟨rfl, fun t h => .inl (r107_a t h)⟩, ⟨fun _ _ => rfl, fun _ _ => rfl, fun _ _ => rfl, fun _ _ => rfl⟩⟩
theorem iW_0 {L : Nat} {xs : Nat → Int32} {I : zI} {J : zJ} (h1 : I 1021 = xs) (h2 : I 1022 0 = Int32.ofNat L) : iW L xs 0 (xI_0 I) J :=
  iW_mk0 (x0_95.trans h1) ((congrFun x0_96 0).trans h2) x0_0 x0_1 x0_2 x0_3 x0_4 x0_5 x0_6 x0_7 x0_8 x0_9 x0_10 x0_11 x0_12 x0_13 x0_14 x0_15 x0_16 x0_17 x0_18 x0_19 x0_20 x0_21 x0_22 x0_23 x0_24 x0_25 x0_26 x0_27 x0_28 x0_29 x0_30 x0_31 x0_32 x0_33 x0_34 x0_35 x0_36 x0_37 x0_38 x0_39 x0_40 x0_41 x0_42 x0_43 x0_44 x0_45 x0_46 x0_47 x0_48 x0_49 x0_50 x0_51 x0_52 x0_53 x0_54 x0_55 x0_56 x0_57 x0_58 x0_59 x0_60 x0_61 x0_62 x0_63 x0_64 x0_65 x0_66 x0_67 x0_68 x0_69 x0_70 x0_71 x0_72 x0_73 x0_74 x0_75 x0_76 x0_77 x0_78 x0_79 x0_80 x0_81 x0_82 x0_83 x0_84 x0_85 x0_86 x0_87 x0_88 x0_89 x0_90 x0_91 x0_92 x0_93 x0_94
theorem qRk_0 {x y : Int32} (hx : x = -1) (hy : y = -1) : qRk xR_0 (kc x) (kc y) 1 none := by
  rw [hx, hy]
  exact xR_0_ok
theorem q_start (L : Nat) (xs : Nat → Int32) : ∃ w1 w2 : zW, zcl 60 53 [.ref 0] (zal (zw0 L xs)) = some (none, w1) ∧ w1.2.2.2 = 75 ∧ zcl 60 101 [.ref 75] (zal w1) = some (none, w2) ∧ Inv L xs 0 w2 := by
  have e : zw0 L xs = ((zw0 L xs).1, (fun _ => zzl), (fun _ => zzr), 0) := rfl
  have h := sp_53 (d := 58) (I := zup1 (zw0 L xs).1 0 zzf) (J := zup1 (fun _ => zzl) 0 zzl) (R := zup1 (fun _ => zzr) 0 zzr)
  have k := sp_101_75 (d := 59) (I := zup1 (xI_53c (xI_53b (xI_53a (zup1 (zw0 L xs).1 0 zzf)))) 75 zzf) (J := zup1 (xJ_53c (xJ_53b (xJ_53a (zup1 (fun _ => zzl) 0 zzl)))) 75 zzl) (R := zup1 (xR_53c (xR_53b (xR_53a (zup1 (fun _ => zzr) 0 zzr)))) 75 zzr)
  have z := iW_0 (L := L) (xs := xs) (I := (zw0 L xs).1) (J := xJ_0 (fun _ => zzl)) rfl rfl
  have x9 : xI_0 (zw0 L xs).1 75 9 = -1 := x0_36
  have x43 : xI_0 (zw0 L xs).1 75 43 = -1 := x0_37
  have q := qRk_0 x9 x43
  have iv : Inv L xs 0 (xI_0 (zw0 L xs).1, xJ_0 (fun _ => zzl), xR_0, 111) := by
    unfold Inv
    dsimp only
    exact ⟨rfl, ⟨1, none, q⟩, z⟩
  rw [e, zal_mk]
  refine ⟨_, (xI_0 (zw0 L xs).1, xJ_0 (fun _ => zzl), xR_0, 111), h, rfl, ?_, iv⟩
  rw [zal_mk]
  exact k
