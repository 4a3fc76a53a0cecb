/-! ===== evaluating: what the tests of the pure machine come to in a world of 111 cells ===== -/
def zb (p : Prop) [Decidable p] : Int32 := if p then 1 else 0
theorem zb_rz {p : Prop} [Decidable p] : (zb p = 0 ∨ zb p = 1) ↔ True := by
  unfold zb
  split <;> simp
theorem zb_eq {p : Prop} [Decidable p] : zb p = 0 ↔ ¬ p := by
  unfold zb
  split <;> simp_all
theorem zb_ne {p : Prop} [Decidable p] : zb p = 1 ↔ p := by
  unfold zb
  split <;> simp_all
theorem zob_w {ci k : Nat} {I : zI} {J : zJ} {R : zR} {n : Nat} : zob ci k (I, J, R, n) = decide (k < n ∧ (zsh k).1 = 0 ∧ (zsh k).2.1 = ci) := rfl
theorem zaw_w {tg k : Nat} {I : zI} {J : zJ} {R : zR} {n : Nat} : zaw tg k (I, J, R, n) = decide (k < n ∧ (zsh k).1 = tg) := rfl
theorem zar_w {tg k : Nat} {I : zI} {J : zJ} {R : zR} {n : Nat} : zar tg k (I, J, R, n) = decide ((k < n ∨ (1010 ≤ k ∧ k < 1030)) ∧ (zsh k).1 = tg) := rfl
theorem zln_w {k : Nat} {I : zI} {J : zJ} {R : zR} {n : Nat} : zln k (I, J, R, n) = if k = 1021 then (I 1022 0).toNatClampNeg else (zsh k).2.2 := rfl
theorem zld_w {k j : Nat} {I : zI} {J : zJ} {R : zR} {n : Nat} : zld k (I, J, R, n) j = if k < 1000 ∨ k = 1021 then I k j else (zstt k).getD j 0 := rfl
theorem zin_w {i : Int32} {n : Nat} : zin i n = decide (0 ≤ i.toInt ∧ i.toInt < n) := rfl
theorem zcpg_w {tg k1 k2 : Nat} {sp dp n : Int32} {w : zW} : zcpg tg sp dp n k1 k2 w = (zaw tg k1 w && (zaw tg k2 w && decide (0 ≤ sp.toInt ∧ 0 ≤ dp.toInt ∧ 0 ≤ n.toInt ∧ sp.toInt + n.toInt ≤ (zsh k1).2.2 ∧ dp.toInt + n.toInt ≤ (zsh k2).2.2))) := rfl
theorem znr_w {x : Int32} : znr 1 x = x := rfl
theorem qem {p : Prop} : (¬ p ∨ p) ↔ True := ⟨fun _ => trivial, fun _ => (Classical.em p).symm⟩
/-- the references that never change: cell, place, where to -/
def qrefs : List (Nat × Nat × Nat) := [(0, 0, 5), (0, 1, 26), (0, 2, 12), (0, 3, 31), (0, 5, 19), (0, 6, 36), (0, 8, 61), (0, 9, 63), (0, 10, 65), (1, 0, 2), (1, 1, 3), (1, 3, 4), (5, 1, 6), (5, 2, 7), (5, 3, 8), (5, 4, 9), (5, 5, 10), (5, 12, 11), (12, 1, 13), (12, 2, 14), (12, 3, 15), (12, 4, 16), (12, 5, 17), (12, 12, 18), (19, 1, 20), (19, 2, 21), (19, 3, 22), (19, 4, 23), (19, 5, 24), (19, 12, 25), (26, 0, 27), (26, 2, 28), (26, 4, 29), (26, 5, 30), (31, 0, 32), (31, 2, 33), (31, 4, 34), (31, 5, 35), (36, 0, 37), (36, 1, 41), (36, 2, 45), (36, 3, 49), (36, 4, 53), (36, 5, 57), (37, 0, 38), (37, 1, 39), (37, 3, 40), (41, 0, 42), (41, 1, 43), (41, 3, 44), (45, 0, 46), (45, 1, 47), (45, 3, 48), (49, 0, 50), (49, 1, 51), (49, 3, 52), (53, 0, 54), (53, 1, 55), (53, 3, 56), (57, 0, 58), (57, 1, 59), (57, 3, 60), (61, 0, 62), (63, 0, 64), (65, 0, 66), (65, 1, 67), (65, 2, 68), (68, 0, 69), (68, 1, 70), (68, 2, 71), (68, 3, 72), (68, 4, 73), (68, 5, 74), (75, 3, 76), (75, 4, 77), (75, 5, 78), (75, 6, 79), (75, 7, 80), (75, 13, 81), (75, 14, 82), (75, 15, 83), (75, 16, 84), (75, 17, 85), (75, 18, 86), (75, 19, 87), (75, 20, 88), (75, 24, 89), (75, 28, 90), (75, 33, 91), (75, 34, 92), (75, 36, 93), (75, 39, 94), (75, 40, 95), (75, 41, 96), (75, 50, 97), (75, 51, 98), (75, 52, 99), (75, 53, 100), (75, 54, 101), (75, 55, 102), (75, 56, 103), (75, 57, 104), (75, 58, 105), (75, 60, 106), (75, 61, 107), (75, 62, 108), (75, 63, 109), (75, 64, 110)]
/-- where the references go: following of the three tables, the reader's kitchen; all others stay -/
def qRk (R : zR) (a b c : Nat) (i : Option Nat) : Prop := (∀ q ∈ qrefs, R q.1 q.2.1 = some q.2.2) ∧ R 5 8 = some a ∧ R 12 8 = some b ∧ R 19 8 = some c ∧ R 61 3 = i
theorem zup_at {α : Type} {f : Nat → Nat → α} {k j a b : Nat} {x : α} : zup f k j x a b = if a = k ∧ b = j then x else f a b := by
  unfold zup va_up
  by_cases h : a = k
  · subst h
    by_cases h2 : b = j <;> simp [h2]
  · simp [h]
theorem qRk_put {R : zR} {a b c k j q : Nat} {i : Option Nat} (h : qRk R a b c i) (hk : (k = 5 ∨ k = 12 ∨ k = 19) ∧ j = 8 ∨ k = 61 ∧ j = 3) : qRk (zup R k j (some q)) (if k = 5 then q else a) (if k = 12 then q else b) (if k = 19 then q else c) (if k = 61 then some q else i) := by
  obtain ⟨h1, h2, h3, h4, h5⟩ := h
  have key : ∀ q ∈ qrefs, ¬ (((q.1 = 5 ∨ q.1 = 12 ∨ q.1 = 19) ∧ q.2.1 = 8) ∨ q.1 = 61 ∧ q.2.1 = 3) := by decide
  refine ⟨fun z hz => ?_, ?_, ?_, ?_, ?_⟩
  · have n := key z hz
    rw [zup_at, if_neg]
    · exact h1 z hz
    · rintro ⟨e1, e2⟩
      rw [e1, e2] at n
      exact n hk
  all_goals
    rw [zup_at]
    rcases hk with ⟨rfl | rfl | rfl, rfl⟩ | ⟨rfl, rfl⟩ <;> simp [h2, h3, h4, h5]
/-- one of the three tables -/
def zTb (t : Nat) : Prop := t = 5 ∨ t = 12 ∨ t = 19
/-- one of the seven kitchens -/
def zKt (k : Nat) : Prop := k = 1 ∨ k = 37 ∨ k = 41 ∨ k = 45 ∨ k = 49 ∨ k = 53 ∨ k = 57
section QR
variable {R : zR} {a b c : Nat} {i : Option Nat}
theorem zr_0_0 (h : qRk R a b c i) : R 0 0 = some 5 := h.1 (0, 0, 5) (by decide)
theorem zr_0_1 (h : qRk R a b c i) : R 0 1 = some 26 := h.1 (0, 1, 26) (by decide)
theorem zr_0_2 (h : qRk R a b c i) : R 0 2 = some 12 := h.1 (0, 2, 12) (by decide)
theorem zr_0_3 (h : qRk R a b c i) : R 0 3 = some 31 := h.1 (0, 3, 31) (by decide)
theorem zr_0_5 (h : qRk R a b c i) : R 0 5 = some 19 := h.1 (0, 5, 19) (by decide)
theorem zr_0_6 (h : qRk R a b c i) : R 0 6 = some 36 := h.1 (0, 6, 36) (by decide)
theorem zr_0_8 (h : qRk R a b c i) : R 0 8 = some 61 := h.1 (0, 8, 61) (by decide)
theorem zr_0_9 (h : qRk R a b c i) : R 0 9 = some 63 := h.1 (0, 9, 63) (by decide)
theorem zr_0_10 (h : qRk R a b c i) : R 0 10 = some 65 := h.1 (0, 10, 65) (by decide)
theorem zr_1_0 (h : qRk R a b c i) : R 1 0 = some 2 := h.1 (1, 0, 2) (by decide)
theorem zr_1_1 (h : qRk R a b c i) : R 1 1 = some 3 := h.1 (1, 1, 3) (by decide)
theorem zr_1_3 (h : qRk R a b c i) : R 1 3 = some 4 := h.1 (1, 3, 4) (by decide)
theorem zr_5_1 (h : qRk R a b c i) : R 5 1 = some 6 := h.1 (5, 1, 6) (by decide)
theorem zr_5_2 (h : qRk R a b c i) : R 5 2 = some 7 := h.1 (5, 2, 7) (by decide)
theorem zr_5_3 (h : qRk R a b c i) : R 5 3 = some 8 := h.1 (5, 3, 8) (by decide)
theorem zr_5_4 (h : qRk R a b c i) : R 5 4 = some 9 := h.1 (5, 4, 9) (by decide)
theorem zr_5_5 (h : qRk R a b c i) : R 5 5 = some 10 := h.1 (5, 5, 10) (by decide)
theorem zr_5_12 (h : qRk R a b c i) : R 5 12 = some 11 := h.1 (5, 12, 11) (by decide)
theorem zr_12_1 (h : qRk R a b c i) : R 12 1 = some 13 := h.1 (12, 1, 13) (by decide)
theorem zr_12_2 (h : qRk R a b c i) : R 12 2 = some 14 := h.1 (12, 2, 14) (by decide)
theorem zr_12_3 (h : qRk R a b c i) : R 12 3 = some 15 := h.1 (12, 3, 15) (by decide)
theorem zr_12_4 (h : qRk R a b c i) : R 12 4 = some 16 := h.1 (12, 4, 16) (by decide)
theorem zr_12_5 (h : qRk R a b c i) : R 12 5 = some 17 := h.1 (12, 5, 17) (by decide)
theorem zr_12_12 (h : qRk R a b c i) : R 12 12 = some 18 := h.1 (12, 12, 18) (by decide)
theorem zr_19_1 (h : qRk R a b c i) : R 19 1 = some 20 := h.1 (19, 1, 20) (by decide)
theorem zr_19_2 (h : qRk R a b c i) : R 19 2 = some 21 := h.1 (19, 2, 21) (by decide)
theorem zr_19_3 (h : qRk R a b c i) : R 19 3 = some 22 := h.1 (19, 3, 22) (by decide)
theorem zr_19_4 (h : qRk R a b c i) : R 19 4 = some 23 := h.1 (19, 4, 23) (by decide)
theorem zr_19_5 (h : qRk R a b c i) : R 19 5 = some 24 := h.1 (19, 5, 24) (by decide)
theorem zr_19_12 (h : qRk R a b c i) : R 19 12 = some 25 := h.1 (19, 12, 25) (by decide)
theorem zr_26_0 (h : qRk R a b c i) : R 26 0 = some 27 := h.1 (26, 0, 27) (by decide)
theorem zr_26_2 (h : qRk R a b c i) : R 26 2 = some 28 := h.1 (26, 2, 28) (by decide)
theorem zr_26_4 (h : qRk R a b c i) : R 26 4 = some 29 := h.1 (26, 4, 29) (by decide)
theorem zr_26_5 (h : qRk R a b c i) : R 26 5 = some 30 := h.1 (26, 5, 30) (by decide)
theorem zr_31_0 (h : qRk R a b c i) : R 31 0 = some 32 := h.1 (31, 0, 32) (by decide)
theorem zr_31_2 (h : qRk R a b c i) : R 31 2 = some 33 := h.1 (31, 2, 33) (by decide)
theorem zr_31_4 (h : qRk R a b c i) : R 31 4 = some 34 := h.1 (31, 4, 34) (by decide)
theorem zr_31_5 (h : qRk R a b c i) : R 31 5 = some 35 := h.1 (31, 5, 35) (by decide)
theorem zr_36_0 (h : qRk R a b c i) : R 36 0 = some 37 := h.1 (36, 0, 37) (by decide)
theorem zr_36_1 (h : qRk R a b c i) : R 36 1 = some 41 := h.1 (36, 1, 41) (by decide)
theorem zr_36_2 (h : qRk R a b c i) : R 36 2 = some 45 := h.1 (36, 2, 45) (by decide)
theorem zr_36_3 (h : qRk R a b c i) : R 36 3 = some 49 := h.1 (36, 3, 49) (by decide)
theorem zr_36_4 (h : qRk R a b c i) : R 36 4 = some 53 := h.1 (36, 4, 53) (by decide)
theorem zr_36_5 (h : qRk R a b c i) : R 36 5 = some 57 := h.1 (36, 5, 57) (by decide)
theorem zr_37_0 (h : qRk R a b c i) : R 37 0 = some 38 := h.1 (37, 0, 38) (by decide)
theorem zr_37_1 (h : qRk R a b c i) : R 37 1 = some 39 := h.1 (37, 1, 39) (by decide)
theorem zr_37_3 (h : qRk R a b c i) : R 37 3 = some 40 := h.1 (37, 3, 40) (by decide)
theorem zr_41_0 (h : qRk R a b c i) : R 41 0 = some 42 := h.1 (41, 0, 42) (by decide)
theorem zr_41_1 (h : qRk R a b c i) : R 41 1 = some 43 := h.1 (41, 1, 43) (by decide)
theorem zr_41_3 (h : qRk R a b c i) : R 41 3 = some 44 := h.1 (41, 3, 44) (by decide)
theorem zr_45_0 (h : qRk R a b c i) : R 45 0 = some 46 := h.1 (45, 0, 46) (by decide)
theorem zr_45_1 (h : qRk R a b c i) : R 45 1 = some 47 := h.1 (45, 1, 47) (by decide)
theorem zr_45_3 (h : qRk R a b c i) : R 45 3 = some 48 := h.1 (45, 3, 48) (by decide)
theorem zr_49_0 (h : qRk R a b c i) : R 49 0 = some 50 := h.1 (49, 0, 50) (by decide)
theorem zr_49_1 (h : qRk R a b c i) : R 49 1 = some 51 := h.1 (49, 1, 51) (by decide)
theorem zr_49_3 (h : qRk R a b c i) : R 49 3 = some 52 := h.1 (49, 3, 52) (by decide)
theorem zr_53_0 (h : qRk R a b c i) : R 53 0 = some 54 := h.1 (53, 0, 54) (by decide)
theorem zr_53_1 (h : qRk R a b c i) : R 53 1 = some 55 := h.1 (53, 1, 55) (by decide)
theorem zr_53_3 (h : qRk R a b c i) : R 53 3 = some 56 := h.1 (53, 3, 56) (by decide)
theorem zr_57_0 (h : qRk R a b c i) : R 57 0 = some 58 := h.1 (57, 0, 58) (by decide)
theorem zr_57_1 (h : qRk R a b c i) : R 57 1 = some 59 := h.1 (57, 1, 59) (by decide)
theorem zr_57_3 (h : qRk R a b c i) : R 57 3 = some 60 := h.1 (57, 3, 60) (by decide)
theorem zr_61_0 (h : qRk R a b c i) : R 61 0 = some 62 := h.1 (61, 0, 62) (by decide)
theorem zr_63_0 (h : qRk R a b c i) : R 63 0 = some 64 := h.1 (63, 0, 64) (by decide)
theorem zr_65_0 (h : qRk R a b c i) : R 65 0 = some 66 := h.1 (65, 0, 66) (by decide)
theorem zr_65_1 (h : qRk R a b c i) : R 65 1 = some 67 := h.1 (65, 1, 67) (by decide)
theorem zr_65_2 (h : qRk R a b c i) : R 65 2 = some 68 := h.1 (65, 2, 68) (by decide)
theorem zr_68_0 (h : qRk R a b c i) : R 68 0 = some 69 := h.1 (68, 0, 69) (by decide)
theorem zr_68_1 (h : qRk R a b c i) : R 68 1 = some 70 := h.1 (68, 1, 70) (by decide)
theorem zr_68_2 (h : qRk R a b c i) : R 68 2 = some 71 := h.1 (68, 2, 71) (by decide)
theorem zr_68_3 (h : qRk R a b c i) : R 68 3 = some 72 := h.1 (68, 3, 72) (by decide)
theorem zr_68_4 (h : qRk R a b c i) : R 68 4 = some 73 := h.1 (68, 4, 73) (by decide)
theorem zr_68_5 (h : qRk R a b c i) : R 68 5 = some 74 := h.1 (68, 5, 74) (by decide)
theorem zr_75_3 (h : qRk R a b c i) : R 75 3 = some 76 := h.1 (75, 3, 76) (by decide)
theorem zr_75_4 (h : qRk R a b c i) : R 75 4 = some 77 := h.1 (75, 4, 77) (by decide)
theorem zr_75_5 (h : qRk R a b c i) : R 75 5 = some 78 := h.1 (75, 5, 78) (by decide)
theorem zr_75_6 (h : qRk R a b c i) : R 75 6 = some 79 := h.1 (75, 6, 79) (by decide)
theorem zr_75_7 (h : qRk R a b c i) : R 75 7 = some 80 := h.1 (75, 7, 80) (by decide)
theorem zr_75_13 (h : qRk R a b c i) : R 75 13 = some 81 := h.1 (75, 13, 81) (by decide)
theorem zr_75_14 (h : qRk R a b c i) : R 75 14 = some 82 := h.1 (75, 14, 82) (by decide)
theorem zr_75_15 (h : qRk R a b c i) : R 75 15 = some 83 := h.1 (75, 15, 83) (by decide)
theorem zr_75_16 (h : qRk R a b c i) : R 75 16 = some 84 := h.1 (75, 16, 84) (by decide)
theorem zr_75_17 (h : qRk R a b c i) : R 75 17 = some 85 := h.1 (75, 17, 85) (by decide)
theorem zr_75_18 (h : qRk R a b c i) : R 75 18 = some 86 := h.1 (75, 18, 86) (by decide)
theorem zr_75_19 (h : qRk R a b c i) : R 75 19 = some 87 := h.1 (75, 19, 87) (by decide)
theorem zr_75_20 (h : qRk R a b c i) : R 75 20 = some 88 := h.1 (75, 20, 88) (by decide)
theorem zr_75_24 (h : qRk R a b c i) : R 75 24 = some 89 := h.1 (75, 24, 89) (by decide)
theorem zr_75_28 (h : qRk R a b c i) : R 75 28 = some 90 := h.1 (75, 28, 90) (by decide)
theorem zr_75_33 (h : qRk R a b c i) : R 75 33 = some 91 := h.1 (75, 33, 91) (by decide)
theorem zr_75_34 (h : qRk R a b c i) : R 75 34 = some 92 := h.1 (75, 34, 92) (by decide)
theorem zr_75_36 (h : qRk R a b c i) : R 75 36 = some 93 := h.1 (75, 36, 93) (by decide)
theorem zr_75_39 (h : qRk R a b c i) : R 75 39 = some 94 := h.1 (75, 39, 94) (by decide)
theorem zr_75_40 (h : qRk R a b c i) : R 75 40 = some 95 := h.1 (75, 40, 95) (by decide)
theorem zr_75_41 (h : qRk R a b c i) : R 75 41 = some 96 := h.1 (75, 41, 96) (by decide)
theorem zr_75_50 (h : qRk R a b c i) : R 75 50 = some 97 := h.1 (75, 50, 97) (by decide)
theorem zr_75_51 (h : qRk R a b c i) : R 75 51 = some 98 := h.1 (75, 51, 98) (by decide)
theorem zr_75_52 (h : qRk R a b c i) : R 75 52 = some 99 := h.1 (75, 52, 99) (by decide)
theorem zr_75_53 (h : qRk R a b c i) : R 75 53 = some 100 := h.1 (75, 53, 100) (by decide)
theorem zr_75_54 (h : qRk R a b c i) : R 75 54 = some 101 := h.1 (75, 54, 101) (by decide)
theorem zr_75_55 (h : qRk R a b c i) : R 75 55 = some 102 := h.1 (75, 55, 102) (by decide)
theorem zr_75_56 (h : qRk R a b c i) : R 75 56 = some 103 := h.1 (75, 56, 103) (by decide)
theorem zr_75_57 (h : qRk R a b c i) : R 75 57 = some 104 := h.1 (75, 57, 104) (by decide)
theorem zr_75_58 (h : qRk R a b c i) : R 75 58 = some 105 := h.1 (75, 58, 105) (by decide)
theorem zr_75_60 (h : qRk R a b c i) : R 75 60 = some 106 := h.1 (75, 60, 106) (by decide)
theorem zr_75_61 (h : qRk R a b c i) : R 75 61 = some 107 := h.1 (75, 61, 107) (by decide)
theorem zr_75_62 (h : qRk R a b c i) : R 75 62 = some 108 := h.1 (75, 62, 108) (by decide)
theorem zr_75_63 (h : qRk R a b c i) : R 75 63 = some 109 := h.1 (75, 63, 109) (by decide)
theorem zr_75_64 (h : qRk R a b c i) : R 75 64 = some 110 := h.1 (75, 64, 110) (by decide)
end QR
section QC
variable {m n c : Nat}
theorem q_lt1 (h : m < 2147483648) (h2 : c < 2147483648) : (nI m < (OfNat.ofNat c : Int32)) ↔ m < c := nI_ltI h h2
theorem q_lt2 (h : m < 2147483648) (h2 : c < 2147483648) : ((OfNat.ofNat c : Int32) < nI m) ↔ c < m := nI_ltI h2 h
theorem q_le1 (h : m < 2147483648) (h2 : c < 2147483648) : (nI m ≤ (OfNat.ofNat c : Int32)) ↔ m ≤ c := nI_leI h h2
theorem q_le2 (h : m < 2147483648) (h2 : c < 2147483648) : ((OfNat.ofNat c : Int32) ≤ nI m) ↔ c ≤ m := nI_leI h2 h
theorem q_eq1 (h : m < 2147483648) (h2 : c < 2147483648) : (nI m = (OfNat.ofNat c : Int32)) ↔ m = c := nI_eq h h2
theorem q_eq2 (h : m < 2147483648) (h2 : c < 2147483648) : ((OfNat.ofNat c : Int32) = nI m) ↔ c = m := nI_eq h2 h
theorem q_lt3 (h : m < 2147483648) (h2 : n < 2147483648) : nI m < nI n ↔ m < n := nI_ltI h h2
theorem q_le3 (h : m < 2147483648) (h2 : n < 2147483648) : nI m ≤ nI n ↔ m ≤ n := nI_leI h h2
theorem q_eq3 (h : m < 2147483648) (h2 : n < 2147483648) : nI m = nI n ↔ m = n := nI_eq h h2
theorem q_ti (h : m < 2147483648) : (nI m).toInt = (m : Int) := nI_toInt h
theorem q_cl (h : m < 2147483648) : (nI m).toNatClampNeg = m := nI_clamp h
theorem q_add : nI m + (OfNat.ofNat c : Int32) = nI (m + c) := nI_add m c
theorem q_add2 : (OfNat.ofNat c : Int32) + nI m = nI (c + m) := nI_add c m
theorem q_add3 : nI m + nI n = nI (m + n) := nI_add m n
theorem q_sub (h : c ≤ m) : nI m - (OfNat.ofNat c : Int32) = nI (m - c) := pk_sub h
theorem q_mul : nI m * (OfNat.ofNat c : Int32) = nI (m * c) := pk_mul m c
theorem q_mul2 : (OfNat.ofNat c : Int32) * nI m = nI (c * m) := pk_mul c m
/-- a place of a row -/
theorem q_ix (h : m < n) (hn : n < 2147483648) : (0 ≤ (nI m).toInt ∧ (nI m).toInt < (n : Int)) ↔ True := by
  rw [nI_toInt (by omega)]
  simp
  omega
theorem q_ofI {x k : Int} (h : 0 ≤ x) (h2 : x ≤ k) : 0 ≤ x ∧ x < k + 1 := by omega
/-- an argument in a range is a natural number -/
theorem q_of {x : Int32} {k : Nat} (hk : k < 2147483647) (h : 0 ≤ x) (h2 : x ≤ nI k) : ∃ j : Nat, j ≤ k ∧ x = nI j := by
  have k1 := Int32.le_iff_toInt_le.mp h
  have k2 := Int32.le_iff_toInt_le.mp h2
  rw [nI_toInt (by omega)] at k2
  have k3 : (0 : Int32).toInt = 0 := rfl
  rw [k3] at k1
  obtain ⟨j, hj, e1⟩ := vp_in_of (x := x) (n := k + 1) (vp_in_iff.mpr (q_ofI k1 k2)) (by omega)
  exact ⟨j, Nat.le_of_lt_succ hj, e1⟩
end QC
theorem q_l0 : (0 : Int32) = nI 0 := rfl
theorem q_l1 : (1 : Int32) = nI 1 := rfl
theorem q_l2 : (2 : Int32) = nI 2 := rfl
theorem q_l3 : (3 : Int32) = nI 3 := rfl
theorem q_l4 : (4 : Int32) = nI 4 := rfl
theorem q_l5 : (5 : Int32) = nI 5 := rfl
theorem q_l6 : (6 : Int32) = nI 6 := rfl
theorem q_l7 : (7 : Int32) = nI 7 := rfl
theorem q_l8 : (8 : Int32) = nI 8 := rfl
theorem q_l9 : (9 : Int32) = nI 9 := rfl
theorem q_l10 : (10 : Int32) = nI 10 := rfl
theorem q_l11 : (11 : Int32) = nI 11 := rfl
theorem q_l12 : (12 : Int32) = nI 12 := rfl
theorem q_l13 : (13 : Int32) = nI 13 := rfl
theorem q_l14 : (14 : Int32) = nI 14 := rfl
theorem q_l15 : (15 : Int32) = nI 15 := rfl
theorem q_l16 : (16 : Int32) = nI 16 := rfl
theorem q_l17 : (17 : Int32) = nI 17 := rfl
theorem q_l18 : (18 : Int32) = nI 18 := rfl
theorem q_l19 : (19 : Int32) = nI 19 := rfl
theorem q_l20 : (20 : Int32) = nI 20 := rfl
theorem q_l21 : (21 : Int32) = nI 21 := rfl
theorem q_l22 : (22 : Int32) = nI 22 := rfl
theorem q_l23 : (23 : Int32) = nI 23 := rfl
theorem q_l24 : (24 : Int32) = nI 24 := rfl
theorem q_l25 : (25 : Int32) = nI 25 := rfl
theorem q_l26 : (26 : Int32) = nI 26 := rfl
theorem q_l27 : (27 : Int32) = nI 27 := rfl
theorem q_l28 : (28 : Int32) = nI 28 := rfl
theorem q_l29 : (29 : Int32) = nI 29 := rfl
theorem q_l30 : (30 : Int32) = nI 30 := rfl
theorem q_l31 : (31 : Int32) = nI 31 := rfl
theorem q_l32 : (32 : Int32) = nI 32 := rfl
theorem q_l33 : (33 : Int32) = nI 33 := rfl
theorem q_l34 : (34 : Int32) = nI 34 := rfl
theorem q_l35 : (35 : Int32) = nI 35 := rfl
theorem q_l36 : (36 : Int32) = nI 36 := rfl
theorem q_l37 : (37 : Int32) = nI 37 := rfl
theorem q_l38 : (38 : Int32) = nI 38 := rfl
theorem q_l39 : (39 : Int32) = nI 39 := rfl
theorem q_l40 : (40 : Int32) = nI 40 := rfl
theorem q_l42 : (42 : Int32) = nI 42 := rfl
theorem q_l47 : (47 : Int32) = nI 47 := rfl
theorem q_l48 : (48 : Int32) = nI 48 := rfl
theorem q_l50 : (50 : Int32) = nI 50 := rfl
theorem q_l57 : (57 : Int32) = nI 57 := rfl
theorem q_l59 : (59 : Int32) = nI 59 := rfl
theorem q_l60 : (60 : Int32) = nI 60 := rfl
theorem q_l61 : (61 : Int32) = nI 61 := rfl
theorem q_l62 : (62 : Int32) = nI 62 := rfl
theorem q_l63 : (63 : Int32) = nI 63 := rfl
theorem q_l64 : (64 : Int32) = nI 64 := rfl
theorem q_l90 : (90 : Int32) = nI 90 := rfl
theorem q_l97 : (97 : Int32) = nI 97 := rfl
theorem q_l98 : (98 : Int32) = nI 98 := rfl
theorem q_l99 : (99 : Int32) = nI 99 := rfl
theorem q_l100 : (100 : Int32) = nI 100 := rfl
theorem q_l101 : (101 : Int32) = nI 101 := rfl
theorem q_l102 : (102 : Int32) = nI 102 := rfl
theorem q_l104 : (104 : Int32) = nI 104 := rfl
theorem q_l105 : (105 : Int32) = nI 105 := rfl
theorem q_l108 : (108 : Int32) = nI 108 := rfl
theorem q_l110 : (110 : Int32) = nI 110 := rfl
theorem q_l111 : (111 : Int32) = nI 111 := rfl
theorem q_l114 : (114 : Int32) = nI 114 := rfl
theorem q_l115 : (115 : Int32) = nI 115 := rfl
theorem q_l117 : (117 : Int32) = nI 117 := rfl
theorem q_l118 : (118 : Int32) = nI 118 := rfl
theorem q_l124 : (124 : Int32) = nI 124 := rfl
theorem q_l126 : (126 : Int32) = nI 126 := rfl
theorem q_l127 : (127 : Int32) = nI 127 := rfl
theorem q_l128 : (128 : Int32) = nI 128 := rfl
theorem q_l300 : (300 : Int32) = nI 300 := rfl
theorem q_l600 : (600 : Int32) = nI 600 := rfl
theorem q_l900 : (900 : Int32) = nI 900 := rfl
theorem q_l999 : (999 : Int32) = nI 999 := rfl
theorem q_l1000 : (1000 : Int32) = nI 1000 := rfl
theorem q_l1999 : (1999 : Int32) = nI 1999 := rfl
theorem q_l5000 : (5000 : Int32) = nI 5000 := rfl
theorem q_l9999 : (9999 : Int32) = nI 9999 := rfl
theorem q_l10001 : (10001 : Int32) = nI 10001 := rfl
theorem q_l99999 : (99999 : Int32) = nI 99999 := rfl
theorem q_l2000000000 : (2000000000 : Int32) = nI 2000000000 := rfl
theorem zb_pos {p : Prop} [Decidable p] (h : p) : zb p = 1 := if_pos h
theorem zb_neg {p : Prop} [Decidable p] (h : ¬ p) : zb p = 0 := if_neg h
theorem q_ix2 {m n : Nat} : (0 ≤ (m : Int) ∧ (m : Int) < (n : Int)) ↔ m < n := by omega
/-! one instruction at a time; of two roads only the one that is gone is looked at -/
section QW
variable {cl : zA} {K : zC → Prop} {Q : Option Value → zW → Prop}
theorem zq_n {c : zC} : zwp1 cl K Q (.inl c) = K c := rfl
theorem zq_br {b : Bool} {c1 c2 : zC} : zwp1 cl K Q (.inr (.inl (b, c1, c2))) = (if b = true then K c1 else K c2) := by
  cases b <;> simp [zwp1]
theorem zq_gd {b : Bool} {c : zC} : zwp1 cl K Q (.inr (.inr (.inl (b, c)))) = (if b = true then K c else False) := by
  cases b <;> simp [zwp1]
theorem zq_cl {b : Bool} {y : Nat} {as : List Value} {c : zC} : zwp1 cl K Q (.inr (.inr (.inr (.inl (b, y, as, c))))) = (if b = true then (match cl y as c.2.2.2 with
    | some (r, w1) => K (c.1, c.2.1, r.toList ++ c.2.2.1, w1)
    | none => False) else False) := by
  cases b
  · simp [zwp1]
  · simp [zwp1]
    exact Iff.rfl
theorem zq_rt {b : Bool} {v : Option Value} {w : zW} : zwp1 cl K Q (.inr (.inr (.inr (.inr (.inl (b, v, w)))))) = (if b = true then Q v w else False) := by
  cases b <;> simp [zwp1]
theorem zq_sw {x : Int32} {r : List (Int32 × Nat)} {e : Nat} {c : zC} : zwp1 cl K Q (.inr (.inr (.inr (.inr (.inr (.inl (x, r, e, c))))))) = zsws x (fun t => K (t, c.2)) r e := rfl
theorem zq_st {u : Unit} : zwp1 cl K Q (.inr (.inr (.inr (.inr (.inr (.inr u)))))) = False := rfl
end QW
/-- a place below the end: it is in the row, it is read as that place, the next one -/
theorem q_row {m n : Nat} (h : m < n) (hn : n < 2147483647) : ((0 ≤ (nI m).toInt ∧ (nI m).toInt < (n : Int)) ↔ True) ∧ (nI m).toNatClampNeg = m ∧ nI m + 1 = nI (m + 1) :=
  ⟨q_ix h (by omega), q_cl (by omega), q_add3 (n := 1)⟩
theorem q_tlt {m n : Nat} (h : m < n) (hn : n < 2147483648) : nI m < nI n := (q_lt3 (by omega) hn).mpr h
theorem q_tne {m n : Nat} (h : m < n) (hn : n < 2147483648) : ¬ nI m = nI n := fun e => absurd ((q_eq3 (by omega) hn).mp e) (by omega)
theorem q_tle {m n : Nat} (h : m ≤ n) (hn : n < 2147483648) : nI m ≤ nI n := (q_le3 (by omega) hn).mpr h
theorem q_tnl {m n : Nat} (h : n ≤ m) (hm : m < 2147483648) : ¬ nI m < nI n := fun e => absurd ((q_lt3 hm (by omega)).mp e) (by omega)
theorem q_tnle {m n : Nat} (h : n < m) (hm : m < 2147483648) : ¬ nI m ≤ nI n := fun e => absurd ((q_le3 hm (by omega)).mp e) (by omega)
theorem q_10 : ((1 : Int32) = 0) ↔ False := by decide
theorem q_01 : ((0 : Int32) = 1) ↔ False := by decide
theorem q_00 : ((0 : Int32) < 0) ↔ False := by decide
theorem q_m1 : ((-1 : Int32) < 0) ↔ True := by decide
theorem q_m2 : ((-2 : Int32) < 0) ↔ True := by decide
theorem q_m3 : ((-3 : Int32) < 0) ↔ True := by decide
theorem q_m4 : ((-4 : Int32) < 0) ↔ True := by decide
theorem q_m5 : ((-5 : Int32) < 0) ↔ True := by decide
theorem q_n1 : ((-1 : Int32) = -1) ↔ True := by decide
theorem q_n2 : ((0 : Int32) = -1) ↔ False := by decide
