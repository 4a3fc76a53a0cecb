/-! ===== copies of tables and notes ===== -/
theorem zcp_at {α : Type} {f : Nat → Nat → α} {k1 p1 k2 p2 n a : Nat} : zcp f k1 p1 k2 p2 n a = if a = k2 then va_cpy (f k1) (f k2) p1 p2 n else f a := rfl
def zN (n : Nat) (f : Nat → Int32) : Prop := ∀ j, n ≤ j → f j = 0
theorem q_cpy {n : Nat} {f g : Nat → Int32} (hf : zN n f) (hg : zN n g) : va_cpy f g 0 0 n = f := by
  funext j
  unfold va_cpy
  by_cases h : 0 ≤ j ∧ j < 0 + n
  · rw [if_pos h]
    congr 1
    omega
  · rw [if_neg h, hf j (by omega), hg j (by omega)]
theorem q_cpl : ((0 ≤ (0 : Int32).toInt ∧ 0 ≤ (0 : Int32).toInt ∧ 0 ≤ (6 : Int32).toInt ∧ (0 : Int32).toInt + (6 : Int32).toInt ≤ ((6 : Nat) : Int) ∧ (0 : Int32).toInt + (6 : Int32).toInt ≤ ((6 : Nat) : Int)) ↔ True) ∧ ((0 ≤ (0 : Int32).toInt ∧ 0 ≤ (0 : Int32).toInt ∧ 0 ≤ (24 : Int32).toInt ∧ (0 : Int32).toInt + (24 : Int32).toInt ≤ ((24 : Nat) : Int) ∧ (0 : Int32).toInt + (24 : Int32).toInt ≤ ((24 : Nat) : Int)) ↔ True) ∧ ((0 ≤ (0 : Int32).toInt ∧ 0 ≤ (0 : Int32).toInt ∧ 0 ≤ (5 : Int32).toInt ∧ (0 : Int32).toInt + (5 : Int32).toInt ≤ ((5 : Nat) : Int) ∧ (0 : Int32).toInt + (5 : Int32).toInt ≤ ((5 : Nat) : Int)) ↔ True) ∧ ((0 ≤ (0 : Int32).toInt ∧ 0 ≤ (0 : Int32).toInt ∧ 0 ≤ (10 : Int32).toInt ∧ (0 : Int32).toInt + (10 : Int32).toInt ≤ ((10 : Nat) : Int) ∧ (0 : Int32).toInt + (10 : Int32).toInt ≤ ((10 : Nat) : Int)) ↔ True) ∧ ((0 ≤ (0 : Int32).toInt ∧ 0 ≤ (0 : Int32).toInt ∧ 0 ≤ (8 : Int32).toInt ∧ (0 : Int32).toInt + (8 : Int32).toInt ≤ ((8 : Nat) : Int) ∧ (0 : Int32).toInt + (8 : Int32).toInt ≤ ((8 : Nat) : Int)) ↔ True) ∧ (0 : Int32).toNatClampNeg = 0 ∧ (5 : Int32).toNatClampNeg = 5 ∧ (6 : Int32).toNatClampNeg = 6 ∧ (24 : Int32).toNatClampNeg = 24 ∧ (10 : Int32).toNatClampNeg = 10 ∧ (8 : Int32).toNatClampNeg = 8 := by decide
section QT
variable {d : Nat} {I : zI} {J : zJ} {R : zR} {a b c K : Nat} {i : Option Nat} {S : gS} {D : gD}
set_option maxRecDepth 40000 in
theorem sp_30_19 (hR : qRk R a b c i) (hf : R 5 8 = some K) (h1 : zN 6 (I 6)) (h2 : zN 6 (I 7)) (h3 : zN 6 (I 8)) (h5 : zN 24 (I 10)) (g1 : zN 6 (I 20)) (g2 : zN 6 (I 21)) (g3 : zN 6 (I 22)) (g5 : zN 24 (I 24)) (hh : I 5 11 = 0 ∨ I 5 11 = 1) : ∃ I', zcl (d + 1) 30 [.ref 19, .ref 5] (I, J, R, 111) = some (none, (I', J, zup R 19 8 (some K), 111)) ∧ ((I' 20 = I 6 ∧ I' 21 = I 7 ∧ I' 22 = I 8 ∧ I' 24 = I 10) ∧ (zN 6 (I 9) → zN 6 (I 23) → I' 23 = I 9) ∧ (I' 19 0 = I 5 0 ∧ I' 19 6 = I 5 6 ∧ I' 19 7 = I 5 7 ∧ I' 19 9 = I 5 9 ∧ I' 19 10 = I 5 10 ∧ I' 19 11 = I 5 11 ∧ I' 19 15 = 0) ∧ ∀ k, k < 19 ∨ 24 < k → I' k = I k) := by
  refine zcl_en (Nat.le_of_ble_eq_true rfl) (zg_wp 90 _ ?_)
  simp only [zpr_30, zhd_30, zp30, zh30, zml_30, o_bad, o_push, o_iload, o_lload, o_aload, o_istore, o_astore, o_lstore, o_iinc, o_ii, o_dv, o_i, o_ll, o_lshl, o_lcmp, o_i2l, o_l2i, o_dup, o_dup2, o_pop, o_goto, o_if, o_ic, o_sw, o_ireturn, o_nreturn, o_lreturn, o_return, o_min, o_max, o_geti, o_getr, o_puti, o_putz, o_putr, o_gets, o_iald, o_lald, o_aald, o_iast, o_last, o_aast, o_alen, o_new, o_newa, o_multi, o_call, o_scall, o_oinit, o_copyi, o_copyl, z_eq, z_ne, z_lt, z_ge, z_gt, z_le, z_ceq, z_cne, z_clt, z_cge, z_cgt, z_cle, z_rz, z_rb, z_rc, q_nz, zg_0, zg_s, zgk_s, zgh_n, zgh_s, zq_n, zq_br, zq_gd, zq_cl2, zqc_s, zq_rt, zq_sw, zq_st, zsws, zent, zpad, zla, zlg, zpop, zrv, zc1, zmk, zob_w, zaw_w, zar_w, zln_w, zld_w, zin_w, zcpg_w, znr_w, List.getElem?_cons_zero, List.getElem?_cons_succ, List.set_cons_zero, List.set_cons_succ, List.length_cons, List.length_nil, Nat.reduceLT, Nat.reduceLeDiff, Nat.reduceAdd, Nat.reduceSub, Nat.reduceMul, Nat.reduceEqDiff, Nat.reduceBEq, ↓reduceIte, q_10, q_01, q_00, q_m1, q_m2, q_m3, q_m4, q_m5, q_n1, q_n2, decide_eq_true_eq, decide_eq_false_iff_not, Bool.and_eq_true, Bool.true_and, Bool.and_true, Bool.decide_and, decide_true, decide_false, Bool.true_eq_false, Bool.false_eq_true, Option.toList_some, Option.toList_none, List.cons_append, List.nil_append, true_and, and_true, and_self, not_true_eq_false, not_false_eq_true, forall_const, false_implies, implies_true, Nat.le_refl, ne_eq, Bool.not_eq_true, eq_self, zshA, zb_rz, zb_ne, zb_eq, qem, true_implies, Nat.zero_le, false_and, and_false, Bool.or_eq_true, or_true, true_or, false_or, or_false, zr_19_1 hR, zr_19_2 hR, zr_19_3 hR, zr_19_4 hR, zr_19_5 hR, zr_5_1 hR, zr_5_2 hR, zr_5_3 hR, zr_5_4 hR, zr_5_5 hR, hf, q_cpl, zup_at, zcp_at, hh]
  refine zEn_mk ⟨⟨?_, ?_, ?_, ?_⟩, ?_, ?_, ?_⟩
  · simp only [zup_row, zcp_at, Nat.reduceEqDiff, ↓reduceIte]
    exact q_cpy h1 g1
  · simp only [zup_row, zcp_at, Nat.reduceEqDiff, ↓reduceIte]
    exact q_cpy h2 g2
  · simp only [zup_row, zcp_at, Nat.reduceEqDiff, ↓reduceIte]
    exact q_cpy h3 g3
  · simp only [zup_row, zcp_at, Nat.reduceEqDiff, ↓reduceIte]
    exact q_cpy h5 g5
  · intro h4 g4
    simp only [zup_row, zcp_at, Nat.reduceEqDiff, ↓reduceIte]
    exact q_cpy h4 g4
  · simp only [zup_row, zcp_at, Nat.reduceEqDiff, ↓reduceIte, and_self]
  · intro k hk
    have n0 : ¬ k = 19 := by omega
    have n1 : ¬ k = 20 := by omega
    have n2 : ¬ k = 21 := by omega
    have n3 : ¬ k = 22 := by omega
    have n4 : ¬ k = 23 := by omega
    have n5 : ¬ k = 24 := by omega
    simp only [zup_row, zcp_at, n0, n1, n2, n3, n4, n5, ↓reduceIte]
set_option maxRecDepth 40000 in
theorem sp_30_12 (hR : qRk R a b c i) (hf : R 5 8 = some K) (h1 : zN 6 (I 6)) (h2 : zN 6 (I 7)) (h3 : zN 6 (I 8)) (h5 : zN 24 (I 10)) (g1 : zN 6 (I 13)) (g2 : zN 6 (I 14)) (g3 : zN 6 (I 15)) (g5 : zN 24 (I 17)) (hh : I 5 11 = 0 ∨ I 5 11 = 1) : ∃ I', zcl (d + 1) 30 [.ref 12, .ref 5] (I, J, R, 111) = some (none, (I', J, zup R 12 8 (some K), 111)) ∧ ((I' 13 = I 6 ∧ I' 14 = I 7 ∧ I' 15 = I 8 ∧ I' 17 = I 10) ∧ (zN 6 (I 9) → zN 6 (I 16) → I' 16 = I 9) ∧ (I' 12 0 = I 5 0 ∧ I' 12 6 = I 5 6 ∧ I' 12 7 = I 5 7 ∧ I' 12 9 = I 5 9 ∧ I' 12 10 = I 5 10 ∧ I' 12 11 = I 5 11 ∧ I' 12 15 = 0) ∧ ∀ k, k < 12 ∨ 17 < k → I' k = I k) := by
  refine zcl_en (Nat.le_of_ble_eq_true rfl) (zg_wp 90 _ ?_)
  simp only [zpr_30, zhd_30, zp30, zh30, zml_30, o_bad, o_push, o_iload, o_lload, o_aload, o_istore, o_astore, o_lstore, o_iinc, o_ii, o_dv, o_i, o_ll, o_lshl, o_lcmp, o_i2l, o_l2i, o_dup, o_dup2, o_pop, o_goto, o_if, o_ic, o_sw, o_ireturn, o_nreturn, o_lreturn, o_return, o_min, o_max, o_geti, o_getr, o_puti, o_putz, o_putr, o_gets, o_iald, o_lald, o_aald, o_iast, o_last, o_aast, o_alen, o_new, o_newa, o_multi, o_call, o_scall, o_oinit, o_copyi, o_copyl, z_eq, z_ne, z_lt, z_ge, z_gt, z_le, z_ceq, z_cne, z_clt, z_cge, z_cgt, z_cle, z_rz, z_rb, z_rc, q_nz, zg_0, zg_s, zgk_s, zgh_n, zgh_s, zq_n, zq_br, zq_gd, zq_cl2, zqc_s, zq_rt, zq_sw, zq_st, zsws, zent, zpad, zla, zlg, zpop, zrv, zc1, zmk, zob_w, zaw_w, zar_w, zln_w, zld_w, zin_w, zcpg_w, znr_w, List.getElem?_cons_zero, List.getElem?_cons_succ, List.set_cons_zero, List.set_cons_succ, List.length_cons, List.length_nil, Nat.reduceLT, Nat.reduceLeDiff, Nat.reduceAdd, Nat.reduceSub, Nat.reduceMul, Nat.reduceEqDiff, Nat.reduceBEq, ↓reduceIte, q_10, q_01, q_00, q_m1, q_m2, q_m3, q_m4, q_m5, q_n1, q_n2, decide_eq_true_eq, decide_eq_false_iff_not, Bool.and_eq_true, Bool.true_and, Bool.and_true, Bool.decide_and, decide_true, decide_false, Bool.true_eq_false, Bool.false_eq_true, Option.toList_some, Option.toList_none, List.cons_append, List.nil_append, true_and, and_true, and_self, not_true_eq_false, not_false_eq_true, forall_const, false_implies, implies_true, Nat.le_refl, ne_eq, Bool.not_eq_true, eq_self, zshA, zb_rz, zb_ne, zb_eq, qem, true_implies, Nat.zero_le, false_and, and_false, Bool.or_eq_true, or_true, true_or, false_or, or_false, zr_12_1 hR, zr_12_2 hR, zr_12_3 hR, zr_12_4 hR, zr_12_5 hR, zr_5_1 hR, zr_5_2 hR, zr_5_3 hR, zr_5_4 hR, zr_5_5 hR, hf, q_cpl, zup_at, zcp_at, hh]
  refine zEn_mk ⟨⟨?_, ?_, ?_, ?_⟩, ?_, ?_, ?_⟩
  · simp only [zup_row, zcp_at, Nat.reduceEqDiff, ↓reduceIte]
    exact q_cpy h1 g1
  · simp only [zup_row, zcp_at, Nat.reduceEqDiff, ↓reduceIte]
    exact q_cpy h2 g2
  · simp only [zup_row, zcp_at, Nat.reduceEqDiff, ↓reduceIte]
    exact q_cpy h3 g3
  · simp only [zup_row, zcp_at, Nat.reduceEqDiff, ↓reduceIte]
    exact q_cpy h5 g5
  · intro h4 g4
    simp only [zup_row, zcp_at, Nat.reduceEqDiff, ↓reduceIte]
    exact q_cpy h4 g4
  · simp only [zup_row, zcp_at, Nat.reduceEqDiff, ↓reduceIte, and_self]
  · intro k hk
    have n0 : ¬ k = 12 := by omega
    have n1 : ¬ k = 13 := by omega
    have n2 : ¬ k = 14 := by omega
    have n3 : ¬ k = 15 := by omega
    have n4 : ¬ k = 16 := by omega
    have n5 : ¬ k = 17 := by omega
    simp only [zup_row, zcp_at, n0, n1, n2, n3, n4, n5, ↓reduceIte]
set_option maxRecDepth 40000 in
theorem sp_30_5 (hR : qRk R a b c i) (hf : R 12 8 = some K) (h1 : zN 6 (I 13)) (h2 : zN 6 (I 14)) (h3 : zN 6 (I 15)) (h5 : zN 24 (I 17)) (g1 : zN 6 (I 6)) (g2 : zN 6 (I 7)) (g3 : zN 6 (I 8)) (g5 : zN 24 (I 10)) (hh : I 12 11 = 0 ∨ I 12 11 = 1) : ∃ I', zcl (d + 1) 30 [.ref 5, .ref 12] (I, J, R, 111) = some (none, (I', J, zup R 5 8 (some K), 111)) ∧ ((I' 6 = I 13 ∧ I' 7 = I 14 ∧ I' 8 = I 15 ∧ I' 10 = I 17) ∧ (zN 6 (I 16) → zN 6 (I 9) → I' 9 = I 16) ∧ (I' 5 0 = I 12 0 ∧ I' 5 6 = I 12 6 ∧ I' 5 7 = I 12 7 ∧ I' 5 9 = I 12 9 ∧ I' 5 10 = I 12 10 ∧ I' 5 11 = I 12 11 ∧ I' 5 15 = 0) ∧ ∀ k, k < 5 ∨ 10 < k → I' k = I k) := by
  refine zcl_en (Nat.le_of_ble_eq_true rfl) (zg_wp 90 _ ?_)
  simp only [zpr_30, zhd_30, zp30, zh30, zml_30, o_bad, o_push, o_iload, o_lload, o_aload, o_istore, o_astore, o_lstore, o_iinc, o_ii, o_dv, o_i, o_ll, o_lshl, o_lcmp, o_i2l, o_l2i, o_dup, o_dup2, o_pop, o_goto, o_if, o_ic, o_sw, o_ireturn, o_nreturn, o_lreturn, o_return, o_min, o_max, o_geti, o_getr, o_puti, o_putz, o_putr, o_gets, o_iald, o_lald, o_aald, o_iast, o_last, o_aast, o_alen, o_new, o_newa, o_multi, o_call, o_scall, o_oinit, o_copyi, o_copyl, z_eq, z_ne, z_lt, z_ge, z_gt, z_le, z_ceq, z_cne, z_clt, z_cge, z_cgt, z_cle, z_rz, z_rb, z_rc, q_nz, zg_0, zg_s, zgk_s, zgh_n, zgh_s, zq_n, zq_br, zq_gd, zq_cl2, zqc_s, zq_rt, zq_sw, zq_st, zsws, zent, zpad, zla, zlg, zpop, zrv, zc1, zmk, zob_w, zaw_w, zar_w, zln_w, zld_w, zin_w, zcpg_w, znr_w, List.getElem?_cons_zero, List.getElem?_cons_succ, List.set_cons_zero, List.set_cons_succ, List.length_cons, List.length_nil, Nat.reduceLT, Nat.reduceLeDiff, Nat.reduceAdd, Nat.reduceSub, Nat.reduceMul, Nat.reduceEqDiff, Nat.reduceBEq, ↓reduceIte, q_10, q_01, q_00, q_m1, q_m2, q_m3, q_m4, q_m5, q_n1, q_n2, decide_eq_true_eq, decide_eq_false_iff_not, Bool.and_eq_true, Bool.true_and, Bool.and_true, Bool.decide_and, decide_true, decide_false, Bool.true_eq_false, Bool.false_eq_true, Option.toList_some, Option.toList_none, List.cons_append, List.nil_append, true_and, and_true, and_self, not_true_eq_false, not_false_eq_true, forall_const, false_implies, implies_true, Nat.le_refl, ne_eq, Bool.not_eq_true, eq_self, zshA, zb_rz, zb_ne, zb_eq, qem, true_implies, Nat.zero_le, false_and, and_false, Bool.or_eq_true, or_true, true_or, false_or, or_false, zr_5_1 hR, zr_5_2 hR, zr_5_3 hR, zr_5_4 hR, zr_5_5 hR, zr_12_1 hR, zr_12_2 hR, zr_12_3 hR, zr_12_4 hR, zr_12_5 hR, hf, q_cpl, zup_at, zcp_at, hh]
  refine zEn_mk ⟨⟨?_, ?_, ?_, ?_⟩, ?_, ?_, ?_⟩
  · simp only [zup_row, zcp_at, Nat.reduceEqDiff, ↓reduceIte]
    exact q_cpy h1 g1
  · simp only [zup_row, zcp_at, Nat.reduceEqDiff, ↓reduceIte]
    exact q_cpy h2 g2
  · simp only [zup_row, zcp_at, Nat.reduceEqDiff, ↓reduceIte]
    exact q_cpy h3 g3
  · simp only [zup_row, zcp_at, Nat.reduceEqDiff, ↓reduceIte]
    exact q_cpy h5 g5
  · intro h4 g4
    simp only [zup_row, zcp_at, Nat.reduceEqDiff, ↓reduceIte]
    exact q_cpy h4 g4
  · simp only [zup_row, zcp_at, Nat.reduceEqDiff, ↓reduceIte, and_self]
  · intro k hk
    have n0 : ¬ k = 5 := by omega
    have n1 : ¬ k = 6 := by omega
    have n2 : ¬ k = 7 := by omega
    have n3 : ¬ k = 8 := by omega
    have n4 : ¬ k = 9 := by omega
    have n5 : ¬ k = 10 := by omega
    simp only [zup_row, zcp_at, n0, n1, n2, n3, n4, n5, ↓reduceIte]
set_option maxRecDepth 40000 in
theorem sp_13_31 (hR : qRk R a b c i) (h1 : zN 5 (I 27)) (h2 : zN 10 (I 28)) (h3 : zN 8 (I 29)) (h4 : zN 8 (I 30)) (g1 : zN 5 (I 32)) (g2 : zN 10 (I 33)) (g3 : zN 8 (I 34)) (g4 : zN 8 (I 35)) : ∃ I', zcl (d + 1) 13 [.ref 31, .ref 26] (I, J, R, 111) = some (none, (I', J, R, 111)) ∧ ((I' 32 = I 27 ∧ I' 33 = I 28 ∧ I' 34 = I 29 ∧ I' 35 = I 30) ∧ (I' 31 1 = I 26 1 ∧ I' 31 3 = I 26 3 ∧ I' 31 6 = I 26 6) ∧ ∀ k, k < 31 ∨ 35 < k → I' k = I k) := by
  refine zcl_en (Nat.le_of_ble_eq_true rfl) (zg_wp 90 _ ?_)
  simp only [zpr_13, zhd_13, zp13, zh13, zml_13, o_bad, o_push, o_iload, o_lload, o_aload, o_istore, o_astore, o_lstore, o_iinc, o_ii, o_dv, o_i, o_ll, o_lshl, o_lcmp, o_i2l, o_l2i, o_dup, o_dup2, o_pop, o_goto, o_if, o_ic, o_sw, o_ireturn, o_nreturn, o_lreturn, o_return, o_min, o_max, o_geti, o_getr, o_puti, o_putz, o_putr, o_gets, o_iald, o_lald, o_aald, o_iast, o_last, o_aast, o_alen, o_new, o_newa, o_multi, o_call, o_scall, o_oinit, o_copyi, o_copyl, z_eq, z_ne, z_lt, z_ge, z_gt, z_le, z_ceq, z_cne, z_clt, z_cge, z_cgt, z_cle, z_rz, z_rb, z_rc, q_nz, zg_0, zg_s, zgk_s, zgh_n, zgh_s, zq_n, zq_br, zq_gd, zq_cl2, zqc_s, zq_rt, zq_sw, zq_st, zsws, zent, zpad, zla, zlg, zpop, zrv, zc1, zmk, zob_w, zaw_w, zar_w, zln_w, zld_w, zin_w, zcpg_w, znr_w, List.getElem?_cons_zero, List.getElem?_cons_succ, List.set_cons_zero, List.set_cons_succ, List.length_cons, List.length_nil, Nat.reduceLT, Nat.reduceLeDiff, Nat.reduceAdd, Nat.reduceSub, Nat.reduceMul, Nat.reduceEqDiff, Nat.reduceBEq, ↓reduceIte, q_10, q_01, q_00, q_m1, q_m2, q_m3, q_m4, q_m5, q_n1, q_n2, decide_eq_true_eq, decide_eq_false_iff_not, Bool.and_eq_true, Bool.true_and, Bool.and_true, Bool.decide_and, decide_true, decide_false, Bool.true_eq_false, Bool.false_eq_true, Option.toList_some, Option.toList_none, List.cons_append, List.nil_append, true_and, and_true, and_self, not_true_eq_false, not_false_eq_true, forall_const, false_implies, implies_true, Nat.le_refl, ne_eq, Bool.not_eq_true, eq_self, zshA, zb_rz, zb_ne, zb_eq, qem, true_implies, Nat.zero_le, false_and, and_false, Bool.or_eq_true, or_true, true_or, false_or, or_false, zr_31_0 hR, zr_31_2 hR, zr_31_4 hR, zr_31_5 hR, zr_26_0 hR, zr_26_2 hR, zr_26_4 hR, zr_26_5 hR, q_cpl, zup_at, zcp_at]
  refine zEn_mk ⟨⟨?_, ?_, ?_, ?_⟩, ?_, ?_⟩
  · simp only [zup_row, zcp_at, Nat.reduceEqDiff, ↓reduceIte]
    exact q_cpy h1 g1
  · simp only [zup_row, zcp_at, Nat.reduceEqDiff, ↓reduceIte]
    exact q_cpy h2 g2
  · simp only [zup_row, zcp_at, Nat.reduceEqDiff, ↓reduceIte]
    exact q_cpy h3 g3
  · simp only [zup_row, zcp_at, Nat.reduceEqDiff, ↓reduceIte]
    exact q_cpy h4 g4
  · simp only [zup_row, zcp_at, Nat.reduceEqDiff, ↓reduceIte, and_self]
  · intro k hk
    have n0 : ¬ k = 31 := by omega
    have n1 : ¬ k = 32 := by omega
    have n2 : ¬ k = 33 := by omega
    have n3 : ¬ k = 34 := by omega
    have n4 : ¬ k = 35 := by omega
    simp only [zup_row, zcp_at, n0, n1, n2, n3, n4, ↓reduceIte]
set_option maxRecDepth 40000 in
theorem sp_13_26 (hR : qRk R a b c i) (h1 : zN 5 (I 32)) (h2 : zN 10 (I 33)) (h3 : zN 8 (I 34)) (h4 : zN 8 (I 35)) (g1 : zN 5 (I 27)) (g2 : zN 10 (I 28)) (g3 : zN 8 (I 29)) (g4 : zN 8 (I 30)) : ∃ I', zcl (d + 1) 13 [.ref 26, .ref 31] (I, J, R, 111) = some (none, (I', J, R, 111)) ∧ ((I' 27 = I 32 ∧ I' 28 = I 33 ∧ I' 29 = I 34 ∧ I' 30 = I 35) ∧ (I' 26 1 = I 31 1 ∧ I' 26 3 = I 31 3 ∧ I' 26 6 = I 31 6) ∧ ∀ k, k < 26 ∨ 30 < k → I' k = I k) := by
  refine zcl_en (Nat.le_of_ble_eq_true rfl) (zg_wp 90 _ ?_)
  simp only [zpr_13, zhd_13, zp13, zh13, zml_13, o_bad, o_push, o_iload, o_lload, o_aload, o_istore, o_astore, o_lstore, o_iinc, o_ii, o_dv, o_i, o_ll, o_lshl, o_lcmp, o_i2l, o_l2i, o_dup, o_dup2, o_pop, o_goto, o_if, o_ic, o_sw, o_ireturn, o_nreturn, o_lreturn, o_return, o_min, o_max, o_geti, o_getr, o_puti, o_putz, o_putr, o_gets, o_iald, o_lald, o_aald, o_iast, o_last, o_aast, o_alen, o_new, o_newa, o_multi, o_call, o_scall, o_oinit, o_copyi, o_copyl, z_eq, z_ne, z_lt, z_ge, z_gt, z_le, z_ceq, z_cne, z_clt, z_cge, z_cgt, z_cle, z_rz, z_rb, z_rc, q_nz, zg_0, zg_s, zgk_s, zgh_n, zgh_s, zq_n, zq_br, zq_gd, zq_cl2, zqc_s, zq_rt, zq_sw, zq_st, zsws, zent, zpad, zla, zlg, zpop, zrv, zc1, zmk, zob_w, zaw_w, zar_w, zln_w, zld_w, zin_w, zcpg_w, znr_w, List.getElem?_cons_zero, List.getElem?_cons_succ, List.set_cons_zero, List.set_cons_succ, List.length_cons, List.length_nil, Nat.reduceLT, Nat.reduceLeDiff, Nat.reduceAdd, Nat.reduceSub, Nat.reduceMul, Nat.reduceEqDiff, Nat.reduceBEq, ↓reduceIte, q_10, q_01, q_00, q_m1, q_m2, q_m3, q_m4, q_m5, q_n1, q_n2, decide_eq_true_eq, decide_eq_false_iff_not, Bool.and_eq_true, Bool.true_and, Bool.and_true, Bool.decide_and, decide_true, decide_false, Bool.true_eq_false, Bool.false_eq_true, Option.toList_some, Option.toList_none, List.cons_append, List.nil_append, true_and, and_true, and_self, not_true_eq_false, not_false_eq_true, forall_const, false_implies, implies_true, Nat.le_refl, ne_eq, Bool.not_eq_true, eq_self, zshA, zb_rz, zb_ne, zb_eq, qem, true_implies, Nat.zero_le, false_and, and_false, Bool.or_eq_true, or_true, true_or, false_or, or_false, zr_26_0 hR, zr_26_2 hR, zr_26_4 hR, zr_26_5 hR, zr_31_0 hR, zr_31_2 hR, zr_31_4 hR, zr_31_5 hR, q_cpl, zup_at, zcp_at]
  refine zEn_mk ⟨⟨?_, ?_, ?_, ?_⟩, ?_, ?_⟩
  · simp only [zup_row, zcp_at, Nat.reduceEqDiff, ↓reduceIte]
    exact q_cpy h1 g1
  · simp only [zup_row, zcp_at, Nat.reduceEqDiff, ↓reduceIte]
    exact q_cpy h2 g2
  · simp only [zup_row, zcp_at, Nat.reduceEqDiff, ↓reduceIte]
    exact q_cpy h3 g3
  · simp only [zup_row, zcp_at, Nat.reduceEqDiff, ↓reduceIte]
    exact q_cpy h4 g4
  · simp only [zup_row, zcp_at, Nat.reduceEqDiff, ↓reduceIte, and_self]
  · intro k hk
    have n0 : ¬ k = 26 := by omega
    have n1 : ¬ k = 27 := by omega
    have n2 : ¬ k = 28 := by omega
    have n3 : ¬ k = 29 := by omega
    have n4 : ¬ k = 30 := by omega
    simp only [zup_row, zcp_at, n0, n1, n2, n3, n4, ↓reduceIte]
end QT
