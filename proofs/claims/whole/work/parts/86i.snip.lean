/-! ===== pairs: side, snip, pass ===== -/
set_option maxRecDepth 40000 in
theorem pr_54r1 {d : Nat} {I : zI} {J : zJ} {R : zR} {x y z : Int32} (h : ¬ (0 ≤ x ∧ x ≤ 6)) : zcl (d + 2) 54 [.ref 0, .int x, .int y, .int z] (I, J, R, 111) = some (some (.int (-1)), (I, J, R, 111)) := by
  refine zcl_of (Nat.le_of_ble_eq_true rfl) (zg_wp 60 _ ?_)
  simp only [zpr_54, zhd_54, zp54, zh54, zml_54, o_bad, o_push, o_iload, o_lload, o_aload, o_istore, o_astore, o_lstore, o_iinc, o_ii, o_dv, o_i, o_ll, o_lshl, o_lcmp, o_i2l, o_l2i, o_dup, o_dup2, o_pop, o_goto, o_if, o_ic, o_sw, o_ireturn, o_nreturn, o_lreturn, o_return, o_min, o_max, o_geti, o_getr, o_puti, o_putz, o_putr, o_gets, o_iald, o_lald, o_aald, o_iast, o_last, o_aast, o_alen, o_new, o_newa, o_multi, o_call, o_scall, o_oinit, o_copyi, o_copyl, z_eq, z_ne, z_lt, z_ge, z_gt, z_le, z_ceq, z_cne, z_clt, z_cge, z_cgt, z_cle, z_rz, z_rb, z_rc, q_nz, zg_0, zg_s, zgk_s, zgh_n, zgh_s, zq_n, zq_br, zq_gd, zq_cl2, zqc_s, zq_rt, zq_sw, zq_st, zsws, zent, zpad, zla, zlg, zpop, zrv, zc1, zmk, zob_w, zaw_w, zar_w, zln_w, zld_w, zin_w, zcpg_w, znr_w, List.getElem?_cons_zero, List.getElem?_cons_succ, List.set_cons_zero, List.set_cons_succ, List.length_cons, List.length_nil, Nat.reduceLT, Nat.reduceLeDiff, Nat.reduceAdd, Nat.reduceSub, Nat.reduceMul, Nat.reduceEqDiff, Nat.reduceBEq, ↓reduceIte, q_10, q_01, q_00, q_m1, q_m2, q_m3, q_m4, q_m5, q_n1, q_n2, decide_eq_true_eq, decide_eq_false_iff_not, Bool.and_eq_true, Bool.true_and, Bool.and_true, Bool.decide_and, decide_true, decide_false, Bool.true_eq_false, Bool.false_eq_true, Option.toList_some, Option.toList_none, List.cons_append, List.nil_append, true_and, and_true, and_self, not_true_eq_false, not_false_eq_true, forall_const, false_implies, implies_true, Nat.le_refl, ne_eq, Bool.not_eq_true, eq_self, zshA, zb_rz, zb_ne, zb_eq, qem, true_implies, Nat.zero_le, false_and, and_false, Bool.or_eq_true, or_true, true_or, false_or, or_false, sp_97, h]
set_option maxRecDepth 40000 in
theorem pr_54r2 {d : Nat} {I : zI} {J : zJ} {R : zR} {x y z : Int32} (h : 0 ≤ x ∧ x ≤ 6) (h2 : ¬ ((0 ≤ y ∧ y ≤ 9) ∧ 0 ≤ z ∧ z ≤ 999)) : zcl (d + 2) 54 [.ref 0, .int x, .int y, .int z] (I, J, R, 111) = some (some (.int (-2)), (I, J, R, 111)) := by
  refine zcl_of (Nat.le_of_ble_eq_true rfl) (zg_wp 60 _ ?_)
  by_cases h3 : 0 ≤ y ∧ y ≤ 9
  · have h4 : ¬ (0 ≤ z ∧ z ≤ 999) := fun e => h2 ⟨h3, e⟩
    simp only [zpr_54, zhd_54, zp54, zh54, zml_54, o_bad, o_push, o_iload, o_lload, o_aload, o_istore, o_astore, o_lstore, o_iinc, o_ii, o_dv, o_i, o_ll, o_lshl, o_lcmp, o_i2l, o_l2i, o_dup, o_dup2, o_pop, o_goto, o_if, o_ic, o_sw, o_ireturn, o_nreturn, o_lreturn, o_return, o_min, o_max, o_geti, o_getr, o_puti, o_putz, o_putr, o_gets, o_iald, o_lald, o_aald, o_iast, o_last, o_aast, o_alen, o_new, o_newa, o_multi, o_call, o_scall, o_oinit, o_copyi, o_copyl, z_eq, z_ne, z_lt, z_ge, z_gt, z_le, z_ceq, z_cne, z_clt, z_cge, z_cgt, z_cle, z_rz, z_rb, z_rc, q_nz, zg_0, zg_s, zgk_s, zgh_n, zgh_s, zq_n, zq_br, zq_gd, zq_cl2, zqc_s, zq_rt, zq_sw, zq_st, zsws, zent, zpad, zla, zlg, zpop, zrv, zc1, zmk, zob_w, zaw_w, zar_w, zln_w, zld_w, zin_w, zcpg_w, znr_w, List.getElem?_cons_zero, List.getElem?_cons_succ, List.set_cons_zero, List.set_cons_succ, List.length_cons, List.length_nil, Nat.reduceLT, Nat.reduceLeDiff, Nat.reduceAdd, Nat.reduceSub, Nat.reduceMul, Nat.reduceEqDiff, Nat.reduceBEq, ↓reduceIte, q_10, q_01, q_00, q_m1, q_m2, q_m3, q_m4, q_m5, q_n1, q_n2, decide_eq_true_eq, decide_eq_false_iff_not, Bool.and_eq_true, Bool.true_and, Bool.and_true, Bool.decide_and, decide_true, decide_false, Bool.true_eq_false, Bool.false_eq_true, Option.toList_some, Option.toList_none, List.cons_append, List.nil_append, true_and, and_true, and_self, not_true_eq_false, not_false_eq_true, forall_const, false_implies, implies_true, Nat.le_refl, ne_eq, Bool.not_eq_true, eq_self, zshA, zb_rz, zb_ne, zb_eq, qem, true_implies, Nat.zero_le, false_and, and_false, Bool.or_eq_true, or_true, true_or, false_or, or_false, sp_97, h, h3, h4]
  · simp only [zpr_54, zhd_54, zp54, zh54, zml_54, o_bad, o_push, o_iload, o_lload, o_aload, o_istore, o_astore, o_lstore, o_iinc, o_ii, o_dv, o_i, o_ll, o_lshl, o_lcmp, o_i2l, o_l2i, o_dup, o_dup2, o_pop, o_goto, o_if, o_ic, o_sw, o_ireturn, o_nreturn, o_lreturn, o_return, o_min, o_max, o_geti, o_getr, o_puti, o_putz, o_putr, o_gets, o_iald, o_lald, o_aald, o_iast, o_last, o_aast, o_alen, o_new, o_newa, o_multi, o_call, o_scall, o_oinit, o_copyi, o_copyl, z_eq, z_ne, z_lt, z_ge, z_gt, z_le, z_ceq, z_cne, z_clt, z_cge, z_cgt, z_cle, z_rz, z_rb, z_rc, q_nz, zg_0, zg_s, zgk_s, zgh_n, zgh_s, zq_n, zq_br, zq_gd, zq_cl2, zqc_s, zq_rt, zq_sw, zq_st, zsws, zent, zpad, zla, zlg, zpop, zrv, zc1, zmk, zob_w, zaw_w, zar_w, zln_w, zld_w, zin_w, zcpg_w, znr_w, List.getElem?_cons_zero, List.getElem?_cons_succ, List.set_cons_zero, List.set_cons_succ, List.length_cons, List.length_nil, Nat.reduceLT, Nat.reduceLeDiff, Nat.reduceAdd, Nat.reduceSub, Nat.reduceMul, Nat.reduceEqDiff, Nat.reduceBEq, ↓reduceIte, q_10, q_01, q_00, q_m1, q_m2, q_m3, q_m4, q_m5, q_n1, q_n2, decide_eq_true_eq, decide_eq_false_iff_not, Bool.and_eq_true, Bool.true_and, Bool.and_true, Bool.decide_and, decide_true, decide_false, Bool.true_eq_false, Bool.false_eq_true, Option.toList_some, Option.toList_none, List.cons_append, List.nil_append, true_and, and_true, and_self, not_true_eq_false, not_false_eq_true, forall_const, false_implies, implies_true, Nat.le_refl, ne_eq, Bool.not_eq_true, eq_self, zshA, zb_rz, zb_ne, zb_eq, qem, true_implies, Nat.zero_le, false_and, and_false, Bool.or_eq_true, or_true, true_or, false_or, or_false, sp_97, h, h3]
set_option maxRecDepth 40000 in
theorem pr_54r3 {d : Nat} {I : zI} {J : zJ} {R : zR} {a b c : Nat} {i : Option Nat} {x y z : Int32} (hR : qRk R a b c i) (h : 0 ≤ x ∧ x ≤ 6) (h2 : 0 ≤ y ∧ y ≤ 9) (h3 : 0 ≤ z ∧ z ≤ 999) (h4 : 6 ≤ I 5 0) : zcl (d + 2) 54 [.ref 0, .int x, .int y, .int z] (I, J, R, 111) = some (some (.int (-4)), (I, J, R, 111)) := by
  refine zcl_of (Nat.le_of_ble_eq_true rfl) (zg_wp 60 _ ?_)
  have h5 := Int32.not_lt.mpr h4
  simp only [zpr_54, zhd_54, zp54, zh54, zml_54, o_bad, o_push, o_iload, o_lload, o_aload, o_istore, o_astore, o_lstore, o_iinc, o_ii, o_dv, o_i, o_ll, o_lshl, o_lcmp, o_i2l, o_l2i, o_dup, o_dup2, o_pop, o_goto, o_if, o_ic, o_sw, o_ireturn, o_nreturn, o_lreturn, o_return, o_min, o_max, o_geti, o_getr, o_puti, o_putz, o_putr, o_gets, o_iald, o_lald, o_aald, o_iast, o_last, o_aast, o_alen, o_new, o_newa, o_multi, o_call, o_scall, o_oinit, o_copyi, o_copyl, z_eq, z_ne, z_lt, z_ge, z_gt, z_le, z_ceq, z_cne, z_clt, z_cge, z_cgt, z_cle, z_rz, z_rb, z_rc, q_nz, zg_0, zg_s, zgk_s, zgh_n, zgh_s, zq_n, zq_br, zq_gd, zq_cl2, zqc_s, zq_rt, zq_sw, zq_st, zsws, zent, zpad, zla, zlg, zpop, zrv, zc1, zmk, zob_w, zaw_w, zar_w, zln_w, zld_w, zin_w, zcpg_w, znr_w, List.getElem?_cons_zero, List.getElem?_cons_succ, List.set_cons_zero, List.set_cons_succ, List.length_cons, List.length_nil, Nat.reduceLT, Nat.reduceLeDiff, Nat.reduceAdd, Nat.reduceSub, Nat.reduceMul, Nat.reduceEqDiff, Nat.reduceBEq, ↓reduceIte, q_10, q_01, q_00, q_m1, q_m2, q_m3, q_m4, q_m5, q_n1, q_n2, decide_eq_true_eq, decide_eq_false_iff_not, Bool.and_eq_true, Bool.true_and, Bool.and_true, Bool.decide_and, decide_true, decide_false, Bool.true_eq_false, Bool.false_eq_true, Option.toList_some, Option.toList_none, List.cons_append, List.nil_append, true_and, and_true, and_self, not_true_eq_false, not_false_eq_true, forall_const, false_implies, implies_true, Nat.le_refl, ne_eq, Bool.not_eq_true, eq_self, zshA, zb_rz, zb_ne, zb_eq, qem, true_implies, Nat.zero_le, false_and, and_false, Bool.or_eq_true, or_true, true_or, false_or, or_false, sp_97, h, h2, h3, zr_0_0 hR, h5]
set_option maxRecDepth 40000 in
theorem pr_54c {d m : Nat} {I : zI} {J : zJ} {R : zR} {a b c : Nat} {i : Option Nat} {x y z : Int32} (hR : qRk R a b c i) (h : 0 ≤ x ∧ x ≤ 6) (h2 : 0 ≤ y ∧ y ≤ 9) (h3 : 0 ≤ z ∧ z ≤ 999) (hm : I 5 0 = nI m) (h4 : m < 6) : zcl (d + 2) 54 [.ref 0, .int x, .int y, .int z] (I, J, R, 111) = some (some (.int (nI m)), (zup (q4z (zup (zup (zup (zup I 6 m x) 7 m y) 8 m z) 9 m 0) 10 m) 5 0 (nI (m + 1)), J, R, 111)) := by
  refine zcl_of (Nat.le_of_ble_eq_true rfl) (zg_wp 60 _ ?_)
  have h5 : nI m < (6 : Int32) := q_tlt (n := 6) h4 (by omega)
  simp only [zpr_54, zhd_54, zp54, zh54, zml_54, o_bad, o_push, o_iload, o_lload, o_aload, o_istore, o_astore, o_lstore, o_iinc, o_ii, o_dv, o_i, o_ll, o_lshl, o_lcmp, o_i2l, o_l2i, o_dup, o_dup2, o_pop, o_goto, o_if, o_ic, o_sw, o_ireturn, o_nreturn, o_lreturn, o_return, o_min, o_max, o_geti, o_getr, o_puti, o_putz, o_putr, o_gets, o_iald, o_lald, o_aald, o_iast, o_last, o_aast, o_alen, o_new, o_newa, o_multi, o_call, o_scall, o_oinit, o_copyi, o_copyl, z_eq, z_ne, z_lt, z_ge, z_gt, z_le, z_ceq, z_cne, z_clt, z_cge, z_cgt, z_cle, z_rz, z_rb, z_rc, q_nz, zg_0, zg_s, zgk_s, zgh_n, zgh_s, zq_n, zq_br, zq_gd, zq_cl2, zqc_s, zq_rt, zq_sw, zq_st, zsws, zent, zpad, zla, zlg, zpop, zrv, zc1, zmk, zob_w, zaw_w, zar_w, zln_w, zld_w, zin_w, zcpg_w, znr_w, List.getElem?_cons_zero, List.getElem?_cons_succ, List.set_cons_zero, List.set_cons_succ, List.length_cons, List.length_nil, Nat.reduceLT, Nat.reduceLeDiff, Nat.reduceAdd, Nat.reduceSub, Nat.reduceMul, Nat.reduceEqDiff, Nat.reduceBEq, ↓reduceIte, q_10, q_01, q_00, q_m1, q_m2, q_m3, q_m4, q_m5, q_n1, q_n2, decide_eq_true_eq, decide_eq_false_iff_not, Bool.and_eq_true, Bool.true_and, Bool.and_true, Bool.decide_and, decide_true, decide_false, Bool.true_eq_false, Bool.false_eq_true, Option.toList_some, Option.toList_none, List.cons_append, List.nil_append, true_and, and_true, and_self, not_true_eq_false, not_false_eq_true, forall_const, false_implies, implies_true, Nat.le_refl, ne_eq, Bool.not_eq_true, eq_self, zshA, zb_rz, zb_ne, zb_eq, qem, true_implies, Nat.zero_le, false_and, and_false, Bool.or_eq_true, or_true, true_or, false_or, or_false, sp_97, h, h2, h3, zr_0_0 hR, hm, h5, sp_31a hR hm h4]
set_option maxRecDepth 40000 in
theorem pr_105r1 {d : Nat} {I : zI} {J : zJ} {R : zR} {x y z : Int32} (h : ¬ (0 ≤ x ∧ x ≤ 6)) : zcl (d + 3) 105 [.ref 75, .int x, .int y, .int z] (I, J, R, 111) = some (some (.int (-1)), (I, J, R, 111)) := by
  refine zcl_of (Nat.le_of_ble_eq_true rfl) (zg_wp 60 _ ?_)
  simp only [zpr_105, zhd_105, zp105, zh105, zml_105, o_bad, o_push, o_iload, o_lload, o_aload, o_istore, o_astore, o_lstore, o_iinc, o_ii, o_dv, o_i, o_ll, o_lshl, o_lcmp, o_i2l, o_l2i, o_dup, o_dup2, o_pop, o_goto, o_if, o_ic, o_sw, o_ireturn, o_nreturn, o_lreturn, o_return, o_min, o_max, o_geti, o_getr, o_puti, o_putz, o_putr, o_gets, o_iald, o_lald, o_aald, o_iast, o_last, o_aast, o_alen, o_new, o_newa, o_multi, o_call, o_scall, o_oinit, o_copyi, o_copyl, z_eq, z_ne, z_lt, z_ge, z_gt, z_le, z_ceq, z_cne, z_clt, z_cge, z_cgt, z_cle, z_rz, z_rb, z_rc, q_nz, zg_0, zg_s, zgk_s, zgh_n, zgh_s, zq_n, zq_br, zq_gd, zq_cl2, zqc_s, zq_rt, zq_sw, zq_st, zsws, zent, zpad, zla, zlg, zpop, zrv, zc1, zmk, zob_w, zaw_w, zar_w, zln_w, zld_w, zin_w, zcpg_w, znr_w, List.getElem?_cons_zero, List.getElem?_cons_succ, List.set_cons_zero, List.set_cons_succ, List.length_cons, List.length_nil, Nat.reduceLT, Nat.reduceLeDiff, Nat.reduceAdd, Nat.reduceSub, Nat.reduceMul, Nat.reduceEqDiff, Nat.reduceBEq, ↓reduceIte, q_10, q_01, q_00, q_m1, q_m2, q_m3, q_m4, q_m5, q_n1, q_n2, decide_eq_true_eq, decide_eq_false_iff_not, Bool.and_eq_true, Bool.true_and, Bool.and_true, Bool.decide_and, decide_true, decide_false, Bool.true_eq_false, Bool.false_eq_true, Option.toList_some, Option.toList_none, List.cons_append, List.nil_append, true_and, and_true, and_self, not_true_eq_false, not_false_eq_true, forall_const, false_implies, implies_true, Nat.le_refl, ne_eq, Bool.not_eq_true, eq_self, zshA, zb_rz, zb_ne, zb_eq, qem, true_implies, Nat.zero_le, false_and, and_false, Bool.or_eq_true, or_true, true_or, false_or, or_false, sp_102, h]
set_option maxRecDepth 40000 in
theorem pr_105r2 {d : Nat} {I : zI} {J : zJ} {R : zR} {x y z : Int32} (h : 0 ≤ x ∧ x ≤ 6) (h2 : ¬ ((0 ≤ y ∧ y ≤ 9) ∧ 0 ≤ z ∧ z ≤ 999)) : zcl (d + 3) 105 [.ref 75, .int x, .int y, .int z] (I, J, R, 111) = some (some (.int (-2)), (I, J, R, 111)) := by
  refine zcl_of (Nat.le_of_ble_eq_true rfl) (zg_wp 60 _ ?_)
  by_cases h3 : 0 ≤ y ∧ y ≤ 9
  · have h4 : ¬ (0 ≤ z ∧ z ≤ 999) := fun e => h2 ⟨h3, e⟩
    simp only [zpr_105, zhd_105, zp105, zh105, zml_105, o_bad, o_push, o_iload, o_lload, o_aload, o_istore, o_astore, o_lstore, o_iinc, o_ii, o_dv, o_i, o_ll, o_lshl, o_lcmp, o_i2l, o_l2i, o_dup, o_dup2, o_pop, o_goto, o_if, o_ic, o_sw, o_ireturn, o_nreturn, o_lreturn, o_return, o_min, o_max, o_geti, o_getr, o_puti, o_putz, o_putr, o_gets, o_iald, o_lald, o_aald, o_iast, o_last, o_aast, o_alen, o_new, o_newa, o_multi, o_call, o_scall, o_oinit, o_copyi, o_copyl, z_eq, z_ne, z_lt, z_ge, z_gt, z_le, z_ceq, z_cne, z_clt, z_cge, z_cgt, z_cle, z_rz, z_rb, z_rc, q_nz, zg_0, zg_s, zgk_s, zgh_n, zgh_s, zq_n, zq_br, zq_gd, zq_cl2, zqc_s, zq_rt, zq_sw, zq_st, zsws, zent, zpad, zla, zlg, zpop, zrv, zc1, zmk, zob_w, zaw_w, zar_w, zln_w, zld_w, zin_w, zcpg_w, znr_w, List.getElem?_cons_zero, List.getElem?_cons_succ, List.set_cons_zero, List.set_cons_succ, List.length_cons, List.length_nil, Nat.reduceLT, Nat.reduceLeDiff, Nat.reduceAdd, Nat.reduceSub, Nat.reduceMul, Nat.reduceEqDiff, Nat.reduceBEq, ↓reduceIte, q_10, q_01, q_00, q_m1, q_m2, q_m3, q_m4, q_m5, q_n1, q_n2, decide_eq_true_eq, decide_eq_false_iff_not, Bool.and_eq_true, Bool.true_and, Bool.and_true, Bool.decide_and, decide_true, decide_false, Bool.true_eq_false, Bool.false_eq_true, Option.toList_some, Option.toList_none, List.cons_append, List.nil_append, true_and, and_true, and_self, not_true_eq_false, not_false_eq_true, forall_const, false_implies, implies_true, Nat.le_refl, ne_eq, Bool.not_eq_true, eq_self, zshA, zb_rz, zb_ne, zb_eq, qem, true_implies, Nat.zero_le, false_and, and_false, Bool.or_eq_true, or_true, true_or, false_or, or_false, sp_102, sp_104, h, h3, h4]
  · simp only [zpr_105, zhd_105, zp105, zh105, zml_105, o_bad, o_push, o_iload, o_lload, o_aload, o_istore, o_astore, o_lstore, o_iinc, o_ii, o_dv, o_i, o_ll, o_lshl, o_lcmp, o_i2l, o_l2i, o_dup, o_dup2, o_pop, o_goto, o_if, o_ic, o_sw, o_ireturn, o_nreturn, o_lreturn, o_return, o_min, o_max, o_geti, o_getr, o_puti, o_putz, o_putr, o_gets, o_iald, o_lald, o_aald, o_iast, o_last, o_aast, o_alen, o_new, o_newa, o_multi, o_call, o_scall, o_oinit, o_copyi, o_copyl, z_eq, z_ne, z_lt, z_ge, z_gt, z_le, z_ceq, z_cne, z_clt, z_cge, z_cgt, z_cle, z_rz, z_rb, z_rc, q_nz, zg_0, zg_s, zgk_s, zgh_n, zgh_s, zq_n, zq_br, zq_gd, zq_cl2, zqc_s, zq_rt, zq_sw, zq_st, zsws, zent, zpad, zla, zlg, zpop, zrv, zc1, zmk, zob_w, zaw_w, zar_w, zln_w, zld_w, zin_w, zcpg_w, znr_w, List.getElem?_cons_zero, List.getElem?_cons_succ, List.set_cons_zero, List.set_cons_succ, List.length_cons, List.length_nil, Nat.reduceLT, Nat.reduceLeDiff, Nat.reduceAdd, Nat.reduceSub, Nat.reduceMul, Nat.reduceEqDiff, Nat.reduceBEq, ↓reduceIte, q_10, q_01, q_00, q_m1, q_m2, q_m3, q_m4, q_m5, q_n1, q_n2, decide_eq_true_eq, decide_eq_false_iff_not, Bool.and_eq_true, Bool.true_and, Bool.and_true, Bool.decide_and, decide_true, decide_false, Bool.true_eq_false, Bool.false_eq_true, Option.toList_some, Option.toList_none, List.cons_append, List.nil_append, true_and, and_true, and_self, not_true_eq_false, not_false_eq_true, forall_const, false_implies, implies_true, Nat.le_refl, ne_eq, Bool.not_eq_true, eq_self, zshA, zb_rz, zb_ne, zb_eq, qem, true_implies, Nat.zero_le, false_and, and_false, Bool.or_eq_true, or_true, true_or, false_or, or_false, sp_102, sp_104, h, h3]
set_option maxRecDepth 40000 in
theorem pr_105r3 {d : Nat} {I : zI} {J : zJ} {R : zR} {x y z : Int32} (h : 0 ≤ x ∧ x ≤ 6) (h2 : 0 ≤ y ∧ y ≤ 9) (h3 : 0 ≤ z ∧ z ≤ 999) (h4 : I 75 0 = 6) : zcl (d + 3) 105 [.ref 75, .int x, .int y, .int z] (I, J, R, 111) = some (some (.int (-4)), (I, J, R, 111)) := by
  refine zcl_of (Nat.le_of_ble_eq_true rfl) (zg_wp 60 _ ?_)
  simp only [zpr_105, zhd_105, zp105, zh105, zml_105, o_bad, o_push, o_iload, o_lload, o_aload, o_istore, o_astore, o_lstore, o_iinc, o_ii, o_dv, o_i, o_ll, o_lshl, o_lcmp, o_i2l, o_l2i, o_dup, o_dup2, o_pop, o_goto, o_if, o_ic, o_sw, o_ireturn, o_nreturn, o_lreturn, o_return, o_min, o_max, o_geti, o_getr, o_puti, o_putz, o_putr, o_gets, o_iald, o_lald, o_aald, o_iast, o_last, o_aast, o_alen, o_new, o_newa, o_multi, o_call, o_scall, o_oinit, o_copyi, o_copyl, z_eq, z_ne, z_lt, z_ge, z_gt, z_le, z_ceq, z_cne, z_clt, z_cge, z_cgt, z_cle, z_rz, z_rb, z_rc, q_nz, zg_0, zg_s, zgk_s, zgh_n, zgh_s, zq_n, zq_br, zq_gd, zq_cl2, zqc_s, zq_rt, zq_sw, zq_st, zsws, zent, zpad, zla, zlg, zpop, zrv, zc1, zmk, zob_w, zaw_w, zar_w, zln_w, zld_w, zin_w, zcpg_w, znr_w, List.getElem?_cons_zero, List.getElem?_cons_succ, List.set_cons_zero, List.set_cons_succ, List.length_cons, List.length_nil, Nat.reduceLT, Nat.reduceLeDiff, Nat.reduceAdd, Nat.reduceSub, Nat.reduceMul, Nat.reduceEqDiff, Nat.reduceBEq, ↓reduceIte, q_10, q_01, q_00, q_m1, q_m2, q_m3, q_m4, q_m5, q_n1, q_n2, decide_eq_true_eq, decide_eq_false_iff_not, Bool.and_eq_true, Bool.true_and, Bool.and_true, Bool.decide_and, decide_true, decide_false, Bool.true_eq_false, Bool.false_eq_true, Option.toList_some, Option.toList_none, List.cons_append, List.nil_append, true_and, and_true, and_self, not_true_eq_false, not_false_eq_true, forall_const, false_implies, implies_true, Nat.le_refl, ne_eq, Bool.not_eq_true, eq_self, zshA, zb_rz, zb_ne, zb_eq, qem, true_implies, Nat.zero_le, false_and, and_false, Bool.or_eq_true, or_true, true_or, false_or, or_false, sp_102, sp_104, h, h2, h3, h4]
/-- the four places of a new side's row -/
theorem q4z_row {I : zI} {k m a : Nat} : q4z I k m a = if a = k then (fun b => if b = 4 * m + 3 then 0 else if b = 4 * m + 2 then 0 else if b = 4 * m + 1 then 0 else if b = 4 * m then 0 else I k b) else I a := by
  unfold q4z
  by_cases h : a = k
  · subst h
    simp only [zup_row, ↓reduceIte]
  · simp only [zup_row, h, ↓reduceIte]
section MS1
variable {L : Nat} {xs : Nat → Int32} {yx ym : Nat} {as : List Value}
theorem pair_w1 {k c : Nat} {i : Option Nat} {I : zI} {J : zJ} {R : zR} {v : Int32} (hk : k < 512) (hW : iW L xs k I J) (hp : pW yx ym as (kc (I 75 9)) (kc (I 75 43)) c i (gSof I) (gDof I) I J R (.int v)) : qG L xs yx ym as k (I, J, R, 111) := by
  obtain ⟨⟨I1, R1, y1, e1, t1, c1, hR1⟩, hm⟩ := hp
  have hW1 := iW_eq hW e1 t1
  obtain ⟨I2, y2, e2, t2⟩ := hm I1 R1 c1 (mOK_of hW hW1 e1 hk) e1 hR1
  refine ⟨v, (I1, J, R1, 111), (I2, J, R1, 111), y1, y2, ⟨e1.1 1021 (by decide), e1.1 1022 (by decide), rfl⟩, rfl, ⟨c1, i, ?_⟩, ?_⟩
  · have a9 := eq75 e1 9 (by decide)
    have a43 := eq75 e1 43 (by decide)
    have b9 := eq75 e2 9 (by decide)
    have b43 := eq75 e2 43 (by decide)
    dsimp only
    rw [b9, b43, a9, a43]
    exact hR1
  · dsimp only
    refine iW_eq (k := k) hW (eqS_t e1 e2) ?_
    rw [t2 20 (by decide) (by decide), t2 21 (by decide) (by decide), t2 22 (by decide) (by decide), t2 24 (by decide) (by decide)]
    exact t1
end MS1
section MS
variable {L : Nat} {xs : Nat → Int32} {n s x y z : Int32}
set_option maxRecDepth 40000 in
theorem pr_54 : qPr (Inv L xs) 54 105 [.int x, .int y, .int z] := pair_m (fun k I J R c i hk hW hR => by
  obtain ⟨m, hm, em, em'⟩ := sd_n hW.2.1
  by_cases h : 0 ≤ x ∧ x ≤ 6
  · by_cases h2 : (0 ≤ y ∧ y ≤ 9) ∧ 0 ≤ z ∧ z ≤ 999
    · by_cases hf : m < 6
      · have y1 := pr_54c (d := 58) (J := J) hR h h2.1 h2.2 em hf
        have y2 := sp_105c (d := 57) (I := zup (q4z (zup (zup (zup (zup I 6 m x) 7 m y) 8 m z) 9 m 0) 10 m) 5 0 (nI (m + 1))) (J := J) hR h h2.1 h2.2 (m := m) (by simp only [zup_row, q4z_row, Nat.reduceEqDiff, ↓reduceIte]; exact em') hf
        have hx := iR_of (k := 6) (by omega) h
        have hy := iR_of (k := 9) (by omega) h2.1
        have hz := iR_of (k := 999) (by omega) h2.2
        have r0 : iR 0 0 99999 := ⟨by rw [i0]; omega, by rw [i0]; omega⟩
        have r09 : iR 0 0 9 := ⟨by rw [i0]; omega, by rw [i0]; omega⟩
        obtain ⟨h1, ⟨s1, ⟨s2, s3, s4, s5, s6⟩, s7, s8, s9, ⟨r1, r2, r3, r4, r5⟩, z1, z2, z3, z4, z5⟩, h3, ⟨n1, n2, n3, n4, ⟨bj, hbj, eb, hb⟩, n6⟩, h5, h6, h7, h8, h9, h10⟩ := hW
        obtain ⟨s8a, s8b, s8c⟩ := s8
        have fr : ∀ k, (1 ≤ k ∧ k ≤ 4) ∨ (37 ≤ k ∧ k ≤ 60) ∨ (82 ≤ k ∧ k ≤ 87) → (zup (q4z (zup (zup (zup (zup (zup (q4z (zup (zup (zup (zup I 6 m x) 7 m y) 8 m z) 9 m 0) 10 m) 5 0 (nI (m + 1))) 76 m x) 77 m y) 78 m z) 79 m 0) 80 m) 75 0 (nI (m + 1))) k = I k := fun k hk => by
          have n1 : ¬ k = 5 := by omega
          have n2 : ¬ k = 6 := by omega
          have n3 : ¬ k = 7 := by omega
          have n4 : ¬ k = 8 := by omega
          have n5 : ¬ k = 9 := by omega
          have n6 : ¬ k = 10 := by omega
          have n7 : ¬ k = 75 := by omega
          have n8 : ¬ k = 76 := by omega
          have n9 : ¬ k = 77 := by omega
          have n10 : ¬ k = 78 := by omega
          have n11 : ¬ k = 79 := by omega
          have n12 : ¬ k = 80 := by omega
          simp only [zup_row, q4z_row, n1, n2, n3, n4, n5, n6, n7, n8, n9, n10, n11, n12, ↓reduceIte]
        refine md_fin y1 y2 (by simp only [zup_row, q4z_row, Nat.reduceEqDiff, ↓reduceIte]) (by simp only [zup_row, q4z_row, Nat.reduceEqDiff, ↓reduceIte]) (by simp only [zup_row, q4z_row, Nat.reduceEqDiff, ↓reduceIte]; exact hR) ?_
        unfold iW
        simp only [zup_row, q4z_row, Nat.reduceEqDiff, ↓reduceIte]
        refine ⟨h1, ⟨⟨rfl, s1.2⟩, ⟨by rw [s2], by rw [s3], by rw [s4], by rw [s5], by rw [s6]⟩, ⟨m + 1, by omega, rfl⟩, ⟨s8a, by omega, s8c⟩, s9, ⟨iR_up r1 hx, iR_up r2 hy, iR_up r3 hz, iR_up r4 r0, iR_up (iR_up (iR_up (iR_up r5 r09) r09) r09) r09⟩, zN_up z1 hf, zN_up z2 hf, zN_up z3 hf, zN_up z4 hf, zN_up (zN_up (zN_up (zN_up z5 (by omega)) (by omega)) (by omega)) (by omega)⟩, iSd_le h3, ⟨n1, n2, n3, n4, ⟨bj, hbj, eb, fun w hw => ?_⟩, n6⟩, h5, h6, iKn_e2 h7 fr, iTh_e2 h8 fr, iTh_e2 h9 fr, h10⟩
        have := hb w hw
        rw [em', nI_toInt (by omega)] at this
        rw [nI_toInt (by omega)]
        exact ⟨this.1, by have := this.2; omega⟩
      · have e6 : m = 6 := by omega
        subst e6
        exact md_same hW hR (pr_54r3 (d := 58) hR h h2.1 h2.2 (by rw [em]; decide)) (pr_105r3 (d := 57) h h2.1 h2.2 em')
    · exact md_same hW hR (pr_54r2 (d := 58) h h2) (pr_105r2 (d := 57) h h2)
  · exact md_same hW hR (pr_54r1 (d := 58) h) (pr_105r1 (d := 57) h))
/-- a step of lengths, cuts, snips, days -/
theorem iW_step {k : Nat} {I I' : zI} {J : zJ} {D' : gD} (h : iW L xs k I J) (V : cV_5 (gSof I) D' I') (M : mV (gSof I) D' I') (e9 : I' 9 = I' 79) (hf : ∀ s, iR (I' 79 s) 0 99999) (zf : zN 6 (I' 79)) (hl : ∀ s, iR (g_l D' s) 0 999) (zl : zN 6 (g_l D')) (hm : g_m D' ≤ k + 1) (hd : ∃ j, j ≤ 9999 ∧ g_d D' = nI j)
    (fk : ∀ k, kp k → k ≠ 8 → k ≠ 9 → k ≠ 78 → k ≠ 79 → I' k = I k) (f5 : ∀ j, j ≠ 6 → j ≠ 7 → j ≠ 13 → j ≠ 14 → j ≠ 15 → I' 5 j = I 5 j) (f75 : ∀ j, j ≠ 1 → j ≠ 2 → (j ≠ 11 ∧ j ≠ 12 ∧ j ≠ 21 ∧ j ≠ 22) ∧ j ≠ 23 ∧ j ≠ 30 ∧ j ≠ 31 ∧ j ≠ 32 → I' 75 j = I 75 j) (ft : ∀ k, 19 ≤ k → k ≤ 25 → I' k = I k) : iW L xs (k + 1) I' J := by
  obtain ⟨h1, ⟨s1, ⟨s2, s3, s4, s5, s6⟩, ⟨n, hn, en⟩, s8, s9, ⟨r1, r2, r3, r4, r5⟩, z1, z2, z3, z4, z5⟩, h3, h4, h5, h6, h7, h8, h9, h10, h11, h12, h13, h14⟩ := h
  obtain ⟨v0, v1, v2, v3, v5, v6, v7, v9, v10, v11⟩ := cV_5of V
  obtain ⟨w0, w1, w2, w3, w5, w6, w7⟩ := mV_of M
  have fr : ∀ k, (1 ≤ k ∧ k ≤ 4) ∨ (37 ≤ k ∧ k ≤ 60) ∨ (82 ≤ k ∧ k ≤ 87) → I' k = I k := fun k hk => fk k (by omega) (by omega) (by omega) (by omega) (by omega)
  have en2 : g_n (gSof I) = n := by
    show (I 75 0).toNatClampNeg = n
    rw [en, nI_clamp (by omega)]
  unfold iW
  have c : ∀ j, j ≠ 1 → j ≠ 2 → (j ≠ 11 ∧ j ≠ 12 ∧ j ≠ 21 ∧ j ≠ 22) ∧ j ≠ 23 ∧ j ≠ 30 ∧ j ≠ 31 ∧ j ≠ 32 → I' 75 j = I 75 j := f75
  rw [fk 1021 (by decide) (by decide) (by decide) (by decide) (by decide), fk 1022 (by decide) (by decide) (by decide) (by decide) (by decide)]
  rw [f5 0 (by decide) (by decide) (by decide) (by decide) (by decide), f5 9 (by decide) (by decide) (by decide) (by decide) (by decide), f5 10 (by decide) (by decide) (by decide) (by decide) (by decide), f5 11 (by decide) (by decide) (by decide) (by decide) (by decide)]
  rw [c 0 (by decide) (by decide) (by decide), c 8 (by decide) (by decide) (by decide), c 9 (by decide) (by decide) (by decide), c 10 (by decide) (by decide) (by decide), c 25 (by decide) (by decide) (by decide), c 26 (by decide) (by decide) (by decide), c 27 (by decide) (by decide) (by decide), c 29 (by decide) (by decide) (by decide), c 35 (by decide) (by decide) (by decide), c 37 (by decide) (by decide) (by decide), c 38 (by decide) (by decide) (by decide), c 42 (by decide) (by decide) (by decide), c 43 (by decide) (by decide) (by decide), c 44 (by decide) (by decide) (by decide), c 45 (by decide) (by decide) (by decide), c 46 (by decide) (by decide) (by decide), c 47 (by decide) (by decide) (by decide), c 48 (by decide) (by decide) (by decide), c 49 (by decide) (by decide) (by decide), c 59 (by decide) (by decide) (by decide)]
  have a : ∀ k, kp k → k ≠ 8 → k ≠ 9 → k ≠ 78 → k ≠ 79 → I' k = I k := fk
  rw [a 6 (by decide) (by decide) (by decide) (by decide) (by decide), a 7 (by decide) (by decide) (by decide) (by decide) (by decide), a 10 (by decide) (by decide) (by decide) (by decide) (by decide)]
  rw [a 12 (by decide) (by decide) (by decide) (by decide) (by decide), a 13 (by decide) (by decide) (by decide) (by decide) (by decide), a 14 (by decide) (by decide) (by decide) (by decide) (by decide), a 15 (by decide) (by decide) (by decide) (by decide) (by decide), a 16 (by decide) (by decide) (by decide) (by decide) (by decide), a 17 (by decide) (by decide) (by decide) (by decide) (by decide)]
  rw [a 26 (by decide) (by decide) (by decide) (by decide) (by decide), a 27 (by decide) (by decide) (by decide) (by decide) (by decide), a 28 (by decide) (by decide) (by decide) (by decide) (by decide), a 29 (by decide) (by decide) (by decide) (by decide) (by decide), a 30 (by decide) (by decide) (by decide) (by decide) (by decide), a 31 (by decide) (by decide) (by decide) (by decide) (by decide), a 32 (by decide) (by decide) (by decide) (by decide) (by decide), a 33 (by decide) (by decide) (by decide) (by decide) (by decide), a 34 (by decide) (by decide) (by decide) (by decide) (by decide), a 35 (by decide) (by decide) (by decide) (by decide) (by decide)]
  rw [a 61 (by decide) (by decide) (by decide) (by decide) (by decide), a 62 (by decide) (by decide) (by decide) (by decide) (by decide), a 0 (by decide) (by decide) (by decide) (by decide) (by decide), a 63 (by decide) (by decide) (by decide) (by decide) (by decide), a 64 (by decide) (by decide) (by decide) (by decide) (by decide), a 66 (by decide) (by decide) (by decide) (by decide) (by decide), a 67 (by decide) (by decide) (by decide) (by decide) (by decide)]
  rw [a 76 (by decide) (by decide) (by decide) (by decide) (by decide), a 77 (by decide) (by decide) (by decide) (by decide) (by decide), a 80 (by decide) (by decide) (by decide) (by decide) (by decide), a 81 (by decide) (by decide) (by decide) (by decide) (by decide), a 89 (by decide) (by decide) (by decide) (by decide) (by decide), a 93 (by decide) (by decide) (by decide) (by decide) (by decide), a 94 (by decide) (by decide) (by decide) (by decide) (by decide), a 95 (by decide) (by decide) (by decide) (by decide) (by decide), a 96 (by decide) (by decide) (by decide) (by decide) (by decide)]
  rw [a 97 (by decide) (by decide) (by decide) (by decide) (by decide), a 98 (by decide) (by decide) (by decide) (by decide) (by decide), a 99 (by decide) (by decide) (by decide) (by decide) (by decide), a 100 (by decide) (by decide) (by decide) (by decide) (by decide), a 101 (by decide) (by decide) (by decide) (by decide) (by decide), a 102 (by decide) (by decide) (by decide) (by decide) (by decide), a 103 (by decide) (by decide) (by decide) (by decide) (by decide), a 104 (by decide) (by decide) (by decide) (by decide) (by decide), a 105 (by decide) (by decide) (by decide) (by decide) (by decide), a 106 (by decide) (by decide) (by decide) (by decide) (by decide), a 107 (by decide) (by decide) (by decide) (by decide) (by decide), a 108 (by decide) (by decide) (by decide) (by decide) (by decide)]
  rw [ft 20 (by decide) (by decide), ft 21 (by decide) (by decide), ft 22 (by decide) (by decide), ft 24 (by decide) (by decide)]
  rw [v6, v7, w6, w7, v3, w3, e9]
  exact ⟨h1, ⟨⟨s1.1, rfl, rfl⟩, ⟨s2, s3, rfl, rfl, s6⟩, ⟨n, hn, en⟩, ⟨g_m D', hm, rfl⟩, hd, ⟨r1, r2, hl, hf, r5⟩, z1, z2, zl, zf, z5⟩, iSd_le h3, h4, h5, h6, iKn_e2 h7 fr, iTh_e2 h8 fr, iTh_e2 h9 fr, h10, h11, h12, h13, h14⟩
set_option maxRecDepth 40000 in
theorem pr_62 : qPr (Inv L xs) 62 144 [] := by
  intro k w hk hI
  obtain ⟨I, J, R, nn⟩ := w
  have hI0 := hI
  obtain ⟨hn, ⟨c, i, hR⟩, hW⟩ := hI
  dsimp only at hn hR hW
  subst hn
  obtain ⟨⟨V, hV, M, K, hK⟩, hB, hl, hmk, _⟩ := iW_open hW (by omega)
  have hO := gOK_of hW (by omega)
  have hT := tOK_of hW (by omega)
  have hn6 := hB.1
  have h29 := hW.2.2.2.2.2.2.2.2.2.1.1.2.2.2
  have v6 := V.2.1
  have w6 := M.2.1
  have nm : (nI (g_m (gDof I)) = 9999) = False := eq_false (fun e => absurd ((q_eq3 (n := 9999) (by omega) (by omega)).mp e) (by omega))
  have nm2 : nI (g_m (gDof I)) < 9999 := q_tlt (n := 9999) (by omega) (by omega)
  obtain ⟨I1, y1, f1⟩ := sp_41_5 (d := 53) (J := J) hR hK hR.2.1 V hV hn6
  have V1 := cV_f_5 V f1
  have hV1 := kV_f_5 hK hV f1
  have M1 : mV (gSof I) (gDof I) I1 := by
    unfold mV at M ⊢
    rw [f1.1 75 (by decide) (by decide), f1.1 76 (by decide) (by decide), f1.1 77 (by decide) (by decide), f1.1 78 (by decide) (by decide), f1.1 80 (by decide) (by decide)]
    exact M
  by_cases hd : gGap (gSof I) (gDof I) ≤ g_le (gSof I)
  · -- nothing is left to be cut
    rw [zb_pos hd] at y1
    refine pair_w1 (v := -5) (c := c) (i := i) hk hW ⟨⟨I1, R, zcl_of (Nat.le_of_ble_eq_true rfl) (zg_wp 60 _ ?_), aS_f5 hR hT f1⟩, fun I1 R1 c1 hM he hr => ?_⟩
    · simp only [zpr_62, zhd_62, zp62, zh62, zml_62, o_bad, o_push, o_iload, o_lload, o_aload, o_istore, o_astore, o_lstore, o_iinc, o_ii, o_dv, o_i, o_ll, o_lshl, o_lcmp, o_i2l, o_l2i, o_dup, o_dup2, o_pop, o_goto, o_if, o_ic, o_sw, o_ireturn, o_nreturn, o_lreturn, o_return, o_min, o_max, o_geti, o_getr, o_puti, o_putz, o_putr, o_gets, o_iald, o_lald, o_aald, o_iast, o_last, o_aast, o_alen, o_new, o_newa, o_multi, o_call, o_scall, o_oinit, o_copyi, o_copyl, z_eq, z_ne, z_lt, z_ge, z_gt, z_le, z_ceq, z_cne, z_clt, z_cge, z_cgt, z_cle, z_rz, z_rb, z_rc, q_nz, zg_0, zg_s, zgk_s, zgh_n, zgh_s, zq_n, zq_br, zq_gd, zq_cl2, zqc_s, zq_rt, zq_sw, zq_st, zsws, zent, zpad, zla, zlg, zpop, zrv, zc1, zmk, zob_w, zaw_w, zar_w, zln_w, zld_w, zin_w, zcpg_w, znr_w, List.getElem?_cons_zero, List.getElem?_cons_succ, List.set_cons_zero, List.set_cons_succ, List.length_cons, List.length_nil, Nat.reduceLT, Nat.reduceLeDiff, Nat.reduceAdd, Nat.reduceSub, Nat.reduceMul, Nat.reduceEqDiff, Nat.reduceBEq, ↓reduceIte, q_10, q_01, q_00, q_m1, q_m2, q_m3, q_m4, q_m5, q_n1, q_n2, decide_eq_true_eq, decide_eq_false_iff_not, Bool.and_eq_true, Bool.true_and, Bool.and_true, Bool.decide_and, decide_true, decide_false, Bool.true_eq_false, Bool.false_eq_true, Option.toList_some, Option.toList_none, List.cons_append, List.nil_append, true_and, and_true, and_self, not_true_eq_false, not_false_eq_true, forall_const, false_implies, implies_true, Nat.le_refl, ne_eq, Bool.not_eq_true, eq_self, zshA, zb_rz, zb_ne, zb_eq, qem, true_implies, Nat.zero_le, false_and, and_false, Bool.or_eq_true, or_true, true_or, false_or, or_false, zr_0_0 hR, y1]
    · obtain ⟨I2, y2, f2⟩ := sp_143a (d := 52) (J := J) hr hM.1 hM.2.1 hn6 (gB_le hB) hd
      have w6 := hM.1.2.1
      refine ⟨I2, zcl_of (Nat.le_of_ble_eq_true rfl) (zg_wp 60 _ ?_), mS_f f2⟩
      simp only [zpr_144, zhd_144, zp144, zh144, zml_144, o_bad, o_push, o_iload, o_lload, o_aload, o_istore, o_astore, o_lstore, o_iinc, o_ii, o_dv, o_i, o_ll, o_lshl, o_lcmp, o_i2l, o_l2i, o_dup, o_dup2, o_pop, o_goto, o_if, o_ic, o_sw, o_ireturn, o_nreturn, o_lreturn, o_return, o_min, o_max, o_geti, o_getr, o_puti, o_putz, o_putr, o_gets, o_iald, o_lald, o_aald, o_iast, o_last, o_aast, o_alen, o_new, o_newa, o_multi, o_call, o_scall, o_oinit, o_copyi, o_copyl, z_eq, z_ne, z_lt, z_ge, z_gt, z_le, z_ceq, z_cne, z_clt, z_cge, z_cgt, z_cle, z_rz, z_rb, z_rc, q_nz, zg_0, zg_s, zgk_s, zgh_n, zgh_s, zq_n, zq_br, zq_gd, zq_cl2, zqc_s, zq_rt, zq_sw, zq_st, zsws, zent, zpad, zla, zlg, zpop, zrv, zc1, zmk, zob_w, zaw_w, zar_w, zln_w, zld_w, zin_w, zcpg_w, znr_w, List.getElem?_cons_zero, List.getElem?_cons_succ, List.set_cons_zero, List.set_cons_succ, List.length_cons, List.length_nil, Nat.reduceLT, Nat.reduceLeDiff, Nat.reduceAdd, Nat.reduceSub, Nat.reduceMul, Nat.reduceEqDiff, Nat.reduceBEq, ↓reduceIte, q_10, q_01, q_00, q_m1, q_m2, q_m3, q_m4, q_m5, q_n1, q_n2, decide_eq_true_eq, decide_eq_false_iff_not, Bool.and_eq_true, Bool.true_and, Bool.and_true, Bool.decide_and, decide_true, decide_false, Bool.true_eq_false, Bool.false_eq_true, Option.toList_some, Option.toList_none, List.cons_append, List.nil_append, true_and, and_true, and_self, not_true_eq_false, not_false_eq_true, forall_const, false_implies, implies_true, Nat.le_refl, ne_eq, Bool.not_eq_true, eq_self, zshA, zb_rz, zb_ne, zb_eq, qem, true_implies, Nat.zero_le, false_and, and_false, Bool.or_eq_true, or_true, true_or, false_or, or_false, w6, nm, y2]
  · rw [zb_neg hd] at y1
    obtain ⟨I2, y2, V2, W2, g9, g14, g15⟩ := sp_42b_5 (d := 53) (J := J) hR hK hR.2.1 V1 hV1 hn6 (by omega) (gB_le hB) hd
    have v61 := V1.2.1
    have M2 : mV (gSof I) (gDof I) I2 := by
      unfold mV at M1 ⊢
      rw [W2.1 75 (by decide) (by decide) (by decide) (by decide), W2.1 76 (by decide) (by decide) (by decide) (by decide), W2.1 77 (by decide) (by decide) (by decide) (by decide), W2.1 78 (by decide) (by decide) (by decide) (by decide), W2.1 80 (by decide) (by decide) (by decide) (by decide)]
      exact M1
    have k2 : ∀ k, k ≠ 5 → k ≠ 8 → k ≠ 9 → k ≠ 11 → I2 k = I k := fun k a b c d => (W2.1 k a b c d).trans (f1.1 k a d)
    have K2 : mK (gSof I) I2 := mK_e K (by rw [k2 75 (by decide) (by decide) (by decide) (by decide)]) (by rw [k2 75 (by decide) (by decide) (by decide) (by decide)]) (by rw [k2 75 (by decide) (by decide) (by decide) (by decide)]) (by rw [k2 75 (by decide) (by decide) (by decide) (by decide)]) (k2 82 (by decide) (by decide) (by decide) (by decide)) (k2 83 (by decide) (by decide) (by decide) (by decide)) (k2 84 (by decide) (by decide) (by decide) (by decide)) (k2 85 (by decide) (by decide) (by decide) (by decide)) (k2 86 (by decide) (by decide) (by decide) (by decide)) (k2 87 (by decide) (by decide) (by decide) (by decide))
    obtain ⟨I3, y3, M3, W3, g79, g30⟩ := sp_143b (d := 52) (J := J) hR M2 K2 hn6 (by omega) (gB_le hB) hd
    have hlo := gLo_lt (gB_le hB) hd
    have w62 := M2.2.1
    have e9 : I 9 = I 79 := hW.2.1.2.1.2.2.2.1
    have f79 : I3 79 = gCf 99999 (gTl (gSof I) (gDof I)) (gLo (gSof I) (gDof I)) (I 79) := by
      rw [g79, k2 75 (by decide) (by decide) (by decide) (by decide), h29, k2 79 (by decide) (by decide) (by decide) (by decide)]
    have f9 : I3 9 = gCf 99999 (gTl (gSof I) (gDof I)) (gLo (gSof I) (gDof I)) (I 79) := by
      rw [W3.1 9 (by decide) (by decide) (by decide) (by decide), g9, f1.1 9 (by decide) (by decide), e9]
    obtain ⟨t1, t2⟩ := gTk_b (s := gLo (gSof I) (gDof I)) hB (gOK_bd hO) (gAm_b hB (gOK_bd hO) hd)
    obtain ⟨l1, l2⟩ := hl (gLo (gSof I) (gDof I))
    have hT1 : 0 ≤ (gTl (gSof I) (gDof I)).toInt := t1
    have hT2 : (gTl (gSof I) (gDof I)).toInt ≤ (g_l (gDof I) (gLo (gSof I) (gDof I))).toInt := t2
    have ro := hW.2.1.2.2.2.2.2.1.2.2.2.1
    have zo := hW.2.1.2.2.2.2.2.2.2.2.2.1
    refine ⟨nI (gLo (gSof I) (gDof I)), (I2, J, R, 111), (I3, J, R, 111), zcl_of (Nat.le_of_ble_eq_true rfl) (zg_wp 60 _ ?_), zcl_of (Nat.le_of_ble_eq_true rfl) (zg_wp 60 _ ?_), ⟨k2 1021 (by decide) (by decide) (by decide) (by decide), k2 1022 (by decide) (by decide) (by decide) (by decide), rfl⟩, rfl, ⟨c, i, ?_⟩, ?_⟩
    · simp only [zpr_62, zhd_62, zp62, zh62, zml_62, o_bad, o_push, o_iload, o_lload, o_aload, o_istore, o_astore, o_lstore, o_iinc, o_ii, o_dv, o_i, o_ll, o_lshl, o_lcmp, o_i2l, o_l2i, o_dup, o_dup2, o_pop, o_goto, o_if, o_ic, o_sw, o_ireturn, o_nreturn, o_lreturn, o_return, o_min, o_max, o_geti, o_getr, o_puti, o_putz, o_putr, o_gets, o_iald, o_lald, o_aald, o_iast, o_last, o_aast, o_alen, o_new, o_newa, o_multi, o_call, o_scall, o_oinit, o_copyi, o_copyl, z_eq, z_ne, z_lt, z_ge, z_gt, z_le, z_ceq, z_cne, z_clt, z_cge, z_cgt, z_cle, z_rz, z_rb, z_rc, q_nz, zg_0, zg_s, zgk_s, zgh_n, zgh_s, zq_n, zq_br, zq_gd, zq_cl2, zqc_s, zq_rt, zq_sw, zq_st, zsws, zent, zpad, zla, zlg, zpop, zrv, zc1, zmk, zob_w, zaw_w, zar_w, zln_w, zld_w, zin_w, zcpg_w, znr_w, List.getElem?_cons_zero, List.getElem?_cons_succ, List.set_cons_zero, List.set_cons_succ, List.length_cons, List.length_nil, Nat.reduceLT, Nat.reduceLeDiff, Nat.reduceAdd, Nat.reduceSub, Nat.reduceMul, Nat.reduceEqDiff, Nat.reduceBEq, ↓reduceIte, q_10, q_01, q_00, q_m1, q_m2, q_m3, q_m4, q_m5, q_n1, q_n2, decide_eq_true_eq, decide_eq_false_iff_not, Bool.and_eq_true, Bool.true_and, Bool.and_true, Bool.decide_and, decide_true, decide_false, Bool.true_eq_false, Bool.false_eq_true, Option.toList_some, Option.toList_none, List.cons_append, List.nil_append, true_and, and_true, and_self, not_true_eq_false, not_false_eq_true, forall_const, false_implies, implies_true, Nat.le_refl, ne_eq, Bool.not_eq_true, eq_self, zshA, zb_rz, zb_ne, zb_eq, qem, true_implies, Nat.zero_le, false_and, and_false, Bool.or_eq_true, or_true, true_or, false_or, or_false, zr_0_0 hR, y1, v61, nm2, y2]
    · simp only [zpr_144, zhd_144, zp144, zh144, zml_144, o_bad, o_push, o_iload, o_lload, o_aload, o_istore, o_astore, o_lstore, o_iinc, o_ii, o_dv, o_i, o_ll, o_lshl, o_lcmp, o_i2l, o_l2i, o_dup, o_dup2, o_pop, o_goto, o_if, o_ic, o_sw, o_ireturn, o_nreturn, o_lreturn, o_return, o_min, o_max, o_geti, o_getr, o_puti, o_putz, o_putr, o_gets, o_iald, o_lald, o_aald, o_iast, o_last, o_aast, o_alen, o_new, o_newa, o_multi, o_call, o_scall, o_oinit, o_copyi, o_copyl, z_eq, z_ne, z_lt, z_ge, z_gt, z_le, z_ceq, z_cne, z_clt, z_cge, z_cgt, z_cle, z_rz, z_rb, z_rc, q_nz, zg_0, zg_s, zgk_s, zgh_n, zgh_s, zq_n, zq_br, zq_gd, zq_cl2, zqc_s, zq_rt, zq_sw, zq_st, zsws, zent, zpad, zla, zlg, zpop, zrv, zc1, zmk, zob_w, zaw_w, zar_w, zln_w, zld_w, zin_w, zcpg_w, znr_w, List.getElem?_cons_zero, List.getElem?_cons_succ, List.set_cons_zero, List.set_cons_succ, List.length_cons, List.length_nil, Nat.reduceLT, Nat.reduceLeDiff, Nat.reduceAdd, Nat.reduceSub, Nat.reduceMul, Nat.reduceEqDiff, Nat.reduceBEq, ↓reduceIte, q_10, q_01, q_00, q_m1, q_m2, q_m3, q_m4, q_m5, q_n1, q_n2, decide_eq_true_eq, decide_eq_false_iff_not, Bool.and_eq_true, Bool.true_and, Bool.and_true, Bool.decide_and, decide_true, decide_false, Bool.true_eq_false, Bool.false_eq_true, Option.toList_some, Option.toList_none, List.cons_append, List.nil_append, true_and, and_true, and_self, not_true_eq_false, not_false_eq_true, forall_const, false_implies, implies_true, Nat.le_refl, ne_eq, Bool.not_eq_true, eq_self, zshA, zb_rz, zb_ne, zb_eq, qem, true_implies, Nat.zero_le, false_and, and_false, Bool.or_eq_true, or_true, true_or, false_or, or_false, w62, nm, y3]
    · dsimp only
      rw [W3.2 9 (by decide) (by decide) (by decide), W3.2 43 (by decide) (by decide) (by decide), k2 75 (by decide) (by decide) (by decide) (by decide)]
      exact hR
    · dsimp only
      refine iW_step hW (D' := gNx (gSof I) (gDof I)) ?_ M3 (f9.trans f79.symm) ?_ ?_ ?_ (gCu_hi (by omega) hO.2.2.2) (by rw [gNx_m]; omega) hW.2.1.2.2.2.2.1 ?_ ?_ ?_ ?_
      · unfold cV_5 at V2 ⊢
        rw [W3.1 5 (by decide) (by decide) (by decide) (by decide), W3.1 6 (by decide) (by decide) (by decide) (by decide), W3.1 7 (by decide) (by decide) (by decide) (by decide), W3.1 8 (by decide) (by decide) (by decide) (by decide), W3.1 10 (by decide) (by decide) (by decide) (by decide)]
        exact V2
      · intro s
        rw [f79]
        show iR (if s = gLo (gSof I) (gDof I) then (if 99999 < I 79 (gLo (gSof I) (gDof I)) + gTl (gSof I) (gDof I) then 99999 else I 79 (gLo (gSof I) (gDof I)) + gTl (gSof I) (gDof I)) else I 79 s) 0 99999
        obtain ⟨o1, o2⟩ := ro (gLo (gSof I) (gDof I))
        split
        · split
          · exact ⟨by rw [i99]; omega, by rw [i99]; omega⟩
          · rename_i hc
            rw [Int32.lt_iff_toInt_lt, i99] at hc
            unfold iR
            rw [iadd (by omega) (by omega) (by omega) (by omega)] at hc ⊢
            omega
        · exact ro s
      · intro j hj
        rw [f79, gCf_hi (by omega) hj]
        exact zo j hj
      · intro s
        show iR (if s = gLo (gSof I) (gDof I) then g_l (gDof I) (gLo (gSof I) (gDof I)) - gTl (gSof I) (gDof I) else g_l (gDof I) s) 0 999
        split
        · unfold iR
          rw [isub (by omega) (by omega) (by omega) (by omega)]
          omega
        · exact hl s
      · intro k hk a1 a2 a3 a4
        rw [W3.1 k (by omega) a3 a4 (by omega)]
        exact k2 k (by omega) a1 a2 (by omega)
      · intro j a1 a2 a3 a4 a5
        rw [W3.1 5 (by decide) (by decide) (by decide) (by decide), W2.2 j a3 a4 a5 a1 a2]
        exact f1.2 j a3
      · intro j a1 a2 a3
        rw [W3.2 j a1 a2 a3.2.2.1, k2 75 (by decide) (by decide) (by decide) (by decide)]
      · intro k a1 a2
        rw [W3.1 k (by omega) (by omega) (by omega) (by omega)]
        exact k2 k (by omega) (by omega) (by omega) (by omega)
theorem gDs_s {S : gS} {k : Nat} {D : gD} : gDs S (k + 1) D = gDs S k (gDy S D) := rfl
theorem gDs_d {S : gS} : ∀ (k : Nat) (D : gD) (j : Nat), g_d D = nI j → g_d (gDs S k D) = nI (j + k)
  | 0, _, _, h => h
  | k + 1, D, j, h => by
    have e : g_d (gDy S D) = nI (j + 1) := by
      show g_d D + 1 = nI (j + 1)
      rw [h]
      exact q_add3 (n := 1)
    rw [gDs_s, gDs_d k (gDy S D) (j + 1) e]
    congr 1
    omega
theorem gDs_m {S : gS} : ∀ (k : Nat) (D : gD), g_m (gDs S k D) = g_m D
  | 0, _ => rfl
  | k + 1, D => gDs_m k (gDy S D)
theorem gDs_l {S : gS} (hB : gB S) : ∀ (k : Nat) (D : gD), (∀ s, iR (g_l D s) 0 999) → zN 6 (g_l D) → (∀ s, iR (g_l (gDs S k D) s) 0 999) ∧ zN 6 (g_l (gDs S k D))
  | 0, _, h, z => ⟨h, z⟩
  | k + 1, D, h, z => by
    refine gDs_l hB k (gDy S D) (fun s => ?_) (gDy_hi hB.1 z)
    show iR (if s < g_n S then gDc S D s else g_l D s) 0 999
    split
    · exact gDc_b hB (fun s => ⟨(h s).1, by have := (h s).2; omega⟩) s
    · exact h s
set_option maxRecDepth 40000 in
theorem sl_63 {d : Nat} {J : zJ} {R : zR} {a b c : Nat} {i : Option Nat} {S : gS} (hR : qRk R a b c i) (hn6 : g_n S ≤ 6) {n : Nat} (hn : n ≤ 99) {I0 : zI} : ∀ (f k : Nat) (D : gD) (I : zI), k + f = n → cV_5 S D I → gW_5 I0 I → I 9 = I0 9 → (∀ z, z ≠ 5 → z ≠ 8 → I z = I0 z) → zWP (zcl (d + 2)) 63 (33, [some (.ref 0), some (.int (nI n)), some (.int (nI k))], [], (I, J, R, 111)) (zEn (some (.int (g_d (gDs S f D)))) J R (fun I' => cV_5 S (gDs S f D) I' ∧ gW_5 I0 I' ∧ I' 9 = I0 9 ∧ (∀ z, z ≠ 5 → z ≠ 8 → I' z = I0 z))) := by
  intro f
  induction f with
  | zero =>
    intro k D I hk V W h9 hz
    have e1 : nI n ≤ nI k := q_tle (by omega) (by omega)
    have v7 := V.2.2.1
    refine zg_wp 30 _ ?_
    simp only [zpr_63, zhd_63, zp63, zh63, zml_63, o_bad, o_push, o_iload, o_lload, o_aload, o_istore, o_astore, o_lstore, o_iinc, o_ii, o_dv, o_i, o_ll, o_lshl, o_lcmp, o_i2l, o_l2i, o_dup, o_dup2, o_pop, o_goto, o_if, o_ic, o_sw, o_ireturn, o_nreturn, o_lreturn, o_return, o_min, o_max, o_geti, o_getr, o_puti, o_putz, o_putr, o_gets, o_iald, o_lald, o_aald, o_iast, o_last, o_aast, o_alen, o_new, o_newa, o_multi, o_call, o_scall, o_oinit, o_copyi, o_copyl, z_eq, z_ne, z_lt, z_ge, z_gt, z_le, z_ceq, z_cne, z_clt, z_cge, z_cgt, z_cle, z_rz, z_rb, z_rc, q_nz, zg_0, zg_s, zgk_s, zgh_n, zgh_s, zq_n, zq_br, zq_gd, zq_cl2, zqc_s, zq_rt, zq_sw, zq_st, zsws, zent, zpad, zla, zlg, zpop, zrv, zc1, zmk, zob_w, zaw_w, zar_w, zln_w, zld_w, zin_w, zcpg_w, znr_w, List.getElem?_cons_zero, List.getElem?_cons_succ, List.set_cons_zero, List.set_cons_succ, List.length_cons, List.length_nil, Nat.reduceLT, Nat.reduceLeDiff, Nat.reduceAdd, Nat.reduceSub, Nat.reduceMul, Nat.reduceEqDiff, Nat.reduceBEq, ↓reduceIte, q_10, q_01, q_00, q_m1, q_m2, q_m3, q_m4, q_m5, q_n1, q_n2, decide_eq_true_eq, decide_eq_false_iff_not, Bool.and_eq_true, Bool.true_and, Bool.and_true, Bool.decide_and, decide_true, decide_false, Bool.true_eq_false, Bool.false_eq_true, Option.toList_some, Option.toList_none, List.cons_append, List.nil_append, true_and, and_true, and_self, not_true_eq_false, not_false_eq_true, forall_const, false_implies, implies_true, Nat.le_refl, ne_eq, Bool.not_eq_true, eq_self, zshA, zb_rz, zb_ne, zb_eq, qem, true_implies, Nat.zero_le, false_and, and_false, Bool.or_eq_true, or_true, true_or, false_or, or_false, e1, zr_0_0 hR, v7]
    exact zEn_mk ⟨V, W, h9, hz⟩
  | succ f ih =>
    intro k D I hk V W h9 hz
    have e1 : ¬ nI n ≤ nI k := q_tnle (by omega) (by omega)
    have e2 := (q_row (m := k) (n := 1000) (by omega) (by omega)).2.2
    obtain ⟨I1, y1, V1, W1, _, g9, gz⟩ := sp_45_5 (d := d) (J := J) hR hn6 V
    have z := ih (k + 1) _ I1 (by omega) V1 (gW_t_5 W W1) (g9.trans h9) (fun z a b => (gz z a b).trans (hz z a b))
    refine zg_wp 30 _ ?_
    simp only [zpr_63, zhd_63, zp63, zh63, zml_63, o_bad, o_push, o_iload, o_lload, o_aload, o_istore, o_astore, o_lstore, o_iinc, o_ii, o_dv, o_i, o_ll, o_lshl, o_lcmp, o_i2l, o_l2i, o_dup, o_dup2, o_pop, o_goto, o_if, o_ic, o_sw, o_ireturn, o_nreturn, o_lreturn, o_return, o_min, o_max, o_geti, o_getr, o_puti, o_putz, o_putr, o_gets, o_iald, o_lald, o_aald, o_iast, o_last, o_aast, o_alen, o_new, o_newa, o_multi, o_call, o_scall, o_oinit, o_copyi, o_copyl, z_eq, z_ne, z_lt, z_ge, z_gt, z_le, z_ceq, z_cne, z_clt, z_cge, z_cgt, z_cle, z_rz, z_rb, z_rc, q_nz, zg_0, zg_s, zgk_s, zgh_n, zgh_s, zq_n, zq_br, zq_gd, zq_cl2, zqc_s, zq_rt, zq_sw, zq_st, zsws, zent, zpad, zla, zlg, zpop, zrv, zc1, zmk, zob_w, zaw_w, zar_w, zln_w, zld_w, zin_w, zcpg_w, znr_w, List.getElem?_cons_zero, List.getElem?_cons_succ, List.set_cons_zero, List.set_cons_succ, List.length_cons, List.length_nil, Nat.reduceLT, Nat.reduceLeDiff, Nat.reduceAdd, Nat.reduceSub, Nat.reduceMul, Nat.reduceEqDiff, Nat.reduceBEq, ↓reduceIte, q_10, q_01, q_00, q_m1, q_m2, q_m3, q_m4, q_m5, q_n1, q_n2, decide_eq_true_eq, decide_eq_false_iff_not, Bool.and_eq_true, Bool.true_and, Bool.and_true, Bool.decide_and, decide_true, decide_false, Bool.true_eq_false, Bool.false_eq_true, Option.toList_some, Option.toList_none, List.cons_append, List.nil_append, true_and, and_true, and_self, not_true_eq_false, not_false_eq_true, forall_const, false_implies, implies_true, Nat.le_refl, ne_eq, Bool.not_eq_true, eq_self, zshA, zb_rz, zb_ne, zb_eq, qem, true_implies, Nat.zero_le, false_and, and_false, Bool.or_eq_true, or_true, true_or, false_or, or_false, e1, e2, zr_0_0 hR, y1]
    rw [gDs_s]
    exact z
set_option maxRecDepth 40000 in
theorem sl_146 {d : Nat} {J : zJ} {R : zR} {a b c : Nat} {i : Option Nat} {S : gS} (hR : qRk R a b c i) (hn6 : g_n S ≤ 6) {n : Nat} (hn : n ≤ 99) {I0 : zI} : ∀ (f k : Nat) (D : gD) (I : zI), k + f = n → mV S D I → mW I0 I → I 79 = I0 79 → zWP (zcl (d + 2)) 146 (31, [some (.ref 75), some (.int (nI n)), some (.int (nI k))], [], (I, J, R, 111)) (zEn (some (.int (g_d (gDs S f D)))) J R (fun I' => mV S (gDs S f D) I' ∧ mW I0 I' ∧ I' 79 = I0 79)) := by
  intro f
  induction f with
  | zero =>
    intro k D I hk V W h9
    have e1 : nI n ≤ nI k := q_tle (by omega) (by omega)
    have v7 := V.2.2
    refine zg_wp 30 _ ?_
    simp only [zpr_146, zhd_146, zp146, zh146, zml_146, o_bad, o_push, o_iload, o_lload, o_aload, o_istore, o_astore, o_lstore, o_iinc, o_ii, o_dv, o_i, o_ll, o_lshl, o_lcmp, o_i2l, o_l2i, o_dup, o_dup2, o_pop, o_goto, o_if, o_ic, o_sw, o_ireturn, o_nreturn, o_lreturn, o_return, o_min, o_max, o_geti, o_getr, o_puti, o_putz, o_putr, o_gets, o_iald, o_lald, o_aald, o_iast, o_last, o_aast, o_alen, o_new, o_newa, o_multi, o_call, o_scall, o_oinit, o_copyi, o_copyl, z_eq, z_ne, z_lt, z_ge, z_gt, z_le, z_ceq, z_cne, z_clt, z_cge, z_cgt, z_cle, z_rz, z_rb, z_rc, q_nz, zg_0, zg_s, zgk_s, zgh_n, zgh_s, zq_n, zq_br, zq_gd, zq_cl2, zqc_s, zq_rt, zq_sw, zq_st, zsws, zent, zpad, zla, zlg, zpop, zrv, zc1, zmk, zob_w, zaw_w, zar_w, zln_w, zld_w, zin_w, zcpg_w, znr_w, List.getElem?_cons_zero, List.getElem?_cons_succ, List.set_cons_zero, List.set_cons_succ, List.length_cons, List.length_nil, Nat.reduceLT, Nat.reduceLeDiff, Nat.reduceAdd, Nat.reduceSub, Nat.reduceMul, Nat.reduceEqDiff, Nat.reduceBEq, ↓reduceIte, q_10, q_01, q_00, q_m1, q_m2, q_m3, q_m4, q_m5, q_n1, q_n2, decide_eq_true_eq, decide_eq_false_iff_not, Bool.and_eq_true, Bool.true_and, Bool.and_true, Bool.decide_and, decide_true, decide_false, Bool.true_eq_false, Bool.false_eq_true, Option.toList_some, Option.toList_none, List.cons_append, List.nil_append, true_and, and_true, and_self, not_true_eq_false, not_false_eq_true, forall_const, false_implies, implies_true, Nat.le_refl, ne_eq, Bool.not_eq_true, eq_self, zshA, zb_rz, zb_ne, zb_eq, qem, true_implies, Nat.zero_le, false_and, and_false, Bool.or_eq_true, or_true, true_or, false_or, or_false, e1, v7]
    exact zEn_mk ⟨V, W, h9⟩
  | succ f ih =>
    intro k D I hk V W h9
    have e1 : ¬ nI n ≤ nI k := q_tnle (by omega) (by omega)
    have e2 := (q_row (m := k) (n := 1000) (by omega) (by omega)).2.2
    obtain ⟨I1, y1, V1, W1, g9⟩ := sp_145 (d := d) (J := J) hR hn6 V
    have z := ih (k + 1) _ I1 (by omega) V1 (mW_t W W1) (g9.trans h9)
    refine zg_wp 30 _ ?_
    simp only [zpr_146, zhd_146, zp146, zh146, zml_146, o_bad, o_push, o_iload, o_lload, o_aload, o_istore, o_astore, o_lstore, o_iinc, o_ii, o_dv, o_i, o_ll, o_lshl, o_lcmp, o_i2l, o_l2i, o_dup, o_dup2, o_pop, o_goto, o_if, o_ic, o_sw, o_ireturn, o_nreturn, o_lreturn, o_return, o_min, o_max, o_geti, o_getr, o_puti, o_putz, o_putr, o_gets, o_iald, o_lald, o_aald, o_iast, o_last, o_aast, o_alen, o_new, o_newa, o_multi, o_call, o_scall, o_oinit, o_copyi, o_copyl, z_eq, z_ne, z_lt, z_ge, z_gt, z_le, z_ceq, z_cne, z_clt, z_cge, z_cgt, z_cle, z_rz, z_rb, z_rc, q_nz, zg_0, zg_s, zgk_s, zgh_n, zgh_s, zq_n, zq_br, zq_gd, zq_cl2, zqc_s, zq_rt, zq_sw, zq_st, zsws, zent, zpad, zla, zlg, zpop, zrv, zc1, zmk, zob_w, zaw_w, zar_w, zln_w, zld_w, zin_w, zcpg_w, znr_w, List.getElem?_cons_zero, List.getElem?_cons_succ, List.set_cons_zero, List.set_cons_succ, List.length_cons, List.length_nil, Nat.reduceLT, Nat.reduceLeDiff, Nat.reduceAdd, Nat.reduceSub, Nat.reduceMul, Nat.reduceEqDiff, Nat.reduceBEq, ↓reduceIte, q_10, q_01, q_00, q_m1, q_m2, q_m3, q_m4, q_m5, q_n1, q_n2, decide_eq_true_eq, decide_eq_false_iff_not, Bool.and_eq_true, Bool.true_and, Bool.and_true, Bool.decide_and, decide_true, decide_false, Bool.true_eq_false, Bool.false_eq_true, Option.toList_some, Option.toList_none, List.cons_append, List.nil_append, true_and, and_true, and_self, not_true_eq_false, not_false_eq_true, forall_const, false_implies, implies_true, Nat.le_refl, ne_eq, Bool.not_eq_true, eq_self, zshA, zb_rz, zb_ne, zb_eq, qem, true_implies, Nat.zero_le, false_and, and_false, Bool.or_eq_true, or_true, true_or, false_or, or_false, e1, e2, y1]
    rw [gDs_s]
    exact z
set_option maxRecDepth 40000 in
theorem pr_63 : qPr (Inv L xs) 63 146 [.int n] := pair_m (fun k I J R c i hk hW hR => by
  obtain ⟨⟨V, hV, M, K, hK⟩, hB, hl, hmk, _⟩ := iW_open hW (by omega)
  have hO := gOK_of hW (by omega)
  have hT := tOK_of hW (by omega)
  have hn6 := hB.1
  have v7 := V.2.2.1
  have w7 := M.2.2
  obtain ⟨j, hj, ej⟩ := hW.2.1.2.2.2.2.1
  have ed : g_d (gDof I) = nI j := ej
  by_cases h : 0 ≤ n ∧ n ≤ 99
  · obtain ⟨m, hm, rfl⟩ := q_of (k := 99) (by omega) h.1 h.2
    rw [ed] at v7 w7
    have es : nI j + nI m = nI (j + m) := q_add3
    by_cases h2 : j + m ≤ 9999
    · have h3 : nI (j + m) ≤ 9999 := q_tle (n := 9999) h2 (by omega)
      have y1 : ∃ I', zcl 60 63 [.ref 0, .int (nI m)] (I, J, R, 111) = some (some (.int (g_d (gDs (gSof I) m (gDof I)))), (I', J, R, 111)) ∧ cV_5 (gSof I) (gDs (gSof I) m (gDof I)) I' ∧ gW_5 I I' ∧ I' 9 = I 9 ∧ (∀ z, z ≠ 5 → z ≠ 8 → I' z = I z) := by
        refine zcl_en (d := 59) (Nat.le_of_ble_eq_true rfl) (zg_wp 60 _ ?_)
        simp only [zpr_63, zhd_63, zp63, zh63, zml_63, o_bad, o_push, o_iload, o_lload, o_aload, o_istore, o_astore, o_lstore, o_iinc, o_ii, o_dv, o_i, o_ll, o_lshl, o_lcmp, o_i2l, o_l2i, o_dup, o_dup2, o_pop, o_goto, o_if, o_ic, o_sw, o_ireturn, o_nreturn, o_lreturn, o_return, o_min, o_max, o_geti, o_getr, o_puti, o_putz, o_putr, o_gets, o_iald, o_lald, o_aald, o_iast, o_last, o_aast, o_alen, o_new, o_newa, o_multi, o_call, o_scall, o_oinit, o_copyi, o_copyl, z_eq, z_ne, z_lt, z_ge, z_gt, z_le, z_ceq, z_cne, z_clt, z_cge, z_cgt, z_cle, z_rz, z_rb, z_rc, q_nz, zg_0, zg_s, zgk_s, zgh_n, zgh_s, zq_n, zq_br, zq_gd, zq_cl2, zqc_s, zq_rt, zq_sw, zq_st, zsws, zent, zpad, zla, zlg, zpop, zrv, zc1, zmk, zob_w, zaw_w, zar_w, zln_w, zld_w, zin_w, zcpg_w, znr_w, List.getElem?_cons_zero, List.getElem?_cons_succ, List.set_cons_zero, List.set_cons_succ, List.length_cons, List.length_nil, Nat.reduceLT, Nat.reduceLeDiff, Nat.reduceAdd, Nat.reduceSub, Nat.reduceMul, Nat.reduceEqDiff, Nat.reduceBEq, ↓reduceIte, q_10, q_01, q_00, q_m1, q_m2, q_m3, q_m4, q_m5, q_n1, q_n2, decide_eq_true_eq, decide_eq_false_iff_not, Bool.and_eq_true, Bool.true_and, Bool.and_true, Bool.decide_and, decide_true, decide_false, Bool.true_eq_false, Bool.false_eq_true, Option.toList_some, Option.toList_none, List.cons_append, List.nil_append, true_and, and_true, and_self, not_true_eq_false, not_false_eq_true, forall_const, false_implies, implies_true, Nat.le_refl, ne_eq, Bool.not_eq_true, eq_self, zshA, zb_rz, zb_ne, zb_eq, qem, true_implies, Nat.zero_le, false_and, and_false, Bool.or_eq_true, or_true, true_or, false_or, or_false, sp_97, h, zr_0_0 hR, v7, es, h3]
        exact sl_63 (d := 57) hR hn6 hm m 0 _ I (by omega) V (gW_r_5 I) rfl (fun _ _ _ => rfl)
      obtain ⟨I1, y1, V1, W1, g9, gz⟩ := y1
      have M1 : mV (gSof I) (gDof I) I1 := by
        unfold mV at M ⊢
        rw [gz 75 (by decide) (by decide), gz 76 (by decide) (by decide), gz 77 (by decide) (by decide), gz 78 (by decide) (by decide), gz 80 (by decide) (by decide)]
        exact M
      have w71 : I1 75 2 = nI j := by rw [gz 75 (by decide) (by decide)]; exact w7
      have y2 : ∃ I', zcl 60 146 [.ref 75, .int (nI m)] (I1, J, R, 111) = some (some (.int (g_d (gDs (gSof I) m (gDof I)))), (I', J, R, 111)) ∧ mV (gSof I) (gDs (gSof I) m (gDof I)) I' ∧ mW I1 I' ∧ I' 79 = I1 79 := by
        refine zcl_en (d := 59) (Nat.le_of_ble_eq_true rfl) (zg_wp 60 _ ?_)
        simp only [zpr_146, zhd_146, zp146, zh146, zml_146, o_bad, o_push, o_iload, o_lload, o_aload, o_istore, o_astore, o_lstore, o_iinc, o_ii, o_dv, o_i, o_ll, o_lshl, o_lcmp, o_i2l, o_l2i, o_dup, o_dup2, o_pop, o_goto, o_if, o_ic, o_sw, o_ireturn, o_nreturn, o_lreturn, o_return, o_min, o_max, o_geti, o_getr, o_puti, o_putz, o_putr, o_gets, o_iald, o_lald, o_aald, o_iast, o_last, o_aast, o_alen, o_new, o_newa, o_multi, o_call, o_scall, o_oinit, o_copyi, o_copyl, z_eq, z_ne, z_lt, z_ge, z_gt, z_le, z_ceq, z_cne, z_clt, z_cge, z_cgt, z_cle, z_rz, z_rb, z_rc, q_nz, zg_0, zg_s, zgk_s, zgh_n, zgh_s, zq_n, zq_br, zq_gd, zq_cl2, zqc_s, zq_rt, zq_sw, zq_st, zsws, zent, zpad, zla, zlg, zpop, zrv, zc1, zmk, zob_w, zaw_w, zar_w, zln_w, zld_w, zin_w, zcpg_w, znr_w, List.getElem?_cons_zero, List.getElem?_cons_succ, List.set_cons_zero, List.set_cons_succ, List.length_cons, List.length_nil, Nat.reduceLT, Nat.reduceLeDiff, Nat.reduceAdd, Nat.reduceSub, Nat.reduceMul, Nat.reduceEqDiff, Nat.reduceBEq, ↓reduceIte, q_10, q_01, q_00, q_m1, q_m2, q_m3, q_m4, q_m5, q_n1, q_n2, decide_eq_true_eq, decide_eq_false_iff_not, Bool.and_eq_true, Bool.true_and, Bool.and_true, Bool.decide_and, decide_true, decide_false, Bool.true_eq_false, Bool.false_eq_true, Option.toList_some, Option.toList_none, List.cons_append, List.nil_append, true_and, and_true, and_self, not_true_eq_false, not_false_eq_true, forall_const, false_implies, implies_true, Nat.le_refl, ne_eq, Bool.not_eq_true, eq_self, zshA, zb_rz, zb_ne, zb_eq, qem, true_implies, Nat.zero_le, false_and, and_false, Bool.or_eq_true, or_true, true_or, false_or, or_false, sp_102, h, w71, es, h3]
        exact sl_146 (d := 57) hR hn6 hm m 0 _ I1 (by omega) M1 (mW_r I1) rfl
      obtain ⟨I2, y2, M2, W2, g79⟩ := y2
      have l2 := gDs_l hB m (gDof I) hl hO.2.2.2
      refine md_fin y1 y2 (gz 1021 (by decide) (by decide)) (gz 1022 (by decide) (by decide)) (c := c) (i := i) ?_ ?_
      · rw [W2.2 9 (by decide) (by decide) (by decide), W2.2 43 (by decide) (by decide) (by decide), gz 75 (by decide) (by decide)]
        exact hR
      · have e79 : I2 79 = I 79 := by rw [g79, gz 79 (by decide) (by decide)]
        refine iW_step hW (D' := gDs (gSof I) m (gDof I)) ?_ M2 ?_ ?_ ?_ l2.1 l2.2 (by rw [gDs_m]; omega) ⟨j + m, h2, gDs_d m _ j ed⟩ ?_ ?_ ?_ ?_
        · unfold cV_5 at V1 ⊢
          rw [W2.1 5 (by decide) (by decide) (by decide) (by decide), W2.1 6 (by decide) (by decide) (by decide) (by decide), W2.1 7 (by decide) (by decide) (by decide) (by decide), W2.1 8 (by decide) (by decide) (by decide) (by decide), W2.1 10 (by decide) (by decide) (by decide) (by decide)]
          exact V1
        · rw [W2.1 9 (by decide) (by decide) (by decide) (by decide), g9, e79]
          exact hW.2.1.2.1.2.2.2.1
        · rw [e79]
          exact hW.2.1.2.2.2.2.2.1.2.2.2.1
        · rw [e79]
          exact hW.2.1.2.2.2.2.2.2.2.2.2.1
        · intro k hk a1 a2 a3 a4
          rw [W2.1 k (by omega) a3 a4 (by omega)]
          exact gz k (by omega) a1
        · intro j a1 a2 a3 a4 a5
          rw [W2.1 5 (by decide) (by decide) (by decide) (by decide)]
          exact W1.2 j a3 a4 a5 a1 a2
        · intro j a1 a2 a3
          rw [W2.2 j a1 a2 a3.2.2.1, gz 75 (by decide) (by decide)]
        · intro k a1 a2
          rw [W2.1 k (by omega) (by omega) (by omega) (by omega)]
          exact gz k (by omega) (by omega)
    · have h3 : ¬ nI (j + m) ≤ 9999 := q_tnle (n := 9999) (by omega) (by omega)
      refine md_same hW hR (v := -3) (zcl_of (Nat.le_of_ble_eq_true rfl) (zg_wp 60 _ ?_)) (zcl_of (Nat.le_of_ble_eq_true rfl) (zg_wp 60 _ ?_))
      · simp only [zpr_63, zhd_63, zp63, zh63, zml_63, o_bad, o_push, o_iload, o_lload, o_aload, o_istore, o_astore, o_lstore, o_iinc, o_ii, o_dv, o_i, o_ll, o_lshl, o_lcmp, o_i2l, o_l2i, o_dup, o_dup2, o_pop, o_goto, o_if, o_ic, o_sw, o_ireturn, o_nreturn, o_lreturn, o_return, o_min, o_max, o_geti, o_getr, o_puti, o_putz, o_putr, o_gets, o_iald, o_lald, o_aald, o_iast, o_last, o_aast, o_alen, o_new, o_newa, o_multi, o_call, o_scall, o_oinit, o_copyi, o_copyl, z_eq, z_ne, z_lt, z_ge, z_gt, z_le, z_ceq, z_cne, z_clt, z_cge, z_cgt, z_cle, z_rz, z_rb, z_rc, q_nz, zg_0, zg_s, zgk_s, zgh_n, zgh_s, zq_n, zq_br, zq_gd, zq_cl2, zqc_s, zq_rt, zq_sw, zq_st, zsws, zent, zpad, zla, zlg, zpop, zrv, zc1, zmk, zob_w, zaw_w, zar_w, zln_w, zld_w, zin_w, zcpg_w, znr_w, List.getElem?_cons_zero, List.getElem?_cons_succ, List.set_cons_zero, List.set_cons_succ, List.length_cons, List.length_nil, Nat.reduceLT, Nat.reduceLeDiff, Nat.reduceAdd, Nat.reduceSub, Nat.reduceMul, Nat.reduceEqDiff, Nat.reduceBEq, ↓reduceIte, q_10, q_01, q_00, q_m1, q_m2, q_m3, q_m4, q_m5, q_n1, q_n2, decide_eq_true_eq, decide_eq_false_iff_not, Bool.and_eq_true, Bool.true_and, Bool.and_true, Bool.decide_and, decide_true, decide_false, Bool.true_eq_false, Bool.false_eq_true, Option.toList_some, Option.toList_none, List.cons_append, List.nil_append, true_and, and_true, and_self, not_true_eq_false, not_false_eq_true, forall_const, false_implies, implies_true, Nat.le_refl, ne_eq, Bool.not_eq_true, eq_self, zshA, zb_rz, zb_ne, zb_eq, qem, true_implies, Nat.zero_le, false_and, and_false, Bool.or_eq_true, or_true, true_or, false_or, or_false, sp_97, h, zr_0_0 hR, v7, es, h3]
      · simp only [zpr_146, zhd_146, zp146, zh146, zml_146, o_bad, o_push, o_iload, o_lload, o_aload, o_istore, o_astore, o_lstore, o_iinc, o_ii, o_dv, o_i, o_ll, o_lshl, o_lcmp, o_i2l, o_l2i, o_dup, o_dup2, o_pop, o_goto, o_if, o_ic, o_sw, o_ireturn, o_nreturn, o_lreturn, o_return, o_min, o_max, o_geti, o_getr, o_puti, o_putz, o_putr, o_gets, o_iald, o_lald, o_aald, o_iast, o_last, o_aast, o_alen, o_new, o_newa, o_multi, o_call, o_scall, o_oinit, o_copyi, o_copyl, z_eq, z_ne, z_lt, z_ge, z_gt, z_le, z_ceq, z_cne, z_clt, z_cge, z_cgt, z_cle, z_rz, z_rb, z_rc, q_nz, zg_0, zg_s, zgk_s, zgh_n, zgh_s, zq_n, zq_br, zq_gd, zq_cl2, zqc_s, zq_rt, zq_sw, zq_st, zsws, zent, zpad, zla, zlg, zpop, zrv, zc1, zmk, zob_w, zaw_w, zar_w, zln_w, zld_w, zin_w, zcpg_w, znr_w, List.getElem?_cons_zero, List.getElem?_cons_succ, List.set_cons_zero, List.set_cons_succ, List.length_cons, List.length_nil, Nat.reduceLT, Nat.reduceLeDiff, Nat.reduceAdd, Nat.reduceSub, Nat.reduceMul, Nat.reduceEqDiff, Nat.reduceBEq, ↓reduceIte, q_10, q_01, q_00, q_m1, q_m2, q_m3, q_m4, q_m5, q_n1, q_n2, decide_eq_true_eq, decide_eq_false_iff_not, Bool.and_eq_true, Bool.true_and, Bool.and_true, Bool.decide_and, decide_true, decide_false, Bool.true_eq_false, Bool.false_eq_true, Option.toList_some, Option.toList_none, List.cons_append, List.nil_append, true_and, and_true, and_self, not_true_eq_false, not_false_eq_true, forall_const, false_implies, implies_true, Nat.le_refl, ne_eq, Bool.not_eq_true, eq_self, zshA, zb_rz, zb_ne, zb_eq, qem, true_implies, Nat.zero_le, false_and, and_false, Bool.or_eq_true, or_true, true_or, false_or, or_false, sp_102, h, w7, es, h3]
  · refine md_same hW hR (v := -2) (zcl_of (Nat.le_of_ble_eq_true rfl) (zg_wp 60 _ ?_)) (zcl_of (Nat.le_of_ble_eq_true rfl) (zg_wp 60 _ ?_))
    · simp only [zpr_63, zhd_63, zp63, zh63, zml_63, o_bad, o_push, o_iload, o_lload, o_aload, o_istore, o_astore, o_lstore, o_iinc, o_ii, o_dv, o_i, o_ll, o_lshl, o_lcmp, o_i2l, o_l2i, o_dup, o_dup2, o_pop, o_goto, o_if, o_ic, o_sw, o_ireturn, o_nreturn, o_lreturn, o_return, o_min, o_max, o_geti, o_getr, o_puti, o_putz, o_putr, o_gets, o_iald, o_lald, o_aald, o_iast, o_last, o_aast, o_alen, o_new, o_newa, o_multi, o_call, o_scall, o_oinit, o_copyi, o_copyl, z_eq, z_ne, z_lt, z_ge, z_gt, z_le, z_ceq, z_cne, z_clt, z_cge, z_cgt, z_cle, z_rz, z_rb, z_rc, q_nz, zg_0, zg_s, zgk_s, zgh_n, zgh_s, zq_n, zq_br, zq_gd, zq_cl2, zqc_s, zq_rt, zq_sw, zq_st, zsws, zent, zpad, zla, zlg, zpop, zrv, zc1, zmk, zob_w, zaw_w, zar_w, zln_w, zld_w, zin_w, zcpg_w, znr_w, List.getElem?_cons_zero, List.getElem?_cons_succ, List.set_cons_zero, List.set_cons_succ, List.length_cons, List.length_nil, Nat.reduceLT, Nat.reduceLeDiff, Nat.reduceAdd, Nat.reduceSub, Nat.reduceMul, Nat.reduceEqDiff, Nat.reduceBEq, ↓reduceIte, q_10, q_01, q_00, q_m1, q_m2, q_m3, q_m4, q_m5, q_n1, q_n2, decide_eq_true_eq, decide_eq_false_iff_not, Bool.and_eq_true, Bool.true_and, Bool.and_true, Bool.decide_and, decide_true, decide_false, Bool.true_eq_false, Bool.false_eq_true, Option.toList_some, Option.toList_none, List.cons_append, List.nil_append, true_and, and_true, and_self, not_true_eq_false, not_false_eq_true, forall_const, false_implies, implies_true, Nat.le_refl, ne_eq, Bool.not_eq_true, eq_self, zshA, zb_rz, zb_ne, zb_eq, qem, true_implies, Nat.zero_le, false_and, and_false, Bool.or_eq_true, or_true, true_or, false_or, or_false, sp_97, h]
    · simp only [zpr_146, zhd_146, zp146, zh146, zml_146, o_bad, o_push, o_iload, o_lload, o_aload, o_istore, o_astore, o_lstore, o_iinc, o_ii, o_dv, o_i, o_ll, o_lshl, o_lcmp, o_i2l, o_l2i, o_dup, o_dup2, o_pop, o_goto, o_if, o_ic, o_sw, o_ireturn, o_nreturn, o_lreturn, o_return, o_min, o_max, o_geti, o_getr, o_puti, o_putz, o_putr, o_gets, o_iald, o_lald, o_aald, o_iast, o_last, o_aast, o_alen, o_new, o_newa, o_multi, o_call, o_scall, o_oinit, o_copyi, o_copyl, z_eq, z_ne, z_lt, z_ge, z_gt, z_le, z_ceq, z_cne, z_clt, z_cge, z_cgt, z_cle, z_rz, z_rb, z_rc, q_nz, zg_0, zg_s, zgk_s, zgh_n, zgh_s, zq_n, zq_br, zq_gd, zq_cl2, zqc_s, zq_rt, zq_sw, zq_st, zsws, zent, zpad, zla, zlg, zpop, zrv, zc1, zmk, zob_w, zaw_w, zar_w, zln_w, zld_w, zin_w, zcpg_w, znr_w, List.getElem?_cons_zero, List.getElem?_cons_succ, List.set_cons_zero, List.set_cons_succ, List.length_cons, List.length_nil, Nat.reduceLT, Nat.reduceLeDiff, Nat.reduceAdd, Nat.reduceSub, Nat.reduceMul, Nat.reduceEqDiff, Nat.reduceBEq, ↓reduceIte, q_10, q_01, q_00, q_m1, q_m2, q_m3, q_m4, q_m5, q_n1, q_n2, decide_eq_true_eq, decide_eq_false_iff_not, Bool.and_eq_true, Bool.true_and, Bool.and_true, Bool.decide_and, decide_true, decide_false, Bool.true_eq_false, Bool.false_eq_true, Option.toList_some, Option.toList_none, List.cons_append, List.nil_append, true_and, and_true, and_self, not_true_eq_false, not_false_eq_true, forall_const, false_implies, implies_true, Nat.le_refl, ne_eq, Bool.not_eq_true, eq_self, zshA, zb_rz, zb_ne, zb_eq, qem, true_implies, Nat.zero_le, false_and, and_false, Bool.or_eq_true, or_true, true_or, false_or, or_false, sp_102, h])
end MS
