/-! ===== odds, mean: both sides ===== -/
theorem q_dvI {x k : Nat} (hx : x < 2147483648) (h0 : 0 < k) (hk : k < 2147483648) : nI x / nI k = nI (x / k) := pk_div hx h0 hk
section GC
variable {d : Nat} {a b c : Nat} {i : Option Nat}
set_option maxRecDepth 40000 in
/-- lowestTerms: its turns -/
theorem sl_100 {w : zW} {x y p : Int32} {G : Nat} {line : Nat} (hy : 0 < G) (hline : line < 2147483648) (hl : (if p = 0 then x else y) = nI line) : ∀ (f t q r : Nat), t + f ≤ 100 → r ≤ f → q < 2147483648 → r < 2147483648 → Nat.gcd r q = G → zWP (zcl d) 100 (18, [some (.int x), some (.int y), some (.int p), some (.int (nI q)), some (.int (nI r)), some (.int (nI t)), none], [], w) (fun r w' => r = some (.long (nI (line / G)).toInt64) ∧ w' = w) := by
  intro f
  have fin : ∀ (t q r : Nat), t ≤ 100 → r = 0 → q < 2147483648 → Nat.gcd r q = G → zWP (zcl d) 100 (18, [some (.int x), some (.int y), some (.int p), some (.int (nI q)), some (.int (nI r)), some (.int (nI t)), none], [], w) (fun r w' => r = some (.long (nI (line / G)).toInt64) ∧ w' = w) := by
    intro t q r ht hr hq hg
    subst hr
    rw [Nat.gcd_zero_left] at hg
    subst hg
    have e1 : ¬ nI q ≤ 0 := q_tnle (n := 0) hy (by omega)
    have e2 : (nI 0 ≤ 0) := by decide
    have e3 : (nI q = 0) = False := eq_false (fun e => absurd ((q_ge0 hq).mp e) (by omega))
    have e4 := q_dvI hline hy hq
    refine zg_wp 60 _ ?_
    by_cases h100 : (100 : Int32) ≤ nI t
    · by_cases hp : p = 0
      · rw [if_pos hp] at hl
        simp only [zpr_100, zhd_100, zp100, zh100, zml_100, o_bad, o_push, o_iload, o_lload, o_aload, o_istore, o_astore, o_lstore, o_iinc, o_ii, o_dv, o_i, o_ll, o_lshl, o_lcmp, o_i2l, o_l2i, o_dup, o_dup2, o_pop, o_goto, o_if, o_ic, o_sw, o_ireturn, o_nreturn, o_lreturn, o_return, o_min, o_max, o_geti, o_getr, o_puti, o_putz, o_putr, o_gets, o_iald, o_lald, o_aald, o_iast, o_last, o_aast, o_alen, o_new, o_newa, o_multi, o_call, o_scall, o_oinit, o_copyi, o_copyl, z_eq, z_ne, z_lt, z_ge, z_gt, z_le, z_ceq, z_cne, z_clt, z_cge, z_cgt, z_cle, z_rz, z_rb, z_rc, q_nz, zg_0, zg_s, zgk_s, zgh_n, zgh_s, zq_n, zq_br, zq_gd, zq_cl2, zqc_s, zq_rt, zq_sw, zq_st, zsws, zent, zpad, zla, zlg, zpop, zrv, zc1, zmk, zob_w, zaw_w, zar_w, zln_w, zld_w, zin_w, zcpg_w, znr_w, List.getElem?_cons_zero, List.getElem?_cons_succ, List.set_cons_zero, List.set_cons_succ, List.length_cons, List.length_nil, Nat.reduceLT, Nat.reduceLeDiff, Nat.reduceAdd, Nat.reduceSub, Nat.reduceMul, Nat.reduceEqDiff, Nat.reduceBEq, ↓reduceIte, q_10, q_01, q_00, q_m1, q_m2, q_m3, q_m4, q_m5, q_n1, q_n2, decide_eq_true_eq, decide_eq_false_iff_not, Bool.and_eq_true, Bool.true_and, Bool.and_true, Bool.decide_and, decide_true, decide_false, Bool.true_eq_false, Bool.false_eq_true, Option.toList_some, Option.toList_none, List.cons_append, List.nil_append, true_and, and_true, and_self, not_true_eq_false, not_false_eq_true, forall_const, false_implies, implies_true, Nat.le_refl, ne_eq, Bool.not_eq_true, eq_self, zshA, zb_rz, zb_ne, zb_eq, qem, true_implies, Nat.zero_le, false_and, and_false, Bool.or_eq_true, or_true, true_or, false_or, or_false, h100, hp, e1, e3, hl, e4]
      · rw [if_neg hp] at hl
        simp only [zpr_100, zhd_100, zp100, zh100, zml_100, o_bad, o_push, o_iload, o_lload, o_aload, o_istore, o_astore, o_lstore, o_iinc, o_ii, o_dv, o_i, o_ll, o_lshl, o_lcmp, o_i2l, o_l2i, o_dup, o_dup2, o_pop, o_goto, o_if, o_ic, o_sw, o_ireturn, o_nreturn, o_lreturn, o_return, o_min, o_max, o_geti, o_getr, o_puti, o_putz, o_putr, o_gets, o_iald, o_lald, o_aald, o_iast, o_last, o_aast, o_alen, o_new, o_newa, o_multi, o_call, o_scall, o_oinit, o_copyi, o_copyl, z_eq, z_ne, z_lt, z_ge, z_gt, z_le, z_ceq, z_cne, z_clt, z_cge, z_cgt, z_cle, z_rz, z_rb, z_rc, q_nz, zg_0, zg_s, zgk_s, zgh_n, zgh_s, zq_n, zq_br, zq_gd, zq_cl2, zqc_s, zq_rt, zq_sw, zq_st, zsws, zent, zpad, zla, zlg, zpop, zrv, zc1, zmk, zob_w, zaw_w, zar_w, zln_w, zld_w, zin_w, zcpg_w, znr_w, List.getElem?_cons_zero, List.getElem?_cons_succ, List.set_cons_zero, List.set_cons_succ, List.length_cons, List.length_nil, Nat.reduceLT, Nat.reduceLeDiff, Nat.reduceAdd, Nat.reduceSub, Nat.reduceMul, Nat.reduceEqDiff, Nat.reduceBEq, ↓reduceIte, q_10, q_01, q_00, q_m1, q_m2, q_m3, q_m4, q_m5, q_n1, q_n2, decide_eq_true_eq, decide_eq_false_iff_not, Bool.and_eq_true, Bool.true_and, Bool.and_true, Bool.decide_and, decide_true, decide_false, Bool.true_eq_false, Bool.false_eq_true, Option.toList_some, Option.toList_none, List.cons_append, List.nil_append, true_and, and_true, and_self, not_true_eq_false, not_false_eq_true, forall_const, false_implies, implies_true, Nat.le_refl, ne_eq, Bool.not_eq_true, eq_self, zshA, zb_rz, zb_ne, zb_eq, qem, true_implies, Nat.zero_le, false_and, and_false, Bool.or_eq_true, or_true, true_or, false_or, or_false, h100, hp, e1, e3, hl, e4]
    · by_cases hp : p = 0
      · rw [if_pos hp] at hl
        simp only [zpr_100, zhd_100, zp100, zh100, zml_100, o_bad, o_push, o_iload, o_lload, o_aload, o_istore, o_astore, o_lstore, o_iinc, o_ii, o_dv, o_i, o_ll, o_lshl, o_lcmp, o_i2l, o_l2i, o_dup, o_dup2, o_pop, o_goto, o_if, o_ic, o_sw, o_ireturn, o_nreturn, o_lreturn, o_return, o_min, o_max, o_geti, o_getr, o_puti, o_putz, o_putr, o_gets, o_iald, o_lald, o_aald, o_iast, o_last, o_aast, o_alen, o_new, o_newa, o_multi, o_call, o_scall, o_oinit, o_copyi, o_copyl, z_eq, z_ne, z_lt, z_ge, z_gt, z_le, z_ceq, z_cne, z_clt, z_cge, z_cgt, z_cle, z_rz, z_rb, z_rc, q_nz, zg_0, zg_s, zgk_s, zgh_n, zgh_s, zq_n, zq_br, zq_gd, zq_cl2, zqc_s, zq_rt, zq_sw, zq_st, zsws, zent, zpad, zla, zlg, zpop, zrv, zc1, zmk, zob_w, zaw_w, zar_w, zln_w, zld_w, zin_w, zcpg_w, znr_w, List.getElem?_cons_zero, List.getElem?_cons_succ, List.set_cons_zero, List.set_cons_succ, List.length_cons, List.length_nil, Nat.reduceLT, Nat.reduceLeDiff, Nat.reduceAdd, Nat.reduceSub, Nat.reduceMul, Nat.reduceEqDiff, Nat.reduceBEq, ↓reduceIte, q_10, q_01, q_00, q_m1, q_m2, q_m3, q_m4, q_m5, q_n1, q_n2, decide_eq_true_eq, decide_eq_false_iff_not, Bool.and_eq_true, Bool.true_and, Bool.and_true, Bool.decide_and, decide_true, decide_false, Bool.true_eq_false, Bool.false_eq_true, Option.toList_some, Option.toList_none, List.cons_append, List.nil_append, true_and, and_true, and_self, not_true_eq_false, not_false_eq_true, forall_const, false_implies, implies_true, Nat.le_refl, ne_eq, Bool.not_eq_true, eq_self, zshA, zb_rz, zb_ne, zb_eq, qem, true_implies, Nat.zero_le, false_and, and_false, Bool.or_eq_true, or_true, true_or, false_or, or_false, h100, hp, e1, e2, e3, hl, e4]
      · rw [if_neg hp] at hl
        simp only [zpr_100, zhd_100, zp100, zh100, zml_100, o_bad, o_push, o_iload, o_lload, o_aload, o_istore, o_astore, o_lstore, o_iinc, o_ii, o_dv, o_i, o_ll, o_lshl, o_lcmp, o_i2l, o_l2i, o_dup, o_dup2, o_pop, o_goto, o_if, o_ic, o_sw, o_ireturn, o_nreturn, o_lreturn, o_return, o_min, o_max, o_geti, o_getr, o_puti, o_putz, o_putr, o_gets, o_iald, o_lald, o_aald, o_iast, o_last, o_aast, o_alen, o_new, o_newa, o_multi, o_call, o_scall, o_oinit, o_copyi, o_copyl, z_eq, z_ne, z_lt, z_ge, z_gt, z_le, z_ceq, z_cne, z_clt, z_cge, z_cgt, z_cle, z_rz, z_rb, z_rc, q_nz, zg_0, zg_s, zgk_s, zgh_n, zgh_s, zq_n, zq_br, zq_gd, zq_cl2, zqc_s, zq_rt, zq_sw, zq_st, zsws, zent, zpad, zla, zlg, zpop, zrv, zc1, zmk, zob_w, zaw_w, zar_w, zln_w, zld_w, zin_w, zcpg_w, znr_w, List.getElem?_cons_zero, List.getElem?_cons_succ, List.set_cons_zero, List.set_cons_succ, List.length_cons, List.length_nil, Nat.reduceLT, Nat.reduceLeDiff, Nat.reduceAdd, Nat.reduceSub, Nat.reduceMul, Nat.reduceEqDiff, Nat.reduceBEq, ↓reduceIte, q_10, q_01, q_00, q_m1, q_m2, q_m3, q_m4, q_m5, q_n1, q_n2, decide_eq_true_eq, decide_eq_false_iff_not, Bool.and_eq_true, Bool.true_and, Bool.and_true, Bool.decide_and, decide_true, decide_false, Bool.true_eq_false, Bool.false_eq_true, Option.toList_some, Option.toList_none, List.cons_append, List.nil_append, true_and, and_true, and_self, not_true_eq_false, not_false_eq_true, forall_const, false_implies, implies_true, Nat.le_refl, ne_eq, Bool.not_eq_true, eq_self, zshA, zb_rz, zb_ne, zb_eq, qem, true_implies, Nat.zero_le, false_and, and_false, Bool.or_eq_true, or_true, true_or, false_or, or_false, h100, hp, e1, e2, e3, hl, e4]
  induction f with
  | zero =>
    intro t q r ht hr hq _ hg
    exact fin t q r (by omega) (by omega) hq hg
  | succ f ih =>
    intro t q r ht hr hq hr2 hg
    rcases Nat.eq_zero_or_pos r with h | h
    · exact fin t q r (by omega) h hq hg
    · have e1 : ¬ (100 : Int32) ≤ nI t := q_tnle (m := 100) (by omega) (by omega)
      have e2 : ¬ nI r ≤ 0 := q_tnle (n := 0) h (by omega)
      have e3 : (nI r = 0) = False := eq_false (fun e => absurd ((q_ge0 hr2).mp e) (by omega))
      have e4 := q_remI hq h hr2
      have e5 := (q_row (m := t) (n := 1000) (by omega) (by omega)).2.2
      have hlt := Nat.mod_lt q h
      have z := ih (t + 1) r (q % r) (by omega) (by omega) hr2 (by omega) (by rw [← hg]; exact (Nat.gcd_rec r q).symm)
      refine zg_wp 60 _ ?_
      simp only [zpr_100, zhd_100, zp100, zh100, zml_100, o_bad, o_push, o_iload, o_lload, o_aload, o_istore, o_astore, o_lstore, o_iinc, o_ii, o_dv, o_i, o_ll, o_lshl, o_lcmp, o_i2l, o_l2i, o_dup, o_dup2, o_pop, o_goto, o_if, o_ic, o_sw, o_ireturn, o_nreturn, o_lreturn, o_return, o_min, o_max, o_geti, o_getr, o_puti, o_putz, o_putr, o_gets, o_iald, o_lald, o_aald, o_iast, o_last, o_aast, o_alen, o_new, o_newa, o_multi, o_call, o_scall, o_oinit, o_copyi, o_copyl, z_eq, z_ne, z_lt, z_ge, z_gt, z_le, z_ceq, z_cne, z_clt, z_cge, z_cgt, z_cle, z_rz, z_rb, z_rc, q_nz, zg_0, zg_s, zgk_s, zgh_n, zgh_s, zq_n, zq_br, zq_gd, zq_cl2, zqc_s, zq_rt, zq_sw, zq_st, zsws, zent, zpad, zla, zlg, zpop, zrv, zc1, zmk, zob_w, zaw_w, zar_w, zln_w, zld_w, zin_w, zcpg_w, znr_w, List.getElem?_cons_zero, List.getElem?_cons_succ, List.set_cons_zero, List.set_cons_succ, List.length_cons, List.length_nil, Nat.reduceLT, Nat.reduceLeDiff, Nat.reduceAdd, Nat.reduceSub, Nat.reduceMul, Nat.reduceEqDiff, Nat.reduceBEq, ↓reduceIte, q_10, q_01, q_00, q_m1, q_m2, q_m3, q_m4, q_m5, q_n1, q_n2, decide_eq_true_eq, decide_eq_false_iff_not, Bool.and_eq_true, Bool.true_and, Bool.and_true, Bool.decide_and, decide_true, decide_false, Bool.true_eq_false, Bool.false_eq_true, Option.toList_some, Option.toList_none, List.cons_append, List.nil_append, true_and, and_true, and_self, not_true_eq_false, not_false_eq_true, forall_const, false_implies, implies_true, Nat.le_refl, ne_eq, Bool.not_eq_true, eq_self, zshA, zb_rz, zb_ne, zb_eq, qem, true_implies, Nat.zero_le, false_and, and_false, Bool.or_eq_true, or_true, true_or, false_or, or_false, e1, e2, e3, e4, e5]
      exact z
set_option maxRecDepth 40000 in
theorem sp_100 {w : zW} {x y : Nat} {p : Int32} (hx : x < 1000000) (h0 : 0 < y) (hy : y < 90) : zcl (d + 1) 100 [.int (nI x), .int (nI y), .int p] w = some (some (.long (nI ((if p = 0 then x else y) / Nat.gcd x y)).toInt64), w) := by
  have e1 : (0 : Int32) < nI y := q_tlt (m := 0) h0 (by omega)
  have e3 : (nI y = 0) = False := eq_false (fun e => absurd ((q_ge0 (by omega)).mp e) (by omega))
  have e4 := q_remI (x := x) (k := y) (by omega) h0 (by omega)
  have hlt := Nat.mod_lt x h0
  refine zcl_of (Nat.le_of_ble_eq_true rfl) (zg_wp 40 _ ?_)
  simp only [zpr_100, zhd_100, zp100, zh100, zml_100, o_bad, o_push, o_iload, o_lload, o_aload, o_istore, o_astore, o_lstore, o_iinc, o_ii, o_dv, o_i, o_ll, o_lshl, o_lcmp, o_i2l, o_l2i, o_dup, o_dup2, o_pop, o_goto, o_if, o_ic, o_sw, o_ireturn, o_nreturn, o_lreturn, o_return, o_min, o_max, o_geti, o_getr, o_puti, o_putz, o_putr, o_gets, o_iald, o_lald, o_aald, o_iast, o_last, o_aast, o_alen, o_new, o_newa, o_multi, o_call, o_scall, o_oinit, o_copyi, o_copyl, z_eq, z_ne, z_lt, z_ge, z_gt, z_le, z_ceq, z_cne, z_clt, z_cge, z_cgt, z_cle, z_rz, z_rb, z_rc, q_nz, zg_0, zg_s, zgk_s, zgh_n, zgh_s, zq_n, zq_br, zq_gd, zq_cl2, zqc_s, zq_rt, zq_sw, zq_st, zsws, zent, zpad, zla, zlg, zpop, zrv, zc1, zmk, zob_w, zaw_w, zar_w, zln_w, zld_w, zin_w, zcpg_w, znr_w, List.getElem?_cons_zero, List.getElem?_cons_succ, List.set_cons_zero, List.set_cons_succ, List.length_cons, List.length_nil, Nat.reduceLT, Nat.reduceLeDiff, Nat.reduceAdd, Nat.reduceSub, Nat.reduceMul, Nat.reduceEqDiff, Nat.reduceBEq, ↓reduceIte, q_10, q_01, q_00, q_m1, q_m2, q_m3, q_m4, q_m5, q_n1, q_n2, decide_eq_true_eq, decide_eq_false_iff_not, Bool.and_eq_true, Bool.true_and, Bool.and_true, Bool.decide_and, decide_true, decide_false, Bool.true_eq_false, Bool.false_eq_true, Option.toList_some, Option.toList_none, List.cons_append, List.nil_append, true_and, and_true, and_self, not_true_eq_false, not_false_eq_true, forall_const, false_implies, implies_true, Nat.le_refl, ne_eq, Bool.not_eq_true, eq_self, zshA, zb_rz, zb_ne, zb_eq, qem, true_implies, Nat.zero_le, false_and, and_false, Bool.or_eq_true, or_true, true_or, false_or, or_false, e1, e3, e4]
  have hg : Nat.gcd (x % y) y = Nat.gcd x y := by
    rw [Nat.gcd_comm x y, Nat.gcd_rec y x]
  have hpos : 0 < Nat.gcd x y := Nat.gcd_pos_of_pos_right x h0
  have z := sl_100 (d := d) (w := w) (x := nI x) (y := nI y) (p := p) (G := Nat.gcd x y) (line := if p = 0 then x else y) hpos (by split <;> omega) (by split <;> rfl) (x % y) 0 y (x % y) (by omega) (Nat.le_refl _) (by omega) (by omega) hg
  exact z
set_option maxRecDepth 40000 in
theorem sl_173 {w : zW} {G : Nat} : ∀ (f p q : Nat), q ≤ f → p < 2147483648 → q < 2147483648 → Nat.gcd q p = G → zWP (zcl d) 173 (5, [none, none, none, some (.int (nI p)), some (.int (nI q)), none], [], w) (fun r w' => r = some (.int (nI G)) ∧ w' = w) := by
  intro f
  have fin : ∀ p q : Nat, q = 0 → Nat.gcd q p = G → zWP (zcl d) 173 (5, [none, none, none, some (.int (nI p)), some (.int (nI q)), none], [], w) (fun r w' => r = some (.int (nI G)) ∧ w' = w) := by
    intro p q hq hg
    subst hq
    rw [Nat.gcd_zero_left] at hg
    subst hg
    have e : (nI 0 = 0) = True := eq_true rfl
    refine zg_wp 20 _ ?_
    simp only [zpr_173, zhd_173, zp173, zh173, zml_173, o_bad, o_push, o_iload, o_lload, o_aload, o_istore, o_astore, o_lstore, o_iinc, o_ii, o_dv, o_i, o_ll, o_lshl, o_lcmp, o_i2l, o_l2i, o_dup, o_dup2, o_pop, o_goto, o_if, o_ic, o_sw, o_ireturn, o_nreturn, o_lreturn, o_return, o_min, o_max, o_geti, o_getr, o_puti, o_putz, o_putr, o_gets, o_iald, o_lald, o_aald, o_iast, o_last, o_aast, o_alen, o_new, o_newa, o_multi, o_call, o_scall, o_oinit, o_copyi, o_copyl, z_eq, z_ne, z_lt, z_ge, z_gt, z_le, z_ceq, z_cne, z_clt, z_cge, z_cgt, z_cle, z_rz, z_rb, z_rc, q_nz, zg_0, zg_s, zgk_s, zgh_n, zgh_s, zq_n, zq_br, zq_gd, zq_cl2, zqc_s, zq_rt, zq_sw, zq_st, zsws, zent, zpad, zla, zlg, zpop, zrv, zc1, zmk, zob_w, zaw_w, zar_w, zln_w, zld_w, zin_w, zcpg_w, znr_w, List.getElem?_cons_zero, List.getElem?_cons_succ, List.set_cons_zero, List.set_cons_succ, List.length_cons, List.length_nil, Nat.reduceLT, Nat.reduceLeDiff, Nat.reduceAdd, Nat.reduceSub, Nat.reduceMul, Nat.reduceEqDiff, Nat.reduceBEq, ↓reduceIte, q_10, q_01, q_00, q_m1, q_m2, q_m3, q_m4, q_m5, q_n1, q_n2, decide_eq_true_eq, decide_eq_false_iff_not, Bool.and_eq_true, Bool.true_and, Bool.and_true, Bool.decide_and, decide_true, decide_false, Bool.true_eq_false, Bool.false_eq_true, Option.toList_some, Option.toList_none, List.cons_append, List.nil_append, true_and, and_true, and_self, not_true_eq_false, not_false_eq_true, forall_const, false_implies, implies_true, Nat.le_refl, ne_eq, Bool.not_eq_true, eq_self, zshA, zb_rz, zb_ne, zb_eq, qem, true_implies, Nat.zero_le, false_and, and_false, Bool.or_eq_true, or_true, true_or, false_or, or_false, e]
  induction f with
  | zero =>
    intro p q hq _ _ hg
    exact fin p q (by omega) hg
  | succ f ih =>
    intro p q hq hp hq2 hg
    rcases Nat.eq_zero_or_pos q with h | h
    · exact fin p q h hg
    · have e3 : (nI q = 0) = False := eq_false (fun e => absurd ((q_ge0 hq2).mp e) (by omega))
      have e4 := q_remI hp h hq2
      have hlt := Nat.mod_lt p h
      have z := ih q (p % q) (by omega) hq2 (by omega) (by rw [← hg]; exact (Nat.gcd_rec q p).symm)
      refine zg_wp 30 _ ?_
      simp only [zpr_173, zhd_173, zp173, zh173, zml_173, o_bad, o_push, o_iload, o_lload, o_aload, o_istore, o_astore, o_lstore, o_iinc, o_ii, o_dv, o_i, o_ll, o_lshl, o_lcmp, o_i2l, o_l2i, o_dup, o_dup2, o_pop, o_goto, o_if, o_ic, o_sw, o_ireturn, o_nreturn, o_lreturn, o_return, o_min, o_max, o_geti, o_getr, o_puti, o_putz, o_putr, o_gets, o_iald, o_lald, o_aald, o_iast, o_last, o_aast, o_alen, o_new, o_newa, o_multi, o_call, o_scall, o_oinit, o_copyi, o_copyl, z_eq, z_ne, z_lt, z_ge, z_gt, z_le, z_ceq, z_cne, z_clt, z_cge, z_cgt, z_cle, z_rz, z_rb, z_rc, q_nz, zg_0, zg_s, zgk_s, zgh_n, zgh_s, zq_n, zq_br, zq_gd, zq_cl2, zqc_s, zq_rt, zq_sw, zq_st, zsws, zent, zpad, zla, zlg, zpop, zrv, zc1, zmk, zob_w, zaw_w, zar_w, zln_w, zld_w, zin_w, zcpg_w, znr_w, List.getElem?_cons_zero, List.getElem?_cons_succ, List.set_cons_zero, List.set_cons_succ, List.length_cons, List.length_nil, Nat.reduceLT, Nat.reduceLeDiff, Nat.reduceAdd, Nat.reduceSub, Nat.reduceMul, Nat.reduceEqDiff, Nat.reduceBEq, ↓reduceIte, q_10, q_01, q_00, q_m1, q_m2, q_m3, q_m4, q_m5, q_n1, q_n2, decide_eq_true_eq, decide_eq_false_iff_not, Bool.and_eq_true, Bool.true_and, Bool.and_true, Bool.decide_and, decide_true, decide_false, Bool.true_eq_false, Bool.false_eq_true, Option.toList_some, Option.toList_none, List.cons_append, List.nil_append, true_and, and_true, and_self, not_true_eq_false, not_false_eq_true, forall_const, false_implies, implies_true, Nat.le_refl, ne_eq, Bool.not_eq_true, eq_self, zshA, zb_rz, zb_ne, zb_eq, qem, true_implies, Nat.zero_le, false_and, and_false, Bool.or_eq_true, or_true, true_or, false_or, or_false, e3, e4]
      exact z
set_option maxRecDepth 40000 in
theorem sp_173 {I : zI} {J : zJ} {R : zR} {x y : Nat} (hx : x < 1000000) (hy : y < 1000000) : zcl (d + 1) 173 [.ref 75, .int (nI x), .int (nI y)] (I, J, R, 111) = some (some (.int (nI (Nat.gcd x y))), (I, J, R, 111)) := by
  refine zcl_of (Nat.le_of_ble_eq_true rfl) (zg_wp 20 _ ?_)
  simp only [zpr_173, zhd_173, zp173, zh173, zml_173, o_bad, o_push, o_iload, o_lload, o_aload, o_istore, o_astore, o_lstore, o_iinc, o_ii, o_dv, o_i, o_ll, o_lshl, o_lcmp, o_i2l, o_l2i, o_dup, o_dup2, o_pop, o_goto, o_if, o_ic, o_sw, o_ireturn, o_nreturn, o_lreturn, o_return, o_min, o_max, o_geti, o_getr, o_puti, o_putz, o_putr, o_gets, o_iald, o_lald, o_aald, o_iast, o_last, o_aast, o_alen, o_new, o_newa, o_multi, o_call, o_scall, o_oinit, o_copyi, o_copyl, z_eq, z_ne, z_lt, z_ge, z_gt, z_le, z_ceq, z_cne, z_clt, z_cge, z_cgt, z_cle, z_rz, z_rb, z_rc, q_nz, zg_0, zg_s, zgk_s, zgh_n, zgh_s, zq_n, zq_br, zq_gd, zq_cl2, zqc_s, zq_rt, zq_sw, zq_st, zsws, zent, zpad, zla, zlg, zpop, zrv, zc1, zmk, zob_w, zaw_w, zar_w, zln_w, zld_w, zin_w, zcpg_w, znr_w, List.getElem?_cons_zero, List.getElem?_cons_succ, List.set_cons_zero, List.set_cons_succ, List.length_cons, List.length_nil, Nat.reduceLT, Nat.reduceLeDiff, Nat.reduceAdd, Nat.reduceSub, Nat.reduceMul, Nat.reduceEqDiff, Nat.reduceBEq, ↓reduceIte, q_10, q_01, q_00, q_m1, q_m2, q_m3, q_m4, q_m5, q_n1, q_n2, decide_eq_true_eq, decide_eq_false_iff_not, Bool.and_eq_true, Bool.true_and, Bool.and_true, Bool.decide_and, decide_true, decide_false, Bool.true_eq_false, Bool.false_eq_true, Option.toList_some, Option.toList_none, List.cons_append, List.nil_append, true_and, and_true, and_self, not_true_eq_false, not_false_eq_true, forall_const, false_implies, implies_true, Nat.le_refl, ne_eq, Bool.not_eq_true, eq_self, zshA, zb_rz, zb_ne, zb_eq, qem, true_implies, Nat.zero_le, false_and, and_false, Bool.or_eq_true, or_true, true_or, false_or, or_false]
  exact sl_173 y x y (Nat.le_refl _) (by omega) (by omega) (Nat.gcd_comm y x)
set_option maxRecDepth 40000 in
theorem sp_174 {I : zI} {J : zJ} {R : zR} {x y : Nat} {p : Int32} (hx : x < 1000000) (h0 : 0 < y) (hy : y < 90) : zcl (d + 2) 174 [.ref 75, .int (nI x), .int (nI y), .int p] (I, J, R, 111) = some (some (.long (nI ((if p = 0 then x else y) / Nat.gcd x y)).toInt64), (I, J, R, 111)) := by
  have hpos : 0 < Nat.gcd x y := Nat.gcd_pos_of_pos_right x h0
  have hle : Nat.gcd x y ≤ y := Nat.gcd_le_right x h0
  have e3 : (nI (Nat.gcd x y) = 0) = False := eq_false (fun e => absurd ((q_ge0 (by omega)).mp e) (by omega))
  have e4 := q_dvI (x := x) (k := Nat.gcd x y) (by omega) hpos (by omega)
  have e5 := q_dvI (x := y) (k := Nat.gcd x y) (by omega) hpos (by omega)
  refine zcl_of (Nat.le_of_ble_eq_true rfl) (zg_wp 40 _ ?_)
  by_cases hp : p = 0
  · simp only [zpr_174, zhd_174, zp174, zh174, zml_174, o_bad, o_push, o_iload, o_lload, o_aload, o_istore, o_astore, o_lstore, o_iinc, o_ii, o_dv, o_i, o_ll, o_lshl, o_lcmp, o_i2l, o_l2i, o_dup, o_dup2, o_pop, o_goto, o_if, o_ic, o_sw, o_ireturn, o_nreturn, o_lreturn, o_return, o_min, o_max, o_geti, o_getr, o_puti, o_putz, o_putr, o_gets, o_iald, o_lald, o_aald, o_iast, o_last, o_aast, o_alen, o_new, o_newa, o_multi, o_call, o_scall, o_oinit, o_copyi, o_copyl, z_eq, z_ne, z_lt, z_ge, z_gt, z_le, z_ceq, z_cne, z_clt, z_cge, z_cgt, z_cle, z_rz, z_rb, z_rc, q_nz, zg_0, zg_s, zgk_s, zgh_n, zgh_s, zq_n, zq_br, zq_gd, zq_cl2, zqc_s, zq_rt, zq_sw, zq_st, zsws, zent, zpad, zla, zlg, zpop, zrv, zc1, zmk, zob_w, zaw_w, zar_w, zln_w, zld_w, zin_w, zcpg_w, znr_w, List.getElem?_cons_zero, List.getElem?_cons_succ, List.set_cons_zero, List.set_cons_succ, List.length_cons, List.length_nil, Nat.reduceLT, Nat.reduceLeDiff, Nat.reduceAdd, Nat.reduceSub, Nat.reduceMul, Nat.reduceEqDiff, Nat.reduceBEq, ↓reduceIte, q_10, q_01, q_00, q_m1, q_m2, q_m3, q_m4, q_m5, q_n1, q_n2, decide_eq_true_eq, decide_eq_false_iff_not, Bool.and_eq_true, Bool.true_and, Bool.and_true, Bool.decide_and, decide_true, decide_false, Bool.true_eq_false, Bool.false_eq_true, Option.toList_some, Option.toList_none, List.cons_append, List.nil_append, true_and, and_true, and_self, not_true_eq_false, not_false_eq_true, forall_const, false_implies, implies_true, Nat.le_refl, ne_eq, Bool.not_eq_true, eq_self, zshA, zb_rz, zb_ne, zb_eq, qem, true_implies, Nat.zero_le, false_and, and_false, Bool.or_eq_true, or_true, true_or, false_or, or_false, sp_173 hx (Nat.lt_trans hy (by decide)), hp, e3, e4]
  · simp only [zpr_174, zhd_174, zp174, zh174, zml_174, o_bad, o_push, o_iload, o_lload, o_aload, o_istore, o_astore, o_lstore, o_iinc, o_ii, o_dv, o_i, o_ll, o_lshl, o_lcmp, o_i2l, o_l2i, o_dup, o_dup2, o_pop, o_goto, o_if, o_ic, o_sw, o_ireturn, o_nreturn, o_lreturn, o_return, o_min, o_max, o_geti, o_getr, o_puti, o_putz, o_putr, o_gets, o_iald, o_lald, o_aald, o_iast, o_last, o_aast, o_alen, o_new, o_newa, o_multi, o_call, o_scall, o_oinit, o_copyi, o_copyl, z_eq, z_ne, z_lt, z_ge, z_gt, z_le, z_ceq, z_cne, z_clt, z_cge, z_cgt, z_cle, z_rz, z_rb, z_rc, q_nz, zg_0, zg_s, zgk_s, zgh_n, zgh_s, zq_n, zq_br, zq_gd, zq_cl2, zqc_s, zq_rt, zq_sw, zq_st, zsws, zent, zpad, zla, zlg, zpop, zrv, zc1, zmk, zob_w, zaw_w, zar_w, zln_w, zld_w, zin_w, zcpg_w, znr_w, List.getElem?_cons_zero, List.getElem?_cons_succ, List.set_cons_zero, List.set_cons_succ, List.length_cons, List.length_nil, Nat.reduceLT, Nat.reduceLeDiff, Nat.reduceAdd, Nat.reduceSub, Nat.reduceMul, Nat.reduceEqDiff, Nat.reduceBEq, ↓reduceIte, q_10, q_01, q_00, q_m1, q_m2, q_m3, q_m4, q_m5, q_n1, q_n2, decide_eq_true_eq, decide_eq_false_iff_not, Bool.and_eq_true, Bool.true_and, Bool.and_true, Bool.decide_and, decide_true, decide_false, Bool.true_eq_false, Bool.false_eq_true, Option.toList_some, Option.toList_none, List.cons_append, List.nil_append, true_and, and_true, and_self, not_true_eq_false, not_false_eq_true, forall_const, false_implies, implies_true, Nat.le_refl, ne_eq, Bool.not_eq_true, eq_self, zshA, zb_rz, zb_ne, zb_eq, qem, true_implies, Nat.zero_le, false_and, and_false, Bool.or_eq_true, or_true, true_or, false_or, or_false, sp_173 hx (Nat.lt_trans hy (by decide)), hp, e3, e5]
end GC
/-- how many of k sides from s on are good -/
def gOdo (S : gS) (D : gD) (s : Nat) : Int32 := gSp S (gWk S 30 (gSetL D s (g_l D s + 5)))
def gOd (S : gS) (D : gD) (q : Int32) : Nat → Nat → Nat → Nat
  | 0, _, g => g
  | k + 1, s, g => gOd S D q k (s + 1) (if gOdo S D s ≤ q then g + 1 else g)
theorem gOd_le {S : gS} {D : gD} {q : Int32} : ∀ (k s g : Nat), gOd S D q k s g ≤ g + k
  | 0, _, g => Nat.le_refl _
  | k + 1, s, g => by
    have := gOd_le (S := S) (D := D) (q := q) k (s + 1) (if gOdo S D s ≤ q then g + 1 else g)
    show gOd S D q k (s + 1) (if gOdo S D s ≤ q then g + 1 else g) ≤ _
    split at this <;> rename_i h
    · rw [if_pos h]; omega
    · rw [if_neg h]; omega
section OD
variable {d : Nat} {J : zJ} {R : zR} {a b c : Nat} {i : Option Nat} {S : gS} {D : gD}
set_option maxRecDepth 40000 in
theorem sl_80 {I0 : zI} (h0 : tOK a S D I0) (hB : gOK S D) (hpos : 0 < g_n S) {q p : Int32} : ∀ (k s g : Nat) (I : zI) (R : zR) (c : Nat), qRk R a b c i → s + k = g_n S → g ≤ s → tE I0 I → iTr (I 20) (I 21) (I 22) (I 24) → zWP (zcl (d + 7)) 80 (29, [some (.ref 0), some (.int q), some (.int p), some (.int (nI g)), some (.int (nI s))], [], (I, J, R, 111)) (zAs (some (.long (nI ((if p = 0 then gOd S D q k s g else g_n S) / Nat.gcd (gOd S D q k s g) (g_n S))).toInt64)) J (tS a b i I0)) := by
  have hn6 := gOK_n hB
  intro k
  induction k with
  | zero =>
    intro s g I R c hR hk hg E T
    have e1 : nI (g_n S) ≤ nI s := q_tle (by omega) (by omega)
    have v0 := (tOK_e h0 E T).1.1.1.1
    have y := sp_100 (d := d + 6) (w := (I, J, R, 111)) (x := g) (y := g_n S) (p := p) (by omega) hpos (by omega)
    refine zg_wp 30 _ ?_
    simp only [zpr_80, zhd_80, zp80, zh80, zml_80, o_bad, o_push, o_iload, o_lload, o_aload, o_istore, o_astore, o_lstore, o_iinc, o_ii, o_dv, o_i, o_ll, o_lshl, o_lcmp, o_i2l, o_l2i, o_dup, o_dup2, o_pop, o_goto, o_if, o_ic, o_sw, o_ireturn, o_nreturn, o_lreturn, o_return, o_min, o_max, o_geti, o_getr, o_puti, o_putz, o_putr, o_gets, o_iald, o_lald, o_aald, o_iast, o_last, o_aast, o_alen, o_new, o_newa, o_multi, o_call, o_scall, o_oinit, o_copyi, o_copyl, z_eq, z_ne, z_lt, z_ge, z_gt, z_le, z_ceq, z_cne, z_clt, z_cge, z_cgt, z_cle, z_rz, z_rb, z_rc, q_nz, zg_0, zg_s, zgk_s, zgh_n, zgh_s, zq_n, zq_br, zq_gd, zq_cl2, zqc_s, zq_rt, zq_sw, zq_st, zsws, zent, zpad, zla, zlg, zpop, zrv, zc1, zmk, zob_w, zaw_w, zar_w, zln_w, zld_w, zin_w, zcpg_w, znr_w, List.getElem?_cons_zero, List.getElem?_cons_succ, List.set_cons_zero, List.set_cons_succ, List.length_cons, List.length_nil, Nat.reduceLT, Nat.reduceLeDiff, Nat.reduceAdd, Nat.reduceSub, Nat.reduceMul, Nat.reduceEqDiff, Nat.reduceBEq, ↓reduceIte, q_10, q_01, q_00, q_m1, q_m2, q_m3, q_m4, q_m5, q_n1, q_n2, decide_eq_true_eq, decide_eq_false_iff_not, Bool.and_eq_true, Bool.true_and, Bool.and_true, Bool.decide_and, decide_true, decide_false, Bool.true_eq_false, Bool.false_eq_true, Option.toList_some, Option.toList_none, List.cons_append, List.nil_append, true_and, and_true, and_self, not_true_eq_false, not_false_eq_true, forall_const, false_implies, implies_true, Nat.le_refl, ne_eq, Bool.not_eq_true, eq_self, zshA, zb_rz, zb_ne, zb_eq, qem, true_implies, Nat.zero_le, false_and, and_false, Bool.or_eq_true, or_true, true_or, false_or, or_false, zr_0_0 hR, v0, e1, y]
    exact zAs_mk ⟨E, T, c, hR⟩
  | succ k ih =>
    intro s g I R c hR hk hg E T
    have h1 := tOK_e h0 E T
    have v0 := h1.1.1.1.1
    have e1 : ¬ nI (g_n S) ≤ nI s := q_tnle (by omega) (by omega)
    have e2 := q_row (m := s) (n := 6) (by omega) (by omega)
    have e3 : nI g + 1 = nI (g + 1) := q_add3 (n := 1)
    obtain ⟨I1, R1, y1, ⟨V1, k1, x1⟩, ⟨hR1, hf1⟩, f1, g1, g2, g5⟩ := tr_begin (d := d + 6) (J := J) hR h1
    have v3 := V1.1.2.2.2.1
    have V2 := cV_setL (s := s) (x := g_l D s + 5) V1
    have k2 : kV a S (zup I1 22 s (g_l D s + 5)) := kV_fr k1 (fun k h1 h2 => by
      have := zKt_out (t := 19) h0.1.2.2 (by decide) h1 h2
      rw [zup_row, if_neg (by omega)])
    have E2 : tE I (zup I1 22 s (g_l D s + 5)) := tE_b (tE_b (tE_r I) f1) (fun k hk => by rw [zup_row, if_neg (by omega)])
    have zz : zN 6 (g_l (gSetL D s (g_l D s + 5))) := fun j hj => by
      show (if j = s then _ else g_l D j) = 0
      rw [if_neg (by omega)]
      exact hB.2.2.2 j hj
    obtain ⟨I3, y3, V3, e3', t3, _⟩ := tr_cut (d := d) (J := J) hR1 hf1 h1 V2 k2 hn6 (by have := hB.2.2.1; exact Nat.lt_trans this (by decide)) (gOK_le hB) zz E2 (by rw [zup_row, if_neg (by decide), g1]) (by rw [zup_row, if_neg (by decide), g2]) (by rw [zup_row, if_neg (by decide), g5]) (n := 30) (by omega)
    rw [show nI 30 = 30 from rfl, show gSp S (gWk S 30 (gSetL D s (g_l D s + 5))) = gOdo S D s from rfl] at y3
    refine zg_wp 60 _ ?_
    by_cases hu : gOdo S D s ≤ q
    · have hu' := Int32.not_lt.mpr hu
      have z := ih (s + 1) (g + 1) I3 R1 a hR1 (by omega) (by omega) (tE_t E e3') t3
      have gg : gOd S D q (k + 1) s g = gOd S D q k (s + 1) (g + 1) := by
        show gOd S D q k (s + 1) (if gOdo S D s ≤ q then g + 1 else g) = _
        rw [if_pos hu]
      rw [← gg] at z
      simp only [zpr_80, zhd_80, zp80, zh80, zml_80, o_bad, o_push, o_iload, o_lload, o_aload, o_istore, o_astore, o_lstore, o_iinc, o_ii, o_dv, o_i, o_ll, o_lshl, o_lcmp, o_i2l, o_l2i, o_dup, o_dup2, o_pop, o_goto, o_if, o_ic, o_sw, o_ireturn, o_nreturn, o_lreturn, o_return, o_min, o_max, o_geti, o_getr, o_puti, o_putz, o_putr, o_gets, o_iald, o_lald, o_aald, o_iast, o_last, o_aast, o_alen, o_new, o_newa, o_multi, o_call, o_scall, o_oinit, o_copyi, o_copyl, z_eq, z_ne, z_lt, z_ge, z_gt, z_le, z_ceq, z_cne, z_clt, z_cge, z_cgt, z_cle, z_rz, z_rb, z_rc, q_nz, zg_0, zg_s, zgk_s, zgh_n, zgh_s, zq_n, zq_br, zq_gd, zq_cl2, zqc_s, zq_rt, zq_sw, zq_st, zsws, zent, zpad, zla, zlg, zpop, zrv, zc1, zmk, zob_w, zaw_w, zar_w, zln_w, zld_w, zin_w, zcpg_w, znr_w, List.getElem?_cons_zero, List.getElem?_cons_succ, List.set_cons_zero, List.set_cons_succ, List.length_cons, List.length_nil, Nat.reduceLT, Nat.reduceLeDiff, Nat.reduceAdd, Nat.reduceSub, Nat.reduceMul, Nat.reduceEqDiff, Nat.reduceBEq, ↓reduceIte, q_10, q_01, q_00, q_m1, q_m2, q_m3, q_m4, q_m5, q_n1, q_n2, decide_eq_true_eq, decide_eq_false_iff_not, Bool.and_eq_true, Bool.true_and, Bool.and_true, Bool.decide_and, decide_true, decide_false, Bool.true_eq_false, Bool.false_eq_true, Option.toList_some, Option.toList_none, List.cons_append, List.nil_append, true_and, and_true, and_self, not_true_eq_false, not_false_eq_true, forall_const, false_implies, implies_true, Nat.le_refl, ne_eq, Bool.not_eq_true, eq_self, zshA, zb_rz, zb_ne, zb_eq, qem, true_implies, Nat.zero_le, false_and, and_false, Bool.or_eq_true, or_true, true_or, false_or, or_false, zr_0_0 hR, zr_0_5 hR, zr_0_5 hR1, zr_19_3 hR1, v0, v3, e1, e2, e3, y1, y3, hu']
      exact z
    · have hu' := Int32.not_le.mp hu
      have z := ih (s + 1) g I3 R1 a hR1 (by omega) (by omega) (tE_t E e3') t3
      have gg : gOd S D q (k + 1) s g = gOd S D q k (s + 1) g := by
        show gOd S D q k (s + 1) (if gOdo S D s ≤ q then g + 1 else g) = _
        rw [if_neg hu]
      rw [← gg] at z
      simp only [zpr_80, zhd_80, zp80, zh80, zml_80, o_bad, o_push, o_iload, o_lload, o_aload, o_istore, o_astore, o_lstore, o_iinc, o_ii, o_dv, o_i, o_ll, o_lshl, o_lcmp, o_i2l, o_l2i, o_dup, o_dup2, o_pop, o_goto, o_if, o_ic, o_sw, o_ireturn, o_nreturn, o_lreturn, o_return, o_min, o_max, o_geti, o_getr, o_puti, o_putz, o_putr, o_gets, o_iald, o_lald, o_aald, o_iast, o_last, o_aast, o_alen, o_new, o_newa, o_multi, o_call, o_scall, o_oinit, o_copyi, o_copyl, z_eq, z_ne, z_lt, z_ge, z_gt, z_le, z_ceq, z_cne, z_clt, z_cge, z_cgt, z_cle, z_rz, z_rb, z_rc, q_nz, zg_0, zg_s, zgk_s, zgh_n, zgh_s, zq_n, zq_br, zq_gd, zq_cl2, zqc_s, zq_rt, zq_sw, zq_st, zsws, zent, zpad, zla, zlg, zpop, zrv, zc1, zmk, zob_w, zaw_w, zar_w, zln_w, zld_w, zin_w, zcpg_w, znr_w, List.getElem?_cons_zero, List.getElem?_cons_succ, List.set_cons_zero, List.set_cons_succ, List.length_cons, List.length_nil, Nat.reduceLT, Nat.reduceLeDiff, Nat.reduceAdd, Nat.reduceSub, Nat.reduceMul, Nat.reduceEqDiff, Nat.reduceBEq, ↓reduceIte, q_10, q_01, q_00, q_m1, q_m2, q_m3, q_m4, q_m5, q_n1, q_n2, decide_eq_true_eq, decide_eq_false_iff_not, Bool.and_eq_true, Bool.true_and, Bool.and_true, Bool.decide_and, decide_true, decide_false, Bool.true_eq_false, Bool.false_eq_true, Option.toList_some, Option.toList_none, List.cons_append, List.nil_append, true_and, and_true, and_self, not_true_eq_false, not_false_eq_true, forall_const, false_implies, implies_true, Nat.le_refl, ne_eq, Bool.not_eq_true, eq_self, zshA, zb_rz, zb_ne, zb_eq, qem, true_implies, Nat.zero_le, false_and, and_false, Bool.or_eq_true, or_true, true_or, false_or, or_false, zr_0_0 hR, zr_0_5 hR, zr_0_5 hR1, zr_19_3 hR1, v0, v3, e1, e2, y1, y3, hu']
      exact z
theorem ca_80 (hR : qRk R a b c i) {I : zI} (h : tOK a S D I) (hB : gOK S D) (hpos : 0 < g_n S) {q p : Int32} (h2 : 0 ≤ q ∧ q ≤ 999) (h3 : 0 ≤ p ∧ p ≤ 1) : ∃ I' R', zcl (d + 8) 80 [.ref 0, .int q, .int p] (I, J, R, 111) = some (some (.long (nI ((if p = 0 then gOd S D q (g_n S) 0 0 else g_n S) / Nat.gcd (gOd S D q (g_n S) 0 0) (g_n S))).toInt64), (I', J, R', 111)) ∧ tS a b i I I' R' := by
  refine zcl_as (Nat.le_of_ble_eq_true rfl) (zg_wp 60 _ ?_)
  simp only [zpr_80, zhd_80, zp80, zh80, zml_80, o_bad, o_push, o_iload, o_lload, o_aload, o_istore, o_astore, o_lstore, o_iinc, o_ii, o_dv, o_i, o_ll, o_lshl, o_lcmp, o_i2l, o_l2i, o_dup, o_dup2, o_pop, o_goto, o_if, o_ic, o_sw, o_ireturn, o_nreturn, o_lreturn, o_return, o_min, o_max, o_geti, o_getr, o_puti, o_putz, o_putr, o_gets, o_iald, o_lald, o_aald, o_iast, o_last, o_aast, o_alen, o_new, o_newa, o_multi, o_call, o_scall, o_oinit, o_copyi, o_copyl, z_eq, z_ne, z_lt, z_ge, z_gt, z_le, z_ceq, z_cne, z_clt, z_cge, z_cgt, z_cle, z_rz, z_rb, z_rc, q_nz, zg_0, zg_s, zgk_s, zgh_n, zgh_s, zq_n, zq_br, zq_gd, zq_cl2, zqc_s, zq_rt, zq_sw, zq_st, zsws, zent, zpad, zla, zlg, zpop, zrv, zc1, zmk, zob_w, zaw_w, zar_w, zln_w, zld_w, zin_w, zcpg_w, znr_w, List.getElem?_cons_zero, List.getElem?_cons_succ, List.set_cons_zero, List.set_cons_succ, List.length_cons, List.length_nil, Nat.reduceLT, Nat.reduceLeDiff, Nat.reduceAdd, Nat.reduceSub, Nat.reduceMul, Nat.reduceEqDiff, Nat.reduceBEq, ↓reduceIte, q_10, q_01, q_00, q_m1, q_m2, q_m3, q_m4, q_m5, q_n1, q_n2, decide_eq_true_eq, decide_eq_false_iff_not, Bool.and_eq_true, Bool.true_and, Bool.and_true, Bool.decide_and, decide_true, decide_false, Bool.true_eq_false, Bool.false_eq_true, Option.toList_some, Option.toList_none, List.cons_append, List.nil_append, true_and, and_true, and_self, not_true_eq_false, not_false_eq_true, forall_const, false_implies, implies_true, Nat.le_refl, ne_eq, Bool.not_eq_true, eq_self, zshA, zb_rz, zb_ne, zb_eq, qem, true_implies, Nat.zero_le, false_and, and_false, Bool.or_eq_true, or_true, true_or, false_or, or_false, sp_97, h2, h3, zb_pos]
  exact sl_80 h hB hpos (g_n S) 0 0 I R c hR (by omega) (by omega) (tE_r I) h.2.2.2
set_option maxRecDepth 40000 in
theorem sl_175 (hR : qRk R a b c i) {I0 : zI} (V : mV S D I0) (hK : mK S I0) (hB : gB S) (hl : ∀ s, iR (g_l D s) 0 999) (hm : g_m D < 100000) (h29 : I0 75 29 = 99999) (hpos : 0 < g_n S) {q p : Int32} : ∀ (k s g : Nat) (I : zI), s + k = g_n S → g ≤ s → mS I0 I → zWP (zcl (d + 9)) 175 (34, [some (.ref 75), some (.int q), some (.int p), some (.int (nI g)), some (.int (nI s))], [], (I, J, R, 111)) (zEn (some (.long (nI ((if p = 0 then gOd S D q k s g else g_n S) / Nat.gcd (gOd S D q k s g) (g_n S))).toInt64)) J R (mS I0)) := by
  have hn6 := hB.1
  intro k
  induction k with
  | zero =>
    intro s g I hk hg e
    have e1 : nI (g_n S) ≤ nI s := q_tle (by omega) (by omega)
    have v0 := (mV_s V e).1.1
    have y := sp_174 (d := d + 7) (I := I) (J := J) (R := R) (x := g) (y := g_n S) (p := p) (by omega) hpos (by omega)
    refine zg_wp 30 _ ?_
    simp only [zpr_175, zhd_175, zp175, zh175, zml_175, o_bad, o_push, o_iload, o_lload, o_aload, o_istore, o_astore, o_lstore, o_iinc, o_ii, o_dv, o_i, o_ll, o_lshl, o_lcmp, o_i2l, o_l2i, o_dup, o_dup2, o_pop, o_goto, o_if, o_ic, o_sw, o_ireturn, o_nreturn, o_lreturn, o_return, o_min, o_max, o_geti, o_getr, o_puti, o_putz, o_putr, o_gets, o_iald, o_lald, o_aald, o_iast, o_last, o_aast, o_alen, o_new, o_newa, o_multi, o_call, o_scall, o_oinit, o_copyi, o_copyl, z_eq, z_ne, z_lt, z_ge, z_gt, z_le, z_ceq, z_cne, z_clt, z_cge, z_cgt, z_cle, z_rz, z_rb, z_rc, q_nz, zg_0, zg_s, zgk_s, zgh_n, zgh_s, zq_n, zq_br, zq_gd, zq_cl2, zqc_s, zq_rt, zq_sw, zq_st, zsws, zent, zpad, zla, zlg, zpop, zrv, zc1, zmk, zob_w, zaw_w, zar_w, zln_w, zld_w, zin_w, zcpg_w, znr_w, List.getElem?_cons_zero, List.getElem?_cons_succ, List.set_cons_zero, List.set_cons_succ, List.length_cons, List.length_nil, Nat.reduceLT, Nat.reduceLeDiff, Nat.reduceAdd, Nat.reduceSub, Nat.reduceMul, Nat.reduceEqDiff, Nat.reduceBEq, ↓reduceIte, q_10, q_01, q_00, q_m1, q_m2, q_m3, q_m4, q_m5, q_n1, q_n2, decide_eq_true_eq, decide_eq_false_iff_not, Bool.and_eq_true, Bool.true_and, Bool.and_true, Bool.decide_and, decide_true, decide_false, Bool.true_eq_false, Bool.false_eq_true, Option.toList_some, Option.toList_none, List.cons_append, List.nil_append, true_and, and_true, and_self, not_true_eq_false, not_false_eq_true, forall_const, false_implies, implies_true, Nat.le_refl, ne_eq, Bool.not_eq_true, eq_self, zshA, zb_rz, zb_ne, zb_eq, qem, true_implies, Nat.zero_le, false_and, and_false, Bool.or_eq_true, or_true, true_or, false_or, or_false, v0, e1, y]
    exact zEn_mk e
  | succ k ih =>
    intro s g I hk hg e
    have V' := mV_s V e
    have v0 := V'.1.1
    have v3 := V'.1.2.2.2.1
    have e1 : ¬ nI (g_n S) ≤ nI s := q_tnle (by omega) (by omega)
    have e2 := q_row (m := s) (n := 6) (by omega) (by omega)
    have e3 : nI g + 1 = nI (g + 1) := q_add3 (n := 1)
    have e4 : nI g + 0 = nI g := q_add0 _
    have V2 := mV_setL (s := s) (x := g_l D s + 5) V'
    have h29' : (zup I 78 s (g_l D s + 5)) 75 29 = 99999 := by rw [zup_row, if_neg (by decide), eq75 e.1 29 (by decide)]; exact h29
    have K2 : mK S (zup I 78 s (g_l D s + 5)) := by
      refine mK_e (mK_s hK e) ?_ ?_ ?_ ?_ ?_ ?_ ?_ ?_ ?_ ?_ <;> rw [zup_row, if_neg (by decide)]
    have b2 : gBd (gSetL D s (g_l D s + 5)) := gSetL_b hl (n := 5) (by omega)
    obtain ⟨I1, y1, e5, f1⟩ := ma_158 (d := d) (J := J) hR V2 K2 hB b2 hm h29'
    rw [show gSp S (gWk S 30 (gSetL D s (g_l D s + 5))) = gOdo S D s from rfl] at y1
    have h78 : I1 78 = fun j => if j = s then g_l D s + 5 else g_l D j := by
      rw [f1 78 (by decide) (by decide) (by decide) (by decide), zup_row, if_pos rfl, v3]
    have h78s : I1 78 s = g_l D s + 5 := by rw [h78]; exact if_pos rfl
    have eI : mS I0 (zup I1 78 s (g_l D s + 5 - 5)) := by
      have e5s : g_l D s + 5 - 5 = g_l D s := Int32.add_sub_cancel _ _
      rw [e5s]
      have e6 : (zup I1 78 s (g_l D s)) 78 = I 78 := by
        rw [zup_row, if_pos rfl, h78, v3]
        funext j
        by_cases hj : j = s
        · rw [if_pos hj, hj]
        · rw [if_neg hj]
          exact if_neg hj
      refine mS_t e ⟨⟨fun k hk => ?_, fun j j1 j2 j3 => ?_, fun j j1 j2 j3 j4 j5 j6 j7 j8 => ?_⟩, fun k k1 k2 => ?_⟩
      · by_cases h78 : k = 78
        · rw [h78, e6]
        · rw [zup_row, if_neg h78, e5.1.1 k hk, zup_row, if_neg h78]
      · rw [zup_row, if_neg (by decide), e5.1.2.1 j j1 j2 j3, zup_row, if_neg (by decide)]
      · rw [zup_row, if_neg (by decide), e5.1.2.2 j j1 j2 j3 j4 j5 j6 j7 j8, zup_row, if_neg (by decide)]
      · rw [zup_row, if_neg (by omega), e5.2 k k1 k2, zup_row, if_neg (by omega)]
    refine zg_wp 80 _ ?_
    by_cases hu : gOdo S D s ≤ q
    · have hu' := Int32.not_lt.mpr hu
      have z := ih (s + 1) (g + 1) _ (by omega) (by omega) eI
      have gg : gOd S D q (k + 1) s g = gOd S D q k (s + 1) (g + 1) := by
        show gOd S D q k (s + 1) (if gOdo S D s ≤ q then g + 1 else g) = _
        rw [if_pos hu]
      rw [← gg] at z
      simp only [zpr_175, zhd_175, zp175, zh175, zml_175, o_bad, o_push, o_iload, o_lload, o_aload, o_istore, o_astore, o_lstore, o_iinc, o_ii, o_dv, o_i, o_ll, o_lshl, o_lcmp, o_i2l, o_l2i, o_dup, o_dup2, o_pop, o_goto, o_if, o_ic, o_sw, o_ireturn, o_nreturn, o_lreturn, o_return, o_min, o_max, o_geti, o_getr, o_puti, o_putz, o_putr, o_gets, o_iald, o_lald, o_aald, o_iast, o_last, o_aast, o_alen, o_new, o_newa, o_multi, o_call, o_scall, o_oinit, o_copyi, o_copyl, z_eq, z_ne, z_lt, z_ge, z_gt, z_le, z_ceq, z_cne, z_clt, z_cge, z_cgt, z_cle, z_rz, z_rb, z_rc, q_nz, zg_0, zg_s, zgk_s, zgh_n, zgh_s, zq_n, zq_br, zq_gd, zq_cl2, zqc_s, zq_rt, zq_sw, zq_st, zsws, zent, zpad, zla, zlg, zpop, zrv, zc1, zmk, zob_w, zaw_w, zar_w, zln_w, zld_w, zin_w, zcpg_w, znr_w, List.getElem?_cons_zero, List.getElem?_cons_succ, List.set_cons_zero, List.set_cons_succ, List.length_cons, List.length_nil, Nat.reduceLT, Nat.reduceLeDiff, Nat.reduceAdd, Nat.reduceSub, Nat.reduceMul, Nat.reduceEqDiff, Nat.reduceBEq, ↓reduceIte, q_10, q_01, q_00, q_m1, q_m2, q_m3, q_m4, q_m5, q_n1, q_n2, decide_eq_true_eq, decide_eq_false_iff_not, Bool.and_eq_true, Bool.true_and, Bool.and_true, Bool.decide_and, decide_true, decide_false, Bool.true_eq_false, Bool.false_eq_true, Option.toList_some, Option.toList_none, List.cons_append, List.nil_append, true_and, and_true, and_self, not_true_eq_false, not_false_eq_true, forall_const, false_implies, implies_true, Nat.le_refl, ne_eq, Bool.not_eq_true, eq_self, zshA, zb_rz, zb_ne, zb_eq, qem, true_implies, Nat.zero_le, false_and, and_false, Bool.or_eq_true, or_true, true_or, false_or, or_false, v0, v3, zr_75_5 hR, e1, e2, e3, y1, hu', h78s]
      exact z
    · have hu' := Int32.not_le.mp hu
      have z := ih (s + 1) g _ (by omega) (by omega) eI
      have gg : gOd S D q (k + 1) s g = gOd S D q k (s + 1) g := by
        show gOd S D q k (s + 1) (if gOdo S D s ≤ q then g + 1 else g) = _
        rw [if_neg hu]
      rw [← gg] at z
      simp only [zpr_175, zhd_175, zp175, zh175, zml_175, o_bad, o_push, o_iload, o_lload, o_aload, o_istore, o_astore, o_lstore, o_iinc, o_ii, o_dv, o_i, o_ll, o_lshl, o_lcmp, o_i2l, o_l2i, o_dup, o_dup2, o_pop, o_goto, o_if, o_ic, o_sw, o_ireturn, o_nreturn, o_lreturn, o_return, o_min, o_max, o_geti, o_getr, o_puti, o_putz, o_putr, o_gets, o_iald, o_lald, o_aald, o_iast, o_last, o_aast, o_alen, o_new, o_newa, o_multi, o_call, o_scall, o_oinit, o_copyi, o_copyl, z_eq, z_ne, z_lt, z_ge, z_gt, z_le, z_ceq, z_cne, z_clt, z_cge, z_cgt, z_cle, z_rz, z_rb, z_rc, q_nz, zg_0, zg_s, zgk_s, zgh_n, zgh_s, zq_n, zq_br, zq_gd, zq_cl2, zqc_s, zq_rt, zq_sw, zq_st, zsws, zent, zpad, zla, zlg, zpop, zrv, zc1, zmk, zob_w, zaw_w, zar_w, zln_w, zld_w, zin_w, zcpg_w, znr_w, List.getElem?_cons_zero, List.getElem?_cons_succ, List.set_cons_zero, List.set_cons_succ, List.length_cons, List.length_nil, Nat.reduceLT, Nat.reduceLeDiff, Nat.reduceAdd, Nat.reduceSub, Nat.reduceMul, Nat.reduceEqDiff, Nat.reduceBEq, ↓reduceIte, q_10, q_01, q_00, q_m1, q_m2, q_m3, q_m4, q_m5, q_n1, q_n2, decide_eq_true_eq, decide_eq_false_iff_not, Bool.and_eq_true, Bool.true_and, Bool.and_true, Bool.decide_and, decide_true, decide_false, Bool.true_eq_false, Bool.false_eq_true, Option.toList_some, Option.toList_none, List.cons_append, List.nil_append, true_and, and_true, and_self, not_true_eq_false, not_false_eq_true, forall_const, false_implies, implies_true, Nat.le_refl, ne_eq, Bool.not_eq_true, eq_self, zshA, zb_rz, zb_ne, zb_eq, qem, true_implies, Nat.zero_le, false_and, and_false, Bool.or_eq_true, or_true, true_or, false_or, or_false, v0, v3, zr_75_5 hR, e1, e2, e4, y1, hu', h78s]
      exact z
theorem ma_175 (hR : qRk R a b c i) {I : zI} (V : mV S D I) (hK : mK S I) (hB : gB S) (hl : ∀ s, iR (g_l D s) 0 999) (hm : g_m D < 100000) (h29 : I 75 29 = 99999) (hpos : 0 < g_n S) {q p : Int32} (h2 : 0 ≤ q ∧ q ≤ 999) (h3 : 0 ≤ p ∧ p ≤ 1) : ∃ I', zcl (d + 10) 175 [.ref 75, .int q, .int p] (I, J, R, 111) = some (some (.long (nI ((if p = 0 then gOd S D q (g_n S) 0 0 else g_n S) / Nat.gcd (gOd S D q (g_n S) 0 0) (g_n S))).toInt64), (I', J, R, 111)) ∧ mS I I' := by
  have v0 := V.1.1
  have hn6 := hB.1
  have e3 : (nI (g_n S) = 0) = False := eq_false (fun e => absurd ((q_ge0 (by omega)).mp e) (by omega))
  refine zcl_en (Nat.le_of_ble_eq_true rfl) (zg_wp 30 _ ?_)
  simp only [zpr_175, zhd_175, zp175, zh175, zml_175, o_bad, o_push, o_iload, o_lload, o_aload, o_istore, o_astore, o_lstore, o_iinc, o_ii, o_dv, o_i, o_ll, o_lshl, o_lcmp, o_i2l, o_l2i, o_dup, o_dup2, o_pop, o_goto, o_if, o_ic, o_sw, o_ireturn, o_nreturn, o_lreturn, o_return, o_min, o_max, o_geti, o_getr, o_puti, o_putz, o_putr, o_gets, o_iald, o_lald, o_aald, o_iast, o_last, o_aast, o_alen, o_new, o_newa, o_multi, o_call, o_scall, o_oinit, o_copyi, o_copyl, z_eq, z_ne, z_lt, z_ge, z_gt, z_le, z_ceq, z_cne, z_clt, z_cge, z_cgt, z_cle, z_rz, z_rb, z_rc, q_nz, zg_0, zg_s, zgk_s, zgh_n, zgh_s, zq_n, zq_br, zq_gd, zq_cl2, zqc_s, zq_rt, zq_sw, zq_st, zsws, zent, zpad, zla, zlg, zpop, zrv, zc1, zmk, zob_w, zaw_w, zar_w, zln_w, zld_w, zin_w, zcpg_w, znr_w, List.getElem?_cons_zero, List.getElem?_cons_succ, List.set_cons_zero, List.set_cons_succ, List.length_cons, List.length_nil, Nat.reduceLT, Nat.reduceLeDiff, Nat.reduceAdd, Nat.reduceSub, Nat.reduceMul, Nat.reduceEqDiff, Nat.reduceBEq, ↓reduceIte, q_10, q_01, q_00, q_m1, q_m2, q_m3, q_m4, q_m5, q_n1, q_n2, decide_eq_true_eq, decide_eq_false_iff_not, Bool.and_eq_true, Bool.true_and, Bool.and_true, Bool.decide_and, decide_true, decide_false, Bool.true_eq_false, Bool.false_eq_true, Option.toList_some, Option.toList_none, List.cons_append, List.nil_append, true_and, and_true, and_self, not_true_eq_false, not_false_eq_true, forall_const, false_implies, implies_true, Nat.le_refl, ne_eq, Bool.not_eq_true, eq_self, zshA, zb_rz, zb_ne, zb_eq, qem, true_implies, Nat.zero_le, false_and, and_false, Bool.or_eq_true, or_true, true_or, false_or, or_false, sp_104, sp_102, h2, h3, zb_pos, v0, e3]
  exact sl_175 hR V hK hB hl hm h29 hpos (g_n S) 0 0 I (by omega) (by omega) (mS_r I)
/-! mean -/
theorem gSu_n {l : Nat → Int32} (h : ∀ s, iR (l s) 0 1200) : ∀ n : Nat, n ≤ 6 → ∃ m : Nat, m ≤ 1200 * n ∧ gSu l n = nI m
  | 0, _ => ⟨0, by omega, rfl⟩
  | n + 1, hn => by
    obtain ⟨m, hm, e⟩ := gSu_n h n (by omega)
    obtain ⟨l1, l2⟩ := h n
    have e2 : l n = nI (l n).toInt.toNat := by
      apply Int32.toInt_inj.mp
      rw [nI_toInt (by omega)]
      omega
    refine ⟨m + (l n).toInt.toNat, by omega, ?_⟩
    show gSu l n + l n = _
    rw [e]
    exact (congrArg (fun x => nI m + x) e2).trans (q_add3)
def gMe (S : gS) (D : gD) (n : Nat) (p : Int32) : Int64 := (nI ((if p = 0 then (gSu (g_l (gWk S n D)) (g_n S)).toNatClampNeg else g_n S) / Nat.gcd (gSu (g_l (gWk S n D)) (g_n S)).toNatClampNeg (g_n S))).toInt64
theorem ca_81 (hR : qRk R a b c i) {I : zI} (h : tOK a S D I) (hB : gOK S D) (hpos : 0 < g_n S) {n : Nat} (hn : n ≤ 60) {p : Int32} (h3 : 0 ≤ p ∧ p ≤ 1) : ∃ I' R', zcl (d + 8) 81 [.ref 0, .int (nI n), .int p] (I, J, R, 111) = some (some (.long (gMe S D n p)), (I', J, R', 111)) ∧ tS a b i I I' R' := by
  have hn6 := gOK_n hB
  obtain ⟨I1, R1, y1, ⟨V1, k1, x1⟩, ⟨hR1, hf1⟩, f1, g1, g2, g5⟩ := tr_begin (d := d + 6) (J := J) hR h
  obtain ⟨I2, y2, V2, e2, t2, x2⟩ := tr_cut (d := d) (J := J) hR1 hf1 h V1 k1 (gOK_n hB) (by have := hB.2.2.1; omega) (gOK_le hB) hB.2.2.2 (tE_b (tE_r I) f1) g1 g2 g5 (n := n) (by omega)
  have y3 := sp_38_19 (d := d + 6) (J := J) hR1 V2 (gOK_n hB)
  obtain ⟨m, hm, em⟩ := gSu_n (gWk_b hB.1 n D (gOK_bd hB)) (g_n S) hn6
  have v0 : I2 5 0 = nI (g_n S) := by rw [e2.2.1]; exact h.1.1.1.1
  have y4 := sp_100 (d := d + 6) (w := (I2, J, R1, 111)) (x := m) (y := g_n S) (p := p) (by omega) hpos (by omega)
  have h2 : (0 ≤ nI n ∧ nI n ≤ (60 : Int32)) ↔ True := q_wt (n := 60) hn (by omega)
  have eE : gMe S D n p = (nI ((if p = 0 then m else g_n S) / Nat.gcd m (g_n S))).toInt64 := by
    unfold gMe
    rw [em, nI_clamp (by omega)]
  rw [eE]
  rw [em] at y3
  refine zcl_as (Nat.le_of_ble_eq_true rfl) (zg_wp 60 _ ?_)
  simp only [zpr_81, zhd_81, zp81, zh81, zml_81, o_bad, o_push, o_iload, o_lload, o_aload, o_istore, o_astore, o_lstore, o_iinc, o_ii, o_dv, o_i, o_ll, o_lshl, o_lcmp, o_i2l, o_l2i, o_dup, o_dup2, o_pop, o_goto, o_if, o_ic, o_sw, o_ireturn, o_nreturn, o_lreturn, o_return, o_min, o_max, o_geti, o_getr, o_puti, o_putz, o_putr, o_gets, o_iald, o_lald, o_aald, o_iast, o_last, o_aast, o_alen, o_new, o_newa, o_multi, o_call, o_scall, o_oinit, o_copyi, o_copyl, z_eq, z_ne, z_lt, z_ge, z_gt, z_le, z_ceq, z_cne, z_clt, z_cge, z_cgt, z_cle, z_rz, z_rb, z_rc, q_nz, zg_0, zg_s, zgk_s, zgh_n, zgh_s, zq_n, zq_br, zq_gd, zq_cl2, zqc_s, zq_rt, zq_sw, zq_st, zsws, zent, zpad, zla, zlg, zpop, zrv, zc1, zmk, zob_w, zaw_w, zar_w, zln_w, zld_w, zin_w, zcpg_w, znr_w, List.getElem?_cons_zero, List.getElem?_cons_succ, List.set_cons_zero, List.set_cons_succ, List.length_cons, List.length_nil, Nat.reduceLT, Nat.reduceLeDiff, Nat.reduceAdd, Nat.reduceSub, Nat.reduceMul, Nat.reduceEqDiff, Nat.reduceBEq, ↓reduceIte, q_10, q_01, q_00, q_m1, q_m2, q_m3, q_m4, q_m5, q_n1, q_n2, decide_eq_true_eq, decide_eq_false_iff_not, Bool.and_eq_true, Bool.true_and, Bool.and_true, Bool.decide_and, decide_true, decide_false, Bool.true_eq_false, Bool.false_eq_true, Option.toList_some, Option.toList_none, List.cons_append, List.nil_append, true_and, and_true, and_self, not_true_eq_false, not_false_eq_true, forall_const, false_implies, implies_true, Nat.le_refl, ne_eq, Bool.not_eq_true, eq_self, zshA, zb_rz, zb_ne, zb_eq, qem, true_implies, Nat.zero_le, false_and, and_false, Bool.or_eq_true, or_true, true_or, false_or, or_false, zr_0_0 hR, zr_0_5 hR, zr_0_5 hR1, zr_0_0 hR1, sp_97, h2, h3, zb_pos, y1, y2, y3, v0, y4]
  exact zAs_mk ⟨e2, t2, a, hR1⟩
set_option maxRecDepth 40000 in
theorem sl_176 (hR : qRk R a b c i) {I I3 : zI} {n m : Nat} {l : Nat → Int32} {p : Int32} (hn : n ≤ 6) (hpos : 0 < n) (hm : m < 1000000) (h0 : I 75 0 = nI n) (h03 : I3 75 0 = nI n) (h3 : I 78 = l) (hs : gSu l n = nI m) (y4 : zcl (d + 8) 150 [.ref 75] (I, J, R, 111) = some (none, (I3, J, R, 111))) : ∀ j s : Nat, s + j = n → zWP (zcl (d + 8)) 176 (45, [some (.ref 75), none, some (.int p), none, some (.int (gSu l s)), some (.int (nI s))], [], (I, J, R, 111)) (fun r w => r = some (.long (nI ((if p = 0 then m else n) / Nat.gcd m n)).toInt64) ∧ w = (I3, J, R, 111)) := by
  intro j
  induction j with
  | zero =>
    intro s hj
    have e1 : nI n ≤ nI s := q_tle (by omega) (by omega)
    have y := sp_174 (d := d + 6) (I := I3) (J := J) (R := R) (x := m) (y := n) (p := p) hm hpos (by omega)
    have hs2 : gSu l s = nI m := by rw [show s = n from by omega]; exact hs
    refine zg_wp 30 _ ?_
    simp only [zpr_176, zhd_176, zp176, zh176, zml_176, o_bad, o_push, o_iload, o_lload, o_aload, o_istore, o_astore, o_lstore, o_iinc, o_ii, o_dv, o_i, o_ll, o_lshl, o_lcmp, o_i2l, o_l2i, o_dup, o_dup2, o_pop, o_goto, o_if, o_ic, o_sw, o_ireturn, o_nreturn, o_lreturn, o_return, o_min, o_max, o_geti, o_getr, o_puti, o_putz, o_putr, o_gets, o_iald, o_lald, o_aald, o_iast, o_last, o_aast, o_alen, o_new, o_newa, o_multi, o_call, o_scall, o_oinit, o_copyi, o_copyl, z_eq, z_ne, z_lt, z_ge, z_gt, z_le, z_ceq, z_cne, z_clt, z_cge, z_cgt, z_cle, z_rz, z_rb, z_rc, q_nz, zg_0, zg_s, zgk_s, zgh_n, zgh_s, zq_n, zq_br, zq_gd, zq_cl2, zqc_s, zq_rt, zq_sw, zq_st, zsws, zent, zpad, zla, zlg, zpop, zrv, zc1, zmk, zob_w, zaw_w, zar_w, zln_w, zld_w, zin_w, zcpg_w, znr_w, List.getElem?_cons_zero, List.getElem?_cons_succ, List.set_cons_zero, List.set_cons_succ, List.length_cons, List.length_nil, Nat.reduceLT, Nat.reduceLeDiff, Nat.reduceAdd, Nat.reduceSub, Nat.reduceMul, Nat.reduceEqDiff, Nat.reduceBEq, ↓reduceIte, q_10, q_01, q_00, q_m1, q_m2, q_m3, q_m4, q_m5, q_n1, q_n2, decide_eq_true_eq, decide_eq_false_iff_not, Bool.and_eq_true, Bool.true_and, Bool.and_true, Bool.decide_and, decide_true, decide_false, Bool.true_eq_false, Bool.false_eq_true, Option.toList_some, Option.toList_none, List.cons_append, List.nil_append, true_and, and_true, and_self, not_true_eq_false, not_false_eq_true, forall_const, false_implies, implies_true, Nat.le_refl, ne_eq, Bool.not_eq_true, eq_self, zshA, zb_rz, zb_ne, zb_eq, qem, true_implies, Nat.zero_le, false_and, and_false, Bool.or_eq_true, or_true, true_or, false_or, or_false, h0, e1, y4, h03, hs2, y]
  | succ j ih =>
    intro s hj
    have e1 : ¬ nI n ≤ nI s := q_tnle (by omega) (by omega)
    have e2 := q_row (m := s) (n := 6) (by omega) (by omega)
    refine zg_wp 40 _ ?_
    simp only [zpr_176, zhd_176, zp176, zh176, zml_176, o_bad, o_push, o_iload, o_lload, o_aload, o_istore, o_astore, o_lstore, o_iinc, o_ii, o_dv, o_i, o_ll, o_lshl, o_lcmp, o_i2l, o_l2i, o_dup, o_dup2, o_pop, o_goto, o_if, o_ic, o_sw, o_ireturn, o_nreturn, o_lreturn, o_return, o_min, o_max, o_geti, o_getr, o_puti, o_putz, o_putr, o_gets, o_iald, o_lald, o_aald, o_iast, o_last, o_aast, o_alen, o_new, o_newa, o_multi, o_call, o_scall, o_oinit, o_copyi, o_copyl, z_eq, z_ne, z_lt, z_ge, z_gt, z_le, z_ceq, z_cne, z_clt, z_cge, z_cgt, z_cle, z_rz, z_rb, z_rc, q_nz, zg_0, zg_s, zgk_s, zgh_n, zgh_s, zq_n, zq_br, zq_gd, zq_cl2, zqc_s, zq_rt, zq_sw, zq_st, zsws, zent, zpad, zla, zlg, zpop, zrv, zc1, zmk, zob_w, zaw_w, zar_w, zln_w, zld_w, zin_w, zcpg_w, znr_w, List.getElem?_cons_zero, List.getElem?_cons_succ, List.set_cons_zero, List.set_cons_succ, List.length_cons, List.length_nil, Nat.reduceLT, Nat.reduceLeDiff, Nat.reduceAdd, Nat.reduceSub, Nat.reduceMul, Nat.reduceEqDiff, Nat.reduceBEq, ↓reduceIte, q_10, q_01, q_00, q_m1, q_m2, q_m3, q_m4, q_m5, q_n1, q_n2, decide_eq_true_eq, decide_eq_false_iff_not, Bool.and_eq_true, Bool.true_and, Bool.and_true, Bool.decide_and, decide_true, decide_false, Bool.true_eq_false, Bool.false_eq_true, Option.toList_some, Option.toList_none, List.cons_append, List.nil_append, true_and, and_true, and_self, not_true_eq_false, not_false_eq_true, forall_const, false_implies, implies_true, Nat.le_refl, ne_eq, Bool.not_eq_true, eq_self, zshA, zb_rz, zb_ne, zb_eq, qem, true_implies, Nat.zero_le, false_and, and_false, Bool.or_eq_true, or_true, true_or, false_or, or_false, h0, h3, e1, zr_75_5 hR, e2]
    exact ih (s + 1) (by omega)
theorem ma_176 (hR : qRk R a b c i) {I : zI} (V : mV S D I) (hK : mK S I) (hB : gB S) (hD : gBd D) (hm : g_m D < 100000) (h29 : I 75 29 = 99999) (hpos : 0 < g_n S) {n : Nat} (hn : n ≤ 60) {p : Int32} (h3 : 0 ≤ p ∧ p ≤ 1) : ∃ I', zcl (d + 9) 176 [.ref 75, .int (nI n), .int p] (I, J, R, 111) = some (some (.long (gMe S D n p)), (I', J, R, 111)) ∧ mS I I' := by
  have hn6 := hB.1
  obtain ⟨I1, y1, V1, K1, H1, _⟩ := ma_begin (d := d + 6) (J := J) hR V hK
  obtain ⟨I2, y2, V2, W2, g2⟩ := sp_151 (d := d) (J := J) hR hB.1 (gB_le hB) (n := n) (by omega) V1 K1 (by omega)
  obtain ⟨I3, y4, e3, f3⟩ := ma_end (d := d + 6) (J := J) hR (mH_w hB.1 (gB_le hB) H1 V1 V2 W2 g2) h29
  obtain ⟨m, hm2, em⟩ := gSu_n (gWk_b hB n D hD) (g_n S) hn6
  have eE : gMe S D n p = (nI ((if p = 0 then m else g_n S) / Nat.gcd m (g_n S))).toInt64 := by
    unfold gMe
    rw [em, nI_clamp (by omega)]
  rw [eE]
  have v0 := V.1.1
  have h2 : (0 ≤ nI n ∧ nI n ≤ (60 : Int32)) ↔ True := q_wt (n := 60) hn (by omega)
  have e4 : (nI (g_n S) = 0) = False := eq_false (fun e => absurd ((q_ge0 (by omega)).mp e) (by omega))
  refine ⟨I3, zcl_of (Nat.le_of_ble_eq_true rfl) (zg_wp 60 _ ?_), e3⟩
  simp only [zpr_176, zhd_176, zp176, zh176, zml_176, o_bad, o_push, o_iload, o_lload, o_aload, o_istore, o_astore, o_lstore, o_iinc, o_ii, o_dv, o_i, o_ll, o_lshl, o_lcmp, o_i2l, o_l2i, o_dup, o_dup2, o_pop, o_goto, o_if, o_ic, o_sw, o_ireturn, o_nreturn, o_lreturn, o_return, o_min, o_max, o_geti, o_getr, o_puti, o_putz, o_putr, o_gets, o_iald, o_lald, o_aald, o_iast, o_last, o_aast, o_alen, o_new, o_newa, o_multi, o_call, o_scall, o_oinit, o_copyi, o_copyl, z_eq, z_ne, z_lt, z_ge, z_gt, z_le, z_ceq, z_cne, z_clt, z_cge, z_cgt, z_cle, z_rz, z_rb, z_rc, q_nz, zg_0, zg_s, zgk_s, zgh_n, zgh_s, zq_n, zq_br, zq_gd, zq_cl2, zqc_s, zq_rt, zq_sw, zq_st, zsws, zent, zpad, zla, zlg, zpop, zrv, zc1, zmk, zob_w, zaw_w, zar_w, zln_w, zld_w, zin_w, zcpg_w, znr_w, List.getElem?_cons_zero, List.getElem?_cons_succ, List.set_cons_zero, List.set_cons_succ, List.length_cons, List.length_nil, Nat.reduceLT, Nat.reduceLeDiff, Nat.reduceAdd, Nat.reduceSub, Nat.reduceMul, Nat.reduceEqDiff, Nat.reduceBEq, ↓reduceIte, q_10, q_01, q_00, q_m1, q_m2, q_m3, q_m4, q_m5, q_n1, q_n2, decide_eq_true_eq, decide_eq_false_iff_not, Bool.and_eq_true, Bool.true_and, Bool.and_true, Bool.decide_and, decide_true, decide_false, Bool.true_eq_false, Bool.false_eq_true, Option.toList_some, Option.toList_none, List.cons_append, List.nil_append, true_and, and_true, and_self, not_true_eq_false, not_false_eq_true, forall_const, false_implies, implies_true, Nat.le_refl, ne_eq, Bool.not_eq_true, eq_self, zshA, zb_rz, zb_ne, zb_eq, qem, true_implies, Nat.zero_le, false_and, and_false, Bool.or_eq_true, or_true, true_or, false_or, or_false, sp_153, sp_102, h2, h3, zb_pos, v0, e4, y1, y2]
  exact sl_176 hR hn6 hpos (by omega) V2.1.1 (by rw [eq75 e3.1 0 (by decide)]; exact v0) V2.1.2.2.2.1 em y4 (g_n S) 0 (by omega)
end OD
