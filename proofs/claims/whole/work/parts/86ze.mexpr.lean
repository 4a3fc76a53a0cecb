/-! ===== the model takes what an over or under is about: one turn ===== -/
section KM
variable {d : Nat} {I : zI} {J : zJ} {R : zR} {a b c N at' o q : Nat} {i : Option Nat} {nm tv : Int32} {cs : List kSy} {tp : List Int32} {row : Nat → Int32} {Q : Option Value → zW → Prop}
/-- where the loop begins -/
def mHd (d : Nat) (I : zI) (J : zJ) (R : zR) (o q : Nat) (Q : Option Value → zW → Prop) (want : Int32) (at' : Nat) (nm : Int32) (cs : List kSy) (tp : List Int32) (tv : Int32) (row : Nat → Int32) : Prop := zWP (zcl (d + 5)) 120 (22, [some (.ref 75), some (.int (nI q)), some (.int want), none], [], (mE I o q at' nm cs tp tv row, J, R, 111)) Q
theorem q_ops : ((33 : Int32) = 40 ↔ False) ∧ ((40 : Int32) = 33 ↔ False) ∧ ((38 : Int32) = 124 ↔ False) ∧ ((124 : Int32) = 38 ↔ False) := by decide
theorem kSt_b {x : Int32} : ∀ (tp : List Int32) (cs : List kSy), mP row tp → mP row (kSt' x tp cs).1 ∧ (kSt' x tp cs).2.length + (kSt' x tp cs).1.length = cs.length + tp.length
  | [], cs, h => ⟨h, rfl⟩
  | y :: t, cs, h => by
    have l1 : ∀ z : kSy, (cs ++ [z]).length = cs.length + 1 := fun z => List.length_append
    have l2 : (y :: t).length = t.length + 1 := rfl
    by_cases h1 : y = 38
    · rw [show kSt' x (y :: t) cs = kSt' x t (cs ++ [(-2, -38)]) from if_pos h1]
      obtain ⟨g1, g2⟩ := kSt_b (x := x) t (cs ++ [(-2, -38)]) h.2
      rw [l1] at g2
      exact ⟨g1, by rw [g2, l2]; omega⟩
    · by_cases h2 : y = 124 ∧ ¬ x = 38
      · rw [show kSt' x (y :: t) cs = kSt' x t (cs ++ [(-3, -124)]) from (if_neg h1).trans (if_pos h2)]
        obtain ⟨g1, g2⟩ := kSt_b (x := x) t (cs ++ [(-3, -124)]) h.2
        rw [l1] at g2
        exact ⟨g1, by rw [g2, l2]; omega⟩
      · rw [show kSt' x (y :: t) cs = (y :: t, cs) from (if_neg h1).trans (if_neg h2)]
        exact ⟨h, rfl⟩
theorem kW_b : ∀ (tp : List Int32) (cs : List kSy), mP row tp → mP row (kW tp cs).1 ∧ (kW tp cs).2.length + (kW tp cs).1.length = cs.length + tp.length
  | [], cs, h => ⟨h, rfl⟩
  | y :: t, cs, h => by
    have l1 : ∀ z : kSy, (cs ++ [z]).length = cs.length + 1 := fun z => List.length_append
    have l2 : (y :: t).length = t.length + 1 := rfl
    by_cases h1 : y = 33
    · rw [show kW (y :: t) cs = kW t (cs ++ [(-1, -33)]) from if_pos h1]
      obtain ⟨g1, g2⟩ := kW_b t (cs ++ [(-1, -33)]) h.2
      rw [l1] at g2
      exact ⟨g1, by rw [g2, l2]; omega⟩
    · rw [kW_n h1]
      exact ⟨h, rfl⟩
/-- too deep -/
theorem mH_1 (hH : mTx R I a b c N i) (ha : at' ≤ N) {x : Int32} (hx : x = 33 ∨ x = 40) (h1 : kNx (I 81) N at' = x) (h4 : kOn tp = 4) (hQ : Q (some (.int 0)) (mE I o q at' nm cs tp tv row, J, R, 111)) : mHd d I J R o q Q 1 at' nm cs tp tv row := by
  have y1 := sp_109E (d := d + 4) (J := J) (o := o) (q := q) (nm := nm) (cs := cs) (tp := tp) (tv := tv) (row := row) hH ha
  have e4 : nI (kOn tp) = 4 := by rw [h4]; rfl
  rw [h1] at y1
  unfold mHd
  refine zg_wp 60 _ ?_
  rcases hx with rfl | rfl
  · simp only [zpr_120, zhd_120, zp120, zh120, zml_120, o_bad, o_push, o_iload, o_lload, o_aload, o_istore, o_astore, o_lstore, o_iinc, o_ii, o_dv, o_i, o_ll, o_lshl, o_lcmp, o_i2l, o_l2i, o_dup, o_dup2, o_pop, o_goto, o_if, o_ic, o_sw, o_ireturn, o_nreturn, o_lreturn, o_return, o_min, o_max, o_geti, o_getr, o_puti, o_putz, o_putr, o_gets, o_iald, o_lald, o_aald, o_iast, o_last, o_aast, o_alen, o_new, o_newa, o_multi, o_call, o_scall, o_chk, o_oinit, o_copyi, o_copyl, z_eq, z_ne, z_lt, z_ge, z_gt, z_le, z_ceq, z_cne, z_clt, z_cge, z_cgt, z_cle, z_rz, z_rb, z_rc, q_nz, zg_0, zg_s, zgk_s, zgh_n, zgh_s, zq_n, zq_br, zq_gd, zq_cl2, zqc_s, zq_rt, zq_sw, zq_st, zsws, zent, zpad, zla, zlg, zpop, zrv, zc1, zmk, zob_w, zaw_w, zar_w, zln_w, zld_w, zin_w, zcpg_w, znr_w, List.getElem?_cons_zero, List.getElem?_cons_succ, List.set_cons_zero, List.set_cons_succ, List.length_cons, List.length_nil, Nat.reduceLT, Nat.reduceLeDiff, Nat.reduceAdd, Nat.reduceSub, Nat.reduceMul, Nat.reduceEqDiff, Nat.reduceBEq, ↓reduceIte, q_10, q_01, q_00, q_m1, q_m2, q_m3, q_m4, q_m5, q_n1, q_n2, decide_eq_true_eq, decide_eq_false_iff_not, Bool.and_eq_true, Bool.true_and, Bool.and_true, Bool.decide_and, decide_true, decide_false, Bool.true_eq_false, Bool.false_eq_true, Option.toList_some, Option.toList_none, List.cons_append, List.nil_append, true_and, and_true, and_self, not_true_eq_false, not_false_eq_true, forall_const, false_implies, implies_true, Nat.le_refl, ne_eq, Bool.not_eq_true, eq_self, zshA, zb_rz, zb_ne, zb_eq, qem, true_implies, Nat.zero_le, false_and, and_false, Bool.or_eq_true, or_true, true_or, false_or, or_false, y1, mE_23, e4]
    exact hQ
  · simp only [zpr_120, zhd_120, zp120, zh120, zml_120, o_bad, o_push, o_iload, o_lload, o_aload, o_istore, o_astore, o_lstore, o_iinc, o_ii, o_dv, o_i, o_ll, o_lshl, o_lcmp, o_i2l, o_l2i, o_dup, o_dup2, o_pop, o_goto, o_if, o_ic, o_sw, o_ireturn, o_nreturn, o_lreturn, o_return, o_min, o_max, o_geti, o_getr, o_puti, o_putz, o_putr, o_gets, o_iald, o_lald, o_aald, o_iast, o_last, o_aast, o_alen, o_new, o_newa, o_multi, o_call, o_scall, o_chk, o_oinit, o_copyi, o_copyl, z_eq, z_ne, z_lt, z_ge, z_gt, z_le, z_ceq, z_cne, z_clt, z_cge, z_cgt, z_cle, z_rz, z_rb, z_rc, q_nz, zg_0, zg_s, zgk_s, zgh_n, zgh_s, zq_n, zq_br, zq_gd, zq_cl2, zqc_s, zq_rt, zq_sw, zq_st, zsws, zent, zpad, zla, zlg, zpop, zrv, zc1, zmk, zob_w, zaw_w, zar_w, zln_w, zld_w, zin_w, zcpg_w, znr_w, List.getElem?_cons_zero, List.getElem?_cons_succ, List.set_cons_zero, List.set_cons_succ, List.length_cons, List.length_nil, Nat.reduceLT, Nat.reduceLeDiff, Nat.reduceAdd, Nat.reduceSub, Nat.reduceMul, Nat.reduceEqDiff, Nat.reduceBEq, ↓reduceIte, q_10, q_01, q_00, q_m1, q_m2, q_m3, q_m4, q_m5, q_n1, q_n2, decide_eq_true_eq, decide_eq_false_iff_not, Bool.and_eq_true, Bool.true_and, Bool.and_true, Bool.decide_and, decide_true, decide_false, Bool.true_eq_false, Bool.false_eq_true, Option.toList_some, Option.toList_none, List.cons_append, List.nil_append, true_and, and_true, and_self, not_true_eq_false, not_false_eq_true, forall_const, false_implies, implies_true, Nat.le_refl, ne_eq, Bool.not_eq_true, eq_self, zshA, zb_rz, zb_ne, zb_eq, qem, true_implies, Nat.zero_le, false_and, and_false, Bool.or_eq_true, or_true, true_or, false_or, or_false, y1, mE_23, e4, q_ops]
    exact hQ
/-- a not or a bracket -/
theorem mH_2 (hH : mTx R I a b c N i) (hl : cs.length + tp.length ≤ at') {x : Int32} (hx : x = 33 ∨ x = 40) (h1 : kNx (I 81) N at' = x) (h4 : kOn tp < 4) (h : mHd d I J R o q Q 1 (at' + 1) nm cs (x :: tp) tv (fun j => if j = tp.length then x else row j)) : mHd d I J R o q Q 1 at' nm cs tp tv row := by
  have hR := hH.1
  have h100 := hH.2.2.1
  have ha : at' < N := kNx_lt h1 (by rcases hx with rfl | rfl <;> decide)
  have y1 := sp_109E (d := d + 4) (J := J) (o := o) (q := q) (nm := nm) (cs := cs) (tp := tp) (tv := tv) (row := row) hH (Nat.le_of_lt ha)
  have e4 : ¬ nI (kOn tp) = 4 := q_tne (m := kOn tp) (n := 4) (by omega) (by omega)
  rw [h1] at y1
  have v1 : ∀ z, zup (mE I o q at' nm cs tp tv row) 75 23 z 75 22 = nI tp.length := fun z => by rw [zup_eq']; rfl
  have v2 : ∀ z, zup (zup (mE I o q at' nm cs tp tv row) 75 23 z) 88 tp.length x 75 22 = nI tp.length := fun z => by rw [zup_ne' (by decide)]; exact v1 z
  have u := mE_u1 (I := I) (o := o) (q := q) (at' := at') (nm := nm) (cs := cs) (tp := tp) (tv := tv) (row := row) (x := x) hx
  obtain ⟨p1, p2, p3⟩ := q_row (m := tp.length) (n := 101) (by omega) (by omega)
  have e5 : nI (kOn tp) + 1 = nI (kOn tp + 1) := q_add3 (n := 1)
  have e6 : nI at' + 1 = nI (at' + 1) := q_add3 (n := 1)
  have e7 : nI tp.length + 1 = nI (tp.length + 1) := q_add3 (n := 1)
  unfold mHd at h ⊢
  refine zg_wp 60 _ ?_
  rcases hx with rfl | rfl
  · simp only [zpr_120, zhd_120, zp120, zh120, zml_120, o_bad, o_push, o_iload, o_lload, o_aload, o_istore, o_astore, o_lstore, o_iinc, o_ii, o_dv, o_i, o_ll, o_lshl, o_lcmp, o_i2l, o_l2i, o_dup, o_dup2, o_pop, o_goto, o_if, o_ic, o_sw, o_ireturn, o_nreturn, o_lreturn, o_return, o_min, o_max, o_geti, o_getr, o_puti, o_putz, o_putr, o_gets, o_iald, o_lald, o_aald, o_iast, o_last, o_aast, o_alen, o_new, o_newa, o_multi, o_call, o_scall, o_chk, o_oinit, o_copyi, o_copyl, z_eq, z_ne, z_lt, z_ge, z_gt, z_le, z_ceq, z_cne, z_clt, z_cge, z_cgt, z_cle, z_rz, z_rb, z_rc, q_nz, zg_0, zg_s, zgk_s, zgh_n, zgh_s, zq_n, zq_br, zq_gd, zq_cl2, zqc_s, zq_rt, zq_sw, zq_st, zsws, zent, zpad, zla, zlg, zpop, zrv, zc1, zmk, zob_w, zaw_w, zar_w, zln_w, zld_w, zin_w, zcpg_w, znr_w, List.getElem?_cons_zero, List.getElem?_cons_succ, List.set_cons_zero, List.set_cons_succ, List.length_cons, List.length_nil, Nat.reduceLT, Nat.reduceLeDiff, Nat.reduceAdd, Nat.reduceSub, Nat.reduceMul, Nat.reduceEqDiff, Nat.reduceBEq, ↓reduceIte, q_10, q_01, q_00, q_m1, q_m2, q_m3, q_m4, q_m5, q_n1, q_n2, decide_eq_true_eq, decide_eq_false_iff_not, Bool.and_eq_true, Bool.true_and, Bool.and_true, Bool.decide_and, decide_true, decide_false, Bool.true_eq_false, Bool.false_eq_true, Option.toList_some, Option.toList_none, List.cons_append, List.nil_append, true_and, and_true, and_self, not_true_eq_false, not_false_eq_true, forall_const, false_implies, implies_true, Nat.le_refl, ne_eq, Bool.not_eq_true, eq_self, zshA, zb_rz, zb_ne, zb_eq, qem, true_implies, Nat.zero_le, false_and, and_false, Bool.or_eq_true, or_true, true_or, false_or, or_false, y1, mE_23, e4, e5, e6, e7, zr_75_20 hR, v1, v2, p1, p2, u, mE_a, mE_at]
    exact h
  · simp only [zpr_120, zhd_120, zp120, zh120, zml_120, o_bad, o_push, o_iload, o_lload, o_aload, o_istore, o_astore, o_lstore, o_iinc, o_ii, o_dv, o_i, o_ll, o_lshl, o_lcmp, o_i2l, o_l2i, o_dup, o_dup2, o_pop, o_goto, o_if, o_ic, o_sw, o_ireturn, o_nreturn, o_lreturn, o_return, o_min, o_max, o_geti, o_getr, o_puti, o_putz, o_putr, o_gets, o_iald, o_lald, o_aald, o_iast, o_last, o_aast, o_alen, o_new, o_newa, o_multi, o_call, o_scall, o_chk, o_oinit, o_copyi, o_copyl, z_eq, z_ne, z_lt, z_ge, z_gt, z_le, z_ceq, z_cne, z_clt, z_cge, z_cgt, z_cle, z_rz, z_rb, z_rc, q_nz, zg_0, zg_s, zgk_s, zgh_n, zgh_s, zq_n, zq_br, zq_gd, zq_cl2, zqc_s, zq_rt, zq_sw, zq_st, zsws, zent, zpad, zla, zlg, zpop, zrv, zc1, zmk, zob_w, zaw_w, zar_w, zln_w, zld_w, zin_w, zcpg_w, znr_w, List.getElem?_cons_zero, List.getElem?_cons_succ, List.set_cons_zero, List.set_cons_succ, List.length_cons, List.length_nil, Nat.reduceLT, Nat.reduceLeDiff, Nat.reduceAdd, Nat.reduceSub, Nat.reduceMul, Nat.reduceEqDiff, Nat.reduceBEq, ↓reduceIte, q_10, q_01, q_00, q_m1, q_m2, q_m3, q_m4, q_m5, q_n1, q_n2, decide_eq_true_eq, decide_eq_false_iff_not, Bool.and_eq_true, Bool.true_and, Bool.and_true, Bool.decide_and, decide_true, decide_false, Bool.true_eq_false, Bool.false_eq_true, Option.toList_some, Option.toList_none, List.cons_append, List.nil_append, true_and, and_true, and_self, not_true_eq_false, not_false_eq_true, forall_const, false_implies, implies_true, Nat.le_refl, ne_eq, Bool.not_eq_true, eq_self, zshA, zb_rz, zb_ne, zb_eq, qem, true_implies, Nat.zero_le, false_and, and_false, Bool.or_eq_true, or_true, true_or, false_or, or_false, y1, mE_23, e4, e5, e6, e7, zr_75_20 hR, v1, v2, p1, p2, u, mE_a, mE_at, q_ops]
    exact h
/-- a test -/
theorem mH_3 (hH : mTx R I a b c N i) (ho : o ≤ 500) (ha : at' ≤ N) (hl : cs.length + tp.length ≤ at') (hp : mP row tp) (hx1 : ¬ kNx (I 81) N at' = 33) (hx2 : ¬ kNx (I 81) N at' = 40)
    (hf : (kTe (I 81) N at' cs).1 = false → ∀ nm', Q (some (.int 0)) (mE I o q (kTe (I 81) N at' cs).2.1 nm' cs tp tv row, J, R, 111))
    (ht : (kTe (I 81) N at' cs).1 = true → ∀ nm', mHd d I J R o q Q 0 (kTe (I 81) N at' cs).2.1 nm' (kW tp (kTe (I 81) N at' cs).2.2).2 (kW tp (kTe (I 81) N at' cs).2.2).1 tv row) : mHd d I J R o q Q 1 at' nm cs tp tv row := by
  have y1 := sp_109E (d := d + 4) (J := J) (o := o) (q := q) (nm := nm) (cs := cs) (tp := tp) (tv := tv) (row := row) hH ha
  obtain ⟨y2, y3⟩ := sp_119 (d := d) (J := J) (o := o) (q := q) (nm := nm) (tv := tv) hH ho ha hl hp
  unfold mHd at ht ⊢
  refine zg_wp 60 _ ?_
  cases e : (kTe (I 81) N at' cs).1
  · obtain ⟨nm', y⟩ := y2 e
    simp only [zpr_120, zhd_120, zp120, zh120, zml_120, o_bad, o_push, o_iload, o_lload, o_aload, o_istore, o_astore, o_lstore, o_iinc, o_ii, o_dv, o_i, o_ll, o_lshl, o_lcmp, o_i2l, o_l2i, o_dup, o_dup2, o_pop, o_goto, o_if, o_ic, o_sw, o_ireturn, o_nreturn, o_lreturn, o_return, o_min, o_max, o_geti, o_getr, o_puti, o_putz, o_putr, o_gets, o_iald, o_lald, o_aald, o_iast, o_last, o_aast, o_alen, o_new, o_newa, o_multi, o_call, o_scall, o_chk, o_oinit, o_copyi, o_copyl, z_eq, z_ne, z_lt, z_ge, z_gt, z_le, z_ceq, z_cne, z_clt, z_cge, z_cgt, z_cle, z_rz, z_rb, z_rc, q_nz, zg_0, zg_s, zgk_s, zgh_n, zgh_s, zq_n, zq_br, zq_gd, zq_cl2, zqc_s, zq_rt, zq_sw, zq_st, zsws, zent, zpad, zla, zlg, zpop, zrv, zc1, zmk, zob_w, zaw_w, zar_w, zln_w, zld_w, zin_w, zcpg_w, znr_w, List.getElem?_cons_zero, List.getElem?_cons_succ, List.set_cons_zero, List.set_cons_succ, List.length_cons, List.length_nil, Nat.reduceLT, Nat.reduceLeDiff, Nat.reduceAdd, Nat.reduceSub, Nat.reduceMul, Nat.reduceEqDiff, Nat.reduceBEq, ↓reduceIte, q_10, q_01, q_00, q_m1, q_m2, q_m3, q_m4, q_m5, q_n1, q_n2, decide_eq_true_eq, decide_eq_false_iff_not, Bool.and_eq_true, Bool.true_and, Bool.and_true, Bool.decide_and, decide_true, decide_false, Bool.true_eq_false, Bool.false_eq_true, Option.toList_some, Option.toList_none, List.cons_append, List.nil_append, true_and, and_true, and_self, not_true_eq_false, not_false_eq_true, forall_const, false_implies, implies_true, Nat.le_refl, ne_eq, Bool.not_eq_true, eq_self, zshA, zb_rz, zb_ne, zb_eq, qem, true_implies, Nat.zero_le, false_and, and_false, Bool.or_eq_true, or_true, true_or, false_or, or_false, y1, hx1, hx2, y]
    exact hf e nm'
  · obtain ⟨nm', y⟩ := y3 e
    simp only [zpr_120, zhd_120, zp120, zh120, zml_120, o_bad, o_push, o_iload, o_lload, o_aload, o_istore, o_astore, o_lstore, o_iinc, o_ii, o_dv, o_i, o_ll, o_lshl, o_lcmp, o_i2l, o_l2i, o_dup, o_dup2, o_pop, o_goto, o_if, o_ic, o_sw, o_ireturn, o_nreturn, o_lreturn, o_return, o_min, o_max, o_geti, o_getr, o_puti, o_putz, o_putr, o_gets, o_iald, o_lald, o_aald, o_iast, o_last, o_aast, o_alen, o_new, o_newa, o_multi, o_call, o_scall, o_chk, o_oinit, o_copyi, o_copyl, z_eq, z_ne, z_lt, z_ge, z_gt, z_le, z_ceq, z_cne, z_clt, z_cge, z_cgt, z_cle, z_rz, z_rb, z_rc, q_nz, zg_0, zg_s, zgk_s, zgh_n, zgh_s, zq_n, zq_br, zq_gd, zq_cl2, zqc_s, zq_rt, zq_sw, zq_st, zsws, zent, zpad, zla, zlg, zpop, zrv, zc1, zmk, zob_w, zaw_w, zar_w, zln_w, zld_w, zin_w, zcpg_w, znr_w, List.getElem?_cons_zero, List.getElem?_cons_succ, List.set_cons_zero, List.set_cons_succ, List.length_cons, List.length_nil, Nat.reduceLT, Nat.reduceLeDiff, Nat.reduceAdd, Nat.reduceSub, Nat.reduceMul, Nat.reduceEqDiff, Nat.reduceBEq, ↓reduceIte, q_10, q_01, q_00, q_m1, q_m2, q_m3, q_m4, q_m5, q_n1, q_n2, decide_eq_true_eq, decide_eq_false_iff_not, Bool.and_eq_true, Bool.true_and, Bool.and_true, Bool.decide_and, decide_true, decide_false, Bool.true_eq_false, Bool.false_eq_true, Option.toList_some, Option.toList_none, List.cons_append, List.nil_append, true_and, and_true, and_self, not_true_eq_false, not_false_eq_true, forall_const, false_implies, implies_true, Nat.le_refl, ne_eq, Bool.not_eq_true, eq_self, zshA, zb_rz, zb_ne, zb_eq, qem, true_implies, Nat.zero_le, false_and, and_false, Bool.or_eq_true, or_true, true_or, false_or, or_false, y1, hx1, hx2, y]
    exact ht e nm'
/-- an and or an or -/
theorem mH_4 (hH : mTx R I a b c N i) (ho : o ≤ 500) (hl : cs.length + tp.length ≤ at') (hp : mP row tp) {x : Int32} (hx : x = 38 ∨ x = 124) (h1 : kNx (I 81) N at' = x) {C : List kSy} {P : List Int32} (hX : kSt' x tp cs = (P, C))
    (h : ∀ row', mP row' (x :: P) → mHd d I J R o q Q 1 (at' + 1) nm C (x :: P) tv row') : mHd d I J R o q Q 0 at' nm cs tp tv row := by
  have hR := hH.1
  have h100 := hH.2.2.1
  have ha : at' < N := kNx_lt h1 (by rcases hx with rfl | rfl <;> decide)
  obtain ⟨g1, g2⟩ := kSt_b (x := x) tp cs hp
  have y1 := sp_109E (d := d + 4) (J := J) (o := o) (q := q) (nm := nm) (cs := cs) (tp := tp) (tv := tv) (row := row) hH (Nat.le_of_lt ha)
  have y2 := sp_117 (d := d + 3) (I := I) (J := J) (o := o) (q := q) (at' := at') (nm := nm) (cs := cs) (tp := tp) (tv := tv) (row := row) (x := x) hR ho (by omega) hp
  rw [hX] at y2 g1 g2
  dsimp only at y2 g1 g2
  rw [h1] at y1
  have u := mE_u2 (I := I) (o := o) (q := q) (at' := at') (nm := nm) (cs := C) (tp := P) (tv := tv) (row := row) (x := x) (by rcases hx with rfl | rfl <;> decide)
  have v : zup (mE I o q at' nm C P tv row) 88 P.length x 75 22 = nI P.length := by rw [zup_ne' (by decide)]; rfl
  obtain ⟨p1, p2, p3⟩ := q_row (m := P.length) (n := 101) (by omega) (by omega)
  have e6 : nI at' + 1 = nI (at' + 1) := q_add3 (n := 1)
  have e7 : nI P.length + 1 = nI (P.length + 1) := q_add3 (n := 1)
  have h' := h _ (mP_push (x := x) g1)
  unfold mHd at h' ⊢
  refine zg_wp 60 _ ?_
  rcases hx with rfl | rfl
  · simp only [zpr_120, zhd_120, zp120, zh120, zml_120, o_bad, o_push, o_iload, o_lload, o_aload, o_istore, o_astore, o_lstore, o_iinc, o_ii, o_dv, o_i, o_ll, o_lshl, o_lcmp, o_i2l, o_l2i, o_dup, o_dup2, o_pop, o_goto, o_if, o_ic, o_sw, o_ireturn, o_nreturn, o_lreturn, o_return, o_min, o_max, o_geti, o_getr, o_puti, o_putz, o_putr, o_gets, o_iald, o_lald, o_aald, o_iast, o_last, o_aast, o_alen, o_new, o_newa, o_multi, o_call, o_scall, o_chk, o_oinit, o_copyi, o_copyl, z_eq, z_ne, z_lt, z_ge, z_gt, z_le, z_ceq, z_cne, z_clt, z_cge, z_cgt, z_cle, z_rz, z_rb, z_rc, q_nz, zg_0, zg_s, zgk_s, zgh_n, zgh_s, zq_n, zq_br, zq_gd, zq_cl2, zqc_s, zq_rt, zq_sw, zq_st, zsws, zent, zpad, zla, zlg, zpop, zrv, zc1, zmk, zob_w, zaw_w, zar_w, zln_w, zld_w, zin_w, zcpg_w, znr_w, List.getElem?_cons_zero, List.getElem?_cons_succ, List.set_cons_zero, List.set_cons_succ, List.length_cons, List.length_nil, Nat.reduceLT, Nat.reduceLeDiff, Nat.reduceAdd, Nat.reduceSub, Nat.reduceMul, Nat.reduceEqDiff, Nat.reduceBEq, ↓reduceIte, q_10, q_01, q_00, q_m1, q_m2, q_m3, q_m4, q_m5, q_n1, q_n2, decide_eq_true_eq, decide_eq_false_iff_not, Bool.and_eq_true, Bool.true_and, Bool.and_true, Bool.decide_and, decide_true, decide_false, Bool.true_eq_false, Bool.false_eq_true, Option.toList_some, Option.toList_none, List.cons_append, List.nil_append, true_and, and_true, and_self, not_true_eq_false, not_false_eq_true, forall_const, false_implies, implies_true, Nat.le_refl, ne_eq, Bool.not_eq_true, eq_self, zshA, zb_rz, zb_ne, zb_eq, qem, true_implies, Nat.zero_le, false_and, and_false, Bool.or_eq_true, or_true, true_or, false_or, or_false, y1, y2, mE_22, e6, e7, zr_75_20 hR, v, p1, p2, u, mE_a, mE_at]
    exact h'
  · simp only [zpr_120, zhd_120, zp120, zh120, zml_120, o_bad, o_push, o_iload, o_lload, o_aload, o_istore, o_astore, o_lstore, o_iinc, o_ii, o_dv, o_i, o_ll, o_lshl, o_lcmp, o_i2l, o_l2i, o_dup, o_dup2, o_pop, o_goto, o_if, o_ic, o_sw, o_ireturn, o_nreturn, o_lreturn, o_return, o_min, o_max, o_geti, o_getr, o_puti, o_putz, o_putr, o_gets, o_iald, o_lald, o_aald, o_iast, o_last, o_aast, o_alen, o_new, o_newa, o_multi, o_call, o_scall, o_chk, o_oinit, o_copyi, o_copyl, z_eq, z_ne, z_lt, z_ge, z_gt, z_le, z_ceq, z_cne, z_clt, z_cge, z_cgt, z_cle, z_rz, z_rb, z_rc, q_nz, zg_0, zg_s, zgk_s, zgh_n, zgh_s, zq_n, zq_br, zq_gd, zq_cl2, zqc_s, zq_rt, zq_sw, zq_st, zsws, zent, zpad, zla, zlg, zpop, zrv, zc1, zmk, zob_w, zaw_w, zar_w, zln_w, zld_w, zin_w, zcpg_w, znr_w, List.getElem?_cons_zero, List.getElem?_cons_succ, List.set_cons_zero, List.set_cons_succ, List.length_cons, List.length_nil, Nat.reduceLT, Nat.reduceLeDiff, Nat.reduceAdd, Nat.reduceSub, Nat.reduceMul, Nat.reduceEqDiff, Nat.reduceBEq, ↓reduceIte, q_10, q_01, q_00, q_m1, q_m2, q_m3, q_m4, q_m5, q_n1, q_n2, decide_eq_true_eq, decide_eq_false_iff_not, Bool.and_eq_true, Bool.true_and, Bool.and_true, Bool.decide_and, decide_true, decide_false, Bool.true_eq_false, Bool.false_eq_true, Option.toList_some, Option.toList_none, List.cons_append, List.nil_append, true_and, and_true, and_self, not_true_eq_false, not_false_eq_true, forall_const, false_implies, implies_true, Nat.le_refl, ne_eq, Bool.not_eq_true, eq_self, zshA, zb_rz, zb_ne, zb_eq, qem, true_implies, Nat.zero_le, false_and, and_false, Bool.or_eq_true, or_true, true_or, false_or, or_false, y1, y2, mE_22, e6, e7, zr_75_20 hR, v, p1, p2, u, mE_a, mE_at, q_ops]
    exact h'
/-- neither: nothing is open -/
theorem mH_5 (hH : mTx R I a b c N i) (ho : o ≤ 500) (hq : q < 60) (ha : at' ≤ N) (hl : cs.length + tp.length ≤ at') (hp : mP row tp) (hx1 : ¬ kNx (I 81) N at' = 38) (hx2 : ¬ kNx (I 81) N at' = 124) {C : List kSy} (hX : kSt' 124 tp cs = ([], C))
    (hQ : Q (some (.int 1)) (mE I o q at' nm C [] (nI (o + C.length)) row, J, R, 111)) : mHd d I J R o q Q 0 at' nm cs tp tv row := by
  have hR := hH.1
  have h100 := hH.2.2.1
  have y1 := sp_109E (d := d + 4) (J := J) (o := o) (q := q) (nm := nm) (cs := cs) (tp := tp) (tv := tv) (row := row) hH ha
  have y2 := sp_117 (d := d + 3) (I := I) (J := J) (o := o) (q := q) (at' := at') (nm := nm) (cs := cs) (tp := tp) (tv := tv) (row := row) (x := 124) hR ho (by omega) hp
  rw [hX] at y2
  dsimp only at y2
  obtain ⟨p1, p2, p3⟩ := q_row (m := q) (n := 60) (by omega) (by omega)
  have e1 : nI ([] : List Int32).length = 0 := rfl
  unfold mHd
  refine zg_wp 60 _ ?_
  simp only [zpr_120, zhd_120, zp120, zh120, zml_120, o_bad, o_push, o_iload, o_lload, o_aload, o_istore, o_astore, o_lstore, o_iinc, o_ii, o_dv, o_i, o_ll, o_lshl, o_lcmp, o_i2l, o_l2i, o_dup, o_dup2, o_pop, o_goto, o_if, o_ic, o_sw, o_ireturn, o_nreturn, o_lreturn, o_return, o_min, o_max, o_geti, o_getr, o_puti, o_putz, o_putr, o_gets, o_iald, o_lald, o_aald, o_iast, o_last, o_aast, o_alen, o_new, o_newa, o_multi, o_call, o_scall, o_chk, o_oinit, o_copyi, o_copyl, z_eq, z_ne, z_lt, z_ge, z_gt, z_le, z_ceq, z_cne, z_clt, z_cge, z_cgt, z_cle, z_rz, z_rb, z_rc, q_nz, zg_0, zg_s, zgk_s, zgh_n, zgh_s, zq_n, zq_br, zq_gd, zq_cl2, zqc_s, zq_rt, zq_sw, zq_st, zsws, zent, zpad, zla, zlg, zpop, zrv, zc1, zmk, zob_w, zaw_w, zar_w, zln_w, zld_w, zin_w, zcpg_w, znr_w, List.getElem?_cons_zero, List.getElem?_cons_succ, List.set_cons_zero, List.set_cons_succ, List.length_cons, List.length_nil, Nat.reduceLT, Nat.reduceLeDiff, Nat.reduceAdd, Nat.reduceSub, Nat.reduceMul, Nat.reduceEqDiff, Nat.reduceBEq, ↓reduceIte, q_10, q_01, q_00, q_m1, q_m2, q_m3, q_m4, q_m5, q_n1, q_n2, decide_eq_true_eq, decide_eq_false_iff_not, Bool.and_eq_true, Bool.true_and, Bool.and_true, Bool.decide_and, decide_true, decide_false, Bool.true_eq_false, Bool.false_eq_true, Option.toList_some, Option.toList_none, List.cons_append, List.nil_append, true_and, and_true, and_self, not_true_eq_false, not_false_eq_true, forall_const, false_implies, implies_true, Nat.le_refl, ne_eq, Bool.not_eq_true, eq_self, zshA, zb_rz, zb_ne, zb_eq, qem, true_implies, Nat.zero_le, false_and, and_false, Bool.or_eq_true, or_true, true_or, false_or, or_false, y1, y2, hx1, hx2, zr_75_18 hR, mE_21, p1, p2, mE_to]
  simp only [zpr_120, zhd_120, zp120, zh120, zml_120, o_bad, o_push, o_iload, o_lload, o_aload, o_istore, o_astore, o_lstore, o_iinc, o_ii, o_dv, o_i, o_ll, o_lshl, o_lcmp, o_i2l, o_l2i, o_dup, o_dup2, o_pop, o_goto, o_if, o_ic, o_sw, o_ireturn, o_nreturn, o_lreturn, o_return, o_min, o_max, o_geti, o_getr, o_puti, o_putz, o_putr, o_gets, o_iald, o_lald, o_aald, o_iast, o_last, o_aast, o_alen, o_new, o_newa, o_multi, o_call, o_scall, o_chk, o_oinit, o_copyi, o_copyl, z_eq, z_ne, z_lt, z_ge, z_gt, z_le, z_ceq, z_cne, z_clt, z_cge, z_cgt, z_cle, z_rz, z_rb, z_rc, q_nz, zg_0, zg_s, zgk_s, zgh_n, zgh_s, zq_n, zq_br, zq_gd, zq_cl2, zqc_s, zq_rt, zq_sw, zq_st, zsws, zent, zpad, zla, zlg, zpop, zrv, zc1, zmk, zob_w, zaw_w, zar_w, zln_w, zld_w, zin_w, zcpg_w, znr_w, List.getElem?_cons_zero, List.getElem?_cons_succ, List.set_cons_zero, List.set_cons_succ, List.length_cons, List.length_nil, Nat.reduceLT, Nat.reduceLeDiff, Nat.reduceAdd, Nat.reduceSub, Nat.reduceMul, Nat.reduceEqDiff, Nat.reduceBEq, ↓reduceIte, q_10, q_01, q_00, q_m1, q_m2, q_m3, q_m4, q_m5, q_n1, q_n2, decide_eq_true_eq, decide_eq_false_iff_not, Bool.and_eq_true, Bool.true_and, Bool.and_true, Bool.decide_and, decide_true, decide_false, Bool.true_eq_false, Bool.false_eq_true, Option.toList_some, Option.toList_none, List.cons_append, List.nil_append, true_and, and_true, and_self, not_true_eq_false, not_false_eq_true, forall_const, false_implies, implies_true, Nat.le_refl, ne_eq, Bool.not_eq_true, eq_self, zshA, zb_rz, zb_ne, zb_eq, qem, true_implies, Nat.zero_le, false_and, and_false, Bool.or_eq_true, or_true, true_or, false_or, or_false, mE_22, e1]
  exact hQ
/-- a bracket is open and not shut -/
theorem mH_6 (hH : mTx R I a b c N i) (ho : o ≤ 500) (hq : q < 60) (ha : at' ≤ N) (hl : cs.length + tp.length ≤ at') (hp : mP row tp) (hx1 : ¬ kNx (I 81) N at' = 38) (hx2 : ¬ kNx (I 81) N at' = 124) (hx3 : ¬ kNx (I 81) N at' = 41) {x : Int32} {t : List Int32} {C : List kSy} (hX : kSt' 124 tp cs = (x :: t, C))
    (hQ : Q (some (.int 0)) (mE I o q at' nm C (x :: t) (nI (o + C.length)) row, J, R, 111)) : mHd d I J R o q Q 0 at' nm cs tp tv row := by
  have hR := hH.1
  have h100 := hH.2.2.1
  have y1 := sp_109E (d := d + 4) (J := J) (o := o) (q := q) (nm := nm) (cs := cs) (tp := tp) (tv := tv) (row := row) hH ha
  have y2 := sp_117 (d := d + 3) (I := I) (J := J) (o := o) (q := q) (at' := at') (nm := nm) (cs := cs) (tp := tp) (tv := tv) (row := row) (x := 124) hR ho (by omega) hp
  obtain ⟨g1, g2⟩ := kSt_b (x := 124) tp cs hp
  rw [hX] at y2 g1 g2
  dsimp only at y2 g1 g2
  have g3 : C.length + (t.length + 1) = cs.length + tp.length := g2
  obtain ⟨p1, p2, p3⟩ := q_row (m := q) (n := 60) (by omega) (by omega)
  have e1 : ¬ nI (t.length + 1) = 0 := fun e => absurd ((q_eq3 (m := t.length + 1) (n := 0) (by omega) (by omega)).mp e) (Nat.succ_ne_zero _)
  unfold mHd
  refine zg_wp 60 _ ?_
  simp only [zpr_120, zhd_120, zp120, zh120, zml_120, o_bad, o_push, o_iload, o_lload, o_aload, o_istore, o_astore, o_lstore, o_iinc, o_ii, o_dv, o_i, o_ll, o_lshl, o_lcmp, o_i2l, o_l2i, o_dup, o_dup2, o_pop, o_goto, o_if, o_ic, o_sw, o_ireturn, o_nreturn, o_lreturn, o_return, o_min, o_max, o_geti, o_getr, o_puti, o_putz, o_putr, o_gets, o_iald, o_lald, o_aald, o_iast, o_last, o_aast, o_alen, o_new, o_newa, o_multi, o_call, o_scall, o_chk, o_oinit, o_copyi, o_copyl, z_eq, z_ne, z_lt, z_ge, z_gt, z_le, z_ceq, z_cne, z_clt, z_cge, z_cgt, z_cle, z_rz, z_rb, z_rc, q_nz, zg_0, zg_s, zgk_s, zgh_n, zgh_s, zq_n, zq_br, zq_gd, zq_cl2, zqc_s, zq_rt, zq_sw, zq_st, zsws, zent, zpad, zla, zlg, zpop, zrv, zc1, zmk, zob_w, zaw_w, zar_w, zln_w, zld_w, zin_w, zcpg_w, znr_w, List.getElem?_cons_zero, List.getElem?_cons_succ, List.set_cons_zero, List.set_cons_succ, List.length_cons, List.length_nil, Nat.reduceLT, Nat.reduceLeDiff, Nat.reduceAdd, Nat.reduceSub, Nat.reduceMul, Nat.reduceEqDiff, Nat.reduceBEq, ↓reduceIte, q_10, q_01, q_00, q_m1, q_m2, q_m3, q_m4, q_m5, q_n1, q_n2, decide_eq_true_eq, decide_eq_false_iff_not, Bool.and_eq_true, Bool.true_and, Bool.and_true, Bool.decide_and, decide_true, decide_false, Bool.true_eq_false, Bool.false_eq_true, Option.toList_some, Option.toList_none, List.cons_append, List.nil_append, true_and, and_true, and_self, not_true_eq_false, not_false_eq_true, forall_const, false_implies, implies_true, Nat.le_refl, ne_eq, Bool.not_eq_true, eq_self, zshA, zb_rz, zb_ne, zb_eq, qem, true_implies, Nat.zero_le, false_and, and_false, Bool.or_eq_true, or_true, true_or, false_or, or_false, y1, y2, hx1, hx2, hx3, zr_75_18 hR, mE_21, p1, p2, mE_to, mE_22, e1]
  exact hQ
/-- a bracket is shut -/
theorem mH_7 (hH : mTx R I a b c N i) (ho : o ≤ 500) (hq : q < 60) (hl : cs.length + tp.length ≤ at') (hp : mP row tp) (hx3 : kNx (I 81) N at' = 41) {t : List Int32} {C : List kSy} (hX : kSt' 124 tp cs = (40 :: t, C))
    (h : mHd d I J R o q Q 0 (at' + 1) nm (kW t C).2 (kW t C).1 (nI (o + C.length)) row) : mHd d I J R o q Q 0 at' nm cs tp tv row := by
  have hR := hH.1
  have h100 := hH.2.2.1
  have ha : at' < N := kNx_lt hx3 (by decide)
  have y1 := sp_109E (d := d + 4) (J := J) (o := o) (q := q) (nm := nm) (cs := cs) (tp := tp) (tv := tv) (row := row) hH (Nat.le_of_lt ha)
  have y2 := sp_117 (d := d + 3) (I := I) (J := J) (o := o) (q := q) (at' := at') (nm := nm) (cs := cs) (tp := tp) (tv := tv) (row := row) (x := 124) hR ho (by omega) hp
  obtain ⟨g1, g2⟩ := kSt_b (x := 124) tp cs hp
  rw [hX] at y2 g1 g2
  dsimp only at y2 g1 g2
  have g3 : C.length + (t.length + 1) = cs.length + tp.length := g2
  have y3 := sp_116 (d := d + 3) (I := I) (J := J) (o := o) (q := q) (at' := at' + 1) (nm := nm) (cs := C) (tp := t) (tv := nI (o + C.length)) (row := row) hR ho (by omega) g1.2
  obtain ⟨p1, p2, p3⟩ := q_row (m := q) (n := 60) (by omega) (by omega)
  have e1 : ¬ nI (t.length + 1) = 0 := fun e => absurd ((q_eq3 (m := t.length + 1) (n := 0) (by omega) (by omega)).mp e) (Nat.succ_ne_zero _)
  have e2 : nI (t.length + 1) - 1 = nI t.length := q_sub (c := 1) (m := t.length + 1) (by omega)
  have e4 : nI (kOn (40 :: t)) - 1 = nI (kOn t) := by
    rw [show kOn (40 :: t) = kOn t + 1 from if_pos (.inr rfl)]
    exact q_sub (c := 1) (by omega)
  have e6 : nI at' + 1 = nI (at' + 1) := q_add3 (n := 1)
  have v : zup (mE I o q at' nm C (40 :: t) (nI (o + C.length)) row) 75 22 (nI t.length) 75 23 = nI (kOn (40 :: t)) := by rw [zup_eq']; rfl
  have u := mE_p1 (I := I) (o := o) (q := q) (at' := at') (nm := nm) (cs := C) (tp := t) (tv := nI (o + C.length)) (row := row) (x := 40) (.inr rfl)
  rw [hx3] at y1
  unfold mHd at h ⊢
  refine zg_wp 80 _ ?_
  have q41 : ((41 : Int32) = 38 ↔ False) ∧ ((41 : Int32) = 124 ↔ False) := by decide
  simp only [zpr_120, zhd_120, zp120, zh120, zml_120, o_bad, o_push, o_iload, o_lload, o_aload, o_istore, o_astore, o_lstore, o_iinc, o_ii, o_dv, o_i, o_ll, o_lshl, o_lcmp, o_i2l, o_l2i, o_dup, o_dup2, o_pop, o_goto, o_if, o_ic, o_sw, o_ireturn, o_nreturn, o_lreturn, o_return, o_min, o_max, o_geti, o_getr, o_puti, o_putz, o_putr, o_gets, o_iald, o_lald, o_aald, o_iast, o_last, o_aast, o_alen, o_new, o_newa, o_multi, o_call, o_scall, o_chk, o_oinit, o_copyi, o_copyl, z_eq, z_ne, z_lt, z_ge, z_gt, z_le, z_ceq, z_cne, z_clt, z_cge, z_cgt, z_cle, z_rz, z_rb, z_rc, q_nz, zg_0, zg_s, zgk_s, zgh_n, zgh_s, zq_n, zq_br, zq_gd, zq_cl2, zqc_s, zq_rt, zq_sw, zq_st, zsws, zent, zpad, zla, zlg, zpop, zrv, zc1, zmk, zob_w, zaw_w, zar_w, zln_w, zld_w, zin_w, zcpg_w, znr_w, List.getElem?_cons_zero, List.getElem?_cons_succ, List.set_cons_zero, List.set_cons_succ, List.length_cons, List.length_nil, Nat.reduceLT, Nat.reduceLeDiff, Nat.reduceAdd, Nat.reduceSub, Nat.reduceMul, Nat.reduceEqDiff, Nat.reduceBEq, ↓reduceIte, q_10, q_01, q_00, q_m1, q_m2, q_m3, q_m4, q_m5, q_n1, q_n2, decide_eq_true_eq, decide_eq_false_iff_not, Bool.and_eq_true, Bool.true_and, Bool.and_true, Bool.decide_and, decide_true, decide_false, Bool.true_eq_false, Bool.false_eq_true, Option.toList_some, Option.toList_none, List.cons_append, List.nil_append, true_and, and_true, and_self, not_true_eq_false, not_false_eq_true, forall_const, false_implies, implies_true, Nat.le_refl, ne_eq, Bool.not_eq_true, eq_self, zshA, zb_rz, zb_ne, zb_eq, qem, true_implies, Nat.zero_le, false_and, and_false, Bool.or_eq_true, or_true, true_or, false_or, or_false, y1, y2, q41, zr_75_18 hR, mE_21, p1, p2, mE_to, mE_22, e1, e2, v, e4, u, mE_a, e6, mE_at, y3]
  exact h
end KM
