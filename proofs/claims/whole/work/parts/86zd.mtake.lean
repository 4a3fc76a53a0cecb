/-! ===== the model takes a test ===== -/
section KM
variable {d : Nat} {I : zI} {J : zJ} {R : zR} {a b c N at' o q : Nat} {i : Option Nat} {nm tv : Int32} {cs : List kSy} {tp : List Int32} {row : Nat → Int32}
theorem mQ_T : mQ I o q cs tp tv row 81 = I 81 := mQ_o (by decide) (by decide)
set_option maxRecDepth 40000 in
theorem sp_114E (hH : mTx R I a b c N i) (ha : at' ≤ N) (h1 : kDg (I 81) N at') : zcl (d + 4) 114 [.ref 75] (mE I o q at' nm cs tp tv row, J, R, 111) = some (some (.int 1), (mE I o q (kNu (I 81) N at').2 (kNu (I 81) N at').1 cs tp tv row, J, R, 111)) := by
  have y := sp_114 (d := d) (J := J) (nm := nm) (mTx_Q (o := o) (q := q) (cs := cs) (tp := tp) (tv := tv) (row := row) hH) ha (by rw [mQ_T]; exact h1)
  rw [mQ_T] at y
  exact y
set_option maxRecDepth 40000 in
theorem sp_114F (hH : mTx R I a b c N i) (ha : at' ≤ N) (h1 : ¬ kDg (I 81) N at') : zcl (d + 4) 114 [.ref 75] (mE I o q at' nm cs tp tv row, J, R, 111) = some (some (.int 0), (mE I o q at' nm cs tp tv row, J, R, 111)) :=
  sp_114n (d := d) (J := J) (nm := nm) (mTx_Q (o := o) (q := q) (cs := cs) (tp := tp) (tv := tv) (row := row) hH) ha (by rw [mQ_T]; exact h1)
set_option maxRecDepth 40000 in
theorem sp_119 (hH : mTx R I a b c N i) (ho : o ≤ 500) (ha : at' ≤ N) (hl : cs.length + tp.length ≤ at') (hp : mP row tp) :
    ((kTe (I 81) N at' cs).1 = false → ∃ nm', zcl (d + 5) 119 [.ref 75] (mE I o q at' nm cs tp tv row, J, R, 111) = some (some (.int 0), (mE I o q (kTe (I 81) N at' cs).2.1 nm' cs tp tv row, J, R, 111))) ∧
    ((kTe (I 81) N at' cs).1 = true → ∃ nm', zcl (d + 5) 119 [.ref 75] (mE I o q at' nm cs tp tv row, J, R, 111) = some (some (.int 1), (mE I o q (kTe (I 81) N at' cs).2.1 nm' (kW tp (kTe (I 81) N at' cs).2.2).2 (kW tp (kTe (I 81) N at' cs).2.2).1 tv row, J, R, 111))) := by
  have hR := hH.1
  have h100 := hH.2.2.1
  have y1 := sp_109E (d := d + 3) (J := J) (o := o) (q := q) (nm := nm) (cs := cs) (tp := tp) (tv := tv) (row := row) hH ha
  have p3 : nI at' + 1 = nI (at' + 1) := q_add3 (n := 1)
  rcases kPl_b (kNx (I 81) N at') with h1 | ⟨⟨p, hp6, h1⟩, hn⟩
  · have e : kTe (I 81) N at' cs = (false, at', cs) := by unfold kTe; rw [h1, if_pos (by decide)]
    have y2 := sp_118 (d := d + 3) (x := kNx (I 81) N at') (w := (mE I o q at' nm cs tp tv row, J, R, 111))
    rw [h1] at y2
    rw [e]
    refine ⟨fun _ => ⟨nm, ?_⟩, fun z => nomatch z⟩
    refine zcl_of (Nat.le_of_ble_eq_true rfl) (zg_wp 60 _ ?_)
    simp only [zpr_119, zhd_119, zp119, zh119, zml_119, o_bad, o_push, o_iload, o_lload, o_aload, o_istore, o_astore, o_lstore, o_iinc, o_ii, o_dv, o_i, o_ll, o_lshl, o_lcmp, o_i2l, o_l2i, o_dup, o_dup2, o_pop, o_goto, o_if, o_ic, o_sw, o_ireturn, o_nreturn, o_lreturn, o_return, o_min, o_max, o_geti, o_getr, o_puti, o_putz, o_putr, o_gets, o_iald, o_lald, o_aald, o_iast, o_last, o_aast, o_alen, o_new, o_newa, o_multi, o_call, o_scall, o_chk, o_oinit, o_copyi, o_copyl, z_eq, z_ne, z_lt, z_ge, z_gt, z_le, z_ceq, z_cne, z_clt, z_cge, z_cgt, z_cle, z_rz, z_rb, z_rc, q_nz, zg_0, zg_s, zgk_s, zgh_n, zgh_s, zq_n, zq_br, zq_gd, zq_cl2, zqc_s, zq_rt, zq_sw, zq_st, zsws, zent, zpad, zla, zlg, zpop, zrv, zc1, zmk, zob_w, zaw_w, zar_w, zln_w, zld_w, zin_w, zcpg_w, znr_w, List.getElem?_cons_zero, List.getElem?_cons_succ, List.set_cons_zero, List.set_cons_succ, List.length_cons, List.length_nil, Nat.reduceLT, Nat.reduceLeDiff, Nat.reduceAdd, Nat.reduceSub, Nat.reduceMul, Nat.reduceEqDiff, Nat.reduceBEq, ↓reduceIte, q_10, q_01, q_00, q_m1, q_m2, q_m3, q_m4, q_m5, q_n1, q_n2, decide_eq_true_eq, decide_eq_false_iff_not, Bool.and_eq_true, Bool.true_and, Bool.and_true, Bool.decide_and, decide_true, decide_false, Bool.true_eq_false, Bool.false_eq_true, Option.toList_some, Option.toList_none, List.cons_append, List.nil_append, true_and, and_true, and_self, not_true_eq_false, not_false_eq_true, forall_const, false_implies, implies_true, Nat.le_refl, ne_eq, Bool.not_eq_true, eq_self, zshA, zb_rz, zb_ne, zb_eq, qem, true_implies, Nat.zero_le, false_and, and_false, Bool.or_eq_true, or_true, true_or, false_or, or_false, y1, y2, q_ge1]
  · have hl1 : at' < N := by
      unfold kNx at hn
      by_cases c : at' < N
      · exact c
      · rw [if_neg c] at hn
        exact absurd rfl hn
    have g1 : ¬ nI p < (0 : Int32) := q_tnl (n := 0) (by omega) (by omega)
    have g2 : (0 : Int32) ≤ nI p := q_tle (m := 0) (by omega) (by omega)
    have y2 := sp_118 (d := d + 3) (x := kNx (I 81) N at') (w := (mE I o q at' nm cs tp tv row, J, R, 111))
    rw [h1] at y2
    have y3 := sp_109E (d := d + 3) (J := J) (o := o) (q := q) (nm := nm) (cs := cs) (tp := tp) (tv := tv) (row := row) hH (show at' + 1 ≤ N by omega)
    have y4 := sp_102 (d := d + 3) (k := 75) (a := kNx (I 81) N (at' + 1)) (b := 60) (c := 62) (w := (mE I o q (at' + 1) nm cs tp tv row, J, R, 111))
    by_cases h2 : 60 ≤ kNx (I 81) N (at' + 1) ∧ kNx (I 81) N (at' + 1) ≤ 62
    · have hl2 : at' + 1 < N := by
        have z := h2.1
        unfold kNx at z
        by_cases c : at' + 1 < N
        · exact c
        · rw [if_neg c] at z
          exact absurd z (by decide)
      rw [zb_pos h2] at y4
      have p4 : nI (at' + 1) + 1 = nI (at' + 2) := q_add3 (n := 1)
      by_cases h3 : kDg (I 81) N (at' + 2)
      · obtain ⟨m, hm, em, -⟩ : ∃ m, m < 100 ∧ (kNu (I 81) N (at' + 2)).1 = nI m ∧ True := by
          rcases kNu_b (T := I 81) (N := N) (at' + 2) with ⟨_, z⟩ | ⟨m, hm, e, _⟩
          · exact absurd h3 z
          · exact ⟨m, hm, e, trivial⟩
        have h4 : ¬ (kNu (I 81) N (at' + 2)).1 < 0 := by rw [em]; exact q_tnl (n := 0) (by omega) (by omega)
        have e : kTe (I 81) N at' cs = (true, (kNu (I 81) N (at' + 2)).2, cs ++ [(300 * nI p + 100 * (kNx (I 81) N (at' + 1) - 60) + (kNu (I 81) N (at' + 2)).1, 1000 * nI p + 100 * (kNx (I 81) N (at' + 1) - 60) + (kNu (I 81) N (at' + 2)).1)]) := by unfold kTe; rw [h1, if_neg g1, if_pos h2, if_neg h4]
        have y5 := sp_114E (d := d) (J := J) (o := o) (q := q) (nm := nm) (cs := cs) (tp := tp) (tv := tv) (row := row) hH (show at' + 2 ≤ N by omega) h3
        have y6 : zcl (d + 4) 115 [.ref 75, .int (1000 * nI p + 100 * (kNx (I 81) N (at' + 1) - 60) + (kNu (I 81) N (at' + 2)).1)] (mE I o q (kNu (I 81) N (at' + 2)).2 (kNu (I 81) N (at' + 2)).1 cs tp tv row, J, R, 111) = _ := sp_115 (d := d + 3) (J := J) (q := q) (tp := tp) (tv := tv) (row := row) hR (300 * nI p + 100 * (kNx (I 81) N (at' + 1) - 60) + (kNu (I 81) N (at' + 2)).1, 1000 * nI p + 100 * (kNx (I 81) N (at' + 1) - 60) + (kNu (I 81) N (at' + 2)).1) (by omega)
        have y7 := sp_116 (d := d + 2) (I := I) (J := J) (o := o) (q := q) (at' := (kNu (I 81) N (at' + 2)).2) (nm := (kNu (I 81) N (at' + 2)).1) (cs := cs ++ [(300 * nI p + 100 * (kNx (I 81) N (at' + 1) - 60) + (kNu (I 81) N (at' + 2)).1, 1000 * nI p + 100 * (kNx (I 81) N (at' + 1) - 60) + (kNu (I 81) N (at' + 2)).1)]) (tp := tp) (tv := tv) (row := row) hR ho (by rw [List.length_append]; show cs.length + 1 + _ ≤ _; omega) hp
        rw [e]
        refine ⟨(fun z => nomatch z), fun _ => ⟨(kNu (I 81) N (at' + 2)).1, ?_⟩⟩
        refine zcl_of (Nat.le_of_ble_eq_true rfl) (zg_wp 80 _ ?_)
        simp only [zpr_119, zhd_119, zp119, zh119, zml_119, o_bad, o_push, o_iload, o_lload, o_aload, o_istore, o_astore, o_lstore, o_iinc, o_ii, o_dv, o_i, o_ll, o_lshl, o_lcmp, o_i2l, o_l2i, o_dup, o_dup2, o_pop, o_goto, o_if, o_ic, o_sw, o_ireturn, o_nreturn, o_lreturn, o_return, o_min, o_max, o_geti, o_getr, o_puti, o_putz, o_putr, o_gets, o_iald, o_lald, o_aald, o_iast, o_last, o_aast, o_alen, o_new, o_newa, o_multi, o_call, o_scall, o_chk, o_oinit, o_copyi, o_copyl, z_eq, z_ne, z_lt, z_ge, z_gt, z_le, z_ceq, z_cne, z_clt, z_cge, z_cgt, z_cle, z_rz, z_rb, z_rc, q_nz, zg_0, zg_s, zgk_s, zgh_n, zgh_s, zq_n, zq_br, zq_gd, zq_cl2, zqc_s, zq_rt, zq_sw, zq_st, zsws, zent, zpad, zla, zlg, zpop, zrv, zc1, zmk, zob_w, zaw_w, zar_w, zln_w, zld_w, zin_w, zcpg_w, znr_w, List.getElem?_cons_zero, List.getElem?_cons_succ, List.set_cons_zero, List.set_cons_succ, List.length_cons, List.length_nil, Nat.reduceLT, Nat.reduceLeDiff, Nat.reduceAdd, Nat.reduceSub, Nat.reduceMul, Nat.reduceEqDiff, Nat.reduceBEq, ↓reduceIte, q_10, q_01, q_00, q_m1, q_m2, q_m3, q_m4, q_m5, q_n1, q_n2, decide_eq_true_eq, decide_eq_false_iff_not, Bool.and_eq_true, Bool.true_and, Bool.and_true, Bool.decide_and, decide_true, decide_false, Bool.true_eq_false, Bool.false_eq_true, Option.toList_some, Option.toList_none, List.cons_append, List.nil_append, true_and, and_true, and_self, not_true_eq_false, not_false_eq_true, forall_const, false_implies, implies_true, Nat.le_refl, ne_eq, Bool.not_eq_true, eq_self, zshA, zb_rz, zb_ne, zb_eq, qem, true_implies, Nat.zero_le, false_and, and_false, Bool.or_eq_true, or_true, true_or, false_or, or_false, y1, y2, y3, y4, y5, y6, y7, g2, mE_a, mE_n, p3, p4, mE_at]
      · have e0 : kNu (I 81) N (at' + 2) = (-1, at' + 2) := if_neg h3
        have e : kTe (I 81) N at' cs = (false, at' + 2, cs) := by unfold kTe; rw [h1, if_neg g1, if_pos h2, e0, if_pos (show (-1 : Int32) < 0 by decide)]
        have y5 := sp_114F (d := d) (J := J) (o := o) (q := q) (nm := nm) (cs := cs) (tp := tp) (tv := tv) (row := row) hH (show at' + 2 ≤ N by omega) h3
        rw [e]
        refine ⟨fun _ => ⟨nm, ?_⟩, fun z => nomatch z⟩
        refine zcl_of (Nat.le_of_ble_eq_true rfl) (zg_wp 80 _ ?_)
        simp only [zpr_119, zhd_119, zp119, zh119, zml_119, o_bad, o_push, o_iload, o_lload, o_aload, o_istore, o_astore, o_lstore, o_iinc, o_ii, o_dv, o_i, o_ll, o_lshl, o_lcmp, o_i2l, o_l2i, o_dup, o_dup2, o_pop, o_goto, o_if, o_ic, o_sw, o_ireturn, o_nreturn, o_lreturn, o_return, o_min, o_max, o_geti, o_getr, o_puti, o_putz, o_putr, o_gets, o_iald, o_lald, o_aald, o_iast, o_last, o_aast, o_alen, o_new, o_newa, o_multi, o_call, o_scall, o_chk, o_oinit, o_copyi, o_copyl, z_eq, z_ne, z_lt, z_ge, z_gt, z_le, z_ceq, z_cne, z_clt, z_cge, z_cgt, z_cle, z_rz, z_rb, z_rc, q_nz, zg_0, zg_s, zgk_s, zgh_n, zgh_s, zq_n, zq_br, zq_gd, zq_cl2, zqc_s, zq_rt, zq_sw, zq_st, zsws, zent, zpad, zla, zlg, zpop, zrv, zc1, zmk, zob_w, zaw_w, zar_w, zln_w, zld_w, zin_w, zcpg_w, znr_w, List.getElem?_cons_zero, List.getElem?_cons_succ, List.set_cons_zero, List.set_cons_succ, List.length_cons, List.length_nil, Nat.reduceLT, Nat.reduceLeDiff, Nat.reduceAdd, Nat.reduceSub, Nat.reduceMul, Nat.reduceEqDiff, Nat.reduceBEq, ↓reduceIte, q_10, q_01, q_00, q_m1, q_m2, q_m3, q_m4, q_m5, q_n1, q_n2, decide_eq_true_eq, decide_eq_false_iff_not, Bool.and_eq_true, Bool.true_and, Bool.and_true, Bool.decide_and, decide_true, decide_false, Bool.true_eq_false, Bool.false_eq_true, Option.toList_some, Option.toList_none, List.cons_append, List.nil_append, true_and, and_true, and_self, not_true_eq_false, not_false_eq_true, forall_const, false_implies, implies_true, Nat.le_refl, ne_eq, Bool.not_eq_true, eq_self, zshA, zb_rz, zb_ne, zb_eq, qem, true_implies, Nat.zero_le, false_and, and_false, Bool.or_eq_true, or_true, true_or, false_or, or_false, y1, y2, y3, y4, y5, g2, mE_a, mE_n, p3, p4, mE_at]
    · have e : kTe (I 81) N at' cs = (false, at' + 1, cs) := by unfold kTe; rw [h1, if_neg g1, if_neg h2]
      rw [zb_neg h2] at y4
      rw [e]
      refine ⟨fun _ => ⟨nm, ?_⟩, fun z => nomatch z⟩
      refine zcl_of (Nat.le_of_ble_eq_true rfl) (zg_wp 80 _ ?_)
      simp only [zpr_119, zhd_119, zp119, zh119, zml_119, o_bad, o_push, o_iload, o_lload, o_aload, o_istore, o_astore, o_lstore, o_iinc, o_ii, o_dv, o_i, o_ll, o_lshl, o_lcmp, o_i2l, o_l2i, o_dup, o_dup2, o_pop, o_goto, o_if, o_ic, o_sw, o_ireturn, o_nreturn, o_lreturn, o_return, o_min, o_max, o_geti, o_getr, o_puti, o_putz, o_putr, o_gets, o_iald, o_lald, o_aald, o_iast, o_last, o_aast, o_alen, o_new, o_newa, o_multi, o_call, o_scall, o_chk, o_oinit, o_copyi, o_copyl, z_eq, z_ne, z_lt, z_ge, z_gt, z_le, z_ceq, z_cne, z_clt, z_cge, z_cgt, z_cle, z_rz, z_rb, z_rc, q_nz, zg_0, zg_s, zgk_s, zgh_n, zgh_s, zq_n, zq_br, zq_gd, zq_cl2, zqc_s, zq_rt, zq_sw, zq_st, zsws, zent, zpad, zla, zlg, zpop, zrv, zc1, zmk, zob_w, zaw_w, zar_w, zln_w, zld_w, zin_w, zcpg_w, znr_w, List.getElem?_cons_zero, List.getElem?_cons_succ, List.set_cons_zero, List.set_cons_succ, List.length_cons, List.length_nil, Nat.reduceLT, Nat.reduceLeDiff, Nat.reduceAdd, Nat.reduceSub, Nat.reduceMul, Nat.reduceEqDiff, Nat.reduceBEq, ↓reduceIte, q_10, q_01, q_00, q_m1, q_m2, q_m3, q_m4, q_m5, q_n1, q_n2, decide_eq_true_eq, decide_eq_false_iff_not, Bool.and_eq_true, Bool.true_and, Bool.and_true, Bool.decide_and, decide_true, decide_false, Bool.true_eq_false, Bool.false_eq_true, Option.toList_some, Option.toList_none, List.cons_append, List.nil_append, true_and, and_true, and_self, not_true_eq_false, not_false_eq_true, forall_const, false_implies, implies_true, Nat.le_refl, ne_eq, Bool.not_eq_true, eq_self, zshA, zb_rz, zb_ne, zb_eq, qem, true_implies, Nat.zero_le, false_and, and_false, Bool.or_eq_true, or_true, true_or, false_or, or_false, y1, y2, y3, y4, g2, mE_a, p3, mE_at]
end KM
