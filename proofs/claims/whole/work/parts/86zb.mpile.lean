/-! ===== the model's number, its pile ===== -/
section KM
variable {d : Nat} {I : zI} {J : zJ} {R : zR} {a b c N at' o q : Nat} {i : Option Nat} {nm tv : Int32} {cs : List kSy} {tp : List Int32} {row : Nat → Int32}
theorem q_dg0 {v : Nat} (hv : v < 10) : (10 : Int32) * 0 + nI (48 + v) - 48 = nI v := by
  have := q_dg2 (u := 0) (v := v) (by omega) hv
  rw [show 10 * 0 + v = v from by omega] at this
  exact this
set_option maxRecDepth 40000 in
theorem sl_114e (hH : mTx R I a b c N i) (ha : at' ≤ N) (hd : ¬ kDg (I 81) N at') {x : Int32} (hx : ¬ (2 : Int32) ≤ x) : zWP (zcl (d + 3)) 114 (16, [some (.ref 75), some (.int x)], [], (mN I at' nm, J, R, 111)) (fun r w => r = some (.int 1) ∧ w = (mN I at' nm, J, R, 111)) := by
  have hH' := mTx_N (at' := at') (nm := nm) hH
  have e81 : mN I at' nm 81 = I 81 := mN_o (by decide)
  have y1 := sp_113 (d := d + 1) (J := J) hH' (mN_a (I := I) (at' := at') (nm := nm)) ha
  rw [e81, zb_neg hd] at y1
  refine zg_wp 60 _ ?_
  simp only [zpr_114, zhd_114, zp114, zh114, zml_114, o_bad, o_push, o_iload, o_lload, o_aload, o_istore, o_astore, o_lstore, o_iinc, o_ii, o_dv, o_i, o_ll, o_lshl, o_lcmp, o_i2l, o_l2i, o_dup, o_dup2, o_pop, o_goto, o_if, o_ic, o_sw, o_ireturn, o_nreturn, o_lreturn, o_return, o_min, o_max, o_geti, o_getr, o_puti, o_putz, o_putr, o_gets, o_iald, o_lald, o_aald, o_iast, o_last, o_aast, o_alen, o_new, o_newa, o_multi, o_call, o_scall, o_chk, o_oinit, o_copyi, o_copyl, z_eq, z_ne, z_lt, z_ge, z_gt, z_le, z_ceq, z_cne, z_clt, z_cge, z_cgt, z_cle, z_rz, z_rb, z_rc, q_nz, zg_0, zg_s, zgk_s, zgh_n, zgh_s, zq_n, zq_br, zq_gd, zq_cl2, zqc_s, zq_rt, zq_sw, zq_st, zsws, zent, zpad, zla, zlg, zpop, zrv, zc1, zmk, zob_w, zaw_w, zar_w, zln_w, zld_w, zin_w, zcpg_w, znr_w, List.getElem?_cons_zero, List.getElem?_cons_succ, List.set_cons_zero, List.set_cons_succ, List.length_cons, List.length_nil, Nat.reduceLT, Nat.reduceLeDiff, Nat.reduceAdd, Nat.reduceSub, Nat.reduceMul, Nat.reduceEqDiff, Nat.reduceBEq, ↓reduceIte, q_10, q_01, q_00, q_m1, q_m2, q_m3, q_m4, q_m5, q_n1, q_n2, decide_eq_true_eq, decide_eq_false_iff_not, Bool.and_eq_true, Bool.true_and, Bool.and_true, Bool.decide_and, decide_true, decide_false, Bool.true_eq_false, Bool.false_eq_true, Option.toList_some, Option.toList_none, List.cons_append, List.nil_append, true_and, and_true, and_self, not_true_eq_false, not_false_eq_true, forall_const, false_implies, implies_true, Nat.le_refl, ne_eq, Bool.not_eq_true, eq_self, zshA, zb_rz, zb_ne, zb_eq, qem, true_implies, Nat.zero_le, false_and, and_false, Bool.or_eq_true, or_true, true_or, false_or, or_false, hx, y1]
set_option maxRecDepth 40000 in
theorem sp_114n (hH : mTx R I a b c N i) (ha : at' ≤ N) (hd : ¬ kDg (I 81) N at') : zcl (d + 4) 114 [.ref 75] (mN I at' nm, J, R, 111) = some (some (.int 0), (mN I at' nm, J, R, 111)) := by
  have hH' := mTx_N (at' := at') (nm := nm) hH
  have e81 : mN I at' nm 81 = I 81 := mN_o (by decide)
  have y1 := sp_113 (d := d + 1) (J := J) hH' (mN_a (I := I) (at' := at') (nm := nm)) ha
  rw [e81, zb_neg hd] at y1
  refine zcl_of (Nat.le_of_ble_eq_true rfl) (zg_wp 60 _ ?_)
  simp only [zpr_114, zhd_114, zp114, zh114, zml_114, o_bad, o_push, o_iload, o_lload, o_aload, o_istore, o_astore, o_lstore, o_iinc, o_ii, o_dv, o_i, o_ll, o_lshl, o_lcmp, o_i2l, o_l2i, o_dup, o_dup2, o_pop, o_goto, o_if, o_ic, o_sw, o_ireturn, o_nreturn, o_lreturn, o_return, o_min, o_max, o_geti, o_getr, o_puti, o_putz, o_putr, o_gets, o_iald, o_lald, o_aald, o_iast, o_last, o_aast, o_alen, o_new, o_newa, o_multi, o_call, o_scall, o_chk, o_oinit, o_copyi, o_copyl, z_eq, z_ne, z_lt, z_ge, z_gt, z_le, z_ceq, z_cne, z_clt, z_cge, z_cgt, z_cle, z_rz, z_rb, z_rc, q_nz, zg_0, zg_s, zgk_s, zgh_n, zgh_s, zq_n, zq_br, zq_gd, zq_cl2, zqc_s, zq_rt, zq_sw, zq_st, zsws, zent, zpad, zla, zlg, zpop, zrv, zc1, zmk, zob_w, zaw_w, zar_w, zln_w, zld_w, zin_w, zcpg_w, znr_w, List.getElem?_cons_zero, List.getElem?_cons_succ, List.set_cons_zero, List.set_cons_succ, List.length_cons, List.length_nil, Nat.reduceLT, Nat.reduceLeDiff, Nat.reduceAdd, Nat.reduceSub, Nat.reduceMul, Nat.reduceEqDiff, Nat.reduceBEq, ↓reduceIte, q_10, q_01, q_00, q_m1, q_m2, q_m3, q_m4, q_m5, q_n1, q_n2, decide_eq_true_eq, decide_eq_false_iff_not, Bool.and_eq_true, Bool.true_and, Bool.and_true, Bool.decide_and, decide_true, decide_false, Bool.true_eq_false, Bool.false_eq_true, Option.toList_some, Option.toList_none, List.cons_append, List.nil_append, true_and, and_true, and_self, not_true_eq_false, not_false_eq_true, forall_const, false_implies, implies_true, Nat.le_refl, ne_eq, Bool.not_eq_true, eq_self, zshA, zb_rz, zb_ne, zb_eq, qem, true_implies, Nat.zero_le, false_and, and_false, Bool.or_eq_true, or_true, true_or, false_or, or_false, y1]
set_option maxRecDepth 40000 in
theorem sp_114 (hH : mTx R I a b c N i) (ha : at' ≤ N) (h1 : kDg (I 81) N at') : zcl (d + 4) 114 [.ref 75] (mN I at' nm, J, R, 111) = some (some (.int 1), (mN I (kNu (I 81) N at').2 (kNu (I 81) N at').1, J, R, 111)) := by
  have hH0 := mTx_N (at' := at') (nm := nm) hH
  have e80 : mN I at' nm 81 = I 81 := mN_o (by decide)
  have y0 := sp_113 (d := d + 1) (J := J) hH0 (mN_a (I := I) (at' := at') (nm := nm)) ha
  rw [e80, zb_pos h1] at y0
  have hH' := mTx_N (at' := at') (nm := 0) hH
  have e81 : mN I at' 0 81 = I 81 := mN_o (by decide)
  have y1 := sp_113 (d := d + 1) (J := J) hH' (mN_a (I := I) (at' := at') (nm := 0)) ha
  have y2 := sp_109 (d := d + 2) (J := J) hH' (mN_a (I := I) (at' := at') (nm := 0)) ha
  rw [e81, zb_pos h1] at y1
  obtain ⟨u1, u2, u3⟩ := kDg_v h1
  rw [e81, u3] at y2
  have p3 : nI at' + 1 = nI (at' + 1) := q_add3 (n := 1)
  have w1 := q_dg0 u2
  refine zcl_of (Nat.le_of_ble_eq_true rfl) (zg_wp 60 _ ?_)
  simp only [zpr_114, zhd_114, zp114, zh114, zml_114, o_bad, o_push, o_iload, o_lload, o_aload, o_istore, o_astore, o_lstore, o_iinc, o_ii, o_dv, o_i, o_ll, o_lshl, o_lcmp, o_i2l, o_l2i, o_dup, o_dup2, o_pop, o_goto, o_if, o_ic, o_sw, o_ireturn, o_nreturn, o_lreturn, o_return, o_min, o_max, o_geti, o_getr, o_puti, o_putz, o_putr, o_gets, o_iald, o_lald, o_aald, o_iast, o_last, o_aast, o_alen, o_new, o_newa, o_multi, o_call, o_scall, o_chk, o_oinit, o_copyi, o_copyl, z_eq, z_ne, z_lt, z_ge, z_gt, z_le, z_ceq, z_cne, z_clt, z_cge, z_cgt, z_cle, z_rz, z_rb, z_rc, q_nz, zg_0, zg_s, zgk_s, zgh_n, zgh_s, zq_n, zq_br, zq_gd, zq_cl2, zqc_s, zq_rt, zq_sw, zq_st, zsws, zent, zpad, zla, zlg, zpop, zrv, zc1, zmk, zob_w, zaw_w, zar_w, zln_w, zld_w, zin_w, zcpg_w, znr_w, List.getElem?_cons_zero, List.getElem?_cons_succ, List.set_cons_zero, List.set_cons_succ, List.length_cons, List.length_nil, Nat.reduceLT, Nat.reduceLeDiff, Nat.reduceAdd, Nat.reduceSub, Nat.reduceMul, Nat.reduceEqDiff, Nat.reduceBEq, ↓reduceIte, q_10, q_01, q_00, q_m1, q_m2, q_m3, q_m4, q_m5, q_n1, q_n2, decide_eq_true_eq, decide_eq_false_iff_not, Bool.and_eq_true, Bool.true_and, Bool.and_true, Bool.decide_and, decide_true, decide_false, Bool.true_eq_false, Bool.false_eq_true, Option.toList_some, Option.toList_none, List.cons_append, List.nil_append, true_and, and_true, and_self, not_true_eq_false, not_false_eq_true, forall_const, false_implies, implies_true, Nat.le_refl, ne_eq, Bool.not_eq_true, eq_self, zshA, zb_rz, zb_ne, zb_eq, qem, true_implies, Nat.zero_le, false_and, and_false, Bool.or_eq_true, or_true, true_or, false_or, or_false, y0, mN_u2]
  refine zg_wp 60 _ ?_
  simp only [zpr_114, zhd_114, zp114, zh114, zml_114, o_bad, o_push, o_iload, o_lload, o_aload, o_istore, o_astore, o_lstore, o_iinc, o_ii, o_dv, o_i, o_ll, o_lshl, o_lcmp, o_i2l, o_l2i, o_dup, o_dup2, o_pop, o_goto, o_if, o_ic, o_sw, o_ireturn, o_nreturn, o_lreturn, o_return, o_min, o_max, o_geti, o_getr, o_puti, o_putz, o_putr, o_gets, o_iald, o_lald, o_aald, o_iast, o_last, o_aast, o_alen, o_new, o_newa, o_multi, o_call, o_scall, o_chk, o_oinit, o_copyi, o_copyl, z_eq, z_ne, z_lt, z_ge, z_gt, z_le, z_ceq, z_cne, z_clt, z_cge, z_cgt, z_cle, z_rz, z_rb, z_rc, q_nz, zg_0, zg_s, zgk_s, zgh_n, zgh_s, zq_n, zq_br, zq_gd, zq_cl2, zqc_s, zq_rt, zq_sw, zq_st, zsws, zent, zpad, zla, zlg, zpop, zrv, zc1, zmk, zob_w, zaw_w, zar_w, zln_w, zld_w, zin_w, zcpg_w, znr_w, List.getElem?_cons_zero, List.getElem?_cons_succ, List.set_cons_zero, List.set_cons_succ, List.length_cons, List.length_nil, Nat.reduceLT, Nat.reduceLeDiff, Nat.reduceAdd, Nat.reduceSub, Nat.reduceMul, Nat.reduceEqDiff, Nat.reduceBEq, ↓reduceIte, q_10, q_01, q_00, q_m1, q_m2, q_m3, q_m4, q_m5, q_n1, q_n2, decide_eq_true_eq, decide_eq_false_iff_not, Bool.and_eq_true, Bool.true_and, Bool.and_true, Bool.decide_and, decide_true, decide_false, Bool.true_eq_false, Bool.false_eq_true, Option.toList_some, Option.toList_none, List.cons_append, List.nil_append, true_and, and_true, and_self, not_true_eq_false, not_false_eq_true, forall_const, false_implies, implies_true, Nat.le_refl, ne_eq, Bool.not_eq_true, eq_self, zshA, zb_rz, zb_ne, zb_eq, qem, true_implies, Nat.zero_le, false_and, and_false, Bool.or_eq_true, or_true, true_or, false_or, or_false, q_num, y1, y2, mN_n, mN_a, p3, w1, mN_u1, mN_u2]
  by_cases h2 : kDg (I 81) N (at' + 1)
  · have hH2 := mTx_N (at' := at' + 1) (nm := nI (kVa (I 81) N at')) hH
    have e82 : mN I (at' + 1) (nI (kVa (I 81) N at')) 81 = I 81 := mN_o (by decide)
    have y3 := sp_113 (d := d + 1) (J := J) hH2 (mN_a (I := I) (at' := at' + 1) (nm := nI (kVa (I 81) N at'))) (by omega)
    have y4 := sp_109 (d := d + 2) (J := J) hH2 (mN_a (I := I) (at' := at' + 1) (nm := nI (kVa (I 81) N at'))) (by omega)
    rw [e82, zb_pos h2] at y3
    obtain ⟨v1, v2, v3⟩ := kDg_v h2
    rw [e82, v3] at y4
    have r3 : nI (at' + 1) + 1 = nI (at' + 1 + 1) := q_add3 (n := 1)
    have w2 := q_dg2 u2 v2
    rw [show kNu (I 81) N at' = (nI (10 * kVa (I 81) N at' + kVa (I 81) N (at' + 1)), at' + 2) from by unfold kNu; rw [if_pos h1, if_pos h2]]
    refine zg_wp 60 _ ?_
    simp only [zpr_114, zhd_114, zp114, zh114, zml_114, o_bad, o_push, o_iload, o_lload, o_aload, o_istore, o_astore, o_lstore, o_iinc, o_ii, o_dv, o_i, o_ll, o_lshl, o_lcmp, o_i2l, o_l2i, o_dup, o_dup2, o_pop, o_goto, o_if, o_ic, o_sw, o_ireturn, o_nreturn, o_lreturn, o_return, o_min, o_max, o_geti, o_getr, o_puti, o_putz, o_putr, o_gets, o_iald, o_lald, o_aald, o_iast, o_last, o_aast, o_alen, o_new, o_newa, o_multi, o_call, o_scall, o_chk, o_oinit, o_copyi, o_copyl, z_eq, z_ne, z_lt, z_ge, z_gt, z_le, z_ceq, z_cne, z_clt, z_cge, z_cgt, z_cle, z_rz, z_rb, z_rc, q_nz, zg_0, zg_s, zgk_s, zgh_n, zgh_s, zq_n, zq_br, zq_gd, zq_cl2, zqc_s, zq_rt, zq_sw, zq_st, zsws, zent, zpad, zla, zlg, zpop, zrv, zc1, zmk, zob_w, zaw_w, zar_w, zln_w, zld_w, zin_w, zcpg_w, znr_w, List.getElem?_cons_zero, List.getElem?_cons_succ, List.set_cons_zero, List.set_cons_succ, List.length_cons, List.length_nil, Nat.reduceLT, Nat.reduceLeDiff, Nat.reduceAdd, Nat.reduceSub, Nat.reduceMul, Nat.reduceEqDiff, Nat.reduceBEq, ↓reduceIte, q_10, q_01, q_00, q_m1, q_m2, q_m3, q_m4, q_m5, q_n1, q_n2, decide_eq_true_eq, decide_eq_false_iff_not, Bool.and_eq_true, Bool.true_and, Bool.and_true, Bool.decide_and, decide_true, decide_false, Bool.true_eq_false, Bool.false_eq_true, Option.toList_some, Option.toList_none, List.cons_append, List.nil_append, true_and, and_true, and_self, not_true_eq_false, not_false_eq_true, forall_const, false_implies, implies_true, Nat.le_refl, ne_eq, Bool.not_eq_true, eq_self, zshA, zb_rz, zb_ne, zb_eq, qem, true_implies, Nat.zero_le, false_and, and_false, Bool.or_eq_true, or_true, true_or, false_or, or_false, q_num, y3, y4, mN_n, mN_a, r3, w2, mN_u1, mN_u2]
    refine zg_wp 60 _ ?_
    simp only [zpr_114, zhd_114, zp114, zh114, zml_114, o_bad, o_push, o_iload, o_lload, o_aload, o_istore, o_astore, o_lstore, o_iinc, o_ii, o_dv, o_i, o_ll, o_lshl, o_lcmp, o_i2l, o_l2i, o_dup, o_dup2, o_pop, o_goto, o_if, o_ic, o_sw, o_ireturn, o_nreturn, o_lreturn, o_return, o_min, o_max, o_geti, o_getr, o_puti, o_putz, o_putr, o_gets, o_iald, o_lald, o_aald, o_iast, o_last, o_aast, o_alen, o_new, o_newa, o_multi, o_call, o_scall, o_chk, o_oinit, o_copyi, o_copyl, z_eq, z_ne, z_lt, z_ge, z_gt, z_le, z_ceq, z_cne, z_clt, z_cge, z_cgt, z_cle, z_rz, z_rb, z_rc, q_nz, zg_0, zg_s, zgk_s, zgh_n, zgh_s, zq_n, zq_br, zq_gd, zq_cl2, zqc_s, zq_rt, zq_sw, zq_st, zsws, zent, zpad, zla, zlg, zpop, zrv, zc1, zmk, zob_w, zaw_w, zar_w, zln_w, zld_w, zin_w, zcpg_w, znr_w, List.getElem?_cons_zero, List.getElem?_cons_succ, List.set_cons_zero, List.set_cons_succ, List.length_cons, List.length_nil, Nat.reduceLT, Nat.reduceLeDiff, Nat.reduceAdd, Nat.reduceSub, Nat.reduceMul, Nat.reduceEqDiff, Nat.reduceBEq, ↓reduceIte, q_10, q_01, q_00, q_m1, q_m2, q_m3, q_m4, q_m5, q_n1, q_n2, decide_eq_true_eq, decide_eq_false_iff_not, Bool.and_eq_true, Bool.true_and, Bool.and_true, Bool.decide_and, decide_true, decide_false, Bool.true_eq_false, Bool.false_eq_true, Option.toList_some, Option.toList_none, List.cons_append, List.nil_append, true_and, and_true, and_self, not_true_eq_false, not_false_eq_true, forall_const, false_implies, implies_true, Nat.le_refl, ne_eq, Bool.not_eq_true, eq_self, zshA, zb_rz, zb_ne, zb_eq, qem, true_implies, Nat.zero_le, false_and, and_false, Bool.or_eq_true, or_true, true_or, false_or, or_false, q_num]
  · rw [show kNu (I 81) N at' = (nI (kVa (I 81) N at'), at' + 1) from by unfold kNu; rw [if_pos h1, if_neg h2]]
    exact sl_114e hH (by omega) h2 (by decide)
/-- how many are open -/
def kOn : List Int32 → Nat
  | [] => 0
  | x :: t => if x = 33 ∨ x = 40 then kOn t + 1 else kOn t
/-- the pile, its top first, lies in a row -/
def mP (row : Nat → Int32) : List Int32 → Prop
  | [] => True
  | x :: t => row t.length = x ∧ mP row t
theorem mP_out {x : Int32} {n : Nat} : ∀ tp : List Int32, tp.length ≤ n → mP row tp → mP (fun j => if j = n then x else row j) tp
  | [], _, _ => trivial
  | y :: t, h, hp => by
    have h2 : t.length + 1 ≤ n := h
    exact ⟨(if_neg (show ¬ t.length = n by omega)).trans hp.1, mP_out t (by omega) hp.2⟩
theorem mP_push {x : Int32} (h : mP row tp) : mP (fun j => if j = tp.length then x else row j) (x :: tp) := ⟨if_pos rfl, mP_out tp (Nat.le_refl _) h⟩
/-- nots in front are over -/
def kW : List Int32 → List kSy → List Int32 × List kSy
  | [], cs => ([], cs)
  | x :: t, cs => if x = 33 then kW t (cs ++ [(-1, -33)]) else (x :: t, cs)
/-- what is stronger than x is over -/
def kSt' (x : Int32) : List Int32 → List kSy → List Int32 × List kSy
  | [], cs => ([], cs)
  | y :: t, cs => if y = 38 then kSt' x t (cs ++ [(-2, -38)]) else if y = 124 ∧ ¬ x = 38 then kSt' x t (cs ++ [(-3, -124)]) else (y :: t, cs)
def mQ (I : zI) (o q : Nat) (cs : List kSy) (tp : List Int32) (tv : Int32) (row : Nat → Int32) : zI := fun k => if k = 75 then (fun j => if j = 21 then nI (o + cs.length) else if j = 22 then nI tp.length else if j = 23 then nI (kOn tp) else I 75 j) else if k = 86 then (fun j => if j = q then tv else I 86 j) else if k = 87 then kRw (fun z => z.2) o (I 87) cs else if k = 88 then row else I k
/-- the model while it reads what an over or under is about -/
def mE (I : zI) (o q at' : Nat) (nm : Int32) (cs : List kSy) (tp : List Int32) (tv : Int32) (row : Nat → Int32) : zI := mN (mQ I o q cs tp tv row) at' nm
theorem mQ_o {k : Nat} (h : k ≠ 75) (h1 : k < 86 ∨ 88 < k) : mQ I o q cs tp tv row k = I k := by
  unfold mQ
  rw [if_neg h, if_neg (by omega), if_neg (by omega), if_neg (by omega)]
theorem mE_o {k : Nat} (h : k ≠ 75) (h1 : k < 86 ∨ 88 < k) : mE I o q at' nm cs tp tv row k = I k := by
  unfold mE
  rw [mN_o h, mQ_o h h1]
theorem mTx_Q (hH : mTx R I a b c N i) : mTx R (mQ I o q cs tp tv row) a b c N i := ⟨hH.1, hH.2.1, hH.2.2.1, by rw [mQ_o (by decide) (by decide)]; exact hH.2.2.2⟩
theorem mE_75 : mE I o q at' nm cs tp tv row 75 = (fun j => if j = 11 then nI at' else if j = 12 then nm else if j = 21 then nI (o + cs.length) else if j = 22 then nI tp.length else if j = 23 then nI (kOn tp) else I 75 j) := rfl
theorem mE_86 : mE I o q at' nm cs tp tv row 86 = (fun j => if j = q then tv else I 86 j) := rfl
theorem mE_87 : mE I o q at' nm cs tp tv row 87 = kRw (fun z => z.2) o (I 87) cs := rfl
theorem mE_88 : mE I o q at' nm cs tp tv row 88 = row := rfl
theorem mE_ext {F : zI} {x : Nat} {nm' : Int32} {cs' : List kSy} {tp' : List Int32} {tv' : Int32} {row' : Nat → Int32} (h1 : ∀ j, F 75 j = if j = 11 then nI x else if j = 12 then nm' else if j = 21 then nI (o + cs'.length) else if j = 22 then nI tp'.length else if j = 23 then nI (kOn tp') else I 75 j) (h2 : ∀ j, F 86 j = if j = q then tv' else I 86 j) (h3 : F 87 = kRw (fun z => z.2) o (I 87) cs') (h4 : F 88 = row') (h5 : ∀ k, k ≠ 75 → (k < 86 ∨ 88 < k) → F k = I k) : F = mE I o q x nm' cs' tp' tv' row' := by
  funext k
  by_cases e : k = 75
  · rw [e]
    exact funext h1
  by_cases e1 : k = 86
  · rw [e1]
    exact funext h2
  by_cases e2 : k = 87
  · rw [e2]
    exact h3
  by_cases e3 : k = 88
  · rw [e3]
    exact h4
  rw [h5 k e (by omega), mE_o e (by omega)]
/-- a code comes -/
theorem mE_e {s : kSy} : zup (zup (mE I o q at' nm cs tp tv row) 87 (o + cs.length) s.2) 75 21 (nI (o + cs.length + 1)) = mE I o q at' nm (cs ++ [s]) tp tv row := by
  refine mE_ext (fun j => ?_) (fun j => ?_) ?_ ?_ (fun k h h1 => ?_)
  · rw [zup_eq', zup_ne' (by decide), mE_75]
    by_cases e : j = 21
    · subst e
      simp [Nat.add_assoc]
    · simp [e]
  · rw [zup_ne' (by decide), zup_ne' (by decide), mE_86]
  · rw [zup_ne' (by decide), zup_eq', mE_87, ← kRw_up]
  · rw [zup_ne' (by decide), zup_ne' (by decide), mE_88]
  · rw [zup_ne' h, zup_ne' (by omega), mE_o h h1]
/-- one is taken off the pile -/
theorem mE_p1 {x : Int32} (hx : x = 33 ∨ x = 40) : zup (zup (mE I o q at' nm cs (x :: tp) tv row) 75 22 (nI tp.length)) 75 23 (nI (kOn tp)) = mE I o q at' nm cs tp tv row := by
  refine mE_ext (fun j => ?_) (fun j => ?_) ?_ ?_ (fun k h h1 => ?_)
  · rw [zup_eq', zup_eq', mE_75]
    by_cases e : j = 23
    · subst e
      simp
    by_cases e2 : j = 22
    · subst e2
      simp
    simp [e, e2]
  · rw [zup_ne' (by decide), zup_ne' (by decide), mE_86]
  · rw [zup_ne' (by decide), zup_ne' (by decide), mE_87]
  · rw [zup_ne' (by decide), zup_ne' (by decide), mE_88]
  · rw [zup_ne' h, zup_ne' h, mE_o h h1]
theorem mE_p2 {x : Int32} (hx : ¬ (x = 33 ∨ x = 40)) : zup (mE I o q at' nm cs (x :: tp) tv row) 75 22 (nI tp.length) = mE I o q at' nm cs tp tv row := by
  have hk : kOn (x :: tp) = kOn tp := if_neg hx
  refine mE_ext (fun j => ?_) (fun j => ?_) ?_ ?_ (fun k h h1 => ?_)
  · rw [zup_eq', mE_75, hk]
    by_cases e2 : j = 22
    · subst e2
      simp
    simp [e2]
  · rw [zup_ne' (by decide), mE_86]
  · rw [zup_ne' (by decide), mE_87]
  · rw [zup_ne' (by decide), mE_88]
  · rw [zup_ne' h, mE_o h h1]
/-- one is put on the pile -/
theorem mE_u1 {x : Int32} (hx : x = 33 ∨ x = 40) : zup (zup (zup (mE I o q at' nm cs tp tv row) 75 23 (nI (kOn tp + 1))) 88 tp.length x) 75 22 (nI (tp.length + 1)) = mE I o q at' nm cs (x :: tp) tv (fun j => if j = tp.length then x else row j) := by
  have hk : kOn (x :: tp) = kOn tp + 1 := if_pos hx
  refine mE_ext (fun j => ?_) (fun j => ?_) ?_ ?_ (fun k h h1 => ?_)
  · rw [zup_eq', zup_ne' (by decide), zup_eq', mE_75, hk]
    by_cases e : j = 23
    · subst e
      simp
    by_cases e2 : j = 22
    · subst e2
      simp
    simp [e, e2]
  · rw [zup_ne' (by decide), zup_ne' (by decide), zup_ne' (by decide), mE_86]
  · rw [zup_ne' (by decide), zup_ne' (by decide), zup_ne' (by decide), mE_87]
  · rw [zup_ne' (by decide), zup_eq', zup_ne' (by decide), mE_88]
  · rw [zup_ne' h, zup_ne' (by omega), zup_ne' h, mE_o h h1]
theorem mE_u2 {x : Int32} (hx : ¬ (x = 33 ∨ x = 40)) : zup (zup (mE I o q at' nm cs tp tv row) 88 tp.length x) 75 22 (nI (tp.length + 1)) = mE I o q at' nm cs (x :: tp) tv (fun j => if j = tp.length then x else row j) := by
  have hk : kOn (x :: tp) = kOn tp := if_neg hx
  refine mE_ext (fun j => ?_) (fun j => ?_) ?_ ?_ (fun k h h1 => ?_)
  · rw [zup_eq', zup_ne' (by decide), mE_75, hk]
    by_cases e2 : j = 22
    · subst e2
      simp
    simp [e2]
  · rw [zup_ne' (by decide), zup_ne' (by decide), mE_86]
  · rw [zup_ne' (by decide), zup_ne' (by decide), mE_87]
  · rw [zup_ne' (by decide), zup_eq', mE_88]
  · rw [zup_ne' h, zup_ne' (by omega), mE_o h h1]
theorem mE_to {v : Int32} : zup (mE I o q at' nm cs tp tv row) 86 q v = mE I o q at' nm cs tp v row := by
  refine mE_ext (fun j => ?_) (fun j => ?_) ?_ ?_ (fun k h h1 => ?_)
  · rw [zup_ne' (by decide), mE_75]
  · rw [zup_eq', mE_86]
    by_cases e : j = q
    · simp [e]
    · simp [e]
  · rw [zup_ne' (by decide), mE_87]
  · rw [zup_ne' (by decide), mE_88]
  · rw [zup_ne' (by omega), mE_o h h1]
theorem mE_at {x : Nat} : zup (mE I o q at' nm cs tp tv row) 75 11 (nI x) = mE I o q x nm cs tp tv row := mN_u1
end KM
