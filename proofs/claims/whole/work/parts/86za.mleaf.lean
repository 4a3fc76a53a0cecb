/-! ===== the model's small readers ===== -/
section KM
variable {d : Nat} {I : zI} {J : zJ} {R : zR} {a b c N at' : Nat} {i : Option Nat}
/-- what the model's reading stands on -/
def mTx (R : zR) (I : zI) (a b c N : Nat) (i : Option Nat) : Prop := qRk R a b c i ∧ I 75 10 = nI N ∧ N ≤ 100 ∧ ∀ j, iR (I 81 j) 0 127
set_option maxRecDepth 40000 in
theorem sp_109 (hH : mTx R I a b c N i) (ha : I 75 11 = nI at') (hl : at' ≤ N) : zcl (d + 1) 109 [.ref 75] (I, J, R, 111) = some (some (.int (kNx (I 81) N at')), (I, J, R, 111)) := by
  obtain ⟨hR, hN, h100, hT⟩ := hH
  refine zcl_of (Nat.le_of_ble_eq_true rfl) (zg_wp 40 _ ?_)
  by_cases h : at' < N
  · have e1 : ¬ nI N ≤ nI at' := q_tnle h (by omega)
    obtain ⟨p1, p2, p3⟩ := q_row (m := at') (n := 100) (by omega) (by omega)
    rw [show kNx (I 81) N at' = I 81 at' from if_pos h]
    simp only [zpr_109, zhd_109, zp109, zh109, zml_109, o_bad, o_push, o_iload, o_lload, o_aload, o_istore, o_astore, o_lstore, o_iinc, o_ii, o_dv, o_i, o_ll, o_lshl, o_lcmp, o_i2l, o_l2i, o_dup, o_dup2, o_pop, o_goto, o_if, o_ic, o_sw, o_ireturn, o_nreturn, o_lreturn, o_return, o_min, o_max, o_geti, o_getr, o_puti, o_putz, o_putr, o_gets, o_iald, o_lald, o_aald, o_iast, o_last, o_aast, o_alen, o_new, o_newa, o_multi, o_call, o_scall, o_chk, o_oinit, o_copyi, o_copyl, z_eq, z_ne, z_lt, z_ge, z_gt, z_le, z_ceq, z_cne, z_clt, z_cge, z_cgt, z_cle, z_rz, z_rb, z_rc, q_nz, zg_0, zg_s, zgk_s, zgh_n, zgh_s, zq_n, zq_br, zq_gd, zq_cl2, zqc_s, zq_rt, zq_sw, zq_st, zsws, zent, zpad, zla, zlg, zpop, zrv, zc1, zmk, zob_w, zaw_w, zar_w, zln_w, zld_w, zin_w, zcpg_w, znr_w, List.getElem?_cons_zero, List.getElem?_cons_succ, List.set_cons_zero, List.set_cons_succ, List.length_cons, List.length_nil, Nat.reduceLT, Nat.reduceLeDiff, Nat.reduceAdd, Nat.reduceSub, Nat.reduceMul, Nat.reduceEqDiff, Nat.reduceBEq, ↓reduceIte, q_10, q_01, q_00, q_m1, q_m2, q_m3, q_m4, q_m5, q_n1, q_n2, decide_eq_true_eq, decide_eq_false_iff_not, Bool.and_eq_true, Bool.true_and, Bool.and_true, Bool.decide_and, decide_true, decide_false, Bool.true_eq_false, Bool.false_eq_true, Option.toList_some, Option.toList_none, List.cons_append, List.nil_append, true_and, and_true, and_self, not_true_eq_false, not_false_eq_true, forall_const, false_implies, implies_true, Nat.le_refl, ne_eq, Bool.not_eq_true, eq_self, zshA, zb_rz, zb_ne, zb_eq, qem, true_implies, Nat.zero_le, false_and, and_false, Bool.or_eq_true, or_true, true_or, false_or, or_false, zr_75_13 hR, hN, ha, e1, p1, p2]
  · have e1 : nI N ≤ nI at' := q_tle (by omega) (by omega)
    rw [show kNx (I 81) N at' = -1 from if_neg h]
    simp only [zpr_109, zhd_109, zp109, zh109, zml_109, o_bad, o_push, o_iload, o_lload, o_aload, o_istore, o_astore, o_lstore, o_iinc, o_ii, o_dv, o_i, o_ll, o_lshl, o_lcmp, o_i2l, o_l2i, o_dup, o_dup2, o_pop, o_goto, o_if, o_ic, o_sw, o_ireturn, o_nreturn, o_lreturn, o_return, o_min, o_max, o_geti, o_getr, o_puti, o_putz, o_putr, o_gets, o_iald, o_lald, o_aald, o_iast, o_last, o_aast, o_alen, o_new, o_newa, o_multi, o_call, o_scall, o_chk, o_oinit, o_copyi, o_copyl, z_eq, z_ne, z_lt, z_ge, z_gt, z_le, z_ceq, z_cne, z_clt, z_cge, z_cgt, z_cle, z_rz, z_rb, z_rc, q_nz, zg_0, zg_s, zgk_s, zgh_n, zgh_s, zq_n, zq_br, zq_gd, zq_cl2, zqc_s, zq_rt, zq_sw, zq_st, zsws, zent, zpad, zla, zlg, zpop, zrv, zc1, zmk, zob_w, zaw_w, zar_w, zln_w, zld_w, zin_w, zcpg_w, znr_w, List.getElem?_cons_zero, List.getElem?_cons_succ, List.set_cons_zero, List.set_cons_succ, List.length_cons, List.length_nil, Nat.reduceLT, Nat.reduceLeDiff, Nat.reduceAdd, Nat.reduceSub, Nat.reduceMul, Nat.reduceEqDiff, Nat.reduceBEq, ↓reduceIte, q_10, q_01, q_00, q_m1, q_m2, q_m3, q_m4, q_m5, q_n1, q_n2, decide_eq_true_eq, decide_eq_false_iff_not, Bool.and_eq_true, Bool.true_and, Bool.and_true, Bool.decide_and, decide_true, decide_false, Bool.true_eq_false, Bool.false_eq_true, Option.toList_some, Option.toList_none, List.cons_append, List.nil_append, true_and, and_true, and_self, not_true_eq_false, not_false_eq_true, forall_const, false_implies, implies_true, Nat.le_refl, ne_eq, Bool.not_eq_true, eq_self, zshA, zb_rz, zb_ne, zb_eq, qem, true_implies, Nat.zero_le, false_and, and_false, Bool.or_eq_true, or_true, true_or, false_or, or_false, hN, ha, e1]
set_option maxRecDepth 40000 in
theorem sp_110t (hH : mTx R I a b c N i) (ha : I 75 11 = nI at') (hl : at' ≤ N) {x : Int32} (h : kNx (I 81) N at' = x) : zcl (d + 2) 110 [.ref 75, .int x] (I, J, R, 111) = some (some (.int 1), (zup I 75 11 (nI (at' + 1)), J, R, 111)) := by
  have y1 := sp_109 (d := d) (J := J) hH ha hl
  have e : nI at' + 1 = nI (at' + 1) := q_add3 (n := 1)
  refine zcl_of (Nat.le_of_ble_eq_true rfl) (zg_wp 40 _ ?_)
  simp only [zpr_110, zhd_110, zp110, zh110, zml_110, o_bad, o_push, o_iload, o_lload, o_aload, o_istore, o_astore, o_lstore, o_iinc, o_ii, o_dv, o_i, o_ll, o_lshl, o_lcmp, o_i2l, o_l2i, o_dup, o_dup2, o_pop, o_goto, o_if, o_ic, o_sw, o_ireturn, o_nreturn, o_lreturn, o_return, o_min, o_max, o_geti, o_getr, o_puti, o_putz, o_putr, o_gets, o_iald, o_lald, o_aald, o_iast, o_last, o_aast, o_alen, o_new, o_newa, o_multi, o_call, o_scall, o_chk, o_oinit, o_copyi, o_copyl, z_eq, z_ne, z_lt, z_ge, z_gt, z_le, z_ceq, z_cne, z_clt, z_cge, z_cgt, z_cle, z_rz, z_rb, z_rc, q_nz, zg_0, zg_s, zgk_s, zgh_n, zgh_s, zq_n, zq_br, zq_gd, zq_cl2, zqc_s, zq_rt, zq_sw, zq_st, zsws, zent, zpad, zla, zlg, zpop, zrv, zc1, zmk, zob_w, zaw_w, zar_w, zln_w, zld_w, zin_w, zcpg_w, znr_w, List.getElem?_cons_zero, List.getElem?_cons_succ, List.set_cons_zero, List.set_cons_succ, List.length_cons, List.length_nil, Nat.reduceLT, Nat.reduceLeDiff, Nat.reduceAdd, Nat.reduceSub, Nat.reduceMul, Nat.reduceEqDiff, Nat.reduceBEq, ↓reduceIte, q_10, q_01, q_00, q_m1, q_m2, q_m3, q_m4, q_m5, q_n1, q_n2, decide_eq_true_eq, decide_eq_false_iff_not, Bool.and_eq_true, Bool.true_and, Bool.and_true, Bool.decide_and, decide_true, decide_false, Bool.true_eq_false, Bool.false_eq_true, Option.toList_some, Option.toList_none, List.cons_append, List.nil_append, true_and, and_true, and_self, not_true_eq_false, not_false_eq_true, forall_const, false_implies, implies_true, Nat.le_refl, ne_eq, Bool.not_eq_true, eq_self, zshA, zb_rz, zb_ne, zb_eq, qem, true_implies, Nat.zero_le, false_and, and_false, Bool.or_eq_true, or_true, true_or, false_or, or_false, y1, h, ha, e]
set_option maxRecDepth 40000 in
theorem sp_110f (hH : mTx R I a b c N i) (ha : I 75 11 = nI at') (hl : at' ≤ N) {x : Int32} (h : ¬ kNx (I 81) N at' = x) : zcl (d + 2) 110 [.ref 75, .int x] (I, J, R, 111) = some (some (.int 0), (I, J, R, 111)) := by
  have y1 := sp_109 (d := d) (J := J) hH ha hl
  refine zcl_of (Nat.le_of_ble_eq_true rfl) (zg_wp 40 _ ?_)
  simp only [zpr_110, zhd_110, zp110, zh110, zml_110, o_bad, o_push, o_iload, o_lload, o_aload, o_istore, o_astore, o_lstore, o_iinc, o_ii, o_dv, o_i, o_ll, o_lshl, o_lcmp, o_i2l, o_l2i, o_dup, o_dup2, o_pop, o_goto, o_if, o_ic, o_sw, o_ireturn, o_nreturn, o_lreturn, o_return, o_min, o_max, o_geti, o_getr, o_puti, o_putz, o_putr, o_gets, o_iald, o_lald, o_aald, o_iast, o_last, o_aast, o_alen, o_new, o_newa, o_multi, o_call, o_scall, o_chk, o_oinit, o_copyi, o_copyl, z_eq, z_ne, z_lt, z_ge, z_gt, z_le, z_ceq, z_cne, z_clt, z_cge, z_cgt, z_cle, z_rz, z_rb, z_rc, q_nz, zg_0, zg_s, zgk_s, zgh_n, zgh_s, zq_n, zq_br, zq_gd, zq_cl2, zqc_s, zq_rt, zq_sw, zq_st, zsws, zent, zpad, zla, zlg, zpop, zrv, zc1, zmk, zob_w, zaw_w, zar_w, zln_w, zld_w, zin_w, zcpg_w, znr_w, List.getElem?_cons_zero, List.getElem?_cons_succ, List.set_cons_zero, List.set_cons_succ, List.length_cons, List.length_nil, Nat.reduceLT, Nat.reduceLeDiff, Nat.reduceAdd, Nat.reduceSub, Nat.reduceMul, Nat.reduceEqDiff, Nat.reduceBEq, ↓reduceIte, q_10, q_01, q_00, q_m1, q_m2, q_m3, q_m4, q_m5, q_n1, q_n2, decide_eq_true_eq, decide_eq_false_iff_not, Bool.and_eq_true, Bool.true_and, Bool.and_true, Bool.decide_and, decide_true, decide_false, Bool.true_eq_false, Bool.false_eq_true, Option.toList_some, Option.toList_none, List.cons_append, List.nil_append, true_and, and_true, and_self, not_true_eq_false, not_false_eq_true, forall_const, false_implies, implies_true, Nat.le_refl, ne_eq, Bool.not_eq_true, eq_self, zshA, zb_rz, zb_ne, zb_eq, qem, true_implies, Nat.zero_le, false_and, and_false, Bool.or_eq_true, or_true, true_or, false_or, or_false, y1, h]
/-- fields 11 and 12 anew -/
def mN (I : zI) (at' : Nat) (nm : Int32) : zI := fun k => if k = 75 then (fun j => if j = 11 then nI at' else if j = 12 then nm else I 75 j) else I k
theorem mN_a {nm : Int32} : mN I at' nm 75 11 = nI at' := rfl
theorem mN_n {nm : Int32} : mN I at' nm 75 12 = nm := rfl
theorem mN_o {k : Nat} {nm : Int32} (h : k ≠ 75) : mN I at' nm k = I k := if_neg h
theorem mN_75 {nm : Int32} : mN I at' nm 75 = (fun j => if j = 11 then nI at' else if j = 12 then nm else I 75 j) := if_pos rfl
theorem mN_u1 {x : Nat} {nm : Int32} : zup (mN I at' nm) 75 11 (nI x) = mN I x nm := by
  funext k
  by_cases e : k = 75
  · subst e
    rw [zup_eq', mN_75, mN_75]
    funext j
    by_cases h : j = 11
    · simp [h]
    · simp [h]
  · rw [zup_ne' e, mN_o e, mN_o e]
theorem mN_u2 {nm x : Int32} : zup (mN I at' nm) 75 12 x = mN I at' x := by
  funext k
  by_cases e : k = 75
  · subst e
    rw [zup_eq', mN_75, mN_75]
    funext j
    by_cases h : j = 12
    · simp [h]
    · simp [h]
  · rw [zup_ne' e, mN_o e, mN_o e]
theorem mN_r (ha : I 75 11 = nI at') : mN I at' (I 75 12) = I := by
  funext k
  by_cases e : k = 75
  · subst e
    rw [mN_75]
    funext j
    by_cases h : j = 11
    · simp [h, ha]
    by_cases h2 : j = 12
    · simp [h2]
    simp [h, h2]
  · rw [mN_o e]
theorem mTx_N {nm : Int32} (hH : mTx R I a b c N i) : mTx R (mN I at' nm) a b c N i := ⟨hH.1, hH.2.1, hH.2.2.1, by rw [mN_o (by decide)]; exact hH.2.2.2⟩
set_option maxRecDepth 40000 in
/-- letters of the words -/
theorem sl_111 (hH : mTx R I a b c N i) {n p : Nat} (hp : p + n ≤ 25) {nm : Int32} : ∀ (w : List Int32) (j at' : Nat), j + w.length = n → at' ≤ N → (∀ z, z < w.length → I 89 (p + (j + z)) = w.getD z 0) → (∀ x ∈ w, ¬ (-1 = x)) → zWP (zcl (d + 2)) 111 (2, [some (.ref 75), some (.int (nI p)), some (.int (nI n)), some (.int (nI j))], [], (mN I at' nm, J, R, 111)) (fun r v => r = some (.int (kb (kWd (I 81) N w at').1)) ∧ v = (mN I (kWd (I 81) N w at').2 nm, J, R, 111))
  | [], j, at', hj, ha, _, _ => by
    have e1 : nI n ≤ nI j := q_tle (by have : j + 0 = n := hj; omega) (by have : j + 0 = n := hj; omega)
    refine zg_wp 30 _ ?_
    simp only [zpr_111, zhd_111, zp111, zh111, zml_111, o_bad, o_push, o_iload, o_lload, o_aload, o_istore, o_astore, o_lstore, o_iinc, o_ii, o_dv, o_i, o_ll, o_lshl, o_lcmp, o_i2l, o_l2i, o_dup, o_dup2, o_pop, o_goto, o_if, o_ic, o_sw, o_ireturn, o_nreturn, o_lreturn, o_return, o_min, o_max, o_geti, o_getr, o_puti, o_putz, o_putr, o_gets, o_iald, o_lald, o_aald, o_iast, o_last, o_aast, o_alen, o_new, o_newa, o_multi, o_call, o_scall, o_chk, o_oinit, o_copyi, o_copyl, z_eq, z_ne, z_lt, z_ge, z_gt, z_le, z_ceq, z_cne, z_clt, z_cge, z_cgt, z_cle, z_rz, z_rb, z_rc, q_nz, zg_0, zg_s, zgk_s, zgh_n, zgh_s, zq_n, zq_br, zq_gd, zq_cl2, zqc_s, zq_rt, zq_sw, zq_st, zsws, zent, zpad, zla, zlg, zpop, zrv, zc1, zmk, zob_w, zaw_w, zar_w, zln_w, zld_w, zin_w, zcpg_w, znr_w, List.getElem?_cons_zero, List.getElem?_cons_succ, List.set_cons_zero, List.set_cons_succ, List.length_cons, List.length_nil, Nat.reduceLT, Nat.reduceLeDiff, Nat.reduceAdd, Nat.reduceSub, Nat.reduceMul, Nat.reduceEqDiff, Nat.reduceBEq, ↓reduceIte, q_10, q_01, q_00, q_m1, q_m2, q_m3, q_m4, q_m5, q_n1, q_n2, decide_eq_true_eq, decide_eq_false_iff_not, Bool.and_eq_true, Bool.true_and, Bool.and_true, Bool.decide_and, decide_true, decide_false, Bool.true_eq_false, Bool.false_eq_true, Option.toList_some, Option.toList_none, List.cons_append, List.nil_append, true_and, and_true, and_self, not_true_eq_false, not_false_eq_true, forall_const, false_implies, implies_true, Nat.le_refl, ne_eq, Bool.not_eq_true, eq_self, zshA, zb_rz, zb_ne, zb_eq, qem, true_implies, Nat.zero_le, false_and, and_false, Bool.or_eq_true, or_true, true_or, false_or, or_false, e1, kWd, kb_t]
  | y :: t, j, at', hj, ha, hl, hw => by
    have hj2 : j + (t.length + 1) = n := hj
    have hR := hH.1
    have e1 : ¬ nI n ≤ nI j := q_tnle (by omega) (by omega)
    have p3 : nI j + 1 = nI (j + 1) := q_add3 (n := 1)
    have p4 : nI p + nI j = nI (p + j) := q_add3
    obtain ⟨r1, r2, -⟩ := q_row (m := p + j) (n := 25) (by omega) (by omega)
    have e2 : mN I at' nm 89 (p + j) = y := by
      rw [mN_o (by decide)]
      exact hl 0 (by show 0 < t.length + 1; omega)
    have hH' := mTx_N (at' := at') (nm := nm) hH
    have e81 : mN I at' nm 81 = I 81 := mN_o (by decide)
    refine zg_wp 30 _ ?_
    by_cases hx : kNx (I 81) N at' = y
    · have hb := kNx_lt hx (hw y List.mem_cons_self)
      have y3 := sp_110t (d := d) (J := J) hH' (mN_a (I := I) (at' := at') (nm := nm)) ha (x := y) (by rw [e81]; exact hx)
      simp only [zpr_111, zhd_111, zp111, zh111, zml_111, o_bad, o_push, o_iload, o_lload, o_aload, o_istore, o_astore, o_lstore, o_iinc, o_ii, o_dv, o_i, o_ll, o_lshl, o_lcmp, o_i2l, o_l2i, o_dup, o_dup2, o_pop, o_goto, o_if, o_ic, o_sw, o_ireturn, o_nreturn, o_lreturn, o_return, o_min, o_max, o_geti, o_getr, o_puti, o_putz, o_putr, o_gets, o_iald, o_lald, o_aald, o_iast, o_last, o_aast, o_alen, o_new, o_newa, o_multi, o_call, o_scall, o_chk, o_oinit, o_copyi, o_copyl, z_eq, z_ne, z_lt, z_ge, z_gt, z_le, z_ceq, z_cne, z_clt, z_cge, z_cgt, z_cle, z_rz, z_rb, z_rc, q_nz, zg_0, zg_s, zgk_s, zgh_n, zgh_s, zq_n, zq_br, zq_gd, zq_cl2, zqc_s, zq_rt, zq_sw, zq_st, zsws, zent, zpad, zla, zlg, zpop, zrv, zc1, zmk, zob_w, zaw_w, zar_w, zln_w, zld_w, zin_w, zcpg_w, znr_w, List.getElem?_cons_zero, List.getElem?_cons_succ, List.set_cons_zero, List.set_cons_succ, List.length_cons, List.length_nil, Nat.reduceLT, Nat.reduceLeDiff, Nat.reduceAdd, Nat.reduceSub, Nat.reduceMul, Nat.reduceEqDiff, Nat.reduceBEq, ↓reduceIte, q_10, q_01, q_00, q_m1, q_m2, q_m3, q_m4, q_m5, q_n1, q_n2, decide_eq_true_eq, decide_eq_false_iff_not, Bool.and_eq_true, Bool.true_and, Bool.and_true, Bool.decide_and, decide_true, decide_false, Bool.true_eq_false, Bool.false_eq_true, Option.toList_some, Option.toList_none, List.cons_append, List.nil_append, true_and, and_true, and_self, not_true_eq_false, not_false_eq_true, forall_const, false_implies, implies_true, Nat.le_refl, ne_eq, Bool.not_eq_true, eq_self, zshA, zb_rz, zb_ne, zb_eq, qem, true_implies, Nat.zero_le, false_and, and_false, Bool.or_eq_true, or_true, true_or, false_or, or_false, zr_75_24 hR, e1, p3, p4, r1, r2, e2, y3, mN_u1, kWd, hx]
      exact sl_111 hH hp t (j + 1) (at' + 1) (by omega) (by omega) (fun z hz => by
        rw [show p + (j + 1 + z) = p + (j + (z + 1)) from by omega]
        exact hl (z + 1) (by show z + 1 < t.length + 1; omega)) (fun x hx => hw x (List.mem_cons_of_mem _ hx))
    · have y3 := sp_110f (d := d) (J := J) hH' (mN_a (I := I) (at' := at') (nm := nm)) ha (x := y) (by rw [e81]; exact hx)
      simp only [zpr_111, zhd_111, zp111, zh111, zml_111, o_bad, o_push, o_iload, o_lload, o_aload, o_istore, o_astore, o_lstore, o_iinc, o_ii, o_dv, o_i, o_ll, o_lshl, o_lcmp, o_i2l, o_l2i, o_dup, o_dup2, o_pop, o_goto, o_if, o_ic, o_sw, o_ireturn, o_nreturn, o_lreturn, o_return, o_min, o_max, o_geti, o_getr, o_puti, o_putz, o_putr, o_gets, o_iald, o_lald, o_aald, o_iast, o_last, o_aast, o_alen, o_new, o_newa, o_multi, o_call, o_scall, o_chk, o_oinit, o_copyi, o_copyl, z_eq, z_ne, z_lt, z_ge, z_gt, z_le, z_ceq, z_cne, z_clt, z_cge, z_cgt, z_cle, z_rz, z_rb, z_rc, q_nz, zg_0, zg_s, zgk_s, zgh_n, zgh_s, zq_n, zq_br, zq_gd, zq_cl2, zqc_s, zq_rt, zq_sw, zq_st, zsws, zent, zpad, zla, zlg, zpop, zrv, zc1, zmk, zob_w, zaw_w, zar_w, zln_w, zld_w, zin_w, zcpg_w, znr_w, List.getElem?_cons_zero, List.getElem?_cons_succ, List.set_cons_zero, List.set_cons_succ, List.length_cons, List.length_nil, Nat.reduceLT, Nat.reduceLeDiff, Nat.reduceAdd, Nat.reduceSub, Nat.reduceMul, Nat.reduceEqDiff, Nat.reduceBEq, ↓reduceIte, q_10, q_01, q_00, q_m1, q_m2, q_m3, q_m4, q_m5, q_n1, q_n2, decide_eq_true_eq, decide_eq_false_iff_not, Bool.and_eq_true, Bool.true_and, Bool.and_true, Bool.decide_and, decide_true, decide_false, Bool.true_eq_false, Bool.false_eq_true, Option.toList_some, Option.toList_none, List.cons_append, List.nil_append, true_and, and_true, and_self, not_true_eq_false, not_false_eq_true, forall_const, false_implies, implies_true, Nat.le_refl, ne_eq, Bool.not_eq_true, eq_self, zshA, zb_rz, zb_ne, zb_eq, qem, true_implies, Nat.zero_le, false_and, and_false, Bool.or_eq_true, or_true, true_or, false_or, or_false, zr_75_24 hR, e1, p4, r1, r2, e2, y3, kWd, hx, kb_f]
set_option maxRecDepth 40000 in
theorem sp_111 (hH : mTx R I a b c N i) {n p : Nat} {w : List Int32} (hp : p + n ≤ 25) (hn : w.length = n) (ha : at' ≤ N) (hl : ∀ z, z < w.length → I 89 (p + z) = w.getD z 0) (hw : ∀ x ∈ w, ¬ (-1 = x)) {nm : Int32} : zcl (d + 3) 111 [.ref 75, .int (nI p), .int (nI n)] (mN I at' nm, J, R, 111) = some (some (.int (kb (kWd (I 81) N w at').1)), (mN I (kWd (I 81) N w at').2 nm, J, R, 111)) := by
  refine zcl_of (Nat.le_of_ble_eq_true rfl) (zg_wp 20 _ ?_)
  simp only [zpr_111, zhd_111, zp111, zh111, zml_111, o_bad, o_push, o_iload, o_lload, o_aload, o_istore, o_astore, o_lstore, o_iinc, o_ii, o_dv, o_i, o_ll, o_lshl, o_lcmp, o_i2l, o_l2i, o_dup, o_dup2, o_pop, o_goto, o_if, o_ic, o_sw, o_ireturn, o_nreturn, o_lreturn, o_return, o_min, o_max, o_geti, o_getr, o_puti, o_putz, o_putr, o_gets, o_iald, o_lald, o_aald, o_iast, o_last, o_aast, o_alen, o_new, o_newa, o_multi, o_call, o_scall, o_chk, o_oinit, o_copyi, o_copyl, z_eq, z_ne, z_lt, z_ge, z_gt, z_le, z_ceq, z_cne, z_clt, z_cge, z_cgt, z_cle, z_rz, z_rb, z_rc, q_nz, zg_0, zg_s, zgk_s, zgh_n, zgh_s, zq_n, zq_br, zq_gd, zq_cl2, zqc_s, zq_rt, zq_sw, zq_st, zsws, zent, zpad, zla, zlg, zpop, zrv, zc1, zmk, zob_w, zaw_w, zar_w, zln_w, zld_w, zin_w, zcpg_w, znr_w, List.getElem?_cons_zero, List.getElem?_cons_succ, List.set_cons_zero, List.set_cons_succ, List.length_cons, List.length_nil, Nat.reduceLT, Nat.reduceLeDiff, Nat.reduceAdd, Nat.reduceSub, Nat.reduceMul, Nat.reduceEqDiff, Nat.reduceBEq, ↓reduceIte, q_10, q_01, q_00, q_m1, q_m2, q_m3, q_m4, q_m5, q_n1, q_n2, decide_eq_true_eq, decide_eq_false_iff_not, Bool.and_eq_true, Bool.true_and, Bool.and_true, Bool.decide_and, decide_true, decide_false, Bool.true_eq_false, Bool.false_eq_true, Option.toList_some, Option.toList_none, List.cons_append, List.nil_append, true_and, and_true, and_self, not_true_eq_false, not_false_eq_true, forall_const, false_implies, implies_true, Nat.le_refl, ne_eq, Bool.not_eq_true, eq_self, zshA, zb_rz, zb_ne, zb_eq, qem, true_implies, Nat.zero_le, false_and, and_false, Bool.or_eq_true, or_true, true_or, false_or, or_false]
  exact sl_111 hH hp w 0 at' (by omega) ha (fun z hz => by rw [Nat.zero_add]; exact hl z hz) hw
theorem kWd_app {T : Nat → Int32} (x : Int32) : ∀ (w : List Int32) (at' : Nat), kWd T N (w ++ [x]) at' = if (kWd T N w at').1 = true then (if kNx T N (kWd T N w at').2 = x then (true, (kWd T N w at').2 + 1) else (false, (kWd T N w at').2)) else kWd T N w at'
  | [], at' => rfl
  | y :: w, at' => by
    have e1 : kWd T N (y :: w ++ [x]) at' = if kNx T N at' = y then kWd T N (w ++ [x]) (at' + 1) else (false, at') := rfl
    have e2 : kWd T N (y :: w) at' = if kNx T N at' = y then kWd T N w (at' + 1) else (false, at') := rfl
    rw [e1, e2]
    by_cases h : kNx T N at' = y
    · rw [if_pos h, if_pos h]
      exact kWd_app x w (at' + 1)
    · rw [if_neg h, if_neg h]
      rfl
set_option maxRecDepth 40000 in
theorem sp_112 (hH : mTx R I a b c N i) {n p : Nat} {w : List Int32} (hp : p + n ≤ 25) (hn : w.length = n) (ha : at' ≤ N) (hl : ∀ z, z < w.length → I 89 (p + z) = w.getD z 0) (hw : ∀ x ∈ w, ¬ (-1 = x)) {nm : Int32} : zcl (d + 4) 112 [.ref 75, .int (nI p), .int (nI n)] (mN I at' nm, J, R, 111) = some (some (.int (kb (kWd (I 81) N (w ++ [32]) at').1)), (mN I (kWd (I 81) N (w ++ [32]) at').2 nm, J, R, 111)) := by
  have y1 := sp_111 (d := d) (J := J) hH hp hn ha hl hw (nm := nm)
  obtain ⟨-, w2, -⟩ := kWd_b (T := I 81) w at' hw ha
  have e := kWd_app (N := N) (T := I 81) 32 w at'
  refine zcl_of (Nat.le_of_ble_eq_true rfl) (zg_wp 20 _ ?_)
  generalize kWd (I 81) N w at' = W at *
  obtain ⟨W1, W2⟩ := W
  dsimp only at y1 w2 e
  cases W1
  · rw [if_neg (by decide)] at e
    rw [e]
    simp only [zpr_112, zhd_112, zp112, zh112, zml_112, o_bad, o_push, o_iload, o_lload, o_aload, o_istore, o_astore, o_lstore, o_iinc, o_ii, o_dv, o_i, o_ll, o_lshl, o_lcmp, o_i2l, o_l2i, o_dup, o_dup2, o_pop, o_goto, o_if, o_ic, o_sw, o_ireturn, o_nreturn, o_lreturn, o_return, o_min, o_max, o_geti, o_getr, o_puti, o_putz, o_putr, o_gets, o_iald, o_lald, o_aald, o_iast, o_last, o_aast, o_alen, o_new, o_newa, o_multi, o_call, o_scall, o_chk, o_oinit, o_copyi, o_copyl, z_eq, z_ne, z_lt, z_ge, z_gt, z_le, z_ceq, z_cne, z_clt, z_cge, z_cgt, z_cle, z_rz, z_rb, z_rc, q_nz, zg_0, zg_s, zgk_s, zgh_n, zgh_s, zq_n, zq_br, zq_gd, zq_cl2, zqc_s, zq_rt, zq_sw, zq_st, zsws, zent, zpad, zla, zlg, zpop, zrv, zc1, zmk, zob_w, zaw_w, zar_w, zln_w, zld_w, zin_w, zcpg_w, znr_w, List.getElem?_cons_zero, List.getElem?_cons_succ, List.set_cons_zero, List.set_cons_succ, List.length_cons, List.length_nil, Nat.reduceLT, Nat.reduceLeDiff, Nat.reduceAdd, Nat.reduceSub, Nat.reduceMul, Nat.reduceEqDiff, Nat.reduceBEq, ↓reduceIte, q_10, q_01, q_00, q_m1, q_m2, q_m3, q_m4, q_m5, q_n1, q_n2, decide_eq_true_eq, decide_eq_false_iff_not, Bool.and_eq_true, Bool.true_and, Bool.and_true, Bool.decide_and, decide_true, decide_false, Bool.true_eq_false, Bool.false_eq_true, Option.toList_some, Option.toList_none, List.cons_append, List.nil_append, true_and, and_true, and_self, not_true_eq_false, not_false_eq_true, forall_const, false_implies, implies_true, Nat.le_refl, ne_eq, Bool.not_eq_true, eq_self, zshA, zb_rz, zb_ne, zb_eq, qem, true_implies, Nat.zero_le, false_and, and_false, Bool.or_eq_true, or_true, true_or, false_or, or_false, y1, kb_f]
  · rw [if_pos rfl] at e
    have hH' := mTx_N (at' := W2) (nm := nm) hH
    have e81 : mN I W2 nm 81 = I 81 := mN_o (by decide)
    by_cases h : kNx (I 81) N W2 = 32
    · rw [if_pos h] at e
      have y3 := sp_110t (d := d + 1) (J := J) hH' (mN_a (I := I) (at' := W2) (nm := nm)) w2 (x := 32) (by rw [e81]; exact h)
      rw [e]
      simp only [zpr_112, zhd_112, zp112, zh112, zml_112, o_bad, o_push, o_iload, o_lload, o_aload, o_istore, o_astore, o_lstore, o_iinc, o_ii, o_dv, o_i, o_ll, o_lshl, o_lcmp, o_i2l, o_l2i, o_dup, o_dup2, o_pop, o_goto, o_if, o_ic, o_sw, o_ireturn, o_nreturn, o_lreturn, o_return, o_min, o_max, o_geti, o_getr, o_puti, o_putz, o_putr, o_gets, o_iald, o_lald, o_aald, o_iast, o_last, o_aast, o_alen, o_new, o_newa, o_multi, o_call, o_scall, o_chk, o_oinit, o_copyi, o_copyl, z_eq, z_ne, z_lt, z_ge, z_gt, z_le, z_ceq, z_cne, z_clt, z_cge, z_cgt, z_cle, z_rz, z_rb, z_rc, q_nz, zg_0, zg_s, zgk_s, zgh_n, zgh_s, zq_n, zq_br, zq_gd, zq_cl2, zqc_s, zq_rt, zq_sw, zq_st, zsws, zent, zpad, zla, zlg, zpop, zrv, zc1, zmk, zob_w, zaw_w, zar_w, zln_w, zld_w, zin_w, zcpg_w, znr_w, List.getElem?_cons_zero, List.getElem?_cons_succ, List.set_cons_zero, List.set_cons_succ, List.length_cons, List.length_nil, Nat.reduceLT, Nat.reduceLeDiff, Nat.reduceAdd, Nat.reduceSub, Nat.reduceMul, Nat.reduceEqDiff, Nat.reduceBEq, ↓reduceIte, q_10, q_01, q_00, q_m1, q_m2, q_m3, q_m4, q_m5, q_n1, q_n2, decide_eq_true_eq, decide_eq_false_iff_not, Bool.and_eq_true, Bool.true_and, Bool.and_true, Bool.decide_and, decide_true, decide_false, Bool.true_eq_false, Bool.false_eq_true, Option.toList_some, Option.toList_none, List.cons_append, List.nil_append, true_and, and_true, and_self, not_true_eq_false, not_false_eq_true, forall_const, false_implies, implies_true, Nat.le_refl, ne_eq, Bool.not_eq_true, eq_self, zshA, zb_rz, zb_ne, zb_eq, qem, true_implies, Nat.zero_le, false_and, and_false, Bool.or_eq_true, or_true, true_or, false_or, or_false, y1, y3, mN_u1, kb_t]
    · rw [if_neg h] at e
      have y3 := sp_110f (d := d + 1) (J := J) hH' (mN_a (I := I) (at' := W2) (nm := nm)) w2 (x := 32) (by rw [e81]; exact h)
      rw [e]
      simp only [zpr_112, zhd_112, zp112, zh112, zml_112, o_bad, o_push, o_iload, o_lload, o_aload, o_istore, o_astore, o_lstore, o_iinc, o_ii, o_dv, o_i, o_ll, o_lshl, o_lcmp, o_i2l, o_l2i, o_dup, o_dup2, o_pop, o_goto, o_if, o_ic, o_sw, o_ireturn, o_nreturn, o_lreturn, o_return, o_min, o_max, o_geti, o_getr, o_puti, o_putz, o_putr, o_gets, o_iald, o_lald, o_aald, o_iast, o_last, o_aast, o_alen, o_new, o_newa, o_multi, o_call, o_scall, o_chk, o_oinit, o_copyi, o_copyl, z_eq, z_ne, z_lt, z_ge, z_gt, z_le, z_ceq, z_cne, z_clt, z_cge, z_cgt, z_cle, z_rz, z_rb, z_rc, q_nz, zg_0, zg_s, zgk_s, zgh_n, zgh_s, zq_n, zq_br, zq_gd, zq_cl2, zqc_s, zq_rt, zq_sw, zq_st, zsws, zent, zpad, zla, zlg, zpop, zrv, zc1, zmk, zob_w, zaw_w, zar_w, zln_w, zld_w, zin_w, zcpg_w, znr_w, List.getElem?_cons_zero, List.getElem?_cons_succ, List.set_cons_zero, List.set_cons_succ, List.length_cons, List.length_nil, Nat.reduceLT, Nat.reduceLeDiff, Nat.reduceAdd, Nat.reduceSub, Nat.reduceMul, Nat.reduceEqDiff, Nat.reduceBEq, ↓reduceIte, q_10, q_01, q_00, q_m1, q_m2, q_m3, q_m4, q_m5, q_n1, q_n2, decide_eq_true_eq, decide_eq_false_iff_not, Bool.and_eq_true, Bool.true_and, Bool.and_true, Bool.decide_and, decide_true, decide_false, Bool.true_eq_false, Bool.false_eq_true, Option.toList_some, Option.toList_none, List.cons_append, List.nil_append, true_and, and_true, and_self, not_true_eq_false, not_false_eq_true, forall_const, false_implies, implies_true, Nat.le_refl, ne_eq, Bool.not_eq_true, eq_self, zshA, zb_rz, zb_ne, zb_eq, qem, true_implies, Nat.zero_le, false_and, and_false, Bool.or_eq_true, or_true, true_or, false_or, or_false, y1, y3, kb_t, kb_f]
set_option maxRecDepth 40000 in
theorem sp_113 (hH : mTx R I a b c N i) (ha : I 75 11 = nI at') (hl : at' ≤ N) : zcl (d + 2) 113 [.ref 75] (I, J, R, 111) = some (some (.int (zb (kDg (I 81) N at'))), (I, J, R, 111)) := by
  have y1 := sp_109 (d := d) (J := J) hH ha hl
  have y2 := sp_102 (d := d) (k := 75) (a := kNx (I 81) N at') (b := 48) (c := 57) (w := (I, J, R, 111))
  refine zcl_of (Nat.le_of_ble_eq_true rfl) (zg_wp 20 _ ?_)
  simp only [zpr_113, zhd_113, zp113, zh113, zml_113, o_bad, o_push, o_iload, o_lload, o_aload, o_istore, o_astore, o_lstore, o_iinc, o_ii, o_dv, o_i, o_ll, o_lshl, o_lcmp, o_i2l, o_l2i, o_dup, o_dup2, o_pop, o_goto, o_if, o_ic, o_sw, o_ireturn, o_nreturn, o_lreturn, o_return, o_min, o_max, o_geti, o_getr, o_puti, o_putz, o_putr, o_gets, o_iald, o_lald, o_aald, o_iast, o_last, o_aast, o_alen, o_new, o_newa, o_multi, o_call, o_scall, o_chk, o_oinit, o_copyi, o_copyl, z_eq, z_ne, z_lt, z_ge, z_gt, z_le, z_ceq, z_cne, z_clt, z_cge, z_cgt, z_cle, z_rz, z_rb, z_rc, q_nz, zg_0, zg_s, zgk_s, zgh_n, zgh_s, zq_n, zq_br, zq_gd, zq_cl2, zqc_s, zq_rt, zq_sw, zq_st, zsws, zent, zpad, zla, zlg, zpop, zrv, zc1, zmk, zob_w, zaw_w, zar_w, zln_w, zld_w, zin_w, zcpg_w, znr_w, List.getElem?_cons_zero, List.getElem?_cons_succ, List.set_cons_zero, List.set_cons_succ, List.length_cons, List.length_nil, Nat.reduceLT, Nat.reduceLeDiff, Nat.reduceAdd, Nat.reduceSub, Nat.reduceMul, Nat.reduceEqDiff, Nat.reduceBEq, ↓reduceIte, q_10, q_01, q_00, q_m1, q_m2, q_m3, q_m4, q_m5, q_n1, q_n2, decide_eq_true_eq, decide_eq_false_iff_not, Bool.and_eq_true, Bool.true_and, Bool.and_true, Bool.decide_and, decide_true, decide_false, Bool.true_eq_false, Bool.false_eq_true, Option.toList_some, Option.toList_none, List.cons_append, List.nil_append, true_and, and_true, and_self, not_true_eq_false, not_false_eq_true, forall_const, false_implies, implies_true, Nat.le_refl, ne_eq, Bool.not_eq_true, eq_self, zshA, zb_rz, zb_ne, zb_eq, qem, true_implies, Nat.zero_le, false_and, and_false, Bool.or_eq_true, or_true, true_or, false_or, or_false, y1, y2]
end KM
