/-! ===== the class's tables: many snips, a day, a copy ===== -/
theorem q_nm5 {m : Nat} (h : m < 2147483648) : (nI m = -5) = False := eq_false (fun e => by
  have e2 := congrArg Int32.toInt e
  rw [nI_toInt h] at e2
  have e3 : (-5 : Int32).toInt = -5 := by decide
  omega)
theorem q_m5m : ((-5 : Int32) = -5) ↔ True := by decide
def z6 (f : Nat → Int32) : Prop := ∀ j, 6 ≤ j → f j = 0
theorem q_add0 (x : Int32) : x + 0 = x := Int32.add_zero x
theorem gWk_d {S : gS} {k : Nat} {D : gD} (h : gGap S D ≤ g_le S) : gWk S (k + 1) D = D := if_pos h
theorem gWk_s {S : gS} {k : Nat} {D : gD} (h : ¬ gGap S D ≤ g_le S) : gWk S (k + 1) D = gWk S k (gNx S D) := if_neg h
theorem gMr_d {S : gS} {k : Nat} {D : gD} (h : gGap S D ≤ g_le S) : gMr S (k + 1) D = 0 := if_pos h
theorem gMr_s {S : gS} {k : Nat} {D : gD} (h : ¬ gGap S D ≤ g_le S) : gMr S (k + 1) D = gTl S D + gMr S k (gNx S D) := if_neg h
theorem gCu_m {S : gS} {D : gD} {s : Nat} {x : Int32} : g_m (gCu S D s x) = g_m D + 1 := rfl
theorem gNx_m {S : gS} {D : gD} : g_m (gNx S D) = g_m D + 1 := rfl
theorem gCu_hi {S : gS} {D : gD} {s : Nat} {x : Int32} (hs : s < 6) (h : z6 (g_l D)) : z6 (g_l (gCu S D s x)) := fun j hj => by
  show (if j = s then _ else g_l D j) = 0
  rw [if_neg (by omega)]
  exact h j hj
theorem gWk_hi {S : gS} (hn : g_n S ≤ 6) (h0 : 0 ≤ g_le S) : ∀ (k : Nat) (D : gD), z6 (g_l D) → z6 (g_l (gWk S k D))
  | 0, _, h => h
  | k + 1, D, h => by
    by_cases hd : gGap S D ≤ g_le S
    · rw [gWk_d hd]
      exact h
    · rw [gWk_s hd]
      exact gWk_hi hn h0 k _ (gCu_hi (by have := gLo_lt h0 hd; omega) h)
theorem gDy_hi {S : gS} {D : gD} (hn : g_n S ≤ 6) (h : z6 (g_l D)) : z6 (g_l (gDy S D)) := fun j hj => by
  show (if j < g_n S then gDc S D j else g_l D j) = 0
  rw [if_neg (by omega)]
  exact h j hj
section QT
variable {d : Nat} {I : zI} {J : zJ} {R : zR} {a b c K : Nat} {i : Option Nat} {S : gS} {D : gD}
set_option maxRecDepth 40000 in
theorem sl_43_5 (hR : qRk R a b c i) (hK : zKt K) (hf : R 5 8 = some K) (hn : g_n S ≤ 6) (h0 : 0 ≤ g_le S) {n : Nat} (hN : n < 1000) {I0 : zI} (hV : kV K S I0) : ∀ (j s : Nat) (D : gD) (I : zI) (x : Int32), s + j = n → cV_5 S D I → gW_5 I0 I → g_m D + j < 1000000 → I 5 15 = x → zWP (zcl (d + 6)) 43 (2, [some (.ref 5), some (.int (nI n)), some (.int (nI s))], [], (I, J, R, 111)) (zEn (some (.int (gSp S (gWk S j D)))) J R (fun I' => cV_5 S (gWk S j D) I' ∧ gW_5 I0 I' ∧ I' 5 15 = x + gMr S j D)) := by
  intro j
  induction j with
  | zero =>
    intro s D I x hs V f hm hx
    have e1 : nI n ≤ nI s := q_tle (by omega) (by omega)
    refine zg_wp 20 _ ?_
    simp only [zpr_43, zhd_43, zp43, zh43, zml_43, o_bad, o_push, o_iload, o_lload, o_aload, o_istore, o_astore, o_lstore, o_iinc, o_ii, o_dv, o_i, o_ll, o_lshl, o_lcmp, o_i2l, o_l2i, o_dup, o_dup2, o_pop, o_goto, o_if, o_ic, o_sw, o_ireturn, o_nreturn, o_lreturn, o_return, o_min, o_max, o_geti, o_getr, o_puti, o_putz, o_putr, o_gets, o_iald, o_lald, o_aald, o_iast, o_last, o_aast, o_alen, o_new, o_newa, o_multi, o_call, o_scall, o_oinit, o_copyi, o_copyl, z_eq, z_ne, z_lt, z_ge, z_gt, z_le, z_ceq, z_cne, z_clt, z_cge, z_cgt, z_cle, z_rz, z_rb, z_rc, q_nz, zg_0, zg_s, zgk_s, zgh_n, zgh_s, zq_n, zq_br, zq_gd, zq_cl2, zqc_s, zq_rt, zq_sw, zq_st, zsws, zent, zpad, zla, zlg, zpop, zrv, zc1, zmk, zob_w, zaw_w, zar_w, zln_w, zld_w, zin_w, zcpg_w, znr_w, List.getElem?_cons_zero, List.getElem?_cons_succ, List.set_cons_zero, List.set_cons_succ, List.length_cons, List.length_nil, Nat.reduceLT, Nat.reduceLeDiff, Nat.reduceAdd, Nat.reduceSub, Nat.reduceMul, Nat.reduceEqDiff, Nat.reduceBEq, ↓reduceIte, q_10, q_01, q_00, q_m1, q_m2, q_m3, q_m4, q_m5, q_n1, q_n2, decide_eq_true_eq, decide_eq_false_iff_not, Bool.and_eq_true, Bool.true_and, Bool.and_true, Bool.decide_and, decide_true, decide_false, Bool.true_eq_false, Bool.false_eq_true, Option.toList_some, Option.toList_none, List.cons_append, List.nil_append, true_and, and_true, and_self, not_true_eq_false, not_false_eq_true, forall_const, false_implies, implies_true, Nat.le_refl, ne_eq, Bool.not_eq_true, eq_self, zshA, zb_rz, zb_ne, zb_eq, qem, true_implies, Nat.zero_le, false_and, and_false, Bool.or_eq_true, or_true, true_or, false_or, or_false, e1, sp_39_5 (d := d + 4) hR V hn]
    exact zEn_mk ⟨V, f, by show I 5 15 = x + 0; rw [q_add0]; exact hx⟩
  | succ j ih =>
    intro s D I x hs V f hm hx
    have e1 : ¬ nI n ≤ nI s := q_tnle (by omega) (by omega)
    have e2 := (q_row (m := s) (n := 1000) (by omega) (by omega)).2.2
    have kv := kV_w_5 hK hV f
    by_cases hd : gGap S D ≤ g_le S
    · obtain ⟨I1, e, f1⟩ := sp_42a_5 (d := d) (J := J) hR hK hf V kv hn hd
      have V1 := cV_f_5 V f1
      refine zg_wp 30 _ ?_
      simp only [zpr_43, zhd_43, zp43, zh43, zml_43, o_bad, o_push, o_iload, o_lload, o_aload, o_istore, o_astore, o_lstore, o_iinc, o_ii, o_dv, o_i, o_ll, o_lshl, o_lcmp, o_i2l, o_l2i, o_dup, o_dup2, o_pop, o_goto, o_if, o_ic, o_sw, o_ireturn, o_nreturn, o_lreturn, o_return, o_min, o_max, o_geti, o_getr, o_puti, o_putz, o_putr, o_gets, o_iald, o_lald, o_aald, o_iast, o_last, o_aast, o_alen, o_new, o_newa, o_multi, o_call, o_scall, o_oinit, o_copyi, o_copyl, z_eq, z_ne, z_lt, z_ge, z_gt, z_le, z_ceq, z_cne, z_clt, z_cge, z_cgt, z_cle, z_rz, z_rb, z_rc, q_nz, zg_0, zg_s, zgk_s, zgh_n, zgh_s, zq_n, zq_br, zq_gd, zq_cl2, zqc_s, zq_rt, zq_sw, zq_st, zsws, zent, zpad, zla, zlg, zpop, zrv, zc1, zmk, zob_w, zaw_w, zar_w, zln_w, zld_w, zin_w, zcpg_w, znr_w, List.getElem?_cons_zero, List.getElem?_cons_succ, List.set_cons_zero, List.set_cons_succ, List.length_cons, List.length_nil, Nat.reduceLT, Nat.reduceLeDiff, Nat.reduceAdd, Nat.reduceSub, Nat.reduceMul, Nat.reduceEqDiff, Nat.reduceBEq, ↓reduceIte, q_10, q_01, q_00, q_m1, q_m2, q_m3, q_m4, q_m5, q_n1, q_n2, decide_eq_true_eq, decide_eq_false_iff_not, Bool.and_eq_true, Bool.true_and, Bool.and_true, Bool.decide_and, decide_true, decide_false, Bool.true_eq_false, Bool.false_eq_true, Option.toList_some, Option.toList_none, List.cons_append, List.nil_append, true_and, and_true, and_self, not_true_eq_false, not_false_eq_true, forall_const, false_implies, implies_true, Nat.le_refl, ne_eq, Bool.not_eq_true, eq_self, zshA, zb_rz, zb_ne, zb_eq, qem, true_implies, Nat.zero_le, false_and, and_false, Bool.or_eq_true, or_true, true_or, false_or, or_false, e1, e, q_m5m, sp_39_5 (d := d + 4) hR V1 hn]
      rw [gWk_d hd]
      exact zEn_mk ⟨V1, gW_t_5 f (gF_W_5 f1), by rw [gMr_d hd, q_add0, f1.2 15 (by decide)]; exact hx⟩
    · obtain ⟨I1, e, V1, f1, g1, g2, g3⟩ := sp_42b_5 (d := d) (J := J) hR hK hf V kv hn (by omega) h0 hd
      have hl := gLo_lt h0 hd
      have n5 := q_nm5 (m := gLo S D) (by omega)
      have z := ih (s + 1) _ I1 _ (by omega) V1 (gW_t_5 f f1) (by rw [gNx_m]; omega) g3
      refine zg_wp 30 _ ?_
      simp only [zpr_43, zhd_43, zp43, zh43, zml_43, o_bad, o_push, o_iload, o_lload, o_aload, o_istore, o_astore, o_lstore, o_iinc, o_ii, o_dv, o_i, o_ll, o_lshl, o_lcmp, o_i2l, o_l2i, o_dup, o_dup2, o_pop, o_goto, o_if, o_ic, o_sw, o_ireturn, o_nreturn, o_lreturn, o_return, o_min, o_max, o_geti, o_getr, o_puti, o_putz, o_putr, o_gets, o_iald, o_lald, o_aald, o_iast, o_last, o_aast, o_alen, o_new, o_newa, o_multi, o_call, o_scall, o_oinit, o_copyi, o_copyl, z_eq, z_ne, z_lt, z_ge, z_gt, z_le, z_ceq, z_cne, z_clt, z_cge, z_cgt, z_cle, z_rz, z_rb, z_rc, q_nz, zg_0, zg_s, zgk_s, zgh_n, zgh_s, zq_n, zq_br, zq_gd, zq_cl2, zqc_s, zq_rt, zq_sw, zq_st, zsws, zent, zpad, zla, zlg, zpop, zrv, zc1, zmk, zob_w, zaw_w, zar_w, zln_w, zld_w, zin_w, zcpg_w, znr_w, List.getElem?_cons_zero, List.getElem?_cons_succ, List.set_cons_zero, List.set_cons_succ, List.length_cons, List.length_nil, Nat.reduceLT, Nat.reduceLeDiff, Nat.reduceAdd, Nat.reduceSub, Nat.reduceMul, Nat.reduceEqDiff, Nat.reduceBEq, ↓reduceIte, q_10, q_01, q_00, q_m1, q_m2, q_m3, q_m4, q_m5, q_n1, q_n2, decide_eq_true_eq, decide_eq_false_iff_not, Bool.and_eq_true, Bool.true_and, Bool.and_true, Bool.decide_and, decide_true, decide_false, Bool.true_eq_false, Bool.false_eq_true, Option.toList_some, Option.toList_none, List.cons_append, List.nil_append, true_and, and_true, and_self, not_true_eq_false, not_false_eq_true, forall_const, false_implies, implies_true, Nat.le_refl, ne_eq, Bool.not_eq_true, eq_self, zshA, zb_rz, zb_ne, zb_eq, qem, true_implies, Nat.zero_le, false_and, and_false, Bool.or_eq_true, or_true, true_or, false_or, or_false, e1, e, n5, e2]
      rw [gWk_s hd, gMr_s hd, ← Int32.add_assoc, ← hx]
      exact z
set_option maxRecDepth 40000 in
theorem sp_43_5 (hR : qRk R a b c i) (hK : zKt K) (hf : R 5 8 = some K) (V : cV_5 S D I) (hV : kV K S I) (hn : g_n S ≤ 6) (hm : g_m D < 500000) (h0 : 0 ≤ g_le S) {n : Nat} (hN : n < 1000) : ∃ I', zcl (d + 7) 43 [.ref 5, .int (nI n)] (I, J, R, 111) = some (some (.int (gSp S (gWk S n D))), (I', J, R, 111)) ∧ cV_5 S (gWk S n D) I' ∧ gW_5 I I' ∧ I' 5 15 = I 5 15 + gMr S n D := by
  refine zcl_en (Nat.le_of_ble_eq_true rfl) (zg_wp 30 _ ?_)
  simp only [zpr_43, zhd_43, zp43, zh43, zml_43, o_bad, o_push, o_iload, o_lload, o_aload, o_istore, o_astore, o_lstore, o_iinc, o_ii, o_dv, o_i, o_ll, o_lshl, o_lcmp, o_i2l, o_l2i, o_dup, o_dup2, o_pop, o_goto, o_if, o_ic, o_sw, o_ireturn, o_nreturn, o_lreturn, o_return, o_min, o_max, o_geti, o_getr, o_puti, o_putz, o_putr, o_gets, o_iald, o_lald, o_aald, o_iast, o_last, o_aast, o_alen, o_new, o_newa, o_multi, o_call, o_scall, o_oinit, o_copyi, o_copyl, z_eq, z_ne, z_lt, z_ge, z_gt, z_le, z_ceq, z_cne, z_clt, z_cge, z_cgt, z_cle, z_rz, z_rb, z_rc, q_nz, zg_0, zg_s, zgk_s, zgh_n, zgh_s, zq_n, zq_br, zq_gd, zq_cl2, zqc_s, zq_rt, zq_sw, zq_st, zsws, zent, zpad, zla, zlg, zpop, zrv, zc1, zmk, zob_w, zaw_w, zar_w, zln_w, zld_w, zin_w, zcpg_w, znr_w, List.getElem?_cons_zero, List.getElem?_cons_succ, List.set_cons_zero, List.set_cons_succ, List.length_cons, List.length_nil, Nat.reduceLT, Nat.reduceLeDiff, Nat.reduceAdd, Nat.reduceSub, Nat.reduceMul, Nat.reduceEqDiff, Nat.reduceBEq, ↓reduceIte, q_10, q_01, q_00, q_m1, q_m2, q_m3, q_m4, q_m5, q_n1, q_n2, decide_eq_true_eq, decide_eq_false_iff_not, Bool.and_eq_true, Bool.true_and, Bool.and_true, Bool.decide_and, decide_true, decide_false, Bool.true_eq_false, Bool.false_eq_true, Option.toList_some, Option.toList_none, List.cons_append, List.nil_append, true_and, and_true, and_self, not_true_eq_false, not_false_eq_true, forall_const, false_implies, implies_true, Nat.le_refl, ne_eq, Bool.not_eq_true, eq_self, zshA, zb_rz, zb_ne, zb_eq, qem, true_implies, Nat.zero_le, false_and, and_false, Bool.or_eq_true, or_true, true_or, false_or, or_false]
  exact sl_43_5 hR hK hf hn h0 hN hV n 0 D I _ (by omega) V (gW_r_5 I) (by omega) rfl
set_option maxRecDepth 40000 in
/-- a day -/
theorem sl_45_5 (hR : qRk R a b c i) (hn : g_n S ≤ 6) {I0 : zI} (V : cV_5 S D I0) : ∀ (j s : Nat) (I : zI), s + j = g_n S → (∀ k, k ≠ 8 → I k = I0 k) → I 8 = gDf S D s → zWP (zcl (d + 1)) 45 (2, [some (.ref 5), some (.int (nI s))], [], (I, J, R, 111)) (zEn none J R (fun I' => cV_5 S (gDy S D) I' ∧ gW_5 I0 I' ∧ I' 5 15 = I0 5 15 ∧ I' 9 = I0 9 ∧ (∀ k, k ≠ 5 → k ≠ 8 → I' k = I0 k))) := by
  obtain ⟨⟨v0, v1, v2, v3, v5⟩, v6, v7, v9, v10, v11⟩ := V
  intro j
  induction j with
  | zero =>
    intro s I hs f h3
    have e1 : nI (g_n S) ≤ nI s := q_tle (by omega) (by omega)
    have f0 := f 5 (by decide)
    refine zg_wp 30 _ ?_
    simp only [zpr_45, zhd_45, zp45, zh45, zml_45, o_bad, o_push, o_iload, o_lload, o_aload, o_istore, o_astore, o_lstore, o_iinc, o_ii, o_dv, o_i, o_ll, o_lshl, o_lcmp, o_i2l, o_l2i, o_dup, o_dup2, o_pop, o_goto, o_if, o_ic, o_sw, o_ireturn, o_nreturn, o_lreturn, o_return, o_min, o_max, o_geti, o_getr, o_puti, o_putz, o_putr, o_gets, o_iald, o_lald, o_aald, o_iast, o_last, o_aast, o_alen, o_new, o_newa, o_multi, o_call, o_scall, o_oinit, o_copyi, o_copyl, z_eq, z_ne, z_lt, z_ge, z_gt, z_le, z_ceq, z_cne, z_clt, z_cge, z_cgt, z_cle, z_rz, z_rb, z_rc, q_nz, zg_0, zg_s, zgk_s, zgh_n, zgh_s, zq_n, zq_br, zq_gd, zq_cl2, zqc_s, zq_rt, zq_sw, zq_st, zsws, zent, zpad, zla, zlg, zpop, zrv, zc1, zmk, zob_w, zaw_w, zar_w, zln_w, zld_w, zin_w, zcpg_w, znr_w, List.getElem?_cons_zero, List.getElem?_cons_succ, List.set_cons_zero, List.set_cons_succ, List.length_cons, List.length_nil, Nat.reduceLT, Nat.reduceLeDiff, Nat.reduceAdd, Nat.reduceSub, Nat.reduceMul, Nat.reduceEqDiff, Nat.reduceBEq, ↓reduceIte, q_10, q_01, q_00, q_m1, q_m2, q_m3, q_m4, q_m5, q_n1, q_n2, decide_eq_true_eq, decide_eq_false_iff_not, Bool.and_eq_true, Bool.true_and, Bool.and_true, Bool.decide_and, decide_true, decide_false, Bool.true_eq_false, Bool.false_eq_true, Option.toList_some, Option.toList_none, List.cons_append, List.nil_append, true_and, and_true, and_self, not_true_eq_false, not_false_eq_true, forall_const, false_implies, implies_true, Nat.le_refl, ne_eq, Bool.not_eq_true, eq_self, zshA, zb_rz, zb_ne, zb_eq, qem, true_implies, Nat.zero_le, false_and, and_false, Bool.or_eq_true, or_true, true_or, false_or, or_false, f0, v0, e1, v7]
    refine zEn_mk ⟨?_, ⟨?_, ?_⟩, ?_, ?_, ?_⟩
    · unfold cV_5 tV
      have hs2 : s = g_n S := by omega
      rw [hs2] at h3
      simp only [zup_row, f0, f 6 (by decide), f 7 (by decide), f 10 (by decide), h3, v0, v1, v2, v5, v6, v9, v10, v11, Nat.reduceEqDiff, ↓reduceIte, and_self]
      exact ⟨⟨trivial, trivial, trivial, rfl, trivial⟩, rfl, rfl, trivial⟩
    · intro k h1 h2 h3 h4
      simp only [zup_row, h1, ↓reduceIte]
      exact f k h2
    · intro j h1 h2 h3 h4 h5
      simp only [zup_row, h5, ↓reduceIte, f0]
    · simp only [zup_row, f0, Nat.reduceEqDiff, ↓reduceIte]
    · simp only [zup_row, Nat.reduceEqDiff, ↓reduceIte]
      exact f 9 (by decide)
    · intro k h1 h2
      simp only [zup_row, h1, ↓reduceIte]
      exact f k h2
  | succ j ih =>
    intro s I hs f h3
    have e1 : ¬ nI (g_n S) ≤ nI s := q_tnle (by omega) (by omega)
    have e2 := q_row (m := s) (n := 6) (by omega) (by omega)
    have f0 := f 5 (by decide)
    have e := sp_35_5 (d := d) (I := I) (J := J) (S := S) (q := g_q S) (v := g_v S) hR ((f 6 (by decide)).trans v1) ((f 7 (by decide)).trans v2) (s := s) (by omega)
    have h3s : I 8 s = g_l D s := by rw [h3, gDf_at]
    have z := ih (s + 1) (zup I 8 s (gDc S D s)) (by omega) (fun k hk => by rw [zup_row, if_neg hk]; exact f k hk) (by rw [zup_row, if_pos rfl, h3, gDf_s])
    refine zg_wp 40 _ ?_
    simp only [zpr_45, zhd_45, zp45, zh45, zml_45, o_bad, o_push, o_iload, o_lload, o_aload, o_istore, o_astore, o_lstore, o_iinc, o_ii, o_dv, o_i, o_ll, o_lshl, o_lcmp, o_i2l, o_l2i, o_dup, o_dup2, o_pop, o_goto, o_if, o_ic, o_sw, o_ireturn, o_nreturn, o_lreturn, o_return, o_min, o_max, o_geti, o_getr, o_puti, o_putz, o_putr, o_gets, o_iald, o_lald, o_aald, o_iast, o_last, o_aast, o_alen, o_new, o_newa, o_multi, o_call, o_scall, o_oinit, o_copyi, o_copyl, z_eq, z_ne, z_lt, z_ge, z_gt, z_le, z_ceq, z_cne, z_clt, z_cge, z_cgt, z_cle, z_rz, z_rb, z_rc, q_nz, zg_0, zg_s, zgk_s, zgh_n, zgh_s, zq_n, zq_br, zq_gd, zq_cl2, zqc_s, zq_rt, zq_sw, zq_st, zsws, zent, zpad, zla, zlg, zpop, zrv, zc1, zmk, zob_w, zaw_w, zar_w, zln_w, zld_w, zin_w, zcpg_w, znr_w, List.getElem?_cons_zero, List.getElem?_cons_succ, List.set_cons_zero, List.set_cons_succ, List.length_cons, List.length_nil, Nat.reduceLT, Nat.reduceLeDiff, Nat.reduceAdd, Nat.reduceSub, Nat.reduceMul, Nat.reduceEqDiff, Nat.reduceBEq, ↓reduceIte, q_10, q_01, q_00, q_m1, q_m2, q_m3, q_m4, q_m5, q_n1, q_n2, decide_eq_true_eq, decide_eq_false_iff_not, Bool.and_eq_true, Bool.true_and, Bool.and_true, Bool.decide_and, decide_true, decide_false, Bool.true_eq_false, Bool.false_eq_true, Option.toList_some, Option.toList_none, List.cons_append, List.nil_append, true_and, and_true, and_self, not_true_eq_false, not_false_eq_true, forall_const, false_implies, implies_true, Nat.le_refl, ne_eq, Bool.not_eq_true, eq_self, zshA, zb_rz, zb_ne, zb_eq, qem, true_implies, Nat.zero_le, false_and, and_false, Bool.or_eq_true, or_true, true_or, false_or, or_false, f0, v0, e1, e2, zr_5_3 hR, h3s, e]
    exact z
set_option maxRecDepth 40000 in
theorem sp_45_5 (hR : qRk R a b c i) (hn : g_n S ≤ 6) (V : cV_5 S D I) : ∃ I', zcl (d + 2) 45 [.ref 5] (I, J, R, 111) = some (none, (I', J, R, 111)) ∧ cV_5 S (gDy S D) I' ∧ gW_5 I I' ∧ I' 5 15 = I 5 15 ∧ I' 9 = I 9 ∧ (∀ k, k ≠ 5 → k ≠ 8 → I' k = I k) := by
  refine zcl_en (Nat.le_of_ble_eq_true rfl) (zg_wp 30 _ ?_)
  simp only [zpr_45, zhd_45, zp45, zh45, zml_45, o_bad, o_push, o_iload, o_lload, o_aload, o_istore, o_astore, o_lstore, o_iinc, o_ii, o_dv, o_i, o_ll, o_lshl, o_lcmp, o_i2l, o_l2i, o_dup, o_dup2, o_pop, o_goto, o_if, o_ic, o_sw, o_ireturn, o_nreturn, o_lreturn, o_return, o_min, o_max, o_geti, o_getr, o_puti, o_putz, o_putr, o_gets, o_iald, o_lald, o_aald, o_iast, o_last, o_aast, o_alen, o_new, o_newa, o_multi, o_call, o_scall, o_oinit, o_copyi, o_copyl, z_eq, z_ne, z_lt, z_ge, z_gt, z_le, z_ceq, z_cne, z_clt, z_cge, z_cgt, z_cle, z_rz, z_rb, z_rc, q_nz, zg_0, zg_s, zgk_s, zgh_n, zgh_s, zq_n, zq_br, zq_gd, zq_cl2, zqc_s, zq_rt, zq_sw, zq_st, zsws, zent, zpad, zla, zlg, zpop, zrv, zc1, zmk, zob_w, zaw_w, zar_w, zln_w, zld_w, zin_w, zcpg_w, znr_w, List.getElem?_cons_zero, List.getElem?_cons_succ, List.set_cons_zero, List.set_cons_succ, List.length_cons, List.length_nil, Nat.reduceLT, Nat.reduceLeDiff, Nat.reduceAdd, Nat.reduceSub, Nat.reduceMul, Nat.reduceEqDiff, Nat.reduceBEq, ↓reduceIte, q_10, q_01, q_00, q_m1, q_m2, q_m3, q_m4, q_m5, q_n1, q_n2, decide_eq_true_eq, decide_eq_false_iff_not, Bool.and_eq_true, Bool.true_and, Bool.and_true, Bool.decide_and, decide_true, decide_false, Bool.true_eq_false, Bool.false_eq_true, Option.toList_some, Option.toList_none, List.cons_append, List.nil_append, true_and, and_true, and_self, not_true_eq_false, not_false_eq_true, forall_const, false_implies, implies_true, Nat.le_refl, ne_eq, Bool.not_eq_true, eq_self, zshA, zb_rz, zb_ne, zb_eq, qem, true_implies, Nat.zero_le, false_and, and_false, Bool.or_eq_true, or_true, true_or, false_or, or_false]
  exact sl_45_5 hR hn V (g_n S) 0 I (by omega) (fun _ _ => rfl) (by rw [V.1.2.2.2.1, gDf_0])
end QT
section QT
variable {d : Nat} {I : zI} {J : zJ} {R : zR} {a b c K : Nat} {i : Option Nat} {S : gS} {D : gD}
set_option maxRecDepth 40000 in
theorem sl_43_19 (hR : qRk R a b c i) (hK : zKt K) (hf : R 19 8 = some K) (hn : g_n S ≤ 6) (h0 : 0 ≤ g_le S) {n : Nat} (hN : n < 1000) {I0 : zI} (hV : kV K S I0) : ∀ (j s : Nat) (D : gD) (I : zI) (x : Int32), s + j = n → cV_19 S D I → gW_19 I0 I → g_m D + j < 1000000 → I 19 15 = x → zWP (zcl (d + 6)) 43 (2, [some (.ref 19), some (.int (nI n)), some (.int (nI s))], [], (I, J, R, 111)) (zEn (some (.int (gSp S (gWk S j D)))) J R (fun I' => cV_19 S (gWk S j D) I' ∧ gW_19 I0 I' ∧ I' 19 15 = x + gMr S j D)) := by
  intro j
  induction j with
  | zero =>
    intro s D I x hs V f hm hx
    have e1 : nI n ≤ nI s := q_tle (by omega) (by omega)
    refine zg_wp 20 _ ?_
    simp only [zpr_43, zhd_43, zp43, zh43, zml_43, o_bad, o_push, o_iload, o_lload, o_aload, o_istore, o_astore, o_lstore, o_iinc, o_ii, o_dv, o_i, o_ll, o_lshl, o_lcmp, o_i2l, o_l2i, o_dup, o_dup2, o_pop, o_goto, o_if, o_ic, o_sw, o_ireturn, o_nreturn, o_lreturn, o_return, o_min, o_max, o_geti, o_getr, o_puti, o_putz, o_putr, o_gets, o_iald, o_lald, o_aald, o_iast, o_last, o_aast, o_alen, o_new, o_newa, o_multi, o_call, o_scall, o_oinit, o_copyi, o_copyl, z_eq, z_ne, z_lt, z_ge, z_gt, z_le, z_ceq, z_cne, z_clt, z_cge, z_cgt, z_cle, z_rz, z_rb, z_rc, q_nz, zg_0, zg_s, zgk_s, zgh_n, zgh_s, zq_n, zq_br, zq_gd, zq_cl2, zqc_s, zq_rt, zq_sw, zq_st, zsws, zent, zpad, zla, zlg, zpop, zrv, zc1, zmk, zob_w, zaw_w, zar_w, zln_w, zld_w, zin_w, zcpg_w, znr_w, List.getElem?_cons_zero, List.getElem?_cons_succ, List.set_cons_zero, List.set_cons_succ, List.length_cons, List.length_nil, Nat.reduceLT, Nat.reduceLeDiff, Nat.reduceAdd, Nat.reduceSub, Nat.reduceMul, Nat.reduceEqDiff, Nat.reduceBEq, ↓reduceIte, q_10, q_01, q_00, q_m1, q_m2, q_m3, q_m4, q_m5, q_n1, q_n2, decide_eq_true_eq, decide_eq_false_iff_not, Bool.and_eq_true, Bool.true_and, Bool.and_true, Bool.decide_and, decide_true, decide_false, Bool.true_eq_false, Bool.false_eq_true, Option.toList_some, Option.toList_none, List.cons_append, List.nil_append, true_and, and_true, and_self, not_true_eq_false, not_false_eq_true, forall_const, false_implies, implies_true, Nat.le_refl, ne_eq, Bool.not_eq_true, eq_self, zshA, zb_rz, zb_ne, zb_eq, qem, true_implies, Nat.zero_le, false_and, and_false, Bool.or_eq_true, or_true, true_or, false_or, or_false, e1, sp_39_19 (d := d + 4) hR V hn]
    exact zEn_mk ⟨V, f, by show I 19 15 = x + 0; rw [q_add0]; exact hx⟩
  | succ j ih =>
    intro s D I x hs V f hm hx
    have e1 : ¬ nI n ≤ nI s := q_tnle (by omega) (by omega)
    have e2 := (q_row (m := s) (n := 1000) (by omega) (by omega)).2.2
    have kv := kV_w_19 hK hV f
    by_cases hd : gGap S D ≤ g_le S
    · obtain ⟨I1, e, f1⟩ := sp_42a_19 (d := d) (J := J) hR hK hf V kv hn hd
      have V1 := cV_f_19 V f1
      refine zg_wp 30 _ ?_
      simp only [zpr_43, zhd_43, zp43, zh43, zml_43, o_bad, o_push, o_iload, o_lload, o_aload, o_istore, o_astore, o_lstore, o_iinc, o_ii, o_dv, o_i, o_ll, o_lshl, o_lcmp, o_i2l, o_l2i, o_dup, o_dup2, o_pop, o_goto, o_if, o_ic, o_sw, o_ireturn, o_nreturn, o_lreturn, o_return, o_min, o_max, o_geti, o_getr, o_puti, o_putz, o_putr, o_gets, o_iald, o_lald, o_aald, o_iast, o_last, o_aast, o_alen, o_new, o_newa, o_multi, o_call, o_scall, o_oinit, o_copyi, o_copyl, z_eq, z_ne, z_lt, z_ge, z_gt, z_le, z_ceq, z_cne, z_clt, z_cge, z_cgt, z_cle, z_rz, z_rb, z_rc, q_nz, zg_0, zg_s, zgk_s, zgh_n, zgh_s, zq_n, zq_br, zq_gd, zq_cl2, zqc_s, zq_rt, zq_sw, zq_st, zsws, zent, zpad, zla, zlg, zpop, zrv, zc1, zmk, zob_w, zaw_w, zar_w, zln_w, zld_w, zin_w, zcpg_w, znr_w, List.getElem?_cons_zero, List.getElem?_cons_succ, List.set_cons_zero, List.set_cons_succ, List.length_cons, List.length_nil, Nat.reduceLT, Nat.reduceLeDiff, Nat.reduceAdd, Nat.reduceSub, Nat.reduceMul, Nat.reduceEqDiff, Nat.reduceBEq, ↓reduceIte, q_10, q_01, q_00, q_m1, q_m2, q_m3, q_m4, q_m5, q_n1, q_n2, decide_eq_true_eq, decide_eq_false_iff_not, Bool.and_eq_true, Bool.true_and, Bool.and_true, Bool.decide_and, decide_true, decide_false, Bool.true_eq_false, Bool.false_eq_true, Option.toList_some, Option.toList_none, List.cons_append, List.nil_append, true_and, and_true, and_self, not_true_eq_false, not_false_eq_true, forall_const, false_implies, implies_true, Nat.le_refl, ne_eq, Bool.not_eq_true, eq_self, zshA, zb_rz, zb_ne, zb_eq, qem, true_implies, Nat.zero_le, false_and, and_false, Bool.or_eq_true, or_true, true_or, false_or, or_false, e1, e, q_m5m, sp_39_19 (d := d + 4) hR V1 hn]
      rw [gWk_d hd]
      exact zEn_mk ⟨V1, gW_t_19 f (gF_W_19 f1), by rw [gMr_d hd, q_add0, f1.2 15 (by decide)]; exact hx⟩
    · obtain ⟨I1, e, V1, f1, g1, g2, g3⟩ := sp_42b_19 (d := d) (J := J) hR hK hf V kv hn (by omega) h0 hd
      have hl := gLo_lt h0 hd
      have n5 := q_nm5 (m := gLo S D) (by omega)
      have z := ih (s + 1) _ I1 _ (by omega) V1 (gW_t_19 f f1) (by rw [gNx_m]; omega) g3
      refine zg_wp 30 _ ?_
      simp only [zpr_43, zhd_43, zp43, zh43, zml_43, o_bad, o_push, o_iload, o_lload, o_aload, o_istore, o_astore, o_lstore, o_iinc, o_ii, o_dv, o_i, o_ll, o_lshl, o_lcmp, o_i2l, o_l2i, o_dup, o_dup2, o_pop, o_goto, o_if, o_ic, o_sw, o_ireturn, o_nreturn, o_lreturn, o_return, o_min, o_max, o_geti, o_getr, o_puti, o_putz, o_putr, o_gets, o_iald, o_lald, o_aald, o_iast, o_last, o_aast, o_alen, o_new, o_newa, o_multi, o_call, o_scall, o_oinit, o_copyi, o_copyl, z_eq, z_ne, z_lt, z_ge, z_gt, z_le, z_ceq, z_cne, z_clt, z_cge, z_cgt, z_cle, z_rz, z_rb, z_rc, q_nz, zg_0, zg_s, zgk_s, zgh_n, zgh_s, zq_n, zq_br, zq_gd, zq_cl2, zqc_s, zq_rt, zq_sw, zq_st, zsws, zent, zpad, zla, zlg, zpop, zrv, zc1, zmk, zob_w, zaw_w, zar_w, zln_w, zld_w, zin_w, zcpg_w, znr_w, List.getElem?_cons_zero, List.getElem?_cons_succ, List.set_cons_zero, List.set_cons_succ, List.length_cons, List.length_nil, Nat.reduceLT, Nat.reduceLeDiff, Nat.reduceAdd, Nat.reduceSub, Nat.reduceMul, Nat.reduceEqDiff, Nat.reduceBEq, ↓reduceIte, q_10, q_01, q_00, q_m1, q_m2, q_m3, q_m4, q_m5, q_n1, q_n2, decide_eq_true_eq, decide_eq_false_iff_not, Bool.and_eq_true, Bool.true_and, Bool.and_true, Bool.decide_and, decide_true, decide_false, Bool.true_eq_false, Bool.false_eq_true, Option.toList_some, Option.toList_none, List.cons_append, List.nil_append, true_and, and_true, and_self, not_true_eq_false, not_false_eq_true, forall_const, false_implies, implies_true, Nat.le_refl, ne_eq, Bool.not_eq_true, eq_self, zshA, zb_rz, zb_ne, zb_eq, qem, true_implies, Nat.zero_le, false_and, and_false, Bool.or_eq_true, or_true, true_or, false_or, or_false, e1, e, n5, e2]
      rw [gWk_s hd, gMr_s hd, ← Int32.add_assoc, ← hx]
      exact z
set_option maxRecDepth 40000 in
theorem sp_43_19 (hR : qRk R a b c i) (hK : zKt K) (hf : R 19 8 = some K) (V : cV_19 S D I) (hV : kV K S I) (hn : g_n S ≤ 6) (hm : g_m D < 500000) (h0 : 0 ≤ g_le S) {n : Nat} (hN : n < 1000) : ∃ I', zcl (d + 7) 43 [.ref 19, .int (nI n)] (I, J, R, 111) = some (some (.int (gSp S (gWk S n D))), (I', J, R, 111)) ∧ cV_19 S (gWk S n D) I' ∧ gW_19 I I' ∧ I' 19 15 = I 19 15 + gMr S n D := by
  refine zcl_en (Nat.le_of_ble_eq_true rfl) (zg_wp 30 _ ?_)
  simp only [zpr_43, zhd_43, zp43, zh43, zml_43, o_bad, o_push, o_iload, o_lload, o_aload, o_istore, o_astore, o_lstore, o_iinc, o_ii, o_dv, o_i, o_ll, o_lshl, o_lcmp, o_i2l, o_l2i, o_dup, o_dup2, o_pop, o_goto, o_if, o_ic, o_sw, o_ireturn, o_nreturn, o_lreturn, o_return, o_min, o_max, o_geti, o_getr, o_puti, o_putz, o_putr, o_gets, o_iald, o_lald, o_aald, o_iast, o_last, o_aast, o_alen, o_new, o_newa, o_multi, o_call, o_scall, o_oinit, o_copyi, o_copyl, z_eq, z_ne, z_lt, z_ge, z_gt, z_le, z_ceq, z_cne, z_clt, z_cge, z_cgt, z_cle, z_rz, z_rb, z_rc, q_nz, zg_0, zg_s, zgk_s, zgh_n, zgh_s, zq_n, zq_br, zq_gd, zq_cl2, zqc_s, zq_rt, zq_sw, zq_st, zsws, zent, zpad, zla, zlg, zpop, zrv, zc1, zmk, zob_w, zaw_w, zar_w, zln_w, zld_w, zin_w, zcpg_w, znr_w, List.getElem?_cons_zero, List.getElem?_cons_succ, List.set_cons_zero, List.set_cons_succ, List.length_cons, List.length_nil, Nat.reduceLT, Nat.reduceLeDiff, Nat.reduceAdd, Nat.reduceSub, Nat.reduceMul, Nat.reduceEqDiff, Nat.reduceBEq, ↓reduceIte, q_10, q_01, q_00, q_m1, q_m2, q_m3, q_m4, q_m5, q_n1, q_n2, decide_eq_true_eq, decide_eq_false_iff_not, Bool.and_eq_true, Bool.true_and, Bool.and_true, Bool.decide_and, decide_true, decide_false, Bool.true_eq_false, Bool.false_eq_true, Option.toList_some, Option.toList_none, List.cons_append, List.nil_append, true_and, and_true, and_self, not_true_eq_false, not_false_eq_true, forall_const, false_implies, implies_true, Nat.le_refl, ne_eq, Bool.not_eq_true, eq_self, zshA, zb_rz, zb_ne, zb_eq, qem, true_implies, Nat.zero_le, false_and, and_false, Bool.or_eq_true, or_true, true_or, false_or, or_false]
  exact sl_43_19 hR hK hf hn h0 hN hV n 0 D I _ (by omega) V (gW_r_19 I) (by omega) rfl
set_option maxRecDepth 40000 in
/-- a day -/
theorem sl_45_19 (hR : qRk R a b c i) (hn : g_n S ≤ 6) {I0 : zI} (V : cV_19 S D I0) : ∀ (j s : Nat) (I : zI), s + j = g_n S → (∀ k, k ≠ 22 → I k = I0 k) → I 22 = gDf S D s → zWP (zcl (d + 1)) 45 (2, [some (.ref 19), some (.int (nI s))], [], (I, J, R, 111)) (zEn none J R (fun I' => cV_19 S (gDy S D) I' ∧ gW_19 I0 I' ∧ I' 19 15 = I0 19 15 ∧ I' 23 = I0 23 ∧ (∀ k, k ≠ 19 → k ≠ 22 → I' k = I0 k))) := by
  obtain ⟨⟨v0, v1, v2, v3, v5⟩, v6, v7, v9, v10, v11⟩ := V
  intro j
  induction j with
  | zero =>
    intro s I hs f h3
    have e1 : nI (g_n S) ≤ nI s := q_tle (by omega) (by omega)
    have f0 := f 19 (by decide)
    refine zg_wp 30 _ ?_
    simp only [zpr_45, zhd_45, zp45, zh45, zml_45, o_bad, o_push, o_iload, o_lload, o_aload, o_istore, o_astore, o_lstore, o_iinc, o_ii, o_dv, o_i, o_ll, o_lshl, o_lcmp, o_i2l, o_l2i, o_dup, o_dup2, o_pop, o_goto, o_if, o_ic, o_sw, o_ireturn, o_nreturn, o_lreturn, o_return, o_min, o_max, o_geti, o_getr, o_puti, o_putz, o_putr, o_gets, o_iald, o_lald, o_aald, o_iast, o_last, o_aast, o_alen, o_new, o_newa, o_multi, o_call, o_scall, o_oinit, o_copyi, o_copyl, z_eq, z_ne, z_lt, z_ge, z_gt, z_le, z_ceq, z_cne, z_clt, z_cge, z_cgt, z_cle, z_rz, z_rb, z_rc, q_nz, zg_0, zg_s, zgk_s, zgh_n, zgh_s, zq_n, zq_br, zq_gd, zq_cl2, zqc_s, zq_rt, zq_sw, zq_st, zsws, zent, zpad, zla, zlg, zpop, zrv, zc1, zmk, zob_w, zaw_w, zar_w, zln_w, zld_w, zin_w, zcpg_w, znr_w, List.getElem?_cons_zero, List.getElem?_cons_succ, List.set_cons_zero, List.set_cons_succ, List.length_cons, List.length_nil, Nat.reduceLT, Nat.reduceLeDiff, Nat.reduceAdd, Nat.reduceSub, Nat.reduceMul, Nat.reduceEqDiff, Nat.reduceBEq, ↓reduceIte, q_10, q_01, q_00, q_m1, q_m2, q_m3, q_m4, q_m5, q_n1, q_n2, decide_eq_true_eq, decide_eq_false_iff_not, Bool.and_eq_true, Bool.true_and, Bool.and_true, Bool.decide_and, decide_true, decide_false, Bool.true_eq_false, Bool.false_eq_true, Option.toList_some, Option.toList_none, List.cons_append, List.nil_append, true_and, and_true, and_self, not_true_eq_false, not_false_eq_true, forall_const, false_implies, implies_true, Nat.le_refl, ne_eq, Bool.not_eq_true, eq_self, zshA, zb_rz, zb_ne, zb_eq, qem, true_implies, Nat.zero_le, false_and, and_false, Bool.or_eq_true, or_true, true_or, false_or, or_false, f0, v0, e1, v7]
    refine zEn_mk ⟨?_, ⟨?_, ?_⟩, ?_, ?_, ?_⟩
    · unfold cV_19 tV
      have hs2 : s = g_n S := by omega
      rw [hs2] at h3
      simp only [zup_row, f0, f 20 (by decide), f 21 (by decide), f 24 (by decide), h3, v0, v1, v2, v5, v6, v9, v10, v11, Nat.reduceEqDiff, ↓reduceIte, and_self]
      exact ⟨⟨trivial, trivial, trivial, rfl, trivial⟩, rfl, rfl, trivial⟩
    · intro k h1 h2 h3 h4
      simp only [zup_row, h1, ↓reduceIte]
      exact f k h2
    · intro j h1 h2 h3 h4 h5
      simp only [zup_row, h5, ↓reduceIte, f0]
    · simp only [zup_row, f0, Nat.reduceEqDiff, ↓reduceIte]
    · simp only [zup_row, Nat.reduceEqDiff, ↓reduceIte]
      exact f 23 (by decide)
    · intro k h1 h2
      simp only [zup_row, h1, ↓reduceIte]
      exact f k h2
  | succ j ih =>
    intro s I hs f h3
    have e1 : ¬ nI (g_n S) ≤ nI s := q_tnle (by omega) (by omega)
    have e2 := q_row (m := s) (n := 6) (by omega) (by omega)
    have f0 := f 19 (by decide)
    have e := sp_35_19 (d := d) (I := I) (J := J) (S := S) (q := g_q S) (v := g_v S) hR ((f 20 (by decide)).trans v1) ((f 21 (by decide)).trans v2) (s := s) (by omega)
    have h3s : I 22 s = g_l D s := by rw [h3, gDf_at]
    have z := ih (s + 1) (zup I 22 s (gDc S D s)) (by omega) (fun k hk => by rw [zup_row, if_neg hk]; exact f k hk) (by rw [zup_row, if_pos rfl, h3, gDf_s])
    refine zg_wp 40 _ ?_
    simp only [zpr_45, zhd_45, zp45, zh45, zml_45, o_bad, o_push, o_iload, o_lload, o_aload, o_istore, o_astore, o_lstore, o_iinc, o_ii, o_dv, o_i, o_ll, o_lshl, o_lcmp, o_i2l, o_l2i, o_dup, o_dup2, o_pop, o_goto, o_if, o_ic, o_sw, o_ireturn, o_nreturn, o_lreturn, o_return, o_min, o_max, o_geti, o_getr, o_puti, o_putz, o_putr, o_gets, o_iald, o_lald, o_aald, o_iast, o_last, o_aast, o_alen, o_new, o_newa, o_multi, o_call, o_scall, o_oinit, o_copyi, o_copyl, z_eq, z_ne, z_lt, z_ge, z_gt, z_le, z_ceq, z_cne, z_clt, z_cge, z_cgt, z_cle, z_rz, z_rb, z_rc, q_nz, zg_0, zg_s, zgk_s, zgh_n, zgh_s, zq_n, zq_br, zq_gd, zq_cl2, zqc_s, zq_rt, zq_sw, zq_st, zsws, zent, zpad, zla, zlg, zpop, zrv, zc1, zmk, zob_w, zaw_w, zar_w, zln_w, zld_w, zin_w, zcpg_w, znr_w, List.getElem?_cons_zero, List.getElem?_cons_succ, List.set_cons_zero, List.set_cons_succ, List.length_cons, List.length_nil, Nat.reduceLT, Nat.reduceLeDiff, Nat.reduceAdd, Nat.reduceSub, Nat.reduceMul, Nat.reduceEqDiff, Nat.reduceBEq, ↓reduceIte, q_10, q_01, q_00, q_m1, q_m2, q_m3, q_m4, q_m5, q_n1, q_n2, decide_eq_true_eq, decide_eq_false_iff_not, Bool.and_eq_true, Bool.true_and, Bool.and_true, Bool.decide_and, decide_true, decide_false, Bool.true_eq_false, Bool.false_eq_true, Option.toList_some, Option.toList_none, List.cons_append, List.nil_append, true_and, and_true, and_self, not_true_eq_false, not_false_eq_true, forall_const, false_implies, implies_true, Nat.le_refl, ne_eq, Bool.not_eq_true, eq_self, zshA, zb_rz, zb_ne, zb_eq, qem, true_implies, Nat.zero_le, false_and, and_false, Bool.or_eq_true, or_true, true_or, false_or, or_false, f0, v0, e1, e2, zr_19_3 hR, h3s, e]
    exact z
set_option maxRecDepth 40000 in
theorem sp_45_19 (hR : qRk R a b c i) (hn : g_n S ≤ 6) (V : cV_19 S D I) : ∃ I', zcl (d + 2) 45 [.ref 19] (I, J, R, 111) = some (none, (I', J, R, 111)) ∧ cV_19 S (gDy S D) I' ∧ gW_19 I I' ∧ I' 19 15 = I 19 15 ∧ I' 23 = I 23 ∧ (∀ k, k ≠ 19 → k ≠ 22 → I' k = I k) := by
  refine zcl_en (Nat.le_of_ble_eq_true rfl) (zg_wp 30 _ ?_)
  simp only [zpr_45, zhd_45, zp45, zh45, zml_45, o_bad, o_push, o_iload, o_lload, o_aload, o_istore, o_astore, o_lstore, o_iinc, o_ii, o_dv, o_i, o_ll, o_lshl, o_lcmp, o_i2l, o_l2i, o_dup, o_dup2, o_pop, o_goto, o_if, o_ic, o_sw, o_ireturn, o_nreturn, o_lreturn, o_return, o_min, o_max, o_geti, o_getr, o_puti, o_putz, o_putr, o_gets, o_iald, o_lald, o_aald, o_iast, o_last, o_aast, o_alen, o_new, o_newa, o_multi, o_call, o_scall, o_oinit, o_copyi, o_copyl, z_eq, z_ne, z_lt, z_ge, z_gt, z_le, z_ceq, z_cne, z_clt, z_cge, z_cgt, z_cle, z_rz, z_rb, z_rc, q_nz, zg_0, zg_s, zgk_s, zgh_n, zgh_s, zq_n, zq_br, zq_gd, zq_cl2, zqc_s, zq_rt, zq_sw, zq_st, zsws, zent, zpad, zla, zlg, zpop, zrv, zc1, zmk, zob_w, zaw_w, zar_w, zln_w, zld_w, zin_w, zcpg_w, znr_w, List.getElem?_cons_zero, List.getElem?_cons_succ, List.set_cons_zero, List.set_cons_succ, List.length_cons, List.length_nil, Nat.reduceLT, Nat.reduceLeDiff, Nat.reduceAdd, Nat.reduceSub, Nat.reduceMul, Nat.reduceEqDiff, Nat.reduceBEq, ↓reduceIte, q_10, q_01, q_00, q_m1, q_m2, q_m3, q_m4, q_m5, q_n1, q_n2, decide_eq_true_eq, decide_eq_false_iff_not, Bool.and_eq_true, Bool.true_and, Bool.and_true, Bool.decide_and, decide_true, decide_false, Bool.true_eq_false, Bool.false_eq_true, Option.toList_some, Option.toList_none, List.cons_append, List.nil_append, true_and, and_true, and_self, not_true_eq_false, not_false_eq_true, forall_const, false_implies, implies_true, Nat.le_refl, ne_eq, Bool.not_eq_true, eq_self, zshA, zb_rz, zb_ne, zb_eq, qem, true_implies, Nat.zero_le, false_and, and_false, Bool.or_eq_true, or_true, true_or, false_or, or_false]
  exact sl_45_19 hR hn V (g_n S) 0 I (by omega) (fun _ _ => rfl) (by rw [V.1.2.2.2.1, gDf_0])
end QT
