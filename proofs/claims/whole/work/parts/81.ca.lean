/-! ===== what the class is asked: it tries on its trial ===== -/
def tS (a b : Nat) (i : Option Nat) (I I' : zI) (R' : zR) : Prop := tE I I' ∧ iTr (I' 20) (I' 21) (I' 22) (I' 24) ∧ ∃ c, qRk R' a b c i
def gHa1 (S : gS) (x : Int32) : gS := (S.1, S.2.1, S.2.2.1, S.2.2.2.1, S.2.2.2.2.1, S.2.2.2.2.2.1, x, S.2.2.2.2.2.2.2)
def gGe1 (S : gS) (x : Int32) : gS := (S.1, S.2.1, S.2.2.1, S.2.2.2.1, x, S.2.2.2.2.2.1, S.2.2.2.2.2.2.1, S.2.2.2.2.2.2.2)
def gLe1 (S : gS) (x : Int32) : gS := (S.1, S.2.1, S.2.2.1, S.2.2.2.1, S.2.2.2.2.1, x, S.2.2.2.2.2.2.1, S.2.2.2.2.2.2.2)
def gSetL (D : gD) (s : Nat) (x : Int32) : gD := (fun j => if j = s then x else g_l D j, g_m D, g_d D)
theorem gOK_n {S : gS} {D : gD} (h : gOK S D) : g_n S ≤ 6 := h.1.1
theorem gOK_le {S : gS} {D : gD} (h : gOK S D) : 0 ≤ g_le S := gB_le h.1
theorem gOK_bd {S : gS} {D : gD} (h : gOK S D) : gBd D := fun s => ⟨(h.2.1 s).1, by have := (h.2.1 s).2; omega⟩
section CA
variable {d : Nat} {I : zI} {J : zJ} {R : zR} {a b c : Nat} {i : Option Nat} {S : gS} {D : gD}
/-- the trial behind n snips -/
theorem tr_cut {I0 : zI} (hR : qRk R a b c i) (hf : R 19 8 = some a) (h0 : tOK a S D I0) {S1 : gS} {D1 : gD} (V : cV_19 S1 D1 I) (hV : kV a S1 I) (hn : g_n S1 ≤ 6) (hm : g_m D1 < 500000) (hl : 0 ≤ g_le S1) (hz : zN 6 (g_l D1)) (e : tE I0 I) (g1 : I 20 = I0 6) (g2 : I 21 = I0 7) (g5 : I 24 = I0 10) {n : Nat} (hN : n < 1000) : ∃ I', zcl (d + 7) 43 [.ref 19, .int (nI n)] (I, J, R, 111) = some (some (.int (gSp S1 (gWk S1 n D1))), (I', J, R, 111)) ∧ cV_19 S1 (gWk S1 n D1) I' ∧ tE I0 I' ∧ iTr (I' 20) (I' 21) (I' 22) (I' 24) ∧ I' 19 15 = I 19 15 + gMr S1 n D1 := by
  obtain ⟨I', y, V', f, x⟩ := sp_43_19 (d := d) (J := J) hR h0.1.2.2 hf V hV hn hm hl hN
  exact ⟨I', y, V', tE_w e f, iTr_w h0 g1 g2 g5 f V' (gWk_hi hn hl n D1 hz), x⟩
theorem q_wt {m n : Nat} (h : m ≤ n) (hn : n < 2147483648) : (0 ≤ nI m ∧ nI m ≤ nI n) ↔ True := iff_true_intro ⟨q_tle (m := 0) (by omega) (by omega), q_tle h hn⟩
theorem q_st {m n : Nat} (h : m < n) (hn : n < 2147483648) : (0 ≤ nI m ∧ nI m < nI n) ↔ True := iff_true_intro ⟨q_tle (m := 0) (by omega) (by omega), q_tlt h hn⟩
theorem q_on : ((0 : Int32) < 10 ↔ True) ∧ ((1 : Int32) < 10 ↔ True) := by decide
theorem ca_66 (hR : qRk R a b c i) (h : tOK a S D I) (hB : gOK S D) {n : Nat} (hn : n ≤ 60) : ∃ I' R', zcl (d + 8) 66 [.ref 0, .int (nI n)] (I, J, R, 111) = some (some (.int (gMn (g_l (gWk S n D)) (g_n S))), (I', J, R', 111)) ∧ tS a b i I I' R' := by
  obtain ⟨I1, R1, y1, ⟨V1, k1, x1⟩, ⟨hR1, hf1⟩, f1, g1, g2, g5⟩ := tr_begin (d := d + 6) (J := J) hR h
  obtain ⟨I2, y2, V2, e2, t2, x2⟩ := tr_cut (d := d) (J := J) hR1 hf1 h V1 k1 (gOK_n hB) (by have := hB.2.2.1; omega) (gOK_le hB) hB.2.2.2 (tE_b (tE_r I) f1) g1 g2 g5 (n := n) (by omega)
  have y3 := sp_37_19 (d := d + 6) (J := J) hR1 V2 (gOK_n hB)
  have h2 : (0 ≤ nI n ∧ nI n ≤ (60 : Int32)) ↔ True := q_wt (n := 60) hn (by omega)
  refine zcl_as (Nat.le_of_ble_eq_true rfl) (zg_wp 60 _ ?_)
  simp only [zpr_66, zhd_66, zp66, zh66, zml_66, o_bad, o_push, o_iload, o_lload, o_aload, o_istore, o_astore, o_lstore, o_iinc, o_ii, o_dv, o_i, o_ll, o_lshl, o_lcmp, o_i2l, o_l2i, o_dup, o_dup2, o_pop, o_goto, o_if, o_ic, o_sw, o_ireturn, o_nreturn, o_lreturn, o_return, o_min, o_max, o_geti, o_getr, o_puti, o_putz, o_putr, o_gets, o_iald, o_lald, o_aald, o_iast, o_last, o_aast, o_alen, o_new, o_newa, o_multi, o_call, o_scall, o_oinit, o_copyi, o_copyl, z_eq, z_ne, z_lt, z_ge, z_gt, z_le, z_ceq, z_cne, z_clt, z_cge, z_cgt, z_cle, z_rz, z_rb, z_rc, q_nz, zg_0, zg_s, zgk_s, zgh_n, zgh_s, zq_n, zq_br, zq_gd, zq_cl2, zqc_s, zq_rt, zq_sw, zq_st, zsws, zent, zpad, zla, zlg, zpop, zrv, zc1, zmk, zob_w, zaw_w, zar_w, zln_w, zld_w, zin_w, zcpg_w, znr_w, List.getElem?_cons_zero, List.getElem?_cons_succ, List.set_cons_zero, List.set_cons_succ, List.length_cons, List.length_nil, Nat.reduceLT, Nat.reduceLeDiff, Nat.reduceAdd, Nat.reduceSub, Nat.reduceMul, Nat.reduceEqDiff, Nat.reduceBEq, ↓reduceIte, q_10, q_01, q_00, q_m1, q_m2, q_m3, q_m4, q_m5, q_n1, q_n2, decide_eq_true_eq, decide_eq_false_iff_not, Bool.and_eq_true, Bool.true_and, Bool.and_true, Bool.decide_and, decide_true, decide_false, Bool.true_eq_false, Bool.false_eq_true, Option.toList_some, Option.toList_none, List.cons_append, List.nil_append, true_and, and_true, and_self, not_true_eq_false, not_false_eq_true, forall_const, false_implies, implies_true, Nat.le_refl, ne_eq, Bool.not_eq_true, eq_self, zshA, zb_rz, zb_ne, zb_eq, qem, true_implies, Nat.zero_le, false_and, and_false, Bool.or_eq_true, or_true, true_or, false_or, or_false, zr_0_0 hR, zr_0_5 hR, zr_0_5 hR1, sp_97, h2, zb_pos, y1, y2, y3]
  exact zAs_mk ⟨e2, t2, a, hR1⟩
theorem ca_64a (hR : qRk R a b c i) (h : tOK a S D I) (hB : gOK S D) {n : Nat} (hn : n ≤ 60) : ∃ I' R', zcl (d + 8) 64 [.ref 0, .int (nI n), .int 0] (I, J, R, 111) = some (some (.int (gSp S (gWk S n D))), (I', J, R', 111)) ∧ tS a b i I I' R' := by
  obtain ⟨I1, R1, y1, ⟨V1, k1, x1⟩, ⟨hR1, hf1⟩, f1, g1, g2, g5⟩ := tr_begin (d := d + 6) (J := J) hR h
  obtain ⟨I2, y2, V2, e2, t2, x2⟩ := tr_cut (d := d) (J := J) hR1 hf1 h V1 k1 (gOK_n hB) (by have := hB.2.2.1; omega) (gOK_le hB) hB.2.2.2 (tE_b (tE_r I) f1) g1 g2 g5 (n := n) (by omega)
  have h2 : (0 ≤ nI n ∧ nI n ≤ (60 : Int32)) ↔ True := q_wt (n := 60) hn (by omega)
  refine zcl_as (Nat.le_of_ble_eq_true rfl) (zg_wp 60 _ ?_)
  simp only [zpr_64, zhd_64, zp64, zh64, zml_64, o_bad, o_push, o_iload, o_lload, o_aload, o_istore, o_astore, o_lstore, o_iinc, o_ii, o_dv, o_i, o_ll, o_lshl, o_lcmp, o_i2l, o_l2i, o_dup, o_dup2, o_pop, o_goto, o_if, o_ic, o_sw, o_ireturn, o_nreturn, o_lreturn, o_return, o_min, o_max, o_geti, o_getr, o_puti, o_putz, o_putr, o_gets, o_iald, o_lald, o_aald, o_iast, o_last, o_aast, o_alen, o_new, o_newa, o_multi, o_call, o_scall, o_oinit, o_copyi, o_copyl, z_eq, z_ne, z_lt, z_ge, z_gt, z_le, z_ceq, z_cne, z_clt, z_cge, z_cgt, z_cle, z_rz, z_rb, z_rc, q_nz, zg_0, zg_s, zgk_s, zgh_n, zgh_s, zq_n, zq_br, zq_gd, zq_cl2, zqc_s, zq_rt, zq_sw, zq_st, zsws, zent, zpad, zla, zlg, zpop, zrv, zc1, zmk, zob_w, zaw_w, zar_w, zln_w, zld_w, zin_w, zcpg_w, znr_w, List.getElem?_cons_zero, List.getElem?_cons_succ, List.set_cons_zero, List.set_cons_succ, List.length_cons, List.length_nil, Nat.reduceLT, Nat.reduceLeDiff, Nat.reduceAdd, Nat.reduceSub, Nat.reduceMul, Nat.reduceEqDiff, Nat.reduceBEq, ↓reduceIte, q_10, q_01, q_00, q_m1, q_m2, q_m3, q_m4, q_m5, q_n1, q_n2, decide_eq_true_eq, decide_eq_false_iff_not, Bool.and_eq_true, Bool.true_and, Bool.and_true, Bool.decide_and, decide_true, decide_false, Bool.true_eq_false, Bool.false_eq_true, Option.toList_some, Option.toList_none, List.cons_append, List.nil_append, true_and, and_true, and_self, not_true_eq_false, not_false_eq_true, forall_const, false_implies, implies_true, Nat.le_refl, ne_eq, Bool.not_eq_true, eq_self, zshA, zb_rz, zb_ne, zb_eq, qem, true_implies, Nat.zero_le, false_and, and_false, Bool.or_eq_true, or_true, true_or, false_or, or_false, zr_0_0 hR, zr_0_5 hR, zr_0_5 hR1, sp_97, h2, zb_pos, y1, y2, q_on]
  exact zAs_mk ⟨e2, t2, a, hR1⟩
theorem ca_64b (hR : qRk R a b c i) (h : tOK a S D I) (hB : gOK S D) {n : Nat} (hn : n ≤ 60) : ∃ I' R', zcl (d + 8) 64 [.ref 0, .int (nI n), .int 1] (I, J, R, 111) = some (some (.int (gMr S n D)), (I', J, R', 111)) ∧ tS a b i I I' R' := by
  obtain ⟨I1, R1, y1, ⟨V1, k1, x1⟩, ⟨hR1, hf1⟩, f1, g1, g2, g5⟩ := tr_begin (d := d + 6) (J := J) hR h
  obtain ⟨I2, y2, V2, e2, t2, x2⟩ := tr_cut (d := d) (J := J) hR1 hf1 h V1 k1 (gOK_n hB) (by have := hB.2.2.1; omega) (gOK_le hB) hB.2.2.2 (tE_b (tE_r I) f1) g1 g2 g5 (n := n) (by omega)
  have h2 : (0 ≤ nI n ∧ nI n ≤ (60 : Int32)) ↔ True := q_wt (n := 60) hn (by omega)
  rw [x1, Int32.zero_add] at x2
  refine zcl_as (Nat.le_of_ble_eq_true rfl) (zg_wp 60 _ ?_)
  simp only [zpr_64, zhd_64, zp64, zh64, zml_64, o_bad, o_push, o_iload, o_lload, o_aload, o_istore, o_astore, o_lstore, o_iinc, o_ii, o_dv, o_i, o_ll, o_lshl, o_lcmp, o_i2l, o_l2i, o_dup, o_dup2, o_pop, o_goto, o_if, o_ic, o_sw, o_ireturn, o_nreturn, o_lreturn, o_return, o_min, o_max, o_geti, o_getr, o_puti, o_putz, o_putr, o_gets, o_iald, o_lald, o_aald, o_iast, o_last, o_aast, o_alen, o_new, o_newa, o_multi, o_call, o_scall, o_oinit, o_copyi, o_copyl, z_eq, z_ne, z_lt, z_ge, z_gt, z_le, z_ceq, z_cne, z_clt, z_cge, z_cgt, z_cle, z_rz, z_rb, z_rc, q_nz, zg_0, zg_s, zgk_s, zgh_n, zgh_s, zq_n, zq_br, zq_gd, zq_cl2, zqc_s, zq_rt, zq_sw, zq_st, zsws, zent, zpad, zla, zlg, zpop, zrv, zc1, zmk, zob_w, zaw_w, zar_w, zln_w, zld_w, zin_w, zcpg_w, znr_w, List.getElem?_cons_zero, List.getElem?_cons_succ, List.set_cons_zero, List.set_cons_succ, List.length_cons, List.length_nil, Nat.reduceLT, Nat.reduceLeDiff, Nat.reduceAdd, Nat.reduceSub, Nat.reduceMul, Nat.reduceEqDiff, Nat.reduceBEq, ↓reduceIte, q_10, q_01, q_00, q_m1, q_m2, q_m3, q_m4, q_m5, q_n1, q_n2, decide_eq_true_eq, decide_eq_false_iff_not, Bool.and_eq_true, Bool.true_and, Bool.and_true, Bool.decide_and, decide_true, decide_false, Bool.true_eq_false, Bool.false_eq_true, Option.toList_some, Option.toList_none, List.cons_append, List.nil_append, true_and, and_true, and_self, not_true_eq_false, not_false_eq_true, forall_const, false_implies, implies_true, Nat.le_refl, ne_eq, Bool.not_eq_true, eq_self, zshA, zb_rz, zb_ne, zb_eq, qem, true_implies, Nat.zero_le, false_and, and_false, Bool.or_eq_true, or_true, true_or, false_or, or_false, zr_0_0 hR, zr_0_5 hR, zr_0_5 hR1, sp_97, h2, zb_pos, y1, y2, q_on, x2]
  exact zAs_mk ⟨e2, t2, a, hR1⟩
theorem ca_64c (hR : qRk R a b c i) (h : tOK a S D I) (hB : gOK S D) {n s : Nat} (hn : n ≤ 60) (hs : s < g_n S) : ∃ I' R', zcl (d + 8) 64 [.ref 0, .int (nI n), .int (nI (10 + s))] (I, J, R, 111) = some (some (.int (g_l (gWk S n D) s)), (I', J, R', 111)) ∧ tS a b i I I' R' := by
  have hn6 := gOK_n hB
  obtain ⟨I1, R1, y1, ⟨V1, k1, x1⟩, ⟨hR1, hf1⟩, f1, g1, g2, g5⟩ := tr_begin (d := d + 6) (J := J) hR h
  obtain ⟨I2, y2, V2, e2, t2, x2⟩ := tr_cut (d := d) (J := J) hR1 hf1 h V1 k1 (gOK_n hB) (by have := hB.2.2.1; omega) (gOK_le hB) hB.2.2.2 (tE_b (tE_r I) f1) g1 g2 g5 (n := n) (by omega)
  have h2 : (0 ≤ nI n ∧ nI n ≤ (60 : Int32)) ↔ True := q_wt (n := 60) hn (by omega)
  have v0 := h.1.1.1.1
  have v3 := V2.1.2.2.2.1
  have h3 : ¬ nI (10 + s) < 10 := q_tnl (n := 10) (by omega) (by omega)
  have h4 : nI (10 + s) - 10 = nI s := by
    have := q_sub (m := 10 + s) (c := 10) (by omega)
    rw [Nat.add_sub_cancel_left] at this
    exact this
  have h5 : (0 ≤ nI s ∧ nI s < nI (g_n S)) ↔ True := q_st hs (by omega)
  have h6 : (nI (10 + s) = 0) = False := eq_false (fun e => absurd ((q_ge0 (by omega)).mp e) (by omega))
  have h7 : (nI (10 + s) = 1) = False := eq_false (fun e => absurd ((q_eq3 (n := 1) (by omega) (by omega)).mp e) (by omega))
  have e3 := q_row (m := s) (n := 6) (by omega) (by omega)
  refine zcl_as (Nat.le_of_ble_eq_true rfl) (zg_wp 60 _ ?_)
  simp only [zpr_64, zhd_64, zp64, zh64, zml_64, o_bad, o_push, o_iload, o_lload, o_aload, o_istore, o_astore, o_lstore, o_iinc, o_ii, o_dv, o_i, o_ll, o_lshl, o_lcmp, o_i2l, o_l2i, o_dup, o_dup2, o_pop, o_goto, o_if, o_ic, o_sw, o_ireturn, o_nreturn, o_lreturn, o_return, o_min, o_max, o_geti, o_getr, o_puti, o_putz, o_putr, o_gets, o_iald, o_lald, o_aald, o_iast, o_last, o_aast, o_alen, o_new, o_newa, o_multi, o_call, o_scall, o_oinit, o_copyi, o_copyl, z_eq, z_ne, z_lt, z_ge, z_gt, z_le, z_ceq, z_cne, z_clt, z_cge, z_cgt, z_cle, z_rz, z_rb, z_rc, q_nz, zg_0, zg_s, zgk_s, zgh_n, zgh_s, zq_n, zq_br, zq_gd, zq_cl2, zqc_s, zq_rt, zq_sw, zq_st, zsws, zent, zpad, zla, zlg, zpop, zrv, zc1, zmk, zob_w, zaw_w, zar_w, zln_w, zld_w, zin_w, zcpg_w, znr_w, List.getElem?_cons_zero, List.getElem?_cons_succ, List.set_cons_zero, List.set_cons_succ, List.length_cons, List.length_nil, Nat.reduceLT, Nat.reduceLeDiff, Nat.reduceAdd, Nat.reduceSub, Nat.reduceMul, Nat.reduceEqDiff, Nat.reduceBEq, ↓reduceIte, q_10, q_01, q_00, q_m1, q_m2, q_m3, q_m4, q_m5, q_n1, q_n2, decide_eq_true_eq, decide_eq_false_iff_not, Bool.and_eq_true, Bool.true_and, Bool.and_true, Bool.decide_and, decide_true, decide_false, Bool.true_eq_false, Bool.false_eq_true, Option.toList_some, Option.toList_none, List.cons_append, List.nil_append, true_and, and_true, and_self, not_true_eq_false, not_false_eq_true, forall_const, false_implies, implies_true, Nat.le_refl, ne_eq, Bool.not_eq_true, eq_self, zshA, zb_rz, zb_ne, zb_eq, qem, true_implies, Nat.zero_le, false_and, and_false, Bool.or_eq_true, or_true, true_or, false_or, or_false, zr_0_0 hR, zr_0_5 hR, zr_0_5 hR1, zr_19_3 hR1, sp_98 hR, v0, h3, h4, h5, h6, h7, sp_97, h2, zb_pos, y1, y2, v3, e3]
  exact zAs_mk ⟨e2, t2, a, hR1⟩
theorem ca_69 (hR : qRk R a b c i) (h : tOK a S D I) (hB : gOK S D) : ∃ I' R', zcl (d + 8) 69 [.ref 0] (I, J, R, 111) = some (some (.int (gSp S (gWk (gHa1 S 0) 30 D) - gSp S (gWk (gHa1 S 1) 30 D))), (I', J, R', 111)) ∧ tS a b i I I' R' := by
  have one : ∀ (R : zR) (c : Nat) (I0 : zI) (x : Int32), tOK a S D I0 → qRk R a b c i → ∃ I1 R1 I2, zcl (d + 7) 30 [.ref 19, .ref 5] (I0, J, R, 111) = some (none, (I1, J, R1, 111)) ∧ zcl (d + 7) 43 [.ref 19, .int 30] (zup I1 19 11 x, J, R1, 111) = some (some (.int (gSp S (gWk (gHa1 S x) 30 D))), (I2, J, R1, 111)) ∧ tE I0 I2 ∧ iTr (I2 20) (I2 21) (I2 22) (I2 24) ∧ qRk R1 a b a i := by
    intro R c I0 x h hR
    obtain ⟨I1, R1, y1, ⟨V1, k1, x1⟩, ⟨hR1, hf1⟩, f1, g1, g2, g5⟩ := tr_begin (d := d + 6) (J := J) hR h
    have V1' : cV_19 (gHa1 S x) D (zup I1 19 11 x) := by
      unfold cV_19 tV at V1 ⊢
      simp only [zup_row, Nat.reduceEqDiff, ↓reduceIte]
      exact ⟨V1.1, V1.2.1, V1.2.2.1, V1.2.2.2.1, V1.2.2.2.2.1, rfl⟩
    have k1' : kV a (gHa1 S x) (zup I1 19 11 x) := kV_fr (S := gHa1 S x) k1 (fun k h1 h2 => by
      have := zKt_out (t := 19) h.1.2.2 (by decide) h1 h2
      rw [zup_row, if_neg (by omega)])
    have e1 : tE I0 (zup I1 19 11 x) := tE_b (tE_r I0) (fun k hk => by rw [zup_row, if_neg (by omega)]; exact f1 k hk)
    obtain ⟨I2, y2, V2, e2, t2, x2⟩ := tr_cut (d := d) (J := J) hR1 hf1 h V1' k1' (gOK_n hB) (by have := hB.2.2.1; omega) (gOK_le hB) hB.2.2.2 e1 (by rw [zup_row, if_neg (by decide)]; exact g1) (by rw [zup_row, if_neg (by decide)]; exact g2) (by rw [zup_row, if_neg (by decide)]; exact g5) (n := 30) (by omega)
    exact ⟨I1, R1, I2, y1, y2, e2, t2, hR1⟩
  obtain ⟨I1, R1, I2, y1, y2, e2, t2, hR1⟩ := one R c I 0 h hR
  obtain ⟨I3, R3, I4, y3, y4, e4, t4, hR3⟩ := one R1 a I2 1 (tOK_e h e2 t2) hR1
  refine zcl_as (Nat.le_of_ble_eq_true rfl) (zg_wp 60 _ ?_)
  simp only [zpr_69, zhd_69, zp69, zh69, zml_69, o_bad, o_push, o_iload, o_lload, o_aload, o_istore, o_astore, o_lstore, o_iinc, o_ii, o_dv, o_i, o_ll, o_lshl, o_lcmp, o_i2l, o_l2i, o_dup, o_dup2, o_pop, o_goto, o_if, o_ic, o_sw, o_ireturn, o_nreturn, o_lreturn, o_return, o_min, o_max, o_geti, o_getr, o_puti, o_putz, o_putr, o_gets, o_iald, o_lald, o_aald, o_iast, o_last, o_aast, o_alen, o_new, o_newa, o_multi, o_call, o_scall, o_oinit, o_copyi, o_copyl, z_eq, z_ne, z_lt, z_ge, z_gt, z_le, z_ceq, z_cne, z_clt, z_cge, z_cgt, z_cle, z_rz, z_rb, z_rc, q_nz, zg_0, zg_s, zgk_s, zgh_n, zgh_s, zq_n, zq_br, zq_gd, zq_cl2, zqc_s, zq_rt, zq_sw, zq_st, zsws, zent, zpad, zla, zlg, zpop, zrv, zc1, zmk, zob_w, zaw_w, zar_w, zln_w, zld_w, zin_w, zcpg_w, znr_w, List.getElem?_cons_zero, List.getElem?_cons_succ, List.set_cons_zero, List.set_cons_succ, List.length_cons, List.length_nil, Nat.reduceLT, Nat.reduceLeDiff, Nat.reduceAdd, Nat.reduceSub, Nat.reduceMul, Nat.reduceEqDiff, Nat.reduceBEq, ↓reduceIte, q_10, q_01, q_00, q_m1, q_m2, q_m3, q_m4, q_m5, q_n1, q_n2, decide_eq_true_eq, decide_eq_false_iff_not, Bool.and_eq_true, Bool.true_and, Bool.and_true, Bool.decide_and, decide_true, decide_false, Bool.true_eq_false, Bool.false_eq_true, Option.toList_some, Option.toList_none, List.cons_append, List.nil_append, true_and, and_true, and_self, not_true_eq_false, not_false_eq_true, forall_const, false_implies, implies_true, Nat.le_refl, ne_eq, Bool.not_eq_true, eq_self, zshA, zb_rz, zb_ne, zb_eq, qem, true_implies, Nat.zero_le, false_and, and_false, Bool.or_eq_true, or_true, true_or, false_or, or_false, zr_0_0 hR, zr_0_5 hR, zr_0_0 hR1, zr_0_5 hR1, zr_0_5 hR3, y1, y2, y3, y4]
  exact zAs_mk ⟨⟨fun k hk => (e4.1 k hk).trans (e2.1 k hk), e4.2.1.trans e2.2.1, e4.2.2.1.trans e2.2.2.1, fun k hk => (e4.2.2.2 k hk).trans (e2.2.2.2 k hk)⟩, t4, a, hR3⟩
theorem ca_71 (hR : qRk R a b c i) (h : tOK a S D I) (hB : gOK S D) : ∃ I' R', zcl (d + 8) 71 [.ref 0] (I, J, R, 111) = some (some (.int (gSp S (gWk S 30 D) - gSp S (gWk (gGe1 S 0) 30 D))), (I', J, R', 111)) ∧ tS a b i I I' R' := by
  obtain ⟨I1, R1, y1, ⟨V1, k1, x1⟩, ⟨hR1, hf1⟩, f1, g1, g2, g5⟩ := tr_begin (d := d + 6) (J := J) hR h
  obtain ⟨I2, y2, V2, e2, t2, x2⟩ := tr_cut (d := d) (J := J) hR1 hf1 h V1 k1 (gOK_n hB) (by have := hB.2.2.1; omega) (gOK_le hB) hB.2.2.2 (tE_b (tE_r I) f1) g1 g2 g5 (n := 30) (by omega)
  have h2 := tOK_e h e2 t2
  obtain ⟨I3, R3, y3, ⟨V3, k3, x3⟩, ⟨hR3, hf3⟩, f3, g31, g32, g35⟩ := tr_begin (d := d + 6) (J := J) hR1 h2
  have V3' : cV_19 (gGe1 S 0) D (zup I3 19 9 0) := by
    unfold cV_19 tV at V3 ⊢
    simp only [zup_row, Nat.reduceEqDiff, ↓reduceIte]
    exact ⟨V3.1, V3.2.1, V3.2.2.1, rfl, V3.2.2.2.2.1, V3.2.2.2.2.2⟩
  have k3' : kV a (gGe1 S 0) (zup I3 19 9 0) := kV_fr (S := gGe1 S 0) k3 (fun k h1 h2 => by
    have := zKt_out (t := 19) h.1.2.2 (by decide) h1 h2
    rw [zup_row, if_neg (by omega)])
  have e3 : tE I2 (zup I3 19 9 0) := tE_b (tE_r I2) (fun k hk => by rw [zup_row, if_neg (by omega)]; exact f3 k hk)
  have hn6 := gOK_n hB
  have hl0 := gOK_le hB
  obtain ⟨I4, y4, V4, e4, t4, x4⟩ := tr_cut (d := d) (J := J) hR3 hf3 h2 V3' k3' hn6 (by have := hB.2.2.1; omega) hl0 hB.2.2.2 e3 (by rw [zup_row, if_neg (by decide)]; exact g31) (by rw [zup_row, if_neg (by decide)]; exact g32) (by rw [zup_row, if_neg (by decide)]; exact g35) (n := 30) (by omega)
  rw [show nI 30 = 30 from rfl] at y2 y4
  refine zcl_as (Nat.le_of_ble_eq_true rfl) (zg_wp 60 _ ?_)
  simp only [zpr_71, zhd_71, zp71, zh71, zml_71, o_bad, o_push, o_iload, o_lload, o_aload, o_istore, o_astore, o_lstore, o_iinc, o_ii, o_dv, o_i, o_ll, o_lshl, o_lcmp, o_i2l, o_l2i, o_dup, o_dup2, o_pop, o_goto, o_if, o_ic, o_sw, o_ireturn, o_nreturn, o_lreturn, o_return, o_min, o_max, o_geti, o_getr, o_puti, o_putz, o_putr, o_gets, o_iald, o_lald, o_aald, o_iast, o_last, o_aast, o_alen, o_new, o_newa, o_multi, o_call, o_scall, o_oinit, o_copyi, o_copyl, z_eq, z_ne, z_lt, z_ge, z_gt, z_le, z_ceq, z_cne, z_clt, z_cge, z_cgt, z_cle, z_rz, z_rb, z_rc, q_nz, zg_0, zg_s, zgk_s, zgh_n, zgh_s, zq_n, zq_br, zq_gd, zq_cl2, zqc_s, zq_rt, zq_sw, zq_st, zsws, zent, zpad, zla, zlg, zpop, zrv, zc1, zmk, zob_w, zaw_w, zar_w, zln_w, zld_w, zin_w, zcpg_w, znr_w, List.getElem?_cons_zero, List.getElem?_cons_succ, List.set_cons_zero, List.set_cons_succ, List.length_cons, List.length_nil, Nat.reduceLT, Nat.reduceLeDiff, Nat.reduceAdd, Nat.reduceSub, Nat.reduceMul, Nat.reduceEqDiff, Nat.reduceBEq, ↓reduceIte, q_10, q_01, q_00, q_m1, q_m2, q_m3, q_m4, q_m5, q_n1, q_n2, decide_eq_true_eq, decide_eq_false_iff_not, Bool.and_eq_true, Bool.true_and, Bool.and_true, Bool.decide_and, decide_true, decide_false, Bool.true_eq_false, Bool.false_eq_true, Option.toList_some, Option.toList_none, List.cons_append, List.nil_append, true_and, and_true, and_self, not_true_eq_false, not_false_eq_true, forall_const, false_implies, implies_true, Nat.le_refl, ne_eq, Bool.not_eq_true, eq_self, zshA, zb_rz, zb_ne, zb_eq, qem, true_implies, Nat.zero_le, false_and, and_false, Bool.or_eq_true, or_true, true_or, false_or, or_false, zr_0_0 hR, zr_0_5 hR, zr_0_0 hR1, zr_0_5 hR1, zr_0_5 hR3, y1, y2, y3, y4]
  exact zAs_mk ⟨⟨fun k hk => (e4.1 k hk).trans (e2.1 k hk), e4.2.1.trans e2.2.1, e4.2.2.1.trans e2.2.2.1, fun k hk => (e4.2.2.2 k hk).trans (e2.2.2.2 k hk)⟩, t4, a, hR3⟩
end CA
