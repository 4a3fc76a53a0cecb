/-! ===== the class reads a text, a kitchen ===== -/
section KC
variable {d : Nat} {I : zI} {J : zJ} {R : zR} {a b c K N at' : Nat} {i : Option Nat} {cs : List kSy} {js : List (Int32 × Nat)} {g l h : Int32}
theorem kC_w {T : Nat → Int32} (w : Nat) (hw : kCw (kNx T N at') = w) : kC T N at' cs = if (kWd T N (kWs w) at').1 = true then (kCv T N w (kWd T N (kWs w) at').2 cs, (w, (kNu T N (kWd T N (kWs w) at').2).1, (kCv T N w (kWd T N (kWs w) at').2 cs).2.2.length)) else ((false, (kWd T N (kWs w) at').2, cs), (w, 0, 0)) := by
  subst hw
  rfl
theorem q_w6 : ((103 : Int32) = 97 ↔ False) ∧ ((104 : Int32) = 97 ↔ False) ∧ ((104 : Int32) = 103 ↔ False) ∧ ((108 : Int32) = 97 ↔ False) ∧ ((108 : Int32) = 103 ↔ False) ∧ ((108 : Int32) = 104 ↔ False) ∧ ((111 : Int32) = 97 ↔ False) ∧ ((111 : Int32) = 103 ↔ False) ∧ ((111 : Int32) = 104 ↔ False) ∧ ((111 : Int32) = 108 ↔ False) ∧ ((117 : Int32) = 97 ↔ False) ∧ ((117 : Int32) = 103 ↔ False) ∧ ((117 : Int32) = 104 ↔ False) ∧ ((117 : Int32) = 108 ↔ False) ∧ ((117 : Int32) = 111 ↔ False) := by decide
theorem q_wm : ((-1 : Int32) = 97 ↔ False) ∧ ((-1 : Int32) = 103 ↔ False) ∧ ((-1 : Int32) = 104 ↔ False) ∧ ((-1 : Int32) = 108 ↔ False) ∧ ((-1 : Int32) = 111 ↔ False) ∧ ((-1 : Int32) = 117 ↔ False) := by decide
/-- what a clause leaves in the class -/
def kPo (T : Nat → Int32) (N at' : Nat) (cs : List kSy) (js : List (Int32 × Nat)) (g l h : Int32) (js' : List (Int32 × Nat)) (g' l' h' : Int32) : Prop := (kC T N at' cs).1.1 = true → js' = kSj js (kC T N at' cs).2 ∧ g' = kSG g (kC T N at' cs).2 ∧ l' = kSL l (kC T N at' cs).2 ∧ h' = kSH h (kC T N at' cs).2
set_option maxRecDepth 40000 in
theorem sp_20 (hH : kH R I a b c K N) (ha : at' ≤ N) (hc : cs.length ≤ at') (hj : js.length < 10) : ∃ js' g' l' h', zcl (d + 26) 20 [.ref 61] (kX K I at' cs js g l h, J, R, 111) = some (some (.int (kb (kC (I 62) N at' cs).1.1)), (kX K I (kC (I 62) N at' cs).1.2.1 (kC (I 62) N at' cs).1.2.2 js' g' l' h', J, R, 111)) ∧ kPo (I 62) N at' cs js g l h js' g' l' h' := by
  obtain ⟨hR, hK, hN, h100, hT⟩ := id hH
  have kf := kF_of hR hK
  obtain ⟨⟨k1, k2, k3⟩, -⟩ := kf
  by_cases hl : at' < N
  · have hn := kNx_t hH hl
    have e1 : ¬ nI N ≤ nI at' := q_tnle hl (by omega)
    obtain ⟨p1, p2, p3⟩ := q_row (m := at') (n := 100) (by omega) (by omega)
    by_cases h111 : I 62 at' = 111
    · have eC := kC_w (T := I 62) (N := N) (at' := at') (cs := cs) 0 (by rw [hn, h111]; decide)
      have y1 := sp_26_1000 (d := d + 21) (J := J) (cs := cs) (js := js) (g := g) (l := l) (h := h) hH ha
      rw [show zstt 1010 = kWs 0 from rfl] at y1
      obtain ⟨w1, w2, w3⟩ := kWd_b (T := I 62) (N := N) (kWs 0) at' (kWs_1 0 (by decide)) ha
      generalize kWd (I 62) N (kWs 0) at' = W at *
      obtain ⟨W1, W2⟩ := W
      dsimp only at eC y1 w1 w2
      cases W1
      · rw [if_neg (by decide)] at eC
        refine ⟨js, g, l, h, ?_, fun e => by rw [eC] at e; exact nomatch e⟩
        rw [eC]
        refine zcl_of (Nat.le_of_ble_eq_true rfl) (zg_wp 60 _ ?_)
        simp only [zpr_20, zhd_20, zp20, zh20, zml_20, o_bad, o_push, o_iload, o_lload, o_aload, o_istore, o_astore, o_lstore, o_iinc, o_ii, o_dv, o_i, o_ll, o_lshl, o_lcmp, o_i2l, o_l2i, o_dup, o_dup2, o_pop, o_goto, o_if, o_ic, o_sw, o_ireturn, o_nreturn, o_lreturn, o_return, o_min, o_max, o_geti, o_getr, o_puti, o_putz, o_putr, o_gets, o_iald, o_lald, o_aald, o_iast, o_last, o_aast, o_alen, o_new, o_newa, o_multi, o_call, o_scall, o_chk, o_oinit, o_copyi, o_copyl, z_eq, z_ne, z_lt, z_ge, z_gt, z_le, z_ceq, z_cne, z_clt, z_cge, z_cgt, z_cle, z_rz, z_rb, z_rc, q_nz, zg_0, zg_s, zgk_s, zgh_n, zgh_s, zq_n, zq_br, zq_gd, zq_cl2, zqc_s, zq_rt, zq_sw, zq_st, zsws, zent, zpad, zla, zlg, zpop, zrv, zc1, zmk, zob_w, zaw_w, zar_w, zln_w, zld_w, zin_w, zcpg_w, znr_w, List.getElem?_cons_zero, List.getElem?_cons_succ, List.set_cons_zero, List.set_cons_succ, List.length_cons, List.length_nil, Nat.reduceLT, Nat.reduceLeDiff, Nat.reduceAdd, Nat.reduceSub, Nat.reduceMul, Nat.reduceEqDiff, Nat.reduceBEq, ↓reduceIte, q_10, q_01, q_00, q_m1, q_m2, q_m3, q_m4, q_m5, q_n1, q_n2, decide_eq_true_eq, decide_eq_false_iff_not, Bool.and_eq_true, Bool.true_and, Bool.and_true, Bool.decide_and, decide_true, decide_false, Bool.true_eq_false, Bool.false_eq_true, Option.toList_some, Option.toList_none, List.cons_append, List.nil_append, true_and, and_true, and_self, not_true_eq_false, not_false_eq_true, forall_const, false_implies, implies_true, Nat.le_refl, ne_eq, Bool.not_eq_true, eq_self, zshA, zb_rz, zb_ne, zb_eq, qem, true_implies, Nat.zero_le, false_and, and_false, Bool.or_eq_true, or_true, true_or, false_or, or_false, zr_61_0 hR, kX_l, kX_a, kX_t hK, hN, e1, p1, p2, h111, q_w6, y1, kb_f]
      · rw [if_pos rfl] at eC
        have y2 := sp_21 (d := d + 1) (J := J) (js := js) (g := g) (l := l) (h := h) hH w2 (by omega) hj (at' := W2) (cs := cs) 1
        have eV : kCv (I 62) N 0 W2 cs = kJg (I 62) N W2 cs := rfl
        rw [eV] at eC
        generalize kJg (I 62) N W2 cs = X at *
        obtain ⟨X1, X2, X3⟩ := X
        dsimp only at y2 eC
        cases X1
        · refine ⟨js, g, l, h, ?_, fun e => by rw [eC] at e; exact nomatch e⟩
          rw [eC]
          refine zcl_of (Nat.le_of_ble_eq_true rfl) (zg_wp 60 _ ?_)
          simp only [zpr_20, zhd_20, zp20, zh20, zml_20, o_bad, o_push, o_iload, o_lload, o_aload, o_istore, o_astore, o_lstore, o_iinc, o_ii, o_dv, o_i, o_ll, o_lshl, o_lcmp, o_i2l, o_l2i, o_dup, o_dup2, o_pop, o_goto, o_if, o_ic, o_sw, o_ireturn, o_nreturn, o_lreturn, o_return, o_min, o_max, o_geti, o_getr, o_puti, o_putz, o_putr, o_gets, o_iald, o_lald, o_aald, o_iast, o_last, o_aast, o_alen, o_new, o_newa, o_multi, o_call, o_scall, o_chk, o_oinit, o_copyi, o_copyl, z_eq, z_ne, z_lt, z_ge, z_gt, z_le, z_ceq, z_cne, z_clt, z_cge, z_cgt, z_cle, z_rz, z_rb, z_rc, q_nz, zg_0, zg_s, zgk_s, zgh_n, zgh_s, zq_n, zq_br, zq_gd, zq_cl2, zqc_s, zq_rt, zq_sw, zq_st, zsws, zent, zpad, zla, zlg, zpop, zrv, zc1, zmk, zob_w, zaw_w, zar_w, zln_w, zld_w, zin_w, zcpg_w, znr_w, List.getElem?_cons_zero, List.getElem?_cons_succ, List.set_cons_zero, List.set_cons_succ, List.length_cons, List.length_nil, Nat.reduceLT, Nat.reduceLeDiff, Nat.reduceAdd, Nat.reduceSub, Nat.reduceMul, Nat.reduceEqDiff, Nat.reduceBEq, ↓reduceIte, q_10, q_01, q_00, q_m1, q_m2, q_m3, q_m4, q_m5, q_n1, q_n2, decide_eq_true_eq, decide_eq_false_iff_not, Bool.and_eq_true, Bool.true_and, Bool.and_true, Bool.decide_and, decide_true, decide_false, Bool.true_eq_false, Bool.false_eq_true, Option.toList_some, Option.toList_none, List.cons_append, List.nil_append, true_and, and_true, and_self, not_true_eq_false, not_false_eq_true, forall_const, false_implies, implies_true, Nat.le_refl, ne_eq, Bool.not_eq_true, eq_self, zshA, zb_rz, zb_ne, zb_eq, qem, true_implies, Nat.zero_le, false_and, and_false, Bool.or_eq_true, or_true, true_or, false_or, or_false, zr_61_0 hR, kX_l, kX_a, kX_t hK, hN, e1, p1, p2, h111, q_w6, y1, y2, kb_f, kb_t]
        · refine ⟨js ++ [(1 * (kNu (I 62) N W2).1, X3.length)], g, l, h, ?_, fun _ => ?_⟩
          · rw [eC]
            refine zcl_of (Nat.le_of_ble_eq_true rfl) (zg_wp 60 _ ?_)
            simp only [zpr_20, zhd_20, zp20, zh20, zml_20, o_bad, o_push, o_iload, o_lload, o_aload, o_istore, o_astore, o_lstore, o_iinc, o_ii, o_dv, o_i, o_ll, o_lshl, o_lcmp, o_i2l, o_l2i, o_dup, o_dup2, o_pop, o_goto, o_if, o_ic, o_sw, o_ireturn, o_nreturn, o_lreturn, o_return, o_min, o_max, o_geti, o_getr, o_puti, o_putz, o_putr, o_gets, o_iald, o_lald, o_aald, o_iast, o_last, o_aast, o_alen, o_new, o_newa, o_multi, o_call, o_scall, o_chk, o_oinit, o_copyi, o_copyl, z_eq, z_ne, z_lt, z_ge, z_gt, z_le, z_ceq, z_cne, z_clt, z_cge, z_cgt, z_cle, z_rz, z_rb, z_rc, q_nz, zg_0, zg_s, zgk_s, zgh_n, zgh_s, zq_n, zq_br, zq_gd, zq_cl2, zqc_s, zq_rt, zq_sw, zq_st, zsws, zent, zpad, zla, zlg, zpop, zrv, zc1, zmk, zob_w, zaw_w, zar_w, zln_w, zld_w, zin_w, zcpg_w, znr_w, List.getElem?_cons_zero, List.getElem?_cons_succ, List.set_cons_zero, List.set_cons_succ, List.length_cons, List.length_nil, Nat.reduceLT, Nat.reduceLeDiff, Nat.reduceAdd, Nat.reduceSub, Nat.reduceMul, Nat.reduceEqDiff, Nat.reduceBEq, ↓reduceIte, q_10, q_01, q_00, q_m1, q_m2, q_m3, q_m4, q_m5, q_n1, q_n2, decide_eq_true_eq, decide_eq_false_iff_not, Bool.and_eq_true, Bool.true_and, Bool.and_true, Bool.decide_and, decide_true, decide_false, Bool.true_eq_false, Bool.false_eq_true, Option.toList_some, Option.toList_none, List.cons_append, List.nil_append, true_and, and_true, and_self, not_true_eq_false, not_false_eq_true, forall_const, false_implies, implies_true, Nat.le_refl, ne_eq, Bool.not_eq_true, eq_self, zshA, zb_rz, zb_ne, zb_eq, qem, true_implies, Nat.zero_le, false_and, and_false, Bool.or_eq_true, or_true, true_or, false_or, or_false, zr_61_0 hR, kX_l, kX_a, kX_t hK, hN, e1, p1, p2, h111, q_w6, y1, y2, kb_f, kb_t]
          · rw [eC]
            refine ⟨?_, rfl, rfl, rfl⟩
            rw [Int32.one_mul]
            rfl
    by_cases h117 : I 62 at' = 117
    · have eC := kC_w (T := I 62) (N := N) (at' := at') (cs := cs) 1 (by rw [hn, h117]; decide)
      have y1 := sp_26_1001 (d := d + 21) (J := J) (cs := cs) (js := js) (g := g) (l := l) (h := h) hH ha
      rw [show zstt 1011 = kWs 1 from rfl] at y1
      obtain ⟨w1, w2, w3⟩ := kWd_b (T := I 62) (N := N) (kWs 1) at' (kWs_1 1 (by decide)) ha
      generalize kWd (I 62) N (kWs 1) at' = W at *
      obtain ⟨W1, W2⟩ := W
      dsimp only at eC y1 w1 w2
      cases W1
      · rw [if_neg (by decide)] at eC
        refine ⟨js, g, l, h, ?_, fun e => by rw [eC] at e; exact nomatch e⟩
        rw [eC]
        refine zcl_of (Nat.le_of_ble_eq_true rfl) (zg_wp 60 _ ?_)
        simp only [zpr_20, zhd_20, zp20, zh20, zml_20, o_bad, o_push, o_iload, o_lload, o_aload, o_istore, o_astore, o_lstore, o_iinc, o_ii, o_dv, o_i, o_ll, o_lshl, o_lcmp, o_i2l, o_l2i, o_dup, o_dup2, o_pop, o_goto, o_if, o_ic, o_sw, o_ireturn, o_nreturn, o_lreturn, o_return, o_min, o_max, o_geti, o_getr, o_puti, o_putz, o_putr, o_gets, o_iald, o_lald, o_aald, o_iast, o_last, o_aast, o_alen, o_new, o_newa, o_multi, o_call, o_scall, o_chk, o_oinit, o_copyi, o_copyl, z_eq, z_ne, z_lt, z_ge, z_gt, z_le, z_ceq, z_cne, z_clt, z_cge, z_cgt, z_cle, z_rz, z_rb, z_rc, q_nz, zg_0, zg_s, zgk_s, zgh_n, zgh_s, zq_n, zq_br, zq_gd, zq_cl2, zqc_s, zq_rt, zq_sw, zq_st, zsws, zent, zpad, zla, zlg, zpop, zrv, zc1, zmk, zob_w, zaw_w, zar_w, zln_w, zld_w, zin_w, zcpg_w, znr_w, List.getElem?_cons_zero, List.getElem?_cons_succ, List.set_cons_zero, List.set_cons_succ, List.length_cons, List.length_nil, Nat.reduceLT, Nat.reduceLeDiff, Nat.reduceAdd, Nat.reduceSub, Nat.reduceMul, Nat.reduceEqDiff, Nat.reduceBEq, ↓reduceIte, q_10, q_01, q_00, q_m1, q_m2, q_m3, q_m4, q_m5, q_n1, q_n2, decide_eq_true_eq, decide_eq_false_iff_not, Bool.and_eq_true, Bool.true_and, Bool.and_true, Bool.decide_and, decide_true, decide_false, Bool.true_eq_false, Bool.false_eq_true, Option.toList_some, Option.toList_none, List.cons_append, List.nil_append, true_and, and_true, and_self, not_true_eq_false, not_false_eq_true, forall_const, false_implies, implies_true, Nat.le_refl, ne_eq, Bool.not_eq_true, eq_self, zshA, zb_rz, zb_ne, zb_eq, qem, true_implies, Nat.zero_le, false_and, and_false, Bool.or_eq_true, or_true, true_or, false_or, or_false, zr_61_0 hR, kX_l, kX_a, kX_t hK, hN, e1, p1, p2, h117, q_w6, y1, kb_f]
      · rw [if_pos rfl] at eC
        have y2 := sp_21 (d := d + 1) (J := J) (js := js) (g := g) (l := l) (h := h) hH w2 (by omega) hj (at' := W2) (cs := cs) (-1)
        have eV : kCv (I 62) N 1 W2 cs = kJg (I 62) N W2 cs := rfl
        rw [eV] at eC
        generalize kJg (I 62) N W2 cs = X at *
        obtain ⟨X1, X2, X3⟩ := X
        dsimp only at y2 eC
        cases X1
        · refine ⟨js, g, l, h, ?_, fun e => by rw [eC] at e; exact nomatch e⟩
          rw [eC]
          refine zcl_of (Nat.le_of_ble_eq_true rfl) (zg_wp 60 _ ?_)
          simp only [zpr_20, zhd_20, zp20, zh20, zml_20, o_bad, o_push, o_iload, o_lload, o_aload, o_istore, o_astore, o_lstore, o_iinc, o_ii, o_dv, o_i, o_ll, o_lshl, o_lcmp, o_i2l, o_l2i, o_dup, o_dup2, o_pop, o_goto, o_if, o_ic, o_sw, o_ireturn, o_nreturn, o_lreturn, o_return, o_min, o_max, o_geti, o_getr, o_puti, o_putz, o_putr, o_gets, o_iald, o_lald, o_aald, o_iast, o_last, o_aast, o_alen, o_new, o_newa, o_multi, o_call, o_scall, o_chk, o_oinit, o_copyi, o_copyl, z_eq, z_ne, z_lt, z_ge, z_gt, z_le, z_ceq, z_cne, z_clt, z_cge, z_cgt, z_cle, z_rz, z_rb, z_rc, q_nz, zg_0, zg_s, zgk_s, zgh_n, zgh_s, zq_n, zq_br, zq_gd, zq_cl2, zqc_s, zq_rt, zq_sw, zq_st, zsws, zent, zpad, zla, zlg, zpop, zrv, zc1, zmk, zob_w, zaw_w, zar_w, zln_w, zld_w, zin_w, zcpg_w, znr_w, List.getElem?_cons_zero, List.getElem?_cons_succ, List.set_cons_zero, List.set_cons_succ, List.length_cons, List.length_nil, Nat.reduceLT, Nat.reduceLeDiff, Nat.reduceAdd, Nat.reduceSub, Nat.reduceMul, Nat.reduceEqDiff, Nat.reduceBEq, ↓reduceIte, q_10, q_01, q_00, q_m1, q_m2, q_m3, q_m4, q_m5, q_n1, q_n2, decide_eq_true_eq, decide_eq_false_iff_not, Bool.and_eq_true, Bool.true_and, Bool.and_true, Bool.decide_and, decide_true, decide_false, Bool.true_eq_false, Bool.false_eq_true, Option.toList_some, Option.toList_none, List.cons_append, List.nil_append, true_and, and_true, and_self, not_true_eq_false, not_false_eq_true, forall_const, false_implies, implies_true, Nat.le_refl, ne_eq, Bool.not_eq_true, eq_self, zshA, zb_rz, zb_ne, zb_eq, qem, true_implies, Nat.zero_le, false_and, and_false, Bool.or_eq_true, or_true, true_or, false_or, or_false, zr_61_0 hR, kX_l, kX_a, kX_t hK, hN, e1, p1, p2, h117, q_w6, y1, y2, kb_f, kb_t]
        · refine ⟨js ++ [((-1) * (kNu (I 62) N W2).1, X3.length)], g, l, h, ?_, fun _ => ?_⟩
          · rw [eC]
            refine zcl_of (Nat.le_of_ble_eq_true rfl) (zg_wp 60 _ ?_)
            simp only [zpr_20, zhd_20, zp20, zh20, zml_20, o_bad, o_push, o_iload, o_lload, o_aload, o_istore, o_astore, o_lstore, o_iinc, o_ii, o_dv, o_i, o_ll, o_lshl, o_lcmp, o_i2l, o_l2i, o_dup, o_dup2, o_pop, o_goto, o_if, o_ic, o_sw, o_ireturn, o_nreturn, o_lreturn, o_return, o_min, o_max, o_geti, o_getr, o_puti, o_putz, o_putr, o_gets, o_iald, o_lald, o_aald, o_iast, o_last, o_aast, o_alen, o_new, o_newa, o_multi, o_call, o_scall, o_chk, o_oinit, o_copyi, o_copyl, z_eq, z_ne, z_lt, z_ge, z_gt, z_le, z_ceq, z_cne, z_clt, z_cge, z_cgt, z_cle, z_rz, z_rb, z_rc, q_nz, zg_0, zg_s, zgk_s, zgh_n, zgh_s, zq_n, zq_br, zq_gd, zq_cl2, zqc_s, zq_rt, zq_sw, zq_st, zsws, zent, zpad, zla, zlg, zpop, zrv, zc1, zmk, zob_w, zaw_w, zar_w, zln_w, zld_w, zin_w, zcpg_w, znr_w, List.getElem?_cons_zero, List.getElem?_cons_succ, List.set_cons_zero, List.set_cons_succ, List.length_cons, List.length_nil, Nat.reduceLT, Nat.reduceLeDiff, Nat.reduceAdd, Nat.reduceSub, Nat.reduceMul, Nat.reduceEqDiff, Nat.reduceBEq, ↓reduceIte, q_10, q_01, q_00, q_m1, q_m2, q_m3, q_m4, q_m5, q_n1, q_n2, decide_eq_true_eq, decide_eq_false_iff_not, Bool.and_eq_true, Bool.true_and, Bool.and_true, Bool.decide_and, decide_true, decide_false, Bool.true_eq_false, Bool.false_eq_true, Option.toList_some, Option.toList_none, List.cons_append, List.nil_append, true_and, and_true, and_self, not_true_eq_false, not_false_eq_true, forall_const, false_implies, implies_true, Nat.le_refl, ne_eq, Bool.not_eq_true, eq_self, zshA, zb_rz, zb_ne, zb_eq, qem, true_implies, Nat.zero_le, false_and, and_false, Bool.or_eq_true, or_true, true_or, false_or, or_false, zr_61_0 hR, kX_l, kX_a, kX_t hK, hN, e1, p1, p2, h117, q_w6, y1, y2, kb_f, kb_t]
          · rw [eC]
            refine ⟨?_, rfl, rfl, rfl⟩
            rw [← Int32.neg_eq_neg_one_mul]
            rfl
    by_cases h103 : I 62 at' = 103
    · have eC := kC_w (T := I 62) (N := N) (at' := at') (cs := cs) 2 (by rw [hn, h103]; decide)
      have y1 := sp_26_1002 (d := d + 21) (J := J) (cs := cs) (js := js) (g := g) (l := l) (h := h) hH ha
      rw [show zstt 1012 = kWs 2 from rfl] at y1
      obtain ⟨w1, w2, w3⟩ := kWd_b (T := I 62) (N := N) (kWs 2) at' (kWs_1 2 (by decide)) ha
      generalize kWd (I 62) N (kWs 2) at' = W at *
      obtain ⟨W1, W2⟩ := W
      dsimp only at eC y1 w1 w2
      cases W1
      · rw [if_neg (by decide)] at eC
        refine ⟨js, g, l, h, ?_, fun e => by rw [eC] at e; exact nomatch e⟩
        rw [eC]
        refine zcl_of (Nat.le_of_ble_eq_true rfl) (zg_wp 60 _ ?_)
        simp only [zpr_20, zhd_20, zp20, zh20, zml_20, o_bad, o_push, o_iload, o_lload, o_aload, o_istore, o_astore, o_lstore, o_iinc, o_ii, o_dv, o_i, o_ll, o_lshl, o_lcmp, o_i2l, o_l2i, o_dup, o_dup2, o_pop, o_goto, o_if, o_ic, o_sw, o_ireturn, o_nreturn, o_lreturn, o_return, o_min, o_max, o_geti, o_getr, o_puti, o_putz, o_putr, o_gets, o_iald, o_lald, o_aald, o_iast, o_last, o_aast, o_alen, o_new, o_newa, o_multi, o_call, o_scall, o_chk, o_oinit, o_copyi, o_copyl, z_eq, z_ne, z_lt, z_ge, z_gt, z_le, z_ceq, z_cne, z_clt, z_cge, z_cgt, z_cle, z_rz, z_rb, z_rc, q_nz, zg_0, zg_s, zgk_s, zgh_n, zgh_s, zq_n, zq_br, zq_gd, zq_cl2, zqc_s, zq_rt, zq_sw, zq_st, zsws, zent, zpad, zla, zlg, zpop, zrv, zc1, zmk, zob_w, zaw_w, zar_w, zln_w, zld_w, zin_w, zcpg_w, znr_w, List.getElem?_cons_zero, List.getElem?_cons_succ, List.set_cons_zero, List.set_cons_succ, List.length_cons, List.length_nil, Nat.reduceLT, Nat.reduceLeDiff, Nat.reduceAdd, Nat.reduceSub, Nat.reduceMul, Nat.reduceEqDiff, Nat.reduceBEq, ↓reduceIte, q_10, q_01, q_00, q_m1, q_m2, q_m3, q_m4, q_m5, q_n1, q_n2, decide_eq_true_eq, decide_eq_false_iff_not, Bool.and_eq_true, Bool.true_and, Bool.and_true, Bool.decide_and, decide_true, decide_false, Bool.true_eq_false, Bool.false_eq_true, Option.toList_some, Option.toList_none, List.cons_append, List.nil_append, true_and, and_true, and_self, not_true_eq_false, not_false_eq_true, forall_const, false_implies, implies_true, Nat.le_refl, ne_eq, Bool.not_eq_true, eq_self, zshA, zb_rz, zb_ne, zb_eq, qem, true_implies, Nat.zero_le, false_and, and_false, Bool.or_eq_true, or_true, true_or, false_or, or_false, zr_61_0 hR, kX_l, kX_a, kX_t hK, hN, e1, p1, p2, h103, q_w6, y1, kb_f]
      · rw [if_pos rfl] at eC
        have y2 := sp_24 (d := d + 24) (J := J) (cs := cs) (js := js) (g := g) (l := l) (h := h) hH w2 (at' := W2)
        have u := kX_f5 (K := K) (at' := (kNu (I 62) N W2).2) (I := I) (cs := cs) (js := js) (g := g) (l := l) (h := h) (y := (kNu (I 62) N W2).1) hK
        have v : kX K I (kNu (I 62) N W2).2 cs js (kNu (I 62) N W2).1 l h K 5 = (kNu (I 62) N W2).1 := by rw [kX_K hK]; rfl
        have eV : kCv (I 62) N 2 W2 cs = (if (kNu (I 62) N W2).1 < 0 then (false, (kNu (I 62) N W2).2, cs) else (true, (kNu (I 62) N W2).2, cs)) := rfl
        rw [eV] at eC
        refine ⟨js, (kNu (I 62) N W2).1, l, h, ?_, fun _ => ?_⟩
        · by_cases hz : (kNu (I 62) N W2).1 < 0
          · rw [if_pos hz] at eC
            rw [eC]
            refine zcl_of (Nat.le_of_ble_eq_true rfl) (zg_wp 60 _ ?_)
            simp only [zpr_20, zhd_20, zp20, zh20, zml_20, o_bad, o_push, o_iload, o_lload, o_aload, o_istore, o_astore, o_lstore, o_iinc, o_ii, o_dv, o_i, o_ll, o_lshl, o_lcmp, o_i2l, o_l2i, o_dup, o_dup2, o_pop, o_goto, o_if, o_ic, o_sw, o_ireturn, o_nreturn, o_lreturn, o_return, o_min, o_max, o_geti, o_getr, o_puti, o_putz, o_putr, o_gets, o_iald, o_lald, o_aald, o_iast, o_last, o_aast, o_alen, o_new, o_newa, o_multi, o_call, o_scall, o_chk, o_oinit, o_copyi, o_copyl, z_eq, z_ne, z_lt, z_ge, z_gt, z_le, z_ceq, z_cne, z_clt, z_cge, z_cgt, z_cle, z_rz, z_rb, z_rc, q_nz, zg_0, zg_s, zgk_s, zgh_n, zgh_s, zq_n, zq_br, zq_gd, zq_cl2, zqc_s, zq_rt, zq_sw, zq_st, zsws, zent, zpad, zla, zlg, zpop, zrv, zc1, zmk, zob_w, zaw_w, zar_w, zln_w, zld_w, zin_w, zcpg_w, znr_w, List.getElem?_cons_zero, List.getElem?_cons_succ, List.set_cons_zero, List.set_cons_succ, List.length_cons, List.length_nil, Nat.reduceLT, Nat.reduceLeDiff, Nat.reduceAdd, Nat.reduceSub, Nat.reduceMul, Nat.reduceEqDiff, Nat.reduceBEq, ↓reduceIte, q_10, q_01, q_00, q_m1, q_m2, q_m3, q_m4, q_m5, q_n1, q_n2, decide_eq_true_eq, decide_eq_false_iff_not, Bool.and_eq_true, Bool.true_and, Bool.and_true, Bool.decide_and, decide_true, decide_false, Bool.true_eq_false, Bool.false_eq_true, Option.toList_some, Option.toList_none, List.cons_append, List.nil_append, true_and, and_true, and_self, not_true_eq_false, not_false_eq_true, forall_const, false_implies, implies_true, Nat.le_refl, ne_eq, Bool.not_eq_true, eq_self, zshA, zb_rz, zb_ne, zb_eq, qem, true_implies, Nat.zero_le, false_and, and_false, Bool.or_eq_true, or_true, true_or, false_or, or_false, zr_61_0 hR, kX_l, kX_a, kX_t hK, hN, e1, p1, p2, h103, q_w6, y1, y2, hR.2.2.2.2, k1, k2, k3, u, v, hz, kb_f, kb_t]
          · rw [if_neg hz] at eC
            rw [eC]
            refine zcl_of (Nat.le_of_ble_eq_true rfl) (zg_wp 60 _ ?_)
            simp only [zpr_20, zhd_20, zp20, zh20, zml_20, o_bad, o_push, o_iload, o_lload, o_aload, o_istore, o_astore, o_lstore, o_iinc, o_ii, o_dv, o_i, o_ll, o_lshl, o_lcmp, o_i2l, o_l2i, o_dup, o_dup2, o_pop, o_goto, o_if, o_ic, o_sw, o_ireturn, o_nreturn, o_lreturn, o_return, o_min, o_max, o_geti, o_getr, o_puti, o_putz, o_putr, o_gets, o_iald, o_lald, o_aald, o_iast, o_last, o_aast, o_alen, o_new, o_newa, o_multi, o_call, o_scall, o_chk, o_oinit, o_copyi, o_copyl, z_eq, z_ne, z_lt, z_ge, z_gt, z_le, z_ceq, z_cne, z_clt, z_cge, z_cgt, z_cle, z_rz, z_rb, z_rc, q_nz, zg_0, zg_s, zgk_s, zgh_n, zgh_s, zq_n, zq_br, zq_gd, zq_cl2, zqc_s, zq_rt, zq_sw, zq_st, zsws, zent, zpad, zla, zlg, zpop, zrv, zc1, zmk, zob_w, zaw_w, zar_w, zln_w, zld_w, zin_w, zcpg_w, znr_w, List.getElem?_cons_zero, List.getElem?_cons_succ, List.set_cons_zero, List.set_cons_succ, List.length_cons, List.length_nil, Nat.reduceLT, Nat.reduceLeDiff, Nat.reduceAdd, Nat.reduceSub, Nat.reduceMul, Nat.reduceEqDiff, Nat.reduceBEq, ↓reduceIte, q_10, q_01, q_00, q_m1, q_m2, q_m3, q_m4, q_m5, q_n1, q_n2, decide_eq_true_eq, decide_eq_false_iff_not, Bool.and_eq_true, Bool.true_and, Bool.and_true, Bool.decide_and, decide_true, decide_false, Bool.true_eq_false, Bool.false_eq_true, Option.toList_some, Option.toList_none, List.cons_append, List.nil_append, true_and, and_true, and_self, not_true_eq_false, not_false_eq_true, forall_const, false_implies, implies_true, Nat.le_refl, ne_eq, Bool.not_eq_true, eq_self, zshA, zb_rz, zb_ne, zb_eq, qem, true_implies, Nat.zero_le, false_and, and_false, Bool.or_eq_true, or_true, true_or, false_or, or_false, zr_61_0 hR, kX_l, kX_a, kX_t hK, hN, e1, p1, p2, h103, q_w6, y1, y2, hR.2.2.2.2, k1, k2, k3, u, v, hz, kb_f, kb_t]
        · rw [eC]
          exact ⟨rfl, rfl, rfl, rfl⟩
    by_cases h108 : I 62 at' = 108
    · have eC := kC_w (T := I 62) (N := N) (at' := at') (cs := cs) 3 (by rw [hn, h108]; decide)
      have y1 := sp_26_1003 (d := d + 21) (J := J) (cs := cs) (js := js) (g := g) (l := l) (h := h) hH ha
      rw [show zstt 1013 = kWs 3 from rfl] at y1
      obtain ⟨w1, w2, w3⟩ := kWd_b (T := I 62) (N := N) (kWs 3) at' (kWs_1 3 (by decide)) ha
      generalize kWd (I 62) N (kWs 3) at' = W at *
      obtain ⟨W1, W2⟩ := W
      dsimp only at eC y1 w1 w2
      cases W1
      · rw [if_neg (by decide)] at eC
        refine ⟨js, g, l, h, ?_, fun e => by rw [eC] at e; exact nomatch e⟩
        rw [eC]
        refine zcl_of (Nat.le_of_ble_eq_true rfl) (zg_wp 60 _ ?_)
        simp only [zpr_20, zhd_20, zp20, zh20, zml_20, o_bad, o_push, o_iload, o_lload, o_aload, o_istore, o_astore, o_lstore, o_iinc, o_ii, o_dv, o_i, o_ll, o_lshl, o_lcmp, o_i2l, o_l2i, o_dup, o_dup2, o_pop, o_goto, o_if, o_ic, o_sw, o_ireturn, o_nreturn, o_lreturn, o_return, o_min, o_max, o_geti, o_getr, o_puti, o_putz, o_putr, o_gets, o_iald, o_lald, o_aald, o_iast, o_last, o_aast, o_alen, o_new, o_newa, o_multi, o_call, o_scall, o_chk, o_oinit, o_copyi, o_copyl, z_eq, z_ne, z_lt, z_ge, z_gt, z_le, z_ceq, z_cne, z_clt, z_cge, z_cgt, z_cle, z_rz, z_rb, z_rc, q_nz, zg_0, zg_s, zgk_s, zgh_n, zgh_s, zq_n, zq_br, zq_gd, zq_cl2, zqc_s, zq_rt, zq_sw, zq_st, zsws, zent, zpad, zla, zlg, zpop, zrv, zc1, zmk, zob_w, zaw_w, zar_w, zln_w, zld_w, zin_w, zcpg_w, znr_w, List.getElem?_cons_zero, List.getElem?_cons_succ, List.set_cons_zero, List.set_cons_succ, List.length_cons, List.length_nil, Nat.reduceLT, Nat.reduceLeDiff, Nat.reduceAdd, Nat.reduceSub, Nat.reduceMul, Nat.reduceEqDiff, Nat.reduceBEq, ↓reduceIte, q_10, q_01, q_00, q_m1, q_m2, q_m3, q_m4, q_m5, q_n1, q_n2, decide_eq_true_eq, decide_eq_false_iff_not, Bool.and_eq_true, Bool.true_and, Bool.and_true, Bool.decide_and, decide_true, decide_false, Bool.true_eq_false, Bool.false_eq_true, Option.toList_some, Option.toList_none, List.cons_append, List.nil_append, true_and, and_true, and_self, not_true_eq_false, not_false_eq_true, forall_const, false_implies, implies_true, Nat.le_refl, ne_eq, Bool.not_eq_true, eq_self, zshA, zb_rz, zb_ne, zb_eq, qem, true_implies, Nat.zero_le, false_and, and_false, Bool.or_eq_true, or_true, true_or, false_or, or_false, zr_61_0 hR, kX_l, kX_a, kX_t hK, hN, e1, p1, p2, h108, q_w6, y1, kb_f]
      · rw [if_pos rfl] at eC
        have y2 := sp_24 (d := d + 24) (J := J) (cs := cs) (js := js) (g := g) (l := l) (h := h) hH w2 (at' := W2)
        have u := kX_f6 (K := K) (at' := (kNu (I 62) N W2).2) (I := I) (cs := cs) (js := js) (g := g) (l := l) (h := h) (y := (kNu (I 62) N W2).1) hK
        have v : kX K I (kNu (I 62) N W2).2 cs js g (kNu (I 62) N W2).1 h K 6 = (kNu (I 62) N W2).1 := by rw [kX_K hK]; rfl
        have eV : kCv (I 62) N 3 W2 cs = (if (kNu (I 62) N W2).1 < 0 then (false, (kNu (I 62) N W2).2, cs) else (true, (kNu (I 62) N W2).2, cs)) := rfl
        rw [eV] at eC
        refine ⟨js, g, (kNu (I 62) N W2).1, h, ?_, fun _ => ?_⟩
        · by_cases hz : (kNu (I 62) N W2).1 < 0
          · rw [if_pos hz] at eC
            rw [eC]
            refine zcl_of (Nat.le_of_ble_eq_true rfl) (zg_wp 60 _ ?_)
            simp only [zpr_20, zhd_20, zp20, zh20, zml_20, o_bad, o_push, o_iload, o_lload, o_aload, o_istore, o_astore, o_lstore, o_iinc, o_ii, o_dv, o_i, o_ll, o_lshl, o_lcmp, o_i2l, o_l2i, o_dup, o_dup2, o_pop, o_goto, o_if, o_ic, o_sw, o_ireturn, o_nreturn, o_lreturn, o_return, o_min, o_max, o_geti, o_getr, o_puti, o_putz, o_putr, o_gets, o_iald, o_lald, o_aald, o_iast, o_last, o_aast, o_alen, o_new, o_newa, o_multi, o_call, o_scall, o_chk, o_oinit, o_copyi, o_copyl, z_eq, z_ne, z_lt, z_ge, z_gt, z_le, z_ceq, z_cne, z_clt, z_cge, z_cgt, z_cle, z_rz, z_rb, z_rc, q_nz, zg_0, zg_s, zgk_s, zgh_n, zgh_s, zq_n, zq_br, zq_gd, zq_cl2, zqc_s, zq_rt, zq_sw, zq_st, zsws, zent, zpad, zla, zlg, zpop, zrv, zc1, zmk, zob_w, zaw_w, zar_w, zln_w, zld_w, zin_w, zcpg_w, znr_w, List.getElem?_cons_zero, List.getElem?_cons_succ, List.set_cons_zero, List.set_cons_succ, List.length_cons, List.length_nil, Nat.reduceLT, Nat.reduceLeDiff, Nat.reduceAdd, Nat.reduceSub, Nat.reduceMul, Nat.reduceEqDiff, Nat.reduceBEq, ↓reduceIte, q_10, q_01, q_00, q_m1, q_m2, q_m3, q_m4, q_m5, q_n1, q_n2, decide_eq_true_eq, decide_eq_false_iff_not, Bool.and_eq_true, Bool.true_and, Bool.and_true, Bool.decide_and, decide_true, decide_false, Bool.true_eq_false, Bool.false_eq_true, Option.toList_some, Option.toList_none, List.cons_append, List.nil_append, true_and, and_true, and_self, not_true_eq_false, not_false_eq_true, forall_const, false_implies, implies_true, Nat.le_refl, ne_eq, Bool.not_eq_true, eq_self, zshA, zb_rz, zb_ne, zb_eq, qem, true_implies, Nat.zero_le, false_and, and_false, Bool.or_eq_true, or_true, true_or, false_or, or_false, zr_61_0 hR, kX_l, kX_a, kX_t hK, hN, e1, p1, p2, h108, q_w6, y1, y2, hR.2.2.2.2, k1, k2, k3, u, v, hz, kb_f, kb_t]
          · rw [if_neg hz] at eC
            rw [eC]
            refine zcl_of (Nat.le_of_ble_eq_true rfl) (zg_wp 60 _ ?_)
            simp only [zpr_20, zhd_20, zp20, zh20, zml_20, o_bad, o_push, o_iload, o_lload, o_aload, o_istore, o_astore, o_lstore, o_iinc, o_ii, o_dv, o_i, o_ll, o_lshl, o_lcmp, o_i2l, o_l2i, o_dup, o_dup2, o_pop, o_goto, o_if, o_ic, o_sw, o_ireturn, o_nreturn, o_lreturn, o_return, o_min, o_max, o_geti, o_getr, o_puti, o_putz, o_putr, o_gets, o_iald, o_lald, o_aald, o_iast, o_last, o_aast, o_alen, o_new, o_newa, o_multi, o_call, o_scall, o_chk, o_oinit, o_copyi, o_copyl, z_eq, z_ne, z_lt, z_ge, z_gt, z_le, z_ceq, z_cne, z_clt, z_cge, z_cgt, z_cle, z_rz, z_rb, z_rc, q_nz, zg_0, zg_s, zgk_s, zgh_n, zgh_s, zq_n, zq_br, zq_gd, zq_cl2, zqc_s, zq_rt, zq_sw, zq_st, zsws, zent, zpad, zla, zlg, zpop, zrv, zc1, zmk, zob_w, zaw_w, zar_w, zln_w, zld_w, zin_w, zcpg_w, znr_w, List.getElem?_cons_zero, List.getElem?_cons_succ, List.set_cons_zero, List.set_cons_succ, List.length_cons, List.length_nil, Nat.reduceLT, Nat.reduceLeDiff, Nat.reduceAdd, Nat.reduceSub, Nat.reduceMul, Nat.reduceEqDiff, Nat.reduceBEq, ↓reduceIte, q_10, q_01, q_00, q_m1, q_m2, q_m3, q_m4, q_m5, q_n1, q_n2, decide_eq_true_eq, decide_eq_false_iff_not, Bool.and_eq_true, Bool.true_and, Bool.and_true, Bool.decide_and, decide_true, decide_false, Bool.true_eq_false, Bool.false_eq_true, Option.toList_some, Option.toList_none, List.cons_append, List.nil_append, true_and, and_true, and_self, not_true_eq_false, not_false_eq_true, forall_const, false_implies, implies_true, Nat.le_refl, ne_eq, Bool.not_eq_true, eq_self, zshA, zb_rz, zb_ne, zb_eq, qem, true_implies, Nat.zero_le, false_and, and_false, Bool.or_eq_true, or_true, true_or, false_or, or_false, zr_61_0 hR, kX_l, kX_a, kX_t hK, hN, e1, p1, p2, h108, q_w6, y1, y2, hR.2.2.2.2, k1, k2, k3, u, v, hz, kb_f, kb_t]
        · rw [eC]
          exact ⟨rfl, rfl, rfl, rfl⟩
    by_cases h104 : I 62 at' = 104
    · have eC := kC_w (T := I 62) (N := N) (at' := at') (cs := cs) 4 (by rw [hn, h104]; decide)
      have u := kX_f7 (K := K) (at' := at') (I := I) (cs := cs) (js := js) (g := g) (l := l) (h := h) (y := 1) hK
      have y1 := sp_26_1004 (d := d + 21) (J := J) (cs := cs) (js := js) (g := g) (l := l) (h := 1) hH ha
      rw [show zstt 1014 = kWs 4 from rfl] at y1
      generalize kWd (I 62) N (kWs 4) at' = W at *
      obtain ⟨W1, W2⟩ := W
      dsimp only at eC y1
      refine ⟨js, g, l, 1, ?_, fun _ => ?_⟩
      · cases W1
        · rw [if_neg (by decide)] at eC
          rw [eC]
          refine zcl_of (Nat.le_of_ble_eq_true rfl) (zg_wp 60 _ ?_)
          simp only [zpr_20, zhd_20, zp20, zh20, zml_20, o_bad, o_push, o_iload, o_lload, o_aload, o_istore, o_astore, o_lstore, o_iinc, o_ii, o_dv, o_i, o_ll, o_lshl, o_lcmp, o_i2l, o_l2i, o_dup, o_dup2, o_pop, o_goto, o_if, o_ic, o_sw, o_ireturn, o_nreturn, o_lreturn, o_return, o_min, o_max, o_geti, o_getr, o_puti, o_putz, o_putr, o_gets, o_iald, o_lald, o_aald, o_iast, o_last, o_aast, o_alen, o_new, o_newa, o_multi, o_call, o_scall, o_chk, o_oinit, o_copyi, o_copyl, z_eq, z_ne, z_lt, z_ge, z_gt, z_le, z_ceq, z_cne, z_clt, z_cge, z_cgt, z_cle, z_rz, z_rb, z_rc, q_nz, zg_0, zg_s, zgk_s, zgh_n, zgh_s, zq_n, zq_br, zq_gd, zq_cl2, zqc_s, zq_rt, zq_sw, zq_st, zsws, zent, zpad, zla, zlg, zpop, zrv, zc1, zmk, zob_w, zaw_w, zar_w, zln_w, zld_w, zin_w, zcpg_w, znr_w, List.getElem?_cons_zero, List.getElem?_cons_succ, List.set_cons_zero, List.set_cons_succ, List.length_cons, List.length_nil, Nat.reduceLT, Nat.reduceLeDiff, Nat.reduceAdd, Nat.reduceSub, Nat.reduceMul, Nat.reduceEqDiff, Nat.reduceBEq, ↓reduceIte, q_10, q_01, q_00, q_m1, q_m2, q_m3, q_m4, q_m5, q_n1, q_n2, decide_eq_true_eq, decide_eq_false_iff_not, Bool.and_eq_true, Bool.true_and, Bool.and_true, Bool.decide_and, decide_true, decide_false, Bool.true_eq_false, Bool.false_eq_true, Option.toList_some, Option.toList_none, List.cons_append, List.nil_append, true_and, and_true, and_self, not_true_eq_false, not_false_eq_true, forall_const, false_implies, implies_true, Nat.le_refl, ne_eq, Bool.not_eq_true, eq_self, zshA, zb_rz, zb_ne, zb_eq, qem, true_implies, Nat.zero_le, false_and, and_false, Bool.or_eq_true, or_true, true_or, false_or, or_false, zr_61_0 hR, kX_l, kX_a, kX_t hK, hN, e1, p1, p2, h104, q_w6, hR.2.2.2.2, k1, k2, k3, u, y1, kb_f]
        · rw [if_pos rfl] at eC
          rw [eC]
          refine zcl_of (Nat.le_of_ble_eq_true rfl) (zg_wp 60 _ ?_)
          simp only [zpr_20, zhd_20, zp20, zh20, zml_20, o_bad, o_push, o_iload, o_lload, o_aload, o_istore, o_astore, o_lstore, o_iinc, o_ii, o_dv, o_i, o_ll, o_lshl, o_lcmp, o_i2l, o_l2i, o_dup, o_dup2, o_pop, o_goto, o_if, o_ic, o_sw, o_ireturn, o_nreturn, o_lreturn, o_return, o_min, o_max, o_geti, o_getr, o_puti, o_putz, o_putr, o_gets, o_iald, o_lald, o_aald, o_iast, o_last, o_aast, o_alen, o_new, o_newa, o_multi, o_call, o_scall, o_chk, o_oinit, o_copyi, o_copyl, z_eq, z_ne, z_lt, z_ge, z_gt, z_le, z_ceq, z_cne, z_clt, z_cge, z_cgt, z_cle, z_rz, z_rb, z_rc, q_nz, zg_0, zg_s, zgk_s, zgh_n, zgh_s, zq_n, zq_br, zq_gd, zq_cl2, zqc_s, zq_rt, zq_sw, zq_st, zsws, zent, zpad, zla, zlg, zpop, zrv, zc1, zmk, zob_w, zaw_w, zar_w, zln_w, zld_w, zin_w, zcpg_w, znr_w, List.getElem?_cons_zero, List.getElem?_cons_succ, List.set_cons_zero, List.set_cons_succ, List.length_cons, List.length_nil, Nat.reduceLT, Nat.reduceLeDiff, Nat.reduceAdd, Nat.reduceSub, Nat.reduceMul, Nat.reduceEqDiff, Nat.reduceBEq, ↓reduceIte, q_10, q_01, q_00, q_m1, q_m2, q_m3, q_m4, q_m5, q_n1, q_n2, decide_eq_true_eq, decide_eq_false_iff_not, Bool.and_eq_true, Bool.true_and, Bool.and_true, Bool.decide_and, decide_true, decide_false, Bool.true_eq_false, Bool.false_eq_true, Option.toList_some, Option.toList_none, List.cons_append, List.nil_append, true_and, and_true, and_self, not_true_eq_false, not_false_eq_true, forall_const, false_implies, implies_true, Nat.le_refl, ne_eq, Bool.not_eq_true, eq_self, zshA, zb_rz, zb_ne, zb_eq, qem, true_implies, Nat.zero_le, false_and, and_false, Bool.or_eq_true, or_true, true_or, false_or, or_false, zr_61_0 hR, kX_l, kX_a, kX_t hK, hN, e1, p1, p2, h104, q_w6, hR.2.2.2.2, k1, k2, k3, u, y1, kb_t]
          exact ⟨rfl, rfl⟩
      · rw [eC]
        cases W1 <;> exact ⟨rfl, rfl, rfl, rfl⟩
    by_cases h97 : I 62 at' = 97
    · have eC := kC_w (T := I 62) (N := N) (at' := at') (cs := cs) 5 (by rw [hn, h97]; decide)
      have u := kX_f7 (K := K) (at' := at') (I := I) (cs := cs) (js := js) (g := g) (l := l) (h := h) (y := 0) hK
      have y1 := sp_26_1005 (d := d + 21) (J := J) (cs := cs) (js := js) (g := g) (l := l) (h := 0) hH ha
      rw [show zstt 1015 = kWs 5 from rfl] at y1
      generalize kWd (I 62) N (kWs 5) at' = W at *
      obtain ⟨W1, W2⟩ := W
      dsimp only at eC y1
      refine ⟨js, g, l, 0, ?_, fun _ => ?_⟩
      · cases W1
        · rw [if_neg (by decide)] at eC
          rw [eC]
          refine zcl_of (Nat.le_of_ble_eq_true rfl) (zg_wp 60 _ ?_)
          simp only [zpr_20, zhd_20, zp20, zh20, zml_20, o_bad, o_push, o_iload, o_lload, o_aload, o_istore, o_astore, o_lstore, o_iinc, o_ii, o_dv, o_i, o_ll, o_lshl, o_lcmp, o_i2l, o_l2i, o_dup, o_dup2, o_pop, o_goto, o_if, o_ic, o_sw, o_ireturn, o_nreturn, o_lreturn, o_return, o_min, o_max, o_geti, o_getr, o_puti, o_putz, o_putr, o_gets, o_iald, o_lald, o_aald, o_iast, o_last, o_aast, o_alen, o_new, o_newa, o_multi, o_call, o_scall, o_chk, o_oinit, o_copyi, o_copyl, z_eq, z_ne, z_lt, z_ge, z_gt, z_le, z_ceq, z_cne, z_clt, z_cge, z_cgt, z_cle, z_rz, z_rb, z_rc, q_nz, zg_0, zg_s, zgk_s, zgh_n, zgh_s, zq_n, zq_br, zq_gd, zq_cl2, zqc_s, zq_rt, zq_sw, zq_st, zsws, zent, zpad, zla, zlg, zpop, zrv, zc1, zmk, zob_w, zaw_w, zar_w, zln_w, zld_w, zin_w, zcpg_w, znr_w, List.getElem?_cons_zero, List.getElem?_cons_succ, List.set_cons_zero, List.set_cons_succ, List.length_cons, List.length_nil, Nat.reduceLT, Nat.reduceLeDiff, Nat.reduceAdd, Nat.reduceSub, Nat.reduceMul, Nat.reduceEqDiff, Nat.reduceBEq, ↓reduceIte, q_10, q_01, q_00, q_m1, q_m2, q_m3, q_m4, q_m5, q_n1, q_n2, decide_eq_true_eq, decide_eq_false_iff_not, Bool.and_eq_true, Bool.true_and, Bool.and_true, Bool.decide_and, decide_true, decide_false, Bool.true_eq_false, Bool.false_eq_true, Option.toList_some, Option.toList_none, List.cons_append, List.nil_append, true_and, and_true, and_self, not_true_eq_false, not_false_eq_true, forall_const, false_implies, implies_true, Nat.le_refl, ne_eq, Bool.not_eq_true, eq_self, zshA, zb_rz, zb_ne, zb_eq, qem, true_implies, Nat.zero_le, false_and, and_false, Bool.or_eq_true, or_true, true_or, false_or, or_false, zr_61_0 hR, kX_l, kX_a, kX_t hK, hN, e1, p1, p2, h97, q_w6, hR.2.2.2.2, k1, k2, k3, u, y1, kb_f]
        · rw [if_pos rfl] at eC
          rw [eC]
          refine zcl_of (Nat.le_of_ble_eq_true rfl) (zg_wp 60 _ ?_)
          simp only [zpr_20, zhd_20, zp20, zh20, zml_20, o_bad, o_push, o_iload, o_lload, o_aload, o_istore, o_astore, o_lstore, o_iinc, o_ii, o_dv, o_i, o_ll, o_lshl, o_lcmp, o_i2l, o_l2i, o_dup, o_dup2, o_pop, o_goto, o_if, o_ic, o_sw, o_ireturn, o_nreturn, o_lreturn, o_return, o_min, o_max, o_geti, o_getr, o_puti, o_putz, o_putr, o_gets, o_iald, o_lald, o_aald, o_iast, o_last, o_aast, o_alen, o_new, o_newa, o_multi, o_call, o_scall, o_chk, o_oinit, o_copyi, o_copyl, z_eq, z_ne, z_lt, z_ge, z_gt, z_le, z_ceq, z_cne, z_clt, z_cge, z_cgt, z_cle, z_rz, z_rb, z_rc, q_nz, zg_0, zg_s, zgk_s, zgh_n, zgh_s, zq_n, zq_br, zq_gd, zq_cl2, zqc_s, zq_rt, zq_sw, zq_st, zsws, zent, zpad, zla, zlg, zpop, zrv, zc1, zmk, zob_w, zaw_w, zar_w, zln_w, zld_w, zin_w, zcpg_w, znr_w, List.getElem?_cons_zero, List.getElem?_cons_succ, List.set_cons_zero, List.set_cons_succ, List.length_cons, List.length_nil, Nat.reduceLT, Nat.reduceLeDiff, Nat.reduceAdd, Nat.reduceSub, Nat.reduceMul, Nat.reduceEqDiff, Nat.reduceBEq, ↓reduceIte, q_10, q_01, q_00, q_m1, q_m2, q_m3, q_m4, q_m5, q_n1, q_n2, decide_eq_true_eq, decide_eq_false_iff_not, Bool.and_eq_true, Bool.true_and, Bool.and_true, Bool.decide_and, decide_true, decide_false, Bool.true_eq_false, Bool.false_eq_true, Option.toList_some, Option.toList_none, List.cons_append, List.nil_append, true_and, and_true, and_self, not_true_eq_false, not_false_eq_true, forall_const, false_implies, implies_true, Nat.le_refl, ne_eq, Bool.not_eq_true, eq_self, zshA, zb_rz, zb_ne, zb_eq, qem, true_implies, Nat.zero_le, false_and, and_false, Bool.or_eq_true, or_true, true_or, false_or, or_false, zr_61_0 hR, kX_l, kX_a, kX_t hK, hN, e1, p1, p2, h97, q_w6, hR.2.2.2.2, k1, k2, k3, u, y1, kb_t]
          exact ⟨rfl, rfl⟩
      · rw [eC]
        cases W1 <;> exact ⟨rfl, rfl, rfl, rfl⟩
    have eC := kC_w (T := I 62) (N := N) (at' := at') (cs := cs) 5 (by rw [hn]; unfold kCw; rw [if_neg h111, if_neg h117, if_neg h103, if_neg h108, if_neg h104])
    have eW : kWd (I 62) N (kWs 5) at' = (false, at') := by
      show (if kNx (I 62) N at' = 97 then _ else _) = _
      rw [hn, if_neg h97]
    rw [eW, if_neg (show ¬ (false = true) by decide)] at eC
    refine ⟨js, g, l, h, ?_, fun e => by rw [eC] at e; exact nomatch e⟩
    rw [eC]
    refine zcl_of (Nat.le_of_ble_eq_true rfl) (zg_wp 60 _ ?_)
    simp only [zpr_20, zhd_20, zp20, zh20, zml_20, o_bad, o_push, o_iload, o_lload, o_aload, o_istore, o_astore, o_lstore, o_iinc, o_ii, o_dv, o_i, o_ll, o_lshl, o_lcmp, o_i2l, o_l2i, o_dup, o_dup2, o_pop, o_goto, o_if, o_ic, o_sw, o_ireturn, o_nreturn, o_lreturn, o_return, o_min, o_max, o_geti, o_getr, o_puti, o_putz, o_putr, o_gets, o_iald, o_lald, o_aald, o_iast, o_last, o_aast, o_alen, o_new, o_newa, o_multi, o_call, o_scall, o_chk, o_oinit, o_copyi, o_copyl, z_eq, z_ne, z_lt, z_ge, z_gt, z_le, z_ceq, z_cne, z_clt, z_cge, z_cgt, z_cle, z_rz, z_rb, z_rc, q_nz, zg_0, zg_s, zgk_s, zgh_n, zgh_s, zq_n, zq_br, zq_gd, zq_cl2, zqc_s, zq_rt, zq_sw, zq_st, zsws, zent, zpad, zla, zlg, zpop, zrv, zc1, zmk, zob_w, zaw_w, zar_w, zln_w, zld_w, zin_w, zcpg_w, znr_w, List.getElem?_cons_zero, List.getElem?_cons_succ, List.set_cons_zero, List.set_cons_succ, List.length_cons, List.length_nil, Nat.reduceLT, Nat.reduceLeDiff, Nat.reduceAdd, Nat.reduceSub, Nat.reduceMul, Nat.reduceEqDiff, Nat.reduceBEq, ↓reduceIte, q_10, q_01, q_00, q_m1, q_m2, q_m3, q_m4, q_m5, q_n1, q_n2, decide_eq_true_eq, decide_eq_false_iff_not, Bool.and_eq_true, Bool.true_and, Bool.and_true, Bool.decide_and, decide_true, decide_false, Bool.true_eq_false, Bool.false_eq_true, Option.toList_some, Option.toList_none, List.cons_append, List.nil_append, true_and, and_true, and_self, not_true_eq_false, not_false_eq_true, forall_const, false_implies, implies_true, Nat.le_refl, ne_eq, Bool.not_eq_true, eq_self, zshA, zb_rz, zb_ne, zb_eq, qem, true_implies, Nat.zero_le, false_and, and_false, Bool.or_eq_true, or_true, true_or, false_or, or_false, zr_61_0 hR, kX_l, kX_a, kX_t hK, hN, e1, p1, p2, h111, h117, h103, h108, h104, h97, kb_f]
  · have e0 : kNx (I 62) N at' = -1 := if_neg hl
    have e1 : nI N ≤ nI at' := q_tle (by omega) (by omega)
    have eC := kC_w (T := I 62) (N := N) (at' := at') (cs := cs) 5 (by rw [e0]; decide)
    have eW : kWd (I 62) N (kWs 5) at' = (false, at') := by
      show (if kNx (I 62) N at' = 97 then _ else _) = _
      rw [e0, if_neg (by decide)]
    rw [eW, if_neg (show ¬ (false = true) by decide)] at eC
    refine ⟨js, g, l, h, ?_, fun e => by rw [eC] at e; exact nomatch e⟩
    rw [eC]
    refine zcl_of (Nat.le_of_ble_eq_true rfl) (zg_wp 60 _ ?_)
    simp only [zpr_20, zhd_20, zp20, zh20, zml_20, o_bad, o_push, o_iload, o_lload, o_aload, o_istore, o_astore, o_lstore, o_iinc, o_ii, o_dv, o_i, o_ll, o_lshl, o_lcmp, o_i2l, o_l2i, o_dup, o_dup2, o_pop, o_goto, o_if, o_ic, o_sw, o_ireturn, o_nreturn, o_lreturn, o_return, o_min, o_max, o_geti, o_getr, o_puti, o_putz, o_putr, o_gets, o_iald, o_lald, o_aald, o_iast, o_last, o_aast, o_alen, o_new, o_newa, o_multi, o_call, o_scall, o_chk, o_oinit, o_copyi, o_copyl, z_eq, z_ne, z_lt, z_ge, z_gt, z_le, z_ceq, z_cne, z_clt, z_cge, z_cgt, z_cle, z_rz, z_rb, z_rc, q_nz, zg_0, zg_s, zgk_s, zgh_n, zgh_s, zq_n, zq_br, zq_gd, zq_cl2, zqc_s, zq_rt, zq_sw, zq_st, zsws, zent, zpad, zla, zlg, zpop, zrv, zc1, zmk, zob_w, zaw_w, zar_w, zln_w, zld_w, zin_w, zcpg_w, znr_w, List.getElem?_cons_zero, List.getElem?_cons_succ, List.set_cons_zero, List.set_cons_succ, List.length_cons, List.length_nil, Nat.reduceLT, Nat.reduceLeDiff, Nat.reduceAdd, Nat.reduceSub, Nat.reduceMul, Nat.reduceEqDiff, Nat.reduceBEq, ↓reduceIte, q_10, q_01, q_00, q_m1, q_m2, q_m3, q_m4, q_m5, q_n1, q_n2, decide_eq_true_eq, decide_eq_false_iff_not, Bool.and_eq_true, Bool.true_and, Bool.and_true, Bool.decide_and, decide_true, decide_false, Bool.true_eq_false, Bool.false_eq_true, Option.toList_some, Option.toList_none, List.cons_append, List.nil_append, true_and, and_true, and_self, not_true_eq_false, not_false_eq_true, forall_const, false_implies, implies_true, Nat.le_refl, ne_eq, Bool.not_eq_true, eq_self, zshA, zb_rz, zb_ne, zb_eq, qem, true_implies, Nat.zero_le, false_and, and_false, Bool.or_eq_true, or_true, true_or, false_or, or_false, zr_61_0 hR, kX_l, kX_a, hN, e1, q_wm, kb_f]
end KC
