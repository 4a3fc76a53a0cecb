/-! ===== the class reads a whole text; its kitchen ===== -/
section KC
variable {d : Nat} {I : zI} {J : zJ} {R : zR} {a b c K N at' : Nat} {i : Option Nat} {cs : List kSy} {js : List (Int32 × Nat)} {g l h : Int32} {L : List kCs}
def kFo (L : List kCs) (js : List (Int32 × Nat)) (g l h : Int32) : Prop := js = L.foldl kSj [] ∧ g = L.foldl kSG 1 ∧ l = L.foldl kSL 2 ∧ h = L.foldl kSH 0
theorem kFo_s (hF : kFo L js g l h) (z : kCs) : kFo (L ++ [z]) (kSj js z) (kSG g z) (kSL l z) (kSH h z) := by
  obtain ⟨rfl, rfl, rfl, rfl⟩ := hF
  unfold kFo
  simp only [List.foldl_append, List.foldl_cons, List.foldl_nil, and_self]
theorem kSj_l (z : kCs) : (kSj js z).length ≤ js.length + 1 := by
  unfold kSj
  split
  · rw [List.length_append]; exact Nat.le_refl _
  split
  · rw [List.length_append]; exact Nat.le_refl _
  exact Nat.le_succ _
theorem kSH_b : ∀ (L : List kCs) (h : Int32), (h = 0 ∨ h = 1) → (L.foldl kSH h = 0 ∨ L.foldl kSH h = 1)
  | [], h, q => q
  | z :: L, h, q => kSH_b L (kSH h z) (by
    unfold kSH
    split
    · exact .inr rfl
    split
    · exact .inl rfl
    exact q)
def kAll (T : Nat → Int32) (N n at' : Nat) (cs : List kSy) (L : List kCs) (K : Nat) (I : zI) (J : zJ) (R : zR) (r : Option Value) (w : zW) : Prop := ∃ js g l h, (r = some (.int (kb (kT T N n at' cs L).1.1)) ∧ w = (kX K I (kT T N n at' cs L).1.2.1 (kT T N n at' cs L).1.2.2 js g l h, J, R, 111)) ∧ ((kT T N n at' cs L).1.1 = true → kFo (kT T N n at' cs L).2 js g l h)
set_option maxRecDepth 40000 in
theorem sl_19 (hH : kH R I a b c K N) : ∀ (n at' : Nat) (cs : List kSy) (L : List kCs) (js : List (Int32 × Nat)) (g l h : Int32), L.length + n = 10 → at' ≤ N → cs.length ≤ at' → js.length ≤ L.length → kFo L js g l h → zWP (zcl (d + 27)) 19 (19, [some (.ref 61), none, some (.int (nI (L.length + 1)))], [], (kX K I at' cs js g l h, J, R, 111)) (kAll (I 62) N n at' cs L K I J R)
  | 0, at', cs, L, js, g, l, h, hn, ha, hc, hj, hF => by
    have e1 : (10 : Int32) < nI (L.length + 1) := q_tlt (m := 10) (by omega) (by omega)
    refine zg_wp 20 _ ?_
    simp only [zpr_19, zhd_19, zp19, zh19, zml_19, o_bad, o_push, o_iload, o_lload, o_aload, o_istore, o_astore, o_lstore, o_iinc, o_ii, o_dv, o_i, o_ll, o_lshl, o_lcmp, o_i2l, o_l2i, o_dup, o_dup2, o_pop, o_goto, o_if, o_ic, o_sw, o_ireturn, o_nreturn, o_lreturn, o_return, o_min, o_max, o_geti, o_getr, o_puti, o_putz, o_putr, o_gets, o_iald, o_lald, o_aald, o_iast, o_last, o_aast, o_alen, o_new, o_newa, o_multi, o_call, o_scall, o_chk, o_oinit, o_copyi, o_copyl, z_eq, z_ne, z_lt, z_ge, z_gt, z_le, z_ceq, z_cne, z_clt, z_cge, z_cgt, z_cle, z_rz, z_rb, z_rc, q_nz, zg_0, zg_s, zgk_s, zgh_n, zgh_s, zq_n, zq_br, zq_gd, zq_cl2, zqc_s, zq_rt, zq_sw, zq_st, zsws, zent, zpad, zla, zlg, zpop, zrv, zc1, zmk, zob_w, zaw_w, zar_w, zln_w, zld_w, zin_w, zcpg_w, znr_w, List.getElem?_cons_zero, List.getElem?_cons_succ, List.set_cons_zero, List.set_cons_succ, List.length_cons, List.length_nil, Nat.reduceLT, Nat.reduceLeDiff, Nat.reduceAdd, Nat.reduceSub, Nat.reduceMul, Nat.reduceEqDiff, Nat.reduceBEq, ↓reduceIte, q_10, q_01, q_00, q_m1, q_m2, q_m3, q_m4, q_m5, q_n1, q_n2, decide_eq_true_eq, decide_eq_false_iff_not, Bool.and_eq_true, Bool.true_and, Bool.and_true, Bool.decide_and, decide_true, decide_false, Bool.true_eq_false, Bool.false_eq_true, Option.toList_some, Option.toList_none, List.cons_append, List.nil_append, true_and, and_true, and_self, not_true_eq_false, not_false_eq_true, forall_const, false_implies, implies_true, Nat.le_refl, ne_eq, Bool.not_eq_true, eq_self, zshA, zb_rz, zb_ne, zb_eq, qem, true_implies, Nat.zero_le, false_and, and_false, Bool.or_eq_true, or_true, true_or, false_or, or_false, e1]
    exact ⟨js, g, l, h, ⟨rfl, rfl⟩, fun e => nomatch e⟩
  | n + 1, at', cs, L, js, g, l, h, hn, ha, hc, hj, hF => by
    obtain ⟨hR, hK, hN, h100, hT⟩ := id hH
    have e1 : ¬ (10 : Int32) < nI (L.length + 1) := q_tnl (n := L.length + 1) (m := 10) (by omega) (by omega)
    obtain ⟨js', g', l', h', y1, po⟩ := sp_20 (d := d + 1) (J := J) (g := g) (l := l) (h := h) hH ha hc (show js.length < 10 by omega)
    obtain ⟨⟨a1, a2, a3⟩, nw, a4, a5⟩ := kC_b (T := I 62) (cs := cs) ha
    have e2 : nI (L.length + 1) + 1 = nI (L.length + 1 + 1) := q_add3 (n := 1)
    refine zg_wp 60 _ ?_
    unfold kPo at po
    have eT : kT (I 62) N (n + 1) at' cs L = if (kC (I 62) N at' cs).1.1 = true then (if (kC (I 62) N at' cs).1.2.1 = N then ((true, N, (kC (I 62) N at' cs).1.2.2), L ++ [(kC (I 62) N at' cs).2]) else if n = 0 then ((false, (kC (I 62) N at' cs).1.2.1, (kC (I 62) N at' cs).1.2.2), L) else if kNx (I 62) N (kC (I 62) N at' cs).1.2.1 = 59 then kT (I 62) N n ((kC (I 62) N at' cs).1.2.1 + 1) (kC (I 62) N at' cs).1.2.2 (L ++ [(kC (I 62) N at' cs).2]) else ((false, (kC (I 62) N at' cs).1.2.1, (kC (I 62) N at' cs).1.2.2), L)) else ((kC (I 62) N at' cs).1, L) := rfl
    generalize kC (I 62) N at' cs = X at *
    obtain ⟨⟨X1, X2, X3⟩, Z⟩ := X
    dsimp only at y1 po a1 a2 a3 a4 a5 eT
    cases X1
    · rw [if_neg (by decide)] at eT
      simp only [zpr_19, zhd_19, zp19, zh19, zml_19, o_bad, o_push, o_iload, o_lload, o_aload, o_istore, o_astore, o_lstore, o_iinc, o_ii, o_dv, o_i, o_ll, o_lshl, o_lcmp, o_i2l, o_l2i, o_dup, o_dup2, o_pop, o_goto, o_if, o_ic, o_sw, o_ireturn, o_nreturn, o_lreturn, o_return, o_min, o_max, o_geti, o_getr, o_puti, o_putz, o_putr, o_gets, o_iald, o_lald, o_aald, o_iast, o_last, o_aast, o_alen, o_new, o_newa, o_multi, o_call, o_scall, o_chk, o_oinit, o_copyi, o_copyl, z_eq, z_ne, z_lt, z_ge, z_gt, z_le, z_ceq, z_cne, z_clt, z_cge, z_cgt, z_cle, z_rz, z_rb, z_rc, q_nz, zg_0, zg_s, zgk_s, zgh_n, zgh_s, zq_n, zq_br, zq_gd, zq_cl2, zqc_s, zq_rt, zq_sw, zq_st, zsws, zent, zpad, zla, zlg, zpop, zrv, zc1, zmk, zob_w, zaw_w, zar_w, zln_w, zld_w, zin_w, zcpg_w, znr_w, List.getElem?_cons_zero, List.getElem?_cons_succ, List.set_cons_zero, List.set_cons_succ, List.length_cons, List.length_nil, Nat.reduceLT, Nat.reduceLeDiff, Nat.reduceAdd, Nat.reduceSub, Nat.reduceMul, Nat.reduceEqDiff, Nat.reduceBEq, ↓reduceIte, q_10, q_01, q_00, q_m1, q_m2, q_m3, q_m4, q_m5, q_n1, q_n2, decide_eq_true_eq, decide_eq_false_iff_not, Bool.and_eq_true, Bool.true_and, Bool.and_true, Bool.decide_and, decide_true, decide_false, Bool.true_eq_false, Bool.false_eq_true, Option.toList_some, Option.toList_none, List.cons_append, List.nil_append, true_and, and_true, and_self, not_true_eq_false, not_false_eq_true, forall_const, false_implies, implies_true, Nat.le_refl, ne_eq, Bool.not_eq_true, eq_self, zshA, zb_rz, zb_ne, zb_eq, qem, true_implies, Nat.zero_le, false_and, and_false, Bool.or_eq_true, or_true, true_or, false_or, or_false, e1, y1, kb_f]
      unfold kAll
      rw [eT]
      exact ⟨js', g', l', h', ⟨rfl, rfl⟩, fun e => nomatch e⟩
    · rw [if_pos rfl] at eT
      have a6 := a3 rfl
      obtain ⟨rfl, rfl, rfl, rfl⟩ := po rfl
      have hF' := kFo_s hF Z
      by_cases h1 : X2 = N
      · rw [if_pos h1] at eT
        simp only [zpr_19, zhd_19, zp19, zh19, zml_19, o_bad, o_push, o_iload, o_lload, o_aload, o_istore, o_astore, o_lstore, o_iinc, o_ii, o_dv, o_i, o_ll, o_lshl, o_lcmp, o_i2l, o_l2i, o_dup, o_dup2, o_pop, o_goto, o_if, o_ic, o_sw, o_ireturn, o_nreturn, o_lreturn, o_return, o_min, o_max, o_geti, o_getr, o_puti, o_putz, o_putr, o_gets, o_iald, o_lald, o_aald, o_iast, o_last, o_aast, o_alen, o_new, o_newa, o_multi, o_call, o_scall, o_chk, o_oinit, o_copyi, o_copyl, z_eq, z_ne, z_lt, z_ge, z_gt, z_le, z_ceq, z_cne, z_clt, z_cge, z_cgt, z_cle, z_rz, z_rb, z_rc, q_nz, zg_0, zg_s, zgk_s, zgh_n, zgh_s, zq_n, zq_br, zq_gd, zq_cl2, zqc_s, zq_rt, zq_sw, zq_st, zsws, zent, zpad, zla, zlg, zpop, zrv, zc1, zmk, zob_w, zaw_w, zar_w, zln_w, zld_w, zin_w, zcpg_w, znr_w, List.getElem?_cons_zero, List.getElem?_cons_succ, List.set_cons_zero, List.set_cons_succ, List.length_cons, List.length_nil, Nat.reduceLT, Nat.reduceLeDiff, Nat.reduceAdd, Nat.reduceSub, Nat.reduceMul, Nat.reduceEqDiff, Nat.reduceBEq, ↓reduceIte, q_10, q_01, q_00, q_m1, q_m2, q_m3, q_m4, q_m5, q_n1, q_n2, decide_eq_true_eq, decide_eq_false_iff_not, Bool.and_eq_true, Bool.true_and, Bool.and_true, Bool.decide_and, decide_true, decide_false, Bool.true_eq_false, Bool.false_eq_true, Option.toList_some, Option.toList_none, List.cons_append, List.nil_append, true_and, and_true, and_self, not_true_eq_false, not_false_eq_true, forall_const, false_implies, implies_true, Nat.le_refl, ne_eq, Bool.not_eq_true, eq_self, zshA, zb_rz, zb_ne, zb_eq, qem, true_implies, Nat.zero_le, false_and, and_false, Bool.or_eq_true, or_true, true_or, false_or, or_false, e1, y1, kb_t, zr_61_0 hR, kX_l, kX_a, hN, h1]
        unfold kAll
        rw [eT]
        exact ⟨_, _, _, _, ⟨rfl, rfl⟩, fun _ => hF'⟩
      · rw [if_neg h1] at eT
        have e3 : ¬ nI X2 = nI N := fun e => h1 ((q_eq3 (by omega) (by omega)).mp e)
        by_cases h2 : n = 0
        · rw [if_pos h2] at eT
          have e4 : nI (L.length + 1) = 10 := by rw [show L.length + 1 = 10 from by omega]; rfl
          simp only [zpr_19, zhd_19, zp19, zh19, zml_19, o_bad, o_push, o_iload, o_lload, o_aload, o_istore, o_astore, o_lstore, o_iinc, o_ii, o_dv, o_i, o_ll, o_lshl, o_lcmp, o_i2l, o_l2i, o_dup, o_dup2, o_pop, o_goto, o_if, o_ic, o_sw, o_ireturn, o_nreturn, o_lreturn, o_return, o_min, o_max, o_geti, o_getr, o_puti, o_putz, o_putr, o_gets, o_iald, o_lald, o_aald, o_iast, o_last, o_aast, o_alen, o_new, o_newa, o_multi, o_call, o_scall, o_chk, o_oinit, o_copyi, o_copyl, z_eq, z_ne, z_lt, z_ge, z_gt, z_le, z_ceq, z_cne, z_clt, z_cge, z_cgt, z_cle, z_rz, z_rb, z_rc, q_nz, zg_0, zg_s, zgk_s, zgh_n, zgh_s, zq_n, zq_br, zq_gd, zq_cl2, zqc_s, zq_rt, zq_sw, zq_st, zsws, zent, zpad, zla, zlg, zpop, zrv, zc1, zmk, zob_w, zaw_w, zar_w, zln_w, zld_w, zin_w, zcpg_w, znr_w, List.getElem?_cons_zero, List.getElem?_cons_succ, List.set_cons_zero, List.set_cons_succ, List.length_cons, List.length_nil, Nat.reduceLT, Nat.reduceLeDiff, Nat.reduceAdd, Nat.reduceSub, Nat.reduceMul, Nat.reduceEqDiff, Nat.reduceBEq, ↓reduceIte, q_10, q_01, q_00, q_m1, q_m2, q_m3, q_m4, q_m5, q_n1, q_n2, decide_eq_true_eq, decide_eq_false_iff_not, Bool.and_eq_true, Bool.true_and, Bool.and_true, Bool.decide_and, decide_true, decide_false, Bool.true_eq_false, Bool.false_eq_true, Option.toList_some, Option.toList_none, List.cons_append, List.nil_append, true_and, and_true, and_self, not_true_eq_false, not_false_eq_true, forall_const, false_implies, implies_true, Nat.le_refl, ne_eq, Bool.not_eq_true, eq_self, zshA, zb_rz, zb_ne, zb_eq, qem, true_implies, Nat.zero_le, false_and, and_false, Bool.or_eq_true, or_true, true_or, false_or, or_false, e1, y1, kb_t, kX_l, kX_a, hN, e3]
          simp only [zpr_19, zhd_19, zp19, zh19, zml_19, o_bad, o_push, o_iload, o_lload, o_aload, o_istore, o_astore, o_lstore, o_iinc, o_ii, o_dv, o_i, o_ll, o_lshl, o_lcmp, o_i2l, o_l2i, o_dup, o_dup2, o_pop, o_goto, o_if, o_ic, o_sw, o_ireturn, o_nreturn, o_lreturn, o_return, o_min, o_max, o_geti, o_getr, o_puti, o_putz, o_putr, o_gets, o_iald, o_lald, o_aald, o_iast, o_last, o_aast, o_alen, o_new, o_newa, o_multi, o_call, o_scall, o_chk, o_oinit, o_copyi, o_copyl, z_eq, z_ne, z_lt, z_ge, z_gt, z_le, z_ceq, z_cne, z_clt, z_cge, z_cgt, z_cle, z_rz, z_rb, z_rc, q_nz, zg_0, zg_s, zgk_s, zgh_n, zgh_s, zq_n, zq_br, zq_gd, zq_cl2, zqc_s, zq_rt, zq_sw, zq_st, zsws, zent, zpad, zla, zlg, zpop, zrv, zc1, zmk, zob_w, zaw_w, zar_w, zln_w, zld_w, zin_w, zcpg_w, znr_w, List.getElem?_cons_zero, List.getElem?_cons_succ, List.set_cons_zero, List.set_cons_succ, List.length_cons, List.length_nil, Nat.reduceLT, Nat.reduceLeDiff, Nat.reduceAdd, Nat.reduceSub, Nat.reduceMul, Nat.reduceEqDiff, Nat.reduceBEq, ↓reduceIte, q_10, q_01, q_00, q_m1, q_m2, q_m3, q_m4, q_m5, q_n1, q_n2, decide_eq_true_eq, decide_eq_false_iff_not, Bool.and_eq_true, Bool.true_and, Bool.and_true, Bool.decide_and, decide_true, decide_false, Bool.true_eq_false, Bool.false_eq_true, Option.toList_some, Option.toList_none, List.cons_append, List.nil_append, true_and, and_true, and_self, not_true_eq_false, not_false_eq_true, forall_const, false_implies, implies_true, Nat.le_refl, ne_eq, Bool.not_eq_true, eq_self, zshA, zb_rz, zb_ne, zb_eq, qem, true_implies, Nat.zero_le, false_and, and_false, Bool.or_eq_true, or_true, true_or, false_or, or_false, e4]
          unfold kAll
          rw [eT]
          exact ⟨_, _, _, _, ⟨rfl, rfl⟩, fun e => nomatch e⟩
        · rw [if_neg h2] at eT
          have e4 : ¬ nI (L.length + 1) = 10 := q_tne (n := 10) (by omega) (by omega)
          by_cases h3 : kNx (I 62) N X2 = 59
          · rw [if_pos h3] at eT
            have hl := kNx_lt h3 (by decide)
            have y2 := sp_25t (d := d + 26) (J := J) (cs := X3) (js := kSj js Z) (g := kSG g Z) (l := kSL l Z) (h := kSH h Z) hH (by decide) h3
            have lj := kSj_l (js := js) Z
            have z := sl_19 hH n (X2 + 1) X3 (L ++ [Z]) (kSj js Z) (kSG g Z) (kSL l Z) (kSH h Z) (by rw [List.length_append, List.length_cons, List.length_nil]; omega) (by omega) (by rw [a4, List.length_append]; omega) (by rw [List.length_append, List.length_cons, List.length_nil]; omega) hF'
            rw [List.length_append, List.length_cons, List.length_nil] at z
            simp only [zpr_19, zhd_19, zp19, zh19, zml_19, o_bad, o_push, o_iload, o_lload, o_aload, o_istore, o_astore, o_lstore, o_iinc, o_ii, o_dv, o_i, o_ll, o_lshl, o_lcmp, o_i2l, o_l2i, o_dup, o_dup2, o_pop, o_goto, o_if, o_ic, o_sw, o_ireturn, o_nreturn, o_lreturn, o_return, o_min, o_max, o_geti, o_getr, o_puti, o_putz, o_putr, o_gets, o_iald, o_lald, o_aald, o_iast, o_last, o_aast, o_alen, o_new, o_newa, o_multi, o_call, o_scall, o_chk, o_oinit, o_copyi, o_copyl, z_eq, z_ne, z_lt, z_ge, z_gt, z_le, z_ceq, z_cne, z_clt, z_cge, z_cgt, z_cle, z_rz, z_rb, z_rc, q_nz, zg_0, zg_s, zgk_s, zgh_n, zgh_s, zq_n, zq_br, zq_gd, zq_cl2, zqc_s, zq_rt, zq_sw, zq_st, zsws, zent, zpad, zla, zlg, zpop, zrv, zc1, zmk, zob_w, zaw_w, zar_w, zln_w, zld_w, zin_w, zcpg_w, znr_w, List.getElem?_cons_zero, List.getElem?_cons_succ, List.set_cons_zero, List.set_cons_succ, List.length_cons, List.length_nil, Nat.reduceLT, Nat.reduceLeDiff, Nat.reduceAdd, Nat.reduceSub, Nat.reduceMul, Nat.reduceEqDiff, Nat.reduceBEq, ↓reduceIte, q_10, q_01, q_00, q_m1, q_m2, q_m3, q_m4, q_m5, q_n1, q_n2, decide_eq_true_eq, decide_eq_false_iff_not, Bool.and_eq_true, Bool.true_and, Bool.and_true, Bool.decide_and, decide_true, decide_false, Bool.true_eq_false, Bool.false_eq_true, Option.toList_some, Option.toList_none, List.cons_append, List.nil_append, true_and, and_true, and_self, not_true_eq_false, not_false_eq_true, forall_const, false_implies, implies_true, Nat.le_refl, ne_eq, Bool.not_eq_true, eq_self, zshA, zb_rz, zb_ne, zb_eq, qem, true_implies, Nat.zero_le, false_and, and_false, Bool.or_eq_true, or_true, true_or, false_or, or_false, e1, e2, y1, y2, kb_t, kX_l, kX_a, hN, e3, e4]
            unfold kAll
            rw [eT]
            exact z
          · rw [if_neg h3] at eT
            have y2 := sp_25f (d := d + 26) (J := J) (cs := X3) (js := kSj js Z) (g := kSG g Z) (l := kSL l Z) (h := kSH h Z) hH a2 h3
            simp only [zpr_19, zhd_19, zp19, zh19, zml_19, o_bad, o_push, o_iload, o_lload, o_aload, o_istore, o_astore, o_lstore, o_iinc, o_ii, o_dv, o_i, o_ll, o_lshl, o_lcmp, o_i2l, o_l2i, o_dup, o_dup2, o_pop, o_goto, o_if, o_ic, o_sw, o_ireturn, o_nreturn, o_lreturn, o_return, o_min, o_max, o_geti, o_getr, o_puti, o_putz, o_putr, o_gets, o_iald, o_lald, o_aald, o_iast, o_last, o_aast, o_alen, o_new, o_newa, o_multi, o_call, o_scall, o_chk, o_oinit, o_copyi, o_copyl, z_eq, z_ne, z_lt, z_ge, z_gt, z_le, z_ceq, z_cne, z_clt, z_cge, z_cgt, z_cle, z_rz, z_rb, z_rc, q_nz, zg_0, zg_s, zgk_s, zgh_n, zgh_s, zq_n, zq_br, zq_gd, zq_cl2, zqc_s, zq_rt, zq_sw, zq_st, zsws, zent, zpad, zla, zlg, zpop, zrv, zc1, zmk, zob_w, zaw_w, zar_w, zln_w, zld_w, zin_w, zcpg_w, znr_w, List.getElem?_cons_zero, List.getElem?_cons_succ, List.set_cons_zero, List.set_cons_succ, List.length_cons, List.length_nil, Nat.reduceLT, Nat.reduceLeDiff, Nat.reduceAdd, Nat.reduceSub, Nat.reduceMul, Nat.reduceEqDiff, Nat.reduceBEq, ↓reduceIte, q_10, q_01, q_00, q_m1, q_m2, q_m3, q_m4, q_m5, q_n1, q_n2, decide_eq_true_eq, decide_eq_false_iff_not, Bool.and_eq_true, Bool.true_and, Bool.and_true, Bool.decide_and, decide_true, decide_false, Bool.true_eq_false, Bool.false_eq_true, Option.toList_some, Option.toList_none, List.cons_append, List.nil_append, true_and, and_true, and_self, not_true_eq_false, not_false_eq_true, forall_const, false_implies, implies_true, Nat.le_refl, ne_eq, Bool.not_eq_true, eq_self, zshA, zb_rz, zb_ne, zb_eq, qem, true_implies, Nat.zero_le, false_and, and_false, Bool.or_eq_true, or_true, true_or, false_or, or_false, e1, y1, y2, kb_t, kX_l, kX_a, hN, e3, e4]
            unfold kAll
            rw [eT]
            exact ⟨_, _, _, _, ⟨rfl, rfl⟩, fun e => nomatch e⟩
set_option maxRecDepth 40000 in
theorem sp_19 (hR : qRk R a b c i) (hK : zKt K) (hN : I 61 1 = nI N) (h100 : N ≤ 100) (hT : ∀ j, iR (I 62 j) 0 127) : ∃ js g l h, zcl (d + 28) 19 [.ref 61, .ref K] (I, J, R, 111) = some (some (.int (kb (kT (I 62) N 10 0 [] []).1.1)), (kX K I (kT (I 62) N 10 0 [] []).1.2.1 (kT (I 62) N 10 0 [] []).1.2.2 js g l h, J, zup R 61 3 (some K), 111)) ∧ ((kT (I 62) N 10 0 [] []).1.1 = true → kFo (kT (I 62) N 10 0 [] []).2 js g l h) := by
  have hR' : qRk (zup R 61 3 (some K)) a b c (some K) := qRk_put (q := K) hR (.inr ⟨rfl, rfl⟩)
  have hH : kH (zup R 61 3 (some K)) I a b c K N := ⟨hR', hK, hN, h100, hT⟩
  have y1 := sp_7 (d := d + 26) (I := I) (J := J) hR' hK
  have e : zWP (zcl (d + 27)) 19 (zent 19 [.ref 61, .ref K] (I, J, R, 111)) (kAll (I 62) N 10 0 [] [] K I J (zup R 61 3 (some K))) := by
    refine zg_wp 20 _ ?_
    simp only [zpr_19, zhd_19, zp19, zh19, zml_19, o_bad, o_push, o_iload, o_lload, o_aload, o_istore, o_astore, o_lstore, o_iinc, o_ii, o_dv, o_i, o_ll, o_lshl, o_lcmp, o_i2l, o_l2i, o_dup, o_dup2, o_pop, o_goto, o_if, o_ic, o_sw, o_ireturn, o_nreturn, o_lreturn, o_return, o_min, o_max, o_geti, o_getr, o_puti, o_putz, o_putr, o_gets, o_iald, o_lald, o_aald, o_iast, o_last, o_aast, o_alen, o_new, o_newa, o_multi, o_call, o_scall, o_chk, o_oinit, o_copyi, o_copyl, z_eq, z_ne, z_lt, z_ge, z_gt, z_le, z_ceq, z_cne, z_clt, z_cge, z_cgt, z_cle, z_rz, z_rb, z_rc, q_nz, zg_0, zg_s, zgk_s, zgh_n, zgh_s, zq_n, zq_br, zq_gd, zq_cl2, zqc_s, zq_rt, zq_sw, zq_st, zsws, zent, zpad, zla, zlg, zpop, zrv, zc1, zmk, zob_w, zaw_w, zar_w, zln_w, zld_w, zin_w, zcpg_w, znr_w, List.getElem?_cons_zero, List.getElem?_cons_succ, List.set_cons_zero, List.set_cons_succ, List.length_cons, List.length_nil, Nat.reduceLT, Nat.reduceLeDiff, Nat.reduceAdd, Nat.reduceSub, Nat.reduceMul, Nat.reduceEqDiff, Nat.reduceBEq, ↓reduceIte, q_10, q_01, q_00, q_m1, q_m2, q_m3, q_m4, q_m5, q_n1, q_n2, decide_eq_true_eq, decide_eq_false_iff_not, Bool.and_eq_true, Bool.true_and, Bool.and_true, Bool.decide_and, decide_true, decide_false, Bool.true_eq_false, Bool.false_eq_true, Option.toList_some, Option.toList_none, List.cons_append, List.nil_append, true_and, and_true, and_self, not_true_eq_false, not_false_eq_true, forall_const, false_implies, implies_true, Nat.le_refl, ne_eq, Bool.not_eq_true, eq_self, zshA, zb_rz, zb_ne, zb_eq, qem, true_implies, Nat.zero_le, false_and, and_false, Bool.or_eq_true, or_true, true_or, false_or, or_false, hR'.2.2.2.2, (kF_of hR hK).1, y1, kX_0 hK]
    exact sl_19 hH 10 0 [] [] [] 1 2 0 rfl (Nat.zero_le _) (Nat.le_refl _) (Nat.le_refl _) ⟨rfl, rfl, rfl, rfl⟩
  obtain ⟨r, w, q1, js, g, l, h, ⟨q2, q3⟩, q4⟩ := zcl_ex (Nat.le_of_ble_eq_true rfl) e
  exact ⟨js, g, l, h, by rw [q1, q2, q3], q4⟩
end KC
