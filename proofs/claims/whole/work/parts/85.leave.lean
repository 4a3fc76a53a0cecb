/-! ===== leaves: the class, and that it is the same ===== -/
theorem gSc_le {S : gS} {D : gD} : ∀ s : Nat, 0 < s → (gSc S D s).2.1 ≤ (gSc S D s).1
  | 0, h => absurd h (by omega)
  | s + 1, _ => by
    show (if s = 0 ∨ gLk S D s < (gSc S D s).2.1 then gLk S D s else (gSc S D s).2.1) ≤ (if s = 0 ∨ (gSc S D s).1 < gLk S D s then gLk S D s else (gSc S D s).1)
    rcases Nat.eq_zero_or_pos s with h | h
    · rw [if_pos (.inl h), if_pos (.inl h)]
      exact Int32.le_refl _
    · have ih := gSc_le (S := S) (D := D) s h
      by_cases h1 : gLk S D s < (gSc S D s).2.1
      · rw [if_pos (.inr h1)]
        by_cases h2 : (gSc S D s).1 < gLk S D s
        · rw [if_pos (.inr h2)]
          exact Int32.le_refl _
        · rw [if_neg (fun e => e.elim (by omega) h2)]
          exact Int32.not_lt.mp h2
      · rw [if_neg (fun e => e.elim (by omega) h1)]
        by_cases h2 : (gSc S D s).1 < gLk S D s
        · rw [if_pos (.inr h2)]
          exact Int32.not_lt.mp h1
        · rw [if_neg (fun e => e.elim (by omega) h2)]
          exact ih
theorem gGap_n {S : gS} {D : gD} (h : gB S) (q : gBd D) : ∃ g : Nat, g ≤ 3180 ∧ gGap S D = nI g := by
  obtain ⟨a1, a2⟩ := gGap_b h q
  have a3 : 0 ≤ (gGap S D).toInt := by
    rcases Nat.eq_zero_or_pos (g_n S) with e | e
    · rw [gGap_1 (by omega), i0]
      omega
    · have l := gSc_le (S := S) (D := D) (g_n S) e
      rw [Int32.le_iff_toInt_le] at l
      obtain ⟨⟨b1, b2⟩, b3, b4⟩ := gSc_b h q (g_n S)
      unfold gGap
      rw [isub (by omega) (by omega) (by omega) (by omega)]
      omega
  refine ⟨(gGap S D).toInt.toNat, by omega, ?_⟩
  apply Int32.toInt_inj.mp
  rw [nI_toInt (by omega)]
  omega
/-- a snip, or none -/
def gSt (S : gS) (D : gD) : gD := if gGap S D ≤ g_le S then D else gNx S D
/-- the class's search: f steps are left, open ones are below o -/
def gLc (S : gS) : Nat → Nat → Int32 → Int32 → gD → Int32 × Int32
  | 0, _, b, u, _ => (b, u)
  | f + 1, o, b, u, D =>
    if o = 0 then (b, u)
    else if (if f = 0 then 0 else (gGap S D).toNatClampNeg) < o then
      (if gSp S D < u then gLc S f (if f = 0 then 0 else (gGap S D).toNatClampNeg) (nI (o - 1)) (gSp S D) (gSt S D) else gLc S f (if f = 0 then 0 else (gGap S D).toNatClampNeg) b u (gSt S D))
    else gLc S f o b u (gSt S D)
section CA
variable {d : Nat} {J : zJ} {R : zR} {a b c : Nat} {i : Option Nat} {S : gS}
set_option maxRecDepth 40000 in
theorem sl_68 (hR : qRk R a b c i) (hf : R 19 8 = some a) {I0 : zI} {D0 : gD} {S0 : gS} (h0 : tOK a S0 D0 I0) (hB : gB S) {w : Int32} : ∀ (f k o : Nat) (p u : Int32) (D : gD) (I : zI), k + f = 31 → o ≤ 31 → cV_19 S D I → kV a S I → tE I0 I → gBd D → zN 6 (g_l D) → zN 6 (I 20) → zN 6 (I 21) → zN 24 (I 24) → g_m D + f < 1000000 → zWP (zcl (d + 6)) 68 (42, [some (.ref 0), some (.int w), some (.int (nI o)), some (.int p), some (.int u), some (.int (nI k)), none, none], [], (I, J, R, 111)) (zAs (some (.int (if w = 0 then (gLc S f o p u D).1 else (gLc S f o p u D).2))) J (tS a b i I0)) := by
  intro f
  induction f with
  | zero =>
    intro k o p u D I hk ho V hV E hD z1 z2 z3 z4 hm
    have e1 : (30 : Int32) < nI k := q_tlt (m := 30) (by omega) (by omega)
    refine zg_wp 30 _ ?_
    by_cases hw : w = 0
    · simp only [zpr_68, zhd_68, zp68, zh68, zml_68, o_bad, o_push, o_iload, o_lload, o_aload, o_istore, o_astore, o_lstore, o_iinc, o_ii, o_dv, o_i, o_ll, o_lshl, o_lcmp, o_i2l, o_l2i, o_dup, o_dup2, o_pop, o_goto, o_if, o_ic, o_sw, o_ireturn, o_nreturn, o_lreturn, o_return, o_min, o_max, o_geti, o_getr, o_puti, o_putz, o_putr, o_gets, o_iald, o_lald, o_aald, o_iast, o_last, o_aast, o_alen, o_new, o_newa, o_multi, o_call, o_scall, o_oinit, o_copyi, o_copyl, z_eq, z_ne, z_lt, z_ge, z_gt, z_le, z_ceq, z_cne, z_clt, z_cge, z_cgt, z_cle, z_rz, z_rb, z_rc, q_nz, zg_0, zg_s, zgk_s, zgh_n, zgh_s, zq_n, zq_br, zq_gd, zq_cl2, zqc_s, zq_rt, zq_sw, zq_st, zsws, zent, zpad, zla, zlg, zpop, zrv, zc1, zmk, zob_w, zaw_w, zar_w, zln_w, zld_w, zin_w, zcpg_w, znr_w, List.getElem?_cons_zero, List.getElem?_cons_succ, List.set_cons_zero, List.set_cons_succ, List.length_cons, List.length_nil, Nat.reduceLT, Nat.reduceLeDiff, Nat.reduceAdd, Nat.reduceSub, Nat.reduceMul, Nat.reduceEqDiff, Nat.reduceBEq, ↓reduceIte, q_10, q_01, q_00, q_m1, q_m2, q_m3, q_m4, q_m5, q_n1, q_n2, decide_eq_true_eq, decide_eq_false_iff_not, Bool.and_eq_true, Bool.true_and, Bool.and_true, Bool.decide_and, decide_true, decide_false, Bool.true_eq_false, Bool.false_eq_true, Option.toList_some, Option.toList_none, List.cons_append, List.nil_append, true_and, and_true, and_self, not_true_eq_false, not_false_eq_true, forall_const, false_implies, implies_true, Nat.le_refl, ne_eq, Bool.not_eq_true, eq_self, zshA, zb_rz, zb_ne, zb_eq, qem, true_implies, Nat.zero_le, false_and, and_false, Bool.or_eq_true, or_true, true_or, false_or, or_false, e1, hw]
      exact zAs_mk ⟨E, ⟨z2, z3, by rw [V.1.2.2.2.1]; exact z1, z4⟩, c, hR⟩
    · simp only [zpr_68, zhd_68, zp68, zh68, zml_68, o_bad, o_push, o_iload, o_lload, o_aload, o_istore, o_astore, o_lstore, o_iinc, o_ii, o_dv, o_i, o_ll, o_lshl, o_lcmp, o_i2l, o_l2i, o_dup, o_dup2, o_pop, o_goto, o_if, o_ic, o_sw, o_ireturn, o_nreturn, o_lreturn, o_return, o_min, o_max, o_geti, o_getr, o_puti, o_putz, o_putr, o_gets, o_iald, o_lald, o_aald, o_iast, o_last, o_aast, o_alen, o_new, o_newa, o_multi, o_call, o_scall, o_oinit, o_copyi, o_copyl, z_eq, z_ne, z_lt, z_ge, z_gt, z_le, z_ceq, z_cne, z_clt, z_cge, z_cgt, z_cle, z_rz, z_rb, z_rc, q_nz, zg_0, zg_s, zgk_s, zgh_n, zgh_s, zq_n, zq_br, zq_gd, zq_cl2, zqc_s, zq_rt, zq_sw, zq_st, zsws, zent, zpad, zla, zlg, zpop, zrv, zc1, zmk, zob_w, zaw_w, zar_w, zln_w, zld_w, zin_w, zcpg_w, znr_w, List.getElem?_cons_zero, List.getElem?_cons_succ, List.set_cons_zero, List.set_cons_succ, List.length_cons, List.length_nil, Nat.reduceLT, Nat.reduceLeDiff, Nat.reduceAdd, Nat.reduceSub, Nat.reduceMul, Nat.reduceEqDiff, Nat.reduceBEq, ↓reduceIte, q_10, q_01, q_00, q_m1, q_m2, q_m3, q_m4, q_m5, q_n1, q_n2, decide_eq_true_eq, decide_eq_false_iff_not, Bool.and_eq_true, Bool.true_and, Bool.and_true, Bool.decide_and, decide_true, decide_false, Bool.true_eq_false, Bool.false_eq_true, Option.toList_some, Option.toList_none, List.cons_append, List.nil_append, true_and, and_true, and_self, not_true_eq_false, not_false_eq_true, forall_const, false_implies, implies_true, Nat.le_refl, ne_eq, Bool.not_eq_true, eq_self, zshA, zb_rz, zb_ne, zb_eq, qem, true_implies, Nat.zero_le, false_and, and_false, Bool.or_eq_true, or_true, true_or, false_or, or_false, e1, hw]
      exact zAs_mk ⟨E, ⟨z2, z3, by rw [V.1.2.2.2.1]; exact z1, z4⟩, c, hR⟩
  | succ f ih =>
    intro k o p u D I hk ho V hV E hD z1 z2 z3 z4 hm
    have e1 : ¬ (30 : Int32) < nI k := q_tnl (n := k) (m := 30) (by omega) (by omega)
    have e2 := (q_row (m := k) (n := 1000) (by omega) (by omega)).2.2
    rcases Nat.eq_zero_or_pos o with h0' | h0'
    · have e3 : nI o ≤ 0 := q_tle (n := 0) (by omega) (by omega)
      have g : gLc S (f + 1) o p u D = (p, u) := if_pos h0'
      rw [g]
      refine zg_wp 30 _ ?_
      by_cases hw : w = 0
      · simp only [zpr_68, zhd_68, zp68, zh68, zml_68, o_bad, o_push, o_iload, o_lload, o_aload, o_istore, o_astore, o_lstore, o_iinc, o_ii, o_dv, o_i, o_ll, o_lshl, o_lcmp, o_i2l, o_l2i, o_dup, o_dup2, o_pop, o_goto, o_if, o_ic, o_sw, o_ireturn, o_nreturn, o_lreturn, o_return, o_min, o_max, o_geti, o_getr, o_puti, o_putz, o_putr, o_gets, o_iald, o_lald, o_aald, o_iast, o_last, o_aast, o_alen, o_new, o_newa, o_multi, o_call, o_scall, o_oinit, o_copyi, o_copyl, z_eq, z_ne, z_lt, z_ge, z_gt, z_le, z_ceq, z_cne, z_clt, z_cge, z_cgt, z_cle, z_rz, z_rb, z_rc, q_nz, zg_0, zg_s, zgk_s, zgh_n, zgh_s, zq_n, zq_br, zq_gd, zq_cl2, zqc_s, zq_rt, zq_sw, zq_st, zsws, zent, zpad, zla, zlg, zpop, zrv, zc1, zmk, zob_w, zaw_w, zar_w, zln_w, zld_w, zin_w, zcpg_w, znr_w, List.getElem?_cons_zero, List.getElem?_cons_succ, List.set_cons_zero, List.set_cons_succ, List.length_cons, List.length_nil, Nat.reduceLT, Nat.reduceLeDiff, Nat.reduceAdd, Nat.reduceSub, Nat.reduceMul, Nat.reduceEqDiff, Nat.reduceBEq, ↓reduceIte, q_10, q_01, q_00, q_m1, q_m2, q_m3, q_m4, q_m5, q_n1, q_n2, decide_eq_true_eq, decide_eq_false_iff_not, Bool.and_eq_true, Bool.true_and, Bool.and_true, Bool.decide_and, decide_true, decide_false, Bool.true_eq_false, Bool.false_eq_true, Option.toList_some, Option.toList_none, List.cons_append, List.nil_append, true_and, and_true, and_self, not_true_eq_false, not_false_eq_true, forall_const, false_implies, implies_true, Nat.le_refl, ne_eq, Bool.not_eq_true, eq_self, zshA, zb_rz, zb_ne, zb_eq, qem, true_implies, Nat.zero_le, false_and, and_false, Bool.or_eq_true, or_true, true_or, false_or, or_false, e1, e3, hw]
        exact zAs_mk ⟨E, ⟨z2, z3, by rw [V.1.2.2.2.1]; exact z1, z4⟩, c, hR⟩
      · simp only [zpr_68, zhd_68, zp68, zh68, zml_68, o_bad, o_push, o_iload, o_lload, o_aload, o_istore, o_astore, o_lstore, o_iinc, o_ii, o_dv, o_i, o_ll, o_lshl, o_lcmp, o_i2l, o_l2i, o_dup, o_dup2, o_pop, o_goto, o_if, o_ic, o_sw, o_ireturn, o_nreturn, o_lreturn, o_return, o_min, o_max, o_geti, o_getr, o_puti, o_putz, o_putr, o_gets, o_iald, o_lald, o_aald, o_iast, o_last, o_aast, o_alen, o_new, o_newa, o_multi, o_call, o_scall, o_oinit, o_copyi, o_copyl, z_eq, z_ne, z_lt, z_ge, z_gt, z_le, z_ceq, z_cne, z_clt, z_cge, z_cgt, z_cle, z_rz, z_rb, z_rc, q_nz, zg_0, zg_s, zgk_s, zgh_n, zgh_s, zq_n, zq_br, zq_gd, zq_cl2, zqc_s, zq_rt, zq_sw, zq_st, zsws, zent, zpad, zla, zlg, zpop, zrv, zc1, zmk, zob_w, zaw_w, zar_w, zln_w, zld_w, zin_w, zcpg_w, znr_w, List.getElem?_cons_zero, List.getElem?_cons_succ, List.set_cons_zero, List.set_cons_succ, List.length_cons, List.length_nil, Nat.reduceLT, Nat.reduceLeDiff, Nat.reduceAdd, Nat.reduceSub, Nat.reduceMul, Nat.reduceEqDiff, Nat.reduceBEq, ↓reduceIte, q_10, q_01, q_00, q_m1, q_m2, q_m3, q_m4, q_m5, q_n1, q_n2, decide_eq_true_eq, decide_eq_false_iff_not, Bool.and_eq_true, Bool.true_and, Bool.and_true, Bool.decide_and, decide_true, decide_false, Bool.true_eq_false, Bool.false_eq_true, Option.toList_some, Option.toList_none, List.cons_append, List.nil_append, true_and, and_true, and_self, not_true_eq_false, not_false_eq_true, forall_const, false_implies, implies_true, Nat.le_refl, ne_eq, Bool.not_eq_true, eq_self, zshA, zb_rz, zb_ne, zb_eq, qem, true_implies, Nat.zero_le, false_and, and_false, Bool.or_eq_true, or_true, true_or, false_or, or_false, e1, e3, hw]
        exact zAs_mk ⟨E, ⟨z2, z3, by rw [V.1.2.2.2.1]; exact z1, z4⟩, c, hR⟩
    · have e3 : ¬ nI o ≤ 0 := q_tnle (n := 0) h0' (by omega)
      have e4 : nI o - 1 = nI (o - 1) := q_sub (m := o) (c := 1) h0'
      -- the snip behind what is seen
      have snip : ∀ I1, gF_19 I I1 → ∃ r I2, zcl (d + 6) 42 [.ref 19] (I1, J, R, 111) = some (some (.int r), (I2, J, R, 111)) ∧ cV_19 S (gSt S D) I2 ∧ gW_19 I I2 ∧ gBd (gSt S D) ∧ zN 6 (g_l (gSt S D)) ∧ g_m (gSt S D) ≤ g_m D + 1 := by
        intro I1 f1
        by_cases hd : gGap S D ≤ g_le S
        · obtain ⟨I2, y, f2⟩ := sp_42a_19 (d := d) (J := J) hR h0.1.2.2 hf (cV_f_19 V f1) (kV_f_19 h0.1.2.2 hV f1) hB.1 hd
          have g : gSt S D = D := if_pos hd
          rw [g]
          exact ⟨_, I2, y, cV_f_19 (cV_f_19 V f1) f2, gW_t_19 (gF_W_19 f1) (gF_W_19 f2), hD, z1, by omega⟩
        · obtain ⟨I2, y, V2, W2, _⟩ := sp_42b_19 (d := d) (J := J) hR h0.1.2.2 hf (cV_f_19 V f1) (kV_f_19 h0.1.2.2 hV f1) hB.1 (by omega) (gB_le hB) hd
          have g : gSt S D = gNx S D := if_neg hd
          have hl := gLo_lt (gB_le hB) hd
          rw [g]
          exact ⟨_, I2, y, V2, gW_t_19 (gF_W_19 f1) W2, gNx_b hB hD hd, gCu_hi (by have := hB.1; omega) z1, by rw [gNx_m]; omega⟩
      have next : ∀ I1 I2, gF_19 I I1 → gW_19 I I2 → (kV a S I2 ∧ tE I0 I2) ∧ zN 6 (I2 20) ∧ zN 6 (I2 21) ∧ zN 24 (I2 24) := fun I1 I2 _ W => ⟨⟨kV_w_19 h0.1.2.2 hV W, tE_w E W⟩, by rw [W.1 20 (by decide) (by decide) (by decide) (by decide)]; exact z2, by rw [W.1 21 (by decide) (by decide) (by decide) (by decide)]; exact z3, by rw [W.1 24 (by decide) (by decide) (by decide) (by decide)]; exact z4⟩
      rcases Nat.eq_zero_or_pos f with hf0 | hf0
      · -- the thirtieth
        have e5 : (30 : Int32) ≤ nI k := q_tle (m := 30) (by omega) (by omega)
        have e6 : ¬ nI o ≤ 0 := e3
        have y1 := sp_39_19 (d := d + 4) (J := J) hR V hB.1
        obtain ⟨r, I2, y2, V2, W2, b2, zz, m2⟩ := snip I (gF_r_19 I)
        obtain ⟨⟨n1, n2⟩, n3, n4, n5⟩ := next I I2 (gF_r_19 I) W2
        have g0 : (if f = 0 then 0 else (gGap S D).toNatClampNeg) = 0 := if_pos hf0
        refine zg_wp 60 _ ?_
        by_cases hu : gSp S D < u
        · have hu' := Int32.not_le.mpr hu
          have g : gLc S (f + 1) o p u D = gLc S f 0 (nI (o - 1)) (gSp S D) (gSt S D) := by
            show (if o = 0 then _ else if (if f = 0 then 0 else (gGap S D).toNatClampNeg) < o then (if gSp S D < u then gLc S f (if f = 0 then 0 else (gGap S D).toNatClampNeg) (nI (o - 1)) (gSp S D) (gSt S D) else _) else _) = _
            rw [g0, if_neg (by omega), if_pos h0', if_pos hu]
          rw [g]
          simp only [zpr_68, zhd_68, zp68, zh68, zml_68, o_bad, o_push, o_iload, o_lload, o_aload, o_istore, o_astore, o_lstore, o_iinc, o_ii, o_dv, o_i, o_ll, o_lshl, o_lcmp, o_i2l, o_l2i, o_dup, o_dup2, o_pop, o_goto, o_if, o_ic, o_sw, o_ireturn, o_nreturn, o_lreturn, o_return, o_min, o_max, o_geti, o_getr, o_puti, o_putz, o_putr, o_gets, o_iald, o_lald, o_aald, o_iast, o_last, o_aast, o_alen, o_new, o_newa, o_multi, o_call, o_scall, o_oinit, o_copyi, o_copyl, z_eq, z_ne, z_lt, z_ge, z_gt, z_le, z_ceq, z_cne, z_clt, z_cge, z_cgt, z_cle, z_rz, z_rb, z_rc, q_nz, zg_0, zg_s, zgk_s, zgh_n, zgh_s, zq_n, zq_br, zq_gd, zq_cl2, zqc_s, zq_rt, zq_sw, zq_st, zsws, zent, zpad, zla, zlg, zpop, zrv, zc1, zmk, zob_w, zaw_w, zar_w, zln_w, zld_w, zin_w, zcpg_w, znr_w, List.getElem?_cons_zero, List.getElem?_cons_succ, List.set_cons_zero, List.set_cons_succ, List.length_cons, List.length_nil, Nat.reduceLT, Nat.reduceLeDiff, Nat.reduceAdd, Nat.reduceSub, Nat.reduceMul, Nat.reduceEqDiff, Nat.reduceBEq, ↓reduceIte, q_10, q_01, q_00, q_m1, q_m2, q_m3, q_m4, q_m5, q_n1, q_n2, decide_eq_true_eq, decide_eq_false_iff_not, Bool.and_eq_true, Bool.true_and, Bool.and_true, Bool.decide_and, decide_true, decide_false, Bool.true_eq_false, Bool.false_eq_true, Option.toList_some, Option.toList_none, List.cons_append, List.nil_append, true_and, and_true, and_self, not_true_eq_false, not_false_eq_true, forall_const, false_implies, implies_true, Nat.le_refl, ne_eq, Bool.not_eq_true, eq_self, zshA, zb_rz, zb_ne, zb_eq, qem, true_implies, Nat.zero_le, false_and, and_false, Bool.or_eq_true, or_true, true_or, false_or, or_false, e1, e2, e3, e4, e5, zr_0_5 hR, y1, y2, hu']
          exact ih (k + 1) 0 _ _ _ I2 (by omega) (by omega) V2 n1 n2 b2 zz n3 n4 n5 (by omega)
        · have hu' := Int32.not_lt.mp hu
          have g : gLc S (f + 1) o p u D = gLc S f 0 p u (gSt S D) := by
            show (if o = 0 then _ else if (if f = 0 then 0 else (gGap S D).toNatClampNeg) < o then (if gSp S D < u then _ else gLc S f (if f = 0 then 0 else (gGap S D).toNatClampNeg) p u (gSt S D)) else _) = _
            rw [g0, if_neg (by omega), if_pos h0', if_neg hu]
          rw [g]
          simp only [zpr_68, zhd_68, zp68, zh68, zml_68, o_bad, o_push, o_iload, o_lload, o_aload, o_istore, o_astore, o_lstore, o_iinc, o_ii, o_dv, o_i, o_ll, o_lshl, o_lcmp, o_i2l, o_l2i, o_dup, o_dup2, o_pop, o_goto, o_if, o_ic, o_sw, o_ireturn, o_nreturn, o_lreturn, o_return, o_min, o_max, o_geti, o_getr, o_puti, o_putz, o_putr, o_gets, o_iald, o_lald, o_aald, o_iast, o_last, o_aast, o_alen, o_new, o_newa, o_multi, o_call, o_scall, o_oinit, o_copyi, o_copyl, z_eq, z_ne, z_lt, z_ge, z_gt, z_le, z_ceq, z_cne, z_clt, z_cge, z_cgt, z_cle, z_rz, z_rb, z_rc, q_nz, zg_0, zg_s, zgk_s, zgh_n, zgh_s, zq_n, zq_br, zq_gd, zq_cl2, zqc_s, zq_rt, zq_sw, zq_st, zsws, zent, zpad, zla, zlg, zpop, zrv, zc1, zmk, zob_w, zaw_w, zar_w, zln_w, zld_w, zin_w, zcpg_w, znr_w, List.getElem?_cons_zero, List.getElem?_cons_succ, List.set_cons_zero, List.set_cons_succ, List.length_cons, List.length_nil, Nat.reduceLT, Nat.reduceLeDiff, Nat.reduceAdd, Nat.reduceSub, Nat.reduceMul, Nat.reduceEqDiff, Nat.reduceBEq, ↓reduceIte, q_10, q_01, q_00, q_m1, q_m2, q_m3, q_m4, q_m5, q_n1, q_n2, decide_eq_true_eq, decide_eq_false_iff_not, Bool.and_eq_true, Bool.true_and, Bool.and_true, Bool.decide_and, decide_true, decide_false, Bool.true_eq_false, Bool.false_eq_true, Option.toList_some, Option.toList_none, List.cons_append, List.nil_append, true_and, and_true, and_self, not_true_eq_false, not_false_eq_true, forall_const, false_implies, implies_true, Nat.le_refl, ne_eq, Bool.not_eq_true, eq_self, zshA, zb_rz, zb_ne, zb_eq, qem, true_implies, Nat.zero_le, false_and, and_false, Bool.or_eq_true, or_true, true_or, false_or, or_false, e1, e2, e3, e4, e5, zr_0_5 hR, y1, y2, hu']
          exact ih (k + 1) 0 _ _ _ I2 (by omega) (by omega) V2 n1 n2 b2 zz n3 n4 n5 (by omega)
      · have e5 : ¬ (30 : Int32) ≤ nI k := q_tnle (m := 30) (by omega) (by omega)
        obtain ⟨gg, hgg, eg⟩ := gGap_n hB hD
        have g0 : (if f = 0 then 0 else (gGap S D).toNatClampNeg) = gg := by rw [if_neg (by omega), eg, nI_clamp (by omega)]
        obtain ⟨I1, y0, f1, _⟩ := sp_40_19 (d := d + 1) (J := J) hR h0.1.2.2 hf V hV hB.1
        rw [eg] at y0
        have y1 := sp_39_19 (d := d + 4) (J := J) hR (cV_f_19 V f1) hB.1
        obtain ⟨r, I2, y2, V2, W2, b2, zz, m2⟩ := snip I1 f1
        obtain ⟨⟨n1, n2⟩, n3, n4, n5⟩ := next I1 I2 f1 W2
        refine zg_wp 60 _ ?_
        by_cases hg : gg < o
        · have hg' : ¬ nI o ≤ nI gg := q_tnle hg (by omega)
          by_cases hu : gSp S D < u
          · have hu' := Int32.not_le.mpr hu
            have g : gLc S (f + 1) o p u D = gLc S f gg (nI (o - 1)) (gSp S D) (gSt S D) := by
              show (if o = 0 then _ else if (if f = 0 then 0 else (gGap S D).toNatClampNeg) < o then (if gSp S D < u then gLc S f (if f = 0 then 0 else (gGap S D).toNatClampNeg) (nI (o - 1)) (gSp S D) (gSt S D) else _) else _) = _
              rw [g0, if_neg (by omega), if_pos hg, if_pos hu]
            rw [g]
            simp only [zpr_68, zhd_68, zp68, zh68, zml_68, o_bad, o_push, o_iload, o_lload, o_aload, o_istore, o_astore, o_lstore, o_iinc, o_ii, o_dv, o_i, o_ll, o_lshl, o_lcmp, o_i2l, o_l2i, o_dup, o_dup2, o_pop, o_goto, o_if, o_ic, o_sw, o_ireturn, o_nreturn, o_lreturn, o_return, o_min, o_max, o_geti, o_getr, o_puti, o_putz, o_putr, o_gets, o_iald, o_lald, o_aald, o_iast, o_last, o_aast, o_alen, o_new, o_newa, o_multi, o_call, o_scall, o_oinit, o_copyi, o_copyl, z_eq, z_ne, z_lt, z_ge, z_gt, z_le, z_ceq, z_cne, z_clt, z_cge, z_cgt, z_cle, z_rz, z_rb, z_rc, q_nz, zg_0, zg_s, zgk_s, zgh_n, zgh_s, zq_n, zq_br, zq_gd, zq_cl2, zqc_s, zq_rt, zq_sw, zq_st, zsws, zent, zpad, zla, zlg, zpop, zrv, zc1, zmk, zob_w, zaw_w, zar_w, zln_w, zld_w, zin_w, zcpg_w, znr_w, List.getElem?_cons_zero, List.getElem?_cons_succ, List.set_cons_zero, List.set_cons_succ, List.length_cons, List.length_nil, Nat.reduceLT, Nat.reduceLeDiff, Nat.reduceAdd, Nat.reduceSub, Nat.reduceMul, Nat.reduceEqDiff, Nat.reduceBEq, ↓reduceIte, q_10, q_01, q_00, q_m1, q_m2, q_m3, q_m4, q_m5, q_n1, q_n2, decide_eq_true_eq, decide_eq_false_iff_not, Bool.and_eq_true, Bool.true_and, Bool.and_true, Bool.decide_and, decide_true, decide_false, Bool.true_eq_false, Bool.false_eq_true, Option.toList_some, Option.toList_none, List.cons_append, List.nil_append, true_and, and_true, and_self, not_true_eq_false, not_false_eq_true, forall_const, false_implies, implies_true, Nat.le_refl, ne_eq, Bool.not_eq_true, eq_self, zshA, zb_rz, zb_ne, zb_eq, qem, true_implies, Nat.zero_le, false_and, and_false, Bool.or_eq_true, or_true, true_or, false_or, or_false, e1, e2, e3, e4, e5, zr_0_5 hR, y0, y1, y2, hg', hu']
            exact ih (k + 1) gg _ _ _ I2 (by omega) (by omega) V2 n1 n2 b2 zz n3 n4 n5 (by omega)
          · have hu' := Int32.not_lt.mp hu
            have g : gLc S (f + 1) o p u D = gLc S f gg p u (gSt S D) := by
              show (if o = 0 then _ else if (if f = 0 then 0 else (gGap S D).toNatClampNeg) < o then (if gSp S D < u then _ else gLc S f (if f = 0 then 0 else (gGap S D).toNatClampNeg) p u (gSt S D)) else _) = _
              rw [g0, if_neg (by omega), if_pos hg, if_neg hu]
            rw [g]
            simp only [zpr_68, zhd_68, zp68, zh68, zml_68, o_bad, o_push, o_iload, o_lload, o_aload, o_istore, o_astore, o_lstore, o_iinc, o_ii, o_dv, o_i, o_ll, o_lshl, o_lcmp, o_i2l, o_l2i, o_dup, o_dup2, o_pop, o_goto, o_if, o_ic, o_sw, o_ireturn, o_nreturn, o_lreturn, o_return, o_min, o_max, o_geti, o_getr, o_puti, o_putz, o_putr, o_gets, o_iald, o_lald, o_aald, o_iast, o_last, o_aast, o_alen, o_new, o_newa, o_multi, o_call, o_scall, o_oinit, o_copyi, o_copyl, z_eq, z_ne, z_lt, z_ge, z_gt, z_le, z_ceq, z_cne, z_clt, z_cge, z_cgt, z_cle, z_rz, z_rb, z_rc, q_nz, zg_0, zg_s, zgk_s, zgh_n, zgh_s, zq_n, zq_br, zq_gd, zq_cl2, zqc_s, zq_rt, zq_sw, zq_st, zsws, zent, zpad, zla, zlg, zpop, zrv, zc1, zmk, zob_w, zaw_w, zar_w, zln_w, zld_w, zin_w, zcpg_w, znr_w, List.getElem?_cons_zero, List.getElem?_cons_succ, List.set_cons_zero, List.set_cons_succ, List.length_cons, List.length_nil, Nat.reduceLT, Nat.reduceLeDiff, Nat.reduceAdd, Nat.reduceSub, Nat.reduceMul, Nat.reduceEqDiff, Nat.reduceBEq, ↓reduceIte, q_10, q_01, q_00, q_m1, q_m2, q_m3, q_m4, q_m5, q_n1, q_n2, decide_eq_true_eq, decide_eq_false_iff_not, Bool.and_eq_true, Bool.true_and, Bool.and_true, Bool.decide_and, decide_true, decide_false, Bool.true_eq_false, Bool.false_eq_true, Option.toList_some, Option.toList_none, List.cons_append, List.nil_append, true_and, and_true, and_self, not_true_eq_false, not_false_eq_true, forall_const, false_implies, implies_true, Nat.le_refl, ne_eq, Bool.not_eq_true, eq_self, zshA, zb_rz, zb_ne, zb_eq, qem, true_implies, Nat.zero_le, false_and, and_false, Bool.or_eq_true, or_true, true_or, false_or, or_false, e1, e2, e3, e4, e5, zr_0_5 hR, y0, y1, y2, hg', hu']
            exact ih (k + 1) gg _ _ _ I2 (by omega) (by omega) V2 n1 n2 b2 zz n3 n4 n5 (by omega)
        · have hg' : nI o ≤ nI gg := q_tle (by omega) (by omega)
          have g : gLc S (f + 1) o p u D = gLc S f o p u (gSt S D) := by
            show (if o = 0 then _ else if (if f = 0 then 0 else (gGap S D).toNatClampNeg) < o then _ else gLc S f o p u (gSt S D)) = _
            rw [g0, if_neg (by omega), if_neg hg]
          rw [g]
          simp only [zpr_68, zhd_68, zp68, zh68, zml_68, o_bad, o_push, o_iload, o_lload, o_aload, o_istore, o_astore, o_lstore, o_iinc, o_ii, o_dv, o_i, o_ll, o_lshl, o_lcmp, o_i2l, o_l2i, o_dup, o_dup2, o_pop, o_goto, o_if, o_ic, o_sw, o_ireturn, o_nreturn, o_lreturn, o_return, o_min, o_max, o_geti, o_getr, o_puti, o_putz, o_putr, o_gets, o_iald, o_lald, o_aald, o_iast, o_last, o_aast, o_alen, o_new, o_newa, o_multi, o_call, o_scall, o_oinit, o_copyi, o_copyl, z_eq, z_ne, z_lt, z_ge, z_gt, z_le, z_ceq, z_cne, z_clt, z_cge, z_cgt, z_cle, z_rz, z_rb, z_rc, q_nz, zg_0, zg_s, zgk_s, zgh_n, zgh_s, zq_n, zq_br, zq_gd, zq_cl2, zqc_s, zq_rt, zq_sw, zq_st, zsws, zent, zpad, zla, zlg, zpop, zrv, zc1, zmk, zob_w, zaw_w, zar_w, zln_w, zld_w, zin_w, zcpg_w, znr_w, List.getElem?_cons_zero, List.getElem?_cons_succ, List.set_cons_zero, List.set_cons_succ, List.length_cons, List.length_nil, Nat.reduceLT, Nat.reduceLeDiff, Nat.reduceAdd, Nat.reduceSub, Nat.reduceMul, Nat.reduceEqDiff, Nat.reduceBEq, ↓reduceIte, q_10, q_01, q_00, q_m1, q_m2, q_m3, q_m4, q_m5, q_n1, q_n2, decide_eq_true_eq, decide_eq_false_iff_not, Bool.and_eq_true, Bool.true_and, Bool.and_true, Bool.decide_and, decide_true, decide_false, Bool.true_eq_false, Bool.false_eq_true, Option.toList_some, Option.toList_none, List.cons_append, List.nil_append, true_and, and_true, and_self, not_true_eq_false, not_false_eq_true, forall_const, false_implies, implies_true, Nat.le_refl, ne_eq, Bool.not_eq_true, eq_self, zshA, zb_rz, zb_ne, zb_eq, qem, true_implies, Nat.zero_le, false_and, and_false, Bool.or_eq_true, or_true, true_or, false_or, or_false, e1, e2, e3, e4, e5, zr_0_5 hR, y0, y2, hg']
          exact ih (k + 1) o _ _ _ I2 (by omega) (by omega) V2 n1 n2 b2 zz n3 n4 n5 (by omega)
theorem ca_68 (hR : qRk R a b c i) {I : zI} {D : gD} (h : tOK a S D I) (hB : gOK S D) {w : Int32} (hw : 0 ≤ w ∧ w ≤ 1) : ∃ I' R', zcl (d + 7) 68 [.ref 0, .int w] (I, J, R, 111) = some (some (.int (if w = 0 then (gLc (gLe1 S 0) 31 31 0 1000000 D).1 else (gLc (gLe1 S 0) 31 31 0 1000000 D).2)), (I', J, R', 111)) ∧ tS a b i I I' R' := by
  obtain ⟨I1, R1, y1, ⟨V1, k1, x1⟩, ⟨hR1, hf1⟩, f1, g1, g2, g5⟩ := tr_begin (d := d + 5) (J := J) hR h
  have V1' : cV_19 (gLe1 S 0) D (zup I1 19 10 0) := by
    unfold cV_19 tV at V1 ⊢
    simp only [zup_row, Nat.reduceEqDiff, ↓reduceIte]
    exact ⟨V1.1, V1.2.1, V1.2.2.1, V1.2.2.2.1, rfl, V1.2.2.2.2.2⟩
  have k1' : kV a (gLe1 S 0) (zup I1 19 10 0) := kV_fr (S := gLe1 S 0) k1 (fun k h1 h2 => by
    have := zKt_out (t := 19) h.1.2.2 (by decide) h1 h2
    rw [zup_row, if_neg (by omega)])
  have e1 : tE I (zup I1 19 10 0) := tE_b (tE_r I) (fun k hk => by rw [zup_row, if_neg (by omega)]; exact f1 k hk)
  refine zcl_as (Nat.le_of_ble_eq_true rfl) (zg_wp 60 _ ?_)
  simp only [zpr_68, zhd_68, zp68, zh68, zml_68, o_bad, o_push, o_iload, o_lload, o_aload, o_istore, o_astore, o_lstore, o_iinc, o_ii, o_dv, o_i, o_ll, o_lshl, o_lcmp, o_i2l, o_l2i, o_dup, o_dup2, o_pop, o_goto, o_if, o_ic, o_sw, o_ireturn, o_nreturn, o_lreturn, o_return, o_min, o_max, o_geti, o_getr, o_puti, o_putz, o_putr, o_gets, o_iald, o_lald, o_aald, o_iast, o_last, o_aast, o_alen, o_new, o_newa, o_multi, o_call, o_scall, o_oinit, o_copyi, o_copyl, z_eq, z_ne, z_lt, z_ge, z_gt, z_le, z_ceq, z_cne, z_clt, z_cge, z_cgt, z_cle, z_rz, z_rb, z_rc, q_nz, zg_0, zg_s, zgk_s, zgh_n, zgh_s, zq_n, zq_br, zq_gd, zq_cl2, zqc_s, zq_rt, zq_sw, zq_st, zsws, zent, zpad, zla, zlg, zpop, zrv, zc1, zmk, zob_w, zaw_w, zar_w, zln_w, zld_w, zin_w, zcpg_w, znr_w, List.getElem?_cons_zero, List.getElem?_cons_succ, List.set_cons_zero, List.set_cons_succ, List.length_cons, List.length_nil, Nat.reduceLT, Nat.reduceLeDiff, Nat.reduceAdd, Nat.reduceSub, Nat.reduceMul, Nat.reduceEqDiff, Nat.reduceBEq, ↓reduceIte, q_10, q_01, q_00, q_m1, q_m2, q_m3, q_m4, q_m5, q_n1, q_n2, decide_eq_true_eq, decide_eq_false_iff_not, Bool.and_eq_true, Bool.true_and, Bool.and_true, Bool.decide_and, decide_true, decide_false, Bool.true_eq_false, Bool.false_eq_true, Option.toList_some, Option.toList_none, List.cons_append, List.nil_append, true_and, and_true, and_self, not_true_eq_false, not_false_eq_true, forall_const, false_implies, implies_true, Nat.le_refl, ne_eq, Bool.not_eq_true, eq_self, zshA, zb_rz, zb_ne, zb_eq, qem, true_implies, Nat.zero_le, false_and, and_false, Bool.or_eq_true, or_true, true_or, false_or, or_false, sp_97, hw, zb_pos, zr_0_0 hR, zr_0_5 hR, zr_0_5 hR1, y1]
  exact sl_68 hR1 hf1 h (gB_lea hB.1 (x := 0) ⟨by decide, by decide⟩) 31 0 31 0 1000000 D _ (by omega) (by omega) V1' k1' e1 (gOK_bd hB) hB.2.2.2 (by rw [zup_row, if_neg (by decide), g1]; exact h.2.1.1) (by rw [zup_row, if_neg (by decide), g2]; exact h.2.1.2.1) (by rw [zup_row, if_neg (by decide), g5]; exact h.2.1.2.2.2) (by have := hB.2.2.1; omega)
end CA
/-! that both searches find the same -/
theorem gSp_r {S : gS} {D : gD} (h : gBd D) : 0 ≤ (gSp S D).toInt ∧ (gSp S D).toInt ≤ 1200 := by
  have mx : ∀ n, iR (gMx (g_l D) n) 0 1200 ∧ (∀ s, s < n → (g_l D s).toInt ≤ (gMx (g_l D) n).toInt) := by
    intro n
    induction n with
    | zero => exact ⟨⟨by show 0 ≤ (0 : Int32).toInt; rw [i0]; omega, by show (0 : Int32).toInt ≤ 1200; rw [i0]; omega⟩, fun s hs => absurd hs (by omega)⟩
    | succ n ih =>
      obtain ⟨⟨a1, a2⟩, a3⟩ := ih
      obtain ⟨l1, l2⟩ := h n
      by_cases hl : gMx (g_l D) n < g_l D n
      · have g : gMx (g_l D) (n + 1) = g_l D n := if_pos hl
        rw [g]
        rw [Int32.lt_iff_toInt_lt] at hl
        refine ⟨⟨l1, l2⟩, fun s hs => ?_⟩
        by_cases hsn : s = n
        · rw [hsn]; omega
        · have := a3 s (by omega)
          omega
      · have g : gMx (g_l D) (n + 1) = gMx (g_l D) n := if_neg hl
        rw [g]
        rw [Int32.lt_iff_toInt_lt] at hl
        refine ⟨⟨a1, a2⟩, fun s hs => ?_⟩
        by_cases hsn : s = n
        · rw [hsn]; omega
        · exact a3 s (by omega)
  have mn : ∀ n, iR (gMn (g_l D) n) 0 1200 ∧ (0 < n → (gMn (g_l D) n).toInt ≤ (g_l D 0).toInt) := by
    intro n
    induction n with
    | zero => exact ⟨⟨by show 0 ≤ (0 : Int32).toInt; rw [i0]; omega, by show (0 : Int32).toInt ≤ 1200; rw [i0]; omega⟩, fun e => absurd e (by omega)⟩
    | succ n ih =>
      obtain ⟨⟨a1, a2⟩, a3⟩ := ih
      obtain ⟨l1, l2⟩ := h n
      by_cases hl : n = 0 ∨ g_l D n < gMn (g_l D) n
      · have g : gMn (g_l D) (n + 1) = g_l D n := if_pos hl
        rw [g]
        refine ⟨⟨l1, l2⟩, fun _ => ?_⟩
        rcases hl with hl | hl
        · rw [hl]; omega
        · rw [Int32.lt_iff_toInt_lt] at hl
          rcases Nat.eq_zero_or_pos n with e | e
          · rw [e]; omega
          · have := a3 e
            omega
      · have g : gMn (g_l D) (n + 1) = gMn (g_l D) n := if_neg hl
        rw [g]
        exact ⟨⟨a1, a2⟩, fun _ => a3 (by omega)⟩
  obtain ⟨⟨a1, a2⟩, a3⟩ := mx (g_n S)
  obtain ⟨⟨b1, b2⟩, b3⟩ := mn (g_n S)
  unfold gSp
  rw [isub (by omega) (by omega) (by omega) (by omega)]
  rcases Nat.eq_zero_or_pos (g_n S) with e | e
  · rw [e]
    show 0 ≤ (0 : Int32).toInt - (0 : Int32).toInt ∧ (0 : Int32).toInt - (0 : Int32).toInt ≤ 1200
    omega
  · have := a3 0 e
    have := b3 e
    omega
theorem gSc_le1 {S : gS} {D : gD} {x : Int32} : ∀ s : Nat, gSc (gLe1 S x) D s = gSc S D s
  | 0 => rfl
  | s + 1 => by
    show (if s = 0 ∨ (gSc (gLe1 S x) D s).1 < gLk S D s then gLk S D s else (gSc (gLe1 S x) D s).1, if s = 0 ∨ gLk S D s < (gSc (gLe1 S x) D s).2.1 then gLk S D s else (gSc (gLe1 S x) D s).2.1, if s = 0 ∨ (gSc (gLe1 S x) D s).1 < gLk S D s then s else (gSc (gLe1 S x) D s).2.2) = _
    rw [gSc_le1 s]
    rfl
theorem gGap_le1 {S : gS} {D : gD} {x : Int32} : gGap (gLe1 S x) D = gGap S D := by
  show (gSc (gLe1 S x) D (g_n S)).1 - (gSc (gLe1 S x) D (g_n S)).2.1 = _
  rw [gSc_le1]
  rfl
theorem gNx_le1 {S : gS} {D : gD} {x : Int32} : gNx (gLe1 S x) D = gNx S D := by
  have e1 : gLo (gLe1 S x) D = gLo S D := by
    show (gSc (gLe1 S x) D (g_n S)).2.2 = _
    rw [gSc_le1]
    rfl
  have e2 : gAm (gLe1 S x) D = gAm S D := by
    show (if g_ha S = 0 then gGap (gLe1 S x) D else (gGap (gLe1 S x) D + 1) / 2) = _
    rw [gGap_le1]
    rfl
  unfold gNx
  rw [e1, e2]
  rfl
/-- the fold passes those that end at D alike -/
theorem gLm_pass {S : gS} {D : gD} {x : Int32} : ∀ (l g : Nat) (f o : Int32), (¬ (o < 0 ∨ x < o)) → g ≤ l → (∀ z, g ≤ z → z < l → gSp S (gWk (gLe1 S (nI z)) 30 D) = x) → gLm S D l f o = gLm S D g f o
  | 0, g, f, o, _, hg, _ => by rw [show g = 0 from by omega]
  | l + 1, g, f, o, h, hg, hx => by
    by_cases e : g = l + 1
    · rw [e]
    · have e2 := hx l (by omega) (by omega)
      show (if o < 0 ∨ gSp S (gWk (gLe1 S (nI l)) 30 D) < o then _ else gLm S D l f o) = _
      rw [e2, if_neg h]
      exact gLm_pass l g f o h (by omega) (fun z h1 h2 => hx z h1 (by omega))
theorem gLv_eq {S : gS} {D0 : gD} (hB : gB S) : ∀ (f k o : Nat) (p u p' u' : Int32) (D : gD), k + f = 31 → o ≤ 31 → gBd D → (∀ z, z < o → gWk (gLe1 S (nI z)) 30 D0 = gWk (gLe1 S (nI z)) (30 - k) D) → ((u = 1000000 ∧ u' = -1 ∧ 0 < o ∧ 0 < f) ∨ (p = p' ∧ u = u' ∧ 0 ≤ u'.toInt)) → (f = 0 → o = 0) → gLc (gLe1 S 0) f o p u D = gLm S D0 o p' u' := by
  intro f
  induction f with
  | zero =>
    intro k o p u p' u' D hk ho hD hw hp hf
    rcases hp with ⟨_, _, _, h⟩ | ⟨rfl, rfl, _⟩
    · exact absurd h (by omega)
    · rw [hf rfl]
      rfl
  | succ f ih =>
    intro k o p u p' u' D hk ho hD hw hp hf
    rcases Nat.eq_zero_or_pos o with ho0 | ho0
    · subst ho0
      rcases hp with ⟨_, _, h, _⟩ | ⟨rfl, rfl, _⟩
      · exact absurd h (by omega)
      · rfl
    · have hB0 := gB_lea hB (x := 0) ⟨by decide, by decide⟩
      obtain ⟨gg, hgg, eg⟩ := gGap_n hB0 hD
      have eg' : gGap S D = nI gg := gGap_le1.symm.trans eg
      -- what is left open goes on at the next
      have hst : gBd (gSt (gLe1 S 0) D) := by
        unfold gSt
        split
        · exact hD
        · rename_i h
          exact gNx_b hB0 hD h
      have go : f ≠ 0 → ∀ z, z < gg → z < 31 → gWk (gLe1 S (nI z)) (30 - k) D = gWk (gLe1 S (nI z)) (30 - (k + 1)) (gSt (gLe1 S 0) D) := by
        intro hf0 z hz hz31
        have e : 30 - k = (30 - (k + 1)) + 1 := by omega
        have hd : ¬ gGap (gLe1 S (nI z)) D ≤ g_le (gLe1 S (nI z)) := by
          rw [gGap_le1, eg']
          exact q_tnle hz (by omega)
        have hd0 : ¬ gGap (gLe1 S 0) D ≤ g_le (gLe1 S 0) := by
          rw [gGap_le1, eg']
          exact q_tnle (n := 0) (by omega) (by omega)
        rw [e, gWk_s hd]
        unfold gSt
        rw [if_neg hd0, gNx_le1, gNx_le1]
      have stop : ∀ z, (gg ≤ z ∨ f = 0) → z < o → gWk (gLe1 S (nI z)) 30 D0 = D := by
        intro z hz hzo
        rw [hw z hzo]
        rcases Nat.eq_zero_or_pos (30 - k) with e | e
        · rw [e]
          rfl
        · have hz2 : gg ≤ z := by
            rcases hz with h | h
            · exact h
            · omega
          have hd : gGap (gLe1 S (nI z)) D ≤ g_le (gLe1 S (nI z)) := by
            rw [gGap_le1, eg']
            exact q_tle hz2 (by omega)
          rw [show 30 - k = (30 - k - 1) + 1 from by omega, gWk_d hd]
      obtain ⟨r1, r2⟩ := gSp_r (S := S) hD
      have hsp : gSp (gLe1 S 0) D = gSp S D := rfl
      -- gap of this step
      have hgap : ∃ G, (if f = 0 then 0 else (gGap (gLe1 S 0) D).toNatClampNeg) = G ∧ ((f = 0 ∧ G = 0) ∨ (f ≠ 0 ∧ G = gg)) := by
        by_cases e : f = 0
        · exact ⟨0, if_pos e, .inl ⟨e, rfl⟩⟩
        · exact ⟨gg, by rw [if_neg e, eg, nI_clamp (by omega)], .inr ⟨e, rfl⟩⟩
      obtain ⟨G, eG, hG⟩ := hgap
      have hw2 : ∀ o2, o2 ≤ G → o2 ≤ o → ∀ z, z < o2 → gWk (gLe1 S (nI z)) 30 D0 = gWk (gLe1 S (nI z)) (30 - (k + 1)) (gSt (gLe1 S 0) D) := by
        intro o2 h1 h2 z hz
        rcases hG with ⟨e, e2⟩ | ⟨e, e2⟩
        · omega
        · rw [hw z (by omega), go e z (by omega) (by omega)]
      have hx : ∀ z, G ≤ z → z < o → gSp S (gWk (gLe1 S (nI z)) 30 D0) = gSp S D := by
        intro z h1 h2
        have h3 : gg ≤ z ∨ f = 0 := by
          rcases hG with ⟨e, _⟩ | ⟨_, e⟩
          · exact .inr e
          · exact .inl (by omega)
        rw [stop z h3 h2]
      show (if o = 0 then (p, u) else if (if f = 0 then 0 else (gGap (gLe1 S 0) D).toNatClampNeg) < o then (if gSp (gLe1 S 0) D < u then gLc (gLe1 S 0) f (if f = 0 then 0 else (gGap (gLe1 S 0) D).toNatClampNeg) (nI (o - 1)) (gSp (gLe1 S 0) D) (gSt (gLe1 S 0) D) else gLc (gLe1 S 0) f (if f = 0 then 0 else (gGap (gLe1 S 0) D).toNatClampNeg) p u (gSt (gLe1 S 0) D)) else gLc (gLe1 S 0) f o p u (gSt (gLe1 S 0) D)) = _
      rw [if_neg (by omega), eG, hsp]
      by_cases hGo : G < o
      · rw [if_pos hGo]
        have ht : gLm S D0 o p' u' = (if u' < 0 ∨ gSp S D < u' then gLm S D0 (o - 1) (nI (o - 1)) (gSp S D) else gLm S D0 (o - 1) p' u') := by
          obtain ⟨o', rfl⟩ : ∃ o', o = o' + 1 := ⟨o - 1, by omega⟩
          have e2 := hx o' (by omega) (by omega)
          show (if u' < 0 ∨ gSp S (gWk (gLe1 S (nI o')) 30 D0) < u' then gLm S D0 o' (nI o') (gSp S (gWk (gLe1 S (nI o')) 30 D0)) else gLm S D0 o' p' u') = _
          rw [e2]
          rfl
        by_cases hu : gSp S D < u
        · have hu' : u' < 0 ∨ gSp S D < u' := by
            rcases hp with ⟨_, e, _⟩ | ⟨_, e, _⟩
            · rw [e]; exact .inl (by decide)
            · rw [← e]; exact .inr hu
          rw [if_pos hu, ht, if_pos hu', gLm_pass (o - 1) G (nI (o - 1)) (gSp S D) (x := gSp S D) (fun e => e.elim (fun e => by rw [Int32.lt_iff_toInt_lt, i0] at e; omega) (fun e => absurd e Int32.lt_irrefl)) (by omega) (fun z h1 h2 => hx z h1 (by omega))]
          exact ih (k + 1) G _ _ _ _ _ (by omega) (by omega) hst (hw2 G (Nat.le_refl _) (by omega)) (.inr ⟨rfl, rfl, r1⟩) (fun e => hG.elim (fun q => q.2) (fun q => absurd e q.1))
        · have hp2 : p = p' ∧ u = u' ∧ 0 ≤ u'.toInt := by
            rcases hp with ⟨e, _⟩ | h
            · exact absurd (by rw [e, Int32.lt_iff_toInt_lt, show (1000000 : Int32).toInt = 1000000 from by decide]; omega) hu
            · exact h
          obtain ⟨rfl, rfl, h3⟩ := hp2
          have hn : ¬ (u < 0 ∨ gSp S D < u) := fun e => e.elim (fun e => by rw [Int32.lt_iff_toInt_lt, i0] at e; omega) hu
          rw [if_neg hu, ht, if_neg hn, gLm_pass (o - 1) G p u (x := gSp S D) hn (by omega) (fun z h1 h2 => hx z h1 (by omega))]
          exact ih (k + 1) G _ _ _ _ _ (by omega) (by omega) hst (hw2 G (Nat.le_refl _) (by omega)) (.inr ⟨rfl, rfl, h3⟩) (fun e => hG.elim (fun q => q.2) (fun q => absurd e q.1))
      · rw [if_neg hGo]
        have hf0 : f ≠ 0 := by
          rcases hG with ⟨_, e⟩ | ⟨e, _⟩
          · omega
          · exact e
        refine ih (k + 1) o p u p' u' _ (by omega) ho hst (hw2 o (by omega) (Nat.le_refl _)) ?_ (fun e => absurd e hf0)
        rcases hp with ⟨e1, e2, e3, e4⟩ | h
        · exact .inl ⟨e1, e2, e3, by omega⟩
        · exact .inr h
theorem gLv {S : gS} {D : gD} (h : gOK S D) : gLc (gLe1 S 0) 31 31 0 1000000 D = gLm S D 31 0 (-1) :=
  gLv_eq h.1 31 0 31 _ _ _ _ D (by omega) (by omega) (gOK_bd h) (fun _ _ => rfl) (.inl ⟨rfl, rfl, by omega, by omega⟩) (fun e => absurd e (by omega))
