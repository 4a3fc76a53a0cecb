/-! ===== first, pad: both sides ===== -/
/-- far off behind 30 snips, were c taken off s now -/
def gOs (S : gS) (D : gD) (x : Int32) (s : Nat) : Int32 := gSp S (gWk S 30 (gCu S D s x))
def gFc (off : Nat → Int32) : Nat → Nat → Int32 → Int32 → Int32
  | 0, _, b, _ => b
  | k + 1, s, b, u => if off s < u then gFc off k (s + 1) (nI s) (off s) else gFc off k (s + 1) b u
def gFm (off : Nat → Int32) : Nat → Nat → Int32 → Int32 → Int32
  | 0, _, b, _ => b
  | k + 1, s, b, u => if b < 0 ∨ off s < u then gFm off k (s + 1) (nI s) (off s) else gFm off k (s + 1) b u
theorem gF_eq {off : Nat → Int32} (h : ∀ s, iR (off s) 0 1200) : ∀ (k s : Nat) (b u b' u' : Int32), s + k < 1000 → ((b = -5 ∧ u = 1000000 ∧ b' = -5) ∨ ∃ z, z < 1000 ∧ b = nI z ∧ b' = nI z ∧ u = u') → gFc off k s b u = gFm off k s b' u'
  | 0, s, b, u, b', u', _, hb => by
    rcases hb with ⟨e1, _, e2⟩ | ⟨z, _, e1, e2, _⟩
    · show b = b'
      rw [e1, e2]
    · show b = b'
      rw [e1, e2]
  | k + 1, s, b, u, b', u', hk, hb => by
    have hs := h s
    rcases hb with ⟨e1, e2, e3⟩ | ⟨z, hz, e1, e2, e3⟩
    · have h1 : off s < u := by rw [e2, Int32.lt_iff_toInt_lt, show (1000000 : Int32).toInt = 1000000 from by decide]; have := hs.2; omega
      have h2 : b' < 0 := by rw [e3]; decide
      rw [show gFc off (k + 1) s b u = gFc off k (s + 1) (nI s) (off s) from if_pos h1, show gFm off (k + 1) s b' u' = gFm off k (s + 1) (nI s) (off s) from if_pos (.inl h2)]
      exact gF_eq h k (s + 1) _ _ _ _ (by omega) (.inr ⟨s, by omega, rfl, rfl, rfl⟩)
    · have h2 : ¬ b' < 0 := by rw [e2]; exact q_tnl (n := 0) (by omega) (by omega)
      by_cases h1 : off s < u
      · rw [show gFc off (k + 1) s b u = gFc off k (s + 1) (nI s) (off s) from if_pos h1, show gFm off (k + 1) s b' u' = gFm off k (s + 1) (nI s) (off s) from if_pos (.inr (e3 ▸ h1))]
        exact gF_eq h k (s + 1) _ _ _ _ (by omega) (.inr ⟨s, by omega, rfl, rfl, rfl⟩)
      · rw [show gFc off (k + 1) s b u = gFc off k (s + 1) b u from if_neg h1, show gFm off (k + 1) s b' u' = gFm off k (s + 1) b' u' from if_neg (fun e => e.elim h2 (fun q => h1 (e3.symm ▸ q)))]
        exact gF_eq h k (s + 1) _ _ _ _ (by omega) (.inr ⟨z, hz, e1, e2, e3⟩)
theorem tE_t {I0 I1 I2 : zI} (e2 : tE I0 I1) (e4 : tE I1 I2) : tE I0 I2 := ⟨fun k hk => (e4.1 k hk).trans (e2.1 k hk), e4.2.1.trans e2.2.1, e4.2.2.1.trans e2.2.2.1, fun k hk => (e4.2.2.2 k hk).trans (e2.2.2.2 k hk)⟩
section FI
variable {d : Nat} {J : zJ} {R : zR} {a b c : Nat} {i : Option Nat} {S : gS} {D : gD}
set_option maxRecDepth 40000 in
theorem sl_70 {I0 : zI} (h0 : tOK a S D I0) (hB : gOK S D) {x : Int32} (hx : iR x 0 3180) : ∀ (k s : Nat) (p u : Int32) (I : zI) (R : zR) (c : Nat), qRk R a b c i → s + k = g_n S → tE I0 I → iTr (I 20) (I 21) (I 22) (I 24) → zWP (zcl (d + 7)) 70 (22, [some (.ref 0), some (.int x), some (.int p), some (.int u), some (.int (nI s)), none], [], (I, J, R, 111)) (zAs (some (.int (gFc (gOs S D x) k s p u))) J (tS a b i I0)) := by
  have hn6 := gOK_n hB
  intro k
  induction k with
  | zero =>
    intro s p u I R c hR hk E T
    have e1 : nI (g_n S) ≤ nI s := q_tle (by omega) (by omega)
    have v0 := (tOK_e h0 E T).1.1.1.1
    refine zg_wp 30 _ ?_
    simp only [zpr_70, zhd_70, zp70, zh70, zml_70, o_bad, o_push, o_iload, o_lload, o_aload, o_istore, o_astore, o_lstore, o_iinc, o_ii, o_dv, o_i, o_ll, o_lshl, o_lcmp, o_i2l, o_l2i, o_dup, o_dup2, o_pop, o_goto, o_if, o_ic, o_sw, o_ireturn, o_nreturn, o_lreturn, o_return, o_min, o_max, o_geti, o_getr, o_puti, o_putz, o_putr, o_gets, o_iald, o_lald, o_aald, o_iast, o_last, o_aast, o_alen, o_new, o_newa, o_multi, o_call, o_scall, o_oinit, o_copyi, o_copyl, z_eq, z_ne, z_lt, z_ge, z_gt, z_le, z_ceq, z_cne, z_clt, z_cge, z_cgt, z_cle, z_rz, z_rb, z_rc, q_nz, zg_0, zg_s, zgk_s, zgh_n, zgh_s, zq_n, zq_br, zq_gd, zq_cl2, zqc_s, zq_rt, zq_sw, zq_st, zsws, zent, zpad, zla, zlg, zpop, zrv, zc1, zmk, zob_w, zaw_w, zar_w, zln_w, zld_w, zin_w, zcpg_w, znr_w, List.getElem?_cons_zero, List.getElem?_cons_succ, List.set_cons_zero, List.set_cons_succ, List.length_cons, List.length_nil, Nat.reduceLT, Nat.reduceLeDiff, Nat.reduceAdd, Nat.reduceSub, Nat.reduceMul, Nat.reduceEqDiff, Nat.reduceBEq, ↓reduceIte, q_10, q_01, q_00, q_m1, q_m2, q_m3, q_m4, q_m5, q_n1, q_n2, decide_eq_true_eq, decide_eq_false_iff_not, Bool.and_eq_true, Bool.true_and, Bool.and_true, Bool.decide_and, decide_true, decide_false, Bool.true_eq_false, Bool.false_eq_true, Option.toList_some, Option.toList_none, List.cons_append, List.nil_append, true_and, and_true, and_self, not_true_eq_false, not_false_eq_true, forall_const, false_implies, implies_true, Nat.le_refl, ne_eq, Bool.not_eq_true, eq_self, zshA, zb_rz, zb_ne, zb_eq, qem, true_implies, Nat.zero_le, false_and, and_false, Bool.or_eq_true, or_true, true_or, false_or, or_false, zr_0_0 hR, v0, e1]
    exact zAs_mk ⟨E, T, c, hR⟩
  | succ k ih =>
    intro s p u I R c hR hk E T
    have h1 := tOK_e h0 E T
    have v0 := h1.1.1.1.1
    have e1 : ¬ nI (g_n S) ≤ nI s := q_tnle (by omega) (by omega)
    have e2 := (q_row (m := s) (n := 6) (by omega) (by omega)).2.2
    obtain ⟨I1, R1, y1, ⟨V1, k1, x1⟩, ⟨hR1, hf1⟩, f1, g1, g2, g5⟩ := tr_begin (d := d + 6) (J := J) hR h1
    obtain ⟨I2, y2, V2, W2, _⟩ := sp_44_19 (d := d + 5) (J := J) hR1 V1 hn6 (by have := hB.2.2.1; omega) (s := s) (by omega) (x := x)
    obtain ⟨I3, y3, V3, e3, t3, _⟩ := tr_cut (d := d) (J := J) hR1 hf1 h1 V2 (kV_w_19 h0.1.2.2 k1 W2) hn6 (by rw [gCu_m]; have := hB.2.2.1; omega) (gOK_le hB) (gCu_hi (by omega) hB.2.2.2) (tE_w (tE_b (tE_r I) f1) W2) (by rw [W2.1 20 (by decide) (by decide) (by decide) (by decide), g1]) (by rw [W2.1 21 (by decide) (by decide) (by decide) (by decide), g2]) (by rw [W2.1 24 (by decide) (by decide) (by decide) (by decide), g5]) (n := 30) (by omega)
    rw [show nI 30 = 30 from rfl, show gSp S (gWk S 30 (gCu S D s x)) = gOs S D x s from rfl] at y3
    refine zg_wp 60 _ ?_
    by_cases hu : gOs S D x s < u
    · have hu' := Int32.not_le.mpr hu
      simp only [zpr_70, zhd_70, zp70, zh70, zml_70, o_bad, o_push, o_iload, o_lload, o_aload, o_istore, o_astore, o_lstore, o_iinc, o_ii, o_dv, o_i, o_ll, o_lshl, o_lcmp, o_i2l, o_l2i, o_dup, o_dup2, o_pop, o_goto, o_if, o_ic, o_sw, o_ireturn, o_nreturn, o_lreturn, o_return, o_min, o_max, o_geti, o_getr, o_puti, o_putz, o_putr, o_gets, o_iald, o_lald, o_aald, o_iast, o_last, o_aast, o_alen, o_new, o_newa, o_multi, o_call, o_scall, o_oinit, o_copyi, o_copyl, z_eq, z_ne, z_lt, z_ge, z_gt, z_le, z_ceq, z_cne, z_clt, z_cge, z_cgt, z_cle, z_rz, z_rb, z_rc, q_nz, zg_0, zg_s, zgk_s, zgh_n, zgh_s, zq_n, zq_br, zq_gd, zq_cl2, zqc_s, zq_rt, zq_sw, zq_st, zsws, zent, zpad, zla, zlg, zpop, zrv, zc1, zmk, zob_w, zaw_w, zar_w, zln_w, zld_w, zin_w, zcpg_w, znr_w, List.getElem?_cons_zero, List.getElem?_cons_succ, List.set_cons_zero, List.set_cons_succ, List.length_cons, List.length_nil, Nat.reduceLT, Nat.reduceLeDiff, Nat.reduceAdd, Nat.reduceSub, Nat.reduceMul, Nat.reduceEqDiff, Nat.reduceBEq, ↓reduceIte, q_10, q_01, q_00, q_m1, q_m2, q_m3, q_m4, q_m5, q_n1, q_n2, decide_eq_true_eq, decide_eq_false_iff_not, Bool.and_eq_true, Bool.true_and, Bool.and_true, Bool.decide_and, decide_true, decide_false, Bool.true_eq_false, Bool.false_eq_true, Option.toList_some, Option.toList_none, List.cons_append, List.nil_append, true_and, and_true, and_self, not_true_eq_false, not_false_eq_true, forall_const, false_implies, implies_true, Nat.le_refl, ne_eq, Bool.not_eq_true, eq_self, zshA, zb_rz, zb_ne, zb_eq, qem, true_implies, Nat.zero_le, false_and, and_false, Bool.or_eq_true, or_true, true_or, false_or, or_false, zr_0_0 hR, zr_0_5 hR, zr_0_5 hR1, v0, e1, e2, y1, y2, y3, hu']
      rw [show gFc (gOs S D x) (k + 1) s p u = gFc (gOs S D x) k (s + 1) (nI s) (gOs S D x s) from if_pos hu]
      exact ih (s + 1) _ _ I3 R1 a hR1 (by omega) (tE_t E e3) t3
    · have hu' := Int32.not_lt.mp hu
      simp only [zpr_70, zhd_70, zp70, zh70, zml_70, o_bad, o_push, o_iload, o_lload, o_aload, o_istore, o_astore, o_lstore, o_iinc, o_ii, o_dv, o_i, o_ll, o_lshl, o_lcmp, o_i2l, o_l2i, o_dup, o_dup2, o_pop, o_goto, o_if, o_ic, o_sw, o_ireturn, o_nreturn, o_lreturn, o_return, o_min, o_max, o_geti, o_getr, o_puti, o_putz, o_putr, o_gets, o_iald, o_lald, o_aald, o_iast, o_last, o_aast, o_alen, o_new, o_newa, o_multi, o_call, o_scall, o_oinit, o_copyi, o_copyl, z_eq, z_ne, z_lt, z_ge, z_gt, z_le, z_ceq, z_cne, z_clt, z_cge, z_cgt, z_cle, z_rz, z_rb, z_rc, q_nz, zg_0, zg_s, zgk_s, zgh_n, zgh_s, zq_n, zq_br, zq_gd, zq_cl2, zqc_s, zq_rt, zq_sw, zq_st, zsws, zent, zpad, zla, zlg, zpop, zrv, zc1, zmk, zob_w, zaw_w, zar_w, zln_w, zld_w, zin_w, zcpg_w, znr_w, List.getElem?_cons_zero, List.getElem?_cons_succ, List.set_cons_zero, List.set_cons_succ, List.length_cons, List.length_nil, Nat.reduceLT, Nat.reduceLeDiff, Nat.reduceAdd, Nat.reduceSub, Nat.reduceMul, Nat.reduceEqDiff, Nat.reduceBEq, ↓reduceIte, q_10, q_01, q_00, q_m1, q_m2, q_m3, q_m4, q_m5, q_n1, q_n2, decide_eq_true_eq, decide_eq_false_iff_not, Bool.and_eq_true, Bool.true_and, Bool.and_true, Bool.decide_and, decide_true, decide_false, Bool.true_eq_false, Bool.false_eq_true, Option.toList_some, Option.toList_none, List.cons_append, List.nil_append, true_and, and_true, and_self, not_true_eq_false, not_false_eq_true, forall_const, false_implies, implies_true, Nat.le_refl, ne_eq, Bool.not_eq_true, eq_self, zshA, zb_rz, zb_ne, zb_eq, qem, true_implies, Nat.zero_le, false_and, and_false, Bool.or_eq_true, or_true, true_or, false_or, or_false, zr_0_0 hR, zr_0_5 hR, zr_0_5 hR1, v0, e1, e2, y1, y2, y3, hu']
      rw [show gFc (gOs S D x) (k + 1) s p u = gFc (gOs S D x) k (s + 1) p u from if_neg hu]
      exact ih (s + 1) _ _ I3 R1 a hR1 (by omega) (tE_t E e3) t3
theorem ca_70 (hR : qRk R a b c i) {I : zI} (h : tOK a S D I) (hB : gOK S D) {x : Int32} (h2 : 1 ≤ x ∧ x ≤ 99) (hx : iR x 0 3180) : ∃ I' R', zcl (d + 8) 70 [.ref 0, .int x] (I, J, R, 111) = some (some (.int (gFc (gOs S D x) (g_n S) 0 (-5) 1000000)), (I', J, R', 111)) ∧ tS a b i I I' R' := by
  refine zcl_as (Nat.le_of_ble_eq_true rfl) (zg_wp 60 _ ?_)
  simp only [zpr_70, zhd_70, zp70, zh70, zml_70, o_bad, o_push, o_iload, o_lload, o_aload, o_istore, o_astore, o_lstore, o_iinc, o_ii, o_dv, o_i, o_ll, o_lshl, o_lcmp, o_i2l, o_l2i, o_dup, o_dup2, o_pop, o_goto, o_if, o_ic, o_sw, o_ireturn, o_nreturn, o_lreturn, o_return, o_min, o_max, o_geti, o_getr, o_puti, o_putz, o_putr, o_gets, o_iald, o_lald, o_aald, o_iast, o_last, o_aast, o_alen, o_new, o_newa, o_multi, o_call, o_scall, o_oinit, o_copyi, o_copyl, z_eq, z_ne, z_lt, z_ge, z_gt, z_le, z_ceq, z_cne, z_clt, z_cge, z_cgt, z_cle, z_rz, z_rb, z_rc, q_nz, zg_0, zg_s, zgk_s, zgh_n, zgh_s, zq_n, zq_br, zq_gd, zq_cl2, zqc_s, zq_rt, zq_sw, zq_st, zsws, zent, zpad, zla, zlg, zpop, zrv, zc1, zmk, zob_w, zaw_w, zar_w, zln_w, zld_w, zin_w, zcpg_w, znr_w, List.getElem?_cons_zero, List.getElem?_cons_succ, List.set_cons_zero, List.set_cons_succ, List.length_cons, List.length_nil, Nat.reduceLT, Nat.reduceLeDiff, Nat.reduceAdd, Nat.reduceSub, Nat.reduceMul, Nat.reduceEqDiff, Nat.reduceBEq, ↓reduceIte, q_10, q_01, q_00, q_m1, q_m2, q_m3, q_m4, q_m5, q_n1, q_n2, decide_eq_true_eq, decide_eq_false_iff_not, Bool.and_eq_true, Bool.true_and, Bool.and_true, Bool.decide_and, decide_true, decide_false, Bool.true_eq_false, Bool.false_eq_true, Option.toList_some, Option.toList_none, List.cons_append, List.nil_append, true_and, and_true, and_self, not_true_eq_false, not_false_eq_true, forall_const, false_implies, implies_true, Nat.le_refl, ne_eq, Bool.not_eq_true, eq_self, zshA, zb_rz, zb_ne, zb_eq, qem, true_implies, Nat.zero_le, false_and, and_false, Bool.or_eq_true, or_true, true_or, false_or, or_false, sp_97, h2, zb_pos]
  exact sl_70 h hB hx (g_n S) 0 _ _ I R c hR (by omega) (tE_r I) h.2.2.2
set_option maxRecDepth 40000 in
theorem sl_161 (hR : qRk R a b c i) {I0 : zI} (V : mV S D I0) (hK : mK S I0) (hB : gB S) (hD : gBd D) (hm : g_m D < 100000) (h29 : I0 75 29 = 99999) {x : Int32} (hx : iR x 0 3180) : ∀ (k s : Nat) (p u : Int32) (I : zI), s + k = g_n S → mS I0 I → zWP (zcl (d + 8)) 161 (22, [some (.ref 75), some (.int x), some (.int p), some (.int u), some (.int (nI s)), none, none], [], (I, J, R, 111)) (zEn (some (.int (gFm (gOs S D x) k s p u))) J R (mS I0)) := by
  have hn6 := hB.1
  intro k
  induction k with
  | zero =>
    intro s p u I hk e
    have e1 : nI (g_n S) ≤ nI s := q_tle (by omega) (by omega)
    have v0 := (mV_s V e).1.1
    refine zg_wp 30 _ ?_
    simp only [zpr_161, zhd_161, zp161, zh161, zml_161, o_bad, o_push, o_iload, o_lload, o_aload, o_istore, o_astore, o_lstore, o_iinc, o_ii, o_dv, o_i, o_ll, o_lshl, o_lcmp, o_i2l, o_l2i, o_dup, o_dup2, o_pop, o_goto, o_if, o_ic, o_sw, o_ireturn, o_nreturn, o_lreturn, o_return, o_min, o_max, o_geti, o_getr, o_puti, o_putz, o_putr, o_gets, o_iald, o_lald, o_aald, o_iast, o_last, o_aast, o_alen, o_new, o_newa, o_multi, o_call, o_scall, o_oinit, o_copyi, o_copyl, z_eq, z_ne, z_lt, z_ge, z_gt, z_le, z_ceq, z_cne, z_clt, z_cge, z_cgt, z_cle, z_rz, z_rb, z_rc, q_nz, zg_0, zg_s, zgk_s, zgh_n, zgh_s, zq_n, zq_br, zq_gd, zq_cl2, zqc_s, zq_rt, zq_sw, zq_st, zsws, zent, zpad, zla, zlg, zpop, zrv, zc1, zmk, zob_w, zaw_w, zar_w, zln_w, zld_w, zin_w, zcpg_w, znr_w, List.getElem?_cons_zero, List.getElem?_cons_succ, List.set_cons_zero, List.set_cons_succ, List.length_cons, List.length_nil, Nat.reduceLT, Nat.reduceLeDiff, Nat.reduceAdd, Nat.reduceSub, Nat.reduceMul, Nat.reduceEqDiff, Nat.reduceBEq, ↓reduceIte, q_10, q_01, q_00, q_m1, q_m2, q_m3, q_m4, q_m5, q_n1, q_n2, decide_eq_true_eq, decide_eq_false_iff_not, Bool.and_eq_true, Bool.true_and, Bool.and_true, Bool.decide_and, decide_true, decide_false, Bool.true_eq_false, Bool.false_eq_true, Option.toList_some, Option.toList_none, List.cons_append, List.nil_append, true_and, and_true, and_self, not_true_eq_false, not_false_eq_true, forall_const, false_implies, implies_true, Nat.le_refl, ne_eq, Bool.not_eq_true, eq_self, zshA, zb_rz, zb_ne, zb_eq, qem, true_implies, Nat.zero_le, false_and, and_false, Bool.or_eq_true, or_true, true_or, false_or, or_false, v0, e1]
    exact zEn_mk e
  | succ k ih =>
    intro s p u I hk e
    have V' := mV_s V e
    have K' := mK_s hK e
    have v0 := V'.1.1
    have e1 : ¬ nI (g_n S) ≤ nI s := q_tnle (by omega) (by omega)
    have e2 := (q_row (m := s) (n := 6) (by omega) (by omega)).2.2
    have h29' : I 75 29 = 99999 := (eq75 e.1 29 (by decide)).trans h29
    obtain ⟨I1, y1, V1, K1, H1, _⟩ := ma_begin (d := d + 6) (J := J) hR V' K'
    obtain ⟨I2, y2, V2, W2, g2, _⟩ := sp_142 (d := d + 3) (J := J) hR V1 K1 (by omega) (s := s) (by omega) (x := x)
    have K2 := mK_w K1 W2
    have H2 := mH_c (by omega) H1 V1 V2 W2 g2
    have b2 := gCu_b (s := s) hB hD hx
    obtain ⟨I3, y3, V3, W3, g3⟩ := sp_151 (d := d) (J := J) hR hB.1 (gB_le hB) (n := 30) (by omega) V2 K2 (by rw [gCu_m]; omega)
    have y4 := sp_147 (d := d + 6) (J := J) hR hB.1 V3 (gBd_p (gWk_b hB 30 _ b2) 0)
    obtain ⟨I4, y5, e4, _⟩ := ma_end (d := d + 6) (J := J) hR (mH_w hB.1 (gB_le hB) H2 V2 V3 W3 g3) h29'
    rw [show nI 30 = 30 from rfl] at y3
    rw [show gSp S (gWk S 30 (gCu S D s x)) = gOs S D x s from rfl] at y4
    refine zg_wp 60 _ ?_
    by_cases hp : p < 0
    · simp only [zpr_161, zhd_161, zp161, zh161, zml_161, o_bad, o_push, o_iload, o_lload, o_aload, o_istore, o_astore, o_lstore, o_iinc, o_ii, o_dv, o_i, o_ll, o_lshl, o_lcmp, o_i2l, o_l2i, o_dup, o_dup2, o_pop, o_goto, o_if, o_ic, o_sw, o_ireturn, o_nreturn, o_lreturn, o_return, o_min, o_max, o_geti, o_getr, o_puti, o_putz, o_putr, o_gets, o_iald, o_lald, o_aald, o_iast, o_last, o_aast, o_alen, o_new, o_newa, o_multi, o_call, o_scall, o_oinit, o_copyi, o_copyl, z_eq, z_ne, z_lt, z_ge, z_gt, z_le, z_ceq, z_cne, z_clt, z_cge, z_cgt, z_cle, z_rz, z_rb, z_rc, q_nz, zg_0, zg_s, zgk_s, zgh_n, zgh_s, zq_n, zq_br, zq_gd, zq_cl2, zqc_s, zq_rt, zq_sw, zq_st, zsws, zent, zpad, zla, zlg, zpop, zrv, zc1, zmk, zob_w, zaw_w, zar_w, zln_w, zld_w, zin_w, zcpg_w, znr_w, List.getElem?_cons_zero, List.getElem?_cons_succ, List.set_cons_zero, List.set_cons_succ, List.length_cons, List.length_nil, Nat.reduceLT, Nat.reduceLeDiff, Nat.reduceAdd, Nat.reduceSub, Nat.reduceMul, Nat.reduceEqDiff, Nat.reduceBEq, ↓reduceIte, q_10, q_01, q_00, q_m1, q_m2, q_m3, q_m4, q_m5, q_n1, q_n2, decide_eq_true_eq, decide_eq_false_iff_not, Bool.and_eq_true, Bool.true_and, Bool.and_true, Bool.decide_and, decide_true, decide_false, Bool.true_eq_false, Bool.false_eq_true, Option.toList_some, Option.toList_none, List.cons_append, List.nil_append, true_and, and_true, and_self, not_true_eq_false, not_false_eq_true, forall_const, false_implies, implies_true, Nat.le_refl, ne_eq, Bool.not_eq_true, eq_self, zshA, zb_rz, zb_ne, zb_eq, qem, true_implies, Nat.zero_le, false_and, and_false, Bool.or_eq_true, or_true, true_or, false_or, or_false, v0, e1, e2, y1, y2, y3, y4, y5, hp]
      rw [show gFm (gOs S D x) (k + 1) s p u = gFm (gOs S D x) k (s + 1) (nI s) (gOs S D x s) from if_pos (.inl hp)]
      exact ih (s + 1) _ _ I4 (by omega) (mS_t e e4)
    · by_cases hu : gOs S D x s < u
      · simp only [zpr_161, zhd_161, zp161, zh161, zml_161, o_bad, o_push, o_iload, o_lload, o_aload, o_istore, o_astore, o_lstore, o_iinc, o_ii, o_dv, o_i, o_ll, o_lshl, o_lcmp, o_i2l, o_l2i, o_dup, o_dup2, o_pop, o_goto, o_if, o_ic, o_sw, o_ireturn, o_nreturn, o_lreturn, o_return, o_min, o_max, o_geti, o_getr, o_puti, o_putz, o_putr, o_gets, o_iald, o_lald, o_aald, o_iast, o_last, o_aast, o_alen, o_new, o_newa, o_multi, o_call, o_scall, o_oinit, o_copyi, o_copyl, z_eq, z_ne, z_lt, z_ge, z_gt, z_le, z_ceq, z_cne, z_clt, z_cge, z_cgt, z_cle, z_rz, z_rb, z_rc, q_nz, zg_0, zg_s, zgk_s, zgh_n, zgh_s, zq_n, zq_br, zq_gd, zq_cl2, zqc_s, zq_rt, zq_sw, zq_st, zsws, zent, zpad, zla, zlg, zpop, zrv, zc1, zmk, zob_w, zaw_w, zar_w, zln_w, zld_w, zin_w, zcpg_w, znr_w, List.getElem?_cons_zero, List.getElem?_cons_succ, List.set_cons_zero, List.set_cons_succ, List.length_cons, List.length_nil, Nat.reduceLT, Nat.reduceLeDiff, Nat.reduceAdd, Nat.reduceSub, Nat.reduceMul, Nat.reduceEqDiff, Nat.reduceBEq, ↓reduceIte, q_10, q_01, q_00, q_m1, q_m2, q_m3, q_m4, q_m5, q_n1, q_n2, decide_eq_true_eq, decide_eq_false_iff_not, Bool.and_eq_true, Bool.true_and, Bool.and_true, Bool.decide_and, decide_true, decide_false, Bool.true_eq_false, Bool.false_eq_true, Option.toList_some, Option.toList_none, List.cons_append, List.nil_append, true_and, and_true, and_self, not_true_eq_false, not_false_eq_true, forall_const, false_implies, implies_true, Nat.le_refl, ne_eq, Bool.not_eq_true, eq_self, zshA, zb_rz, zb_ne, zb_eq, qem, true_implies, Nat.zero_le, false_and, and_false, Bool.or_eq_true, or_true, true_or, false_or, or_false, v0, e1, e2, y1, y2, y3, y4, y5, hp, hu]
        rw [show gFm (gOs S D x) (k + 1) s p u = gFm (gOs S D x) k (s + 1) (nI s) (gOs S D x s) from if_pos (.inr hu)]
        exact ih (s + 1) _ _ I4 (by omega) (mS_t e e4)
      · simp only [zpr_161, zhd_161, zp161, zh161, zml_161, o_bad, o_push, o_iload, o_lload, o_aload, o_istore, o_astore, o_lstore, o_iinc, o_ii, o_dv, o_i, o_ll, o_lshl, o_lcmp, o_i2l, o_l2i, o_dup, o_dup2, o_pop, o_goto, o_if, o_ic, o_sw, o_ireturn, o_nreturn, o_lreturn, o_return, o_min, o_max, o_geti, o_getr, o_puti, o_putz, o_putr, o_gets, o_iald, o_lald, o_aald, o_iast, o_last, o_aast, o_alen, o_new, o_newa, o_multi, o_call, o_scall, o_oinit, o_copyi, o_copyl, z_eq, z_ne, z_lt, z_ge, z_gt, z_le, z_ceq, z_cne, z_clt, z_cge, z_cgt, z_cle, z_rz, z_rb, z_rc, q_nz, zg_0, zg_s, zgk_s, zgh_n, zgh_s, zq_n, zq_br, zq_gd, zq_cl2, zqc_s, zq_rt, zq_sw, zq_st, zsws, zent, zpad, zla, zlg, zpop, zrv, zc1, zmk, zob_w, zaw_w, zar_w, zln_w, zld_w, zin_w, zcpg_w, znr_w, List.getElem?_cons_zero, List.getElem?_cons_succ, List.set_cons_zero, List.set_cons_succ, List.length_cons, List.length_nil, Nat.reduceLT, Nat.reduceLeDiff, Nat.reduceAdd, Nat.reduceSub, Nat.reduceMul, Nat.reduceEqDiff, Nat.reduceBEq, ↓reduceIte, q_10, q_01, q_00, q_m1, q_m2, q_m3, q_m4, q_m5, q_n1, q_n2, decide_eq_true_eq, decide_eq_false_iff_not, Bool.and_eq_true, Bool.true_and, Bool.and_true, Bool.decide_and, decide_true, decide_false, Bool.true_eq_false, Bool.false_eq_true, Option.toList_some, Option.toList_none, List.cons_append, List.nil_append, true_and, and_true, and_self, not_true_eq_false, not_false_eq_true, forall_const, false_implies, implies_true, Nat.le_refl, ne_eq, Bool.not_eq_true, eq_self, zshA, zb_rz, zb_ne, zb_eq, qem, true_implies, Nat.zero_le, false_and, and_false, Bool.or_eq_true, or_true, true_or, false_or, or_false, v0, e1, e2, y1, y2, y3, y4, y5, hp, hu]
        rw [show gFm (gOs S D x) (k + 1) s p u = gFm (gOs S D x) k (s + 1) p u from if_neg (fun q => q.elim hp hu)]
        exact ih (s + 1) _ _ I4 (by omega) (mS_t e e4)
theorem ma_161 (hR : qRk R a b c i) {I : zI} (V : mV S D I) (hK : mK S I) (hB : gB S) (hD : gBd D) (hm : g_m D < 100000) (h29 : I 75 29 = 99999) {x : Int32} (h2 : 1 ≤ x ∧ x ≤ 99) (hx : iR x 0 3180) : ∃ I', zcl (d + 9) 161 [.ref 75, .int x] (I, J, R, 111) = some (some (.int (gFm (gOs S D x) (g_n S) 0 (-5) 0)), (I', J, R, 111)) ∧ mS I I' := by
  refine zcl_en (Nat.le_of_ble_eq_true rfl) (zg_wp 30 _ ?_)
  simp only [zpr_161, zhd_161, zp161, zh161, zml_161, o_bad, o_push, o_iload, o_lload, o_aload, o_istore, o_astore, o_lstore, o_iinc, o_ii, o_dv, o_i, o_ll, o_lshl, o_lcmp, o_i2l, o_l2i, o_dup, o_dup2, o_pop, o_goto, o_if, o_ic, o_sw, o_ireturn, o_nreturn, o_lreturn, o_return, o_min, o_max, o_geti, o_getr, o_puti, o_putz, o_putr, o_gets, o_iald, o_lald, o_aald, o_iast, o_last, o_aast, o_alen, o_new, o_newa, o_multi, o_call, o_scall, o_oinit, o_copyi, o_copyl, z_eq, z_ne, z_lt, z_ge, z_gt, z_le, z_ceq, z_cne, z_clt, z_cge, z_cgt, z_cle, z_rz, z_rb, z_rc, q_nz, zg_0, zg_s, zgk_s, zgh_n, zgh_s, zq_n, zq_br, zq_gd, zq_cl2, zqc_s, zq_rt, zq_sw, zq_st, zsws, zent, zpad, zla, zlg, zpop, zrv, zc1, zmk, zob_w, zaw_w, zar_w, zln_w, zld_w, zin_w, zcpg_w, znr_w, List.getElem?_cons_zero, List.getElem?_cons_succ, List.set_cons_zero, List.set_cons_succ, List.length_cons, List.length_nil, Nat.reduceLT, Nat.reduceLeDiff, Nat.reduceAdd, Nat.reduceSub, Nat.reduceMul, Nat.reduceEqDiff, Nat.reduceBEq, ↓reduceIte, q_10, q_01, q_00, q_m1, q_m2, q_m3, q_m4, q_m5, q_n1, q_n2, decide_eq_true_eq, decide_eq_false_iff_not, Bool.and_eq_true, Bool.true_and, Bool.and_true, Bool.decide_and, decide_true, decide_false, Bool.true_eq_false, Bool.false_eq_true, Option.toList_some, Option.toList_none, List.cons_append, List.nil_append, true_and, and_true, and_self, not_true_eq_false, not_false_eq_true, forall_const, false_implies, implies_true, Nat.le_refl, ne_eq, Bool.not_eq_true, eq_self, zshA, zb_rz, zb_ne, zb_eq, qem, true_implies, Nat.zero_le, false_and, and_false, Bool.or_eq_true, or_true, true_or, false_or, or_false, sp_102, h2, zb_pos]
  exact sl_161 hR V hK hB hD hm h29 hx (g_n S) 0 _ _ I (by omega) (mS_r I)
/-! pad -/
def gPo (S : gS) (D : gD) (s n : Nat) : Int32 := gSp S (gSetL D s (g_l D s + nI n))
/-- n from here on for the side s -/
def gPi (S : gS) (D : gD) (s : Nat) : Nat → Nat → Int32 → Int32 → Int32 × Int32
  | 0, _, b, u => (b, u)
  | k + 1, n, b, u => if gPo S D s n < u then gPi S D s k (n + 1) (nI (100 * s + n)) (gPo S D s n) else gPi S D s k (n + 1) b u
def gPj (S : gS) (D : gD) : Nat → Nat → Int32 → Int32 → Int32
  | 0, _, b, _ => b
  | k + 1, s, b, u => gPj S D k (s + 1) (gPi S D s 99 1 b u).1 (gPi S D s 99 1 b u).2
theorem gSetL_b {D : gD} (h : ∀ s, iR (g_l D s) 0 999) {s : Nat} {n : Nat} (hn : n ≤ 100) : gBd (gSetL D s (g_l D s + nI n)) := by
  intro j
  obtain ⟨a1, a2⟩ := h s
  show iR (if j = s then g_l D s + nI n else g_l D j) 0 1200
  split
  · unfold iR
    rw [iadd (by omega) (by omega) (by rw [nI_toInt (by omega)]; omega) (by rw [nI_toInt (by omega)]; omega), nI_toInt (by omega)]
    omega
  · obtain ⟨b1, b2⟩ := h j
    exact ⟨b1, by omega⟩
theorem cV_setL {S : gS} {D : gD} {I : zI} {s : Nat} {x : Int32} (V : cV_19 S D I) : cV_19 S (gSetL D s x) (zup I 22 s x) := by
  unfold cV_19 tV at V ⊢
  simp only [zup_row, Nat.reduceEqDiff, ↓reduceIte]
  refine ⟨⟨V.1.1, V.1.2.1, V.1.2.2.1, ?_, V.1.2.2.2.2⟩, V.2⟩
  rw [V.1.2.2.2.1]
  rfl
set_option maxRecDepth 40000 in
theorem sl_72i {R : zR} (hR : qRk R a b c i) {I0 : zI} (h0 : tOK a S D I0) (hB : gOK S D) {s : Nat} (hs : s < g_n S) : ∀ (k n : Nat) (p u : Int32) (I : zI) (Q : Option Value → zW → Prop), n + k = 100 → tE I0 I → (∃ D', cV_19 S D' I ∧ (∀ j, j ≠ s → g_l D' j = g_l D j) ∧ g_m D' = g_m D ∧ g_d D' = g_d D) → (zN 6 (I 20) ∧ zN 6 (I 21) ∧ zN 24 (I 24)) →
    (∀ (I' : zI), tE I0 I' → cV_19 S D I' → (zN 6 (I' 20) ∧ zN 6 (I' 21) ∧ zN 24 (I' 24)) → zWP (zcl (d + 2)) 72 (24, [some (.ref 0), some (.int (gPi S D s k n p u).1), some (.int (gPi S D s k n p u).2), some (.int (nI (s + 1))), none, none], [], (I', J, R, 111)) Q) →
    zWP (zcl (d + 2)) 72 (38, [some (.ref 0), some (.int p), some (.int u), some (.int (nI s)), some (.int (nI n)), none], [], (I, J, R, 111)) Q := by
  have hn6 := gOK_n hB
  have es := q_row (m := s) (n := 6) (by omega) (by omega)
  intro k
  induction k with
  | zero =>
    intro n p u I Q hk E ⟨D', V, hD', hm', hd'⟩ z hQ
    have e1 : (99 : Int32) < nI n := q_tlt (m := 99) (by omega) (by omega)
    have h8 : I 8 = g_l D := by rw [E.1 8 (by decide)]; exact h0.1.1.1.2.2.2.1
    refine zg_wp 40 _ ?_
    simp only [zpr_72, zhd_72, zp72, zh72, zml_72, o_bad, o_push, o_iload, o_lload, o_aload, o_istore, o_astore, o_lstore, o_iinc, o_ii, o_dv, o_i, o_ll, o_lshl, o_lcmp, o_i2l, o_l2i, o_dup, o_dup2, o_pop, o_goto, o_if, o_ic, o_sw, o_ireturn, o_nreturn, o_lreturn, o_return, o_min, o_max, o_geti, o_getr, o_puti, o_putz, o_putr, o_gets, o_iald, o_lald, o_aald, o_iast, o_last, o_aast, o_alen, o_new, o_newa, o_multi, o_call, o_scall, o_oinit, o_copyi, o_copyl, z_eq, z_ne, z_lt, z_ge, z_gt, z_le, z_ceq, z_cne, z_clt, z_cge, z_cgt, z_cle, z_rz, z_rb, z_rc, q_nz, zg_0, zg_s, zgk_s, zgh_n, zgh_s, zq_n, zq_br, zq_gd, zq_cl2, zqc_s, zq_rt, zq_sw, zq_st, zsws, zent, zpad, zla, zlg, zpop, zrv, zc1, zmk, zob_w, zaw_w, zar_w, zln_w, zld_w, zin_w, zcpg_w, znr_w, List.getElem?_cons_zero, List.getElem?_cons_succ, List.set_cons_zero, List.set_cons_succ, List.length_cons, List.length_nil, Nat.reduceLT, Nat.reduceLeDiff, Nat.reduceAdd, Nat.reduceSub, Nat.reduceMul, Nat.reduceEqDiff, Nat.reduceBEq, ↓reduceIte, q_10, q_01, q_00, q_m1, q_m2, q_m3, q_m4, q_m5, q_n1, q_n2, decide_eq_true_eq, decide_eq_false_iff_not, Bool.and_eq_true, Bool.true_and, Bool.and_true, Bool.decide_and, decide_true, decide_false, Bool.true_eq_false, Bool.false_eq_true, Option.toList_some, Option.toList_none, List.cons_append, List.nil_append, true_and, and_true, and_self, not_true_eq_false, not_false_eq_true, forall_const, false_implies, implies_true, Nat.le_refl, ne_eq, Bool.not_eq_true, eq_self, zshA, zb_rz, zb_ne, zb_eq, qem, true_implies, Nat.zero_le, false_and, and_false, Bool.or_eq_true, or_true, true_or, false_or, or_false, e1, es, zr_0_0 hR, zr_0_5 hR, zr_5_3 hR, zr_19_3 hR, h8]
    have V2 := cV_setL (s := s) (x := g_l D s) V
    have eD : gSetL D' s (g_l D s) = D := by
      refine Prod.ext (funext fun j => ?_) (Prod.ext hm' hd')
      show (if j = s then g_l D s else g_l D' j) = g_l D j
      by_cases hj : j = s
      · rw [if_pos hj, hj]
      · rw [if_neg hj, hD' j hj]
    rw [eD] at V2
    exact hQ _ (tE_b E (fun k hk => by rw [zup_row, if_neg (by omega)])) V2 (by simp only [zup_row, Nat.reduceEqDiff, ↓reduceIte]; exact z)
  | succ k ih =>
    intro n p u I Q hk E ⟨D', V, hD', hm', hd'⟩ z hQ
    have e1 : ¬ (99 : Int32) < nI n := q_tnl (n := n) (m := 99) (by omega) (by omega)
    have e2 := (q_row (m := n) (n := 1000) (by omega) (by omega)).2.2
    have h8 : I 8 = g_l D := by rw [E.1 8 (by decide)]; exact h0.1.1.1.2.2.2.1
    have V2 := cV_setL (s := s) (x := g_l D s + nI n) V
    have eD : gSetL D' s (g_l D s + nI n) = gSetL D s (g_l D s + nI n) := by
      refine Prod.ext (funext fun j => ?_) (Prod.ext hm' hd')
      show (if j = s then g_l D s + nI n else g_l D' j) = (if j = s then g_l D s + nI n else g_l D j)
      by_cases hj : j = s
      · rw [if_pos hj, if_pos hj]
      · rw [if_neg hj, if_neg hj, hD' j hj]
    rw [eD] at V2
    have y1 := sp_39_19 (d := d) (J := J) hR V2 hn6
    rw [show gSp S (gSetL D s (g_l D s + nI n)) = gPo S D s n from rfl] at y1
    have e3 : (100 : Int32) * nI s + nI n = nI (100 * s + n) := by
      rw [show (100 : Int32) * nI s = nI (100 * s) from q_mul2, q_add3]
    have E2 : tE I0 (zup I 22 s (g_l D s + nI n)) := tE_b E (fun k hk => by rw [zup_row, if_neg (by omega)])
    have z2 : zN 6 ((zup I 22 s (g_l D s + nI n)) 20) ∧ zN 6 ((zup I 22 s (g_l D s + nI n)) 21) ∧ zN 24 ((zup I 22 s (g_l D s + nI n)) 24) := by simp only [zup_row, Nat.reduceEqDiff, ↓reduceIte]; exact z
    have DD : ∃ D', cV_19 S D' (zup I 22 s (g_l D s + nI n)) ∧ (∀ j, j ≠ s → g_l D' j = g_l D j) ∧ g_m D' = g_m D ∧ g_d D' = g_d D := ⟨_, V2, fun j hj => if_neg hj, rfl, rfl⟩
    refine zg_wp 60 _ ?_
    by_cases hu : gPo S D s n < u
    · have hu' := Int32.not_le.mpr hu
      have g : gPi S D s (k + 1) n p u = gPi S D s k (n + 1) (nI (100 * s + n)) (gPo S D s n) := if_pos hu
      rw [g] at hQ
      simp only [zpr_72, zhd_72, zp72, zh72, zml_72, o_bad, o_push, o_iload, o_lload, o_aload, o_istore, o_astore, o_lstore, o_iinc, o_ii, o_dv, o_i, o_ll, o_lshl, o_lcmp, o_i2l, o_l2i, o_dup, o_dup2, o_pop, o_goto, o_if, o_ic, o_sw, o_ireturn, o_nreturn, o_lreturn, o_return, o_min, o_max, o_geti, o_getr, o_puti, o_putz, o_putr, o_gets, o_iald, o_lald, o_aald, o_iast, o_last, o_aast, o_alen, o_new, o_newa, o_multi, o_call, o_scall, o_oinit, o_copyi, o_copyl, z_eq, z_ne, z_lt, z_ge, z_gt, z_le, z_ceq, z_cne, z_clt, z_cge, z_cgt, z_cle, z_rz, z_rb, z_rc, q_nz, zg_0, zg_s, zgk_s, zgh_n, zgh_s, zq_n, zq_br, zq_gd, zq_cl2, zqc_s, zq_rt, zq_sw, zq_st, zsws, zent, zpad, zla, zlg, zpop, zrv, zc1, zmk, zob_w, zaw_w, zar_w, zln_w, zld_w, zin_w, zcpg_w, znr_w, List.getElem?_cons_zero, List.getElem?_cons_succ, List.set_cons_zero, List.set_cons_succ, List.length_cons, List.length_nil, Nat.reduceLT, Nat.reduceLeDiff, Nat.reduceAdd, Nat.reduceSub, Nat.reduceMul, Nat.reduceEqDiff, Nat.reduceBEq, ↓reduceIte, q_10, q_01, q_00, q_m1, q_m2, q_m3, q_m4, q_m5, q_n1, q_n2, decide_eq_true_eq, decide_eq_false_iff_not, Bool.and_eq_true, Bool.true_and, Bool.and_true, Bool.decide_and, decide_true, decide_false, Bool.true_eq_false, Bool.false_eq_true, Option.toList_some, Option.toList_none, List.cons_append, List.nil_append, true_and, and_true, and_self, not_true_eq_false, not_false_eq_true, forall_const, false_implies, implies_true, Nat.le_refl, ne_eq, Bool.not_eq_true, eq_self, zshA, zb_rz, zb_ne, zb_eq, qem, true_implies, Nat.zero_le, false_and, and_false, Bool.or_eq_true, or_true, true_or, false_or, or_false, e1, e2, es, zr_0_0 hR, zr_0_5 hR, zr_5_3 hR, zr_19_3 hR, h8, y1, hu', e3]
      exact ih (n + 1) _ _ _ Q (by omega) E2 DD z2 hQ
    · have hu' := Int32.not_lt.mp hu
      have g : gPi S D s (k + 1) n p u = gPi S D s k (n + 1) p u := if_neg hu
      rw [g] at hQ
      simp only [zpr_72, zhd_72, zp72, zh72, zml_72, o_bad, o_push, o_iload, o_lload, o_aload, o_istore, o_astore, o_lstore, o_iinc, o_ii, o_dv, o_i, o_ll, o_lshl, o_lcmp, o_i2l, o_l2i, o_dup, o_dup2, o_pop, o_goto, o_if, o_ic, o_sw, o_ireturn, o_nreturn, o_lreturn, o_return, o_min, o_max, o_geti, o_getr, o_puti, o_putz, o_putr, o_gets, o_iald, o_lald, o_aald, o_iast, o_last, o_aast, o_alen, o_new, o_newa, o_multi, o_call, o_scall, o_oinit, o_copyi, o_copyl, z_eq, z_ne, z_lt, z_ge, z_gt, z_le, z_ceq, z_cne, z_clt, z_cge, z_cgt, z_cle, z_rz, z_rb, z_rc, q_nz, zg_0, zg_s, zgk_s, zgh_n, zgh_s, zq_n, zq_br, zq_gd, zq_cl2, zqc_s, zq_rt, zq_sw, zq_st, zsws, zent, zpad, zla, zlg, zpop, zrv, zc1, zmk, zob_w, zaw_w, zar_w, zln_w, zld_w, zin_w, zcpg_w, znr_w, List.getElem?_cons_zero, List.getElem?_cons_succ, List.set_cons_zero, List.set_cons_succ, List.length_cons, List.length_nil, Nat.reduceLT, Nat.reduceLeDiff, Nat.reduceAdd, Nat.reduceSub, Nat.reduceMul, Nat.reduceEqDiff, Nat.reduceBEq, ↓reduceIte, q_10, q_01, q_00, q_m1, q_m2, q_m3, q_m4, q_m5, q_n1, q_n2, decide_eq_true_eq, decide_eq_false_iff_not, Bool.and_eq_true, Bool.true_and, Bool.and_true, Bool.decide_and, decide_true, decide_false, Bool.true_eq_false, Bool.false_eq_true, Option.toList_some, Option.toList_none, List.cons_append, List.nil_append, true_and, and_true, and_self, not_true_eq_false, not_false_eq_true, forall_const, false_implies, implies_true, Nat.le_refl, ne_eq, Bool.not_eq_true, eq_self, zshA, zb_rz, zb_ne, zb_eq, qem, true_implies, Nat.zero_le, false_and, and_false, Bool.or_eq_true, or_true, true_or, false_or, or_false, e1, e2, es, zr_0_0 hR, zr_0_5 hR, zr_5_3 hR, zr_19_3 hR, h8, y1, hu', e3]
      exact ih (n + 1) _ _ _ Q (by omega) E2 DD z2 hQ
set_option maxRecDepth 40000 in
theorem sl_72 {R : zR} (hR : qRk R a b c i) {I0 : zI} (h0 : tOK a S D I0) (hB : gOK S D) : ∀ (k s : Nat) (p u : Int32) (I : zI), s + k = g_n S → tE I0 I → cV_19 S D I → (zN 6 (I 20) ∧ zN 6 (I 21) ∧ zN 24 (I 24)) → zWP (zcl (d + 2)) 72 (24, [some (.ref 0), some (.int p), some (.int u), some (.int (nI s)), none, none], [], (I, J, R, 111)) (zAs (some (.int (gPj S D k s p u))) J (tS a b i I0)) := by
  have hn6 := gOK_n hB
  intro k
  induction k with
  | zero =>
    intro s p u I hk E V z
    have v0 : I 5 0 = nI (g_n S) := by rw [E.2.1]; exact h0.1.1.1.1
    have e1 : nI (g_n S) ≤ nI s := q_tle (by omega) (by omega)
    refine zg_wp 30 _ ?_
    simp only [zpr_72, zhd_72, zp72, zh72, zml_72, o_bad, o_push, o_iload, o_lload, o_aload, o_istore, o_astore, o_lstore, o_iinc, o_ii, o_dv, o_i, o_ll, o_lshl, o_lcmp, o_i2l, o_l2i, o_dup, o_dup2, o_pop, o_goto, o_if, o_ic, o_sw, o_ireturn, o_nreturn, o_lreturn, o_return, o_min, o_max, o_geti, o_getr, o_puti, o_putz, o_putr, o_gets, o_iald, o_lald, o_aald, o_iast, o_last, o_aast, o_alen, o_new, o_newa, o_multi, o_call, o_scall, o_oinit, o_copyi, o_copyl, z_eq, z_ne, z_lt, z_ge, z_gt, z_le, z_ceq, z_cne, z_clt, z_cge, z_cgt, z_cle, z_rz, z_rb, z_rc, q_nz, zg_0, zg_s, zgk_s, zgh_n, zgh_s, zq_n, zq_br, zq_gd, zq_cl2, zqc_s, zq_rt, zq_sw, zq_st, zsws, zent, zpad, zla, zlg, zpop, zrv, zc1, zmk, zob_w, zaw_w, zar_w, zln_w, zld_w, zin_w, zcpg_w, znr_w, List.getElem?_cons_zero, List.getElem?_cons_succ, List.set_cons_zero, List.set_cons_succ, List.length_cons, List.length_nil, Nat.reduceLT, Nat.reduceLeDiff, Nat.reduceAdd, Nat.reduceSub, Nat.reduceMul, Nat.reduceEqDiff, Nat.reduceBEq, ↓reduceIte, q_10, q_01, q_00, q_m1, q_m2, q_m3, q_m4, q_m5, q_n1, q_n2, decide_eq_true_eq, decide_eq_false_iff_not, Bool.and_eq_true, Bool.true_and, Bool.and_true, Bool.decide_and, decide_true, decide_false, Bool.true_eq_false, Bool.false_eq_true, Option.toList_some, Option.toList_none, List.cons_append, List.nil_append, true_and, and_true, and_self, not_true_eq_false, not_false_eq_true, forall_const, false_implies, implies_true, Nat.le_refl, ne_eq, Bool.not_eq_true, eq_self, zshA, zb_rz, zb_ne, zb_eq, qem, true_implies, Nat.zero_le, false_and, and_false, Bool.or_eq_true, or_true, true_or, false_or, or_false, zr_0_0 hR, v0, e1]
    exact zAs_mk ⟨E, ⟨z.1, z.2.1, by rw [V.1.2.2.2.1]; exact hB.2.2.2, z.2.2⟩, c, hR⟩
  | succ k ih =>
    intro s p u I hk E V z
    have v0 : I 5 0 = nI (g_n S) := by rw [E.2.1]; exact h0.1.1.1.1
    have e1 : ¬ nI (g_n S) ≤ nI s := q_tnle (by omega) (by omega)
    refine zg_wp 30 _ ?_
    simp only [zpr_72, zhd_72, zp72, zh72, zml_72, o_bad, o_push, o_iload, o_lload, o_aload, o_istore, o_astore, o_lstore, o_iinc, o_ii, o_dv, o_i, o_ll, o_lshl, o_lcmp, o_i2l, o_l2i, o_dup, o_dup2, o_pop, o_goto, o_if, o_ic, o_sw, o_ireturn, o_nreturn, o_lreturn, o_return, o_min, o_max, o_geti, o_getr, o_puti, o_putz, o_putr, o_gets, o_iald, o_lald, o_aald, o_iast, o_last, o_aast, o_alen, o_new, o_newa, o_multi, o_call, o_scall, o_oinit, o_copyi, o_copyl, z_eq, z_ne, z_lt, z_ge, z_gt, z_le, z_ceq, z_cne, z_clt, z_cge, z_cgt, z_cle, z_rz, z_rb, z_rc, q_nz, zg_0, zg_s, zgk_s, zgh_n, zgh_s, zq_n, zq_br, zq_gd, zq_cl2, zqc_s, zq_rt, zq_sw, zq_st, zsws, zent, zpad, zla, zlg, zpop, zrv, zc1, zmk, zob_w, zaw_w, zar_w, zln_w, zld_w, zin_w, zcpg_w, znr_w, List.getElem?_cons_zero, List.getElem?_cons_succ, List.set_cons_zero, List.set_cons_succ, List.length_cons, List.length_nil, Nat.reduceLT, Nat.reduceLeDiff, Nat.reduceAdd, Nat.reduceSub, Nat.reduceMul, Nat.reduceEqDiff, Nat.reduceBEq, ↓reduceIte, q_10, q_01, q_00, q_m1, q_m2, q_m3, q_m4, q_m5, q_n1, q_n2, decide_eq_true_eq, decide_eq_false_iff_not, Bool.and_eq_true, Bool.true_and, Bool.and_true, Bool.decide_and, decide_true, decide_false, Bool.true_eq_false, Bool.false_eq_true, Option.toList_some, Option.toList_none, List.cons_append, List.nil_append, true_and, and_true, and_self, not_true_eq_false, not_false_eq_true, forall_const, false_implies, implies_true, Nat.le_refl, ne_eq, Bool.not_eq_true, eq_self, zshA, zb_rz, zb_ne, zb_eq, qem, true_implies, Nat.zero_le, false_and, and_false, Bool.or_eq_true, or_true, true_or, false_or, or_false, zr_0_0 hR, v0, e1]
    exact sl_72i hR h0 hB (s := s) (by omega) 99 1 p u I _ (by omega) E ⟨D, V, fun _ _ => rfl, rfl, rfl⟩ z (fun I' E' V' z' => ih (s + 1) _ _ I' (by omega) E' V' z')
theorem ca_72 (hR : qRk R a b c i) {I : zI} (h : tOK a S D I) (hB : gOK S D) : ∃ I' R', zcl (d + 3) 72 [.ref 0] (I, J, R, 111) = some (some (.int (gPj S D (g_n S) 0 (-5) (gSp S D))), (I', J, R', 111)) ∧ tS a b i I I' R' := by
  obtain ⟨I1, R1, y1, ⟨V1, k1, x1⟩, ⟨hR1, hf1⟩, f1, g1, g2, g5⟩ := tr_begin (d := d + 1) (J := J) hR h
  have E1 := tE_b (tE_r I) f1
  have V5 : cV_5 S D I1 := by
    have V := h.1.1
    unfold cV_5 at V ⊢
    rw [E1.2.1, E1.1 6 (by decide), E1.1 7 (by decide), E1.1 8 (by decide), E1.1 10 (by decide)]
    exact V
  have y2 := sp_39_5 (d := d) (J := J) hR1 V5 (gOK_n hB)
  refine zcl_as (Nat.le_of_ble_eq_true rfl) (zg_wp 60 _ ?_)
  simp only [zpr_72, zhd_72, zp72, zh72, zml_72, o_bad, o_push, o_iload, o_lload, o_aload, o_istore, o_astore, o_lstore, o_iinc, o_ii, o_dv, o_i, o_ll, o_lshl, o_lcmp, o_i2l, o_l2i, o_dup, o_dup2, o_pop, o_goto, o_if, o_ic, o_sw, o_ireturn, o_nreturn, o_lreturn, o_return, o_min, o_max, o_geti, o_getr, o_puti, o_putz, o_putr, o_gets, o_iald, o_lald, o_aald, o_iast, o_last, o_aast, o_alen, o_new, o_newa, o_multi, o_call, o_scall, o_oinit, o_copyi, o_copyl, z_eq, z_ne, z_lt, z_ge, z_gt, z_le, z_ceq, z_cne, z_clt, z_cge, z_cgt, z_cle, z_rz, z_rb, z_rc, q_nz, zg_0, zg_s, zgk_s, zgh_n, zgh_s, zq_n, zq_br, zq_gd, zq_cl2, zqc_s, zq_rt, zq_sw, zq_st, zsws, zent, zpad, zla, zlg, zpop, zrv, zc1, zmk, zob_w, zaw_w, zar_w, zln_w, zld_w, zin_w, zcpg_w, znr_w, List.getElem?_cons_zero, List.getElem?_cons_succ, List.set_cons_zero, List.set_cons_succ, List.length_cons, List.length_nil, Nat.reduceLT, Nat.reduceLeDiff, Nat.reduceAdd, Nat.reduceSub, Nat.reduceMul, Nat.reduceEqDiff, Nat.reduceBEq, ↓reduceIte, q_10, q_01, q_00, q_m1, q_m2, q_m3, q_m4, q_m5, q_n1, q_n2, decide_eq_true_eq, decide_eq_false_iff_not, Bool.and_eq_true, Bool.true_and, Bool.and_true, Bool.decide_and, decide_true, decide_false, Bool.true_eq_false, Bool.false_eq_true, Option.toList_some, Option.toList_none, List.cons_append, List.nil_append, true_and, and_true, and_self, not_true_eq_false, not_false_eq_true, forall_const, false_implies, implies_true, Nat.le_refl, ne_eq, Bool.not_eq_true, eq_self, zshA, zb_rz, zb_ne, zb_eq, qem, true_implies, Nat.zero_le, false_and, and_false, Bool.or_eq_true, or_true, true_or, false_or, or_false, zr_0_0 hR, zr_0_5 hR, zr_0_0 hR1, y1, y2]
  exact sl_72 hR1 h hB (g_n S) 0 _ _ I1 (by omega) E1 V1 ⟨by rw [g1]; exact h.2.1.1, by rw [g2]; exact h.2.1.2.1, by rw [g5]; exact h.2.1.2.2.2⟩
theorem mV_setL {S : gS} {D : gD} {I : zI} {s : Nat} {x : Int32} (V : mV S D I) : mV S (gSetL D s x) (zup I 78 s x) := by
  unfold mV at V ⊢
  simp only [zup_row, Nat.reduceEqDiff, ↓reduceIte]
  refine ⟨⟨V.1.1, V.1.2.1, V.1.2.2.1, ?_, V.1.2.2.2.2⟩, V.2⟩
  rw [V.1.2.2.2.1]
  rfl
/-- only the length of s -/
def mL (s : Nat) (I I' : zI) : Prop := (∀ k, k ≠ 78 → I' k = I k) ∧ ∀ j, j ≠ s → I' 78 j = I 78 j
set_option maxRecDepth 40000 in
theorem sl_163i {R : zR} (hR : qRk R a b c i) {I0 : zI} (V0 : mV S D I0) (hn6 : g_n S ≤ 6) (hl : ∀ s, iR (g_l D s) 0 999) {s : Nat} (hs : s < g_n S) : ∀ (k n : Nat) (p u : Int32) (I : zI) (Q : Option Value → zW → Prop), n + k = 100 → mL s I0 I →
    (zWP (zcl (d + 2)) 163 (10, [some (.ref 75), some (.int (gPi S D s k n p u).2), some (.int (gPi S D s k n p u).1), some (.int (nI (s + 1))), none, none, none], [], (I0, J, R, 111)) Q) →
    zWP (zcl (d + 2)) 163 (29, [some (.ref 75), some (.int u), some (.int p), some (.int (nI s)), some (.int (g_l D s)), some (.int (nI n)), none], [], (I, J, R, 111)) Q := by
  have es := q_row (m := s) (n := 6) (by omega) (by omega)
  intro k
  induction k with
  | zero =>
    intro n p u I Q hk M hQ
    have e1 : (100 : Int32) ≤ nI n := q_tle (m := 100) (by omega) (by omega)
    refine zg_wp 40 _ ?_
    simp only [zpr_163, zhd_163, zp163, zh163, zml_163, o_bad, o_push, o_iload, o_lload, o_aload, o_istore, o_astore, o_lstore, o_iinc, o_ii, o_dv, o_i, o_ll, o_lshl, o_lcmp, o_i2l, o_l2i, o_dup, o_dup2, o_pop, o_goto, o_if, o_ic, o_sw, o_ireturn, o_nreturn, o_lreturn, o_return, o_min, o_max, o_geti, o_getr, o_puti, o_putz, o_putr, o_gets, o_iald, o_lald, o_aald, o_iast, o_last, o_aast, o_alen, o_new, o_newa, o_multi, o_call, o_scall, o_oinit, o_copyi, o_copyl, z_eq, z_ne, z_lt, z_ge, z_gt, z_le, z_ceq, z_cne, z_clt, z_cge, z_cgt, z_cle, z_rz, z_rb, z_rc, q_nz, zg_0, zg_s, zgk_s, zgh_n, zgh_s, zq_n, zq_br, zq_gd, zq_cl2, zqc_s, zq_rt, zq_sw, zq_st, zsws, zent, zpad, zla, zlg, zpop, zrv, zc1, zmk, zob_w, zaw_w, zar_w, zln_w, zld_w, zin_w, zcpg_w, znr_w, List.getElem?_cons_zero, List.getElem?_cons_succ, List.set_cons_zero, List.set_cons_succ, List.length_cons, List.length_nil, Nat.reduceLT, Nat.reduceLeDiff, Nat.reduceAdd, Nat.reduceSub, Nat.reduceMul, Nat.reduceEqDiff, Nat.reduceBEq, ↓reduceIte, q_10, q_01, q_00, q_m1, q_m2, q_m3, q_m4, q_m5, q_n1, q_n2, decide_eq_true_eq, decide_eq_false_iff_not, Bool.and_eq_true, Bool.true_and, Bool.and_true, Bool.decide_and, decide_true, decide_false, Bool.true_eq_false, Bool.false_eq_true, Option.toList_some, Option.toList_none, List.cons_append, List.nil_append, true_and, and_true, and_self, not_true_eq_false, not_false_eq_true, forall_const, false_implies, implies_true, Nat.le_refl, ne_eq, Bool.not_eq_true, eq_self, zshA, zb_rz, zb_ne, zb_eq, qem, true_implies, Nat.zero_le, false_and, and_false, Bool.or_eq_true, or_true, true_or, false_or, or_false, e1, es, zr_75_5 hR]
    have eI : zup I 78 s (g_l D s) = I0 := by
      funext k
      by_cases hk : k = 78
      · rw [zup_row, if_pos hk]
        funext j
        rw [hk]
        by_cases hj : j = s
        · rw [if_pos hj, hj, V0.1.2.2.2.1]
        · rw [if_neg hj, M.2 j hj]
      · rw [zup_row, if_neg hk, M.1 k hk]
    rw [eI]
    exact hQ
  | succ k ih =>
    intro n p u I Q hk M hQ
    have e1 : ¬ (100 : Int32) ≤ nI n := q_tnle (m := 100) (by omega) (by omega)
    have e2 := (q_row (m := n) (n := 1000) (by omega) (by omega)).2.2
    have M2 : mL s I0 (zup I 78 s (g_l D s + nI n)) := ⟨fun k hk => by rw [zup_row, if_neg hk]; exact M.1 k hk, fun j hj => by rw [zup_at, if_neg (fun e => hj e.2)]; exact M.2 j hj⟩
    have V2 : mV S (gSetL D s (g_l D s + nI n)) (zup I 78 s (g_l D s + nI n)) := by
      have V := V0
      unfold mV at V ⊢
      rw [M2.1 75 (by decide), M2.1 76 (by decide), M2.1 77 (by decide), M2.1 80 (by decide)]
      refine ⟨⟨V.1.1, V.1.2.1, V.1.2.2.1, ?_, V.1.2.2.2.2⟩, V.2⟩
      funext j
      show _ = if j = s then g_l D s + nI n else g_l D j
      by_cases hj : j = s
      · rw [if_pos hj, zup_at, if_pos ⟨rfl, hj⟩]
      · rw [if_neg hj, M2.2 j hj, V.1.2.2.2.1]
    have y1 := sp_147 (d := d) (J := J) hR hn6 V2 (gBd_p (gSetL_b hl (by omega)) 0)
    rw [show gSp S (gSetL D s (g_l D s + nI n)) = gPo S D s n from rfl] at y1
    have e3 : (100 : Int32) * nI s + nI n = nI (100 * s + n) := by
      rw [show (100 : Int32) * nI s = nI (100 * s) from q_mul2, q_add3]
    refine zg_wp 60 _ ?_
    by_cases hu : gPo S D s n < u
    · have g : gPi S D s (k + 1) n p u = gPi S D s k (n + 1) (nI (100 * s + n)) (gPo S D s n) := if_pos hu
      rw [g] at hQ
      simp only [zpr_163, zhd_163, zp163, zh163, zml_163, o_bad, o_push, o_iload, o_lload, o_aload, o_istore, o_astore, o_lstore, o_iinc, o_ii, o_dv, o_i, o_ll, o_lshl, o_lcmp, o_i2l, o_l2i, o_dup, o_dup2, o_pop, o_goto, o_if, o_ic, o_sw, o_ireturn, o_nreturn, o_lreturn, o_return, o_min, o_max, o_geti, o_getr, o_puti, o_putz, o_putr, o_gets, o_iald, o_lald, o_aald, o_iast, o_last, o_aast, o_alen, o_new, o_newa, o_multi, o_call, o_scall, o_oinit, o_copyi, o_copyl, z_eq, z_ne, z_lt, z_ge, z_gt, z_le, z_ceq, z_cne, z_clt, z_cge, z_cgt, z_cle, z_rz, z_rb, z_rc, q_nz, zg_0, zg_s, zgk_s, zgh_n, zgh_s, zq_n, zq_br, zq_gd, zq_cl2, zqc_s, zq_rt, zq_sw, zq_st, zsws, zent, zpad, zla, zlg, zpop, zrv, zc1, zmk, zob_w, zaw_w, zar_w, zln_w, zld_w, zin_w, zcpg_w, znr_w, List.getElem?_cons_zero, List.getElem?_cons_succ, List.set_cons_zero, List.set_cons_succ, List.length_cons, List.length_nil, Nat.reduceLT, Nat.reduceLeDiff, Nat.reduceAdd, Nat.reduceSub, Nat.reduceMul, Nat.reduceEqDiff, Nat.reduceBEq, ↓reduceIte, q_10, q_01, q_00, q_m1, q_m2, q_m3, q_m4, q_m5, q_n1, q_n2, decide_eq_true_eq, decide_eq_false_iff_not, Bool.and_eq_true, Bool.true_and, Bool.and_true, Bool.decide_and, decide_true, decide_false, Bool.true_eq_false, Bool.false_eq_true, Option.toList_some, Option.toList_none, List.cons_append, List.nil_append, true_and, and_true, and_self, not_true_eq_false, not_false_eq_true, forall_const, false_implies, implies_true, Nat.le_refl, ne_eq, Bool.not_eq_true, eq_self, zshA, zb_rz, zb_ne, zb_eq, qem, true_implies, Nat.zero_le, false_and, and_false, Bool.or_eq_true, or_true, true_or, false_or, or_false, e1, e2, es, zr_75_5 hR, y1, hu, e3]
      exact ih (n + 1) _ _ _ Q (by omega) M2 hQ
    · have g : gPi S D s (k + 1) n p u = gPi S D s k (n + 1) p u := if_neg hu
      rw [g] at hQ
      simp only [zpr_163, zhd_163, zp163, zh163, zml_163, o_bad, o_push, o_iload, o_lload, o_aload, o_istore, o_astore, o_lstore, o_iinc, o_ii, o_dv, o_i, o_ll, o_lshl, o_lcmp, o_i2l, o_l2i, o_dup, o_dup2, o_pop, o_goto, o_if, o_ic, o_sw, o_ireturn, o_nreturn, o_lreturn, o_return, o_min, o_max, o_geti, o_getr, o_puti, o_putz, o_putr, o_gets, o_iald, o_lald, o_aald, o_iast, o_last, o_aast, o_alen, o_new, o_newa, o_multi, o_call, o_scall, o_oinit, o_copyi, o_copyl, z_eq, z_ne, z_lt, z_ge, z_gt, z_le, z_ceq, z_cne, z_clt, z_cge, z_cgt, z_cle, z_rz, z_rb, z_rc, q_nz, zg_0, zg_s, zgk_s, zgh_n, zgh_s, zq_n, zq_br, zq_gd, zq_cl2, zqc_s, zq_rt, zq_sw, zq_st, zsws, zent, zpad, zla, zlg, zpop, zrv, zc1, zmk, zob_w, zaw_w, zar_w, zln_w, zld_w, zin_w, zcpg_w, znr_w, List.getElem?_cons_zero, List.getElem?_cons_succ, List.set_cons_zero, List.set_cons_succ, List.length_cons, List.length_nil, Nat.reduceLT, Nat.reduceLeDiff, Nat.reduceAdd, Nat.reduceSub, Nat.reduceMul, Nat.reduceEqDiff, Nat.reduceBEq, ↓reduceIte, q_10, q_01, q_00, q_m1, q_m2, q_m3, q_m4, q_m5, q_n1, q_n2, decide_eq_true_eq, decide_eq_false_iff_not, Bool.and_eq_true, Bool.true_and, Bool.and_true, Bool.decide_and, decide_true, decide_false, Bool.true_eq_false, Bool.false_eq_true, Option.toList_some, Option.toList_none, List.cons_append, List.nil_append, true_and, and_true, and_self, not_true_eq_false, not_false_eq_true, forall_const, false_implies, implies_true, Nat.le_refl, ne_eq, Bool.not_eq_true, eq_self, zshA, zb_rz, zb_ne, zb_eq, qem, true_implies, Nat.zero_le, false_and, and_false, Bool.or_eq_true, or_true, true_or, false_or, or_false, e1, e2, es, zr_75_5 hR, y1, hu, e3]
      exact ih (n + 1) _ _ _ Q (by omega) M2 hQ
set_option maxRecDepth 40000 in
theorem sl_163 {R : zR} (hR : qRk R a b c i) {I : zI} (V : mV S D I) (hn6 : g_n S ≤ 6) (hl : ∀ s, iR (g_l D s) 0 999) : ∀ (k s : Nat) (p u : Int32), s + k = g_n S → zWP (zcl (d + 2)) 163 (10, [some (.ref 75), some (.int u), some (.int p), some (.int (nI s)), none, none, none], [], (I, J, R, 111)) (fun r w => r = some (.int (gPj S D k s p u)) ∧ w = (I, J, R, 111)) := by
  have v0 := V.1.1
  have v3 := V.1.2.2.2.1
  intro k
  induction k with
  | zero =>
    intro s p u hk
    have e1 : nI (g_n S) ≤ nI s := q_tle (by omega) (by omega)
    refine zg_wp 30 _ ?_
    simp only [zpr_163, zhd_163, zp163, zh163, zml_163, o_bad, o_push, o_iload, o_lload, o_aload, o_istore, o_astore, o_lstore, o_iinc, o_ii, o_dv, o_i, o_ll, o_lshl, o_lcmp, o_i2l, o_l2i, o_dup, o_dup2, o_pop, o_goto, o_if, o_ic, o_sw, o_ireturn, o_nreturn, o_lreturn, o_return, o_min, o_max, o_geti, o_getr, o_puti, o_putz, o_putr, o_gets, o_iald, o_lald, o_aald, o_iast, o_last, o_aast, o_alen, o_new, o_newa, o_multi, o_call, o_scall, o_oinit, o_copyi, o_copyl, z_eq, z_ne, z_lt, z_ge, z_gt, z_le, z_ceq, z_cne, z_clt, z_cge, z_cgt, z_cle, z_rz, z_rb, z_rc, q_nz, zg_0, zg_s, zgk_s, zgh_n, zgh_s, zq_n, zq_br, zq_gd, zq_cl2, zqc_s, zq_rt, zq_sw, zq_st, zsws, zent, zpad, zla, zlg, zpop, zrv, zc1, zmk, zob_w, zaw_w, zar_w, zln_w, zld_w, zin_w, zcpg_w, znr_w, List.getElem?_cons_zero, List.getElem?_cons_succ, List.set_cons_zero, List.set_cons_succ, List.length_cons, List.length_nil, Nat.reduceLT, Nat.reduceLeDiff, Nat.reduceAdd, Nat.reduceSub, Nat.reduceMul, Nat.reduceEqDiff, Nat.reduceBEq, ↓reduceIte, q_10, q_01, q_00, q_m1, q_m2, q_m3, q_m4, q_m5, q_n1, q_n2, decide_eq_true_eq, decide_eq_false_iff_not, Bool.and_eq_true, Bool.true_and, Bool.and_true, Bool.decide_and, decide_true, decide_false, Bool.true_eq_false, Bool.false_eq_true, Option.toList_some, Option.toList_none, List.cons_append, List.nil_append, true_and, and_true, and_self, not_true_eq_false, not_false_eq_true, forall_const, false_implies, implies_true, Nat.le_refl, ne_eq, Bool.not_eq_true, eq_self, zshA, zb_rz, zb_ne, zb_eq, qem, true_implies, Nat.zero_le, false_and, and_false, Bool.or_eq_true, or_true, true_or, false_or, or_false, v0, e1]
    rfl
  | succ k ih =>
    intro s p u hk
    have e1 : ¬ nI (g_n S) ≤ nI s := q_tnle (by omega) (by omega)
    have es := q_row (m := s) (n := 6) (by omega) (by omega)
    refine zg_wp 30 _ ?_
    simp only [zpr_163, zhd_163, zp163, zh163, zml_163, o_bad, o_push, o_iload, o_lload, o_aload, o_istore, o_astore, o_lstore, o_iinc, o_ii, o_dv, o_i, o_ll, o_lshl, o_lcmp, o_i2l, o_l2i, o_dup, o_dup2, o_pop, o_goto, o_if, o_ic, o_sw, o_ireturn, o_nreturn, o_lreturn, o_return, o_min, o_max, o_geti, o_getr, o_puti, o_putz, o_putr, o_gets, o_iald, o_lald, o_aald, o_iast, o_last, o_aast, o_alen, o_new, o_newa, o_multi, o_call, o_scall, o_oinit, o_copyi, o_copyl, z_eq, z_ne, z_lt, z_ge, z_gt, z_le, z_ceq, z_cne, z_clt, z_cge, z_cgt, z_cle, z_rz, z_rb, z_rc, q_nz, zg_0, zg_s, zgk_s, zgh_n, zgh_s, zq_n, zq_br, zq_gd, zq_cl2, zqc_s, zq_rt, zq_sw, zq_st, zsws, zent, zpad, zla, zlg, zpop, zrv, zc1, zmk, zob_w, zaw_w, zar_w, zln_w, zld_w, zin_w, zcpg_w, znr_w, List.getElem?_cons_zero, List.getElem?_cons_succ, List.set_cons_zero, List.set_cons_succ, List.length_cons, List.length_nil, Nat.reduceLT, Nat.reduceLeDiff, Nat.reduceAdd, Nat.reduceSub, Nat.reduceMul, Nat.reduceEqDiff, Nat.reduceBEq, ↓reduceIte, q_10, q_01, q_00, q_m1, q_m2, q_m3, q_m4, q_m5, q_n1, q_n2, decide_eq_true_eq, decide_eq_false_iff_not, Bool.and_eq_true, Bool.true_and, Bool.and_true, Bool.decide_and, decide_true, decide_false, Bool.true_eq_false, Bool.false_eq_true, Option.toList_some, Option.toList_none, List.cons_append, List.nil_append, true_and, and_true, and_self, not_true_eq_false, not_false_eq_true, forall_const, false_implies, implies_true, Nat.le_refl, ne_eq, Bool.not_eq_true, eq_self, zshA, zb_rz, zb_ne, zb_eq, qem, true_implies, Nat.zero_le, false_and, and_false, Bool.or_eq_true, or_true, true_or, false_or, or_false, v0, e1, zr_75_5 hR, v3, es]
    exact sl_163i hR V hn6 hl (s := s) (by omega) 99 1 p u I _ (by omega) ⟨fun _ _ => rfl, fun _ _ => rfl⟩ (ih (s + 1) _ _ (by omega))
theorem ma_163 (hR : qRk R a b c i) {I : zI} (V : mV S D I) (hn6 : g_n S ≤ 6) (hl : ∀ s, iR (g_l D s) 0 999) : zcl (d + 3) 163 [.ref 75] (I, J, R, 111) = some (some (.int (gPj S D (g_n S) 0 (-5) (gSp S D))), (I, J, R, 111)) := by
  have y1 := sp_147 (d := d) (J := J) hR hn6 V (by rw [Int32.le_iff_toInt_le, i0]; exact (hl 0).1)
  refine zcl_of (Nat.le_of_ble_eq_true rfl) (zg_wp 30 _ ?_)
  simp only [zpr_163, zhd_163, zp163, zh163, zml_163, o_bad, o_push, o_iload, o_lload, o_aload, o_istore, o_astore, o_lstore, o_iinc, o_ii, o_dv, o_i, o_ll, o_lshl, o_lcmp, o_i2l, o_l2i, o_dup, o_dup2, o_pop, o_goto, o_if, o_ic, o_sw, o_ireturn, o_nreturn, o_lreturn, o_return, o_min, o_max, o_geti, o_getr, o_puti, o_putz, o_putr, o_gets, o_iald, o_lald, o_aald, o_iast, o_last, o_aast, o_alen, o_new, o_newa, o_multi, o_call, o_scall, o_oinit, o_copyi, o_copyl, z_eq, z_ne, z_lt, z_ge, z_gt, z_le, z_ceq, z_cne, z_clt, z_cge, z_cgt, z_cle, z_rz, z_rb, z_rc, q_nz, zg_0, zg_s, zgk_s, zgh_n, zgh_s, zq_n, zq_br, zq_gd, zq_cl2, zqc_s, zq_rt, zq_sw, zq_st, zsws, zent, zpad, zla, zlg, zpop, zrv, zc1, zmk, zob_w, zaw_w, zar_w, zln_w, zld_w, zin_w, zcpg_w, znr_w, List.getElem?_cons_zero, List.getElem?_cons_succ, List.set_cons_zero, List.set_cons_succ, List.length_cons, List.length_nil, Nat.reduceLT, Nat.reduceLeDiff, Nat.reduceAdd, Nat.reduceSub, Nat.reduceMul, Nat.reduceEqDiff, Nat.reduceBEq, ↓reduceIte, q_10, q_01, q_00, q_m1, q_m2, q_m3, q_m4, q_m5, q_n1, q_n2, decide_eq_true_eq, decide_eq_false_iff_not, Bool.and_eq_true, Bool.true_and, Bool.and_true, Bool.decide_and, decide_true, decide_false, Bool.true_eq_false, Bool.false_eq_true, Option.toList_some, Option.toList_none, List.cons_append, List.nil_append, true_and, and_true, and_self, not_true_eq_false, not_false_eq_true, forall_const, false_implies, implies_true, Nat.le_refl, ne_eq, Bool.not_eq_true, eq_self, zshA, zb_rz, zb_ne, zb_eq, qem, true_implies, Nat.zero_le, false_and, and_false, Bool.or_eq_true, or_true, true_or, false_or, or_false, y1]
  exact sl_163 hR V hn6 hl (g_n S) 0 _ _ (by omega)
end FI
