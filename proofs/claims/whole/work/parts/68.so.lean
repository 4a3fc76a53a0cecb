/-! ===== the class evaluates what an over or under is about ===== -/
/-- K is a kitchen with rows K1 K2 K3, a letters -/
def kF (K K1 K2 K3 : Nat) (R : zR) : Prop := ((K < 111) = True ∧ (zsh K).1 = 0 ∧ (zsh K).2.1 = 1) ∧ (R K 0 = some K1 ∧ R K 1 = some K2 ∧ R K 3 = some K3) ∧ ((K1 < 111) = True ∧ (K1 = 1021) = False ∧ (K1 < 1000) = True ∧ (zsh K1).1 = 1 ∧ (zsh K1).2.2 = 10) ∧ ((K2 < 111) = True ∧ (K2 = 1021) = False ∧ (K2 < 1000) = True ∧ (zsh K2).1 = 1 ∧ (zsh K2).2.2 = 10) ∧ ((K3 < 111) = True ∧ (K3 = 1021) = False ∧ (K3 < 1000) = True ∧ (zsh K3).1 = 1 ∧ (zsh K3).2.2 = 100)
def aF (a : Nat) : Prop := (a < 111) = True ∧ (a = 1021) = False ∧ (a < 1000) = True ∧ (zsh a).1 = 1 ∧ (zsh a).2.2 = 6
theorem aF_11 : aF 11 := ⟨by simp, by simp, by simp, rfl, rfl⟩
theorem aF_25 : aF 25 := ⟨by simp, by simp, by simp, rfl, rfl⟩
theorem kF_of {R : zR} {a b c : Nat} {i : Option Nat} {K : Nat} (hR : qRk R a b c i) (h : zKt K) : kF K (K + 1) (K + 2) (K + 3) R := by
  rcases h with rfl | rfl | rfl | rfl | rfl | rfl | rfl
  · exact ⟨⟨by simp, rfl, rfl⟩, ⟨zr_1_0 hR, zr_1_1 hR, zr_1_3 hR⟩, ⟨by simp, by simp, by simp, rfl, rfl⟩, ⟨by simp, by simp, by simp, rfl, rfl⟩, ⟨by simp, by simp, by simp, rfl, rfl⟩⟩
  · exact ⟨⟨by simp, rfl, rfl⟩, ⟨zr_37_0 hR, zr_37_1 hR, zr_37_3 hR⟩, ⟨by simp, by simp, by simp, rfl, rfl⟩, ⟨by simp, by simp, by simp, rfl, rfl⟩, ⟨by simp, by simp, by simp, rfl, rfl⟩⟩
  · exact ⟨⟨by simp, rfl, rfl⟩, ⟨zr_41_0 hR, zr_41_1 hR, zr_41_3 hR⟩, ⟨by simp, by simp, by simp, rfl, rfl⟩, ⟨by simp, by simp, by simp, rfl, rfl⟩, ⟨by simp, by simp, by simp, rfl, rfl⟩⟩
  · exact ⟨⟨by simp, rfl, rfl⟩, ⟨zr_45_0 hR, zr_45_1 hR, zr_45_3 hR⟩, ⟨by simp, by simp, by simp, rfl, rfl⟩, ⟨by simp, by simp, by simp, rfl, rfl⟩, ⟨by simp, by simp, by simp, rfl, rfl⟩⟩
  · exact ⟨⟨by simp, rfl, rfl⟩, ⟨zr_49_0 hR, zr_49_1 hR, zr_49_3 hR⟩, ⟨by simp, by simp, by simp, rfl, rfl⟩, ⟨by simp, by simp, by simp, rfl, rfl⟩, ⟨by simp, by simp, by simp, rfl, rfl⟩⟩
  · exact ⟨⟨by simp, rfl, rfl⟩, ⟨zr_53_0 hR, zr_53_1 hR, zr_53_3 hR⟩, ⟨by simp, by simp, by simp, rfl, rfl⟩, ⟨by simp, by simp, by simp, rfl, rfl⟩, ⟨by simp, by simp, by simp, rfl, rfl⟩⟩
  · exact ⟨⟨by simp, rfl, rfl⟩, ⟨zr_57_0 hR, zr_57_1 hR, zr_57_3 hR⟩, ⟨by simp, by simp, by simp, rfl, rfl⟩, ⟨by simp, by simp, by simp, rfl, rfl⟩, ⟨by simp, by simp, by simp, rfl, rfl⟩⟩
theorem q_m33 : ((-1 : Int32) = -2) ↔ False := by decide
theorem q_so1 : ((-2 : Int32) = -1 ↔ False) ∧ ((-3 : Int32) = -1 ↔ False) ∧ ((-3 : Int32) = -2 ↔ False) ∧ ((1 : Int32) &&& 31 = 1) := by decide
/-- the answer of a test, as the class has it -/
theorem gTs_lt {L : Nat → Int32} {p s m : Nat} (hs : s < 3) (h : L p < nI m) : ((0 : Int32) = nI s) ↔ gTs L p s m = true := by
  have h2 : ¬ L p = nI m := fun e => absurd (e ▸ h) Int32.lt_irrefl
  have h3 : ¬ nI m < L p := Int32.lt_asymm h
  unfold gTs
  simp only [h, h2, h3, decide_true, decide_false]
  rcases (by omega : s = 0 ∨ s = 1 ∨ s = 2) with rfl | rfl | rfl <;> decide
theorem gTs_eq {L : Nat → Int32} {p s m : Nat} (hs : s < 3) (h : L p = nI m) : ((1 : Int32) = nI s) ↔ gTs L p s m = true := by
  unfold gTs
  simp only [h, decide_true, decide_false, Int32.lt_irrefl]
  rcases (by omega : s = 0 ∨ s = 1 ∨ s = 2) with rfl | rfl | rfl <;> decide
theorem gTs_gt {L : Nat → Int32} {p s m : Nat} (hs : s < 3) (h : nI m < L p) : ((2 : Int32) = nI s) ↔ gTs L p s m = true := by
  have h2 : ¬ L p = nI m := fun e => absurd (e ▸ h) Int32.lt_irrefl
  have h3 : ¬ L p < nI m := Int32.lt_asymm h
  unfold gTs
  simp only [h, h2, h3, decide_true, decide_false]
  rcases (by omega : s = 0 ∨ s = 1 ∨ s = 2) with rfl | rfl | rfl <;> decide
section QK
variable {d : Nat} {I : zI} {J : zJ} {R : zR} {K K1 K2 K3 a : Nat}

set_option maxRecDepth 40000 in
theorem sl_11 (hk : kF K K1 K2 K3 R) (ha : aF a) {e : Nat} (he : e ≤ 100) : ∀ (j at' : Nat) (h : Int32) (k : List Bool) (v6 v7 : Option Value), at' + j = e → hB h k → gWf (I K3) at' j k.length → zWP (zcl (d + 1)) 11 (6, [some (.ref K), v6, some (.int (nI e)), some (.ref a), some (.int h), some (.int (nI at')), none, none, none, none], [], (I, J, R, 111)) (fun r w => r = some (.int (if (gRun (I K3) (I a) at' j k).headD false = true then 1 else 0)) ∧ w = (I, J, R, 111)) := by
  obtain ⟨⟨k1, k2, k3⟩, ⟨r0, r1, r3⟩, ⟨a1, a2, a3, a4, a5⟩, ⟨b1, b2, b3, b4, b5⟩, ⟨c1, c2, c3, c4, c5⟩⟩ := hk
  obtain ⟨l1, l2, l3, l4, l5⟩ := ha
  intro j
  induction j with
  | zero =>
    intro at' h k v6 v7 hj hb hw
    have e1 : nI e ≤ nI at' := q_tle (by omega) (by omega)
    refine zg_wp 20 _ ?_
    match k, hw, hb with
    | [b], hw, hb =>
      simp only [zpr_11, zhd_11, zp11, zh11, zml_11, o_bad, o_push, o_iload, o_lload, o_aload, o_istore, o_astore, o_lstore, o_iinc, o_ii, o_dv, o_i, o_ll, o_lshl, o_lcmp, o_i2l, o_l2i, o_dup, o_dup2, o_pop, o_goto, o_if, o_ic, o_sw, o_ireturn, o_nreturn, o_lreturn, o_return, o_min, o_max, o_geti, o_getr, o_puti, o_putz, o_putr, o_gets, o_iald, o_lald, o_aald, o_iast, o_last, o_aast, o_alen, o_new, o_newa, o_multi, o_call, o_scall, o_chk, o_oinit, o_copyi, o_copyl, z_eq, z_ne, z_lt, z_ge, z_gt, z_le, z_ceq, z_cne, z_clt, z_cge, z_cgt, z_cle, z_rz, z_rb, z_rc, q_nz, zg_0, zg_s, zgk_s, zgh_n, zgh_s, zq_n, zq_br, zq_gd, zq_cl2, zqc_s, zq_rt, zq_sw, zq_st, zsws, zent, zpad, zla, zlg, zpop, zrv, zc1, zmk, zob_w, zaw_w, zar_w, zln_w, zld_w, zin_w, zcpg_w, znr_w, List.getElem?_cons_zero, List.getElem?_cons_succ, List.set_cons_zero, List.set_cons_succ, List.length_cons, List.length_nil, Nat.reduceLT, Nat.reduceLeDiff, Nat.reduceAdd, Nat.reduceSub, Nat.reduceMul, Nat.reduceEqDiff, Nat.reduceBEq, ↓reduceIte, q_10, q_01, q_00, q_m1, q_m2, q_m3, q_m4, q_m5, q_n1, q_n2, decide_eq_true_eq, decide_eq_false_iff_not, Bool.and_eq_true, Bool.true_and, Bool.and_true, Bool.decide_and, decide_true, decide_false, Bool.true_eq_false, Bool.false_eq_true, Option.toList_some, Option.toList_none, List.cons_append, List.nil_append, true_and, and_true, and_self, not_true_eq_false, not_false_eq_true, forall_const, false_implies, implies_true, Nat.le_refl, ne_eq, Bool.not_eq_true, eq_self, zshA, zb_rz, zb_ne, zb_eq, qem, true_implies, Nat.zero_le, false_and, and_false, Bool.or_eq_true, or_true, true_or, false_or, or_false, e1, gRun, List.headD_cons, hB_top hb]
      cases b <;> simp
  | succ j ih =>
    intro at' h k v6 v7 hj hb hw
    have e1 : ¬ nI e ≤ nI at' := q_tnle (by omega) (by omega)
    have e2 := q_row (m := at') (n := 100) (by omega) (by omega)
    have hw2 := hw.2
    have hl := gOk_len (L := I a) hw.1
    refine zg_wp 80 _ ?_
    rcases hw.1 with ⟨hx, hn⟩ | ⟨hx, hn⟩ | ⟨hx, hn⟩ | ⟨p, s, m, hp, hs, hm, hx, hn⟩
    · simp only [zpr_11, zhd_11, zp11, zh11, zml_11, o_bad, o_push, o_iload, o_lload, o_aload, o_istore, o_astore, o_lstore, o_iinc, o_ii, o_dv, o_i, o_ll, o_lshl, o_lcmp, o_i2l, o_l2i, o_dup, o_dup2, o_pop, o_goto, o_if, o_ic, o_sw, o_ireturn, o_nreturn, o_lreturn, o_return, o_min, o_max, o_geti, o_getr, o_puti, o_putz, o_putr, o_gets, o_iald, o_lald, o_aald, o_iast, o_last, o_aast, o_alen, o_new, o_newa, o_multi, o_call, o_scall, o_chk, o_oinit, o_copyi, o_copyl, z_eq, z_ne, z_lt, z_ge, z_gt, z_le, z_ceq, z_cne, z_clt, z_cge, z_cgt, z_cle, z_rz, z_rb, z_rc, q_nz, zg_0, zg_s, zgk_s, zgh_n, zgh_s, zq_n, zq_br, zq_gd, zq_cl2, zqc_s, zq_rt, zq_sw, zq_st, zsws, zent, zpad, zla, zlg, zpop, zrv, zc1, zmk, zob_w, zaw_w, zar_w, zln_w, zld_w, zin_w, zcpg_w, znr_w, List.getElem?_cons_zero, List.getElem?_cons_succ, List.set_cons_zero, List.set_cons_succ, List.length_cons, List.length_nil, Nat.reduceLT, Nat.reduceLeDiff, Nat.reduceAdd, Nat.reduceSub, Nat.reduceMul, Nat.reduceEqDiff, Nat.reduceBEq, ↓reduceIte, q_10, q_01, q_00, q_m1, q_m2, q_m3, q_m4, q_m5, q_n1, q_n2, decide_eq_true_eq, decide_eq_false_iff_not, Bool.and_eq_true, Bool.true_and, Bool.and_true, Bool.decide_and, decide_true, decide_false, Bool.true_eq_false, Bool.false_eq_true, Option.toList_some, Option.toList_none, List.cons_append, List.nil_append, true_and, and_true, and_self, not_true_eq_false, not_false_eq_true, forall_const, false_implies, implies_true, Nat.le_refl, ne_eq, Bool.not_eq_true, eq_self, zshA, zb_rz, zb_ne, zb_eq, qem, true_implies, Nat.zero_le, false_and, and_false, Bool.or_eq_true, or_true, true_or, false_or, or_false, e1, e2, k1, k2, k3, r3, c1, c2, c3, c4, c5, hx, q_so1]
      match k, hn, hb with
      | b :: r, hn, hb =>
        have g : gTok (I a) (I K3 at') (b :: r) = (!b) :: r := by rw [hx]; rfl
        have w2 : gWf (I K3) (at' + 1) j ((!b) :: r).length := by rw [← g, hl]; exact hw2
        have z := ih (at' + 1) _ _ none none (by omega) (hB_not hb) w2
        rw [← g] at z
        exact z
    · simp only [zpr_11, zhd_11, zp11, zh11, zml_11, o_bad, o_push, o_iload, o_lload, o_aload, o_istore, o_astore, o_lstore, o_iinc, o_ii, o_dv, o_i, o_ll, o_lshl, o_lcmp, o_i2l, o_l2i, o_dup, o_dup2, o_pop, o_goto, o_if, o_ic, o_sw, o_ireturn, o_nreturn, o_lreturn, o_return, o_min, o_max, o_geti, o_getr, o_puti, o_putz, o_putr, o_gets, o_iald, o_lald, o_aald, o_iast, o_last, o_aast, o_alen, o_new, o_newa, o_multi, o_call, o_scall, o_chk, o_oinit, o_copyi, o_copyl, z_eq, z_ne, z_lt, z_ge, z_gt, z_le, z_ceq, z_cne, z_clt, z_cge, z_cgt, z_cle, z_rz, z_rb, z_rc, q_nz, zg_0, zg_s, zgk_s, zgh_n, zgh_s, zq_n, zq_br, zq_gd, zq_cl2, zqc_s, zq_rt, zq_sw, zq_st, zsws, zent, zpad, zla, zlg, zpop, zrv, zc1, zmk, zob_w, zaw_w, zar_w, zln_w, zld_w, zin_w, zcpg_w, znr_w, List.getElem?_cons_zero, List.getElem?_cons_succ, List.set_cons_zero, List.set_cons_succ, List.length_cons, List.length_nil, Nat.reduceLT, Nat.reduceLeDiff, Nat.reduceAdd, Nat.reduceSub, Nat.reduceMul, Nat.reduceEqDiff, Nat.reduceBEq, ↓reduceIte, q_10, q_01, q_00, q_m1, q_m2, q_m3, q_m4, q_m5, q_n1, q_n2, decide_eq_true_eq, decide_eq_false_iff_not, Bool.and_eq_true, Bool.true_and, Bool.and_true, Bool.decide_and, decide_true, decide_false, Bool.true_eq_false, Bool.false_eq_true, Option.toList_some, Option.toList_none, List.cons_append, List.nil_append, true_and, and_true, and_self, not_true_eq_false, not_false_eq_true, forall_const, false_implies, implies_true, Nat.le_refl, ne_eq, Bool.not_eq_true, eq_self, zshA, zb_rz, zb_ne, zb_eq, qem, true_implies, Nat.zero_le, false_and, and_false, Bool.or_eq_true, or_true, true_or, false_or, or_false, e1, e2, k1, k2, k3, r3, c1, c2, c3, c4, c5, hx, q_so1]
      match k, hn, hb with
      | b :: a' :: r, hn, hb =>
        have g : gTok (I a) (I K3 at') (b :: a' :: r) = (a' && b) :: r := by rw [hx]; rfl
        have w2 : gWf (I K3) (at' + 1) j ((a' && b) :: r).length := by rw [← g, hl]; exact hw2
        have z := ih (at' + 1) _ _ none none (by omega) (hB_and hb) w2
        rw [← g] at z
        exact z
    · simp only [zpr_11, zhd_11, zp11, zh11, zml_11, o_bad, o_push, o_iload, o_lload, o_aload, o_istore, o_astore, o_lstore, o_iinc, o_ii, o_dv, o_i, o_ll, o_lshl, o_lcmp, o_i2l, o_l2i, o_dup, o_dup2, o_pop, o_goto, o_if, o_ic, o_sw, o_ireturn, o_nreturn, o_lreturn, o_return, o_min, o_max, o_geti, o_getr, o_puti, o_putz, o_putr, o_gets, o_iald, o_lald, o_aald, o_iast, o_last, o_aast, o_alen, o_new, o_newa, o_multi, o_call, o_scall, o_chk, o_oinit, o_copyi, o_copyl, z_eq, z_ne, z_lt, z_ge, z_gt, z_le, z_ceq, z_cne, z_clt, z_cge, z_cgt, z_cle, z_rz, z_rb, z_rc, q_nz, zg_0, zg_s, zgk_s, zgh_n, zgh_s, zq_n, zq_br, zq_gd, zq_cl2, zqc_s, zq_rt, zq_sw, zq_st, zsws, zent, zpad, zla, zlg, zpop, zrv, zc1, zmk, zob_w, zaw_w, zar_w, zln_w, zld_w, zin_w, zcpg_w, znr_w, List.getElem?_cons_zero, List.getElem?_cons_succ, List.set_cons_zero, List.set_cons_succ, List.length_cons, List.length_nil, Nat.reduceLT, Nat.reduceLeDiff, Nat.reduceAdd, Nat.reduceSub, Nat.reduceMul, Nat.reduceEqDiff, Nat.reduceBEq, ↓reduceIte, q_10, q_01, q_00, q_m1, q_m2, q_m3, q_m4, q_m5, q_n1, q_n2, decide_eq_true_eq, decide_eq_false_iff_not, Bool.and_eq_true, Bool.true_and, Bool.and_true, Bool.decide_and, decide_true, decide_false, Bool.true_eq_false, Bool.false_eq_true, Option.toList_some, Option.toList_none, List.cons_append, List.nil_append, true_and, and_true, and_self, not_true_eq_false, not_false_eq_true, forall_const, false_implies, implies_true, Nat.le_refl, ne_eq, Bool.not_eq_true, eq_self, zshA, zb_rz, zb_ne, zb_eq, qem, true_implies, Nat.zero_le, false_and, and_false, Bool.or_eq_true, or_true, true_or, false_or, or_false, e1, e2, k1, k2, k3, r3, c1, c2, c3, c4, c5, hx, q_so1]
      match k, hn, hb with
      | b :: a' :: r, hn, hb =>
        have g : gTok (I a) (I K3 at') (b :: a' :: r) = (a' || b) :: r := by rw [hx]; rfl
        have w2 : gWf (I K3) (at' + 1) j ((a' || b) :: r).length := by rw [← g, hl]; exact hw2
        have z := ih (at' + 1) _ _ none none (by omega) (hB_or hb) w2
        rw [← g] at z
        exact z
    · obtain ⟨x1, x2, x3⟩ := gOk_pos hp hs hm
      have y1 : nI (300 * p + 100 * s + m) / 300 = nI p := by
        rw [show (300 : Int32) = nI 300 from rfl, q_divI (by omega) (by omega) (by omega), show (300 * p + 100 * s + m) / 300 = p from by omega]
      have y2 : nI p - nI p / 6 * 6 = nI p := by
        rw [show (6 : Int32) = nI 6 from rfl, q_remI (by omega) (by omega) (by omega), show p % 6 = p from by omega]
      have y3 : nI (300 * p + 100 * s + m) - nI (300 * p + 100 * s + m) / 100 * 100 = nI m := by
        rw [show (100 : Int32) = nI 100 from rfl, q_remI (by omega) (by omega) (by omega), show (300 * p + 100 * s + m) % 100 = m from by omega]
      have y4 : nI (300 * p + 100 * s + m) / 100 - nI (300 * p + 100 * s + m) / 100 / 3 * 3 = nI s := by
        rw [show (100 : Int32) = nI 100 from rfl, q_divI (by omega) (by omega) (by omega), show (3 : Int32) = nI 3 from rfl, q_remI (by omega) (by omega) (by omega), show (300 * p + 100 * s + m) / 100 % 3 = s from by omega]
      have y5 := q_row (m := p) (n := 6) hp (by omega)
      have g : gTok (I a) (I K3 at') k = gTs (I a) p s m :: k := by rw [hx]; exact gTok_test hp hs hm
      have w2 : gWf (I K3) (at' + 1) j (gTs (I a) p s m :: k).length := by rw [← g, hl]; exact hw2
      have z := ih (at' + 1) _ _ none none (by omega) (hB_push (b := gTs (I a) p s m) hb hn) w2
      rw [← g] at z
      by_cases h1 : I a p < nI m
      · have t := gTs_lt (L := I a) (p := p) (m := m) hs h1
        have h2 : ¬ nI m ≤ I a p := Int32.not_le.mpr h1
        simp only [zpr_11, zhd_11, zp11, zh11, zml_11, o_bad, o_push, o_iload, o_lload, o_aload, o_istore, o_astore, o_lstore, o_iinc, o_ii, o_dv, o_i, o_ll, o_lshl, o_lcmp, o_i2l, o_l2i, o_dup, o_dup2, o_pop, o_goto, o_if, o_ic, o_sw, o_ireturn, o_nreturn, o_lreturn, o_return, o_min, o_max, o_geti, o_getr, o_puti, o_putz, o_putr, o_gets, o_iald, o_lald, o_aald, o_iast, o_last, o_aast, o_alen, o_new, o_newa, o_multi, o_call, o_scall, o_chk, o_oinit, o_copyi, o_copyl, z_eq, z_ne, z_lt, z_ge, z_gt, z_le, z_ceq, z_cne, z_clt, z_cge, z_cgt, z_cle, z_rz, z_rb, z_rc, q_nz, zg_0, zg_s, zgk_s, zgh_n, zgh_s, zq_n, zq_br, zq_gd, zq_cl2, zqc_s, zq_rt, zq_sw, zq_st, zsws, zent, zpad, zla, zlg, zpop, zrv, zc1, zmk, zob_w, zaw_w, zar_w, zln_w, zld_w, zin_w, zcpg_w, znr_w, List.getElem?_cons_zero, List.getElem?_cons_succ, List.set_cons_zero, List.set_cons_succ, List.length_cons, List.length_nil, Nat.reduceLT, Nat.reduceLeDiff, Nat.reduceAdd, Nat.reduceSub, Nat.reduceMul, Nat.reduceEqDiff, Nat.reduceBEq, ↓reduceIte, q_10, q_01, q_00, q_m1, q_m2, q_m3, q_m4, q_m5, q_n1, q_n2, decide_eq_true_eq, decide_eq_false_iff_not, Bool.and_eq_true, Bool.true_and, Bool.and_true, Bool.decide_and, decide_true, decide_false, Bool.true_eq_false, Bool.false_eq_true, Option.toList_some, Option.toList_none, List.cons_append, List.nil_append, true_and, and_true, and_self, not_true_eq_false, not_false_eq_true, forall_const, false_implies, implies_true, Nat.le_refl, ne_eq, Bool.not_eq_true, eq_self, zshA, zb_rz, zb_ne, zb_eq, qem, true_implies, Nat.zero_le, false_and, and_false, Bool.or_eq_true, or_true, true_or, false_or, or_false, e1, e2, k1, k2, k3, r3, c1, c2, c3, c4, c5, hx, x1, x2, x3, l1, l2, l3, l4, l5, y1, y2, y3, y4, y5, t, q_so1, h2]
        cases hg : gTs (I a) p s m
        · rw [hg] at z
          simp only [Bool.false_eq_true, not_false_eq_true, ↓reduceIte] at z ⊢
          exact z
        · rw [hg] at z
          simp only [not_true_eq_false, ↓reduceIte] at z ⊢
          exact z
      · have h2 : nI m ≤ I a p := Int32.not_lt.mp h1
        by_cases h3 : I a p = nI m
        · have t := gTs_eq (L := I a) (p := p) (m := m) hs h3
          simp only [zpr_11, zhd_11, zp11, zh11, zml_11, o_bad, o_push, o_iload, o_lload, o_aload, o_istore, o_astore, o_lstore, o_iinc, o_ii, o_dv, o_i, o_ll, o_lshl, o_lcmp, o_i2l, o_l2i, o_dup, o_dup2, o_pop, o_goto, o_if, o_ic, o_sw, o_ireturn, o_nreturn, o_lreturn, o_return, o_min, o_max, o_geti, o_getr, o_puti, o_putz, o_putr, o_gets, o_iald, o_lald, o_aald, o_iast, o_last, o_aast, o_alen, o_new, o_newa, o_multi, o_call, o_scall, o_chk, o_oinit, o_copyi, o_copyl, z_eq, z_ne, z_lt, z_ge, z_gt, z_le, z_ceq, z_cne, z_clt, z_cge, z_cgt, z_cle, z_rz, z_rb, z_rc, q_nz, zg_0, zg_s, zgk_s, zgh_n, zgh_s, zq_n, zq_br, zq_gd, zq_cl2, zqc_s, zq_rt, zq_sw, zq_st, zsws, zent, zpad, zla, zlg, zpop, zrv, zc1, zmk, zob_w, zaw_w, zar_w, zln_w, zld_w, zin_w, zcpg_w, znr_w, List.getElem?_cons_zero, List.getElem?_cons_succ, List.set_cons_zero, List.set_cons_succ, List.length_cons, List.length_nil, Nat.reduceLT, Nat.reduceLeDiff, Nat.reduceAdd, Nat.reduceSub, Nat.reduceMul, Nat.reduceEqDiff, Nat.reduceBEq, ↓reduceIte, q_10, q_01, q_00, q_m1, q_m2, q_m3, q_m4, q_m5, q_n1, q_n2, decide_eq_true_eq, decide_eq_false_iff_not, Bool.and_eq_true, Bool.true_and, Bool.and_true, Bool.decide_and, decide_true, decide_false, Bool.true_eq_false, Bool.false_eq_true, Option.toList_some, Option.toList_none, List.cons_append, List.nil_append, true_and, and_true, and_self, not_true_eq_false, not_false_eq_true, forall_const, false_implies, implies_true, Nat.le_refl, ne_eq, Bool.not_eq_true, eq_self, zshA, zb_rz, zb_ne, zb_eq, qem, true_implies, Nat.zero_le, false_and, and_false, Bool.or_eq_true, or_true, true_or, false_or, or_false, e1, e2, k1, k2, k3, r3, c1, c2, c3, c4, c5, hx, x1, x2, x3, l1, l2, l3, l4, l5, y1, y2, y3, y4, y5, t, q_so1, h2, eq_true h3]
          cases hg : gTs (I a) p s m
          · rw [hg] at z
            simp only [Bool.false_eq_true, not_false_eq_true, ↓reduceIte] at z ⊢
            exact z
          · rw [hg] at z
            simp only [not_true_eq_false, ↓reduceIte] at z ⊢
            exact z
        · have t := gTs_gt (L := I a) (p := p) (m := m) hs (Int32.lt_of_le_of_ne h2 (fun e => h3 e.symm))
          simp only [zpr_11, zhd_11, zp11, zh11, zml_11, o_bad, o_push, o_iload, o_lload, o_aload, o_istore, o_astore, o_lstore, o_iinc, o_ii, o_dv, o_i, o_ll, o_lshl, o_lcmp, o_i2l, o_l2i, o_dup, o_dup2, o_pop, o_goto, o_if, o_ic, o_sw, o_ireturn, o_nreturn, o_lreturn, o_return, o_min, o_max, o_geti, o_getr, o_puti, o_putz, o_putr, o_gets, o_iald, o_lald, o_aald, o_iast, o_last, o_aast, o_alen, o_new, o_newa, o_multi, o_call, o_scall, o_chk, o_oinit, o_copyi, o_copyl, z_eq, z_ne, z_lt, z_ge, z_gt, z_le, z_ceq, z_cne, z_clt, z_cge, z_cgt, z_cle, z_rz, z_rb, z_rc, q_nz, zg_0, zg_s, zgk_s, zgh_n, zgh_s, zq_n, zq_br, zq_gd, zq_cl2, zqc_s, zq_rt, zq_sw, zq_st, zsws, zent, zpad, zla, zlg, zpop, zrv, zc1, zmk, zob_w, zaw_w, zar_w, zln_w, zld_w, zin_w, zcpg_w, znr_w, List.getElem?_cons_zero, List.getElem?_cons_succ, List.set_cons_zero, List.set_cons_succ, List.length_cons, List.length_nil, Nat.reduceLT, Nat.reduceLeDiff, Nat.reduceAdd, Nat.reduceSub, Nat.reduceMul, Nat.reduceEqDiff, Nat.reduceBEq, ↓reduceIte, q_10, q_01, q_00, q_m1, q_m2, q_m3, q_m4, q_m5, q_n1, q_n2, decide_eq_true_eq, decide_eq_false_iff_not, Bool.and_eq_true, Bool.true_and, Bool.and_true, Bool.decide_and, decide_true, decide_false, Bool.true_eq_false, Bool.false_eq_true, Option.toList_some, Option.toList_none, List.cons_append, List.nil_append, true_and, and_true, and_self, not_true_eq_false, not_false_eq_true, forall_const, false_implies, implies_true, Nat.le_refl, ne_eq, Bool.not_eq_true, eq_self, zshA, zb_rz, zb_ne, zb_eq, qem, true_implies, Nat.zero_le, false_and, and_false, Bool.or_eq_true, or_true, true_or, false_or, or_false, e1, e2, k1, k2, k3, r3, c1, c2, c3, c4, c5, hx, x1, x2, x3, l1, l2, l3, l4, l5, y1, y2, y3, y4, y5, t, q_so1, h2, h3]
          cases hg : gTs (I a) p s m
          · rw [hg] at z
            simp only [Bool.false_eq_true, not_false_eq_true, ↓reduceIte] at z ⊢
            exact z
          · rw [hg] at z
            simp only [not_true_eq_false, ↓reduceIte] at z ⊢
            exact z
set_option maxRecDepth 40000 in
theorem sp_11 (hk : kF K K1 K2 K3 R) (ha : aF a) {f e : Nat} (he : e ≤ 100) (hf : f ≤ e) (hw : gWf (I K3) f (e - f) 0) : zcl (d + 2) 11 [.ref K, .int (nI f), .int (nI e), .ref a] (I, J, R, 111) = some (some (.int (if gSo (I K3) (I a) f e = true then 1 else 0)), (I, J, R, 111)) := by
  refine zcl_of (Nat.le_of_ble_eq_true rfl) (zg_wp 20 _ ?_)
  simp only [zpr_11, zhd_11, zp11, zh11, zml_11, o_bad, o_push, o_iload, o_lload, o_aload, o_istore, o_astore, o_lstore, o_iinc, o_ii, o_dv, o_i, o_ll, o_lshl, o_lcmp, o_i2l, o_l2i, o_dup, o_dup2, o_pop, o_goto, o_if, o_ic, o_sw, o_ireturn, o_nreturn, o_lreturn, o_return, o_min, o_max, o_geti, o_getr, o_puti, o_putz, o_putr, o_gets, o_iald, o_lald, o_aald, o_iast, o_last, o_aast, o_alen, o_new, o_newa, o_multi, o_call, o_scall, o_chk, o_oinit, o_copyi, o_copyl, z_eq, z_ne, z_lt, z_ge, z_gt, z_le, z_ceq, z_cne, z_clt, z_cge, z_cgt, z_cle, z_rz, z_rb, z_rc, q_nz, zg_0, zg_s, zgk_s, zgh_n, zgh_s, zq_n, zq_br, zq_gd, zq_cl2, zqc_s, zq_rt, zq_sw, zq_st, zsws, zent, zpad, zla, zlg, zpop, zrv, zc1, zmk, zob_w, zaw_w, zar_w, zln_w, zld_w, zin_w, zcpg_w, znr_w, List.getElem?_cons_zero, List.getElem?_cons_succ, List.set_cons_zero, List.set_cons_succ, List.length_cons, List.length_nil, Nat.reduceLT, Nat.reduceLeDiff, Nat.reduceAdd, Nat.reduceSub, Nat.reduceMul, Nat.reduceEqDiff, Nat.reduceBEq, ↓reduceIte, q_10, q_01, q_00, q_m1, q_m2, q_m3, q_m4, q_m5, q_n1, q_n2, decide_eq_true_eq, decide_eq_false_iff_not, Bool.and_eq_true, Bool.true_and, Bool.and_true, Bool.decide_and, decide_true, decide_false, Bool.true_eq_false, Bool.false_eq_true, Option.toList_some, Option.toList_none, List.cons_append, List.nil_append, true_and, and_true, and_self, not_true_eq_false, not_false_eq_true, forall_const, false_implies, implies_true, Nat.le_refl, ne_eq, Bool.not_eq_true, eq_self, zshA, zb_rz, zb_ne, zb_eq, qem, true_implies, Nat.zero_le, false_and, and_false, Bool.or_eq_true, or_true, true_or, false_or, or_false]
  exact sl_11 hk ha he (e - f) f 0 [] _ none (by omega) ⟨by simp, fun i hi => by simp at hi⟩ hw

set_option maxRecDepth 40000 in
theorem sl_10 (hk : kF K K1 K2 K3 R) (ha : aF a) {j : Nat} (hj : I K 2 = nI j) (hw : gKw j (I K1) (I K2) (I K3)) : ∀ (n i : Nat), i + n = j → zWP (zcl (d + 2)) 10 (7, [some (.ref K), some (.ref a), some (.int (gMs (I K1) (I K2) (I K3) (I a) i)), some (.int (nI (gFr (I K2) i))), some (.int (nI i))], [], (I, J, R, 111)) (fun r w => r = some (.int (gMs (I K1) (I K2) (I K3) (I a) j)) ∧ w = (I, J, R, 111)) := by
  have hk0 := hk
  obtain ⟨⟨k1, k2, k3⟩, ⟨r0, r1, r3⟩, ⟨a1, a2, a3, a4, a5⟩, ⟨b1, b2, b3, b4, b5⟩, ⟨c1, c2, c3, c4, c5⟩⟩ := hk
  intro n
  induction n with
  | zero =>
    intro i hi
    have e1 : nI j ≤ nI i := q_tle (by omega) (by have := hw.1; omega)
    refine zg_wp 20 _ ?_
    simp only [zpr_10, zhd_10, zp10, zh10, zml_10, o_bad, o_push, o_iload, o_lload, o_aload, o_istore, o_astore, o_lstore, o_iinc, o_ii, o_dv, o_i, o_ll, o_lshl, o_lcmp, o_i2l, o_l2i, o_dup, o_dup2, o_pop, o_goto, o_if, o_ic, o_sw, o_ireturn, o_nreturn, o_lreturn, o_return, o_min, o_max, o_geti, o_getr, o_puti, o_putz, o_putr, o_gets, o_iald, o_lald, o_aald, o_iast, o_last, o_aast, o_alen, o_new, o_newa, o_multi, o_call, o_scall, o_chk, o_oinit, o_copyi, o_copyl, z_eq, z_ne, z_lt, z_ge, z_gt, z_le, z_ceq, z_cne, z_clt, z_cge, z_cgt, z_cle, z_rz, z_rb, z_rc, q_nz, zg_0, zg_s, zgk_s, zgh_n, zgh_s, zq_n, zq_br, zq_gd, zq_cl2, zqc_s, zq_rt, zq_sw, zq_st, zsws, zent, zpad, zla, zlg, zpop, zrv, zc1, zmk, zob_w, zaw_w, zar_w, zln_w, zld_w, zin_w, zcpg_w, znr_w, List.getElem?_cons_zero, List.getElem?_cons_succ, List.set_cons_zero, List.set_cons_succ, List.length_cons, List.length_nil, Nat.reduceLT, Nat.reduceLeDiff, Nat.reduceAdd, Nat.reduceSub, Nat.reduceMul, Nat.reduceEqDiff, Nat.reduceBEq, ↓reduceIte, q_10, q_01, q_00, q_m1, q_m2, q_m3, q_m4, q_m5, q_n1, q_n2, decide_eq_true_eq, decide_eq_false_iff_not, Bool.and_eq_true, Bool.true_and, Bool.and_true, Bool.decide_and, decide_true, decide_false, Bool.true_eq_false, Bool.false_eq_true, Option.toList_some, Option.toList_none, List.cons_append, List.nil_append, true_and, and_true, and_self, not_true_eq_false, not_false_eq_true, forall_const, false_implies, implies_true, Nat.le_refl, ne_eq, Bool.not_eq_true, eq_self, zshA, zb_rz, zb_ne, zb_eq, qem, true_implies, Nat.zero_le, false_and, and_false, Bool.or_eq_true, or_true, true_or, false_or, or_false, k1, k2, k3, hj, e1]
    rw [show i = j from by omega]
  | succ n ih =>
    intro i hi
    have e1 : ¬ nI j ≤ nI i := q_tnle (by omega) (by have := hw.1; omega)
    have e2 := q_row (m := i) (n := 10) (by have := hw.1; omega) (by omega)
    obtain ⟨w1, w2, w3, w4, _⟩ := hw.2 i (by omega)
    have e3 := sp_11 (d := d) (I := I) (J := J) hk0 ha w2 (Nat.le_of_lt w1) w4
    have z := ih (i + 1) (by omega)
    refine zg_wp 60 _ ?_
    by_cases hs : gSo (I K3) (I a) (gFr (I K2) i) (gFr (I K2) (i + 1)) = true
    · simp only [zpr_10, zhd_10, zp10, zh10, zml_10, o_bad, o_push, o_iload, o_lload, o_aload, o_istore, o_astore, o_lstore, o_iinc, o_ii, o_dv, o_i, o_ll, o_lshl, o_lcmp, o_i2l, o_l2i, o_dup, o_dup2, o_pop, o_goto, o_if, o_ic, o_sw, o_ireturn, o_nreturn, o_lreturn, o_return, o_min, o_max, o_geti, o_getr, o_puti, o_putz, o_putr, o_gets, o_iald, o_lald, o_aald, o_iast, o_last, o_aast, o_alen, o_new, o_newa, o_multi, o_call, o_scall, o_chk, o_oinit, o_copyi, o_copyl, z_eq, z_ne, z_lt, z_ge, z_gt, z_le, z_ceq, z_cne, z_clt, z_cge, z_cgt, z_cle, z_rz, z_rb, z_rc, q_nz, zg_0, zg_s, zgk_s, zgh_n, zgh_s, zq_n, zq_br, zq_gd, zq_cl2, zqc_s, zq_rt, zq_sw, zq_st, zsws, zent, zpad, zla, zlg, zpop, zrv, zc1, zmk, zob_w, zaw_w, zar_w, zln_w, zld_w, zin_w, zcpg_w, znr_w, List.getElem?_cons_zero, List.getElem?_cons_succ, List.set_cons_zero, List.set_cons_succ, List.length_cons, List.length_nil, Nat.reduceLT, Nat.reduceLeDiff, Nat.reduceAdd, Nat.reduceSub, Nat.reduceMul, Nat.reduceEqDiff, Nat.reduceBEq, ↓reduceIte, q_10, q_01, q_00, q_m1, q_m2, q_m3, q_m4, q_m5, q_n1, q_n2, decide_eq_true_eq, decide_eq_false_iff_not, Bool.and_eq_true, Bool.true_and, Bool.and_true, Bool.decide_and, decide_true, decide_false, Bool.true_eq_false, Bool.false_eq_true, Option.toList_some, Option.toList_none, List.cons_append, List.nil_append, true_and, and_true, and_self, not_true_eq_false, not_false_eq_true, forall_const, false_implies, implies_true, Nat.le_refl, ne_eq, Bool.not_eq_true, eq_self, zshA, zb_rz, zb_ne, zb_eq, qem, true_implies, Nat.zero_le, false_and, and_false, Bool.or_eq_true, or_true, true_or, false_or, or_false, k1, k2, k3, r0, r1, r3, a1, a2, a3, a4, a5, b1, b2, b3, b4, b5, hj, e1, e2, w3, e3, hs]
      have g : gMs (I K1) (I K2) (I K3) (I a) (i + 1) = gMs (I K1) (I K2) (I K3) (I a) i + I K1 i := if_pos hs
      rw [g] at z
      exact z
    · simp only [zpr_10, zhd_10, zp10, zh10, zml_10, o_bad, o_push, o_iload, o_lload, o_aload, o_istore, o_astore, o_lstore, o_iinc, o_ii, o_dv, o_i, o_ll, o_lshl, o_lcmp, o_i2l, o_l2i, o_dup, o_dup2, o_pop, o_goto, o_if, o_ic, o_sw, o_ireturn, o_nreturn, o_lreturn, o_return, o_min, o_max, o_geti, o_getr, o_puti, o_putz, o_putr, o_gets, o_iald, o_lald, o_aald, o_iast, o_last, o_aast, o_alen, o_new, o_newa, o_multi, o_call, o_scall, o_chk, o_oinit, o_copyi, o_copyl, z_eq, z_ne, z_lt, z_ge, z_gt, z_le, z_ceq, z_cne, z_clt, z_cge, z_cgt, z_cle, z_rz, z_rb, z_rc, q_nz, zg_0, zg_s, zgk_s, zgh_n, zgh_s, zq_n, zq_br, zq_gd, zq_cl2, zqc_s, zq_rt, zq_sw, zq_st, zsws, zent, zpad, zla, zlg, zpop, zrv, zc1, zmk, zob_w, zaw_w, zar_w, zln_w, zld_w, zin_w, zcpg_w, znr_w, List.getElem?_cons_zero, List.getElem?_cons_succ, List.set_cons_zero, List.set_cons_succ, List.length_cons, List.length_nil, Nat.reduceLT, Nat.reduceLeDiff, Nat.reduceAdd, Nat.reduceSub, Nat.reduceMul, Nat.reduceEqDiff, Nat.reduceBEq, ↓reduceIte, q_10, q_01, q_00, q_m1, q_m2, q_m3, q_m4, q_m5, q_n1, q_n2, decide_eq_true_eq, decide_eq_false_iff_not, Bool.and_eq_true, Bool.true_and, Bool.and_true, Bool.decide_and, decide_true, decide_false, Bool.true_eq_false, Bool.false_eq_true, Option.toList_some, Option.toList_none, List.cons_append, List.nil_append, true_and, and_true, and_self, not_true_eq_false, not_false_eq_true, forall_const, false_implies, implies_true, Nat.le_refl, ne_eq, Bool.not_eq_true, eq_self, zshA, zb_rz, zb_ne, zb_eq, qem, true_implies, Nat.zero_le, false_and, and_false, Bool.or_eq_true, or_true, true_or, false_or, or_false, k1, k2, k3, r0, r1, r3, a1, a2, a3, a4, a5, b1, b2, b3, b4, b5, hj, e1, e2, w3, e3, hs]
      have g : gMs (I K1) (I K2) (I K3) (I a) (i + 1) = gMs (I K1) (I K2) (I K3) (I a) i := if_neg hs
      rw [g] at z
      exact z
set_option maxRecDepth 40000 in
theorem sp_10 (hk : kF K K1 K2 K3 R) (ha : aF a) {j : Nat} (hj : I K 2 = nI j) (hw : gKw j (I K1) (I K2) (I K3)) : zcl (d + 3) 10 [.ref K, .ref a] (I, J, R, 111) = some (some (.int (gMs (I K1) (I K2) (I K3) (I a) j)), (I, J, R, 111)) := by
  refine zcl_of (Nat.le_of_ble_eq_true rfl) (zg_wp 20 _ ?_)
  simp only [zpr_10, zhd_10, zp10, zh10, zml_10, o_bad, o_push, o_iload, o_lload, o_aload, o_istore, o_astore, o_lstore, o_iinc, o_ii, o_dv, o_i, o_ll, o_lshl, o_lcmp, o_i2l, o_l2i, o_dup, o_dup2, o_pop, o_goto, o_if, o_ic, o_sw, o_ireturn, o_nreturn, o_lreturn, o_return, o_min, o_max, o_geti, o_getr, o_puti, o_putz, o_putr, o_gets, o_iald, o_lald, o_aald, o_iast, o_last, o_aast, o_alen, o_new, o_newa, o_multi, o_call, o_scall, o_chk, o_oinit, o_copyi, o_copyl, z_eq, z_ne, z_lt, z_ge, z_gt, z_le, z_ceq, z_cne, z_clt, z_cge, z_cgt, z_cle, z_rz, z_rb, z_rc, q_nz, zg_0, zg_s, zgk_s, zgh_n, zgh_s, zq_n, zq_br, zq_gd, zq_cl2, zqc_s, zq_rt, zq_sw, zq_st, zsws, zent, zpad, zla, zlg, zpop, zrv, zc1, zmk, zob_w, zaw_w, zar_w, zln_w, zld_w, zin_w, zcpg_w, znr_w, List.getElem?_cons_zero, List.getElem?_cons_succ, List.set_cons_zero, List.set_cons_succ, List.length_cons, List.length_nil, Nat.reduceLT, Nat.reduceLeDiff, Nat.reduceAdd, Nat.reduceSub, Nat.reduceMul, Nat.reduceEqDiff, Nat.reduceBEq, ↓reduceIte, q_10, q_01, q_00, q_m1, q_m2, q_m3, q_m4, q_m5, q_n1, q_n2, decide_eq_true_eq, decide_eq_false_iff_not, Bool.and_eq_true, Bool.true_and, Bool.and_true, Bool.decide_and, decide_true, decide_false, Bool.true_eq_false, Bool.false_eq_true, Option.toList_some, Option.toList_none, List.cons_append, List.nil_append, true_and, and_true, and_self, not_true_eq_false, not_false_eq_true, forall_const, false_implies, implies_true, Nat.le_refl, ne_eq, Bool.not_eq_true, eq_self, zshA, zb_rz, zb_ne, zb_eq, qem, true_implies, Nat.zero_le, false_and, and_false, Bool.or_eq_true, or_true, true_or, false_or, or_false]
  exact sl_10 hk ha hj hw j 0 (by omega)
end QK
