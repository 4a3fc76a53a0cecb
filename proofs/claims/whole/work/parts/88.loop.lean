/-! ===== the law's loop, out of the pairs: what both sides answer to one call ===== -/
theorem lg_self (x : Int64) : lg_cmp x x = 0 := by
  unfold lg_cmp
  rw [if_neg, if_pos rfl]
  exact fun h => Int64.lt_irrefl h
/-- the script's place i + j is one of it -/
def qIn (i : Int32) (L : Nat) : Prop := ∀ j : Nat, j < 6 → (0 ≤ (i + nI j).toInt ∧ (i + nI j).toInt < L)
theorem qIn_of {k L : Nat} (h : 6 * k + 6 ≤ L) (hL : L ≤ 3072) : qIn (nI (6 * k)) L := by
  intro j hj
  rw [nI_add, nI_toInt (by omega)]
  omega
section QL
variable {Inv : Nat → zW → Prop} {L : Nat} {xs : Nat → Int32} {Q : Option Value → zW → Prop} {k : Nat} {w : zW}
/-- what comes behind a case: the head again -/
def qHd (L : Nat) (xs : Nat → Int32) (Inv : Nat → zW → Prop) (Q : Option Value → zW → Prop) (k : Nat) : Prop := ∀ w : zW, Inv (k + 1) w → zWP (zcl 60) 213 (18, [some (.ref 1021), some (.ref 0), some (.ref 75), some (.int (nI (6 * k) + 6))], [], w) Q
/-- X6_side -/
theorem ql_0 (hp : ∀ (a1 : Int32) (a2 : Int32) (a3 : Int32), qPr Inv 54 105 [.int a1, .int a2, .int a3]) (hk : k < 512) (hi : qIn (nI (6 * k)) L) (h1 : w.1 1021 = xs) (h2 : (w.1 1022 0).toNatClampNeg = L) (h3 : w.2.2.2 = 111) (hI : Inv k w) (hd : qHd L xs Inv Q k) : zWP (zcl 60) 213 (220, [some (.ref 1021), some (.ref 0), some (.ref 75), some (.int (nI (6 * k)))], [], w) Q := by
  obtain ⟨I, J, R, nc⟩ := w
  dsimp only at h1 h2 h3
  subst h3
  have b1 := hi 1 (by decide)
  have b2 := hi 2 (by decide)
  have b3 := hi 3 (by decide)
  have b4 := hi 4 (by decide)
  have b5 := hi 5 (by decide)
  rw [show nI 1 = 1 from rfl] at b1
  rw [show nI 2 = 2 from rfl] at b2
  rw [show nI 3 = 3 from rfl] at b3
  rw [show nI 4 = 4 from rfl] at b4
  rw [show nI 5 = 5 from rfl] at b5
  obtain ⟨r, ⟨I1, J1, R1, n1⟩, w2, e1, e2, ⟨f1, f2, f3⟩, hI2⟩ := hp (xs ((nI (6 * k)) + 1).toNatClampNeg) (xs ((nI (6 * k)) + 2).toNatClampNeg) (xs ((nI (6 * k)) + 3).toNatClampNeg) k _ hk hI
  dsimp only at f1 f2 f3
  subst f3
  rw [h1] at f1
  have f4 : (I1 1022 0).toNatClampNeg = L := by rw [f2]; exact h2
  refine zg_wp 90 _ ?_
  simp only [zpr_213, zhd_213, zp213, zh213, zml_213, o_bad, o_push, o_iload, o_lload, o_aload, o_istore, o_astore, o_lstore, o_iinc, o_ii, o_dv, o_i, o_ll, o_lshl, o_lcmp, o_i2l, o_l2i, o_dup, o_dup2, o_pop, o_goto, o_if, o_ic, o_sw, o_ireturn, o_nreturn, o_lreturn, o_return, o_min, o_max, o_geti, o_getr, o_puti, o_putz, o_putr, o_gets, o_iald, o_lald, o_aald, o_iast, o_last, o_aast, o_alen, o_new, o_newa, o_multi, o_call, o_scall, o_oinit, o_copyi, o_copyl, z_eq, z_ne, z_lt, z_ge, z_gt, z_le, z_ceq, z_cne, z_clt, z_cge, z_cgt, z_cle, z_rz, z_rb, z_rc, zg, zwp1, zsws, zent, zpad, zla, zlg, zpop, zrv, zc1, zmk, zob_w, zaw_w, zar_w, zln_w, zld_w, zin_w, zcpg_w, znr_w, List.getElem?_cons_zero, List.getElem?_cons_succ, List.set_cons_zero, List.set_cons_succ, List.length_cons, List.length_nil, Nat.reduceLT, Nat.reduceLeDiff, Nat.reduceAdd, Nat.reduceSub, Nat.reduceMul, Nat.reduceEqDiff, Nat.reduceBEq, ↓reduceIte, decide_eq_true_eq, decide_eq_false_iff_not, Bool.and_eq_true, Bool.true_and, Bool.and_true, Bool.decide_and, decide_true, decide_false, Bool.true_eq_false, Bool.false_eq_true, Option.toList_some, Option.toList_none, List.cons_append, List.nil_append, true_and, and_true, and_self, not_true_eq_false, not_false_eq_true, forall_const, false_implies, implies_true, Nat.le_refl, ne_eq, reduceCtorEq, Bool.not_eq_true, eq_self, zsh, zb_rz, zb_ne, zb_eq, qem, true_implies, Nat.zero_le, Bool.or_eq_true, or_true, true_or, false_or, or_false, h1, h2, f1, f4, b1, b2, b3, b4, b5, e1, e2, lg_self]
  exact hd _ hI2
/-- X6_of -/
theorem ql_1 (hp : ∀ (a1 : Int32) (a2 : Int32), qPr Inv 55 138 [.int a1, .int a2]) (hk : k < 512) (hi : qIn (nI (6 * k)) L) (h1 : w.1 1021 = xs) (h2 : (w.1 1022 0).toNatClampNeg = L) (h3 : w.2.2.2 = 111) (hI : Inv k w) (hd : qHd L xs Inv Q k) : zWP (zcl 60) 213 (263, [some (.ref 1021), some (.ref 0), some (.ref 75), some (.int (nI (6 * k)))], [], w) Q := by
  obtain ⟨I, J, R, nc⟩ := w
  dsimp only at h1 h2 h3
  subst h3
  have b1 := hi 1 (by decide)
  have b2 := hi 2 (by decide)
  have b3 := hi 3 (by decide)
  have b4 := hi 4 (by decide)
  have b5 := hi 5 (by decide)
  rw [show nI 1 = 1 from rfl] at b1
  rw [show nI 2 = 2 from rfl] at b2
  rw [show nI 3 = 3 from rfl] at b3
  rw [show nI 4 = 4 from rfl] at b4
  rw [show nI 5 = 5 from rfl] at b5
  obtain ⟨r, ⟨I1, J1, R1, n1⟩, w2, e1, e2, ⟨f1, f2, f3⟩, hI2⟩ := hp (xs ((nI (6 * k)) + 1).toNatClampNeg) (xs ((nI (6 * k)) + 2).toNatClampNeg) k _ hk hI
  dsimp only at f1 f2 f3
  subst f3
  rw [h1] at f1
  have f4 : (I1 1022 0).toNatClampNeg = L := by rw [f2]; exact h2
  refine zg_wp 90 _ ?_
  simp only [zpr_213, zhd_213, zp213, zh213, zml_213, o_bad, o_push, o_iload, o_lload, o_aload, o_istore, o_astore, o_lstore, o_iinc, o_ii, o_dv, o_i, o_ll, o_lshl, o_lcmp, o_i2l, o_l2i, o_dup, o_dup2, o_pop, o_goto, o_if, o_ic, o_sw, o_ireturn, o_nreturn, o_lreturn, o_return, o_min, o_max, o_geti, o_getr, o_puti, o_putz, o_putr, o_gets, o_iald, o_lald, o_aald, o_iast, o_last, o_aast, o_alen, o_new, o_newa, o_multi, o_call, o_scall, o_oinit, o_copyi, o_copyl, z_eq, z_ne, z_lt, z_ge, z_gt, z_le, z_ceq, z_cne, z_clt, z_cge, z_cgt, z_cle, z_rz, z_rb, z_rc, zg, zwp1, zsws, zent, zpad, zla, zlg, zpop, zrv, zc1, zmk, zob_w, zaw_w, zar_w, zln_w, zld_w, zin_w, zcpg_w, znr_w, List.getElem?_cons_zero, List.getElem?_cons_succ, List.set_cons_zero, List.set_cons_succ, List.length_cons, List.length_nil, Nat.reduceLT, Nat.reduceLeDiff, Nat.reduceAdd, Nat.reduceSub, Nat.reduceMul, Nat.reduceEqDiff, Nat.reduceBEq, ↓reduceIte, decide_eq_true_eq, decide_eq_false_iff_not, Bool.and_eq_true, Bool.true_and, Bool.and_true, Bool.decide_and, decide_true, decide_false, Bool.true_eq_false, Bool.false_eq_true, Option.toList_some, Option.toList_none, List.cons_append, List.nil_append, true_and, and_true, and_self, not_true_eq_false, not_false_eq_true, forall_const, false_implies, implies_true, Nat.le_refl, ne_eq, reduceCtorEq, Bool.not_eq_true, eq_self, zsh, zb_rz, zb_ne, zb_eq, qem, true_implies, Nat.zero_le, Bool.or_eq_true, or_true, true_or, false_or, or_false, h1, h2, f1, f4, b1, b2, b3, b4, b5, e1, e2, lg_self]
  exact hd _ hI2
/-- X6_taken -/
theorem ql_2 (hp : ∀ (a1 : Int32) (a2 : Int32), qPr Inv 56 137 [.int a1, .int a2]) (hk : k < 512) (hi : qIn (nI (6 * k)) L) (h1 : w.1 1021 = xs) (h2 : (w.1 1022 0).toNatClampNeg = L) (h3 : w.2.2.2 = 111) (hI : Inv k w) (hd : qHd L xs Inv Q k) : zWP (zcl 60) 213 (296, [some (.ref 1021), some (.ref 0), some (.ref 75), some (.int (nI (6 * k)))], [], w) Q := by
  obtain ⟨I, J, R, nc⟩ := w
  dsimp only at h1 h2 h3
  subst h3
  have b1 := hi 1 (by decide)
  have b2 := hi 2 (by decide)
  have b3 := hi 3 (by decide)
  have b4 := hi 4 (by decide)
  have b5 := hi 5 (by decide)
  rw [show nI 1 = 1 from rfl] at b1
  rw [show nI 2 = 2 from rfl] at b2
  rw [show nI 3 = 3 from rfl] at b3
  rw [show nI 4 = 4 from rfl] at b4
  rw [show nI 5 = 5 from rfl] at b5
  obtain ⟨r, ⟨I1, J1, R1, n1⟩, w2, e1, e2, ⟨f1, f2, f3⟩, hI2⟩ := hp (xs ((nI (6 * k)) + 1).toNatClampNeg) (xs ((nI (6 * k)) + 2).toNatClampNeg) k _ hk hI
  dsimp only at f1 f2 f3
  subst f3
  rw [h1] at f1
  have f4 : (I1 1022 0).toNatClampNeg = L := by rw [f2]; exact h2
  refine zg_wp 90 _ ?_
  simp only [zpr_213, zhd_213, zp213, zh213, zml_213, o_bad, o_push, o_iload, o_lload, o_aload, o_istore, o_astore, o_lstore, o_iinc, o_ii, o_dv, o_i, o_ll, o_lshl, o_lcmp, o_i2l, o_l2i, o_dup, o_dup2, o_pop, o_goto, o_if, o_ic, o_sw, o_ireturn, o_nreturn, o_lreturn, o_return, o_min, o_max, o_geti, o_getr, o_puti, o_putz, o_putr, o_gets, o_iald, o_lald, o_aald, o_iast, o_last, o_aast, o_alen, o_new, o_newa, o_multi, o_call, o_scall, o_oinit, o_copyi, o_copyl, z_eq, z_ne, z_lt, z_ge, z_gt, z_le, z_ceq, z_cne, z_clt, z_cge, z_cgt, z_cle, z_rz, z_rb, z_rc, zg, zwp1, zsws, zent, zpad, zla, zlg, zpop, zrv, zc1, zmk, zob_w, zaw_w, zar_w, zln_w, zld_w, zin_w, zcpg_w, znr_w, List.getElem?_cons_zero, List.getElem?_cons_succ, List.set_cons_zero, List.set_cons_succ, List.length_cons, List.length_nil, Nat.reduceLT, Nat.reduceLeDiff, Nat.reduceAdd, Nat.reduceSub, Nat.reduceMul, Nat.reduceEqDiff, Nat.reduceBEq, ↓reduceIte, decide_eq_true_eq, decide_eq_false_iff_not, Bool.and_eq_true, Bool.true_and, Bool.and_true, Bool.decide_and, decide_true, decide_false, Bool.true_eq_false, Bool.false_eq_true, Option.toList_some, Option.toList_none, List.cons_append, List.nil_append, true_and, and_true, and_self, not_true_eq_false, not_false_eq_true, forall_const, false_implies, implies_true, Nat.le_refl, ne_eq, reduceCtorEq, Bool.not_eq_true, eq_self, zsh, zb_rz, zb_ne, zb_eq, qem, true_implies, Nat.zero_le, Bool.or_eq_true, or_true, true_or, false_or, or_false, h1, h2, f1, f4, b1, b2, b3, b4, b5, e1, e2, lg_self]
  exact hd _ hI2
/-- X6_set -/
theorem ql_3 (hp : ∀ (a1 : Int32) (a2 : Int32), qPr Inv 57 106 [.int a1, .int a2]) (hk : k < 512) (hi : qIn (nI (6 * k)) L) (h1 : w.1 1021 = xs) (h2 : (w.1 1022 0).toNatClampNeg = L) (h3 : w.2.2.2 = 111) (hI : Inv k w) (hd : qHd L xs Inv Q k) : zWP (zcl 60) 213 (329, [some (.ref 1021), some (.ref 0), some (.ref 75), some (.int (nI (6 * k)))], [], w) Q := by
  obtain ⟨I, J, R, nc⟩ := w
  dsimp only at h1 h2 h3
  subst h3
  have b1 := hi 1 (by decide)
  have b2 := hi 2 (by decide)
  have b3 := hi 3 (by decide)
  have b4 := hi 4 (by decide)
  have b5 := hi 5 (by decide)
  rw [show nI 1 = 1 from rfl] at b1
  rw [show nI 2 = 2 from rfl] at b2
  rw [show nI 3 = 3 from rfl] at b3
  rw [show nI 4 = 4 from rfl] at b4
  rw [show nI 5 = 5 from rfl] at b5
  obtain ⟨r, ⟨I1, J1, R1, n1⟩, w2, e1, e2, ⟨f1, f2, f3⟩, hI2⟩ := hp (xs ((nI (6 * k)) + 1).toNatClampNeg) (xs ((nI (6 * k)) + 2).toNatClampNeg) k _ hk hI
  dsimp only at f1 f2 f3
  subst f3
  rw [h1] at f1
  have f4 : (I1 1022 0).toNatClampNeg = L := by rw [f2]; exact h2
  refine zg_wp 90 _ ?_
  simp only [zpr_213, zhd_213, zp213, zh213, zml_213, o_bad, o_push, o_iload, o_lload, o_aload, o_istore, o_astore, o_lstore, o_iinc, o_ii, o_dv, o_i, o_ll, o_lshl, o_lcmp, o_i2l, o_l2i, o_dup, o_dup2, o_pop, o_goto, o_if, o_ic, o_sw, o_ireturn, o_nreturn, o_lreturn, o_return, o_min, o_max, o_geti, o_getr, o_puti, o_putz, o_putr, o_gets, o_iald, o_lald, o_aald, o_iast, o_last, o_aast, o_alen, o_new, o_newa, o_multi, o_call, o_scall, o_oinit, o_copyi, o_copyl, z_eq, z_ne, z_lt, z_ge, z_gt, z_le, z_ceq, z_cne, z_clt, z_cge, z_cgt, z_cle, z_rz, z_rb, z_rc, zg, zwp1, zsws, zent, zpad, zla, zlg, zpop, zrv, zc1, zmk, zob_w, zaw_w, zar_w, zln_w, zld_w, zin_w, zcpg_w, znr_w, List.getElem?_cons_zero, List.getElem?_cons_succ, List.set_cons_zero, List.set_cons_succ, List.length_cons, List.length_nil, Nat.reduceLT, Nat.reduceLeDiff, Nat.reduceAdd, Nat.reduceSub, Nat.reduceMul, Nat.reduceEqDiff, Nat.reduceBEq, ↓reduceIte, decide_eq_true_eq, decide_eq_false_iff_not, Bool.and_eq_true, Bool.true_and, Bool.and_true, Bool.decide_and, decide_true, decide_false, Bool.true_eq_false, Bool.false_eq_true, Option.toList_some, Option.toList_none, List.cons_append, List.nil_append, true_and, and_true, and_self, not_true_eq_false, not_false_eq_true, forall_const, false_implies, implies_true, Nat.le_refl, ne_eq, reduceCtorEq, Bool.not_eq_true, eq_self, zsh, zb_rz, zb_ne, zb_eq, qem, true_implies, Nat.zero_le, Bool.or_eq_true, or_true, true_or, false_or, or_false, h1, h2, f1, f4, b1, b2, b3, b4, b5, e1, e2, lg_self]
  exact hd _ hI2
/-- X6_row -/
theorem ql_4 (hp : ∀ (a1 : Int32) (a2 : Int32) (a3 : Int32), qPr Inv 58 107 [.int a1, .int a2, .int a3]) (hk : k < 512) (hi : qIn (nI (6 * k)) L) (h1 : w.1 1021 = xs) (h2 : (w.1 1022 0).toNatClampNeg = L) (h3 : w.2.2.2 = 111) (hI : Inv k w) (hd : qHd L xs Inv Q k) : zWP (zcl 60) 213 (362, [some (.ref 1021), some (.ref 0), some (.ref 75), some (.int (nI (6 * k)))], [], w) Q := by
  obtain ⟨I, J, R, nc⟩ := w
  dsimp only at h1 h2 h3
  subst h3
  have b1 := hi 1 (by decide)
  have b2 := hi 2 (by decide)
  have b3 := hi 3 (by decide)
  have b4 := hi 4 (by decide)
  have b5 := hi 5 (by decide)
  rw [show nI 1 = 1 from rfl] at b1
  rw [show nI 2 = 2 from rfl] at b2
  rw [show nI 3 = 3 from rfl] at b3
  rw [show nI 4 = 4 from rfl] at b4
  rw [show nI 5 = 5 from rfl] at b5
  obtain ⟨r, ⟨I1, J1, R1, n1⟩, w2, e1, e2, ⟨f1, f2, f3⟩, hI2⟩ := hp (xs ((nI (6 * k)) + 1).toNatClampNeg) (xs ((nI (6 * k)) + 2).toNatClampNeg) (xs ((nI (6 * k)) + 3).toNatClampNeg) k _ hk hI
  dsimp only at f1 f2 f3
  subst f3
  rw [h1] at f1
  have f4 : (I1 1022 0).toNatClampNeg = L := by rw [f2]; exact h2
  refine zg_wp 90 _ ?_
  simp only [zpr_213, zhd_213, zp213, zh213, zml_213, o_bad, o_push, o_iload, o_lload, o_aload, o_istore, o_astore, o_lstore, o_iinc, o_ii, o_dv, o_i, o_ll, o_lshl, o_lcmp, o_i2l, o_l2i, o_dup, o_dup2, o_pop, o_goto, o_if, o_ic, o_sw, o_ireturn, o_nreturn, o_lreturn, o_return, o_min, o_max, o_geti, o_getr, o_puti, o_putz, o_putr, o_gets, o_iald, o_lald, o_aald, o_iast, o_last, o_aast, o_alen, o_new, o_newa, o_multi, o_call, o_scall, o_oinit, o_copyi, o_copyl, z_eq, z_ne, z_lt, z_ge, z_gt, z_le, z_ceq, z_cne, z_clt, z_cge, z_cgt, z_cle, z_rz, z_rb, z_rc, zg, zwp1, zsws, zent, zpad, zla, zlg, zpop, zrv, zc1, zmk, zob_w, zaw_w, zar_w, zln_w, zld_w, zin_w, zcpg_w, znr_w, List.getElem?_cons_zero, List.getElem?_cons_succ, List.set_cons_zero, List.set_cons_succ, List.length_cons, List.length_nil, Nat.reduceLT, Nat.reduceLeDiff, Nat.reduceAdd, Nat.reduceSub, Nat.reduceMul, Nat.reduceEqDiff, Nat.reduceBEq, ↓reduceIte, decide_eq_true_eq, decide_eq_false_iff_not, Bool.and_eq_true, Bool.true_and, Bool.and_true, Bool.decide_and, decide_true, decide_false, Bool.true_eq_false, Bool.false_eq_true, Option.toList_some, Option.toList_none, List.cons_append, List.nil_append, true_and, and_true, and_self, not_true_eq_false, not_false_eq_true, forall_const, false_implies, implies_true, Nat.le_refl, ne_eq, reduceCtorEq, Bool.not_eq_true, eq_self, zsh, zb_rz, zb_ne, zb_eq, qem, true_implies, Nat.zero_le, Bool.or_eq_true, or_true, true_or, false_or, or_false, h1, h2, f1, f4, b1, b2, b3, b4, b5, e1, e2, lg_self]
  exact hd _ hI2
/-- X6_feed -/
theorem ql_5 (hp : ∀ (a1 : Int32), qPr Inv 59 108 [.int a1]) (hk : k < 512) (hi : qIn (nI (6 * k)) L) (h1 : w.1 1021 = xs) (h2 : (w.1 1022 0).toNatClampNeg = L) (h3 : w.2.2.2 = 111) (hI : Inv k w) (hd : qHd L xs Inv Q k) : zWP (zcl 60) 213 (405, [some (.ref 1021), some (.ref 0), some (.ref 75), some (.int (nI (6 * k)))], [], w) Q := by
  obtain ⟨I, J, R, nc⟩ := w
  dsimp only at h1 h2 h3
  subst h3
  have b1 := hi 1 (by decide)
  have b2 := hi 2 (by decide)
  have b3 := hi 3 (by decide)
  have b4 := hi 4 (by decide)
  have b5 := hi 5 (by decide)
  rw [show nI 1 = 1 from rfl] at b1
  rw [show nI 2 = 2 from rfl] at b2
  rw [show nI 3 = 3 from rfl] at b3
  rw [show nI 4 = 4 from rfl] at b4
  rw [show nI 5 = 5 from rfl] at b5
  obtain ⟨r, ⟨I1, J1, R1, n1⟩, w2, e1, e2, ⟨f1, f2, f3⟩, hI2⟩ := hp (xs ((nI (6 * k)) + 1).toNatClampNeg) k _ hk hI
  dsimp only at f1 f2 f3
  subst f3
  rw [h1] at f1
  have f4 : (I1 1022 0).toNatClampNeg = L := by rw [f2]; exact h2
  refine zg_wp 90 _ ?_
  simp only [zpr_213, zhd_213, zp213, zh213, zml_213, o_bad, o_push, o_iload, o_lload, o_aload, o_istore, o_astore, o_lstore, o_iinc, o_ii, o_dv, o_i, o_ll, o_lshl, o_lcmp, o_i2l, o_l2i, o_dup, o_dup2, o_pop, o_goto, o_if, o_ic, o_sw, o_ireturn, o_nreturn, o_lreturn, o_return, o_min, o_max, o_geti, o_getr, o_puti, o_putz, o_putr, o_gets, o_iald, o_lald, o_aald, o_iast, o_last, o_aast, o_alen, o_new, o_newa, o_multi, o_call, o_scall, o_oinit, o_copyi, o_copyl, z_eq, z_ne, z_lt, z_ge, z_gt, z_le, z_ceq, z_cne, z_clt, z_cge, z_cgt, z_cle, z_rz, z_rb, z_rc, zg, zwp1, zsws, zent, zpad, zla, zlg, zpop, zrv, zc1, zmk, zob_w, zaw_w, zar_w, zln_w, zld_w, zin_w, zcpg_w, znr_w, List.getElem?_cons_zero, List.getElem?_cons_succ, List.set_cons_zero, List.set_cons_succ, List.length_cons, List.length_nil, Nat.reduceLT, Nat.reduceLeDiff, Nat.reduceAdd, Nat.reduceSub, Nat.reduceMul, Nat.reduceEqDiff, Nat.reduceBEq, ↓reduceIte, decide_eq_true_eq, decide_eq_false_iff_not, Bool.and_eq_true, Bool.true_and, Bool.and_true, Bool.decide_and, decide_true, decide_false, Bool.true_eq_false, Bool.false_eq_true, Option.toList_some, Option.toList_none, List.cons_append, List.nil_append, true_and, and_true, and_self, not_true_eq_false, not_false_eq_true, forall_const, false_implies, implies_true, Nat.le_refl, ne_eq, reduceCtorEq, Bool.not_eq_true, eq_self, zsh, zb_rz, zb_ne, zb_eq, qem, true_implies, Nat.zero_le, Bool.or_eq_true, or_true, true_or, false_or, or_false, h1, h2, f1, f4, b1, b2, b3, b4, b5, e1, e2, lg_self]
  exact hd _ hI2
/-- X6_kitchen -/
theorem ql_6 (hp : qPr Inv 60 124 []) (hk : k < 512) (hi : qIn (nI (6 * k)) L) (h1 : w.1 1021 = xs) (h2 : (w.1 1022 0).toNatClampNeg = L) (h3 : w.2.2.2 = 111) (hI : Inv k w) (hd : qHd L xs Inv Q k) : zWP (zcl 60) 213 (428, [some (.ref 1021), some (.ref 0), some (.ref 75), some (.int (nI (6 * k)))], [], w) Q := by
  obtain ⟨I, J, R, nc⟩ := w
  dsimp only at h1 h2 h3
  subst h3
  have b1 := hi 1 (by decide)
  have b2 := hi 2 (by decide)
  have b3 := hi 3 (by decide)
  have b4 := hi 4 (by decide)
  have b5 := hi 5 (by decide)
  rw [show nI 1 = 1 from rfl] at b1
  rw [show nI 2 = 2 from rfl] at b2
  rw [show nI 3 = 3 from rfl] at b3
  rw [show nI 4 = 4 from rfl] at b4
  rw [show nI 5 = 5 from rfl] at b5
  obtain ⟨r, ⟨I1, J1, R1, n1⟩, w2, e1, e2, ⟨f1, f2, f3⟩, hI2⟩ := hp k _ hk hI
  dsimp only at f1 f2 f3
  subst f3
  rw [h1] at f1
  have f4 : (I1 1022 0).toNatClampNeg = L := by rw [f2]; exact h2
  refine zg_wp 90 _ ?_
  simp only [zpr_213, zhd_213, zp213, zh213, zml_213, o_bad, o_push, o_iload, o_lload, o_aload, o_istore, o_astore, o_lstore, o_iinc, o_ii, o_dv, o_i, o_ll, o_lshl, o_lcmp, o_i2l, o_l2i, o_dup, o_dup2, o_pop, o_goto, o_if, o_ic, o_sw, o_ireturn, o_nreturn, o_lreturn, o_return, o_min, o_max, o_geti, o_getr, o_puti, o_putz, o_putr, o_gets, o_iald, o_lald, o_aald, o_iast, o_last, o_aast, o_alen, o_new, o_newa, o_multi, o_call, o_scall, o_oinit, o_copyi, o_copyl, z_eq, z_ne, z_lt, z_ge, z_gt, z_le, z_ceq, z_cne, z_clt, z_cge, z_cgt, z_cle, z_rz, z_rb, z_rc, zg, zwp1, zsws, zent, zpad, zla, zlg, zpop, zrv, zc1, zmk, zob_w, zaw_w, zar_w, zln_w, zld_w, zin_w, zcpg_w, znr_w, List.getElem?_cons_zero, List.getElem?_cons_succ, List.set_cons_zero, List.set_cons_succ, List.length_cons, List.length_nil, Nat.reduceLT, Nat.reduceLeDiff, Nat.reduceAdd, Nat.reduceSub, Nat.reduceMul, Nat.reduceEqDiff, Nat.reduceBEq, ↓reduceIte, decide_eq_true_eq, decide_eq_false_iff_not, Bool.and_eq_true, Bool.true_and, Bool.and_true, Bool.decide_and, decide_true, decide_false, Bool.true_eq_false, Bool.false_eq_true, Option.toList_some, Option.toList_none, List.cons_append, List.nil_append, true_and, and_true, and_self, not_true_eq_false, not_false_eq_true, forall_const, false_implies, implies_true, Nat.le_refl, ne_eq, reduceCtorEq, Bool.not_eq_true, eq_self, zsh, zb_rz, zb_ne, zb_eq, qem, true_implies, Nat.zero_le, Bool.or_eq_true, or_true, true_or, false_or, or_false, h1, h2, f1, f4, b1, b2, b3, b4, b5, e1, e2, lg_self]
  exact hd _ hI2
/-- X6_told -/
theorem ql_7 (hp : ∀ (a1 : Int32), qPr Inv 61 148 [.int a1]) (hk : k < 512) (hi : qIn (nI (6 * k)) L) (h1 : w.1 1021 = xs) (h2 : (w.1 1022 0).toNatClampNeg = L) (h3 : w.2.2.2 = 111) (hI : Inv k w) (hd : qHd L xs Inv Q k) : zWP (zcl 60) 213 (441, [some (.ref 1021), some (.ref 0), some (.ref 75), some (.int (nI (6 * k)))], [], w) Q := by
  obtain ⟨I, J, R, nc⟩ := w
  dsimp only at h1 h2 h3
  subst h3
  have b1 := hi 1 (by decide)
  have b2 := hi 2 (by decide)
  have b3 := hi 3 (by decide)
  have b4 := hi 4 (by decide)
  have b5 := hi 5 (by decide)
  rw [show nI 1 = 1 from rfl] at b1
  rw [show nI 2 = 2 from rfl] at b2
  rw [show nI 3 = 3 from rfl] at b3
  rw [show nI 4 = 4 from rfl] at b4
  rw [show nI 5 = 5 from rfl] at b5
  obtain ⟨r, ⟨I1, J1, R1, n1⟩, w2, e1, e2, ⟨f1, f2, f3⟩, hI2⟩ := hp (xs ((nI (6 * k)) + 1).toNatClampNeg) k _ hk hI
  dsimp only at f1 f2 f3
  subst f3
  rw [h1] at f1
  have f4 : (I1 1022 0).toNatClampNeg = L := by rw [f2]; exact h2
  refine zg_wp 90 _ ?_
  simp only [zpr_213, zhd_213, zp213, zh213, zml_213, o_bad, o_push, o_iload, o_lload, o_aload, o_istore, o_astore, o_lstore, o_iinc, o_ii, o_dv, o_i, o_ll, o_lshl, o_lcmp, o_i2l, o_l2i, o_dup, o_dup2, o_pop, o_goto, o_if, o_ic, o_sw, o_ireturn, o_nreturn, o_lreturn, o_return, o_min, o_max, o_geti, o_getr, o_puti, o_putz, o_putr, o_gets, o_iald, o_lald, o_aald, o_iast, o_last, o_aast, o_alen, o_new, o_newa, o_multi, o_call, o_scall, o_oinit, o_copyi, o_copyl, z_eq, z_ne, z_lt, z_ge, z_gt, z_le, z_ceq, z_cne, z_clt, z_cge, z_cgt, z_cle, z_rz, z_rb, z_rc, zg, zwp1, zsws, zent, zpad, zla, zlg, zpop, zrv, zc1, zmk, zob_w, zaw_w, zar_w, zln_w, zld_w, zin_w, zcpg_w, znr_w, List.getElem?_cons_zero, List.getElem?_cons_succ, List.set_cons_zero, List.set_cons_succ, List.length_cons, List.length_nil, Nat.reduceLT, Nat.reduceLeDiff, Nat.reduceAdd, Nat.reduceSub, Nat.reduceMul, Nat.reduceEqDiff, Nat.reduceBEq, ↓reduceIte, decide_eq_true_eq, decide_eq_false_iff_not, Bool.and_eq_true, Bool.true_and, Bool.and_true, Bool.decide_and, decide_true, decide_false, Bool.true_eq_false, Bool.false_eq_true, Option.toList_some, Option.toList_none, List.cons_append, List.nil_append, true_and, and_true, and_self, not_true_eq_false, not_false_eq_true, forall_const, false_implies, implies_true, Nat.le_refl, ne_eq, reduceCtorEq, Bool.not_eq_true, eq_self, zsh, zb_rz, zb_ne, zb_eq, qem, true_implies, Nat.zero_le, Bool.or_eq_true, or_true, true_or, false_or, or_false, h1, h2, f1, f4, b1, b2, b3, b4, b5, e1, e2, lg_self]
  exact hd _ hI2
/-- X6_snip -/
theorem ql_8 (hp : qPr Inv 62 144 []) (hk : k < 512) (hi : qIn (nI (6 * k)) L) (h1 : w.1 1021 = xs) (h2 : (w.1 1022 0).toNatClampNeg = L) (h3 : w.2.2.2 = 111) (hI : Inv k w) (hd : qHd L xs Inv Q k) : zWP (zcl 60) 213 (464, [some (.ref 1021), some (.ref 0), some (.ref 75), some (.int (nI (6 * k)))], [], w) Q := by
  obtain ⟨I, J, R, nc⟩ := w
  dsimp only at h1 h2 h3
  subst h3
  have b1 := hi 1 (by decide)
  have b2 := hi 2 (by decide)
  have b3 := hi 3 (by decide)
  have b4 := hi 4 (by decide)
  have b5 := hi 5 (by decide)
  rw [show nI 1 = 1 from rfl] at b1
  rw [show nI 2 = 2 from rfl] at b2
  rw [show nI 3 = 3 from rfl] at b3
  rw [show nI 4 = 4 from rfl] at b4
  rw [show nI 5 = 5 from rfl] at b5
  obtain ⟨r, ⟨I1, J1, R1, n1⟩, w2, e1, e2, ⟨f1, f2, f3⟩, hI2⟩ := hp k _ hk hI
  dsimp only at f1 f2 f3
  subst f3
  rw [h1] at f1
  have f4 : (I1 1022 0).toNatClampNeg = L := by rw [f2]; exact h2
  refine zg_wp 90 _ ?_
  simp only [zpr_213, zhd_213, zp213, zh213, zml_213, o_bad, o_push, o_iload, o_lload, o_aload, o_istore, o_astore, o_lstore, o_iinc, o_ii, o_dv, o_i, o_ll, o_lshl, o_lcmp, o_i2l, o_l2i, o_dup, o_dup2, o_pop, o_goto, o_if, o_ic, o_sw, o_ireturn, o_nreturn, o_lreturn, o_return, o_min, o_max, o_geti, o_getr, o_puti, o_putz, o_putr, o_gets, o_iald, o_lald, o_aald, o_iast, o_last, o_aast, o_alen, o_new, o_newa, o_multi, o_call, o_scall, o_oinit, o_copyi, o_copyl, z_eq, z_ne, z_lt, z_ge, z_gt, z_le, z_ceq, z_cne, z_clt, z_cge, z_cgt, z_cle, z_rz, z_rb, z_rc, zg, zwp1, zsws, zent, zpad, zla, zlg, zpop, zrv, zc1, zmk, zob_w, zaw_w, zar_w, zln_w, zld_w, zin_w, zcpg_w, znr_w, List.getElem?_cons_zero, List.getElem?_cons_succ, List.set_cons_zero, List.set_cons_succ, List.length_cons, List.length_nil, Nat.reduceLT, Nat.reduceLeDiff, Nat.reduceAdd, Nat.reduceSub, Nat.reduceMul, Nat.reduceEqDiff, Nat.reduceBEq, ↓reduceIte, decide_eq_true_eq, decide_eq_false_iff_not, Bool.and_eq_true, Bool.true_and, Bool.and_true, Bool.decide_and, decide_true, decide_false, Bool.true_eq_false, Bool.false_eq_true, Option.toList_some, Option.toList_none, List.cons_append, List.nil_append, true_and, and_true, and_self, not_true_eq_false, not_false_eq_true, forall_const, false_implies, implies_true, Nat.le_refl, ne_eq, reduceCtorEq, Bool.not_eq_true, eq_self, zsh, zb_rz, zb_ne, zb_eq, qem, true_implies, Nat.zero_le, Bool.or_eq_true, or_true, true_or, false_or, or_false, h1, h2, f1, f4, b1, b2, b3, b4, b5, e1, e2, lg_self]
  exact hd _ hI2
/-- X6_pass -/
theorem ql_9 (hp : ∀ (a1 : Int32), qPr Inv 63 146 [.int a1]) (hk : k < 512) (hi : qIn (nI (6 * k)) L) (h1 : w.1 1021 = xs) (h2 : (w.1 1022 0).toNatClampNeg = L) (h3 : w.2.2.2 = 111) (hI : Inv k w) (hd : qHd L xs Inv Q k) : zWP (zcl 60) 213 (477, [some (.ref 1021), some (.ref 0), some (.ref 75), some (.int (nI (6 * k)))], [], w) Q := by
  obtain ⟨I, J, R, nc⟩ := w
  dsimp only at h1 h2 h3
  subst h3
  have b1 := hi 1 (by decide)
  have b2 := hi 2 (by decide)
  have b3 := hi 3 (by decide)
  have b4 := hi 4 (by decide)
  have b5 := hi 5 (by decide)
  rw [show nI 1 = 1 from rfl] at b1
  rw [show nI 2 = 2 from rfl] at b2
  rw [show nI 3 = 3 from rfl] at b3
  rw [show nI 4 = 4 from rfl] at b4
  rw [show nI 5 = 5 from rfl] at b5
  obtain ⟨r, ⟨I1, J1, R1, n1⟩, w2, e1, e2, ⟨f1, f2, f3⟩, hI2⟩ := hp (xs ((nI (6 * k)) + 1).toNatClampNeg) k _ hk hI
  dsimp only at f1 f2 f3
  subst f3
  rw [h1] at f1
  have f4 : (I1 1022 0).toNatClampNeg = L := by rw [f2]; exact h2
  refine zg_wp 90 _ ?_
  simp only [zpr_213, zhd_213, zp213, zh213, zml_213, o_bad, o_push, o_iload, o_lload, o_aload, o_istore, o_astore, o_lstore, o_iinc, o_ii, o_dv, o_i, o_ll, o_lshl, o_lcmp, o_i2l, o_l2i, o_dup, o_dup2, o_pop, o_goto, o_if, o_ic, o_sw, o_ireturn, o_nreturn, o_lreturn, o_return, o_min, o_max, o_geti, o_getr, o_puti, o_putz, o_putr, o_gets, o_iald, o_lald, o_aald, o_iast, o_last, o_aast, o_alen, o_new, o_newa, o_multi, o_call, o_scall, o_oinit, o_copyi, o_copyl, z_eq, z_ne, z_lt, z_ge, z_gt, z_le, z_ceq, z_cne, z_clt, z_cge, z_cgt, z_cle, z_rz, z_rb, z_rc, zg, zwp1, zsws, zent, zpad, zla, zlg, zpop, zrv, zc1, zmk, zob_w, zaw_w, zar_w, zln_w, zld_w, zin_w, zcpg_w, znr_w, List.getElem?_cons_zero, List.getElem?_cons_succ, List.set_cons_zero, List.set_cons_succ, List.length_cons, List.length_nil, Nat.reduceLT, Nat.reduceLeDiff, Nat.reduceAdd, Nat.reduceSub, Nat.reduceMul, Nat.reduceEqDiff, Nat.reduceBEq, ↓reduceIte, decide_eq_true_eq, decide_eq_false_iff_not, Bool.and_eq_true, Bool.true_and, Bool.and_true, Bool.decide_and, decide_true, decide_false, Bool.true_eq_false, Bool.false_eq_true, Option.toList_some, Option.toList_none, List.cons_append, List.nil_append, true_and, and_true, and_self, not_true_eq_false, not_false_eq_true, forall_const, false_implies, implies_true, Nat.le_refl, ne_eq, reduceCtorEq, Bool.not_eq_true, eq_self, zsh, zb_rz, zb_ne, zb_eq, qem, true_implies, Nat.zero_le, Bool.or_eq_true, or_true, true_or, false_or, or_false, h1, h2, f1, f4, b1, b2, b3, b4, b5, e1, e2, lg_self]
  exact hd _ hI2
/-- X6_on -/
theorem ql_10 (hp : ∀ (a1 : Int32) (a2 : Int32), qPr Inv 64 154 [.int a1, .int a2]) (hk : k < 512) (hi : qIn (nI (6 * k)) L) (h1 : w.1 1021 = xs) (h2 : (w.1 1022 0).toNatClampNeg = L) (h3 : w.2.2.2 = 111) (hI : Inv k w) (hd : qHd L xs Inv Q k) : zWP (zcl 60) 213 (500, [some (.ref 1021), some (.ref 0), some (.ref 75), some (.int (nI (6 * k)))], [], w) Q := by
  obtain ⟨I, J, R, nc⟩ := w
  dsimp only at h1 h2 h3
  subst h3
  have b1 := hi 1 (by decide)
  have b2 := hi 2 (by decide)
  have b3 := hi 3 (by decide)
  have b4 := hi 4 (by decide)
  have b5 := hi 5 (by decide)
  rw [show nI 1 = 1 from rfl] at b1
  rw [show nI 2 = 2 from rfl] at b2
  rw [show nI 3 = 3 from rfl] at b3
  rw [show nI 4 = 4 from rfl] at b4
  rw [show nI 5 = 5 from rfl] at b5
  obtain ⟨r, ⟨I1, J1, R1, n1⟩, w2, e1, e2, ⟨f1, f2, f3⟩, hI2⟩ := hp (xs ((nI (6 * k)) + 1).toNatClampNeg) (xs ((nI (6 * k)) + 2).toNatClampNeg) k _ hk hI
  dsimp only at f1 f2 f3
  subst f3
  rw [h1] at f1
  have f4 : (I1 1022 0).toNatClampNeg = L := by rw [f2]; exact h2
  refine zg_wp 90 _ ?_
  simp only [zpr_213, zhd_213, zp213, zh213, zml_213, o_bad, o_push, o_iload, o_lload, o_aload, o_istore, o_astore, o_lstore, o_iinc, o_ii, o_dv, o_i, o_ll, o_lshl, o_lcmp, o_i2l, o_l2i, o_dup, o_dup2, o_pop, o_goto, o_if, o_ic, o_sw, o_ireturn, o_nreturn, o_lreturn, o_return, o_min, o_max, o_geti, o_getr, o_puti, o_putz, o_putr, o_gets, o_iald, o_lald, o_aald, o_iast, o_last, o_aast, o_alen, o_new, o_newa, o_multi, o_call, o_scall, o_oinit, o_copyi, o_copyl, z_eq, z_ne, z_lt, z_ge, z_gt, z_le, z_ceq, z_cne, z_clt, z_cge, z_cgt, z_cle, z_rz, z_rb, z_rc, zg, zwp1, zsws, zent, zpad, zla, zlg, zpop, zrv, zc1, zmk, zob_w, zaw_w, zar_w, zln_w, zld_w, zin_w, zcpg_w, znr_w, List.getElem?_cons_zero, List.getElem?_cons_succ, List.set_cons_zero, List.set_cons_succ, List.length_cons, List.length_nil, Nat.reduceLT, Nat.reduceLeDiff, Nat.reduceAdd, Nat.reduceSub, Nat.reduceMul, Nat.reduceEqDiff, Nat.reduceBEq, ↓reduceIte, decide_eq_true_eq, decide_eq_false_iff_not, Bool.and_eq_true, Bool.true_and, Bool.and_true, Bool.decide_and, decide_true, decide_false, Bool.true_eq_false, Bool.false_eq_true, Option.toList_some, Option.toList_none, List.cons_append, List.nil_append, true_and, and_true, and_self, not_true_eq_false, not_false_eq_true, forall_const, false_implies, implies_true, Nat.le_refl, ne_eq, reduceCtorEq, Bool.not_eq_true, eq_self, zsh, zb_rz, zb_ne, zb_eq, qem, true_implies, Nat.zero_le, Bool.or_eq_true, or_true, true_or, false_or, or_false, h1, h2, f1, f4, b1, b2, b3, b4, b5, e1, e2, lg_self]
  exact hd _ hI2
/-- X6_ends -/
theorem ql_11 (hp : qPr Inv 65 155 []) (hk : k < 512) (hi : qIn (nI (6 * k)) L) (h1 : w.1 1021 = xs) (h2 : (w.1 1022 0).toNatClampNeg = L) (h3 : w.2.2.2 = 111) (hI : Inv k w) (hd : qHd L xs Inv Q k) : zWP (zcl 60) 213 (533, [some (.ref 1021), some (.ref 0), some (.ref 75), some (.int (nI (6 * k)))], [], w) Q := by
  obtain ⟨I, J, R, nc⟩ := w
  dsimp only at h1 h2 h3
  subst h3
  have b1 := hi 1 (by decide)
  have b2 := hi 2 (by decide)
  have b3 := hi 3 (by decide)
  have b4 := hi 4 (by decide)
  have b5 := hi 5 (by decide)
  rw [show nI 1 = 1 from rfl] at b1
  rw [show nI 2 = 2 from rfl] at b2
  rw [show nI 3 = 3 from rfl] at b3
  rw [show nI 4 = 4 from rfl] at b4
  rw [show nI 5 = 5 from rfl] at b5
  obtain ⟨r, ⟨I1, J1, R1, n1⟩, w2, e1, e2, ⟨f1, f2, f3⟩, hI2⟩ := hp k _ hk hI
  dsimp only at f1 f2 f3
  subst f3
  rw [h1] at f1
  have f4 : (I1 1022 0).toNatClampNeg = L := by rw [f2]; exact h2
  refine zg_wp 90 _ ?_
  simp only [zpr_213, zhd_213, zp213, zh213, zml_213, o_bad, o_push, o_iload, o_lload, o_aload, o_istore, o_astore, o_lstore, o_iinc, o_ii, o_dv, o_i, o_ll, o_lshl, o_lcmp, o_i2l, o_l2i, o_dup, o_dup2, o_pop, o_goto, o_if, o_ic, o_sw, o_ireturn, o_nreturn, o_lreturn, o_return, o_min, o_max, o_geti, o_getr, o_puti, o_putz, o_putr, o_gets, o_iald, o_lald, o_aald, o_iast, o_last, o_aast, o_alen, o_new, o_newa, o_multi, o_call, o_scall, o_oinit, o_copyi, o_copyl, z_eq, z_ne, z_lt, z_ge, z_gt, z_le, z_ceq, z_cne, z_clt, z_cge, z_cgt, z_cle, z_rz, z_rb, z_rc, zg, zwp1, zsws, zent, zpad, zla, zlg, zpop, zrv, zc1, zmk, zob_w, zaw_w, zar_w, zln_w, zld_w, zin_w, zcpg_w, znr_w, List.getElem?_cons_zero, List.getElem?_cons_succ, List.set_cons_zero, List.set_cons_succ, List.length_cons, List.length_nil, Nat.reduceLT, Nat.reduceLeDiff, Nat.reduceAdd, Nat.reduceSub, Nat.reduceMul, Nat.reduceEqDiff, Nat.reduceBEq, ↓reduceIte, decide_eq_true_eq, decide_eq_false_iff_not, Bool.and_eq_true, Bool.true_and, Bool.and_true, Bool.decide_and, decide_true, decide_false, Bool.true_eq_false, Bool.false_eq_true, Option.toList_some, Option.toList_none, List.cons_append, List.nil_append, true_and, and_true, and_self, not_true_eq_false, not_false_eq_true, forall_const, false_implies, implies_true, Nat.le_refl, ne_eq, reduceCtorEq, Bool.not_eq_true, eq_self, zsh, zb_rz, zb_ne, zb_eq, qem, true_implies, Nat.zero_le, Bool.or_eq_true, or_true, true_or, false_or, or_false, h1, h2, f1, f4, b1, b2, b3, b4, b5, e1, e2, lg_self]
  exact hd _ hI2
/-- X6_shortest -/
theorem ql_12 (hp : ∀ (a1 : Int32), qPr Inv 66 156 [.int a1]) (hk : k < 512) (hi : qIn (nI (6 * k)) L) (h1 : w.1 1021 = xs) (h2 : (w.1 1022 0).toNatClampNeg = L) (h3 : w.2.2.2 = 111) (hI : Inv k w) (hd : qHd L xs Inv Q k) : zWP (zcl 60) 213 (546, [some (.ref 1021), some (.ref 0), some (.ref 75), some (.int (nI (6 * k)))], [], w) Q := by
  obtain ⟨I, J, R, nc⟩ := w
  dsimp only at h1 h2 h3
  subst h3
  have b1 := hi 1 (by decide)
  have b2 := hi 2 (by decide)
  have b3 := hi 3 (by decide)
  have b4 := hi 4 (by decide)
  have b5 := hi 5 (by decide)
  rw [show nI 1 = 1 from rfl] at b1
  rw [show nI 2 = 2 from rfl] at b2
  rw [show nI 3 = 3 from rfl] at b3
  rw [show nI 4 = 4 from rfl] at b4
  rw [show nI 5 = 5 from rfl] at b5
  obtain ⟨r, ⟨I1, J1, R1, n1⟩, w2, e1, e2, ⟨f1, f2, f3⟩, hI2⟩ := hp (xs ((nI (6 * k)) + 1).toNatClampNeg) k _ hk hI
  dsimp only at f1 f2 f3
  subst f3
  rw [h1] at f1
  have f4 : (I1 1022 0).toNatClampNeg = L := by rw [f2]; exact h2
  refine zg_wp 90 _ ?_
  simp only [zpr_213, zhd_213, zp213, zh213, zml_213, o_bad, o_push, o_iload, o_lload, o_aload, o_istore, o_astore, o_lstore, o_iinc, o_ii, o_dv, o_i, o_ll, o_lshl, o_lcmp, o_i2l, o_l2i, o_dup, o_dup2, o_pop, o_goto, o_if, o_ic, o_sw, o_ireturn, o_nreturn, o_lreturn, o_return, o_min, o_max, o_geti, o_getr, o_puti, o_putz, o_putr, o_gets, o_iald, o_lald, o_aald, o_iast, o_last, o_aast, o_alen, o_new, o_newa, o_multi, o_call, o_scall, o_oinit, o_copyi, o_copyl, z_eq, z_ne, z_lt, z_ge, z_gt, z_le, z_ceq, z_cne, z_clt, z_cge, z_cgt, z_cle, z_rz, z_rb, z_rc, zg, zwp1, zsws, zent, zpad, zla, zlg, zpop, zrv, zc1, zmk, zob_w, zaw_w, zar_w, zln_w, zld_w, zin_w, zcpg_w, znr_w, List.getElem?_cons_zero, List.getElem?_cons_succ, List.set_cons_zero, List.set_cons_succ, List.length_cons, List.length_nil, Nat.reduceLT, Nat.reduceLeDiff, Nat.reduceAdd, Nat.reduceSub, Nat.reduceMul, Nat.reduceEqDiff, Nat.reduceBEq, ↓reduceIte, decide_eq_true_eq, decide_eq_false_iff_not, Bool.and_eq_true, Bool.true_and, Bool.and_true, Bool.decide_and, decide_true, decide_false, Bool.true_eq_false, Bool.false_eq_true, Option.toList_some, Option.toList_none, List.cons_append, List.nil_append, true_and, and_true, and_self, not_true_eq_false, not_false_eq_true, forall_const, false_implies, implies_true, Nat.le_refl, ne_eq, reduceCtorEq, Bool.not_eq_true, eq_self, zsh, zb_rz, zb_ne, zb_eq, qem, true_implies, Nat.zero_le, Bool.or_eq_true, or_true, true_or, false_or, or_false, h1, h2, f1, f4, b1, b2, b3, b4, b5, e1, e2, lg_self]
  exact hd _ hI2
/-- X6_sides -/
theorem ql_13 (hp : ∀ (a1 : Int32), qPr Inv 67 157 [.int a1]) (hk : k < 512) (hi : qIn (nI (6 * k)) L) (h1 : w.1 1021 = xs) (h2 : (w.1 1022 0).toNatClampNeg = L) (h3 : w.2.2.2 = 111) (hI : Inv k w) (hd : qHd L xs Inv Q k) : zWP (zcl 60) 213 (569, [some (.ref 1021), some (.ref 0), some (.ref 75), some (.int (nI (6 * k)))], [], w) Q := by
  obtain ⟨I, J, R, nc⟩ := w
  dsimp only at h1 h2 h3
  subst h3
  have b1 := hi 1 (by decide)
  have b2 := hi 2 (by decide)
  have b3 := hi 3 (by decide)
  have b4 := hi 4 (by decide)
  have b5 := hi 5 (by decide)
  rw [show nI 1 = 1 from rfl] at b1
  rw [show nI 2 = 2 from rfl] at b2
  rw [show nI 3 = 3 from rfl] at b3
  rw [show nI 4 = 4 from rfl] at b4
  rw [show nI 5 = 5 from rfl] at b5
  obtain ⟨r, ⟨I1, J1, R1, n1⟩, w2, e1, e2, ⟨f1, f2, f3⟩, hI2⟩ := hp (xs ((nI (6 * k)) + 1).toNatClampNeg) k _ hk hI
  dsimp only at f1 f2 f3
  subst f3
  rw [h1] at f1
  have f4 : (I1 1022 0).toNatClampNeg = L := by rw [f2]; exact h2
  refine zg_wp 90 _ ?_
  simp only [zpr_213, zhd_213, zp213, zh213, zml_213, o_bad, o_push, o_iload, o_lload, o_aload, o_istore, o_astore, o_lstore, o_iinc, o_ii, o_dv, o_i, o_ll, o_lshl, o_lcmp, o_i2l, o_l2i, o_dup, o_dup2, o_pop, o_goto, o_if, o_ic, o_sw, o_ireturn, o_nreturn, o_lreturn, o_return, o_min, o_max, o_geti, o_getr, o_puti, o_putz, o_putr, o_gets, o_iald, o_lald, o_aald, o_iast, o_last, o_aast, o_alen, o_new, o_newa, o_multi, o_call, o_scall, o_oinit, o_copyi, o_copyl, z_eq, z_ne, z_lt, z_ge, z_gt, z_le, z_ceq, z_cne, z_clt, z_cge, z_cgt, z_cle, z_rz, z_rb, z_rc, zg, zwp1, zsws, zent, zpad, zla, zlg, zpop, zrv, zc1, zmk, zob_w, zaw_w, zar_w, zln_w, zld_w, zin_w, zcpg_w, znr_w, List.getElem?_cons_zero, List.getElem?_cons_succ, List.set_cons_zero, List.set_cons_succ, List.length_cons, List.length_nil, Nat.reduceLT, Nat.reduceLeDiff, Nat.reduceAdd, Nat.reduceSub, Nat.reduceMul, Nat.reduceEqDiff, Nat.reduceBEq, ↓reduceIte, decide_eq_true_eq, decide_eq_false_iff_not, Bool.and_eq_true, Bool.true_and, Bool.and_true, Bool.decide_and, decide_true, decide_false, Bool.true_eq_false, Bool.false_eq_true, Option.toList_some, Option.toList_none, List.cons_append, List.nil_append, true_and, and_true, and_self, not_true_eq_false, not_false_eq_true, forall_const, false_implies, implies_true, Nat.le_refl, ne_eq, reduceCtorEq, Bool.not_eq_true, eq_self, zsh, zb_rz, zb_ne, zb_eq, qem, true_implies, Nat.zero_le, Bool.or_eq_true, or_true, true_or, false_or, or_false, h1, h2, f1, f4, b1, b2, b3, b4, b5, e1, e2, lg_self]
  exact hd _ hI2
/-- X6_leaves -/
theorem ql_14 (hp : ∀ (a1 : Int32), qPr Inv 68 159 [.int a1]) (hk : k < 512) (hi : qIn (nI (6 * k)) L) (h1 : w.1 1021 = xs) (h2 : (w.1 1022 0).toNatClampNeg = L) (h3 : w.2.2.2 = 111) (hI : Inv k w) (hd : qHd L xs Inv Q k) : zWP (zcl 60) 213 (592, [some (.ref 1021), some (.ref 0), some (.ref 75), some (.int (nI (6 * k)))], [], w) Q := by
  obtain ⟨I, J, R, nc⟩ := w
  dsimp only at h1 h2 h3
  subst h3
  have b1 := hi 1 (by decide)
  have b2 := hi 2 (by decide)
  have b3 := hi 3 (by decide)
  have b4 := hi 4 (by decide)
  have b5 := hi 5 (by decide)
  rw [show nI 1 = 1 from rfl] at b1
  rw [show nI 2 = 2 from rfl] at b2
  rw [show nI 3 = 3 from rfl] at b3
  rw [show nI 4 = 4 from rfl] at b4
  rw [show nI 5 = 5 from rfl] at b5
  obtain ⟨r, ⟨I1, J1, R1, n1⟩, w2, e1, e2, ⟨f1, f2, f3⟩, hI2⟩ := hp (xs ((nI (6 * k)) + 1).toNatClampNeg) k _ hk hI
  dsimp only at f1 f2 f3
  subst f3
  rw [h1] at f1
  have f4 : (I1 1022 0).toNatClampNeg = L := by rw [f2]; exact h2
  refine zg_wp 90 _ ?_
  simp only [zpr_213, zhd_213, zp213, zh213, zml_213, o_bad, o_push, o_iload, o_lload, o_aload, o_istore, o_astore, o_lstore, o_iinc, o_ii, o_dv, o_i, o_ll, o_lshl, o_lcmp, o_i2l, o_l2i, o_dup, o_dup2, o_pop, o_goto, o_if, o_ic, o_sw, o_ireturn, o_nreturn, o_lreturn, o_return, o_min, o_max, o_geti, o_getr, o_puti, o_putz, o_putr, o_gets, o_iald, o_lald, o_aald, o_iast, o_last, o_aast, o_alen, o_new, o_newa, o_multi, o_call, o_scall, o_oinit, o_copyi, o_copyl, z_eq, z_ne, z_lt, z_ge, z_gt, z_le, z_ceq, z_cne, z_clt, z_cge, z_cgt, z_cle, z_rz, z_rb, z_rc, zg, zwp1, zsws, zent, zpad, zla, zlg, zpop, zrv, zc1, zmk, zob_w, zaw_w, zar_w, zln_w, zld_w, zin_w, zcpg_w, znr_w, List.getElem?_cons_zero, List.getElem?_cons_succ, List.set_cons_zero, List.set_cons_succ, List.length_cons, List.length_nil, Nat.reduceLT, Nat.reduceLeDiff, Nat.reduceAdd, Nat.reduceSub, Nat.reduceMul, Nat.reduceEqDiff, Nat.reduceBEq, ↓reduceIte, decide_eq_true_eq, decide_eq_false_iff_not, Bool.and_eq_true, Bool.true_and, Bool.and_true, Bool.decide_and, decide_true, decide_false, Bool.true_eq_false, Bool.false_eq_true, Option.toList_some, Option.toList_none, List.cons_append, List.nil_append, true_and, and_true, and_self, not_true_eq_false, not_false_eq_true, forall_const, false_implies, implies_true, Nat.le_refl, ne_eq, reduceCtorEq, Bool.not_eq_true, eq_self, zsh, zb_rz, zb_ne, zb_eq, qem, true_implies, Nat.zero_le, Bool.or_eq_true, or_true, true_or, false_or, or_false, h1, h2, f1, f4, b1, b2, b3, b4, b5, e1, e2, lg_self]
  exact hd _ hI2
/-- X6_halves -/
theorem ql_15 (hp : qPr Inv 69 160 []) (hk : k < 512) (hi : qIn (nI (6 * k)) L) (h1 : w.1 1021 = xs) (h2 : (w.1 1022 0).toNatClampNeg = L) (h3 : w.2.2.2 = 111) (hI : Inv k w) (hd : qHd L xs Inv Q k) : zWP (zcl 60) 213 (615, [some (.ref 1021), some (.ref 0), some (.ref 75), some (.int (nI (6 * k)))], [], w) Q := by
  obtain ⟨I, J, R, nc⟩ := w
  dsimp only at h1 h2 h3
  subst h3
  have b1 := hi 1 (by decide)
  have b2 := hi 2 (by decide)
  have b3 := hi 3 (by decide)
  have b4 := hi 4 (by decide)
  have b5 := hi 5 (by decide)
  rw [show nI 1 = 1 from rfl] at b1
  rw [show nI 2 = 2 from rfl] at b2
  rw [show nI 3 = 3 from rfl] at b3
  rw [show nI 4 = 4 from rfl] at b4
  rw [show nI 5 = 5 from rfl] at b5
  obtain ⟨r, ⟨I1, J1, R1, n1⟩, w2, e1, e2, ⟨f1, f2, f3⟩, hI2⟩ := hp k _ hk hI
  dsimp only at f1 f2 f3
  subst f3
  rw [h1] at f1
  have f4 : (I1 1022 0).toNatClampNeg = L := by rw [f2]; exact h2
  refine zg_wp 90 _ ?_
  simp only [zpr_213, zhd_213, zp213, zh213, zml_213, o_bad, o_push, o_iload, o_lload, o_aload, o_istore, o_astore, o_lstore, o_iinc, o_ii, o_dv, o_i, o_ll, o_lshl, o_lcmp, o_i2l, o_l2i, o_dup, o_dup2, o_pop, o_goto, o_if, o_ic, o_sw, o_ireturn, o_nreturn, o_lreturn, o_return, o_min, o_max, o_geti, o_getr, o_puti, o_putz, o_putr, o_gets, o_iald, o_lald, o_aald, o_iast, o_last, o_aast, o_alen, o_new, o_newa, o_multi, o_call, o_scall, o_oinit, o_copyi, o_copyl, z_eq, z_ne, z_lt, z_ge, z_gt, z_le, z_ceq, z_cne, z_clt, z_cge, z_cgt, z_cle, z_rz, z_rb, z_rc, zg, zwp1, zsws, zent, zpad, zla, zlg, zpop, zrv, zc1, zmk, zob_w, zaw_w, zar_w, zln_w, zld_w, zin_w, zcpg_w, znr_w, List.getElem?_cons_zero, List.getElem?_cons_succ, List.set_cons_zero, List.set_cons_succ, List.length_cons, List.length_nil, Nat.reduceLT, Nat.reduceLeDiff, Nat.reduceAdd, Nat.reduceSub, Nat.reduceMul, Nat.reduceEqDiff, Nat.reduceBEq, ↓reduceIte, decide_eq_true_eq, decide_eq_false_iff_not, Bool.and_eq_true, Bool.true_and, Bool.and_true, Bool.decide_and, decide_true, decide_false, Bool.true_eq_false, Bool.false_eq_true, Option.toList_some, Option.toList_none, List.cons_append, List.nil_append, true_and, and_true, and_self, not_true_eq_false, not_false_eq_true, forall_const, false_implies, implies_true, Nat.le_refl, ne_eq, reduceCtorEq, Bool.not_eq_true, eq_self, zsh, zb_rz, zb_ne, zb_eq, qem, true_implies, Nat.zero_le, Bool.or_eq_true, or_true, true_or, false_or, or_false, h1, h2, f1, f4, b1, b2, b3, b4, b5, e1, e2, lg_self]
  exact hd _ hI2
/-- X6_first -/
theorem ql_16 (hp : ∀ (a1 : Int32), qPr Inv 70 161 [.int a1]) (hk : k < 512) (hi : qIn (nI (6 * k)) L) (h1 : w.1 1021 = xs) (h2 : (w.1 1022 0).toNatClampNeg = L) (h3 : w.2.2.2 = 111) (hI : Inv k w) (hd : qHd L xs Inv Q k) : zWP (zcl 60) 213 (628, [some (.ref 1021), some (.ref 0), some (.ref 75), some (.int (nI (6 * k)))], [], w) Q := by
  obtain ⟨I, J, R, nc⟩ := w
  dsimp only at h1 h2 h3
  subst h3
  have b1 := hi 1 (by decide)
  have b2 := hi 2 (by decide)
  have b3 := hi 3 (by decide)
  have b4 := hi 4 (by decide)
  have b5 := hi 5 (by decide)
  rw [show nI 1 = 1 from rfl] at b1
  rw [show nI 2 = 2 from rfl] at b2
  rw [show nI 3 = 3 from rfl] at b3
  rw [show nI 4 = 4 from rfl] at b4
  rw [show nI 5 = 5 from rfl] at b5
  obtain ⟨r, ⟨I1, J1, R1, n1⟩, w2, e1, e2, ⟨f1, f2, f3⟩, hI2⟩ := hp (xs ((nI (6 * k)) + 1).toNatClampNeg) k _ hk hI
  dsimp only at f1 f2 f3
  subst f3
  rw [h1] at f1
  have f4 : (I1 1022 0).toNatClampNeg = L := by rw [f2]; exact h2
  refine zg_wp 90 _ ?_
  simp only [zpr_213, zhd_213, zp213, zh213, zml_213, o_bad, o_push, o_iload, o_lload, o_aload, o_istore, o_astore, o_lstore, o_iinc, o_ii, o_dv, o_i, o_ll, o_lshl, o_lcmp, o_i2l, o_l2i, o_dup, o_dup2, o_pop, o_goto, o_if, o_ic, o_sw, o_ireturn, o_nreturn, o_lreturn, o_return, o_min, o_max, o_geti, o_getr, o_puti, o_putz, o_putr, o_gets, o_iald, o_lald, o_aald, o_iast, o_last, o_aast, o_alen, o_new, o_newa, o_multi, o_call, o_scall, o_oinit, o_copyi, o_copyl, z_eq, z_ne, z_lt, z_ge, z_gt, z_le, z_ceq, z_cne, z_clt, z_cge, z_cgt, z_cle, z_rz, z_rb, z_rc, zg, zwp1, zsws, zent, zpad, zla, zlg, zpop, zrv, zc1, zmk, zob_w, zaw_w, zar_w, zln_w, zld_w, zin_w, zcpg_w, znr_w, List.getElem?_cons_zero, List.getElem?_cons_succ, List.set_cons_zero, List.set_cons_succ, List.length_cons, List.length_nil, Nat.reduceLT, Nat.reduceLeDiff, Nat.reduceAdd, Nat.reduceSub, Nat.reduceMul, Nat.reduceEqDiff, Nat.reduceBEq, ↓reduceIte, decide_eq_true_eq, decide_eq_false_iff_not, Bool.and_eq_true, Bool.true_and, Bool.and_true, Bool.decide_and, decide_true, decide_false, Bool.true_eq_false, Bool.false_eq_true, Option.toList_some, Option.toList_none, List.cons_append, List.nil_append, true_and, and_true, and_self, not_true_eq_false, not_false_eq_true, forall_const, false_implies, implies_true, Nat.le_refl, ne_eq, reduceCtorEq, Bool.not_eq_true, eq_self, zsh, zb_rz, zb_ne, zb_eq, qem, true_implies, Nat.zero_le, Bool.or_eq_true, or_true, true_or, false_or, or_false, h1, h2, f1, f4, b1, b2, b3, b4, b5, e1, e2, lg_self]
  exact hd _ hI2
/-- X6_twice -/
theorem ql_17 (hp : qPr Inv 71 162 []) (hk : k < 512) (hi : qIn (nI (6 * k)) L) (h1 : w.1 1021 = xs) (h2 : (w.1 1022 0).toNatClampNeg = L) (h3 : w.2.2.2 = 111) (hI : Inv k w) (hd : qHd L xs Inv Q k) : zWP (zcl 60) 213 (651, [some (.ref 1021), some (.ref 0), some (.ref 75), some (.int (nI (6 * k)))], [], w) Q := by
  obtain ⟨I, J, R, nc⟩ := w
  dsimp only at h1 h2 h3
  subst h3
  have b1 := hi 1 (by decide)
  have b2 := hi 2 (by decide)
  have b3 := hi 3 (by decide)
  have b4 := hi 4 (by decide)
  have b5 := hi 5 (by decide)
  rw [show nI 1 = 1 from rfl] at b1
  rw [show nI 2 = 2 from rfl] at b2
  rw [show nI 3 = 3 from rfl] at b3
  rw [show nI 4 = 4 from rfl] at b4
  rw [show nI 5 = 5 from rfl] at b5
  obtain ⟨r, ⟨I1, J1, R1, n1⟩, w2, e1, e2, ⟨f1, f2, f3⟩, hI2⟩ := hp k _ hk hI
  dsimp only at f1 f2 f3
  subst f3
  rw [h1] at f1
  have f4 : (I1 1022 0).toNatClampNeg = L := by rw [f2]; exact h2
  refine zg_wp 90 _ ?_
  simp only [zpr_213, zhd_213, zp213, zh213, zml_213, o_bad, o_push, o_iload, o_lload, o_aload, o_istore, o_astore, o_lstore, o_iinc, o_ii, o_dv, o_i, o_ll, o_lshl, o_lcmp, o_i2l, o_l2i, o_dup, o_dup2, o_pop, o_goto, o_if, o_ic, o_sw, o_ireturn, o_nreturn, o_lreturn, o_return, o_min, o_max, o_geti, o_getr, o_puti, o_putz, o_putr, o_gets, o_iald, o_lald, o_aald, o_iast, o_last, o_aast, o_alen, o_new, o_newa, o_multi, o_call, o_scall, o_oinit, o_copyi, o_copyl, z_eq, z_ne, z_lt, z_ge, z_gt, z_le, z_ceq, z_cne, z_clt, z_cge, z_cgt, z_cle, z_rz, z_rb, z_rc, zg, zwp1, zsws, zent, zpad, zla, zlg, zpop, zrv, zc1, zmk, zob_w, zaw_w, zar_w, zln_w, zld_w, zin_w, zcpg_w, znr_w, List.getElem?_cons_zero, List.getElem?_cons_succ, List.set_cons_zero, List.set_cons_succ, List.length_cons, List.length_nil, Nat.reduceLT, Nat.reduceLeDiff, Nat.reduceAdd, Nat.reduceSub, Nat.reduceMul, Nat.reduceEqDiff, Nat.reduceBEq, ↓reduceIte, decide_eq_true_eq, decide_eq_false_iff_not, Bool.and_eq_true, Bool.true_and, Bool.and_true, Bool.decide_and, decide_true, decide_false, Bool.true_eq_false, Bool.false_eq_true, Option.toList_some, Option.toList_none, List.cons_append, List.nil_append, true_and, and_true, and_self, not_true_eq_false, not_false_eq_true, forall_const, false_implies, implies_true, Nat.le_refl, ne_eq, reduceCtorEq, Bool.not_eq_true, eq_self, zsh, zb_rz, zb_ne, zb_eq, qem, true_implies, Nat.zero_le, Bool.or_eq_true, or_true, true_or, false_or, or_false, h1, h2, f1, f4, b1, b2, b3, b4, b5, e1, e2, lg_self]
  exact hd _ hI2
/-- X6_pad -/
theorem ql_18 (hp : qPr Inv 72 163 []) (hk : k < 512) (hi : qIn (nI (6 * k)) L) (h1 : w.1 1021 = xs) (h2 : (w.1 1022 0).toNatClampNeg = L) (h3 : w.2.2.2 = 111) (hI : Inv k w) (hd : qHd L xs Inv Q k) : zWP (zcl 60) 213 (664, [some (.ref 1021), some (.ref 0), some (.ref 75), some (.int (nI (6 * k)))], [], w) Q := by
  obtain ⟨I, J, R, nc⟩ := w
  dsimp only at h1 h2 h3
  subst h3
  have b1 := hi 1 (by decide)
  have b2 := hi 2 (by decide)
  have b3 := hi 3 (by decide)
  have b4 := hi 4 (by decide)
  have b5 := hi 5 (by decide)
  rw [show nI 1 = 1 from rfl] at b1
  rw [show nI 2 = 2 from rfl] at b2
  rw [show nI 3 = 3 from rfl] at b3
  rw [show nI 4 = 4 from rfl] at b4
  rw [show nI 5 = 5 from rfl] at b5
  obtain ⟨r, ⟨I1, J1, R1, n1⟩, w2, e1, e2, ⟨f1, f2, f3⟩, hI2⟩ := hp k _ hk hI
  dsimp only at f1 f2 f3
  subst f3
  rw [h1] at f1
  have f4 : (I1 1022 0).toNatClampNeg = L := by rw [f2]; exact h2
  refine zg_wp 90 _ ?_
  simp only [zpr_213, zhd_213, zp213, zh213, zml_213, o_bad, o_push, o_iload, o_lload, o_aload, o_istore, o_astore, o_lstore, o_iinc, o_ii, o_dv, o_i, o_ll, o_lshl, o_lcmp, o_i2l, o_l2i, o_dup, o_dup2, o_pop, o_goto, o_if, o_ic, o_sw, o_ireturn, o_nreturn, o_lreturn, o_return, o_min, o_max, o_geti, o_getr, o_puti, o_putz, o_putr, o_gets, o_iald, o_lald, o_aald, o_iast, o_last, o_aast, o_alen, o_new, o_newa, o_multi, o_call, o_scall, o_oinit, o_copyi, o_copyl, z_eq, z_ne, z_lt, z_ge, z_gt, z_le, z_ceq, z_cne, z_clt, z_cge, z_cgt, z_cle, z_rz, z_rb, z_rc, zg, zwp1, zsws, zent, zpad, zla, zlg, zpop, zrv, zc1, zmk, zob_w, zaw_w, zar_w, zln_w, zld_w, zin_w, zcpg_w, znr_w, List.getElem?_cons_zero, List.getElem?_cons_succ, List.set_cons_zero, List.set_cons_succ, List.length_cons, List.length_nil, Nat.reduceLT, Nat.reduceLeDiff, Nat.reduceAdd, Nat.reduceSub, Nat.reduceMul, Nat.reduceEqDiff, Nat.reduceBEq, ↓reduceIte, decide_eq_true_eq, decide_eq_false_iff_not, Bool.and_eq_true, Bool.true_and, Bool.and_true, Bool.decide_and, decide_true, decide_false, Bool.true_eq_false, Bool.false_eq_true, Option.toList_some, Option.toList_none, List.cons_append, List.nil_append, true_and, and_true, and_self, not_true_eq_false, not_false_eq_true, forall_const, false_implies, implies_true, Nat.le_refl, ne_eq, reduceCtorEq, Bool.not_eq_true, eq_self, zsh, zb_rz, zb_ne, zb_eq, qem, true_implies, Nat.zero_le, Bool.or_eq_true, or_true, true_or, false_or, or_false, h1, h2, f1, f4, b1, b2, b3, b4, b5, e1, e2, lg_self]
  exact hd _ hI2
/-- X6_wobbles -/
theorem ql_19 (hp : qPr Inv 73 165 []) (hk : k < 512) (hi : qIn (nI (6 * k)) L) (h1 : w.1 1021 = xs) (h2 : (w.1 1022 0).toNatClampNeg = L) (h3 : w.2.2.2 = 111) (hI : Inv k w) (hd : qHd L xs Inv Q k) : zWP (zcl 60) 213 (677, [some (.ref 1021), some (.ref 0), some (.ref 75), some (.int (nI (6 * k)))], [], w) Q := by
  obtain ⟨I, J, R, nc⟩ := w
  dsimp only at h1 h2 h3
  subst h3
  have b1 := hi 1 (by decide)
  have b2 := hi 2 (by decide)
  have b3 := hi 3 (by decide)
  have b4 := hi 4 (by decide)
  have b5 := hi 5 (by decide)
  rw [show nI 1 = 1 from rfl] at b1
  rw [show nI 2 = 2 from rfl] at b2
  rw [show nI 3 = 3 from rfl] at b3
  rw [show nI 4 = 4 from rfl] at b4
  rw [show nI 5 = 5 from rfl] at b5
  obtain ⟨r, ⟨I1, J1, R1, n1⟩, w2, e1, e2, ⟨f1, f2, f3⟩, hI2⟩ := hp k _ hk hI
  dsimp only at f1 f2 f3
  subst f3
  rw [h1] at f1
  have f4 : (I1 1022 0).toNatClampNeg = L := by rw [f2]; exact h2
  refine zg_wp 90 _ ?_
  simp only [zpr_213, zhd_213, zp213, zh213, zml_213, o_bad, o_push, o_iload, o_lload, o_aload, o_istore, o_astore, o_lstore, o_iinc, o_ii, o_dv, o_i, o_ll, o_lshl, o_lcmp, o_i2l, o_l2i, o_dup, o_dup2, o_pop, o_goto, o_if, o_ic, o_sw, o_ireturn, o_nreturn, o_lreturn, o_return, o_min, o_max, o_geti, o_getr, o_puti, o_putz, o_putr, o_gets, o_iald, o_lald, o_aald, o_iast, o_last, o_aast, o_alen, o_new, o_newa, o_multi, o_call, o_scall, o_oinit, o_copyi, o_copyl, z_eq, z_ne, z_lt, z_ge, z_gt, z_le, z_ceq, z_cne, z_clt, z_cge, z_cgt, z_cle, z_rz, z_rb, z_rc, zg, zwp1, zsws, zent, zpad, zla, zlg, zpop, zrv, zc1, zmk, zob_w, zaw_w, zar_w, zln_w, zld_w, zin_w, zcpg_w, znr_w, List.getElem?_cons_zero, List.getElem?_cons_succ, List.set_cons_zero, List.set_cons_succ, List.length_cons, List.length_nil, Nat.reduceLT, Nat.reduceLeDiff, Nat.reduceAdd, Nat.reduceSub, Nat.reduceMul, Nat.reduceEqDiff, Nat.reduceBEq, ↓reduceIte, decide_eq_true_eq, decide_eq_false_iff_not, Bool.and_eq_true, Bool.true_and, Bool.and_true, Bool.decide_and, decide_true, decide_false, Bool.true_eq_false, Bool.false_eq_true, Option.toList_some, Option.toList_none, List.cons_append, List.nil_append, true_and, and_true, and_self, not_true_eq_false, not_false_eq_true, forall_const, false_implies, implies_true, Nat.le_refl, ne_eq, reduceCtorEq, Bool.not_eq_true, eq_self, zsh, zb_rz, zb_ne, zb_eq, qem, true_implies, Nat.zero_le, Bool.or_eq_true, or_true, true_or, false_or, or_false, h1, h2, f1, f4, b1, b2, b3, b4, b5, e1, e2, lg_self]
  exact hd _ hI2
/-- X6_leg -/
theorem ql_20 (hp : qPr Inv 74 166 []) (hk : k < 512) (hi : qIn (nI (6 * k)) L) (h1 : w.1 1021 = xs) (h2 : (w.1 1022 0).toNatClampNeg = L) (h3 : w.2.2.2 = 111) (hI : Inv k w) (hd : qHd L xs Inv Q k) : zWP (zcl 60) 213 (690, [some (.ref 1021), some (.ref 0), some (.ref 75), some (.int (nI (6 * k)))], [], w) Q := by
  obtain ⟨I, J, R, nc⟩ := w
  dsimp only at h1 h2 h3
  subst h3
  have b1 := hi 1 (by decide)
  have b2 := hi 2 (by decide)
  have b3 := hi 3 (by decide)
  have b4 := hi 4 (by decide)
  have b5 := hi 5 (by decide)
  rw [show nI 1 = 1 from rfl] at b1
  rw [show nI 2 = 2 from rfl] at b2
  rw [show nI 3 = 3 from rfl] at b3
  rw [show nI 4 = 4 from rfl] at b4
  rw [show nI 5 = 5 from rfl] at b5
  obtain ⟨r, ⟨I1, J1, R1, n1⟩, w2, e1, e2, ⟨f1, f2, f3⟩, hI2⟩ := hp k _ hk hI
  dsimp only at f1 f2 f3
  subst f3
  rw [h1] at f1
  have f4 : (I1 1022 0).toNatClampNeg = L := by rw [f2]; exact h2
  refine zg_wp 90 _ ?_
  simp only [zpr_213, zhd_213, zp213, zh213, zml_213, o_bad, o_push, o_iload, o_lload, o_aload, o_istore, o_astore, o_lstore, o_iinc, o_ii, o_dv, o_i, o_ll, o_lshl, o_lcmp, o_i2l, o_l2i, o_dup, o_dup2, o_pop, o_goto, o_if, o_ic, o_sw, o_ireturn, o_nreturn, o_lreturn, o_return, o_min, o_max, o_geti, o_getr, o_puti, o_putz, o_putr, o_gets, o_iald, o_lald, o_aald, o_iast, o_last, o_aast, o_alen, o_new, o_newa, o_multi, o_call, o_scall, o_oinit, o_copyi, o_copyl, z_eq, z_ne, z_lt, z_ge, z_gt, z_le, z_ceq, z_cne, z_clt, z_cge, z_cgt, z_cle, z_rz, z_rb, z_rc, zg, zwp1, zsws, zent, zpad, zla, zlg, zpop, zrv, zc1, zmk, zob_w, zaw_w, zar_w, zln_w, zld_w, zin_w, zcpg_w, znr_w, List.getElem?_cons_zero, List.getElem?_cons_succ, List.set_cons_zero, List.set_cons_succ, List.length_cons, List.length_nil, Nat.reduceLT, Nat.reduceLeDiff, Nat.reduceAdd, Nat.reduceSub, Nat.reduceMul, Nat.reduceEqDiff, Nat.reduceBEq, ↓reduceIte, decide_eq_true_eq, decide_eq_false_iff_not, Bool.and_eq_true, Bool.true_and, Bool.and_true, Bool.decide_and, decide_true, decide_false, Bool.true_eq_false, Bool.false_eq_true, Option.toList_some, Option.toList_none, List.cons_append, List.nil_append, true_and, and_true, and_self, not_true_eq_false, not_false_eq_true, forall_const, false_implies, implies_true, Nat.le_refl, ne_eq, reduceCtorEq, Bool.not_eq_true, eq_self, zsh, zb_rz, zb_ne, zb_eq, qem, true_implies, Nat.zero_le, Bool.or_eq_true, or_true, true_or, false_or, or_false, h1, h2, f1, f4, b1, b2, b3, b4, b5, e1, e2, lg_self]
  exact hd _ hI2
/-- X6_grown -/
theorem ql_21 (hp : ∀ (a1 : Int32), qPr Inv 75 167 [.int a1]) (hk : k < 512) (hi : qIn (nI (6 * k)) L) (h1 : w.1 1021 = xs) (h2 : (w.1 1022 0).toNatClampNeg = L) (h3 : w.2.2.2 = 111) (hI : Inv k w) (hd : qHd L xs Inv Q k) : zWP (zcl 60) 213 (703, [some (.ref 1021), some (.ref 0), some (.ref 75), some (.int (nI (6 * k)))], [], w) Q := by
  obtain ⟨I, J, R, nc⟩ := w
  dsimp only at h1 h2 h3
  subst h3
  have b1 := hi 1 (by decide)
  have b2 := hi 2 (by decide)
  have b3 := hi 3 (by decide)
  have b4 := hi 4 (by decide)
  have b5 := hi 5 (by decide)
  rw [show nI 1 = 1 from rfl] at b1
  rw [show nI 2 = 2 from rfl] at b2
  rw [show nI 3 = 3 from rfl] at b3
  rw [show nI 4 = 4 from rfl] at b4
  rw [show nI 5 = 5 from rfl] at b5
  obtain ⟨r, ⟨I1, J1, R1, n1⟩, w2, e1, e2, ⟨f1, f2, f3⟩, hI2⟩ := hp (xs ((nI (6 * k)) + 1).toNatClampNeg) k _ hk hI
  dsimp only at f1 f2 f3
  subst f3
  rw [h1] at f1
  have f4 : (I1 1022 0).toNatClampNeg = L := by rw [f2]; exact h2
  refine zg_wp 90 _ ?_
  simp only [zpr_213, zhd_213, zp213, zh213, zml_213, o_bad, o_push, o_iload, o_lload, o_aload, o_istore, o_astore, o_lstore, o_iinc, o_ii, o_dv, o_i, o_ll, o_lshl, o_lcmp, o_i2l, o_l2i, o_dup, o_dup2, o_pop, o_goto, o_if, o_ic, o_sw, o_ireturn, o_nreturn, o_lreturn, o_return, o_min, o_max, o_geti, o_getr, o_puti, o_putz, o_putr, o_gets, o_iald, o_lald, o_aald, o_iast, o_last, o_aast, o_alen, o_new, o_newa, o_multi, o_call, o_scall, o_oinit, o_copyi, o_copyl, z_eq, z_ne, z_lt, z_ge, z_gt, z_le, z_ceq, z_cne, z_clt, z_cge, z_cgt, z_cle, z_rz, z_rb, z_rc, zg, zwp1, zsws, zent, zpad, zla, zlg, zpop, zrv, zc1, zmk, zob_w, zaw_w, zar_w, zln_w, zld_w, zin_w, zcpg_w, znr_w, List.getElem?_cons_zero, List.getElem?_cons_succ, List.set_cons_zero, List.set_cons_succ, List.length_cons, List.length_nil, Nat.reduceLT, Nat.reduceLeDiff, Nat.reduceAdd, Nat.reduceSub, Nat.reduceMul, Nat.reduceEqDiff, Nat.reduceBEq, ↓reduceIte, decide_eq_true_eq, decide_eq_false_iff_not, Bool.and_eq_true, Bool.true_and, Bool.and_true, Bool.decide_and, decide_true, decide_false, Bool.true_eq_false, Bool.false_eq_true, Option.toList_some, Option.toList_none, List.cons_append, List.nil_append, true_and, and_true, and_self, not_true_eq_false, not_false_eq_true, forall_const, false_implies, implies_true, Nat.le_refl, ne_eq, reduceCtorEq, Bool.not_eq_true, eq_self, zsh, zb_rz, zb_ne, zb_eq, qem, true_implies, Nat.zero_le, Bool.or_eq_true, or_true, true_or, false_or, or_false, h1, h2, f1, f4, b1, b2, b3, b4, b5, e1, e2, lg_self]
  exact hd _ hI2
/-- X6_reaches -/
theorem ql_22 (hp : ∀ (a1 : Int32) (a2 : Int32), qPr Inv 76 168 [.int a1, .int a2]) (hk : k < 512) (hi : qIn (nI (6 * k)) L) (h1 : w.1 1021 = xs) (h2 : (w.1 1022 0).toNatClampNeg = L) (h3 : w.2.2.2 = 111) (hI : Inv k w) (hd : qHd L xs Inv Q k) : zWP (zcl 60) 213 (726, [some (.ref 1021), some (.ref 0), some (.ref 75), some (.int (nI (6 * k)))], [], w) Q := by
  obtain ⟨I, J, R, nc⟩ := w
  dsimp only at h1 h2 h3
  subst h3
  have b1 := hi 1 (by decide)
  have b2 := hi 2 (by decide)
  have b3 := hi 3 (by decide)
  have b4 := hi 4 (by decide)
  have b5 := hi 5 (by decide)
  rw [show nI 1 = 1 from rfl] at b1
  rw [show nI 2 = 2 from rfl] at b2
  rw [show nI 3 = 3 from rfl] at b3
  rw [show nI 4 = 4 from rfl] at b4
  rw [show nI 5 = 5 from rfl] at b5
  obtain ⟨r, ⟨I1, J1, R1, n1⟩, w2, e1, e2, ⟨f1, f2, f3⟩, hI2⟩ := hp (xs ((nI (6 * k)) + 1).toNatClampNeg) (xs ((nI (6 * k)) + 2).toNatClampNeg) k _ hk hI
  dsimp only at f1 f2 f3
  subst f3
  rw [h1] at f1
  have f4 : (I1 1022 0).toNatClampNeg = L := by rw [f2]; exact h2
  refine zg_wp 90 _ ?_
  simp only [zpr_213, zhd_213, zp213, zh213, zml_213, o_bad, o_push, o_iload, o_lload, o_aload, o_istore, o_astore, o_lstore, o_iinc, o_ii, o_dv, o_i, o_ll, o_lshl, o_lcmp, o_i2l, o_l2i, o_dup, o_dup2, o_pop, o_goto, o_if, o_ic, o_sw, o_ireturn, o_nreturn, o_lreturn, o_return, o_min, o_max, o_geti, o_getr, o_puti, o_putz, o_putr, o_gets, o_iald, o_lald, o_aald, o_iast, o_last, o_aast, o_alen, o_new, o_newa, o_multi, o_call, o_scall, o_oinit, o_copyi, o_copyl, z_eq, z_ne, z_lt, z_ge, z_gt, z_le, z_ceq, z_cne, z_clt, z_cge, z_cgt, z_cle, z_rz, z_rb, z_rc, zg, zwp1, zsws, zent, zpad, zla, zlg, zpop, zrv, zc1, zmk, zob_w, zaw_w, zar_w, zln_w, zld_w, zin_w, zcpg_w, znr_w, List.getElem?_cons_zero, List.getElem?_cons_succ, List.set_cons_zero, List.set_cons_succ, List.length_cons, List.length_nil, Nat.reduceLT, Nat.reduceLeDiff, Nat.reduceAdd, Nat.reduceSub, Nat.reduceMul, Nat.reduceEqDiff, Nat.reduceBEq, ↓reduceIte, decide_eq_true_eq, decide_eq_false_iff_not, Bool.and_eq_true, Bool.true_and, Bool.and_true, Bool.decide_and, decide_true, decide_false, Bool.true_eq_false, Bool.false_eq_true, Option.toList_some, Option.toList_none, List.cons_append, List.nil_append, true_and, and_true, and_self, not_true_eq_false, not_false_eq_true, forall_const, false_implies, implies_true, Nat.le_refl, ne_eq, reduceCtorEq, Bool.not_eq_true, eq_self, zsh, zb_rz, zb_ne, zb_eq, qem, true_implies, Nat.zero_le, Bool.or_eq_true, or_true, true_or, false_or, or_false, h1, h2, f1, f4, b1, b2, b3, b4, b5, e1, e2, lg_self]
  exact hd _ hI2
/-- X6_see -/
theorem ql_23 (hp : ∀ (a1 : Int32), qPr Inv 77 169 [.int a1]) (hk : k < 512) (hi : qIn (nI (6 * k)) L) (h1 : w.1 1021 = xs) (h2 : (w.1 1022 0).toNatClampNeg = L) (h3 : w.2.2.2 = 111) (hI : Inv k w) (hd : qHd L xs Inv Q k) : zWP (zcl 60) 213 (759, [some (.ref 1021), some (.ref 0), some (.ref 75), some (.int (nI (6 * k)))], [], w) Q := by
  obtain ⟨I, J, R, nc⟩ := w
  dsimp only at h1 h2 h3
  subst h3
  have b1 := hi 1 (by decide)
  have b2 := hi 2 (by decide)
  have b3 := hi 3 (by decide)
  have b4 := hi 4 (by decide)
  have b5 := hi 5 (by decide)
  rw [show nI 1 = 1 from rfl] at b1
  rw [show nI 2 = 2 from rfl] at b2
  rw [show nI 3 = 3 from rfl] at b3
  rw [show nI 4 = 4 from rfl] at b4
  rw [show nI 5 = 5 from rfl] at b5
  obtain ⟨r, ⟨I1, J1, R1, n1⟩, w2, e1, e2, ⟨f1, f2, f3⟩, hI2⟩ := hp (xs ((nI (6 * k)) + 1).toNatClampNeg) k _ hk hI
  dsimp only at f1 f2 f3
  subst f3
  rw [h1] at f1
  have f4 : (I1 1022 0).toNatClampNeg = L := by rw [f2]; exact h2
  refine zg_wp 90 _ ?_
  simp only [zpr_213, zhd_213, zp213, zh213, zml_213, o_bad, o_push, o_iload, o_lload, o_aload, o_istore, o_astore, o_lstore, o_iinc, o_ii, o_dv, o_i, o_ll, o_lshl, o_lcmp, o_i2l, o_l2i, o_dup, o_dup2, o_pop, o_goto, o_if, o_ic, o_sw, o_ireturn, o_nreturn, o_lreturn, o_return, o_min, o_max, o_geti, o_getr, o_puti, o_putz, o_putr, o_gets, o_iald, o_lald, o_aald, o_iast, o_last, o_aast, o_alen, o_new, o_newa, o_multi, o_call, o_scall, o_oinit, o_copyi, o_copyl, z_eq, z_ne, z_lt, z_ge, z_gt, z_le, z_ceq, z_cne, z_clt, z_cge, z_cgt, z_cle, z_rz, z_rb, z_rc, zg, zwp1, zsws, zent, zpad, zla, zlg, zpop, zrv, zc1, zmk, zob_w, zaw_w, zar_w, zln_w, zld_w, zin_w, zcpg_w, znr_w, List.getElem?_cons_zero, List.getElem?_cons_succ, List.set_cons_zero, List.set_cons_succ, List.length_cons, List.length_nil, Nat.reduceLT, Nat.reduceLeDiff, Nat.reduceAdd, Nat.reduceSub, Nat.reduceMul, Nat.reduceEqDiff, Nat.reduceBEq, ↓reduceIte, decide_eq_true_eq, decide_eq_false_iff_not, Bool.and_eq_true, Bool.true_and, Bool.and_true, Bool.decide_and, decide_true, decide_false, Bool.true_eq_false, Bool.false_eq_true, Option.toList_some, Option.toList_none, List.cons_append, List.nil_append, true_and, and_true, and_self, not_true_eq_false, not_false_eq_true, forall_const, false_implies, implies_true, Nat.le_refl, ne_eq, reduceCtorEq, Bool.not_eq_true, eq_self, zsh, zb_rz, zb_ne, zb_eq, qem, true_implies, Nat.zero_le, Bool.or_eq_true, or_true, true_or, false_or, or_false, h1, h2, f1, f4, b1, b2, b3, b4, b5, e1, e2, lg_self]
  exact hd _ hI2
/-- X6_was -/
theorem ql_24 (hp : ∀ (a1 : Int32) (a2 : Int32), qPr Inv 78 171 [.int a1, .int a2]) (hk : k < 512) (hi : qIn (nI (6 * k)) L) (h1 : w.1 1021 = xs) (h2 : (w.1 1022 0).toNatClampNeg = L) (h3 : w.2.2.2 = 111) (hI : Inv k w) (hd : qHd L xs Inv Q k) : zWP (zcl 60) 213 (782, [some (.ref 1021), some (.ref 0), some (.ref 75), some (.int (nI (6 * k)))], [], w) Q := by
  obtain ⟨I, J, R, nc⟩ := w
  dsimp only at h1 h2 h3
  subst h3
  have b1 := hi 1 (by decide)
  have b2 := hi 2 (by decide)
  have b3 := hi 3 (by decide)
  have b4 := hi 4 (by decide)
  have b5 := hi 5 (by decide)
  rw [show nI 1 = 1 from rfl] at b1
  rw [show nI 2 = 2 from rfl] at b2
  rw [show nI 3 = 3 from rfl] at b3
  rw [show nI 4 = 4 from rfl] at b4
  rw [show nI 5 = 5 from rfl] at b5
  obtain ⟨r, ⟨I1, J1, R1, n1⟩, w2, e1, e2, ⟨f1, f2, f3⟩, hI2⟩ := hp (xs ((nI (6 * k)) + 1).toNatClampNeg) (xs ((nI (6 * k)) + 2).toNatClampNeg) k _ hk hI
  dsimp only at f1 f2 f3
  subst f3
  rw [h1] at f1
  have f4 : (I1 1022 0).toNatClampNeg = L := by rw [f2]; exact h2
  refine zg_wp 90 _ ?_
  simp only [zpr_213, zhd_213, zp213, zh213, zml_213, o_bad, o_push, o_iload, o_lload, o_aload, o_istore, o_astore, o_lstore, o_iinc, o_ii, o_dv, o_i, o_ll, o_lshl, o_lcmp, o_i2l, o_l2i, o_dup, o_dup2, o_pop, o_goto, o_if, o_ic, o_sw, o_ireturn, o_nreturn, o_lreturn, o_return, o_min, o_max, o_geti, o_getr, o_puti, o_putz, o_putr, o_gets, o_iald, o_lald, o_aald, o_iast, o_last, o_aast, o_alen, o_new, o_newa, o_multi, o_call, o_scall, o_oinit, o_copyi, o_copyl, z_eq, z_ne, z_lt, z_ge, z_gt, z_le, z_ceq, z_cne, z_clt, z_cge, z_cgt, z_cle, z_rz, z_rb, z_rc, zg, zwp1, zsws, zent, zpad, zla, zlg, zpop, zrv, zc1, zmk, zob_w, zaw_w, zar_w, zln_w, zld_w, zin_w, zcpg_w, znr_w, List.getElem?_cons_zero, List.getElem?_cons_succ, List.set_cons_zero, List.set_cons_succ, List.length_cons, List.length_nil, Nat.reduceLT, Nat.reduceLeDiff, Nat.reduceAdd, Nat.reduceSub, Nat.reduceMul, Nat.reduceEqDiff, Nat.reduceBEq, ↓reduceIte, decide_eq_true_eq, decide_eq_false_iff_not, Bool.and_eq_true, Bool.true_and, Bool.and_true, Bool.decide_and, decide_true, decide_false, Bool.true_eq_false, Bool.false_eq_true, Option.toList_some, Option.toList_none, List.cons_append, List.nil_append, true_and, and_true, and_self, not_true_eq_false, not_false_eq_true, forall_const, false_implies, implies_true, Nat.le_refl, ne_eq, reduceCtorEq, Bool.not_eq_true, eq_self, zsh, zb_rz, zb_ne, zb_eq, qem, true_implies, Nat.zero_le, Bool.or_eq_true, or_true, true_or, false_or, or_false, h1, h2, f1, f4, b1, b2, b3, b4, b5, e1, e2, lg_self]
  exact hd _ hI2
/-- X6_now -/
theorem ql_25 (hp : qPr Inv 79 172 []) (hk : k < 512) (hi : qIn (nI (6 * k)) L) (h1 : w.1 1021 = xs) (h2 : (w.1 1022 0).toNatClampNeg = L) (h3 : w.2.2.2 = 111) (hI : Inv k w) (hd : qHd L xs Inv Q k) : zWP (zcl 60) 213 (815, [some (.ref 1021), some (.ref 0), some (.ref 75), some (.int (nI (6 * k)))], [], w) Q := by
  obtain ⟨I, J, R, nc⟩ := w
  dsimp only at h1 h2 h3
  subst h3
  have b1 := hi 1 (by decide)
  have b2 := hi 2 (by decide)
  have b3 := hi 3 (by decide)
  have b4 := hi 4 (by decide)
  have b5 := hi 5 (by decide)
  rw [show nI 1 = 1 from rfl] at b1
  rw [show nI 2 = 2 from rfl] at b2
  rw [show nI 3 = 3 from rfl] at b3
  rw [show nI 4 = 4 from rfl] at b4
  rw [show nI 5 = 5 from rfl] at b5
  obtain ⟨r, ⟨I1, J1, R1, n1⟩, w2, e1, e2, ⟨f1, f2, f3⟩, hI2⟩ := hp k _ hk hI
  dsimp only at f1 f2 f3
  subst f3
  rw [h1] at f1
  have f4 : (I1 1022 0).toNatClampNeg = L := by rw [f2]; exact h2
  refine zg_wp 90 _ ?_
  simp only [zpr_213, zhd_213, zp213, zh213, zml_213, o_bad, o_push, o_iload, o_lload, o_aload, o_istore, o_astore, o_lstore, o_iinc, o_ii, o_dv, o_i, o_ll, o_lshl, o_lcmp, o_i2l, o_l2i, o_dup, o_dup2, o_pop, o_goto, o_if, o_ic, o_sw, o_ireturn, o_nreturn, o_lreturn, o_return, o_min, o_max, o_geti, o_getr, o_puti, o_putz, o_putr, o_gets, o_iald, o_lald, o_aald, o_iast, o_last, o_aast, o_alen, o_new, o_newa, o_multi, o_call, o_scall, o_oinit, o_copyi, o_copyl, z_eq, z_ne, z_lt, z_ge, z_gt, z_le, z_ceq, z_cne, z_clt, z_cge, z_cgt, z_cle, z_rz, z_rb, z_rc, zg, zwp1, zsws, zent, zpad, zla, zlg, zpop, zrv, zc1, zmk, zob_w, zaw_w, zar_w, zln_w, zld_w, zin_w, zcpg_w, znr_w, List.getElem?_cons_zero, List.getElem?_cons_succ, List.set_cons_zero, List.set_cons_succ, List.length_cons, List.length_nil, Nat.reduceLT, Nat.reduceLeDiff, Nat.reduceAdd, Nat.reduceSub, Nat.reduceMul, Nat.reduceEqDiff, Nat.reduceBEq, ↓reduceIte, decide_eq_true_eq, decide_eq_false_iff_not, Bool.and_eq_true, Bool.true_and, Bool.and_true, Bool.decide_and, decide_true, decide_false, Bool.true_eq_false, Bool.false_eq_true, Option.toList_some, Option.toList_none, List.cons_append, List.nil_append, true_and, and_true, and_self, not_true_eq_false, not_false_eq_true, forall_const, false_implies, implies_true, Nat.le_refl, ne_eq, reduceCtorEq, Bool.not_eq_true, eq_self, zsh, zb_rz, zb_ne, zb_eq, qem, true_implies, Nat.zero_le, Bool.or_eq_true, or_true, true_or, false_or, or_false, h1, h2, f1, f4, b1, b2, b3, b4, b5, e1, e2, lg_self]
  exact hd _ hI2
/-- X6_odds -/
theorem ql_26 (hp : ∀ (a1 : Int32) (a2 : Int32), qPl Inv 80 175 [.int a1, .int a2]) (hk : k < 512) (hi : qIn (nI (6 * k)) L) (h1 : w.1 1021 = xs) (h2 : (w.1 1022 0).toNatClampNeg = L) (h3 : w.2.2.2 = 111) (hI : Inv k w) (hd : qHd L xs Inv Q k) : zWP (zcl 60) 213 (828, [some (.ref 1021), some (.ref 0), some (.ref 75), some (.int (nI (6 * k)))], [], w) Q := by
  obtain ⟨I, J, R, nc⟩ := w
  dsimp only at h1 h2 h3
  subst h3
  have b1 := hi 1 (by decide)
  have b2 := hi 2 (by decide)
  have b3 := hi 3 (by decide)
  have b4 := hi 4 (by decide)
  have b5 := hi 5 (by decide)
  rw [show nI 1 = 1 from rfl] at b1
  rw [show nI 2 = 2 from rfl] at b2
  rw [show nI 3 = 3 from rfl] at b3
  rw [show nI 4 = 4 from rfl] at b4
  rw [show nI 5 = 5 from rfl] at b5
  obtain ⟨r, ⟨I1, J1, R1, n1⟩, w2, e1, e2, ⟨f1, f2, f3⟩, hI2⟩ := hp (xs ((nI (6 * k)) + 1).toNatClampNeg) (xs ((nI (6 * k)) + 2).toNatClampNeg) k _ hk hI
  dsimp only at f1 f2 f3
  subst f3
  rw [h1] at f1
  have f4 : (I1 1022 0).toNatClampNeg = L := by rw [f2]; exact h2
  refine zg_wp 90 _ ?_
  simp only [zpr_213, zhd_213, zp213, zh213, zml_213, o_bad, o_push, o_iload, o_lload, o_aload, o_istore, o_astore, o_lstore, o_iinc, o_ii, o_dv, o_i, o_ll, o_lshl, o_lcmp, o_i2l, o_l2i, o_dup, o_dup2, o_pop, o_goto, o_if, o_ic, o_sw, o_ireturn, o_nreturn, o_lreturn, o_return, o_min, o_max, o_geti, o_getr, o_puti, o_putz, o_putr, o_gets, o_iald, o_lald, o_aald, o_iast, o_last, o_aast, o_alen, o_new, o_newa, o_multi, o_call, o_scall, o_oinit, o_copyi, o_copyl, z_eq, z_ne, z_lt, z_ge, z_gt, z_le, z_ceq, z_cne, z_clt, z_cge, z_cgt, z_cle, z_rz, z_rb, z_rc, zg, zwp1, zsws, zent, zpad, zla, zlg, zpop, zrv, zc1, zmk, zob_w, zaw_w, zar_w, zln_w, zld_w, zin_w, zcpg_w, znr_w, List.getElem?_cons_zero, List.getElem?_cons_succ, List.set_cons_zero, List.set_cons_succ, List.length_cons, List.length_nil, Nat.reduceLT, Nat.reduceLeDiff, Nat.reduceAdd, Nat.reduceSub, Nat.reduceMul, Nat.reduceEqDiff, Nat.reduceBEq, ↓reduceIte, decide_eq_true_eq, decide_eq_false_iff_not, Bool.and_eq_true, Bool.true_and, Bool.and_true, Bool.decide_and, decide_true, decide_false, Bool.true_eq_false, Bool.false_eq_true, Option.toList_some, Option.toList_none, List.cons_append, List.nil_append, true_and, and_true, and_self, not_true_eq_false, not_false_eq_true, forall_const, false_implies, implies_true, Nat.le_refl, ne_eq, reduceCtorEq, Bool.not_eq_true, eq_self, zsh, zb_rz, zb_ne, zb_eq, qem, true_implies, Nat.zero_le, Bool.or_eq_true, or_true, true_or, false_or, or_false, h1, h2, f1, f4, b1, b2, b3, b4, b5, e1, e2, lg_self]
  exact hd _ hI2
/-- X6_mean -/
theorem ql_27 (hp : ∀ (a1 : Int32) (a2 : Int32), qPl Inv 81 176 [.int a1, .int a2]) (hk : k < 512) (hi : qIn (nI (6 * k)) L) (h1 : w.1 1021 = xs) (h2 : (w.1 1022 0).toNatClampNeg = L) (h3 : w.2.2.2 = 111) (hI : Inv k w) (hd : qHd L xs Inv Q k) : zWP (zcl 60) 213 (862, [some (.ref 1021), some (.ref 0), some (.ref 75), some (.int (nI (6 * k)))], [], w) Q := by
  obtain ⟨I, J, R, nc⟩ := w
  dsimp only at h1 h2 h3
  subst h3
  have b1 := hi 1 (by decide)
  have b2 := hi 2 (by decide)
  have b3 := hi 3 (by decide)
  have b4 := hi 4 (by decide)
  have b5 := hi 5 (by decide)
  rw [show nI 1 = 1 from rfl] at b1
  rw [show nI 2 = 2 from rfl] at b2
  rw [show nI 3 = 3 from rfl] at b3
  rw [show nI 4 = 4 from rfl] at b4
  rw [show nI 5 = 5 from rfl] at b5
  obtain ⟨r, ⟨I1, J1, R1, n1⟩, w2, e1, e2, ⟨f1, f2, f3⟩, hI2⟩ := hp (xs ((nI (6 * k)) + 1).toNatClampNeg) (xs ((nI (6 * k)) + 2).toNatClampNeg) k _ hk hI
  dsimp only at f1 f2 f3
  subst f3
  rw [h1] at f1
  have f4 : (I1 1022 0).toNatClampNeg = L := by rw [f2]; exact h2
  refine zg_wp 90 _ ?_
  simp only [zpr_213, zhd_213, zp213, zh213, zml_213, o_bad, o_push, o_iload, o_lload, o_aload, o_istore, o_astore, o_lstore, o_iinc, o_ii, o_dv, o_i, o_ll, o_lshl, o_lcmp, o_i2l, o_l2i, o_dup, o_dup2, o_pop, o_goto, o_if, o_ic, o_sw, o_ireturn, o_nreturn, o_lreturn, o_return, o_min, o_max, o_geti, o_getr, o_puti, o_putz, o_putr, o_gets, o_iald, o_lald, o_aald, o_iast, o_last, o_aast, o_alen, o_new, o_newa, o_multi, o_call, o_scall, o_oinit, o_copyi, o_copyl, z_eq, z_ne, z_lt, z_ge, z_gt, z_le, z_ceq, z_cne, z_clt, z_cge, z_cgt, z_cle, z_rz, z_rb, z_rc, zg, zwp1, zsws, zent, zpad, zla, zlg, zpop, zrv, zc1, zmk, zob_w, zaw_w, zar_w, zln_w, zld_w, zin_w, zcpg_w, znr_w, List.getElem?_cons_zero, List.getElem?_cons_succ, List.set_cons_zero, List.set_cons_succ, List.length_cons, List.length_nil, Nat.reduceLT, Nat.reduceLeDiff, Nat.reduceAdd, Nat.reduceSub, Nat.reduceMul, Nat.reduceEqDiff, Nat.reduceBEq, ↓reduceIte, decide_eq_true_eq, decide_eq_false_iff_not, Bool.and_eq_true, Bool.true_and, Bool.and_true, Bool.decide_and, decide_true, decide_false, Bool.true_eq_false, Bool.false_eq_true, Option.toList_some, Option.toList_none, List.cons_append, List.nil_append, true_and, and_true, and_self, not_true_eq_false, not_false_eq_true, forall_const, false_implies, implies_true, Nat.le_refl, ne_eq, reduceCtorEq, Bool.not_eq_true, eq_self, zsh, zb_rz, zb_ne, zb_eq, qem, true_implies, Nat.zero_le, Bool.or_eq_true, or_true, true_or, false_or, or_false, h1, h2, f1, f4, b1, b2, b3, b4, b5, e1, e2, lg_self]
  exact hd _ hI2
/-- X6_plan -/
theorem ql_28 (hp : ∀ (a1 : Int32), qPr Inv 82 177 [.int a1]) (hk : k < 512) (hi : qIn (nI (6 * k)) L) (h1 : w.1 1021 = xs) (h2 : (w.1 1022 0).toNatClampNeg = L) (h3 : w.2.2.2 = 111) (hI : Inv k w) (hd : qHd L xs Inv Q k) : zWP (zcl 60) 213 (896, [some (.ref 1021), some (.ref 0), some (.ref 75), some (.int (nI (6 * k)))], [], w) Q := by
  obtain ⟨I, J, R, nc⟩ := w
  dsimp only at h1 h2 h3
  subst h3
  have b1 := hi 1 (by decide)
  have b2 := hi 2 (by decide)
  have b3 := hi 3 (by decide)
  have b4 := hi 4 (by decide)
  have b5 := hi 5 (by decide)
  rw [show nI 1 = 1 from rfl] at b1
  rw [show nI 2 = 2 from rfl] at b2
  rw [show nI 3 = 3 from rfl] at b3
  rw [show nI 4 = 4 from rfl] at b4
  rw [show nI 5 = 5 from rfl] at b5
  obtain ⟨r, ⟨I1, J1, R1, n1⟩, w2, e1, e2, ⟨f1, f2, f3⟩, hI2⟩ := hp (xs ((nI (6 * k)) + 1).toNatClampNeg) k _ hk hI
  dsimp only at f1 f2 f3
  subst f3
  rw [h1] at f1
  have f4 : (I1 1022 0).toNatClampNeg = L := by rw [f2]; exact h2
  refine zg_wp 90 _ ?_
  simp only [zpr_213, zhd_213, zp213, zh213, zml_213, o_bad, o_push, o_iload, o_lload, o_aload, o_istore, o_astore, o_lstore, o_iinc, o_ii, o_dv, o_i, o_ll, o_lshl, o_lcmp, o_i2l, o_l2i, o_dup, o_dup2, o_pop, o_goto, o_if, o_ic, o_sw, o_ireturn, o_nreturn, o_lreturn, o_return, o_min, o_max, o_geti, o_getr, o_puti, o_putz, o_putr, o_gets, o_iald, o_lald, o_aald, o_iast, o_last, o_aast, o_alen, o_new, o_newa, o_multi, o_call, o_scall, o_oinit, o_copyi, o_copyl, z_eq, z_ne, z_lt, z_ge, z_gt, z_le, z_ceq, z_cne, z_clt, z_cge, z_cgt, z_cle, z_rz, z_rb, z_rc, zg, zwp1, zsws, zent, zpad, zla, zlg, zpop, zrv, zc1, zmk, zob_w, zaw_w, zar_w, zln_w, zld_w, zin_w, zcpg_w, znr_w, List.getElem?_cons_zero, List.getElem?_cons_succ, List.set_cons_zero, List.set_cons_succ, List.length_cons, List.length_nil, Nat.reduceLT, Nat.reduceLeDiff, Nat.reduceAdd, Nat.reduceSub, Nat.reduceMul, Nat.reduceEqDiff, Nat.reduceBEq, ↓reduceIte, decide_eq_true_eq, decide_eq_false_iff_not, Bool.and_eq_true, Bool.true_and, Bool.and_true, Bool.decide_and, decide_true, decide_false, Bool.true_eq_false, Bool.false_eq_true, Option.toList_some, Option.toList_none, List.cons_append, List.nil_append, true_and, and_true, and_self, not_true_eq_false, not_false_eq_true, forall_const, false_implies, implies_true, Nat.le_refl, ne_eq, reduceCtorEq, Bool.not_eq_true, eq_self, zsh, zb_rz, zb_ne, zb_eq, qem, true_implies, Nat.zero_le, Bool.or_eq_true, or_true, true_or, false_or, or_false, h1, h2, f1, f4, b1, b2, b3, b4, b5, e1, e2, lg_self]
  exact hd _ hI2
/-- X6_planned -/
theorem ql_29 (hp : ∀ (a1 : Int32), qPr Inv 83 178 [.int a1]) (hk : k < 512) (hi : qIn (nI (6 * k)) L) (h1 : w.1 1021 = xs) (h2 : (w.1 1022 0).toNatClampNeg = L) (h3 : w.2.2.2 = 111) (hI : Inv k w) (hd : qHd L xs Inv Q k) : zWP (zcl 60) 213 (919, [some (.ref 1021), some (.ref 0), some (.ref 75), some (.int (nI (6 * k)))], [], w) Q := by
  obtain ⟨I, J, R, nc⟩ := w
  dsimp only at h1 h2 h3
  subst h3
  have b1 := hi 1 (by decide)
  have b2 := hi 2 (by decide)
  have b3 := hi 3 (by decide)
  have b4 := hi 4 (by decide)
  have b5 := hi 5 (by decide)
  rw [show nI 1 = 1 from rfl] at b1
  rw [show nI 2 = 2 from rfl] at b2
  rw [show nI 3 = 3 from rfl] at b3
  rw [show nI 4 = 4 from rfl] at b4
  rw [show nI 5 = 5 from rfl] at b5
  obtain ⟨r, ⟨I1, J1, R1, n1⟩, w2, e1, e2, ⟨f1, f2, f3⟩, hI2⟩ := hp (xs ((nI (6 * k)) + 1).toNatClampNeg) k _ hk hI
  dsimp only at f1 f2 f3
  subst f3
  rw [h1] at f1
  have f4 : (I1 1022 0).toNatClampNeg = L := by rw [f2]; exact h2
  refine zg_wp 90 _ ?_
  simp only [zpr_213, zhd_213, zp213, zh213, zml_213, o_bad, o_push, o_iload, o_lload, o_aload, o_istore, o_astore, o_lstore, o_iinc, o_ii, o_dv, o_i, o_ll, o_lshl, o_lcmp, o_i2l, o_l2i, o_dup, o_dup2, o_pop, o_goto, o_if, o_ic, o_sw, o_ireturn, o_nreturn, o_lreturn, o_return, o_min, o_max, o_geti, o_getr, o_puti, o_putz, o_putr, o_gets, o_iald, o_lald, o_aald, o_iast, o_last, o_aast, o_alen, o_new, o_newa, o_multi, o_call, o_scall, o_oinit, o_copyi, o_copyl, z_eq, z_ne, z_lt, z_ge, z_gt, z_le, z_ceq, z_cne, z_clt, z_cge, z_cgt, z_cle, z_rz, z_rb, z_rc, zg, zwp1, zsws, zent, zpad, zla, zlg, zpop, zrv, zc1, zmk, zob_w, zaw_w, zar_w, zln_w, zld_w, zin_w, zcpg_w, znr_w, List.getElem?_cons_zero, List.getElem?_cons_succ, List.set_cons_zero, List.set_cons_succ, List.length_cons, List.length_nil, Nat.reduceLT, Nat.reduceLeDiff, Nat.reduceAdd, Nat.reduceSub, Nat.reduceMul, Nat.reduceEqDiff, Nat.reduceBEq, ↓reduceIte, decide_eq_true_eq, decide_eq_false_iff_not, Bool.and_eq_true, Bool.true_and, Bool.and_true, Bool.decide_and, decide_true, decide_false, Bool.true_eq_false, Bool.false_eq_true, Option.toList_some, Option.toList_none, List.cons_append, List.nil_append, true_and, and_true, and_self, not_true_eq_false, not_false_eq_true, forall_const, false_implies, implies_true, Nat.le_refl, ne_eq, reduceCtorEq, Bool.not_eq_true, eq_self, zsh, zb_rz, zb_ne, zb_eq, qem, true_implies, Nat.zero_le, Bool.or_eq_true, or_true, true_or, false_or, or_false, h1, h2, f1, f4, b1, b2, b3, b4, b5, e1, e2, lg_self]
  exact hd _ hI2
/-- X6_book -/
theorem ql_30 (hp : ∀ (a1 : Int32) (a2 : Int32), qPr Inv 84 179 [.int a1, .int a2]) (hk : k < 512) (hi : qIn (nI (6 * k)) L) (h1 : w.1 1021 = xs) (h2 : (w.1 1022 0).toNatClampNeg = L) (h3 : w.2.2.2 = 111) (hI : Inv k w) (hd : qHd L xs Inv Q k) : zWP (zcl 60) 213 (942, [some (.ref 1021), some (.ref 0), some (.ref 75), some (.int (nI (6 * k)))], [], w) Q := by
  obtain ⟨I, J, R, nc⟩ := w
  dsimp only at h1 h2 h3
  subst h3
  have b1 := hi 1 (by decide)
  have b2 := hi 2 (by decide)
  have b3 := hi 3 (by decide)
  have b4 := hi 4 (by decide)
  have b5 := hi 5 (by decide)
  rw [show nI 1 = 1 from rfl] at b1
  rw [show nI 2 = 2 from rfl] at b2
  rw [show nI 3 = 3 from rfl] at b3
  rw [show nI 4 = 4 from rfl] at b4
  rw [show nI 5 = 5 from rfl] at b5
  obtain ⟨r, ⟨I1, J1, R1, n1⟩, w2, e1, e2, ⟨f1, f2, f3⟩, hI2⟩ := hp (xs ((nI (6 * k)) + 1).toNatClampNeg) (xs ((nI (6 * k)) + 2).toNatClampNeg) k _ hk hI
  dsimp only at f1 f2 f3
  subst f3
  rw [h1] at f1
  have f4 : (I1 1022 0).toNatClampNeg = L := by rw [f2]; exact h2
  refine zg_wp 90 _ ?_
  simp only [zpr_213, zhd_213, zp213, zh213, zml_213, o_bad, o_push, o_iload, o_lload, o_aload, o_istore, o_astore, o_lstore, o_iinc, o_ii, o_dv, o_i, o_ll, o_lshl, o_lcmp, o_i2l, o_l2i, o_dup, o_dup2, o_pop, o_goto, o_if, o_ic, o_sw, o_ireturn, o_nreturn, o_lreturn, o_return, o_min, o_max, o_geti, o_getr, o_puti, o_putz, o_putr, o_gets, o_iald, o_lald, o_aald, o_iast, o_last, o_aast, o_alen, o_new, o_newa, o_multi, o_call, o_scall, o_oinit, o_copyi, o_copyl, z_eq, z_ne, z_lt, z_ge, z_gt, z_le, z_ceq, z_cne, z_clt, z_cge, z_cgt, z_cle, z_rz, z_rb, z_rc, zg, zwp1, zsws, zent, zpad, zla, zlg, zpop, zrv, zc1, zmk, zob_w, zaw_w, zar_w, zln_w, zld_w, zin_w, zcpg_w, znr_w, List.getElem?_cons_zero, List.getElem?_cons_succ, List.set_cons_zero, List.set_cons_succ, List.length_cons, List.length_nil, Nat.reduceLT, Nat.reduceLeDiff, Nat.reduceAdd, Nat.reduceSub, Nat.reduceMul, Nat.reduceEqDiff, Nat.reduceBEq, ↓reduceIte, decide_eq_true_eq, decide_eq_false_iff_not, Bool.and_eq_true, Bool.true_and, Bool.and_true, Bool.decide_and, decide_true, decide_false, Bool.true_eq_false, Bool.false_eq_true, Option.toList_some, Option.toList_none, List.cons_append, List.nil_append, true_and, and_true, and_self, not_true_eq_false, not_false_eq_true, forall_const, false_implies, implies_true, Nat.le_refl, ne_eq, reduceCtorEq, Bool.not_eq_true, eq_self, zsh, zb_rz, zb_ne, zb_eq, qem, true_implies, Nat.zero_le, Bool.or_eq_true, or_true, true_or, false_or, or_false, h1, h2, f1, f4, b1, b2, b3, b4, b5, e1, e2, lg_self]
  exact hd _ hI2
/-- X6_looked -/
theorem ql_31 (hp : qPr Inv 85 180 []) (hk : k < 512) (hi : qIn (nI (6 * k)) L) (h1 : w.1 1021 = xs) (h2 : (w.1 1022 0).toNatClampNeg = L) (h3 : w.2.2.2 = 111) (hI : Inv k w) (hd : qHd L xs Inv Q k) : zWP (zcl 60) 213 (975, [some (.ref 1021), some (.ref 0), some (.ref 75), some (.int (nI (6 * k)))], [], w) Q := by
  obtain ⟨I, J, R, nc⟩ := w
  dsimp only at h1 h2 h3
  subst h3
  have b1 := hi 1 (by decide)
  have b2 := hi 2 (by decide)
  have b3 := hi 3 (by decide)
  have b4 := hi 4 (by decide)
  have b5 := hi 5 (by decide)
  rw [show nI 1 = 1 from rfl] at b1
  rw [show nI 2 = 2 from rfl] at b2
  rw [show nI 3 = 3 from rfl] at b3
  rw [show nI 4 = 4 from rfl] at b4
  rw [show nI 5 = 5 from rfl] at b5
  obtain ⟨r, ⟨I1, J1, R1, n1⟩, w2, e1, e2, ⟨f1, f2, f3⟩, hI2⟩ := hp k _ hk hI
  dsimp only at f1 f2 f3
  subst f3
  rw [h1] at f1
  have f4 : (I1 1022 0).toNatClampNeg = L := by rw [f2]; exact h2
  refine zg_wp 90 _ ?_
  simp only [zpr_213, zhd_213, zp213, zh213, zml_213, o_bad, o_push, o_iload, o_lload, o_aload, o_istore, o_astore, o_lstore, o_iinc, o_ii, o_dv, o_i, o_ll, o_lshl, o_lcmp, o_i2l, o_l2i, o_dup, o_dup2, o_pop, o_goto, o_if, o_ic, o_sw, o_ireturn, o_nreturn, o_lreturn, o_return, o_min, o_max, o_geti, o_getr, o_puti, o_putz, o_putr, o_gets, o_iald, o_lald, o_aald, o_iast, o_last, o_aast, o_alen, o_new, o_newa, o_multi, o_call, o_scall, o_oinit, o_copyi, o_copyl, z_eq, z_ne, z_lt, z_ge, z_gt, z_le, z_ceq, z_cne, z_clt, z_cge, z_cgt, z_cle, z_rz, z_rb, z_rc, zg, zwp1, zsws, zent, zpad, zla, zlg, zpop, zrv, zc1, zmk, zob_w, zaw_w, zar_w, zln_w, zld_w, zin_w, zcpg_w, znr_w, List.getElem?_cons_zero, List.getElem?_cons_succ, List.set_cons_zero, List.set_cons_succ, List.length_cons, List.length_nil, Nat.reduceLT, Nat.reduceLeDiff, Nat.reduceAdd, Nat.reduceSub, Nat.reduceMul, Nat.reduceEqDiff, Nat.reduceBEq, ↓reduceIte, decide_eq_true_eq, decide_eq_false_iff_not, Bool.and_eq_true, Bool.true_and, Bool.and_true, Bool.decide_and, decide_true, decide_false, Bool.true_eq_false, Bool.false_eq_true, Option.toList_some, Option.toList_none, List.cons_append, List.nil_append, true_and, and_true, and_self, not_true_eq_false, not_false_eq_true, forall_const, false_implies, implies_true, Nat.le_refl, ne_eq, reduceCtorEq, Bool.not_eq_true, eq_self, zsh, zb_rz, zb_ne, zb_eq, qem, true_implies, Nat.zero_le, Bool.or_eq_true, or_true, true_or, false_or, or_false, h1, h2, f1, f4, b1, b2, b3, b4, b5, e1, e2, lg_self]
  exact hd _ hI2
/-- X6_judge -/
theorem ql_32 (hp : ∀ (a1 : Int32) (a2 : Int32), qPr Inv 86 181 [.int a1, .int a2]) (hk : k < 512) (hi : qIn (nI (6 * k)) L) (h1 : w.1 1021 = xs) (h2 : (w.1 1022 0).toNatClampNeg = L) (h3 : w.2.2.2 = 111) (hI : Inv k w) (hd : qHd L xs Inv Q k) : zWP (zcl 60) 213 (988, [some (.ref 1021), some (.ref 0), some (.ref 75), some (.int (nI (6 * k)))], [], w) Q := by
  obtain ⟨I, J, R, nc⟩ := w
  dsimp only at h1 h2 h3
  subst h3
  have b1 := hi 1 (by decide)
  have b2 := hi 2 (by decide)
  have b3 := hi 3 (by decide)
  have b4 := hi 4 (by decide)
  have b5 := hi 5 (by decide)
  rw [show nI 1 = 1 from rfl] at b1
  rw [show nI 2 = 2 from rfl] at b2
  rw [show nI 3 = 3 from rfl] at b3
  rw [show nI 4 = 4 from rfl] at b4
  rw [show nI 5 = 5 from rfl] at b5
  obtain ⟨r, ⟨I1, J1, R1, n1⟩, w2, e1, e2, ⟨f1, f2, f3⟩, hI2⟩ := hp (xs ((nI (6 * k)) + 1).toNatClampNeg) (xs ((nI (6 * k)) + 2).toNatClampNeg) k _ hk hI
  dsimp only at f1 f2 f3
  subst f3
  rw [h1] at f1
  have f4 : (I1 1022 0).toNatClampNeg = L := by rw [f2]; exact h2
  refine zg_wp 90 _ ?_
  simp only [zpr_213, zhd_213, zp213, zh213, zml_213, o_bad, o_push, o_iload, o_lload, o_aload, o_istore, o_astore, o_lstore, o_iinc, o_ii, o_dv, o_i, o_ll, o_lshl, o_lcmp, o_i2l, o_l2i, o_dup, o_dup2, o_pop, o_goto, o_if, o_ic, o_sw, o_ireturn, o_nreturn, o_lreturn, o_return, o_min, o_max, o_geti, o_getr, o_puti, o_putz, o_putr, o_gets, o_iald, o_lald, o_aald, o_iast, o_last, o_aast, o_alen, o_new, o_newa, o_multi, o_call, o_scall, o_oinit, o_copyi, o_copyl, z_eq, z_ne, z_lt, z_ge, z_gt, z_le, z_ceq, z_cne, z_clt, z_cge, z_cgt, z_cle, z_rz, z_rb, z_rc, zg, zwp1, zsws, zent, zpad, zla, zlg, zpop, zrv, zc1, zmk, zob_w, zaw_w, zar_w, zln_w, zld_w, zin_w, zcpg_w, znr_w, List.getElem?_cons_zero, List.getElem?_cons_succ, List.set_cons_zero, List.set_cons_succ, List.length_cons, List.length_nil, Nat.reduceLT, Nat.reduceLeDiff, Nat.reduceAdd, Nat.reduceSub, Nat.reduceMul, Nat.reduceEqDiff, Nat.reduceBEq, ↓reduceIte, decide_eq_true_eq, decide_eq_false_iff_not, Bool.and_eq_true, Bool.true_and, Bool.and_true, Bool.decide_and, decide_true, decide_false, Bool.true_eq_false, Bool.false_eq_true, Option.toList_some, Option.toList_none, List.cons_append, List.nil_append, true_and, and_true, and_self, not_true_eq_false, not_false_eq_true, forall_const, false_implies, implies_true, Nat.le_refl, ne_eq, reduceCtorEq, Bool.not_eq_true, eq_self, zsh, zb_rz, zb_ne, zb_eq, qem, true_implies, Nat.zero_le, Bool.or_eq_true, or_true, true_or, false_or, or_false, h1, h2, f1, f4, b1, b2, b3, b4, b5, e1, e2, lg_self]
  exact hd _ hI2
/-- X6_image -/
theorem ql_33 (hp : qPr Inv 87 182 []) (hk : k < 512) (hi : qIn (nI (6 * k)) L) (h1 : w.1 1021 = xs) (h2 : (w.1 1022 0).toNatClampNeg = L) (h3 : w.2.2.2 = 111) (hI : Inv k w) (hd : qHd L xs Inv Q k) : zWP (zcl 60) 213 (1021, [some (.ref 1021), some (.ref 0), some (.ref 75), some (.int (nI (6 * k)))], [], w) Q := by
  obtain ⟨I, J, R, nc⟩ := w
  dsimp only at h1 h2 h3
  subst h3
  have b1 := hi 1 (by decide)
  have b2 := hi 2 (by decide)
  have b3 := hi 3 (by decide)
  have b4 := hi 4 (by decide)
  have b5 := hi 5 (by decide)
  rw [show nI 1 = 1 from rfl] at b1
  rw [show nI 2 = 2 from rfl] at b2
  rw [show nI 3 = 3 from rfl] at b3
  rw [show nI 4 = 4 from rfl] at b4
  rw [show nI 5 = 5 from rfl] at b5
  obtain ⟨r, ⟨I1, J1, R1, n1⟩, w2, e1, e2, ⟨f1, f2, f3⟩, hI2⟩ := hp k _ hk hI
  dsimp only at f1 f2 f3
  subst f3
  rw [h1] at f1
  have f4 : (I1 1022 0).toNatClampNeg = L := by rw [f2]; exact h2
  refine zg_wp 90 _ ?_
  simp only [zpr_213, zhd_213, zp213, zh213, zml_213, o_bad, o_push, o_iload, o_lload, o_aload, o_istore, o_astore, o_lstore, o_iinc, o_ii, o_dv, o_i, o_ll, o_lshl, o_lcmp, o_i2l, o_l2i, o_dup, o_dup2, o_pop, o_goto, o_if, o_ic, o_sw, o_ireturn, o_nreturn, o_lreturn, o_return, o_min, o_max, o_geti, o_getr, o_puti, o_putz, o_putr, o_gets, o_iald, o_lald, o_aald, o_iast, o_last, o_aast, o_alen, o_new, o_newa, o_multi, o_call, o_scall, o_oinit, o_copyi, o_copyl, z_eq, z_ne, z_lt, z_ge, z_gt, z_le, z_ceq, z_cne, z_clt, z_cge, z_cgt, z_cle, z_rz, z_rb, z_rc, zg, zwp1, zsws, zent, zpad, zla, zlg, zpop, zrv, zc1, zmk, zob_w, zaw_w, zar_w, zln_w, zld_w, zin_w, zcpg_w, znr_w, List.getElem?_cons_zero, List.getElem?_cons_succ, List.set_cons_zero, List.set_cons_succ, List.length_cons, List.length_nil, Nat.reduceLT, Nat.reduceLeDiff, Nat.reduceAdd, Nat.reduceSub, Nat.reduceMul, Nat.reduceEqDiff, Nat.reduceBEq, ↓reduceIte, decide_eq_true_eq, decide_eq_false_iff_not, Bool.and_eq_true, Bool.true_and, Bool.and_true, Bool.decide_and, decide_true, decide_false, Bool.true_eq_false, Bool.false_eq_true, Option.toList_some, Option.toList_none, List.cons_append, List.nil_append, true_and, and_true, and_self, not_true_eq_false, not_false_eq_true, forall_const, false_implies, implies_true, Nat.le_refl, ne_eq, reduceCtorEq, Bool.not_eq_true, eq_self, zsh, zb_rz, zb_ne, zb_eq, qem, true_implies, Nat.zero_le, Bool.or_eq_true, or_true, true_or, false_or, or_false, h1, h2, f1, f4, b1, b2, b3, b4, b5, e1, e2, lg_self]
  exact hd _ hI2
/-- X6_undo -/
theorem ql_34 (hp : qPr Inv 88 183 []) (hk : k < 512) (hi : qIn (nI (6 * k)) L) (h1 : w.1 1021 = xs) (h2 : (w.1 1022 0).toNatClampNeg = L) (h3 : w.2.2.2 = 111) (hI : Inv k w) (hd : qHd L xs Inv Q k) : zWP (zcl 60) 213 (1034, [some (.ref 1021), some (.ref 0), some (.ref 75), some (.int (nI (6 * k)))], [], w) Q := by
  obtain ⟨I, J, R, nc⟩ := w
  dsimp only at h1 h2 h3
  subst h3
  have b1 := hi 1 (by decide)
  have b2 := hi 2 (by decide)
  have b3 := hi 3 (by decide)
  have b4 := hi 4 (by decide)
  have b5 := hi 5 (by decide)
  rw [show nI 1 = 1 from rfl] at b1
  rw [show nI 2 = 2 from rfl] at b2
  rw [show nI 3 = 3 from rfl] at b3
  rw [show nI 4 = 4 from rfl] at b4
  rw [show nI 5 = 5 from rfl] at b5
  obtain ⟨r, ⟨I1, J1, R1, n1⟩, w2, e1, e2, ⟨f1, f2, f3⟩, hI2⟩ := hp k _ hk hI
  dsimp only at f1 f2 f3
  subst f3
  rw [h1] at f1
  have f4 : (I1 1022 0).toNatClampNeg = L := by rw [f2]; exact h2
  refine zg_wp 90 _ ?_
  simp only [zpr_213, zhd_213, zp213, zh213, zml_213, o_bad, o_push, o_iload, o_lload, o_aload, o_istore, o_astore, o_lstore, o_iinc, o_ii, o_dv, o_i, o_ll, o_lshl, o_lcmp, o_i2l, o_l2i, o_dup, o_dup2, o_pop, o_goto, o_if, o_ic, o_sw, o_ireturn, o_nreturn, o_lreturn, o_return, o_min, o_max, o_geti, o_getr, o_puti, o_putz, o_putr, o_gets, o_iald, o_lald, o_aald, o_iast, o_last, o_aast, o_alen, o_new, o_newa, o_multi, o_call, o_scall, o_oinit, o_copyi, o_copyl, z_eq, z_ne, z_lt, z_ge, z_gt, z_le, z_ceq, z_cne, z_clt, z_cge, z_cgt, z_cle, z_rz, z_rb, z_rc, zg, zwp1, zsws, zent, zpad, zla, zlg, zpop, zrv, zc1, zmk, zob_w, zaw_w, zar_w, zln_w, zld_w, zin_w, zcpg_w, znr_w, List.getElem?_cons_zero, List.getElem?_cons_succ, List.set_cons_zero, List.set_cons_succ, List.length_cons, List.length_nil, Nat.reduceLT, Nat.reduceLeDiff, Nat.reduceAdd, Nat.reduceSub, Nat.reduceMul, Nat.reduceEqDiff, Nat.reduceBEq, ↓reduceIte, decide_eq_true_eq, decide_eq_false_iff_not, Bool.and_eq_true, Bool.true_and, Bool.and_true, Bool.decide_and, decide_true, decide_false, Bool.true_eq_false, Bool.false_eq_true, Option.toList_some, Option.toList_none, List.cons_append, List.nil_append, true_and, and_true, and_self, not_true_eq_false, not_false_eq_true, forall_const, false_implies, implies_true, Nat.le_refl, ne_eq, reduceCtorEq, Bool.not_eq_true, eq_self, zsh, zb_rz, zb_ne, zb_eq, qem, true_implies, Nat.zero_le, Bool.or_eq_true, or_true, true_or, false_or, or_false, h1, h2, f1, f4, b1, b2, b3, b4, b5, e1, e2, lg_self]
  exact hd _ hI2
/-- X6_act -/
theorem ql_35 (hp : ∀ (a1 : Int32) (a2 : Int32) (a3 : Int32), qPr Inv 89 192 [.int a1, .int a2, .int a3]) (hk : k < 512) (hi : qIn (nI (6 * k)) L) (h1 : w.1 1021 = xs) (h2 : (w.1 1022 0).toNatClampNeg = L) (h3 : w.2.2.2 = 111) (hI : Inv k w) (hd : qHd L xs Inv Q k) : zWP (zcl 60) 213 (1047, [some (.ref 1021), some (.ref 0), some (.ref 75), some (.int (nI (6 * k)))], [], w) Q := by
  obtain ⟨I, J, R, nc⟩ := w
  dsimp only at h1 h2 h3
  subst h3
  have b1 := hi 1 (by decide)
  have b2 := hi 2 (by decide)
  have b3 := hi 3 (by decide)
  have b4 := hi 4 (by decide)
  have b5 := hi 5 (by decide)
  rw [show nI 1 = 1 from rfl] at b1
  rw [show nI 2 = 2 from rfl] at b2
  rw [show nI 3 = 3 from rfl] at b3
  rw [show nI 4 = 4 from rfl] at b4
  rw [show nI 5 = 5 from rfl] at b5
  obtain ⟨r, ⟨I1, J1, R1, n1⟩, w2, e1, e2, ⟨f1, f2, f3⟩, hI2⟩ := hp (xs ((nI (6 * k)) + 1).toNatClampNeg) (xs ((nI (6 * k)) + 2).toNatClampNeg) (xs ((nI (6 * k)) + 3).toNatClampNeg) k _ hk hI
  dsimp only at f1 f2 f3
  subst f3
  rw [h1] at f1
  have f4 : (I1 1022 0).toNatClampNeg = L := by rw [f2]; exact h2
  refine zg_wp 90 _ ?_
  simp only [zpr_213, zhd_213, zp213, zh213, zml_213, o_bad, o_push, o_iload, o_lload, o_aload, o_istore, o_astore, o_lstore, o_iinc, o_ii, o_dv, o_i, o_ll, o_lshl, o_lcmp, o_i2l, o_l2i, o_dup, o_dup2, o_pop, o_goto, o_if, o_ic, o_sw, o_ireturn, o_nreturn, o_lreturn, o_return, o_min, o_max, o_geti, o_getr, o_puti, o_putz, o_putr, o_gets, o_iald, o_lald, o_aald, o_iast, o_last, o_aast, o_alen, o_new, o_newa, o_multi, o_call, o_scall, o_oinit, o_copyi, o_copyl, z_eq, z_ne, z_lt, z_ge, z_gt, z_le, z_ceq, z_cne, z_clt, z_cge, z_cgt, z_cle, z_rz, z_rb, z_rc, zg, zwp1, zsws, zent, zpad, zla, zlg, zpop, zrv, zc1, zmk, zob_w, zaw_w, zar_w, zln_w, zld_w, zin_w, zcpg_w, znr_w, List.getElem?_cons_zero, List.getElem?_cons_succ, List.set_cons_zero, List.set_cons_succ, List.length_cons, List.length_nil, Nat.reduceLT, Nat.reduceLeDiff, Nat.reduceAdd, Nat.reduceSub, Nat.reduceMul, Nat.reduceEqDiff, Nat.reduceBEq, ↓reduceIte, decide_eq_true_eq, decide_eq_false_iff_not, Bool.and_eq_true, Bool.true_and, Bool.and_true, Bool.decide_and, decide_true, decide_false, Bool.true_eq_false, Bool.false_eq_true, Option.toList_some, Option.toList_none, List.cons_append, List.nil_append, true_and, and_true, and_self, not_true_eq_false, not_false_eq_true, forall_const, false_implies, implies_true, Nat.le_refl, ne_eq, reduceCtorEq, Bool.not_eq_true, eq_self, zsh, zb_rz, zb_ne, zb_eq, qem, true_implies, Nat.zero_le, Bool.or_eq_true, or_true, true_or, false_or, or_false, h1, h2, f1, f4, b1, b2, b3, b4, b5, e1, e2, lg_self]
  exact hd _ hI2
/-- X6_trace -/
theorem ql_36 (hp : ∀ (a1 : Int32), qPr Inv 90 193 [.int a1]) (hk : k < 512) (hi : qIn (nI (6 * k)) L) (h1 : w.1 1021 = xs) (h2 : (w.1 1022 0).toNatClampNeg = L) (h3 : w.2.2.2 = 111) (hI : Inv k w) (hd : qHd L xs Inv Q k) : zWP (zcl 60) 213 (1090, [some (.ref 1021), some (.ref 0), some (.ref 75), some (.int (nI (6 * k)))], [], w) Q := by
  obtain ⟨I, J, R, nc⟩ := w
  dsimp only at h1 h2 h3
  subst h3
  have b1 := hi 1 (by decide)
  have b2 := hi 2 (by decide)
  have b3 := hi 3 (by decide)
  have b4 := hi 4 (by decide)
  have b5 := hi 5 (by decide)
  rw [show nI 1 = 1 from rfl] at b1
  rw [show nI 2 = 2 from rfl] at b2
  rw [show nI 3 = 3 from rfl] at b3
  rw [show nI 4 = 4 from rfl] at b4
  rw [show nI 5 = 5 from rfl] at b5
  obtain ⟨r, ⟨I1, J1, R1, n1⟩, w2, e1, e2, ⟨f1, f2, f3⟩, hI2⟩ := hp (xs ((nI (6 * k)) + 1).toNatClampNeg) k _ hk hI
  dsimp only at f1 f2 f3
  subst f3
  rw [h1] at f1
  have f4 : (I1 1022 0).toNatClampNeg = L := by rw [f2]; exact h2
  refine zg_wp 90 _ ?_
  simp only [zpr_213, zhd_213, zp213, zh213, zml_213, o_bad, o_push, o_iload, o_lload, o_aload, o_istore, o_astore, o_lstore, o_iinc, o_ii, o_dv, o_i, o_ll, o_lshl, o_lcmp, o_i2l, o_l2i, o_dup, o_dup2, o_pop, o_goto, o_if, o_ic, o_sw, o_ireturn, o_nreturn, o_lreturn, o_return, o_min, o_max, o_geti, o_getr, o_puti, o_putz, o_putr, o_gets, o_iald, o_lald, o_aald, o_iast, o_last, o_aast, o_alen, o_new, o_newa, o_multi, o_call, o_scall, o_oinit, o_copyi, o_copyl, z_eq, z_ne, z_lt, z_ge, z_gt, z_le, z_ceq, z_cne, z_clt, z_cge, z_cgt, z_cle, z_rz, z_rb, z_rc, zg, zwp1, zsws, zent, zpad, zla, zlg, zpop, zrv, zc1, zmk, zob_w, zaw_w, zar_w, zln_w, zld_w, zin_w, zcpg_w, znr_w, List.getElem?_cons_zero, List.getElem?_cons_succ, List.set_cons_zero, List.set_cons_succ, List.length_cons, List.length_nil, Nat.reduceLT, Nat.reduceLeDiff, Nat.reduceAdd, Nat.reduceSub, Nat.reduceMul, Nat.reduceEqDiff, Nat.reduceBEq, ↓reduceIte, decide_eq_true_eq, decide_eq_false_iff_not, Bool.and_eq_true, Bool.true_and, Bool.and_true, Bool.decide_and, decide_true, decide_false, Bool.true_eq_false, Bool.false_eq_true, Option.toList_some, Option.toList_none, List.cons_append, List.nil_append, true_and, and_true, and_self, not_true_eq_false, not_false_eq_true, forall_const, false_implies, implies_true, Nat.le_refl, ne_eq, reduceCtorEq, Bool.not_eq_true, eq_self, zsh, zb_rz, zb_ne, zb_eq, qem, true_implies, Nat.zero_le, Bool.or_eq_true, or_true, true_or, false_or, or_false, h1, h2, f1, f4, b1, b2, b3, b4, b5, e1, e2, lg_self]
  exact hd _ hI2
/-- X6_cast -/
theorem ql_37 (hp : ∀ (a1 : Int32) (a2 : Int32), qPr Inv 91 194 [.int a1, .int a2]) (hk : k < 512) (hi : qIn (nI (6 * k)) L) (h1 : w.1 1021 = xs) (h2 : (w.1 1022 0).toNatClampNeg = L) (h3 : w.2.2.2 = 111) (hI : Inv k w) (hd : qHd L xs Inv Q k) : zWP (zcl 60) 213 (1113, [some (.ref 1021), some (.ref 0), some (.ref 75), some (.int (nI (6 * k)))], [], w) Q := by
  obtain ⟨I, J, R, nc⟩ := w
  dsimp only at h1 h2 h3
  subst h3
  have b1 := hi 1 (by decide)
  have b2 := hi 2 (by decide)
  have b3 := hi 3 (by decide)
  have b4 := hi 4 (by decide)
  have b5 := hi 5 (by decide)
  rw [show nI 1 = 1 from rfl] at b1
  rw [show nI 2 = 2 from rfl] at b2
  rw [show nI 3 = 3 from rfl] at b3
  rw [show nI 4 = 4 from rfl] at b4
  rw [show nI 5 = 5 from rfl] at b5
  obtain ⟨r, ⟨I1, J1, R1, n1⟩, w2, e1, e2, ⟨f1, f2, f3⟩, hI2⟩ := hp (xs ((nI (6 * k)) + 1).toNatClampNeg) (xs ((nI (6 * k)) + 2).toNatClampNeg) k _ hk hI
  dsimp only at f1 f2 f3
  subst f3
  rw [h1] at f1
  have f4 : (I1 1022 0).toNatClampNeg = L := by rw [f2]; exact h2
  refine zg_wp 90 _ ?_
  simp only [zpr_213, zhd_213, zp213, zh213, zml_213, o_bad, o_push, o_iload, o_lload, o_aload, o_istore, o_astore, o_lstore, o_iinc, o_ii, o_dv, o_i, o_ll, o_lshl, o_lcmp, o_i2l, o_l2i, o_dup, o_dup2, o_pop, o_goto, o_if, o_ic, o_sw, o_ireturn, o_nreturn, o_lreturn, o_return, o_min, o_max, o_geti, o_getr, o_puti, o_putz, o_putr, o_gets, o_iald, o_lald, o_aald, o_iast, o_last, o_aast, o_alen, o_new, o_newa, o_multi, o_call, o_scall, o_oinit, o_copyi, o_copyl, z_eq, z_ne, z_lt, z_ge, z_gt, z_le, z_ceq, z_cne, z_clt, z_cge, z_cgt, z_cle, z_rz, z_rb, z_rc, zg, zwp1, zsws, zent, zpad, zla, zlg, zpop, zrv, zc1, zmk, zob_w, zaw_w, zar_w, zln_w, zld_w, zin_w, zcpg_w, znr_w, List.getElem?_cons_zero, List.getElem?_cons_succ, List.set_cons_zero, List.set_cons_succ, List.length_cons, List.length_nil, Nat.reduceLT, Nat.reduceLeDiff, Nat.reduceAdd, Nat.reduceSub, Nat.reduceMul, Nat.reduceEqDiff, Nat.reduceBEq, ↓reduceIte, decide_eq_true_eq, decide_eq_false_iff_not, Bool.and_eq_true, Bool.true_and, Bool.and_true, Bool.decide_and, decide_true, decide_false, Bool.true_eq_false, Bool.false_eq_true, Option.toList_some, Option.toList_none, List.cons_append, List.nil_append, true_and, and_true, and_self, not_true_eq_false, not_false_eq_true, forall_const, false_implies, implies_true, Nat.le_refl, ne_eq, reduceCtorEq, Bool.not_eq_true, eq_self, zsh, zb_rz, zb_ne, zb_eq, qem, true_implies, Nat.zero_le, Bool.or_eq_true, or_true, true_or, false_or, or_false, h1, h2, f1, f4, b1, b2, b3, b4, b5, e1, e2, lg_self]
  exact hd _ hI2
/-- X6_count -/
theorem ql_38 (hp : ∀ (a1 : Int32), qPr Inv 92 195 [.int a1]) (hk : k < 512) (hi : qIn (nI (6 * k)) L) (h1 : w.1 1021 = xs) (h2 : (w.1 1022 0).toNatClampNeg = L) (h3 : w.2.2.2 = 111) (hI : Inv k w) (hd : qHd L xs Inv Q k) : zWP (zcl 60) 213 (1146, [some (.ref 1021), some (.ref 0), some (.ref 75), some (.int (nI (6 * k)))], [], w) Q := by
  obtain ⟨I, J, R, nc⟩ := w
  dsimp only at h1 h2 h3
  subst h3
  have b1 := hi 1 (by decide)
  have b2 := hi 2 (by decide)
  have b3 := hi 3 (by decide)
  have b4 := hi 4 (by decide)
  have b5 := hi 5 (by decide)
  rw [show nI 1 = 1 from rfl] at b1
  rw [show nI 2 = 2 from rfl] at b2
  rw [show nI 3 = 3 from rfl] at b3
  rw [show nI 4 = 4 from rfl] at b4
  rw [show nI 5 = 5 from rfl] at b5
  obtain ⟨r, ⟨I1, J1, R1, n1⟩, w2, e1, e2, ⟨f1, f2, f3⟩, hI2⟩ := hp (xs ((nI (6 * k)) + 1).toNatClampNeg) k _ hk hI
  dsimp only at f1 f2 f3
  subst f3
  rw [h1] at f1
  have f4 : (I1 1022 0).toNatClampNeg = L := by rw [f2]; exact h2
  refine zg_wp 90 _ ?_
  simp only [zpr_213, zhd_213, zp213, zh213, zml_213, o_bad, o_push, o_iload, o_lload, o_aload, o_istore, o_astore, o_lstore, o_iinc, o_ii, o_dv, o_i, o_ll, o_lshl, o_lcmp, o_i2l, o_l2i, o_dup, o_dup2, o_pop, o_goto, o_if, o_ic, o_sw, o_ireturn, o_nreturn, o_lreturn, o_return, o_min, o_max, o_geti, o_getr, o_puti, o_putz, o_putr, o_gets, o_iald, o_lald, o_aald, o_iast, o_last, o_aast, o_alen, o_new, o_newa, o_multi, o_call, o_scall, o_oinit, o_copyi, o_copyl, z_eq, z_ne, z_lt, z_ge, z_gt, z_le, z_ceq, z_cne, z_clt, z_cge, z_cgt, z_cle, z_rz, z_rb, z_rc, zg, zwp1, zsws, zent, zpad, zla, zlg, zpop, zrv, zc1, zmk, zob_w, zaw_w, zar_w, zln_w, zld_w, zin_w, zcpg_w, znr_w, List.getElem?_cons_zero, List.getElem?_cons_succ, List.set_cons_zero, List.set_cons_succ, List.length_cons, List.length_nil, Nat.reduceLT, Nat.reduceLeDiff, Nat.reduceAdd, Nat.reduceSub, Nat.reduceMul, Nat.reduceEqDiff, Nat.reduceBEq, ↓reduceIte, decide_eq_true_eq, decide_eq_false_iff_not, Bool.and_eq_true, Bool.true_and, Bool.and_true, Bool.decide_and, decide_true, decide_false, Bool.true_eq_false, Bool.false_eq_true, Option.toList_some, Option.toList_none, List.cons_append, List.nil_append, true_and, and_true, and_self, not_true_eq_false, not_false_eq_true, forall_const, false_implies, implies_true, Nat.le_refl, ne_eq, reduceCtorEq, Bool.not_eq_true, eq_self, zsh, zb_rz, zb_ne, zb_eq, qem, true_implies, Nat.zero_le, Bool.or_eq_true, or_true, true_or, false_or, or_false, h1, h2, f1, f4, b1, b2, b3, b4, b5, e1, e2, lg_self]
  exact hd _ hI2
/-- X6_tape -/
theorem ql_39 (hp : ∀ (a1 : Int32) (a2 : Int32) (a3 : Int32), qPr Inv 93 197 [.int a1, .int a2, .int a3]) (hk : k < 512) (hi : qIn (nI (6 * k)) L) (h1 : w.1 1021 = xs) (h2 : (w.1 1022 0).toNatClampNeg = L) (h3 : w.2.2.2 = 111) (hI : Inv k w) (hd : qHd L xs Inv Q k) : zWP (zcl 60) 213 (1169, [some (.ref 1021), some (.ref 0), some (.ref 75), some (.int (nI (6 * k)))], [], w) Q := by
  obtain ⟨I, J, R, nc⟩ := w
  dsimp only at h1 h2 h3
  subst h3
  have b1 := hi 1 (by decide)
  have b2 := hi 2 (by decide)
  have b3 := hi 3 (by decide)
  have b4 := hi 4 (by decide)
  have b5 := hi 5 (by decide)
  rw [show nI 1 = 1 from rfl] at b1
  rw [show nI 2 = 2 from rfl] at b2
  rw [show nI 3 = 3 from rfl] at b3
  rw [show nI 4 = 4 from rfl] at b4
  rw [show nI 5 = 5 from rfl] at b5
  obtain ⟨r, ⟨I1, J1, R1, n1⟩, w2, e1, e2, ⟨f1, f2, f3⟩, hI2⟩ := hp (xs ((nI (6 * k)) + 1).toNatClampNeg) (xs ((nI (6 * k)) + 2).toNatClampNeg) (xs ((nI (6 * k)) + 3).toNatClampNeg) k _ hk hI
  dsimp only at f1 f2 f3
  subst f3
  rw [h1] at f1
  have f4 : (I1 1022 0).toNatClampNeg = L := by rw [f2]; exact h2
  refine zg_wp 90 _ ?_
  simp only [zpr_213, zhd_213, zp213, zh213, zml_213, o_bad, o_push, o_iload, o_lload, o_aload, o_istore, o_astore, o_lstore, o_iinc, o_ii, o_dv, o_i, o_ll, o_lshl, o_lcmp, o_i2l, o_l2i, o_dup, o_dup2, o_pop, o_goto, o_if, o_ic, o_sw, o_ireturn, o_nreturn, o_lreturn, o_return, o_min, o_max, o_geti, o_getr, o_puti, o_putz, o_putr, o_gets, o_iald, o_lald, o_aald, o_iast, o_last, o_aast, o_alen, o_new, o_newa, o_multi, o_call, o_scall, o_oinit, o_copyi, o_copyl, z_eq, z_ne, z_lt, z_ge, z_gt, z_le, z_ceq, z_cne, z_clt, z_cge, z_cgt, z_cle, z_rz, z_rb, z_rc, zg, zwp1, zsws, zent, zpad, zla, zlg, zpop, zrv, zc1, zmk, zob_w, zaw_w, zar_w, zln_w, zld_w, zin_w, zcpg_w, znr_w, List.getElem?_cons_zero, List.getElem?_cons_succ, List.set_cons_zero, List.set_cons_succ, List.length_cons, List.length_nil, Nat.reduceLT, Nat.reduceLeDiff, Nat.reduceAdd, Nat.reduceSub, Nat.reduceMul, Nat.reduceEqDiff, Nat.reduceBEq, ↓reduceIte, decide_eq_true_eq, decide_eq_false_iff_not, Bool.and_eq_true, Bool.true_and, Bool.and_true, Bool.decide_and, decide_true, decide_false, Bool.true_eq_false, Bool.false_eq_true, Option.toList_some, Option.toList_none, List.cons_append, List.nil_append, true_and, and_true, and_self, not_true_eq_false, not_false_eq_true, forall_const, false_implies, implies_true, Nat.le_refl, ne_eq, reduceCtorEq, Bool.not_eq_true, eq_self, zsh, zb_rz, zb_ne, zb_eq, qem, true_implies, Nat.zero_le, Bool.or_eq_true, or_true, true_or, false_or, or_false, h1, h2, f1, f4, b1, b2, b3, b4, b5, e1, e2, lg_self]
  exact hd _ hI2
/-- X6_item -/
theorem ql_40 (hp : ∀ (a1 : Int32) (a2 : Int32) (a3 : Int64), qPr Inv 94 199 [.int a1, .int a2, .long a3]) (hk : k < 512) (hi : qIn (nI (6 * k)) L) (h1 : w.1 1021 = xs) (h2 : (w.1 1022 0).toNatClampNeg = L) (h3 : w.2.2.2 = 111) (hI : Inv k w) (hd : qHd L xs Inv Q k) : zWP (zcl 60) 213 (1212, [some (.ref 1021), some (.ref 0), some (.ref 75), some (.int (nI (6 * k)))], [], w) Q := by
  obtain ⟨I, J, R, nc⟩ := w
  dsimp only at h1 h2 h3
  subst h3
  have b1 := hi 1 (by decide)
  have b2 := hi 2 (by decide)
  have b3 := hi 3 (by decide)
  have b4 := hi 4 (by decide)
  have b5 := hi 5 (by decide)
  rw [show nI 1 = 1 from rfl] at b1
  rw [show nI 2 = 2 from rfl] at b2
  rw [show nI 3 = 3 from rfl] at b3
  rw [show nI 4 = 4 from rfl] at b4
  rw [show nI 5 = 5 from rfl] at b5
  obtain ⟨r, ⟨I1, J1, R1, n1⟩, w2, e1, e2, ⟨f1, f2, f3⟩, hI2⟩ := hp (xs ((nI (6 * k)) + 1).toNatClampNeg) (xs ((nI (6 * k)) + 2).toNatClampNeg) ((xs ((nI (6 * k)) + 3).toNatClampNeg).toInt64 <<< ((32 : Int32).toInt64 &&& 63) ||| (xs ((nI (6 * k)) + 4).toNatClampNeg).toInt64 &&& 4294967295) k _ hk hI
  dsimp only at f1 f2 f3
  subst f3
  rw [h1] at f1
  have f4 : (I1 1022 0).toNatClampNeg = L := by rw [f2]; exact h2
  refine zg_wp 90 _ ?_
  simp only [zpr_213, zhd_213, zp213, zh213, zml_213, o_bad, o_push, o_iload, o_lload, o_aload, o_istore, o_astore, o_lstore, o_iinc, o_ii, o_dv, o_i, o_ll, o_lshl, o_lcmp, o_i2l, o_l2i, o_dup, o_dup2, o_pop, o_goto, o_if, o_ic, o_sw, o_ireturn, o_nreturn, o_lreturn, o_return, o_min, o_max, o_geti, o_getr, o_puti, o_putz, o_putr, o_gets, o_iald, o_lald, o_aald, o_iast, o_last, o_aast, o_alen, o_new, o_newa, o_multi, o_call, o_scall, o_oinit, o_copyi, o_copyl, z_eq, z_ne, z_lt, z_ge, z_gt, z_le, z_ceq, z_cne, z_clt, z_cge, z_cgt, z_cle, z_rz, z_rb, z_rc, zg, zwp1, zsws, zent, zpad, zla, zlg, zpop, zrv, zc1, zmk, zob_w, zaw_w, zar_w, zln_w, zld_w, zin_w, zcpg_w, znr_w, List.getElem?_cons_zero, List.getElem?_cons_succ, List.set_cons_zero, List.set_cons_succ, List.length_cons, List.length_nil, Nat.reduceLT, Nat.reduceLeDiff, Nat.reduceAdd, Nat.reduceSub, Nat.reduceMul, Nat.reduceEqDiff, Nat.reduceBEq, ↓reduceIte, decide_eq_true_eq, decide_eq_false_iff_not, Bool.and_eq_true, Bool.true_and, Bool.and_true, Bool.decide_and, decide_true, decide_false, Bool.true_eq_false, Bool.false_eq_true, Option.toList_some, Option.toList_none, List.cons_append, List.nil_append, true_and, and_true, and_self, not_true_eq_false, not_false_eq_true, forall_const, false_implies, implies_true, Nat.le_refl, ne_eq, reduceCtorEq, Bool.not_eq_true, eq_self, zsh, zb_rz, zb_ne, zb_eq, qem, true_implies, Nat.zero_le, Bool.or_eq_true, or_true, true_or, false_or, or_false, h1, h2, f1, f4, b1, b2, b3, b4, b5, e1, e2, lg_self]
  exact hd _ hI2
/-- X6_read -/
theorem ql_41 (hp : ∀ (a1 : Int32) (a2 : Int32), qPl Inv 95 200 [.int a1, .int a2]) (hk : k < 512) (hi : qIn (nI (6 * k)) L) (h1 : w.1 1021 = xs) (h2 : (w.1 1022 0).toNatClampNeg = L) (h3 : w.2.2.2 = 111) (hI : Inv k w) (hd : qHd L xs Inv Q k) : zWP (zcl 60) 213 (1285, [some (.ref 1021), some (.ref 0), some (.ref 75), some (.int (nI (6 * k)))], [], w) Q := by
  obtain ⟨I, J, R, nc⟩ := w
  dsimp only at h1 h2 h3
  subst h3
  have b1 := hi 1 (by decide)
  have b2 := hi 2 (by decide)
  have b3 := hi 3 (by decide)
  have b4 := hi 4 (by decide)
  have b5 := hi 5 (by decide)
  rw [show nI 1 = 1 from rfl] at b1
  rw [show nI 2 = 2 from rfl] at b2
  rw [show nI 3 = 3 from rfl] at b3
  rw [show nI 4 = 4 from rfl] at b4
  rw [show nI 5 = 5 from rfl] at b5
  obtain ⟨r, ⟨I1, J1, R1, n1⟩, w2, e1, e2, ⟨f1, f2, f3⟩, hI2⟩ := hp (xs ((nI (6 * k)) + 1).toNatClampNeg) (xs ((nI (6 * k)) + 2).toNatClampNeg) k _ hk hI
  dsimp only at f1 f2 f3
  subst f3
  rw [h1] at f1
  have f4 : (I1 1022 0).toNatClampNeg = L := by rw [f2]; exact h2
  refine zg_wp 90 _ ?_
  simp only [zpr_213, zhd_213, zp213, zh213, zml_213, o_bad, o_push, o_iload, o_lload, o_aload, o_istore, o_astore, o_lstore, o_iinc, o_ii, o_dv, o_i, o_ll, o_lshl, o_lcmp, o_i2l, o_l2i, o_dup, o_dup2, o_pop, o_goto, o_if, o_ic, o_sw, o_ireturn, o_nreturn, o_lreturn, o_return, o_min, o_max, o_geti, o_getr, o_puti, o_putz, o_putr, o_gets, o_iald, o_lald, o_aald, o_iast, o_last, o_aast, o_alen, o_new, o_newa, o_multi, o_call, o_scall, o_oinit, o_copyi, o_copyl, z_eq, z_ne, z_lt, z_ge, z_gt, z_le, z_ceq, z_cne, z_clt, z_cge, z_cgt, z_cle, z_rz, z_rb, z_rc, zg, zwp1, zsws, zent, zpad, zla, zlg, zpop, zrv, zc1, zmk, zob_w, zaw_w, zar_w, zln_w, zld_w, zin_w, zcpg_w, znr_w, List.getElem?_cons_zero, List.getElem?_cons_succ, List.set_cons_zero, List.set_cons_succ, List.length_cons, List.length_nil, Nat.reduceLT, Nat.reduceLeDiff, Nat.reduceAdd, Nat.reduceSub, Nat.reduceMul, Nat.reduceEqDiff, Nat.reduceBEq, ↓reduceIte, decide_eq_true_eq, decide_eq_false_iff_not, Bool.and_eq_true, Bool.true_and, Bool.and_true, Bool.decide_and, decide_true, decide_false, Bool.true_eq_false, Bool.false_eq_true, Option.toList_some, Option.toList_none, List.cons_append, List.nil_append, true_and, and_true, and_self, not_true_eq_false, not_false_eq_true, forall_const, false_implies, implies_true, Nat.le_refl, ne_eq, reduceCtorEq, Bool.not_eq_true, eq_self, zsh, zb_rz, zb_ne, zb_eq, qem, true_implies, Nat.zero_le, Bool.or_eq_true, or_true, true_or, false_or, or_false, h1, h2, f1, f4, b1, b2, b3, b4, b5, e1, e2, lg_self]
  exact hd _ hI2
/-- X6_shift -/
theorem ql_42 (hp : ∀ (a1 : Int32) (a2 : Int32) (a3 : Int32) (a4 : Int32) (a5 : Int32), qPr Inv 96 201 [.int a1, .int a2, .int a3, .int a4, .int a5]) (hk : k < 512) (hi : qIn (nI (6 * k)) L) (h1 : w.1 1021 = xs) (h2 : (w.1 1022 0).toNatClampNeg = L) (h3 : w.2.2.2 = 111) (hI : Inv k w) (hd : qHd L xs Inv Q k) : zWP (zcl 60) 213 (1319, [some (.ref 1021), some (.ref 0), some (.ref 75), some (.int (nI (6 * k)))], [], w) Q := by
  obtain ⟨I, J, R, nc⟩ := w
  dsimp only at h1 h2 h3
  subst h3
  have b1 := hi 1 (by decide)
  have b2 := hi 2 (by decide)
  have b3 := hi 3 (by decide)
  have b4 := hi 4 (by decide)
  have b5 := hi 5 (by decide)
  rw [show nI 1 = 1 from rfl] at b1
  rw [show nI 2 = 2 from rfl] at b2
  rw [show nI 3 = 3 from rfl] at b3
  rw [show nI 4 = 4 from rfl] at b4
  rw [show nI 5 = 5 from rfl] at b5
  obtain ⟨r, ⟨I1, J1, R1, n1⟩, w2, e1, e2, ⟨f1, f2, f3⟩, hI2⟩ := hp (xs ((nI (6 * k)) + 1).toNatClampNeg) (xs ((nI (6 * k)) + 2).toNatClampNeg) (xs ((nI (6 * k)) + 3).toNatClampNeg) (xs ((nI (6 * k)) + 4).toNatClampNeg) (xs ((nI (6 * k)) + 5).toNatClampNeg) k _ hk hI
  dsimp only at f1 f2 f3
  subst f3
  rw [h1] at f1
  have f4 : (I1 1022 0).toNatClampNeg = L := by rw [f2]; exact h2
  refine zg_wp 90 _ ?_
  simp only [zpr_213, zhd_213, zp213, zh213, zml_213, o_bad, o_push, o_iload, o_lload, o_aload, o_istore, o_astore, o_lstore, o_iinc, o_ii, o_dv, o_i, o_ll, o_lshl, o_lcmp, o_i2l, o_l2i, o_dup, o_dup2, o_pop, o_goto, o_if, o_ic, o_sw, o_ireturn, o_nreturn, o_lreturn, o_return, o_min, o_max, o_geti, o_getr, o_puti, o_putz, o_putr, o_gets, o_iald, o_lald, o_aald, o_iast, o_last, o_aast, o_alen, o_new, o_newa, o_multi, o_call, o_scall, o_oinit, o_copyi, o_copyl, z_eq, z_ne, z_lt, z_ge, z_gt, z_le, z_ceq, z_cne, z_clt, z_cge, z_cgt, z_cle, z_rz, z_rb, z_rc, zg, zwp1, zsws, zent, zpad, zla, zlg, zpop, zrv, zc1, zmk, zob_w, zaw_w, zar_w, zln_w, zld_w, zin_w, zcpg_w, znr_w, List.getElem?_cons_zero, List.getElem?_cons_succ, List.set_cons_zero, List.set_cons_succ, List.length_cons, List.length_nil, Nat.reduceLT, Nat.reduceLeDiff, Nat.reduceAdd, Nat.reduceSub, Nat.reduceMul, Nat.reduceEqDiff, Nat.reduceBEq, ↓reduceIte, decide_eq_true_eq, decide_eq_false_iff_not, Bool.and_eq_true, Bool.true_and, Bool.and_true, Bool.decide_and, decide_true, decide_false, Bool.true_eq_false, Bool.false_eq_true, Option.toList_some, Option.toList_none, List.cons_append, List.nil_append, true_and, and_true, and_self, not_true_eq_false, not_false_eq_true, forall_const, false_implies, implies_true, Nat.le_refl, ne_eq, reduceCtorEq, Bool.not_eq_true, eq_self, zsh, zb_rz, zb_ne, zb_eq, qem, true_implies, Nat.zero_le, Bool.or_eq_true, or_true, true_or, false_or, or_false, h1, h2, f1, f4, b1, b2, b3, b4, b5, e1, e2, lg_self]
  exact hd _ hI2
end QL
