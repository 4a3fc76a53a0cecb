/-! ===== the model: whether a clause holds, how long one looks ===== -/
theorem znr3 : znr 3 1 = 1 ∧ znr 3 0 = 0 := by decide
/-- the model's pile, the newest highest -/
def hP (p : Nat → Int32) : List Bool → Prop
  | [] => True
  | b :: r => p r.length = (if b = true then 1 else 0) ∧ hP p r
theorem hP_up {p : Nat → Int32} {m : Nat} {x : Int32} : ∀ r : List Bool, r.length ≤ m → hP p r → hP (fun j => if j = m then x else p j) r
  | [], _, _ => trivial
  | b :: r, h, q => by
    simp only [List.length_cons] at h
    refine ⟨?_, hP_up r (by omega) q.2⟩
    show (if r.length = m then x else p r.length) = _
    rw [if_neg (by omega)]
    exact q.1
theorem hP_put {I : zI} {b : Bool} {r : List Bool} (q : hP (I 90) r) : hP ((zup I 90 r.length (if b = true then 1 else 0)) 90) (b :: r) := by
  rw [zup_row, if_pos rfl]
  exact ⟨if_pos rfl, hP_up r (Nat.le_refl _) q⟩
theorem mF_put {I0 I : zI} {m : Nat} {x : Int32} (f : mF I0 I) : mF I0 (zup I 90 m x) := fun k hk => by
  rw [zup_row, if_neg hk]
  exact f k hk
theorem q_neg1 {m : Nat} : nI (m + 1) + -1 = nI m := by
  rw [← nI_pred m, Int32.sub_eq_add_neg]
theorem q_m33b : ((-33 : Int32) = -33 ↔ True) ∧ ((-38 : Int32) = -33 ↔ False) ∧ ((-124 : Int32) = -33 ↔ False) ∧ ((-38 : Int32) = -38 ↔ True) ∧ ((-124 : Int32) = -38 ↔ False) ∧ ((0 : Int32) ≤ -38 ↔ False) ∧ ((0 : Int32) ≤ -124 ↔ False) := by decide
theorem gOk_no1 {x : Int32} {n : Nat} (hx : x = -1 ∨ x = -2 ∨ x = -3) (hn : n < 1) : ¬ gOk x n := by
  rintro (⟨_, h⟩ | ⟨_, h⟩ | ⟨_, h⟩ | ⟨p, s, m, hp, hs, hm, rfl, _⟩)
  · omega
  · omega
  · omega
  · obtain ⟨h1, h2, h3⟩ := gOk_pos hp hs hm
    rcases hx with h | h | h
    · exact h1 h
    · exact h2 h
    · exact h3 h
theorem gOk_no2 {x : Int32} {n : Nat} (hx : x = -1 ∨ x = -2 ∨ x = -3) (hn : n < 2) (hne : x ≠ -1) : ¬ gOk x n := by
  rintro (⟨h, _⟩ | ⟨_, h⟩ | ⟨_, h⟩ | ⟨p, s, m, hp, hs, hm, rfl, _⟩)
  · exact hne h
  · omega
  · omega
  · obtain ⟨h1, h2, h3⟩ := gOk_pos hp hs hm
    rcases hx with h | h | h
    · exact h1 h
    · exact h2 h
    · exact h3 h
theorem q_nneg {m n : Nat} (hm : m < 2147483648) (h0 : 0 < n) (hn : n < 2147483648) : ¬ nI m = -nI n := fun e => by
  have e2 := congrArg Int32.toInt e
  rw [nI_toInt hm, Int32.toInt_neg, nI_toInt hn, Int.bmod_eq_of_le (by omega) (by omega)] at e2
  omega
section QM
variable {d : Nat} {J : zJ} {R : zR} {a b c : Nat} {i : Option Nat} {S : gS} {D : gD}
set_option maxRecDepth 40000 in
theorem sl_132 (hR : qRk R a b c i) {I0 : zI} (V : mV S D I0) {co : Nat → Int32} {o e z0 cc s : Nat} (hc : cc < 60) (hs : s < 6) (ho : o ≤ 500) (he : e ≤ 100) (hto : I0 86 cc = nI (o + e)) (hsg : ∀ z, z0 ≤ z → z < e → gTr (co z) (I0 87 (o + z))) : ∀ (j z : Nat) (k : List Bool) (I : zI), z0 ≤ z → z + j = e → mF I0 I → gWf co z j k.length → hP (I 90) k → k.length ≤ 30 → zWP (zcl (d + 1)) 132 (10, [some (.ref 75), some (.int (nI cc)), some (.int (nI s)), some (.int (nI k.length)), some (.int (nI (o + z))), none, none, none], [], (I, J, R, 111)) (zEn (some (.int (if (gRun co (gLt S D s) z j k).headD false = true then 1 else 0))) J R (mF I0)) := by
  have ec := q_row (m := cc) (n := 60) hc (by omega)
  intro j
  induction j with
  | zero =>
    intro z k I h0 hj f hw hp hk
    have e1 : nI (o + e) ≤ nI (o + z) := q_tle (by omega) (by omega)
    have e3 : (0 ≤ (nI 0).toInt ∧ (nI 0).toInt < (100 : Nat)) := by decide
    have e4 : (0 : Int32).toNatClampNeg = 0 := rfl
    have h86 : I 86 = I0 86 := f 86 (by decide)
    match k, hw, hp with
    | [b], hw, hp =>
      have h90 : I 90 0 = if b = true then 1 else 0 := hp.1
      refine zg_wp 20 _ ?_
      cases b
      · simp only [zpr_132, zhd_132, zp132, zh132, zml_132, o_bad, o_push, o_iload, o_lload, o_aload, o_istore, o_astore, o_lstore, o_iinc, o_ii, o_dv, o_i, o_ll, o_lshl, o_lcmp, o_i2l, o_l2i, o_dup, o_dup2, o_pop, o_goto, o_if, o_ic, o_sw, o_ireturn, o_nreturn, o_lreturn, o_return, o_min, o_max, o_geti, o_getr, o_puti, o_putz, o_putr, o_gets, o_iald, o_lald, o_aald, o_iast, o_last, o_aast, o_alen, o_new, o_newa, o_multi, o_call, o_scall, o_oinit, o_copyi, o_copyl, z_eq, z_ne, z_lt, z_ge, z_gt, z_le, z_ceq, z_cne, z_clt, z_cge, z_cgt, z_cle, z_rz, z_rb, z_rc, q_nz, zg_0, zg_s, zgk_s, zgh_n, zgh_s, zq_n, zq_br, zq_gd, zq_cl2, zqc_s, zq_rt, zq_sw, zq_st, zsws, zent, zpad, zla, zlg, zpop, zrv, zc1, zmk, zob_w, zaw_w, zar_w, zln_w, zld_w, zin_w, zcpg_w, znr_w, List.getElem?_cons_zero, List.getElem?_cons_succ, List.set_cons_zero, List.set_cons_succ, List.length_cons, List.length_nil, Nat.reduceLT, Nat.reduceLeDiff, Nat.reduceAdd, Nat.reduceSub, Nat.reduceMul, Nat.reduceEqDiff, Nat.reduceBEq, ↓reduceIte, q_10, q_01, q_00, q_m1, q_m2, q_m3, q_m4, q_m5, q_n1, q_n2, decide_eq_true_eq, decide_eq_false_iff_not, Bool.and_eq_true, Bool.true_and, Bool.and_true, Bool.decide_and, decide_true, decide_false, Bool.true_eq_false, Bool.false_eq_true, Option.toList_some, Option.toList_none, List.cons_append, List.nil_append, true_and, and_true, and_self, not_true_eq_false, not_false_eq_true, forall_const, false_implies, implies_true, Nat.le_refl, ne_eq, Bool.not_eq_true, eq_self, zshA, zb_rz, zb_ne, zb_eq, qem, true_implies, Nat.zero_le, false_and, and_false, Bool.or_eq_true, or_true, true_or, false_or, or_false, zr_75_18 hR, zr_75_28 hR, ec, h86, hto, e1, e3, e4, h90, gRun, List.headD_cons]
        exact zEn_mk f
      · simp only [zpr_132, zhd_132, zp132, zh132, zml_132, o_bad, o_push, o_iload, o_lload, o_aload, o_istore, o_astore, o_lstore, o_iinc, o_ii, o_dv, o_i, o_ll, o_lshl, o_lcmp, o_i2l, o_l2i, o_dup, o_dup2, o_pop, o_goto, o_if, o_ic, o_sw, o_ireturn, o_nreturn, o_lreturn, o_return, o_min, o_max, o_geti, o_getr, o_puti, o_putz, o_putr, o_gets, o_iald, o_lald, o_aald, o_iast, o_last, o_aast, o_alen, o_new, o_newa, o_multi, o_call, o_scall, o_oinit, o_copyi, o_copyl, z_eq, z_ne, z_lt, z_ge, z_gt, z_le, z_ceq, z_cne, z_clt, z_cge, z_cgt, z_cle, z_rz, z_rb, z_rc, q_nz, zg_0, zg_s, zgk_s, zgh_n, zgh_s, zq_n, zq_br, zq_gd, zq_cl2, zqc_s, zq_rt, zq_sw, zq_st, zsws, zent, zpad, zla, zlg, zpop, zrv, zc1, zmk, zob_w, zaw_w, zar_w, zln_w, zld_w, zin_w, zcpg_w, znr_w, List.getElem?_cons_zero, List.getElem?_cons_succ, List.set_cons_zero, List.set_cons_succ, List.length_cons, List.length_nil, Nat.reduceLT, Nat.reduceLeDiff, Nat.reduceAdd, Nat.reduceSub, Nat.reduceMul, Nat.reduceEqDiff, Nat.reduceBEq, ↓reduceIte, q_10, q_01, q_00, q_m1, q_m2, q_m3, q_m4, q_m5, q_n1, q_n2, decide_eq_true_eq, decide_eq_false_iff_not, Bool.and_eq_true, Bool.true_and, Bool.and_true, Bool.decide_and, decide_true, decide_false, Bool.true_eq_false, Bool.false_eq_true, Option.toList_some, Option.toList_none, List.cons_append, List.nil_append, true_and, and_true, and_self, not_true_eq_false, not_false_eq_true, forall_const, false_implies, implies_true, Nat.le_refl, ne_eq, Bool.not_eq_true, eq_self, zshA, zb_rz, zb_ne, zb_eq, qem, true_implies, Nat.zero_le, false_and, and_false, Bool.or_eq_true, or_true, true_or, false_or, or_false, zr_75_18 hR, zr_75_28 hR, ec, h86, hto, e1, e3, e4, h90, gRun, List.headD_cons]
        exact zEn_mk f
  | succ j ih =>
    intro z k I h0 hj f hw hp hk
    have e1 : ¬ nI (o + e) ≤ nI (o + z) := q_tnle (by omega) (by omega)
    have e2 := q_row (m := o + z) (n := 600) (by omega) (by omega)
    have h86 : I 86 = I0 86 := f 86 (by decide)
    have h87 : I 87 = I0 87 := f 87 (by decide)
    have hw2 := hw.2
    have hl := gOk_len (L := gLt S D s) hw.1
    have hg := hsg z h0 (by omega)
    rcases hg with ⟨hx, hy⟩ | ⟨hx, hy⟩ | ⟨hx, hy⟩ | ⟨p, s', m, hp', hs', hm, hx, hy⟩
    · match k, hp, hw, hl, hw2, hk with
      | [], hp, hw, hl, hw2, hk => exact absurd hw.1 (by rw [hx]; exact gOk_no1 (.inl rfl) (by simp))
      | b :: r, hp, hw, hl, hw2, hk =>
        have g : gTok (gLt S D s) (co z) (b :: r) = (!b) :: r := by rw [hx]; rfl
        have w2 : gWf co (z + 1) j ((!b) :: r).length := by rw [← g, hl]; exact hw2
        have h90 : I 90 r.length = if b = true then 1 else 0 := hp.1
        simp only [List.length_cons] at hk
        have e5 := q_row (m := r.length) (n := 100) (by omega) (by omega)
        have e6 := nI_pred r.length
        have y := ih (z + 1) _ _ (by omega) (by omega) (mF_put f) w2 (hP_put (b := !b) hp.2) (by simp only [List.length_cons]; omega)
        have g2 : gRun co (gLt S D s) z (j + 1) (b :: r) = gRun co (gLt S D s) (z + 1) j ((!b) :: r) := by
          show gRun co (gLt S D s) (z + 1) j (gTok (gLt S D s) (co z) (b :: r)) = _
          rw [g]
        rw [← g2] at y
        refine zg_wp 60 _ ?_
        cases b
        · simp only [zpr_132, zhd_132, zp132, zh132, zml_132, o_bad, o_push, o_iload, o_lload, o_aload, o_istore, o_astore, o_lstore, o_iinc, o_ii, o_dv, o_i, o_ll, o_lshl, o_lcmp, o_i2l, o_l2i, o_dup, o_dup2, o_pop, o_goto, o_if, o_ic, o_sw, o_ireturn, o_nreturn, o_lreturn, o_return, o_min, o_max, o_geti, o_getr, o_puti, o_putz, o_putr, o_gets, o_iald, o_lald, o_aald, o_iast, o_last, o_aast, o_alen, o_new, o_newa, o_multi, o_call, o_scall, o_oinit, o_copyi, o_copyl, z_eq, z_ne, z_lt, z_ge, z_gt, z_le, z_ceq, z_cne, z_clt, z_cge, z_cgt, z_cle, z_rz, z_rb, z_rc, q_nz, zg_0, zg_s, zgk_s, zgh_n, zgh_s, zq_n, zq_br, zq_gd, zq_cl2, zqc_s, zq_rt, zq_sw, zq_st, zsws, zent, zpad, zla, zlg, zpop, zrv, zc1, zmk, zob_w, zaw_w, zar_w, zln_w, zld_w, zin_w, zcpg_w, znr_w, List.getElem?_cons_zero, List.getElem?_cons_succ, List.set_cons_zero, List.set_cons_succ, List.length_cons, List.length_nil, Nat.reduceLT, Nat.reduceLeDiff, Nat.reduceAdd, Nat.reduceSub, Nat.reduceMul, Nat.reduceEqDiff, Nat.reduceBEq, ↓reduceIte, q_10, q_01, q_00, q_m1, q_m2, q_m3, q_m4, q_m5, q_n1, q_n2, decide_eq_true_eq, decide_eq_false_iff_not, Bool.and_eq_true, Bool.true_and, Bool.and_true, Bool.decide_and, decide_true, decide_false, Bool.true_eq_false, Bool.false_eq_true, Option.toList_some, Option.toList_none, List.cons_append, List.nil_append, true_and, and_true, and_self, not_true_eq_false, not_false_eq_true, forall_const, false_implies, implies_true, Nat.le_refl, ne_eq, Bool.not_eq_true, eq_self, zshA, zb_rz, zb_ne, zb_eq, qem, true_implies, Nat.zero_le, false_and, and_false, Bool.or_eq_true, or_true, true_or, false_or, or_false, zr_75_18 hR, zr_75_19 hR, zr_75_28 hR, ec, h86, h87, hto, e1, e2, hy, q_m33b, e5, e6, h90, znr3]
          exact y
        · simp only [zpr_132, zhd_132, zp132, zh132, zml_132, o_bad, o_push, o_iload, o_lload, o_aload, o_istore, o_astore, o_lstore, o_iinc, o_ii, o_dv, o_i, o_ll, o_lshl, o_lcmp, o_i2l, o_l2i, o_dup, o_dup2, o_pop, o_goto, o_if, o_ic, o_sw, o_ireturn, o_nreturn, o_lreturn, o_return, o_min, o_max, o_geti, o_getr, o_puti, o_putz, o_putr, o_gets, o_iald, o_lald, o_aald, o_iast, o_last, o_aast, o_alen, o_new, o_newa, o_multi, o_call, o_scall, o_oinit, o_copyi, o_copyl, z_eq, z_ne, z_lt, z_ge, z_gt, z_le, z_ceq, z_cne, z_clt, z_cge, z_cgt, z_cle, z_rz, z_rb, z_rc, q_nz, zg_0, zg_s, zgk_s, zgh_n, zgh_s, zq_n, zq_br, zq_gd, zq_cl2, zqc_s, zq_rt, zq_sw, zq_st, zsws, zent, zpad, zla, zlg, zpop, zrv, zc1, zmk, zob_w, zaw_w, zar_w, zln_w, zld_w, zin_w, zcpg_w, znr_w, List.getElem?_cons_zero, List.getElem?_cons_succ, List.set_cons_zero, List.set_cons_succ, List.length_cons, List.length_nil, Nat.reduceLT, Nat.reduceLeDiff, Nat.reduceAdd, Nat.reduceSub, Nat.reduceMul, Nat.reduceEqDiff, Nat.reduceBEq, ↓reduceIte, q_10, q_01, q_00, q_m1, q_m2, q_m3, q_m4, q_m5, q_n1, q_n2, decide_eq_true_eq, decide_eq_false_iff_not, Bool.and_eq_true, Bool.true_and, Bool.and_true, Bool.decide_and, decide_true, decide_false, Bool.true_eq_false, Bool.false_eq_true, Option.toList_some, Option.toList_none, List.cons_append, List.nil_append, true_and, and_true, and_self, not_true_eq_false, not_false_eq_true, forall_const, false_implies, implies_true, Nat.le_refl, ne_eq, Bool.not_eq_true, eq_self, zshA, zb_rz, zb_ne, zb_eq, qem, true_implies, Nat.zero_le, false_and, and_false, Bool.or_eq_true, or_true, true_or, false_or, or_false, zr_75_18 hR, zr_75_19 hR, zr_75_28 hR, ec, h86, h87, hto, e1, e2, hy, q_m33b, e5, e6, h90, znr3]
          exact y
    · match k, hp, hw, hl, hw2, hk with
      | [], hp, hw, hl, hw2, hk => exact absurd hw.1 (by rw [hx]; exact gOk_no1 (.inr (.inl rfl)) (by simp))
      | [b], hp, hw, hl, hw2, hk => exact absurd hw.1 (by rw [hx]; exact gOk_no2 (.inr (.inl rfl)) (by simp) (by decide))
      | b :: a' :: r, hp, hw, hl, hw2, hk =>
        have g : gTok (gLt S D s) (co z) (b :: a' :: r) = (a' && b) :: r := by rw [hx]; rfl
        have w2 : gWf co (z + 1) j ((a' && b) :: r).length := by rw [← g, hl]; exact hw2
        have h90 : I 90 (r.length + 1) = if b = true then 1 else 0 := hp.1
        have h91 : I 90 r.length = if a' = true then 1 else 0 := hp.2.1
        simp only [List.length_cons] at hk
        have e5 := q_row (m := r.length) (n := 100) (by omega) (by omega)
        have e7 := q_row (m := r.length + 1) (n := 100) (by omega) (by omega)
        have e6 := nI_pred r.length
        have e8 := q_neg1 (m := r.length + 1)
        have y := ih (z + 1) _ _ (by omega) (by omega) (mF_put f) w2 (hP_put (b := a' && b) hp.2.2) (by simp only [List.length_cons]; omega)
        have g2 : gRun co (gLt S D s) z (j + 1) (b :: a' :: r) = gRun co (gLt S D s) (z + 1) j ((a' && b) :: r) := by
          show gRun co (gLt S D s) (z + 1) j (gTok (gLt S D s) (co z) (b :: a' :: r)) = _
          rw [g]
        rw [← g2] at y
        refine zg_wp 60 _ ?_
        cases b <;> cases a' <;> (simp only [zpr_132, zhd_132, zp132, zh132, zml_132, o_bad, o_push, o_iload, o_lload, o_aload, o_istore, o_astore, o_lstore, o_iinc, o_ii, o_dv, o_i, o_ll, o_lshl, o_lcmp, o_i2l, o_l2i, o_dup, o_dup2, o_pop, o_goto, o_if, o_ic, o_sw, o_ireturn, o_nreturn, o_lreturn, o_return, o_min, o_max, o_geti, o_getr, o_puti, o_putz, o_putr, o_gets, o_iald, o_lald, o_aald, o_iast, o_last, o_aast, o_alen, o_new, o_newa, o_multi, o_call, o_scall, o_oinit, o_copyi, o_copyl, z_eq, z_ne, z_lt, z_ge, z_gt, z_le, z_ceq, z_cne, z_clt, z_cge, z_cgt, z_cle, z_rz, z_rb, z_rc, q_nz, zg_0, zg_s, zgk_s, zgh_n, zgh_s, zq_n, zq_br, zq_gd, zq_cl2, zqc_s, zq_rt, zq_sw, zq_st, zsws, zent, zpad, zla, zlg, zpop, zrv, zc1, zmk, zob_w, zaw_w, zar_w, zln_w, zld_w, zin_w, zcpg_w, znr_w, List.getElem?_cons_zero, List.getElem?_cons_succ, List.set_cons_zero, List.set_cons_succ, List.length_cons, List.length_nil, Nat.reduceLT, Nat.reduceLeDiff, Nat.reduceAdd, Nat.reduceSub, Nat.reduceMul, Nat.reduceEqDiff, Nat.reduceBEq, ↓reduceIte, q_10, q_01, q_00, q_m1, q_m2, q_m3, q_m4, q_m5, q_n1, q_n2, decide_eq_true_eq, decide_eq_false_iff_not, Bool.and_eq_true, Bool.true_and, Bool.and_true, Bool.decide_and, decide_true, decide_false, Bool.true_eq_false, Bool.false_eq_true, Option.toList_some, Option.toList_none, List.cons_append, List.nil_append, true_and, and_true, and_self, not_true_eq_false, not_false_eq_true, forall_const, false_implies, implies_true, Nat.le_refl, ne_eq, Bool.not_eq_true, eq_self, zshA, zb_rz, zb_ne, zb_eq, qem, true_implies, Nat.zero_le, false_and, and_false, Bool.or_eq_true, or_true, true_or, false_or, or_false, zr_75_18 hR, zr_75_19 hR, zr_75_28 hR, ec, h86, h87, hto, e1, e2, hy, q_m33b, e5, e6, e7, e8, h90, h91, znr3]; exact y)
    · match k, hp, hw, hl, hw2, hk with
      | [], hp, hw, hl, hw2, hk => exact absurd hw.1 (by rw [hx]; exact gOk_no1 (.inr (.inr rfl)) (by simp))
      | [b], hp, hw, hl, hw2, hk => exact absurd hw.1 (by rw [hx]; exact gOk_no2 (.inr (.inr rfl)) (by simp) (by decide))
      | b :: a' :: r, hp, hw, hl, hw2, hk =>
        have g : gTok (gLt S D s) (co z) (b :: a' :: r) = (a' || b) :: r := by rw [hx]; rfl
        have w2 : gWf co (z + 1) j ((a' || b) :: r).length := by rw [← g, hl]; exact hw2
        have h90 : I 90 (r.length + 1) = if b = true then 1 else 0 := hp.1
        have h91 : I 90 r.length = if a' = true then 1 else 0 := hp.2.1
        simp only [List.length_cons] at hk
        have e5 := q_row (m := r.length) (n := 100) (by omega) (by omega)
        have e7 := q_row (m := r.length + 1) (n := 100) (by omega) (by omega)
        have e6 := nI_pred r.length
        have e8 := q_neg1 (m := r.length + 1)
        have y := ih (z + 1) _ _ (by omega) (by omega) (mF_put f) w2 (hP_put (b := a' || b) hp.2.2) (by simp only [List.length_cons]; omega)
        have g2 : gRun co (gLt S D s) z (j + 1) (b :: a' :: r) = gRun co (gLt S D s) (z + 1) j ((a' || b) :: r) := by
          show gRun co (gLt S D s) (z + 1) j (gTok (gLt S D s) (co z) (b :: a' :: r)) = _
          rw [g]
        rw [← g2] at y
        refine zg_wp 60 _ ?_
        cases b <;> cases a' <;> (simp only [zpr_132, zhd_132, zp132, zh132, zml_132, o_bad, o_push, o_iload, o_lload, o_aload, o_istore, o_astore, o_lstore, o_iinc, o_ii, o_dv, o_i, o_ll, o_lshl, o_lcmp, o_i2l, o_l2i, o_dup, o_dup2, o_pop, o_goto, o_if, o_ic, o_sw, o_ireturn, o_nreturn, o_lreturn, o_return, o_min, o_max, o_geti, o_getr, o_puti, o_putz, o_putr, o_gets, o_iald, o_lald, o_aald, o_iast, o_last, o_aast, o_alen, o_new, o_newa, o_multi, o_call, o_scall, o_oinit, o_copyi, o_copyl, z_eq, z_ne, z_lt, z_ge, z_gt, z_le, z_ceq, z_cne, z_clt, z_cge, z_cgt, z_cle, z_rz, z_rb, z_rc, q_nz, zg_0, zg_s, zgk_s, zgh_n, zgh_s, zq_n, zq_br, zq_gd, zq_cl2, zqc_s, zq_rt, zq_sw, zq_st, zsws, zent, zpad, zla, zlg, zpop, zrv, zc1, zmk, zob_w, zaw_w, zar_w, zln_w, zld_w, zin_w, zcpg_w, znr_w, List.getElem?_cons_zero, List.getElem?_cons_succ, List.set_cons_zero, List.set_cons_succ, List.length_cons, List.length_nil, Nat.reduceLT, Nat.reduceLeDiff, Nat.reduceAdd, Nat.reduceSub, Nat.reduceMul, Nat.reduceEqDiff, Nat.reduceBEq, ↓reduceIte, q_10, q_01, q_00, q_m1, q_m2, q_m3, q_m4, q_m5, q_n1, q_n2, decide_eq_true_eq, decide_eq_false_iff_not, Bool.and_eq_true, Bool.true_and, Bool.and_true, Bool.decide_and, decide_true, decide_false, Bool.true_eq_false, Bool.false_eq_true, Option.toList_some, Option.toList_none, List.cons_append, List.nil_append, true_and, and_true, and_self, not_true_eq_false, not_false_eq_true, forall_const, false_implies, implies_true, Nat.le_refl, ne_eq, Bool.not_eq_true, eq_self, zshA, zb_rz, zb_ne, zb_eq, qem, true_implies, Nat.zero_le, false_and, and_false, Bool.or_eq_true, or_true, true_or, false_or, or_false, zr_75_18 hR, zr_75_19 hR, zr_75_28 hR, ec, h86, h87, hto, e1, e2, hy, q_m33b, e5, e6, e7, e8, h90, h91, znr3]; exact y)
    · have hn : k.length < 30 := by
        rcases hw.1 with ⟨hx2, _⟩ | ⟨hx2, _⟩ | ⟨hx2, _⟩ | ⟨p2, s2, m2, _, _, _, _, h⟩
        · exact absurd (hx.symm.trans hx2) (gOk_pos hp' hs' hm).1
        · exact absurd (hx.symm.trans hx2) (gOk_pos hp' hs' hm).2.1
        · exact absurd (hx.symm.trans hx2) (gOk_pos hp' hs' hm).2.2
        · exact h
      have g : gTok (gLt S D s) (co z) k = gTs (gLt S D s) p s' m :: k := by rw [hx]; exact gTok_test hp' hs' hm
      have w2 : gWf co (z + 1) j (gTs (gLt S D s) p s' m :: k).length := by rw [← g, hl]; exact hw2
      have y := ih (z + 1) _ _ (by omega) (by omega) (mF_put f) w2 (hP_put (b := gTs (gLt S D s) p s' m) hp) (by simp only [List.length_cons]; omega)
      have y1 : nI (1000 * p + 100 * s' + m) / 1000 = nI p := by
        rw [show (1000 : Int32) = nI 1000 from rfl, q_divI (by omega) (by omega) (by omega), show (1000 * p + 100 * s' + m) / 1000 = p from by omega]
      have y2 : nI (1000 * p + 100 * s' + m) / 100 - nI (1000 * p + 100 * s' + m) / 100 / 10 * 10 = nI s' := by
        rw [show (100 : Int32) = nI 100 from rfl, q_divI (by omega) (by omega) (by omega), show (10 : Int32) = nI 10 from rfl, q_remI (by omega) (by omega) (by omega), show (1000 * p + 100 * s' + m) / 100 % 10 = s' from by omega]
      have y3 : nI (1000 * p + 100 * s' + m) - nI (1000 * p + 100 * s' + m) / 100 * 100 = nI m := by
        rw [show (100 : Int32) = nI 100 from rfl, q_remI (by omega) (by omega) (by omega), show (1000 * p + 100 * s' + m) % 100 = m from by omega]
      have x1 : (nI (1000 * p + 100 * s' + m) = -33) = False := eq_false (q_nneg (by omega) (n := 33) (by omega) (by omega))
      have x2 : ((0 : Int32) ≤ nI (1000 * p + 100 * s' + m)) = True := eq_true (q_tle (m := 0) (by omega) (by omega))
      have e5 := q_row (m := k.length) (n := 100) (by omega) (by omega)
      have e9 := sp_131 (d := d) (J := J) hR (mV_f V f) hp' hs
      have g2 : gRun co (gLt S D s) z (j + 1) k = gRun co (gLt S D s) (z + 1) j (gTs (gLt S D s) p s' m :: k) := by
        show gRun co (gLt S D s) (z + 1) j (gTok (gLt S D s) (co z) k) = _
        rw [g]
      rw [← g2] at y
      refine zg_wp 80 _ ?_
      rcases (by omega : s' = 0 ∨ s' = 1 ∨ s' = 2) with rfl | rfl | rfl
      · by_cases hq : gLt S D s p < nI m
        · have gq : gTs (gLt S D s) p 0 m = true := by simp [gTs, hq]
          have z0 : (nI 0 = 0) = True := eq_true rfl
          rw [gq] at y
          have hq' := Int32.not_le.mpr hq
          simp only [zpr_132, zhd_132, zp132, zh132, zml_132, o_bad, o_push, o_iload, o_lload, o_aload, o_istore, o_astore, o_lstore, o_iinc, o_ii, o_dv, o_i, o_ll, o_lshl, o_lcmp, o_i2l, o_l2i, o_dup, o_dup2, o_pop, o_goto, o_if, o_ic, o_sw, o_ireturn, o_nreturn, o_lreturn, o_return, o_min, o_max, o_geti, o_getr, o_puti, o_putz, o_putr, o_gets, o_iald, o_lald, o_aald, o_iast, o_last, o_aast, o_alen, o_new, o_newa, o_multi, o_call, o_scall, o_oinit, o_copyi, o_copyl, z_eq, z_ne, z_lt, z_ge, z_gt, z_le, z_ceq, z_cne, z_clt, z_cge, z_cgt, z_cle, z_rz, z_rb, z_rc, q_nz, zg_0, zg_s, zgk_s, zgh_n, zgh_s, zq_n, zq_br, zq_gd, zq_cl2, zqc_s, zq_rt, zq_sw, zq_st, zsws, zent, zpad, zla, zlg, zpop, zrv, zc1, zmk, zob_w, zaw_w, zar_w, zln_w, zld_w, zin_w, zcpg_w, znr_w, List.getElem?_cons_zero, List.getElem?_cons_succ, List.set_cons_zero, List.set_cons_succ, List.length_cons, List.length_nil, Nat.reduceLT, Nat.reduceLeDiff, Nat.reduceAdd, Nat.reduceSub, Nat.reduceMul, Nat.reduceEqDiff, Nat.reduceBEq, ↓reduceIte, q_10, q_01, q_00, q_m1, q_m2, q_m3, q_m4, q_m5, q_n1, q_n2, decide_eq_true_eq, decide_eq_false_iff_not, Bool.and_eq_true, Bool.true_and, Bool.and_true, Bool.decide_and, decide_true, decide_false, Bool.true_eq_false, Bool.false_eq_true, Option.toList_some, Option.toList_none, List.cons_append, List.nil_append, true_and, and_true, and_self, not_true_eq_false, not_false_eq_true, forall_const, false_implies, implies_true, Nat.le_refl, ne_eq, Bool.not_eq_true, eq_self, zshA, zb_rz, zb_ne, zb_eq, qem, true_implies, Nat.zero_le, false_and, and_false, Bool.or_eq_true, or_true, true_or, false_or, or_false, zr_75_18 hR, zr_75_19 hR, zr_75_28 hR, ec, h86, h87, hto, e1, e2, hy, y1, y2, y3, x1, x2, e5, e9, z0, hq', znr3]
          exact y
        · have gq : gTs (gLt S D s) p 0 m = false := by simp [gTs, hq]
          have z0 : (nI 0 = 0) = True := eq_true rfl
          rw [gq] at y
          have hq' := Int32.not_lt.mp hq
          simp only [zpr_132, zhd_132, zp132, zh132, zml_132, o_bad, o_push, o_iload, o_lload, o_aload, o_istore, o_astore, o_lstore, o_iinc, o_ii, o_dv, o_i, o_ll, o_lshl, o_lcmp, o_i2l, o_l2i, o_dup, o_dup2, o_pop, o_goto, o_if, o_ic, o_sw, o_ireturn, o_nreturn, o_lreturn, o_return, o_min, o_max, o_geti, o_getr, o_puti, o_putz, o_putr, o_gets, o_iald, o_lald, o_aald, o_iast, o_last, o_aast, o_alen, o_new, o_newa, o_multi, o_call, o_scall, o_oinit, o_copyi, o_copyl, z_eq, z_ne, z_lt, z_ge, z_gt, z_le, z_ceq, z_cne, z_clt, z_cge, z_cgt, z_cle, z_rz, z_rb, z_rc, q_nz, zg_0, zg_s, zgk_s, zgh_n, zgh_s, zq_n, zq_br, zq_gd, zq_cl2, zqc_s, zq_rt, zq_sw, zq_st, zsws, zent, zpad, zla, zlg, zpop, zrv, zc1, zmk, zob_w, zaw_w, zar_w, zln_w, zld_w, zin_w, zcpg_w, znr_w, List.getElem?_cons_zero, List.getElem?_cons_succ, List.set_cons_zero, List.set_cons_succ, List.length_cons, List.length_nil, Nat.reduceLT, Nat.reduceLeDiff, Nat.reduceAdd, Nat.reduceSub, Nat.reduceMul, Nat.reduceEqDiff, Nat.reduceBEq, ↓reduceIte, q_10, q_01, q_00, q_m1, q_m2, q_m3, q_m4, q_m5, q_n1, q_n2, decide_eq_true_eq, decide_eq_false_iff_not, Bool.and_eq_true, Bool.true_and, Bool.and_true, Bool.decide_and, decide_true, decide_false, Bool.true_eq_false, Bool.false_eq_true, Option.toList_some, Option.toList_none, List.cons_append, List.nil_append, true_and, and_true, and_self, not_true_eq_false, not_false_eq_true, forall_const, false_implies, implies_true, Nat.le_refl, ne_eq, Bool.not_eq_true, eq_self, zshA, zb_rz, zb_ne, zb_eq, qem, true_implies, Nat.zero_le, false_and, and_false, Bool.or_eq_true, or_true, true_or, false_or, or_false, zr_75_18 hR, zr_75_19 hR, zr_75_28 hR, ec, h86, h87, hto, e1, e2, hy, y1, y2, y3, x1, x2, e5, e9, z0, hq', znr3]
          exact y
      · by_cases hq : gLt S D s p = nI m
        · have gq : gTs (gLt S D s) p 1 m = true := by simp [gTs, hq]
          have z0 : (nI 1 = 0) = False := eq_false (by decide)
          have z1 : (nI 1 = 1) = True := eq_true rfl
          rw [gq] at y
          simp only [zpr_132, zhd_132, zp132, zh132, zml_132, o_bad, o_push, o_iload, o_lload, o_aload, o_istore, o_astore, o_lstore, o_iinc, o_ii, o_dv, o_i, o_ll, o_lshl, o_lcmp, o_i2l, o_l2i, o_dup, o_dup2, o_pop, o_goto, o_if, o_ic, o_sw, o_ireturn, o_nreturn, o_lreturn, o_return, o_min, o_max, o_geti, o_getr, o_puti, o_putz, o_putr, o_gets, o_iald, o_lald, o_aald, o_iast, o_last, o_aast, o_alen, o_new, o_newa, o_multi, o_call, o_scall, o_oinit, o_copyi, o_copyl, z_eq, z_ne, z_lt, z_ge, z_gt, z_le, z_ceq, z_cne, z_clt, z_cge, z_cgt, z_cle, z_rz, z_rb, z_rc, q_nz, zg_0, zg_s, zgk_s, zgh_n, zgh_s, zq_n, zq_br, zq_gd, zq_cl2, zqc_s, zq_rt, zq_sw, zq_st, zsws, zent, zpad, zla, zlg, zpop, zrv, zc1, zmk, zob_w, zaw_w, zar_w, zln_w, zld_w, zin_w, zcpg_w, znr_w, List.getElem?_cons_zero, List.getElem?_cons_succ, List.set_cons_zero, List.set_cons_succ, List.length_cons, List.length_nil, Nat.reduceLT, Nat.reduceLeDiff, Nat.reduceAdd, Nat.reduceSub, Nat.reduceMul, Nat.reduceEqDiff, Nat.reduceBEq, ↓reduceIte, q_10, q_01, q_00, q_m1, q_m2, q_m3, q_m4, q_m5, q_n1, q_n2, decide_eq_true_eq, decide_eq_false_iff_not, Bool.and_eq_true, Bool.true_and, Bool.and_true, Bool.decide_and, decide_true, decide_false, Bool.true_eq_false, Bool.false_eq_true, Option.toList_some, Option.toList_none, List.cons_append, List.nil_append, true_and, and_true, and_self, not_true_eq_false, not_false_eq_true, forall_const, false_implies, implies_true, Nat.le_refl, ne_eq, Bool.not_eq_true, eq_self, zshA, zb_rz, zb_ne, zb_eq, qem, true_implies, Nat.zero_le, false_and, and_false, Bool.or_eq_true, or_true, true_or, false_or, or_false, zr_75_18 hR, zr_75_19 hR, zr_75_28 hR, ec, h86, h87, hto, e1, e2, hy, y1, y2, y3, x1, x2, e5, e9, z0, z1, hq, znr3]
          exact y
        · have gq : gTs (gLt S D s) p 1 m = false := by simp [gTs, hq]
          have z0 : (nI 1 = 0) = False := eq_false (by decide)
          have z1 : (nI 1 = 1) = True := eq_true rfl
          rw [gq] at y
          simp only [zpr_132, zhd_132, zp132, zh132, zml_132, o_bad, o_push, o_iload, o_lload, o_aload, o_istore, o_astore, o_lstore, o_iinc, o_ii, o_dv, o_i, o_ll, o_lshl, o_lcmp, o_i2l, o_l2i, o_dup, o_dup2, o_pop, o_goto, o_if, o_ic, o_sw, o_ireturn, o_nreturn, o_lreturn, o_return, o_min, o_max, o_geti, o_getr, o_puti, o_putz, o_putr, o_gets, o_iald, o_lald, o_aald, o_iast, o_last, o_aast, o_alen, o_new, o_newa, o_multi, o_call, o_scall, o_oinit, o_copyi, o_copyl, z_eq, z_ne, z_lt, z_ge, z_gt, z_le, z_ceq, z_cne, z_clt, z_cge, z_cgt, z_cle, z_rz, z_rb, z_rc, q_nz, zg_0, zg_s, zgk_s, zgh_n, zgh_s, zq_n, zq_br, zq_gd, zq_cl2, zqc_s, zq_rt, zq_sw, zq_st, zsws, zent, zpad, zla, zlg, zpop, zrv, zc1, zmk, zob_w, zaw_w, zar_w, zln_w, zld_w, zin_w, zcpg_w, znr_w, List.getElem?_cons_zero, List.getElem?_cons_succ, List.set_cons_zero, List.set_cons_succ, List.length_cons, List.length_nil, Nat.reduceLT, Nat.reduceLeDiff, Nat.reduceAdd, Nat.reduceSub, Nat.reduceMul, Nat.reduceEqDiff, Nat.reduceBEq, ↓reduceIte, q_10, q_01, q_00, q_m1, q_m2, q_m3, q_m4, q_m5, q_n1, q_n2, decide_eq_true_eq, decide_eq_false_iff_not, Bool.and_eq_true, Bool.true_and, Bool.and_true, Bool.decide_and, decide_true, decide_false, Bool.true_eq_false, Bool.false_eq_true, Option.toList_some, Option.toList_none, List.cons_append, List.nil_append, true_and, and_true, and_self, not_true_eq_false, not_false_eq_true, forall_const, false_implies, implies_true, Nat.le_refl, ne_eq, Bool.not_eq_true, eq_self, zshA, zb_rz, zb_ne, zb_eq, qem, true_implies, Nat.zero_le, false_and, and_false, Bool.or_eq_true, or_true, true_or, false_or, or_false, zr_75_18 hR, zr_75_19 hR, zr_75_28 hR, ec, h86, h87, hto, e1, e2, hy, y1, y2, y3, x1, x2, e5, e9, z0, z1, hq, znr3]
          exact y
      · by_cases hq : nI m < gLt S D s p
        · have gq : gTs (gLt S D s) p 2 m = true := by simp [gTs, hq]
          have z0 : (nI 2 = 0) = False := eq_false (by decide)
          have z1 : (nI 2 = 1) = False := eq_false (by decide)
          rw [gq] at y
          have hq' := Int32.not_le.mpr hq
          simp only [zpr_132, zhd_132, zp132, zh132, zml_132, o_bad, o_push, o_iload, o_lload, o_aload, o_istore, o_astore, o_lstore, o_iinc, o_ii, o_dv, o_i, o_ll, o_lshl, o_lcmp, o_i2l, o_l2i, o_dup, o_dup2, o_pop, o_goto, o_if, o_ic, o_sw, o_ireturn, o_nreturn, o_lreturn, o_return, o_min, o_max, o_geti, o_getr, o_puti, o_putz, o_putr, o_gets, o_iald, o_lald, o_aald, o_iast, o_last, o_aast, o_alen, o_new, o_newa, o_multi, o_call, o_scall, o_oinit, o_copyi, o_copyl, z_eq, z_ne, z_lt, z_ge, z_gt, z_le, z_ceq, z_cne, z_clt, z_cge, z_cgt, z_cle, z_rz, z_rb, z_rc, q_nz, zg_0, zg_s, zgk_s, zgh_n, zgh_s, zq_n, zq_br, zq_gd, zq_cl2, zqc_s, zq_rt, zq_sw, zq_st, zsws, zent, zpad, zla, zlg, zpop, zrv, zc1, zmk, zob_w, zaw_w, zar_w, zln_w, zld_w, zin_w, zcpg_w, znr_w, List.getElem?_cons_zero, List.getElem?_cons_succ, List.set_cons_zero, List.set_cons_succ, List.length_cons, List.length_nil, Nat.reduceLT, Nat.reduceLeDiff, Nat.reduceAdd, Nat.reduceSub, Nat.reduceMul, Nat.reduceEqDiff, Nat.reduceBEq, ↓reduceIte, q_10, q_01, q_00, q_m1, q_m2, q_m3, q_m4, q_m5, q_n1, q_n2, decide_eq_true_eq, decide_eq_false_iff_not, Bool.and_eq_true, Bool.true_and, Bool.and_true, Bool.decide_and, decide_true, decide_false, Bool.true_eq_false, Bool.false_eq_true, Option.toList_some, Option.toList_none, List.cons_append, List.nil_append, true_and, and_true, and_self, not_true_eq_false, not_false_eq_true, forall_const, false_implies, implies_true, Nat.le_refl, ne_eq, Bool.not_eq_true, eq_self, zshA, zb_rz, zb_ne, zb_eq, qem, true_implies, Nat.zero_le, false_and, and_false, Bool.or_eq_true, or_true, true_or, false_or, or_false, zr_75_18 hR, zr_75_19 hR, zr_75_28 hR, ec, h86, h87, hto, e1, e2, hy, y1, y2, y3, x1, x2, e5, e9, z0, z1, hq', znr3]
          exact y
        · have gq : gTs (gLt S D s) p 2 m = false := by simp [gTs, hq]
          have z0 : (nI 2 = 0) = False := eq_false (by decide)
          have z1 : (nI 2 = 1) = False := eq_false (by decide)
          rw [gq] at y
          have hq' := Int32.not_lt.mp hq
          simp only [zpr_132, zhd_132, zp132, zh132, zml_132, o_bad, o_push, o_iload, o_lload, o_aload, o_istore, o_astore, o_lstore, o_iinc, o_ii, o_dv, o_i, o_ll, o_lshl, o_lcmp, o_i2l, o_l2i, o_dup, o_dup2, o_pop, o_goto, o_if, o_ic, o_sw, o_ireturn, o_nreturn, o_lreturn, o_return, o_min, o_max, o_geti, o_getr, o_puti, o_putz, o_putr, o_gets, o_iald, o_lald, o_aald, o_iast, o_last, o_aast, o_alen, o_new, o_newa, o_multi, o_call, o_scall, o_oinit, o_copyi, o_copyl, z_eq, z_ne, z_lt, z_ge, z_gt, z_le, z_ceq, z_cne, z_clt, z_cge, z_cgt, z_cle, z_rz, z_rb, z_rc, q_nz, zg_0, zg_s, zgk_s, zgh_n, zgh_s, zq_n, zq_br, zq_gd, zq_cl2, zqc_s, zq_rt, zq_sw, zq_st, zsws, zent, zpad, zla, zlg, zpop, zrv, zc1, zmk, zob_w, zaw_w, zar_w, zln_w, zld_w, zin_w, zcpg_w, znr_w, List.getElem?_cons_zero, List.getElem?_cons_succ, List.set_cons_zero, List.set_cons_succ, List.length_cons, List.length_nil, Nat.reduceLT, Nat.reduceLeDiff, Nat.reduceAdd, Nat.reduceSub, Nat.reduceMul, Nat.reduceEqDiff, Nat.reduceBEq, ↓reduceIte, q_10, q_01, q_00, q_m1, q_m2, q_m3, q_m4, q_m5, q_n1, q_n2, decide_eq_true_eq, decide_eq_false_iff_not, Bool.and_eq_true, Bool.true_and, Bool.and_true, Bool.decide_and, decide_true, decide_false, Bool.true_eq_false, Bool.false_eq_true, Option.toList_some, Option.toList_none, List.cons_append, List.nil_append, true_and, and_true, and_self, not_true_eq_false, not_false_eq_true, forall_const, false_implies, implies_true, Nat.le_refl, ne_eq, Bool.not_eq_true, eq_self, zshA, zb_rz, zb_ne, zb_eq, qem, true_implies, Nat.zero_le, false_and, and_false, Bool.or_eq_true, or_true, true_or, false_or, or_false, zr_75_18 hR, zr_75_19 hR, zr_75_28 hR, ec, h86, h87, hto, e1, e2, hy, y1, y2, y3, x1, x2, e5, e9, z0, z1, hq', znr3]
          exact y
set_option maxRecDepth 40000 in
/-- holds -/
theorem sp_132 (hR : qRk R a b c i) {I : zI} (V : mV S D I) {co : Nat → Int32} {o e z0 cc s : Nat} (hc : cc < 60) (hs : s < 6) (ho : o ≤ 500) (he : e ≤ 100) (h0 : z0 ≤ e) (hfr : I 85 cc = nI (o + z0)) (hto : I 86 cc = nI (o + e)) (hsg : ∀ z, z0 ≤ z → z < e → gTr (co z) (I 87 (o + z))) (hw : gWf co z0 (e - z0) 0) : ∃ I', zcl (d + 2) 132 [.ref 75, .int (nI cc), .int (nI s)] (I, J, R, 111) = some (some (.int (if gSo co (gLt S D s) z0 e = true then 1 else 0)), (I', J, R, 111)) ∧ mF I I' := by
  have ec := q_row (m := cc) (n := 60) hc (by omega)
  refine zcl_en (Nat.le_of_ble_eq_true rfl) (zg_wp 30 _ ?_)
  simp only [zpr_132, zhd_132, zp132, zh132, zml_132, o_bad, o_push, o_iload, o_lload, o_aload, o_istore, o_astore, o_lstore, o_iinc, o_ii, o_dv, o_i, o_ll, o_lshl, o_lcmp, o_i2l, o_l2i, o_dup, o_dup2, o_pop, o_goto, o_if, o_ic, o_sw, o_ireturn, o_nreturn, o_lreturn, o_return, o_min, o_max, o_geti, o_getr, o_puti, o_putz, o_putr, o_gets, o_iald, o_lald, o_aald, o_iast, o_last, o_aast, o_alen, o_new, o_newa, o_multi, o_call, o_scall, o_oinit, o_copyi, o_copyl, z_eq, z_ne, z_lt, z_ge, z_gt, z_le, z_ceq, z_cne, z_clt, z_cge, z_cgt, z_cle, z_rz, z_rb, z_rc, q_nz, zg_0, zg_s, zgk_s, zgh_n, zgh_s, zq_n, zq_br, zq_gd, zq_cl2, zqc_s, zq_rt, zq_sw, zq_st, zsws, zent, zpad, zla, zlg, zpop, zrv, zc1, zmk, zob_w, zaw_w, zar_w, zln_w, zld_w, zin_w, zcpg_w, znr_w, List.getElem?_cons_zero, List.getElem?_cons_succ, List.set_cons_zero, List.set_cons_succ, List.length_cons, List.length_nil, Nat.reduceLT, Nat.reduceLeDiff, Nat.reduceAdd, Nat.reduceSub, Nat.reduceMul, Nat.reduceEqDiff, Nat.reduceBEq, ↓reduceIte, q_10, q_01, q_00, q_m1, q_m2, q_m3, q_m4, q_m5, q_n1, q_n2, decide_eq_true_eq, decide_eq_false_iff_not, Bool.and_eq_true, Bool.true_and, Bool.and_true, Bool.decide_and, decide_true, decide_false, Bool.true_eq_false, Bool.false_eq_true, Option.toList_some, Option.toList_none, List.cons_append, List.nil_append, true_and, and_true, and_self, not_true_eq_false, not_false_eq_true, forall_const, false_implies, implies_true, Nat.le_refl, ne_eq, Bool.not_eq_true, eq_self, zshA, zb_rz, zb_ne, zb_eq, qem, true_implies, Nat.zero_le, false_and, and_false, Bool.or_eq_true, or_true, true_or, false_or, or_false, zr_75_17 hR, ec, hfr]
  exact sl_132 hR V hc hs ho he hto hsg (e - z0) z0 [] I (Nat.le_refl _) (by omega) (fun _ _ => rfl) hw trivial (by simp)
set_option maxRecDepth 40000 in
/-- looks -/
theorem sl_133 (hR : qRk R a b c i) {I0 : zI} (V : mV S D I0) {ch ce co : Nat → Int32} {o s jj bg en : Nat} (hs : s < 6) (ho : o ≤ 500) (hkw : gKw jj ch ce co) (hB : mB bg en I0) : ∀ (k z i' : Nat) (I : zI), z + k = en → mF I0 I → gCl ch ce co (I0 83) (I0 84) (I0 85) (I0 86) (I0 87) o z k i' jj → zWP (zcl (d + 2)) 133 (12, [some (.ref 75), some (.int (nI s)), some (.int (g_l D s + gMs ch ce co (gLt S D s) i')), some (.int (nI z))], [], (I, J, R, 111)) (zEn (some (.int (g_l D s + gMs ch ce co (gLt S D s) jj))) J R (mF I0)) := by
  have hl := mB_le hB
  have hB2 : ∀ I, mF I0 I → mB bg en I := by
    intro I f
    unfold mB at hB ⊢
    rw [f 75 (by decide), f 82 (by decide)]
    exact hB
  intro k
  induction k with
  | zero =>
    intro z i' I hz f h
    have e1 : nI en ≤ nI z := q_tle (by omega) (by omega)
    refine zg_wp 20 _ ?_
    simp only [zpr_133, zhd_133, zp133, zh133, zml_133, o_bad, o_push, o_iload, o_lload, o_aload, o_istore, o_astore, o_lstore, o_iinc, o_ii, o_dv, o_i, o_ll, o_lshl, o_lcmp, o_i2l, o_l2i, o_dup, o_dup2, o_pop, o_goto, o_if, o_ic, o_sw, o_ireturn, o_nreturn, o_lreturn, o_return, o_min, o_max, o_geti, o_getr, o_puti, o_putz, o_putr, o_gets, o_iald, o_lald, o_aald, o_iast, o_last, o_aast, o_alen, o_new, o_newa, o_multi, o_call, o_scall, o_oinit, o_copyi, o_copyl, z_eq, z_ne, z_lt, z_ge, z_gt, z_le, z_ceq, z_cne, z_clt, z_cge, z_cgt, z_cle, z_rz, z_rb, z_rc, q_nz, zg_0, zg_s, zgk_s, zgh_n, zgh_s, zq_n, zq_br, zq_gd, zq_cl2, zqc_s, zq_rt, zq_sw, zq_st, zsws, zent, zpad, zla, zlg, zpop, zrv, zc1, zmk, zob_w, zaw_w, zar_w, zln_w, zld_w, zin_w, zcpg_w, znr_w, List.getElem?_cons_zero, List.getElem?_cons_succ, List.set_cons_zero, List.set_cons_succ, List.length_cons, List.length_nil, Nat.reduceLT, Nat.reduceLeDiff, Nat.reduceAdd, Nat.reduceSub, Nat.reduceMul, Nat.reduceEqDiff, Nat.reduceBEq, ↓reduceIte, q_10, q_01, q_00, q_m1, q_m2, q_m3, q_m4, q_m5, q_n1, q_n2, decide_eq_true_eq, decide_eq_false_iff_not, Bool.and_eq_true, Bool.true_and, Bool.and_true, Bool.decide_and, decide_true, decide_false, Bool.true_eq_false, Bool.false_eq_true, Option.toList_some, Option.toList_none, List.cons_append, List.nil_append, true_and, and_true, and_self, not_true_eq_false, not_false_eq_true, forall_const, false_implies, implies_true, Nat.le_refl, ne_eq, Bool.not_eq_true, eq_self, zshA, zb_rz, zb_ne, zb_eq, qem, true_implies, Nat.zero_le, false_and, and_false, Bool.or_eq_true, or_true, true_or, false_or, or_false, sp_126 hR (hB2 I f), e1]
    have h2 : i' = jj := h
    rw [h2]
    exact zEn_mk f
  | succ k ih =>
    intro z i' I hz f h
    have e1 : ¬ nI en ≤ nI z := q_tnle (by omega) (by omega)
    have e2 := q_row (m := z) (n := 60) (by omega) (by omega)
    have h83 : I 83 = I0 83 := f 83 (by decide)
    refine zg_wp 60 _ ?_
    rcases h with ⟨hw, hch, hfr, hto, hij, htr, hcl⟩ | ⟨hw, hcl⟩
    · obtain ⟨w1, w2, w3, w4, _⟩ := hkw.2 i' hij
      obtain ⟨I1, e, f1⟩ := sp_132 (d := d) (J := J) hR (mV_f V f) (co := co) (o := o) (e := gFr ce (i' + 1)) (z0 := gFr ce i') (cc := z) (s := s) (by omega) hs ho w2 (Nat.le_of_lt w1) (by rw [f 85 (by decide)]; exact hfr) (by rw [f 86 (by decide)]; exact hto) (by rw [f 87 (by decide)]; exact htr) w4
      have h831 : I1 83 = I0 83 := (f1 83 (by decide)).trans h83
      have h841 : I1 84 = I0 84 := (f1 84 (by decide)).trans (f 84 (by decide))
      have y := ih (z + 1) (i' + 1) I1 (by omega) (mF_t f f1) hcl
      have e01 : ((1 : Int32) < 0 ↔ False) ∧ ((1 : Int32) < 1 ↔ False) := by decide
      by_cases hso : gSo co (gLt S D s) (gFr ce i') (gFr ce (i' + 1)) = true
      · have g : gMs ch ce co (gLt S D s) (i' + 1) = gMs ch ce co (gLt S D s) i' + ch i' := if_pos hso
        rw [g, ← Int32.add_assoc] at y
        rcases hw with hw | hw
        · rw [hch, if_pos hw] at y
          simp only [zpr_133, zhd_133, zp133, zh133, zml_133, o_bad, o_push, o_iload, o_lload, o_aload, o_istore, o_astore, o_lstore, o_iinc, o_ii, o_dv, o_i, o_ll, o_lshl, o_lcmp, o_i2l, o_l2i, o_dup, o_dup2, o_pop, o_goto, o_if, o_ic, o_sw, o_ireturn, o_nreturn, o_lreturn, o_return, o_min, o_max, o_geti, o_getr, o_puti, o_putz, o_putr, o_gets, o_iald, o_lald, o_aald, o_iast, o_last, o_aast, o_alen, o_new, o_newa, o_multi, o_call, o_scall, o_oinit, o_copyi, o_copyl, z_eq, z_ne, z_lt, z_ge, z_gt, z_le, z_ceq, z_cne, z_clt, z_cge, z_cgt, z_cle, z_rz, z_rb, z_rc, q_nz, zg_0, zg_s, zgk_s, zgh_n, zgh_s, zq_n, zq_br, zq_gd, zq_cl2, zqc_s, zq_rt, zq_sw, zq_st, zsws, zent, zpad, zla, zlg, zpop, zrv, zc1, zmk, zob_w, zaw_w, zar_w, zln_w, zld_w, zin_w, zcpg_w, znr_w, List.getElem?_cons_zero, List.getElem?_cons_succ, List.set_cons_zero, List.set_cons_succ, List.length_cons, List.length_nil, Nat.reduceLT, Nat.reduceLeDiff, Nat.reduceAdd, Nat.reduceSub, Nat.reduceMul, Nat.reduceEqDiff, Nat.reduceBEq, ↓reduceIte, q_10, q_01, q_00, q_m1, q_m2, q_m3, q_m4, q_m5, q_n1, q_n2, decide_eq_true_eq, decide_eq_false_iff_not, Bool.and_eq_true, Bool.true_and, Bool.and_true, Bool.decide_and, decide_true, decide_false, Bool.true_eq_false, Bool.false_eq_true, Option.toList_some, Option.toList_none, List.cons_append, List.nil_append, true_and, and_true, and_self, not_true_eq_false, not_false_eq_true, forall_const, false_implies, implies_true, Nat.le_refl, ne_eq, Bool.not_eq_true, eq_self, zshA, zb_rz, zb_ne, zb_eq, qem, true_implies, Nat.zero_le, false_and, and_false, Bool.or_eq_true, or_true, true_or, false_or, or_false, sp_126 hR (hB2 I f), e1, e2, zr_75_15 hR, zr_75_16 hR, h83, h831, h841, hw, e01, e, hso]
          exact y
        · rw [hch, if_neg (by rw [hw]; decide)] at y
          simp only [zpr_133, zhd_133, zp133, zh133, zml_133, o_bad, o_push, o_iload, o_lload, o_aload, o_istore, o_astore, o_lstore, o_iinc, o_ii, o_dv, o_i, o_ll, o_lshl, o_lcmp, o_i2l, o_l2i, o_dup, o_dup2, o_pop, o_goto, o_if, o_ic, o_sw, o_ireturn, o_nreturn, o_lreturn, o_return, o_min, o_max, o_geti, o_getr, o_puti, o_putz, o_putr, o_gets, o_iald, o_lald, o_aald, o_iast, o_last, o_aast, o_alen, o_new, o_newa, o_multi, o_call, o_scall, o_oinit, o_copyi, o_copyl, z_eq, z_ne, z_lt, z_ge, z_gt, z_le, z_ceq, z_cne, z_clt, z_cge, z_cgt, z_cle, z_rz, z_rb, z_rc, q_nz, zg_0, zg_s, zgk_s, zgh_n, zgh_s, zq_n, zq_br, zq_gd, zq_cl2, zqc_s, zq_rt, zq_sw, zq_st, zsws, zent, zpad, zla, zlg, zpop, zrv, zc1, zmk, zob_w, zaw_w, zar_w, zln_w, zld_w, zin_w, zcpg_w, znr_w, List.getElem?_cons_zero, List.getElem?_cons_succ, List.set_cons_zero, List.set_cons_succ, List.length_cons, List.length_nil, Nat.reduceLT, Nat.reduceLeDiff, Nat.reduceAdd, Nat.reduceSub, Nat.reduceMul, Nat.reduceEqDiff, Nat.reduceBEq, ↓reduceIte, q_10, q_01, q_00, q_m1, q_m2, q_m3, q_m4, q_m5, q_n1, q_n2, decide_eq_true_eq, decide_eq_false_iff_not, Bool.and_eq_true, Bool.true_and, Bool.and_true, Bool.decide_and, decide_true, decide_false, Bool.true_eq_false, Bool.false_eq_true, Option.toList_some, Option.toList_none, List.cons_append, List.nil_append, true_and, and_true, and_self, not_true_eq_false, not_false_eq_true, forall_const, false_implies, implies_true, Nat.le_refl, ne_eq, Bool.not_eq_true, eq_self, zshA, zb_rz, zb_ne, zb_eq, qem, true_implies, Nat.zero_le, false_and, and_false, Bool.or_eq_true, or_true, true_or, false_or, or_false, sp_126 hR (hB2 I f), e1, e2, zr_75_15 hR, zr_75_16 hR, h83, h831, h841, hw, e01, e, hso]
          exact y
      · have g : gMs ch ce co (gLt S D s) (i' + 1) = gMs ch ce co (gLt S D s) i' := if_neg hso
        rw [g] at y
        rcases hw with hw | hw
        · simp only [zpr_133, zhd_133, zp133, zh133, zml_133, o_bad, o_push, o_iload, o_lload, o_aload, o_istore, o_astore, o_lstore, o_iinc, o_ii, o_dv, o_i, o_ll, o_lshl, o_lcmp, o_i2l, o_l2i, o_dup, o_dup2, o_pop, o_goto, o_if, o_ic, o_sw, o_ireturn, o_nreturn, o_lreturn, o_return, o_min, o_max, o_geti, o_getr, o_puti, o_putz, o_putr, o_gets, o_iald, o_lald, o_aald, o_iast, o_last, o_aast, o_alen, o_new, o_newa, o_multi, o_call, o_scall, o_oinit, o_copyi, o_copyl, z_eq, z_ne, z_lt, z_ge, z_gt, z_le, z_ceq, z_cne, z_clt, z_cge, z_cgt, z_cle, z_rz, z_rb, z_rc, q_nz, zg_0, zg_s, zgk_s, zgh_n, zgh_s, zq_n, zq_br, zq_gd, zq_cl2, zqc_s, zq_rt, zq_sw, zq_st, zsws, zent, zpad, zla, zlg, zpop, zrv, zc1, zmk, zob_w, zaw_w, zar_w, zln_w, zld_w, zin_w, zcpg_w, znr_w, List.getElem?_cons_zero, List.getElem?_cons_succ, List.set_cons_zero, List.set_cons_succ, List.length_cons, List.length_nil, Nat.reduceLT, Nat.reduceLeDiff, Nat.reduceAdd, Nat.reduceSub, Nat.reduceMul, Nat.reduceEqDiff, Nat.reduceBEq, ↓reduceIte, q_10, q_01, q_00, q_m1, q_m2, q_m3, q_m4, q_m5, q_n1, q_n2, decide_eq_true_eq, decide_eq_false_iff_not, Bool.and_eq_true, Bool.true_and, Bool.and_true, Bool.decide_and, decide_true, decide_false, Bool.true_eq_false, Bool.false_eq_true, Option.toList_some, Option.toList_none, List.cons_append, List.nil_append, true_and, and_true, and_self, not_true_eq_false, not_false_eq_true, forall_const, false_implies, implies_true, Nat.le_refl, ne_eq, Bool.not_eq_true, eq_self, zshA, zb_rz, zb_ne, zb_eq, qem, true_implies, Nat.zero_le, false_and, and_false, Bool.or_eq_true, or_true, true_or, false_or, or_false, sp_126 hR (hB2 I f), e1, e2, zr_75_15 hR, zr_75_16 hR, h83, h831, h841, hw, e01, e, hso]
          exact y
        · simp only [zpr_133, zhd_133, zp133, zh133, zml_133, o_bad, o_push, o_iload, o_lload, o_aload, o_istore, o_astore, o_lstore, o_iinc, o_ii, o_dv, o_i, o_ll, o_lshl, o_lcmp, o_i2l, o_l2i, o_dup, o_dup2, o_pop, o_goto, o_if, o_ic, o_sw, o_ireturn, o_nreturn, o_lreturn, o_return, o_min, o_max, o_geti, o_getr, o_puti, o_putz, o_putr, o_gets, o_iald, o_lald, o_aald, o_iast, o_last, o_aast, o_alen, o_new, o_newa, o_multi, o_call, o_scall, o_oinit, o_copyi, o_copyl, z_eq, z_ne, z_lt, z_ge, z_gt, z_le, z_ceq, z_cne, z_clt, z_cge, z_cgt, z_cle, z_rz, z_rb, z_rc, q_nz, zg_0, zg_s, zgk_s, zgh_n, zgh_s, zq_n, zq_br, zq_gd, zq_cl2, zqc_s, zq_rt, zq_sw, zq_st, zsws, zent, zpad, zla, zlg, zpop, zrv, zc1, zmk, zob_w, zaw_w, zar_w, zln_w, zld_w, zin_w, zcpg_w, znr_w, List.getElem?_cons_zero, List.getElem?_cons_succ, List.set_cons_zero, List.set_cons_succ, List.length_cons, List.length_nil, Nat.reduceLT, Nat.reduceLeDiff, Nat.reduceAdd, Nat.reduceSub, Nat.reduceMul, Nat.reduceEqDiff, Nat.reduceBEq, ↓reduceIte, q_10, q_01, q_00, q_m1, q_m2, q_m3, q_m4, q_m5, q_n1, q_n2, decide_eq_true_eq, decide_eq_false_iff_not, Bool.and_eq_true, Bool.true_and, Bool.and_true, Bool.decide_and, decide_true, decide_false, Bool.true_eq_false, Bool.false_eq_true, Option.toList_some, Option.toList_none, List.cons_append, List.nil_append, true_and, and_true, and_self, not_true_eq_false, not_false_eq_true, forall_const, false_implies, implies_true, Nat.le_refl, ne_eq, Bool.not_eq_true, eq_self, zshA, zb_rz, zb_ne, zb_eq, qem, true_implies, Nat.zero_le, false_and, and_false, Bool.or_eq_true, or_true, true_or, false_or, or_false, sp_126 hR (hB2 I f), e1, e2, zr_75_15 hR, zr_75_16 hR, h83, h831, h841, hw, e01, e, hso]
          exact y
    · have hw' := Int32.not_le.mp hw
      simp only [zpr_133, zhd_133, zp133, zh133, zml_133, o_bad, o_push, o_iload, o_lload, o_aload, o_istore, o_astore, o_lstore, o_iinc, o_ii, o_dv, o_i, o_ll, o_lshl, o_lcmp, o_i2l, o_l2i, o_dup, o_dup2, o_pop, o_goto, o_if, o_ic, o_sw, o_ireturn, o_nreturn, o_lreturn, o_return, o_min, o_max, o_geti, o_getr, o_puti, o_putz, o_putr, o_gets, o_iald, o_lald, o_aald, o_iast, o_last, o_aast, o_alen, o_new, o_newa, o_multi, o_call, o_scall, o_oinit, o_copyi, o_copyl, z_eq, z_ne, z_lt, z_ge, z_gt, z_le, z_ceq, z_cne, z_clt, z_cge, z_cgt, z_cle, z_rz, z_rb, z_rc, q_nz, zg_0, zg_s, zgk_s, zgh_n, zgh_s, zq_n, zq_br, zq_gd, zq_cl2, zqc_s, zq_rt, zq_sw, zq_st, zsws, zent, zpad, zla, zlg, zpop, zrv, zc1, zmk, zob_w, zaw_w, zar_w, zln_w, zld_w, zin_w, zcpg_w, znr_w, List.getElem?_cons_zero, List.getElem?_cons_succ, List.set_cons_zero, List.set_cons_succ, List.length_cons, List.length_nil, Nat.reduceLT, Nat.reduceLeDiff, Nat.reduceAdd, Nat.reduceSub, Nat.reduceMul, Nat.reduceEqDiff, Nat.reduceBEq, ↓reduceIte, q_10, q_01, q_00, q_m1, q_m2, q_m3, q_m4, q_m5, q_n1, q_n2, decide_eq_true_eq, decide_eq_false_iff_not, Bool.and_eq_true, Bool.true_and, Bool.and_true, Bool.decide_and, decide_true, decide_false, Bool.true_eq_false, Bool.false_eq_true, Option.toList_some, Option.toList_none, List.cons_append, List.nil_append, true_and, and_true, and_self, not_true_eq_false, not_false_eq_true, forall_const, false_implies, implies_true, Nat.le_refl, ne_eq, Bool.not_eq_true, eq_self, zshA, zb_rz, zb_ne, zb_eq, qem, true_implies, Nat.zero_le, false_and, and_false, Bool.or_eq_true, or_true, true_or, false_or, or_false, sp_126 hR (hB2 I f), e1, e2, zr_75_15 hR, h83, hw']
      exact ih (z + 1) i' I (by omega) f hcl
set_option maxRecDepth 40000 in
theorem sp_133 (hR : qRk R a b c i) {I : zI} (V : mV S D I) (hK : mK S I) {s : Nat} (hs : s < 6) : ∃ I', zcl (d + 3) 133 [.ref 75, .int (nI s)] (I, J, R, 111) = some (some (.int (gLk S D s)), (I', J, R, 111)) ∧ mF I I' := by
  obtain ⟨bg, en, o, j, ch, co, ce, ⟨hb, ho, hkw⟩, h1, h2, h3, h4, h5⟩ := hK
  have v3 := V.1.2.2.2.1
  have e2 := q_row (m := s) (n := 6) hs (by omega)
  have g : gLk S D s = g_l D s + gMs ch ce co (gLt S D s) j := by unfold gLk; rw [h5]
  rw [g]
  refine zcl_en (Nat.le_of_ble_eq_true rfl) (zg_wp 30 _ ?_)
  simp only [zpr_133, zhd_133, zp133, zh133, zml_133, o_bad, o_push, o_iload, o_lload, o_aload, o_istore, o_astore, o_lstore, o_iinc, o_ii, o_dv, o_i, o_ll, o_lshl, o_lcmp, o_i2l, o_l2i, o_dup, o_dup2, o_pop, o_goto, o_if, o_ic, o_sw, o_ireturn, o_nreturn, o_lreturn, o_return, o_min, o_max, o_geti, o_getr, o_puti, o_putz, o_putr, o_gets, o_iald, o_lald, o_aald, o_iast, o_last, o_aast, o_alen, o_new, o_newa, o_multi, o_call, o_scall, o_oinit, o_copyi, o_copyl, z_eq, z_ne, z_lt, z_ge, z_gt, z_le, z_ceq, z_cne, z_clt, z_cge, z_cgt, z_cle, z_rz, z_rb, z_rc, q_nz, zg_0, zg_s, zgk_s, zgh_n, zgh_s, zq_n, zq_br, zq_gd, zq_cl2, zqc_s, zq_rt, zq_sw, zq_st, zsws, zent, zpad, zla, zlg, zpop, zrv, zc1, zmk, zob_w, zaw_w, zar_w, zln_w, zld_w, zin_w, zcpg_w, znr_w, List.getElem?_cons_zero, List.getElem?_cons_succ, List.set_cons_zero, List.set_cons_succ, List.length_cons, List.length_nil, Nat.reduceLT, Nat.reduceLeDiff, Nat.reduceAdd, Nat.reduceSub, Nat.reduceMul, Nat.reduceEqDiff, Nat.reduceBEq, ↓reduceIte, q_10, q_01, q_00, q_m1, q_m2, q_m3, q_m4, q_m5, q_n1, q_n2, decide_eq_true_eq, decide_eq_false_iff_not, Bool.and_eq_true, Bool.true_and, Bool.and_true, Bool.decide_and, decide_true, decide_false, Bool.true_eq_false, Bool.false_eq_true, Option.toList_some, Option.toList_none, List.cons_append, List.nil_append, true_and, and_true, and_self, not_true_eq_false, not_false_eq_true, forall_const, false_implies, implies_true, Nat.le_refl, ne_eq, Bool.not_eq_true, eq_self, zshA, zb_rz, zb_ne, zb_eq, qem, true_implies, Nat.zero_le, false_and, and_false, Bool.or_eq_true, or_true, true_or, false_or, or_false, zr_75_5 hR, v3, e2, sp_125 hb]
  have y := sl_133 (d := d) (J := J) hR V hs ho hkw hb (en - bg) bg 0 I (by have := mB_le hb; omega) (fun _ _ => rfl) h4
  rw [show gMs ch ce co (gLt S D s) 0 = 0 from rfl, q_add0] at y
  exact y
end QM
