/-! ===== last kitchen: what the class answers ===== -/
section KC
variable {d : Nat} {I : zI} {J : zJ} {R : zR} {a b c K N kn : Nat} {i : Option Nat} {js : List (Int32 × Nat)} {g l h : Int32} {L : List kCs}
theorem zr_36 (hR : qRk R a b c i) : ∀ k, k < 6 → R 36 k = some (37 + 4 * k)
  | 0, _ => zr_36_0 hR
  | 1, _ => zr_36_1 hR
  | 2, _ => zr_36_2 hR
  | 3, _ => zr_36_3 hR
  | 4, _ => zr_36_4 hR
  | 5, _ => zr_36_5 hR
  | k + 6, h => absurd h (by omega)
theorem zKt_of (h : kn < 6) : zKt (37 + 4 * kn) := by
  unfold zKt
  omega
set_option maxRecDepth 40000 in
theorem sp_29 (hR : qRk R a b c i) (hK : zKt K) (h7 : I K 7 = 0 ∨ I K 7 = 1) : zcl (d + 1) 29 [.ref 5, .ref K] (I, J, R, 111) = some (none, (zup (zup (zup I 5 9 (I K 5)) 5 10 (I K 6)) 5 11 (I K 7), J, zup R 5 8 (some K), 111)) := by
  obtain ⟨⟨k1, k2, k3⟩, -⟩ := kF_of hR hK
  have hk : K ≠ 5 := by unfold zKt at hK; omega
  have z : (I K 7 = 0 ∨ I K 7 = 1) ↔ True := iff_true_intro h7
  refine zcl_of (Nat.le_of_ble_eq_true rfl) (zg_wp 60 _ ?_)
  simp only [zpr_29, zhd_29, zp29, zh29, zml_29, o_bad, o_push, o_iload, o_lload, o_aload, o_istore, o_astore, o_lstore, o_iinc, o_ii, o_dv, o_i, o_ll, o_lshl, o_lcmp, o_i2l, o_l2i, o_dup, o_dup2, o_pop, o_goto, o_if, o_ic, o_sw, o_ireturn, o_nreturn, o_lreturn, o_return, o_min, o_max, o_geti, o_getr, o_puti, o_putz, o_putr, o_gets, o_iald, o_lald, o_aald, o_iast, o_last, o_aast, o_alen, o_new, o_newa, o_multi, o_call, o_scall, o_chk, o_oinit, o_copyi, o_copyl, z_eq, z_ne, z_lt, z_ge, z_gt, z_le, z_ceq, z_cne, z_clt, z_cge, z_cgt, z_cle, z_rz, z_rb, z_rc, q_nz, zg_0, zg_s, zgk_s, zgh_n, zgh_s, zq_n, zq_br, zq_gd, zq_cl2, zqc_s, zq_rt, zq_sw, zq_st, zsws, zent, zpad, zla, zlg, zpop, zrv, zc1, zmk, zob_w, zaw_w, zar_w, zln_w, zld_w, zin_w, zcpg_w, znr_w, List.getElem?_cons_zero, List.getElem?_cons_succ, List.set_cons_zero, List.set_cons_succ, List.length_cons, List.length_nil, Nat.reduceLT, Nat.reduceLeDiff, Nat.reduceAdd, Nat.reduceSub, Nat.reduceMul, Nat.reduceEqDiff, Nat.reduceBEq, ↓reduceIte, q_10, q_01, q_00, q_m1, q_m2, q_m3, q_m4, q_m5, q_n1, q_n2, decide_eq_true_eq, decide_eq_false_iff_not, Bool.and_eq_true, Bool.true_and, Bool.and_true, Bool.decide_and, decide_true, decide_false, Bool.true_eq_false, Bool.false_eq_true, Option.toList_some, Option.toList_none, List.cons_append, List.nil_append, true_and, and_true, and_self, not_true_eq_false, not_false_eq_true, forall_const, false_implies, implies_true, Nat.le_refl, ne_eq, Bool.not_eq_true, eq_self, zshA, zb_rz, zb_ne, zb_eq, qem, true_implies, Nat.zero_le, false_and, and_false, Bool.or_eq_true, or_true, true_or, false_or, or_false, k1, k2, k3, zup_ne' hk, z]
/-- the world of the class behind a text that is no kitchen -/
def kBad (I : zI) (K : Nat) (t : kSt) (js : List (Int32 × Nat)) (g l h : Int32) : zI := zup (kX K I t.2.1 t.2.2 js g l h) 61 1 0
/-- the same behind a kitchen -/
def kGood (I : zI) (K kn : Nat) (t : kSt) (js : List (Int32 × Nat)) (g l h : Int32) : zI := zup (zup (zup (zup (kBad I K t js g l h) 5 9 g) 5 10 l) 5 11 h) 0 7 (nI (kn + 1))
set_option maxRecDepth 40000 in
theorem ca_60f (hR : qRk R a b c i) (hk : I 0 7 = nI 6) : zcl (d + 30) 60 [.ref 0] (I, J, R, 111) = some (some (.int (-4)), (I, J, R, 111)) := by
  have e1 : ¬ nI 6 < (6 : Int32) := q_tnl (n := 6) (m := 6) (by omega) (by omega)
  refine zcl_of (Nat.le_of_ble_eq_true rfl) (zg_wp 20 _ ?_)
  simp only [zpr_60, zhd_60, zp60, zh60, zml_60, o_bad, o_push, o_iload, o_lload, o_aload, o_istore, o_astore, o_lstore, o_iinc, o_ii, o_dv, o_i, o_ll, o_lshl, o_lcmp, o_i2l, o_l2i, o_dup, o_dup2, o_pop, o_goto, o_if, o_ic, o_sw, o_ireturn, o_nreturn, o_lreturn, o_return, o_min, o_max, o_geti, o_getr, o_puti, o_putz, o_putr, o_gets, o_iald, o_lald, o_aald, o_iast, o_last, o_aast, o_alen, o_new, o_newa, o_multi, o_call, o_scall, o_chk, o_oinit, o_copyi, o_copyl, z_eq, z_ne, z_lt, z_ge, z_gt, z_le, z_ceq, z_cne, z_clt, z_cge, z_cgt, z_cle, z_rz, z_rb, z_rc, q_nz, zg_0, zg_s, zgk_s, zgh_n, zgh_s, zq_n, zq_br, zq_gd, zq_cl2, zqc_s, zq_rt, zq_sw, zq_st, zsws, zent, zpad, zla, zlg, zpop, zrv, zc1, zmk, zob_w, zaw_w, zar_w, zln_w, zld_w, zin_w, zcpg_w, znr_w, List.getElem?_cons_zero, List.getElem?_cons_succ, List.set_cons_zero, List.set_cons_succ, List.length_cons, List.length_nil, Nat.reduceLT, Nat.reduceLeDiff, Nat.reduceAdd, Nat.reduceSub, Nat.reduceMul, Nat.reduceEqDiff, Nat.reduceBEq, ↓reduceIte, q_10, q_01, q_00, q_m1, q_m2, q_m3, q_m4, q_m5, q_n1, q_n2, decide_eq_true_eq, decide_eq_false_iff_not, Bool.and_eq_true, Bool.true_and, Bool.and_true, Bool.decide_and, decide_true, decide_false, Bool.true_eq_false, Bool.false_eq_true, Option.toList_some, Option.toList_none, List.cons_append, List.nil_append, true_and, and_true, and_self, not_true_eq_false, not_false_eq_true, forall_const, false_implies, implies_true, Nat.le_refl, ne_eq, Bool.not_eq_true, eq_self, zshA, zb_rz, zb_ne, zb_eq, qem, true_implies, Nat.zero_le, false_and, and_false, Bool.or_eq_true, or_true, true_or, false_or, or_false, hk, e1]
set_option maxRecDepth 40000 in
theorem ca_60 (hR : qRk R a b c i) (hk : I 0 7 = nI kn) (h6 : kn < 6) (hN : I 61 1 = nI N) (h100 : N ≤ 100) (hT : ∀ j, iR (I 62 j) 0 127) : ∃ js g l h,
    (¬ (kT (I 62) N 10 0 [] []).1.1 = true → zcl (d + 30) 60 [.ref 0] (I, J, R, 111) = some (some (.int (-10 - nI (kT (I 62) N 10 0 [] []).1.2.1)), (kBad I (37 + 4 * kn) (kT (I 62) N 10 0 [] []).1 js g l h, J, zup R 61 3 (some (37 + 4 * kn)), 111))) ∧
    ((kT (I 62) N 10 0 [] []).1.1 = true → kFo (kT (I 62) N 10 0 [] []).2 js g l h ∧ zcl (d + 30) 60 [.ref 0] (I, J, R, 111) = some (some (.int (nI kn)), (kGood I (37 + 4 * kn) kn (kT (I 62) N 10 0 [] []).1 js g l h, J, zup (zup R 61 3 (some (37 + 4 * kn))) 5 8 (some (37 + 4 * kn)), 111))) := by
  have hK := zKt_of h6
  have hk1 := zKt_61 hK
  obtain ⟨js, g, l, h, y1, po⟩ := sp_19 (d := d + 1) (J := J) hR hK hN h100 hT
  have e1 : nI kn < (6 : Int32) := q_tlt (n := 6) h6 (by omega)
  obtain ⟨p1, p2, p3⟩ := q_row (m := kn) (n := 6) h6 (by omega)
  have r1 := zr_36 hR kn h6
  have hR' : qRk (zup R 61 3 (some (37 + 4 * kn))) a b c (some (37 + 4 * kn)) := qRk_put (q := 37 + 4 * kn) hR (.inr ⟨rfl, rfl⟩)
  refine ⟨js, g, l, h, fun hf => ?_, fun ht => ?_⟩
  · rw [Bool.eq_false_iff.mpr hf] at y1
    refine zcl_of (Nat.le_of_ble_eq_true rfl) (zg_wp 60 _ ?_)
    simp only [zpr_60, zhd_60, zp60, zh60, zml_60, o_bad, o_push, o_iload, o_lload, o_aload, o_istore, o_astore, o_lstore, o_iinc, o_ii, o_dv, o_i, o_ll, o_lshl, o_lcmp, o_i2l, o_l2i, o_dup, o_dup2, o_pop, o_goto, o_if, o_ic, o_sw, o_ireturn, o_nreturn, o_lreturn, o_return, o_min, o_max, o_geti, o_getr, o_puti, o_putz, o_putr, o_gets, o_iald, o_lald, o_aald, o_iast, o_last, o_aast, o_alen, o_new, o_newa, o_multi, o_call, o_scall, o_chk, o_oinit, o_copyi, o_copyl, z_eq, z_ne, z_lt, z_ge, z_gt, z_le, z_ceq, z_cne, z_clt, z_cge, z_cgt, z_cle, z_rz, z_rb, z_rc, q_nz, zg_0, zg_s, zgk_s, zgh_n, zgh_s, zq_n, zq_br, zq_gd, zq_cl2, zqc_s, zq_rt, zq_sw, zq_st, zsws, zent, zpad, zla, zlg, zpop, zrv, zc1, zmk, zob_w, zaw_w, zar_w, zln_w, zld_w, zin_w, zcpg_w, znr_w, List.getElem?_cons_zero, List.getElem?_cons_succ, List.set_cons_zero, List.set_cons_succ, List.length_cons, List.length_nil, Nat.reduceLT, Nat.reduceLeDiff, Nat.reduceAdd, Nat.reduceSub, Nat.reduceMul, Nat.reduceEqDiff, Nat.reduceBEq, ↓reduceIte, q_10, q_01, q_00, q_m1, q_m2, q_m3, q_m4, q_m5, q_n1, q_n2, decide_eq_true_eq, decide_eq_false_iff_not, Bool.and_eq_true, Bool.true_and, Bool.and_true, Bool.decide_and, decide_true, decide_false, Bool.true_eq_false, Bool.false_eq_true, Option.toList_some, Option.toList_none, List.cons_append, List.nil_append, true_and, and_true, and_self, not_true_eq_false, not_false_eq_true, forall_const, false_implies, implies_true, Nat.le_refl, ne_eq, Bool.not_eq_true, eq_self, zshA, zb_rz, zb_ne, zb_eq, qem, true_implies, Nat.zero_le, false_and, and_false, Bool.or_eq_true, or_true, true_or, false_or, or_false, hk, e1, p1, p2, zr_0_6 hR, zr_0_8 hR, r1, y1, kb_f, zr_0_8 hR', zup_row, kX_a]
    rfl
  · have hF := po ht
    rw [ht] at y1
    refine ⟨hF, ?_⟩
    have vK : kBad I (37 + 4 * kn) (kT (I 62) N 10 0 [] []).1 js g l h (37 + 4 * kn) = kX (37 + 4 * kn) I (kT (I 62) N 10 0 [] []).1.2.1 (kT (I 62) N 10 0 [] []).1.2.2 js g l h (37 + 4 * kn) := zup_ne' (by omega)
    have v5 : kBad I (37 + 4 * kn) (kT (I 62) N 10 0 [] []).1 js g l h (37 + 4 * kn) 5 = g := by rw [vK, kX_K hK]; rfl
    have v6 : kBad I (37 + 4 * kn) (kT (I 62) N 10 0 [] []).1 js g l h (37 + 4 * kn) 6 = l := by rw [vK, kX_K hK]; rfl
    have v7 : kBad I (37 + 4 * kn) (kT (I 62) N 10 0 [] []).1 js g l h (37 + 4 * kn) 7 = h := by rw [vK, kX_K hK]; rfl
    have hh : h = 0 ∨ h = 1 := by rw [hF.2.2.2]; exact kSH_b _ 0 (.inl rfl)
    have y2 := sp_29 (d := d + 28) (J := J) (I := kBad I (37 + 4 * kn) (kT (I 62) N 10 0 [] []).1 js g l h) hR' hK (by rw [v7]; exact hh)
    rw [v5, v6, v7] at y2
    have z7 : zup (zup (zup (kBad I (37 + 4 * kn) (kT (I 62) N 10 0 [] []).1 js g l h) 5 9 g) 5 10 l) 5 11 h 0 7 = nI kn := by
      rw [zup_ne' (by decide), zup_ne' (by decide), zup_ne' (by decide)]
      show zup (kX (37 + 4 * kn) I _ _ js g l h) 61 1 0 0 7 = _
      rw [zup_ne' (by decide), kX_o (by decide) (by omega), hk]
    have z8 : nI (kn + 1) - 1 = nI kn := q_sub (c := 1) (by omega)
    have u : zup (kX (37 + 4 * kn) I (kT (I 62) N 10 0 [] []).1.2.1 (kT (I 62) N 10 0 [] []).1.2.2 js g l h) 61 1 0 = kBad I (37 + 4 * kn) (kT (I 62) N 10 0 [] []).1 js g l h := rfl
    have v : zup (zup (zup (zup (kBad I (37 + 4 * kn) (kT (I 62) N 10 0 [] []).1 js g l h) 5 9 g) 5 10 l) 5 11 h) 0 7 (nI (kn + 1)) 0 7 = nI (kn + 1) := by rw [zup_eq']; rfl
    refine zcl_of (Nat.le_of_ble_eq_true rfl) (zg_wp 60 _ ?_)
    simp only [zpr_60, zhd_60, zp60, zh60, zml_60, o_bad, o_push, o_iload, o_lload, o_aload, o_istore, o_astore, o_lstore, o_iinc, o_ii, o_dv, o_i, o_ll, o_lshl, o_lcmp, o_i2l, o_l2i, o_dup, o_dup2, o_pop, o_goto, o_if, o_ic, o_sw, o_ireturn, o_nreturn, o_lreturn, o_return, o_min, o_max, o_geti, o_getr, o_puti, o_putz, o_putr, o_gets, o_iald, o_lald, o_aald, o_iast, o_last, o_aast, o_alen, o_new, o_newa, o_multi, o_call, o_scall, o_chk, o_oinit, o_copyi, o_copyl, z_eq, z_ne, z_lt, z_ge, z_gt, z_le, z_ceq, z_cne, z_clt, z_cge, z_cgt, z_cle, z_rz, z_rb, z_rc, q_nz, zg_0, zg_s, zgk_s, zgh_n, zgh_s, zq_n, zq_br, zq_gd, zq_cl2, zqc_s, zq_rt, zq_sw, zq_st, zsws, zent, zpad, zla, zlg, zpop, zrv, zc1, zmk, zob_w, zaw_w, zar_w, zln_w, zld_w, zin_w, zcpg_w, znr_w, List.getElem?_cons_zero, List.getElem?_cons_succ, List.set_cons_zero, List.set_cons_succ, List.length_cons, List.length_nil, Nat.reduceLT, Nat.reduceLeDiff, Nat.reduceAdd, Nat.reduceSub, Nat.reduceMul, Nat.reduceEqDiff, Nat.reduceBEq, ↓reduceIte, q_10, q_01, q_00, q_m1, q_m2, q_m3, q_m4, q_m5, q_n1, q_n2, decide_eq_true_eq, decide_eq_false_iff_not, Bool.and_eq_true, Bool.true_and, Bool.and_true, Bool.decide_and, decide_true, decide_false, Bool.true_eq_false, Bool.false_eq_true, Option.toList_some, Option.toList_none, List.cons_append, List.nil_append, true_and, and_true, and_self, not_true_eq_false, not_false_eq_true, forall_const, false_implies, implies_true, Nat.le_refl, ne_eq, Bool.not_eq_true, eq_self, zshA, zb_rz, zb_ne, zb_eq, qem, true_implies, Nat.zero_le, false_and, and_false, Bool.or_eq_true, or_true, true_or, false_or, or_false, hk, e1, p1, p2, p3, zr_0_6 hR, zr_0_8 hR, r1, y1, kb_t, zr_0_8 hR', zr_0_0 hR', u, y2, z7, z8, v]
    rfl
end KC
