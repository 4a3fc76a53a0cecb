/-! ===== pairs: image, undo ===== -/
section UN
variable {d : Nat} {J : zJ} {R : zR} {a b c : Nat} {i : Option Nat}
set_option maxRecDepth 40000 in
theorem ma_182 (hR : qRk R a b c i) {I : zI} : ∃ I', zcl (d + 1) 182 [.ref 75] (I, J, R, 111) = some (some (.int (I 75 0)), (I', J, R, 111)) ∧ ((∀ k, k ≠ 75 → (k < 97 ∨ 105 < k) → I' k = I k) ∧ (∀ j, (j < 42 ∨ 49 < j) → I' 75 j = I 75 j)) ∧ ((I' 75 42 = 1 ∧ I' 75 43 = I 75 9 ∧ I' 75 44 = I 75 0 ∧ I' 75 45 = I 75 1 ∧ I' 75 46 = I 75 2 ∧ I' 75 47 = I 75 35 ∧ I' 75 48 = I 75 37 ∧ I' 75 49 = I 75 38) ∧ (I' 97 = gPt (I 97) (I 76) 6 ∧ I' 98 = gPt (I 98) (I 77) 6 ∧ I' 99 = gPt (I 99) (I 78) 6 ∧ I' 100 = gPt (I 100) (I 79) 6 ∧ I' 101 = gPt (I 101) (I 80) 24) ∧ (I' 102 = gPt (I 102) (I 93) 5 ∧ I' 103 = gPt (I 103) (I 94) 10 ∧ I' 104 = gPt (I 104) (I 95) 8 ∧ I' 105 = gPt (I 105) (I 96) 8)) := by
  refine zcl_en (Nat.le_of_ble_eq_true rfl) (zg_wp 90 _ ?_)
  simp only [zpr_182, zhd_182, zp182, zh182, zml_182, o_bad, o_push, o_iload, o_lload, o_aload, o_istore, o_astore, o_lstore, o_iinc, o_ii, o_dv, o_i, o_ll, o_lshl, o_lcmp, o_i2l, o_l2i, o_dup, o_dup2, o_pop, o_goto, o_if, o_ic, o_sw, o_ireturn, o_nreturn, o_lreturn, o_return, o_min, o_max, o_geti, o_getr, o_puti, o_putz, o_putr, o_gets, o_iald, o_lald, o_aald, o_iast, o_last, o_aast, o_alen, o_new, o_newa, o_multi, o_call, o_scall, o_oinit, o_copyi, o_copyl, z_eq, z_ne, z_lt, z_ge, z_gt, z_le, z_ceq, z_cne, z_clt, z_cge, z_cgt, z_cle, z_rz, z_rb, z_rc, q_nz, zg_0, zg_s, zgk_s, zgh_n, zgh_s, zq_n, zq_br, zq_gd, zq_cl2, zqc_s, zq_rt, zq_sw, zq_st, zsws, zent, zpad, zla, zlg, zpop, zrv, zc1, zmk, zob_w, zaw_w, zar_w, zln_w, zld_w, zin_w, zcpg_w, znr_w, List.getElem?_cons_zero, List.getElem?_cons_succ, List.set_cons_zero, List.set_cons_succ, List.length_cons, List.length_nil, Nat.reduceLT, Nat.reduceLeDiff, Nat.reduceAdd, Nat.reduceSub, Nat.reduceMul, Nat.reduceEqDiff, Nat.reduceBEq, ↓reduceIte, q_10, q_01, q_00, q_m1, q_m2, q_m3, q_m4, q_m5, q_n1, q_n2, decide_eq_true_eq, decide_eq_false_iff_not, Bool.and_eq_true, Bool.true_and, Bool.and_true, Bool.decide_and, decide_true, decide_false, Bool.true_eq_false, Bool.false_eq_true, Option.toList_some, Option.toList_none, List.cons_append, List.nil_append, true_and, and_true, and_self, not_true_eq_false, not_false_eq_true, forall_const, false_implies, implies_true, Nat.le_refl, ne_eq, Bool.not_eq_true, eq_self, zshA, zb_rz, zb_ne, zb_eq, qem, true_implies, Nat.zero_le, false_and, and_false, Bool.or_eq_true, or_true, true_or, false_or, or_false, zup_at]
  refine sl_182_63 hR (fun I1 f1 a1 a2 a3 a4 => ?_) 6 0 _ (by omega) (fun _ _ _ _ _ => rfl) gPt_0.symm gPt_0.symm gPt_0.symm gPt_0.symm
  refine sl_182_125 hR (fun I2 f2 b1 => ?_) 24 0 _ (by omega) (fun _ _ => rfl) gPt_0.symm
  refine sl_182_151 hR (fun I3 f3 c1 => ?_) 5 0 _ (by omega) (fun _ _ => rfl) gPt_0.symm
  refine sl_182_176 hR (fun I4 f4 d1 => ?_) 10 0 _ (by omega) (fun _ _ => rfl) gPt_0.symm
  refine sl_182_202 hR (fun I5 f5 e1 e2 => ?_) 8 0 _ (by omega) (fun _ _ _ => rfl) gPt_0.symm gPt_0.symm
  simp only [zup_row, Nat.reduceEqDiff, ↓reduceIte] at a1 a2 a3 a4
  have k1 : ∀ k, k ≠ 75 → (k < 97 ∨ 100 < k) → I1 k = I k := fun k h h2 => by rw [f1 k (by omega) (by omega) (by omega) (by omega)]; simp only [zup_row, h, ↓reduceIte]
  have k2 : ∀ k, k ≠ 75 → (k < 97 ∨ 101 < k) → I2 k = I k := fun k h h2 => by rw [f2 k (by omega)]; exact k1 k h (by omega)
  have k3 : ∀ k, k ≠ 75 → (k < 97 ∨ 102 < k) → I3 k = I k := fun k h h2 => by rw [f3 k (by omega)]; exact k2 k h (by omega)
  have k4 : ∀ k, k ≠ 75 → (k < 97 ∨ 103 < k) → I4 k = I k := fun k h h2 => by rw [f4 k (by omega)]; exact k3 k h (by omega)
  have k5 : ∀ k, k ≠ 75 → (k < 97 ∨ 105 < k) → I5 k = I k := fun k h h2 => by rw [f5 k (by omega) (by omega)]; exact k4 k h (by omega)
  have k75 : I5 75 = (zup (zup (zup (zup (zup (zup (zup (zup I 75 42 1) 75 43 (I 75 9)) 75 44 (I 75 0)) 75 45 (I 75 1)) 75 46 (I 75 2)) 75 47 (I 75 35)) 75 48 (I 75 37)) 75 49 (I 75 38)) 75 := by rw [f5 75 (by decide) (by decide), f4 75 (by decide), f3 75 (by decide), f2 75 (by decide), f1 75 (by decide) (by decide) (by decide) (by decide)]
  refine ⟨I5, ⟨?_, rfl⟩, ⟨k5, fun j hj => ?_⟩, ⟨?_, ?_, ?_, ?_, ?_, ?_, ?_, ?_⟩, ⟨?_, ?_, ?_, ?_, ?_⟩, ?_, ?_, ?_, ?_⟩
  · rw [k75]
    simp only [zup_row, Nat.reduceEqDiff, ↓reduceIte]
  · rw [k75]
    have n2 : ¬ j = 42 := by omega
    have n3 : ¬ j = 43 := by omega
    have n4 : ¬ j = 44 := by omega
    have n5 : ¬ j = 45 := by omega
    have n6 : ¬ j = 46 := by omega
    have n7 : ¬ j = 47 := by omega
    have n8 : ¬ j = 48 := by omega
    have n9 : ¬ j = 49 := by omega
    simp only [zup_row, n2, n3, n4, n5, n6, n7, n8, n9, ↓reduceIte]
  all_goals try (rw [k75]; simp only [zup_row, Nat.reduceEqDiff, ↓reduceIte])
  · rw [f5 97 (by decide) (by decide), f4 97 (by decide), f3 97 (by decide), f2 97 (by decide), a1]
  · rw [f5 98 (by decide) (by decide), f4 98 (by decide), f3 98 (by decide), f2 98 (by decide), a2]
  · rw [f5 99 (by decide) (by decide), f4 99 (by decide), f3 99 (by decide), f2 99 (by decide), a3]
  · rw [f5 100 (by decide) (by decide), f4 100 (by decide), f3 100 (by decide), f2 100 (by decide), a4]
  · rw [f5 101 (by decide) (by decide), f4 101 (by decide), f3 101 (by decide), b1, k1 101 (by decide) (by decide), k1 80 (by decide) (by decide)]
  · rw [f5 102 (by decide) (by decide), f4 102 (by decide), c1, k2 102 (by decide) (by decide), k2 93 (by decide) (by decide)]
  · rw [f5 103 (by decide) (by decide), d1, k3 103 (by decide) (by decide), k3 94 (by decide) (by decide)]
  · rw [e1, k4 104 (by decide) (by decide), k4 95 (by decide) (by decide)]
  · rw [e2, k4 105 (by decide) (by decide), k4 96 (by decide) (by decide)]
set_option maxRecDepth 40000 in
theorem ma_183 (hR : qRk R a b c i) {I : zI} (h42 : I 75 42 = 1) : ∃ I', zcl (d + 1) 183 [.ref 75] (I, J, R, 111) = some (some (.int (I 75 44)), (I', J, R, 111)) ∧ ((∀ k, k ≠ 75 → (k < 76 ∨ 80 < k) → (k < 93 ∨ 96 < k) → I' k = I k) ∧ (∀ j, j ≠ 9 → j ≠ 0 → j ≠ 1 → j ≠ 2 → j ≠ 35 → j ≠ 37 → j ≠ 38 → I' 75 j = I 75 j)) ∧ ((I' 75 9 = I 75 43 ∧ I' 75 0 = I 75 44 ∧ I' 75 1 = I 75 45 ∧ I' 75 2 = I 75 46 ∧ I' 75 35 = I 75 47 ∧ I' 75 37 = I 75 48 ∧ I' 75 38 = I 75 49) ∧ (I' 76 = gPt (I 76) (I 97) 6 ∧ I' 77 = gPt (I 77) (I 98) 6 ∧ I' 78 = gPt (I 78) (I 99) 6 ∧ I' 79 = gPt (I 79) (I 100) 6 ∧ I' 80 = gPt (I 80) (I 101) 24) ∧ (I' 93 = gPt (I 93) (I 102) 5 ∧ I' 94 = gPt (I 94) (I 103) 10 ∧ I' 95 = gPt (I 95) (I 104) 8 ∧ I' 96 = gPt (I 96) (I 105) 8)) := by
  refine zcl_en (Nat.le_of_ble_eq_true rfl) (zg_wp 90 _ ?_)
  simp only [zpr_183, zhd_183, zp183, zh183, zml_183, o_bad, o_push, o_iload, o_lload, o_aload, o_istore, o_astore, o_lstore, o_iinc, o_ii, o_dv, o_i, o_ll, o_lshl, o_lcmp, o_i2l, o_l2i, o_dup, o_dup2, o_pop, o_goto, o_if, o_ic, o_sw, o_ireturn, o_nreturn, o_lreturn, o_return, o_min, o_max, o_geti, o_getr, o_puti, o_putz, o_putr, o_gets, o_iald, o_lald, o_aald, o_iast, o_last, o_aast, o_alen, o_new, o_newa, o_multi, o_call, o_scall, o_oinit, o_copyi, o_copyl, z_eq, z_ne, z_lt, z_ge, z_gt, z_le, z_ceq, z_cne, z_clt, z_cge, z_cgt, z_cle, z_rz, z_rb, z_rc, q_nz, zg_0, zg_s, zgk_s, zgh_n, zgh_s, zq_n, zq_br, zq_gd, zq_cl2, zqc_s, zq_rt, zq_sw, zq_st, zsws, zent, zpad, zla, zlg, zpop, zrv, zc1, zmk, zob_w, zaw_w, zar_w, zln_w, zld_w, zin_w, zcpg_w, znr_w, List.getElem?_cons_zero, List.getElem?_cons_succ, List.set_cons_zero, List.set_cons_succ, List.length_cons, List.length_nil, Nat.reduceLT, Nat.reduceLeDiff, Nat.reduceAdd, Nat.reduceSub, Nat.reduceMul, Nat.reduceEqDiff, Nat.reduceBEq, ↓reduceIte, q_10, q_01, q_00, q_m1, q_m2, q_m3, q_m4, q_m5, q_n1, q_n2, decide_eq_true_eq, decide_eq_false_iff_not, Bool.and_eq_true, Bool.true_and, Bool.and_true, Bool.decide_and, decide_true, decide_false, Bool.true_eq_false, Bool.false_eq_true, Option.toList_some, Option.toList_none, List.cons_append, List.nil_append, true_and, and_true, and_self, not_true_eq_false, not_false_eq_true, forall_const, false_implies, implies_true, Nat.le_refl, ne_eq, Bool.not_eq_true, eq_self, zshA, zb_rz, zb_ne, zb_eq, qem, true_implies, Nat.zero_le, false_and, and_false, Bool.or_eq_true, or_true, true_or, false_or, or_false, h42, zup_at]
  refine sl_183_68 hR (fun I1 f1 a1 a2 a3 a4 => ?_) 6 0 _ (by omega) (fun _ _ _ _ _ => rfl) gPt_0.symm gPt_0.symm gPt_0.symm gPt_0.symm
  refine sl_183_130 hR (fun I2 f2 b1 => ?_) 24 0 _ (by omega) (fun _ _ => rfl) gPt_0.symm
  refine sl_183_156 hR (fun I3 f3 c1 => ?_) 5 0 _ (by omega) (fun _ _ => rfl) gPt_0.symm
  refine sl_183_181 hR (fun I4 f4 d1 => ?_) 10 0 _ (by omega) (fun _ _ => rfl) gPt_0.symm
  refine sl_183_207 hR (fun I5 f5 e1 e2 => ?_) 8 0 _ (by omega) (fun _ _ _ => rfl) gPt_0.symm gPt_0.symm
  simp only [zup_row, Nat.reduceEqDiff, ↓reduceIte] at a1 a2 a3 a4
  have k1 : ∀ k, k ≠ 75 → (k < 76 ∨ 79 < k) → I1 k = I k := fun k h h2 => by rw [f1 k (by omega) (by omega) (by omega) (by omega)]; simp only [zup_row, h, ↓reduceIte]
  have k2 : ∀ k, k ≠ 75 → (k < 76 ∨ 80 < k) → I2 k = I k := fun k h h2 => by rw [f2 k (by omega)]; exact k1 k h (by omega)
  have k3 : ∀ k, k ≠ 75 → (k < 76 ∨ 80 < k) → k ≠ 93 → I3 k = I k := fun k h h2 h3 => by rw [f3 k (by omega)]; exact k2 k h (by omega)
  have k4 : ∀ k, k ≠ 75 → (k < 76 ∨ 80 < k) → k ≠ 93 → k ≠ 94 → I4 k = I k := fun k h h2 h3 h4 => by rw [f4 k (by omega)]; exact k3 k h (by omega) h3
  have k5 : ∀ k, k ≠ 75 → (k < 76 ∨ 80 < k) → (k < 93 ∨ 96 < k) → I5 k = I k := fun k h h2 h3 => by rw [f5 k (by omega) (by omega)]; exact k4 k h (by omega) (by omega) (by omega)
  have k75 : I5 75 = (zup (zup (zup (zup (zup (zup (zup I 75 9 (I 75 43)) 75 0 (I 75 44)) 75 1 (I 75 45)) 75 2 (I 75 46)) 75 35 (I 75 47)) 75 37 (I 75 48)) 75 38 (I 75 49)) 75 := by rw [f5 75 (by decide) (by decide), f4 75 (by decide), f3 75 (by decide), f2 75 (by decide), f1 75 (by decide) (by decide) (by decide) (by decide)]
  refine ⟨I5, ⟨?_, rfl⟩, ⟨k5, fun j n2 n3 n4 n5 n6 n7 n8 => ?_⟩, ⟨?_, ?_, ?_, ?_, ?_, ?_, ?_⟩, ⟨?_, ?_, ?_, ?_, ?_⟩, ?_, ?_, ?_, ?_⟩
  · rw [k75]
    simp only [zup_row, Nat.reduceEqDiff, ↓reduceIte]
  · rw [k75]
    simp only [zup_row, n2, n3, n4, n5, n6, n7, n8, ↓reduceIte]
  all_goals try (rw [k75]; simp only [zup_row, Nat.reduceEqDiff, ↓reduceIte])
  · rw [f5 76 (by decide) (by decide), f4 76 (by decide), f3 76 (by decide), f2 76 (by decide), a1]
  · rw [f5 77 (by decide) (by decide), f4 77 (by decide), f3 77 (by decide), f2 77 (by decide), a2]
  · rw [f5 78 (by decide) (by decide), f4 78 (by decide), f3 78 (by decide), f2 78 (by decide), a3]
  · rw [f5 79 (by decide) (by decide), f4 79 (by decide), f3 79 (by decide), f2 79 (by decide), a4]
  · rw [f5 80 (by decide) (by decide), f4 80 (by decide), f3 80 (by decide), b1, k1 80 (by decide) (by decide), k1 101 (by decide) (by decide)]
  · rw [f5 93 (by decide) (by decide), f4 93 (by decide), c1, k2 93 (by decide) (by decide), k2 102 (by decide) (by decide)]
  · rw [f5 94 (by decide) (by decide), d1, k3 94 (by decide) (by decide) (by decide), k3 103 (by decide) (by decide) (by decide)]
  · rw [e1, k4 95 (by decide) (by decide) (by decide) (by decide), k4 104 (by decide) (by decide) (by decide) (by decide)]
  · rw [e2, k4 96 (by decide) (by decide) (by decide) (by decide), k4 105 (by decide) (by decide) (by decide) (by decide)]
end UN
section UP
variable {L : Nat} {xs : Nat → Int32}
set_option maxRecDepth 40000 in
theorem pr_87 : qPr (Inv L xs) 87 182 [] := pair_m (fun k I J R c i hk hW hR => by
  have hW0 := hW
  obtain ⟨h1, ⟨⟨s1, s2, s3⟩, ⟨s4, s5, s6, s7, s8⟩, s9⟩, ⟨_, ⟨p4, p5, p6, p7, p8⟩, _, _, _, _, pz1, pz2, pz3, pz4, pz5⟩, ⟨n1, ⟨n2, n3, n4, n5⟩, n6⟩, ⟨_, ⟨q2, q3, q4, q5⟩, _, _, _, _, qz1, qz2, qz3, qz4⟩, h6, h7, h8, _, h10, h11, h12, h13, h14⟩ := hW
  obtain ⟨sa, sb, sc, sd, sz1, sz2, sz3, sz4, sz5⟩ := s9
  obtain ⟨na, nb, nc, nd, nz1, nz2, nz3, nz4⟩ := n6
  have hh : I 5 11 = 0 ∨ I 5 11 = 1 := (iW_open hW0 (by omega)).2.2.2.2.2
  obtain ⟨I1, y1, ⟨a1, a2, a3, a4⟩, a5, ⟨b0, b6, b7, b9, b10, b11, _⟩, f1⟩ := sp_30_12 (d := 58) (J := J) hR hR.2.1 (by rw [s4]; exact sz1) (by rw [s5]; exact sz2) (by rw [s6]; exact sz3) (by rw [s8]; exact sz5) (by rw [p4]; exact pz1) (by rw [p5]; exact pz2) (by rw [p6]; exact pz3) (by rw [p8]; exact pz5) hh
  have a5' := a5 (by rw [s7]; exact sz4) (by rw [p7]; exact pz4)
  have hR1 : qRk (zup R 12 8 (some (kc (I 75 9)))) (kc (I 75 9)) (kc (I 75 9)) c i := qRk_put (k := 12) (j := 8) (q := kc (I 75 9)) hR (.inl ⟨.inr (.inl rfl), rfl⟩)
  obtain ⟨I2, y2, ⟨c1, c2, c3, c4⟩, ⟨d1, d3, d6⟩, f2⟩ := sp_13_31 (d := 58) (I := I1) (J := J) hR1 (by rw [f1 27 (by decide), n2]; exact nz1) (by rw [f1 28 (by decide), n3]; exact nz2) (by rw [f1 29 (by decide), n4]; exact nz3) (by rw [f1 30 (by decide), n5]; exact nz4) (by rw [f1 32 (by decide), q2]; exact qz1) (by rw [f1 33 (by decide), q3]; exact qz2) (by rw [f1 34 (by decide), q4]; exact qz3) (by rw [f1 35 (by decide), q5]; exact qz4)
  have g2 : ∀ k, (k < 12 ∨ 17 < k) → (k < 31 ∨ 35 < k) → I2 k = I k := fun k h h' => (f2 k h').trans (f1 k h)
  have y3 : zcl 60 87 [.ref 0] (I, J, R, 111) = some (some (.int (I 75 0)), (zup I2 0 4 1, J, zup R 12 8 (some (kc (I 75 9))), 111)) := by
    refine zcl_of (d := 59) (Nat.le_of_ble_eq_true rfl) (zg_wp 60 _ ?_)
    have e5 : I2 5 0 = I 75 0 := by rw [g2 5 (by decide) (by decide)]; exact s1
    simp only [zpr_87, zhd_87, zp87, zh87, zml_87, o_bad, o_push, o_iload, o_lload, o_aload, o_istore, o_astore, o_lstore, o_iinc, o_ii, o_dv, o_i, o_ll, o_lshl, o_lcmp, o_i2l, o_l2i, o_dup, o_dup2, o_pop, o_goto, o_if, o_ic, o_sw, o_ireturn, o_nreturn, o_lreturn, o_return, o_min, o_max, o_geti, o_getr, o_puti, o_putz, o_putr, o_gets, o_iald, o_lald, o_aald, o_iast, o_last, o_aast, o_alen, o_new, o_newa, o_multi, o_call, o_scall, o_oinit, o_copyi, o_copyl, z_eq, z_ne, z_lt, z_ge, z_gt, z_le, z_ceq, z_cne, z_clt, z_cge, z_cgt, z_cle, z_rz, z_rb, z_rc, q_nz, zg_0, zg_s, zgk_s, zgh_n, zgh_s, zq_n, zq_br, zq_gd, zq_cl2, zqc_s, zq_rt, zq_sw, zq_st, zsws, zent, zpad, zla, zlg, zpop, zrv, zc1, zmk, zob_w, zaw_w, zar_w, zln_w, zld_w, zin_w, zcpg_w, znr_w, List.getElem?_cons_zero, List.getElem?_cons_succ, List.set_cons_zero, List.set_cons_succ, List.length_cons, List.length_nil, Nat.reduceLT, Nat.reduceLeDiff, Nat.reduceAdd, Nat.reduceSub, Nat.reduceMul, Nat.reduceEqDiff, Nat.reduceBEq, ↓reduceIte, q_10, q_01, q_00, q_m1, q_m2, q_m3, q_m4, q_m5, q_n1, q_n2, decide_eq_true_eq, decide_eq_false_iff_not, Bool.and_eq_true, Bool.true_and, Bool.and_true, Bool.decide_and, decide_true, decide_false, Bool.true_eq_false, Bool.false_eq_true, Option.toList_some, Option.toList_none, List.cons_append, List.nil_append, true_and, and_true, and_self, not_true_eq_false, not_false_eq_true, forall_const, false_implies, implies_true, Nat.le_refl, ne_eq, Bool.not_eq_true, eq_self, zshA, zb_rz, zb_ne, zb_eq, qem, true_implies, Nat.zero_le, false_and, and_false, Bool.or_eq_true, or_true, true_or, false_or, or_false, zr_0_0 hR, zr_0_2 hR, y1, zr_0_1 hR1, zr_0_3 hR1, zr_0_0 hR1, y2, zup_at, e5]
  obtain ⟨I3, y4, ⟨f3, f75⟩, ⟨r42, r43, r44, r45, r46, r47, r48, r49⟩, ⟨m1, m2, m3, m4, m5⟩, m6, m7, m8, m9⟩ := ma_182 (d := 59) (J := J) (I := zup I2 0 4 1) hR1
  have g3 : ∀ k, k ≠ 0 → (k < 12 ∨ 17 < k) → (k < 31 ∨ 35 < k) → k ≠ 75 → (k < 97 ∨ 105 < k) → I3 k = I k := fun k h0 h h' h75 h9 => by
    rw [f3 k h75 h9, zup_row, if_neg h0]
    exact g2 k h h'
  have z75 : ∀ j, (zup I2 0 4 1) 75 j = I 75 j := fun j => by rw [zup_row, if_neg (by decide), g2 75 (by decide) (by decide)]
  have gj : ∀ j, (j < 42 ∨ 49 < j) → I3 75 j = I 75 j := fun j hj => (f75 j hj).trans (z75 j)
  rw [z75] at y4 r43 r44 r45 r46 r47 r48 r49
  have zr : ∀ k, k ≠ 0 → (k < 12 ∨ 17 < k) → (k < 31 ∨ 35 < k) → (zup I2 0 4 1) k = I k := fun k h0 h h' => by rw [zup_row, if_neg h0]; exact g2 k h h'
  rw [zr 97 (by decide) (by decide) (by decide), zr 76 (by decide) (by decide) (by decide), gPt_full pz1 sz1] at m1
  rw [zr 98 (by decide) (by decide) (by decide), zr 77 (by decide) (by decide) (by decide), gPt_full pz2 sz2] at m2
  rw [zr 99 (by decide) (by decide) (by decide), zr 78 (by decide) (by decide) (by decide), gPt_full pz3 sz3] at m3
  rw [zr 100 (by decide) (by decide) (by decide), zr 79 (by decide) (by decide) (by decide), gPt_full pz4 sz4] at m4
  rw [zr 101 (by decide) (by decide) (by decide), zr 80 (by decide) (by decide) (by decide), gPt_full pz5 sz5] at m5
  rw [zr 102 (by decide) (by decide) (by decide), zr 93 (by decide) (by decide) (by decide), gPt_full qz1 nz1] at m6
  rw [zr 103 (by decide) (by decide) (by decide), zr 94 (by decide) (by decide) (by decide), gPt_full qz2 nz2] at m7
  rw [zr 104 (by decide) (by decide) (by decide), zr 95 (by decide) (by decide) (by decide), gPt_full qz3 nz3] at m8
  rw [zr 105 (by decide) (by decide) (by decide), zr 96 (by decide) (by decide) (by decide), gPt_full qz4 nz4] at m9
  have u12 : ∀ k, (12 ≤ k ∧ k ≤ 17) → I3 k = I1 k := fun k hk => by rw [f3 k (by omega) (by omega), zup_row, if_neg (by omega), f2 k (by omega)]
  have u31 : ∀ k, (31 ≤ k ∧ k ≤ 35) → I3 k = I2 k := fun k hk => by rw [f3 k (by omega) (by omega), zup_row, if_neg (by omega)]
  have e04 : I3 0 4 = 1 := by rw [f3 0 (by decide) (by decide), zup_at, if_pos ⟨rfl, rfl⟩]
  have e07 : I3 0 7 = I 0 7 := by rw [f3 0 (by decide) (by decide), zup_at, if_neg (by decide), g2 0 (by decide) (by decide)]
  have fr : ∀ k, (1 ≤ k ∧ k ≤ 4) ∨ (37 ≤ k ∧ k ≤ 60) ∨ (82 ≤ k ∧ k ≤ 87) → I3 k = I k := fun k hk => g3 k (by omega) (by omega) (by omega) (by omega) (by omega)
  refine md_fin y3 y4 (c := c) (i := i) (zr 1021 (by decide) (by decide) (by decide)) (zr 1022 (by decide) (by decide) (by decide)) ?_ ?_
  · rw [gj 9 (by decide), r43]
    exact hR1
  · unfold iW
    rw [g3 1021 (by decide) (by decide) (by decide) (by decide) (by decide), g3 1022 (by decide) (by decide) (by decide) (by decide) (by decide), g3 6 (by decide) (by decide) (by decide) (by decide) (by decide), g3 7 (by decide) (by decide) (by decide) (by decide) (by decide), g3 8 (by decide) (by decide) (by decide) (by decide) (by decide), g3 9 (by decide) (by decide) (by decide) (by decide) (by decide), g3 10 (by decide) (by decide) (by decide) (by decide) (by decide), g3 27 (by decide) (by decide) (by decide) (by decide) (by decide), g3 28 (by decide) (by decide) (by decide) (by decide) (by decide), g3 29 (by decide) (by decide) (by decide) (by decide) (by decide), g3 30 (by decide) (by decide) (by decide) (by decide) (by decide), g3 62 (by decide) (by decide) (by decide) (by decide) (by decide)]
    rw [g3 64 (by decide) (by decide) (by decide) (by decide) (by decide), g3 66 (by decide) (by decide) (by decide) (by decide) (by decide), g3 67 (by decide) (by decide) (by decide) (by decide) (by decide), g3 76 (by decide) (by decide) (by decide) (by decide) (by decide), g3 77 (by decide) (by decide) (by decide) (by decide) (by decide), g3 78 (by decide) (by decide) (by decide) (by decide) (by decide), g3 79 (by decide) (by decide) (by decide) (by decide) (by decide), g3 80 (by decide) (by decide) (by decide) (by decide) (by decide), g3 81 (by decide) (by decide) (by decide) (by decide) (by decide), g3 89 (by decide) (by decide) (by decide) (by decide) (by decide), g3 93 (by decide) (by decide) (by decide) (by decide) (by decide), g3 94 (by decide) (by decide) (by decide) (by decide) (by decide)]
    rw [g3 95 (by decide) (by decide) (by decide) (by decide) (by decide), g3 96 (by decide) (by decide) (by decide) (by decide) (by decide), g3 106 (by decide) (by decide) (by decide) (by decide) (by decide), g3 107 (by decide) (by decide) (by decide) (by decide) (by decide), g3 108 (by decide) (by decide) (by decide) (by decide) (by decide), g3 20 (by decide) (by decide) (by decide) (by decide) (by decide), g3 21 (by decide) (by decide) (by decide) (by decide) (by decide), g3 22 (by decide) (by decide) (by decide) (by decide) (by decide), g3 24 (by decide) (by decide) (by decide) (by decide) (by decide), g3 5 (by decide) (by decide) (by decide) (by decide) (by decide), g3 26 (by decide) (by decide) (by decide) (by decide) (by decide), g3 61 (by decide) (by decide) (by decide) (by decide) (by decide)]
    rw [g3 63 (by decide) (by decide) (by decide) (by decide) (by decide), gj 0 (by decide), gj 1 (by decide), gj 2 (by decide), gj 8 (by decide), gj 9 (by decide), gj 10 (by decide), gj 25 (by decide), gj 26 (by decide), gj 27 (by decide), gj 29 (by decide), gj 35 (by decide)]
    rw [gj 37 (by decide), gj 38 (by decide), gj 59 (by decide)]
    rw [u12 12 (by decide), u12 13 (by decide), u12 14 (by decide), u12 15 (by decide), u12 16 (by decide), u12 17 (by decide), u31 31 (by decide), u31 32 (by decide), u31 33 (by decide), u31 34 (by decide), u31 35 (by decide)]
    rw [r42, r43, r44, r45, r46, r47, r48, r49, m1, m2, m3, m4, m5, m6, m7, m8, m9, e04, e07]
    rw [a1, a2, a3, a4, a5', b0, b6, b7, b9, b10, b11, c1, c2, c3, c4, d1, d3, d6]
    rw [f1 26 (by decide), f1 27 (by decide), f1 28 (by decide), f1 29 (by decide), f1 30 (by decide)]
    have S : iSd (k + 1) (I 5 0) (I 5 6) (I 5 7) (I 75 0) (I 75 1) (I 75 2) (I 6) (I 7) (I 8) (I 9) (I 10) (I 76) (I 77) (I 78) (I 79) (I 80) := iSd_le hW0.2.1
    have N := hW0.2.2.2.1
    exact ⟨h1, S, S, N, N, h6, iKn_e2 h7 fr, iTh_e2 h8 fr, iTh_e2 h8 fr, h10, ⟨rfl, .inr rfl⟩, h12, h13, h14⟩)
set_option maxRecDepth 40000 in
theorem pr_88 : qPr (Inv L xs) 88 183 [] := pair_m (fun k I J R c i hk hW hR => by
  have hW0 := hW
  obtain ⟨h1, ⟨_, ⟨s4, s5, s6, s7, s8⟩, _, _, _, _, sz1, sz2, sz3, sz4, sz5⟩, ⟨⟨p1, p2, p3⟩, ⟨p4, p5, p6, p7, p8⟩, pa, pb, pc, pd, pz1, pz2, pz3, pz4, pz5⟩, ⟨_, ⟨n2, n3, n4, n5⟩, _, _, _, _, nz1, nz2, nz3, nz4⟩, ⟨q1, ⟨q2, q3, q4, q5⟩, qa, qb, qc, qd, qz1, qz2, qz3, qz4⟩, h6, h7, h8, h9, h10, ⟨e1, e01⟩, h12, h13, h14⟩ := hW
  rcases e01 with e0 | e0
  · refine md_same hW0 hR (v := -3) (zcl_of (d := 59) (Nat.le_of_ble_eq_true rfl) (zg_wp 60 _ ?_)) (zcl_of (d := 59) (Nat.le_of_ble_eq_true rfl) (zg_wp 60 _ ?_))
    · simp only [zpr_88, zhd_88, zp88, zh88, zml_88, o_bad, o_push, o_iload, o_lload, o_aload, o_istore, o_astore, o_lstore, o_iinc, o_ii, o_dv, o_i, o_ll, o_lshl, o_lcmp, o_i2l, o_l2i, o_dup, o_dup2, o_pop, o_goto, o_if, o_ic, o_sw, o_ireturn, o_nreturn, o_lreturn, o_return, o_min, o_max, o_geti, o_getr, o_puti, o_putz, o_putr, o_gets, o_iald, o_lald, o_aald, o_iast, o_last, o_aast, o_alen, o_new, o_newa, o_multi, o_call, o_scall, o_oinit, o_copyi, o_copyl, z_eq, z_ne, z_lt, z_ge, z_gt, z_le, z_ceq, z_cne, z_clt, z_cge, z_cgt, z_cle, z_rz, z_rb, z_rc, q_nz, zg_0, zg_s, zgk_s, zgh_n, zgh_s, zq_n, zq_br, zq_gd, zq_cl2, zqc_s, zq_rt, zq_sw, zq_st, zsws, zent, zpad, zla, zlg, zpop, zrv, zc1, zmk, zob_w, zaw_w, zar_w, zln_w, zld_w, zin_w, zcpg_w, znr_w, List.getElem?_cons_zero, List.getElem?_cons_succ, List.set_cons_zero, List.set_cons_succ, List.length_cons, List.length_nil, Nat.reduceLT, Nat.reduceLeDiff, Nat.reduceAdd, Nat.reduceSub, Nat.reduceMul, Nat.reduceEqDiff, Nat.reduceBEq, ↓reduceIte, q_10, q_01, q_00, q_m1, q_m2, q_m3, q_m4, q_m5, q_n1, q_n2, decide_eq_true_eq, decide_eq_false_iff_not, Bool.and_eq_true, Bool.true_and, Bool.and_true, Bool.decide_and, decide_true, decide_false, Bool.true_eq_false, Bool.false_eq_true, Option.toList_some, Option.toList_none, List.cons_append, List.nil_append, true_and, and_true, and_self, not_true_eq_false, not_false_eq_true, forall_const, false_implies, implies_true, Nat.le_refl, ne_eq, Bool.not_eq_true, eq_self, zshA, zb_rz, zb_ne, zb_eq, qem, true_implies, Nat.zero_le, false_and, and_false, Bool.or_eq_true, or_true, true_or, false_or, or_false, e0]
    · have e2 := e1.symm.trans e0
      simp only [zpr_183, zhd_183, zp183, zh183, zml_183, o_bad, o_push, o_iload, o_lload, o_aload, o_istore, o_astore, o_lstore, o_iinc, o_ii, o_dv, o_i, o_ll, o_lshl, o_lcmp, o_i2l, o_l2i, o_dup, o_dup2, o_pop, o_goto, o_if, o_ic, o_sw, o_ireturn, o_nreturn, o_lreturn, o_return, o_min, o_max, o_geti, o_getr, o_puti, o_putz, o_putr, o_gets, o_iald, o_lald, o_aald, o_iast, o_last, o_aast, o_alen, o_new, o_newa, o_multi, o_call, o_scall, o_oinit, o_copyi, o_copyl, z_eq, z_ne, z_lt, z_ge, z_gt, z_le, z_ceq, z_cne, z_clt, z_cge, z_cgt, z_cle, z_rz, z_rb, z_rc, q_nz, zg_0, zg_s, zgk_s, zgh_n, zgh_s, zq_n, zq_br, zq_gd, zq_cl2, zqc_s, zq_rt, zq_sw, zq_st, zsws, zent, zpad, zla, zlg, zpop, zrv, zc1, zmk, zob_w, zaw_w, zar_w, zln_w, zld_w, zin_w, zcpg_w, znr_w, List.getElem?_cons_zero, List.getElem?_cons_succ, List.set_cons_zero, List.set_cons_succ, List.length_cons, List.length_nil, Nat.reduceLT, Nat.reduceLeDiff, Nat.reduceAdd, Nat.reduceSub, Nat.reduceMul, Nat.reduceEqDiff, Nat.reduceBEq, ↓reduceIte, q_10, q_01, q_00, q_m1, q_m2, q_m3, q_m4, q_m5, q_n1, q_n2, decide_eq_true_eq, decide_eq_false_iff_not, Bool.and_eq_true, Bool.true_and, Bool.and_true, Bool.decide_and, decide_true, decide_false, Bool.true_eq_false, Bool.false_eq_true, Option.toList_some, Option.toList_none, List.cons_append, List.nil_append, true_and, and_true, and_self, not_true_eq_false, not_false_eq_true, forall_const, false_implies, implies_true, Nat.le_refl, ne_eq, Bool.not_eq_true, eq_self, zshA, zb_rz, zb_ne, zb_eq, qem, true_implies, Nat.zero_le, false_and, and_false, Bool.or_eq_true, or_true, true_or, false_or, or_false, e2]
  · have e2 := e1.symm.trans e0
    have hh : I 12 11 = 0 ∨ I 12 11 = 1 := by
      obtain ⟨t1, _, _, t4⟩ := h9
      rw [t4]
      rcases t1 with e | ⟨f, e, hf, hlt⟩
      · rw [e]
        exact .inl h7.2.2.2.2.2
      · obtain ⟨_, ⟨kn, k2, k3, k4⟩, _⟩ := h7
        have hfk : f < kn := by
          rw [e, k3] at hlt
          exact (q_lt3 (by omega) (by omega)).mp hlt
        obtain ⟨j, cn, _, _, ⟨_, _, g⟩, _⟩ := k4 f hfk
        have ek : kc (I 75 43) = 37 + 4 * f := by
          rw [e]
          unfold kc
          rw [if_neg (q_nm1 (by omega)), nI_clamp (by omega)]
        rw [ek]
        exact g
    obtain ⟨I1, y1, ⟨a1, a2, a3, a4⟩, a5, ⟨b0, b6, b7, b9, b10, b11, _⟩, f1⟩ := sp_30_5 (d := 58) (J := J) hR hR.2.2.1 (by rw [p4]; exact pz1) (by rw [p5]; exact pz2) (by rw [p6]; exact pz3) (by rw [p8]; exact pz5) (by rw [s4]; exact sz1) (by rw [s5]; exact sz2) (by rw [s6]; exact sz3) (by rw [s8]; exact sz5) hh
    have a5' := a5 (by rw [p7]; exact pz4) (by rw [s7]; exact sz4)
    have hR1 : qRk (zup R 5 8 (some (kc (I 75 43)))) (kc (I 75 43)) (kc (I 75 43)) c i := qRk_put (k := 5) (j := 8) (q := kc (I 75 43)) hR (.inl ⟨.inl rfl, rfl⟩)
    obtain ⟨I2, y2, ⟨c1, c2, c3, c4⟩, ⟨d1, d3, d6⟩, f2⟩ := sp_13_26 (d := 58) (I := I1) (J := J) hR1 (by rw [f1 32 (by decide), q2]; exact qz1) (by rw [f1 33 (by decide), q3]; exact qz2) (by rw [f1 34 (by decide), q4]; exact qz3) (by rw [f1 35 (by decide), q5]; exact qz4) (by rw [f1 27 (by decide), n2]; exact nz1) (by rw [f1 28 (by decide), n3]; exact nz2) (by rw [f1 29 (by decide), n4]; exact nz3) (by rw [f1 30 (by decide), n5]; exact nz4)
    have g2 : ∀ k, (k < 5 ∨ 10 < k) → (k < 26 ∨ 30 < k) → I2 k = I k := fun k h h' => (f2 k h').trans (f1 k h)
    have y3 : zcl 60 88 [.ref 0] (I, J, R, 111) = some (some (.int (I 75 44)), (I2, J, zup R 5 8 (some (kc (I 75 43))), 111)) := by
      refine zcl_of (d := 59) (Nat.le_of_ble_eq_true rfl) (zg_wp 60 _ ?_)
      have e5 : I2 5 0 = I 75 44 := by rw [f2 5 (by decide), b0]; exact p1
      simp only [zpr_88, zhd_88, zp88, zh88, zml_88, o_bad, o_push, o_iload, o_lload, o_aload, o_istore, o_astore, o_lstore, o_iinc, o_ii, o_dv, o_i, o_ll, o_lshl, o_lcmp, o_i2l, o_l2i, o_dup, o_dup2, o_pop, o_goto, o_if, o_ic, o_sw, o_ireturn, o_nreturn, o_lreturn, o_return, o_min, o_max, o_geti, o_getr, o_puti, o_putz, o_putr, o_gets, o_iald, o_lald, o_aald, o_iast, o_last, o_aast, o_alen, o_new, o_newa, o_multi, o_call, o_scall, o_oinit, o_copyi, o_copyl, z_eq, z_ne, z_lt, z_ge, z_gt, z_le, z_ceq, z_cne, z_clt, z_cge, z_cgt, z_cle, z_rz, z_rb, z_rc, q_nz, zg_0, zg_s, zgk_s, zgh_n, zgh_s, zq_n, zq_br, zq_gd, zq_cl2, zqc_s, zq_rt, zq_sw, zq_st, zsws, zent, zpad, zla, zlg, zpop, zrv, zc1, zmk, zob_w, zaw_w, zar_w, zln_w, zld_w, zin_w, zcpg_w, znr_w, List.getElem?_cons_zero, List.getElem?_cons_succ, List.set_cons_zero, List.set_cons_succ, List.length_cons, List.length_nil, Nat.reduceLT, Nat.reduceLeDiff, Nat.reduceAdd, Nat.reduceSub, Nat.reduceMul, Nat.reduceEqDiff, Nat.reduceBEq, ↓reduceIte, q_10, q_01, q_00, q_m1, q_m2, q_m3, q_m4, q_m5, q_n1, q_n2, decide_eq_true_eq, decide_eq_false_iff_not, Bool.and_eq_true, Bool.true_and, Bool.and_true, Bool.decide_and, decide_true, decide_false, Bool.true_eq_false, Bool.false_eq_true, Option.toList_some, Option.toList_none, List.cons_append, List.nil_append, true_and, and_true, and_self, not_true_eq_false, not_false_eq_true, forall_const, false_implies, implies_true, Nat.le_refl, ne_eq, Bool.not_eq_true, eq_self, zshA, zb_rz, zb_ne, zb_eq, qem, true_implies, Nat.zero_le, false_and, and_false, Bool.or_eq_true, or_true, true_or, false_or, or_false, e0, zr_0_0 hR, zr_0_2 hR, y1, zr_0_1 hR1, zr_0_3 hR1, zr_0_0 hR1, y2, e5]
    have z75 : ∀ j, I2 75 j = I 75 j := fun j => by rw [g2 75 (by decide) (by decide)]
    obtain ⟨I3, y4, ⟨f3, f75⟩, ⟨r9, r0, r1, r2, r35, r37, r38⟩, ⟨m1, m2, m3, m4, m5⟩, m6, m7, m8, m9⟩ := ma_183 (d := 59) (J := J) (I := I2) hR1 ((z75 42).trans e2)
    have g3 : ∀ k, (k < 5 ∨ 10 < k) → (k < 26 ∨ 30 < k) → k ≠ 75 → (k < 76 ∨ 80 < k) → (k < 93 ∨ 96 < k) → I3 k = I k := fun k h h' h75 h9 h10 => (f3 k h75 h9 h10).trans (g2 k h h')
    have gj : ∀ j, ((j ≠ 9 ∧ j ≠ 0 ∧ j ≠ 1 ∧ j ≠ 2) ∧ j ≠ 35 ∧ j ≠ 37 ∧ j ≠ 38) → I3 75 j = I 75 j := fun j hj => (f75 j hj.1.1 hj.1.2.1 hj.1.2.2.1 hj.1.2.2.2 hj.2.1 hj.2.2.1 hj.2.2.2).trans (z75 j)
    rw [z75] at y4 r9 r0 r1 r2 r35 r37 r38
    rw [g2 76 (by decide) (by decide), g2 97 (by decide) (by decide), gPt_full sz1 pz1] at m1
    rw [g2 77 (by decide) (by decide), g2 98 (by decide) (by decide), gPt_full sz2 pz2] at m2
    rw [g2 78 (by decide) (by decide), g2 99 (by decide) (by decide), gPt_full sz3 pz3] at m3
    rw [g2 79 (by decide) (by decide), g2 100 (by decide) (by decide), gPt_full sz4 pz4] at m4
    rw [g2 80 (by decide) (by decide), g2 101 (by decide) (by decide), gPt_full sz5 pz5] at m5
    rw [g2 93 (by decide) (by decide), g2 102 (by decide) (by decide), gPt_full nz1 qz1] at m6
    rw [g2 94 (by decide) (by decide), g2 103 (by decide) (by decide), gPt_full nz2 qz2] at m7
    rw [g2 95 (by decide) (by decide), g2 104 (by decide) (by decide), gPt_full nz3 qz3] at m8
    rw [g2 96 (by decide) (by decide), g2 105 (by decide) (by decide), gPt_full nz4 qz4] at m9
    have u5 : ∀ k, (5 ≤ k ∧ k ≤ 10) → I3 k = I1 k := fun k hk => by rw [f3 k (by omega) (by omega) (by omega), f2 k (by omega)]
    have u26 : ∀ k, (26 ≤ k ∧ k ≤ 30) → I3 k = I2 k := fun k hk => f3 k (by omega) (by omega) (by omega)
    have fr : ∀ k, (1 ≤ k ∧ k ≤ 4) ∨ (37 ≤ k ∧ k ≤ 60) ∨ (82 ≤ k ∧ k ≤ 87) → I3 k = I k := fun k hk => g3 k (by omega) (by omega) (by omega) (by omega) (by omega)
    refine md_fin y3 y4 (c := c) (i := i) (g2 1021 (by decide) (by decide)) (g2 1022 (by decide) (by decide)) ?_ ?_
    · rw [gj 43 (by decide), r9]
      exact hR1
    · unfold iW
      rw [g3 1021 (by decide) (by decide) (by decide) (by decide) (by decide), g3 1022 (by decide) (by decide) (by decide) (by decide) (by decide), g3 13 (by decide) (by decide) (by decide) (by decide) (by decide), g3 14 (by decide) (by decide) (by decide) (by decide) (by decide), g3 15 (by decide) (by decide) (by decide) (by decide) (by decide), g3 16 (by decide) (by decide) (by decide) (by decide) (by decide), g3 17 (by decide) (by decide) (by decide) (by decide) (by decide), g3 32 (by decide) (by decide) (by decide) (by decide) (by decide), g3 33 (by decide) (by decide) (by decide) (by decide) (by decide), g3 34 (by decide) (by decide) (by decide) (by decide) (by decide), g3 35 (by decide) (by decide) (by decide) (by decide) (by decide), g3 62 (by decide) (by decide) (by decide) (by decide) (by decide)]
      rw [g3 64 (by decide) (by decide) (by decide) (by decide) (by decide), g3 66 (by decide) (by decide) (by decide) (by decide) (by decide), g3 67 (by decide) (by decide) (by decide) (by decide) (by decide), g3 81 (by decide) (by decide) (by decide) (by decide) (by decide), g3 89 (by decide) (by decide) (by decide) (by decide) (by decide), g3 97 (by decide) (by decide) (by decide) (by decide) (by decide), g3 98 (by decide) (by decide) (by decide) (by decide) (by decide), g3 99 (by decide) (by decide) (by decide) (by decide) (by decide), g3 100 (by decide) (by decide) (by decide) (by decide) (by decide), g3 101 (by decide) (by decide) (by decide) (by decide) (by decide), g3 102 (by decide) (by decide) (by decide) (by decide) (by decide), g3 103 (by decide) (by decide) (by decide) (by decide) (by decide)]
      rw [g3 104 (by decide) (by decide) (by decide) (by decide) (by decide), g3 105 (by decide) (by decide) (by decide) (by decide) (by decide), g3 106 (by decide) (by decide) (by decide) (by decide) (by decide), g3 107 (by decide) (by decide) (by decide) (by decide) (by decide), g3 108 (by decide) (by decide) (by decide) (by decide) (by decide), g3 20 (by decide) (by decide) (by decide) (by decide) (by decide), g3 21 (by decide) (by decide) (by decide) (by decide) (by decide), g3 22 (by decide) (by decide) (by decide) (by decide) (by decide), g3 24 (by decide) (by decide) (by decide) (by decide) (by decide), g3 12 (by decide) (by decide) (by decide) (by decide) (by decide), g3 31 (by decide) (by decide) (by decide) (by decide) (by decide), g3 61 (by decide) (by decide) (by decide) (by decide) (by decide)]
      rw [g3 0 (by decide) (by decide) (by decide) (by decide) (by decide), g3 63 (by decide) (by decide) (by decide) (by decide) (by decide), gj 8 (by decide), gj 10 (by decide), gj 25 (by decide), gj 26 (by decide), gj 27 (by decide), gj 29 (by decide), gj 42 (by decide), gj 43 (by decide), gj 44 (by decide), gj 45 (by decide)]
      rw [gj 46 (by decide), gj 47 (by decide), gj 48 (by decide), gj 49 (by decide), gj 59 (by decide)]
      rw [u5 5 (by decide), u5 6 (by decide), u5 7 (by decide), u5 8 (by decide), u5 9 (by decide), u5 10 (by decide), u26 26 (by decide), u26 27 (by decide), u26 28 (by decide), u26 29 (by decide), u26 30 (by decide)]
      rw [r9, r0, r1, r2, r35, r37, r38, m1, m2, m3, m4, m5, m6, m7, m8, m9]
      rw [a1, a2, a3, a4, a5', b0, b6, b7, b9, b10, b11, c1, c2, c3, c4, d1, d3, d6]
      rw [f1 31 (by decide), f1 32 (by decide), f1 33 (by decide), f1 34 (by decide), f1 35 (by decide)]
      have S : iSd (k + 1) (I 12 0) (I 12 6) (I 12 7) (I 75 44) (I 75 45) (I 75 46) (I 13) (I 14) (I 15) (I 16) (I 17) (I 97) (I 98) (I 99) (I 100) (I 101) := iSd_le hW0.2.2.1
      have N := hW0.2.2.2.2.1
      exact ⟨h1, S, S, N, N, h6, iKn_e2 h7 fr, iTh_e2 h9 fr, iTh_e2 h9 fr, h10, ⟨e1, .inr e0⟩, h12, h13, h14⟩)
end UP
