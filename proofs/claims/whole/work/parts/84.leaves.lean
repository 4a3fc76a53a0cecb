/-! ===== halves, twice, leaves: both sides ===== -/
theorem mV_s {S : gS} {D : gD} {I I' : zI} (h : mV S D I) (e : mS I I') : mV S D I' := by
  have a := e.1.1
  unfold mV at h ⊢
  rw [eq75 e.1 0 (by decide), eq75 e.1 1 (by decide), eq75 e.1 2 (by decide), a 76 (by decide), a 77 (by decide), a 78 (by decide), a 80 (by decide)]
  exact h
theorem mK_s {S : gS} {I I' : zI} (h : mK S I) (e : mS I I') : mK S I' :=
  mK_e h (eq75 e.1 9 (by decide)) (eq75 e.1 25 (by decide)) (eq75 e.1 26 (by decide)) (eq75 e.1 27 (by decide)) (e.1.1 82 (by decide)) (e.1.1 83 (by decide)) (e.1.1 84 (by decide)) (e.1.1 85 (by decide)) (e.1.1 86 (by decide)) (e.1.1 87 (by decide))
/-- as mS, but for field m of the model -/
def mX (m : Nat) (I I' : zI) : Prop := ((∀ k, kp k → I' k = I k) ∧ (∀ j, j ≠ 13 → j ≠ 14 → j ≠ 15 → I' 5 j = I 5 j) ∧ ∀ j, j ≠ m → j ≠ 11 → j ≠ 12 → j ≠ 21 → j ≠ 22 → j ≠ 23 → j ≠ 30 → j ≠ 31 → j ≠ 32 → I' 75 j = I 75 j) ∧ ∀ k, 19 ≤ k → k ≤ 25 → I' k = I k
theorem mX_r (m : Nat) (I : zI) : mX m I I := ⟨⟨fun _ _ => rfl, fun _ _ _ _ => rfl, fun _ _ _ _ _ _ _ _ _ _ => rfl⟩, fun _ _ _ => rfl⟩
theorem mX_z {m : Nat} {I I1 : zI} {x : Int32} (h : mX m I I1) : mX m I (zup I1 75 m x) := by
  refine ⟨⟨fun k hk => ?_, fun j a b c => ?_, fun j j0 a b c d e f g i => ?_⟩, fun k a b => ?_⟩
  · rw [zup_row, if_neg (by omega)]
    exact h.1.1 k hk
  · rw [zup_row, if_neg (by decide)]
    exact h.1.2.1 j a b c
  · rw [zup_at, if_neg (fun e => j0 e.2)]
    exact h.1.2.2 j j0 a b c d e f g i
  · rw [zup_row, if_neg (by omega)]
    exact h.2 k a b
theorem mX_s {m : Nat} {I I1 I2 : zI} (h : mX m I I1) (q : mS I1 I2) : mX m I I2 :=
  ⟨⟨fun k hk => (q.1.1 k hk).trans (h.1.1 k hk), fun j a b c => (q.1.2.1 j a b c).trans (h.1.2.1 j a b c), fun j j0 a b c d e f g i => (q.1.2.2 j a b c d e f g i).trans (h.1.2.2 j j0 a b c d e f g i)⟩, fun k a b => (q.2 k a b).trans (h.2 k a b)⟩
theorem mX_e {m : Nat} {I I1 : zI} (h : mX m I I1) (q : I1 75 m = I 75 m) : mS I I1 :=
  ⟨⟨h.1.1, h.1.2.1, fun j a b c d e f g i => by
    by_cases hj : j = m
    · rw [hj, q]
    · exact h.1.2.2 j hj a b c d e f g i⟩, h.2⟩
theorem mV_z {S S' : gS} {D : gD} {I : zI} {m : Nat} {x : Int32} (h : mV S D I) (hS : g_n S' = g_n S ∧ g_q S' = g_q S ∧ g_v S' = g_v S ∧ g_r S' = g_r S) (h0 : m ≠ 0) (h1 : m ≠ 1) (h2 : m ≠ 2) : mV S' D (zup I 75 m x) := by
  unfold mV at h ⊢
  rw [hS.1, hS.2.1, hS.2.2.1, hS.2.2.2]
  simp only [zup_row, Nat.reduceEqDiff, ↓reduceIte, h0.symm, h1.symm, h2.symm]
  exact h
theorem mV_S {S S' : gS} {D : gD} {I : zI} (h : mV S D I) (hS : g_n S' = g_n S ∧ g_q S' = g_q S ∧ g_v S' = g_v S ∧ g_r S' = g_r S) : mV S' D I := by
  unfold mV at h ⊢
  rw [hS.1, hS.2.1, hS.2.2.1, hS.2.2.2]
  exact h
theorem gB_ha {S : gS} (h : gB S) (x : Int32) : gB (gHa1 S x) := h
theorem gB_ge {S : gS} (h : gB S) {x : Int32} (hx : iR x 0 99) : gB (gGe1 S x) := ⟨h.1, h.2.1, h.2.2.1, hx, h.2.2.2.2⟩
theorem gB_lea {S : gS} (h : gB S) {x : Int32} (hx : iR x 0 99) : gB (gLe1 S x) := ⟨h.1, h.2.1, h.2.2.1, h.2.2.2.1, hx, h.2.2.2.2.2⟩
section MA
variable {d : Nat} {J : zJ} {R : zR} {a b c : Nat} {i : Option Nat} {S : gS} {D : gD}
theorem ma_160 (hR : qRk R a b c i) {I : zI} (V : mV S D I) (hK : mK S I) (hB : gB S) (hD : gBd D) (hm : g_m D < 100000) (h29 : I 75 29 = 99999) (h27 : I 75 27 = -1) : ∃ I', zcl (d + 10) 160 [.ref 75] (I, J, R, 111) = some (some (.int (gSp S (gWk (gHa1 S 0) 30 D) - gSp S (gWk (gHa1 S 1) 30 D))), (I', J, R, 111)) ∧ mS I I' := by
  have K0 : mK (gHa1 S 0) (zup I 75 27 0) := by
    refine mK_mind hK rfl ?_ ?_ ?_ ?_ ?_ ?_ ?_ (.inl ⟨?_, rfl⟩) (.inl ⟨?_, rfl⟩) (.inr (.inl ⟨?_, rfl⟩)) <;> simp only [zup_row, Nat.reduceEqDiff, ↓reduceIte]
  obtain ⟨I1, y1, e1, f1⟩ := ma_158 (d := d) (J := J) hR (mV_z (S' := gHa1 S 0) (m := 27) (x := 0) V ⟨rfl, rfl, rfl, rfl⟩ (by decide) (by decide) (by decide)) K0 (gB_ha hB 0) hD hm (by rw [zup_at, if_neg (by decide)]; exact h29)
  have X1 := mX_s (mX_z (m := 27) (x := 0) (mX_r 27 I)) e1
  have K1' : mK (gHa1 S 0) I1 := mK_s K0 e1
  have V1' := mV_s (mV_z (S' := gHa1 S 0) (m := 27) (x := 0) V ⟨rfl, rfl, rfl, rfl⟩ (by decide) (by decide) (by decide)) e1
  have K1 : mK (gHa1 S 1) (zup I1 75 27 1) := by
    refine mK_mind K1' rfl ?_ ?_ ?_ ?_ ?_ ?_ ?_ (.inl ⟨?_, rfl⟩) (.inl ⟨?_, rfl⟩) (.inr (.inr ⟨?_, rfl⟩)) <;> simp only [zup_row, Nat.reduceEqDiff, ↓reduceIte]
  have h291 : I1 75 29 = 99999 := by rw [eq75 e1.1 29 (by decide), zup_at, if_neg (by decide)]; exact h29
  obtain ⟨I2, y2, e2, f2⟩ := ma_158 (d := d) (J := J) hR (mV_z (S' := gHa1 S 1) (m := 27) (x := 1) V1' ⟨rfl, rfl, rfl, rfl⟩ (by decide) (by decide) (by decide)) K1 (gB_ha hB 1) hD hm (by rw [zup_at, if_neg (by decide)]; exact h291)
  have X2 := mX_z (x := -1) (mX_s (mX_z (m := 27) (x := 1) X1) e2)
  refine ⟨zup I2 75 27 (-1), zcl_of (Nat.le_of_ble_eq_true rfl) (zg_wp 40 _ ?_), mX_e X2 (by rw [zup_at, if_pos ⟨rfl, rfl⟩, h27])⟩
  simp only [zpr_160, zhd_160, zp160, zh160, zml_160, o_bad, o_push, o_iload, o_lload, o_aload, o_istore, o_astore, o_lstore, o_iinc, o_ii, o_dv, o_i, o_ll, o_lshl, o_lcmp, o_i2l, o_l2i, o_dup, o_dup2, o_pop, o_goto, o_if, o_ic, o_sw, o_ireturn, o_nreturn, o_lreturn, o_return, o_min, o_max, o_geti, o_getr, o_puti, o_putz, o_putr, o_gets, o_iald, o_lald, o_aald, o_iast, o_last, o_aast, o_alen, o_new, o_newa, o_multi, o_call, o_scall, o_oinit, o_copyi, o_copyl, z_eq, z_ne, z_lt, z_ge, z_gt, z_le, z_ceq, z_cne, z_clt, z_cge, z_cgt, z_cle, z_rz, z_rb, z_rc, q_nz, zg_0, zg_s, zgk_s, zgh_n, zgh_s, zq_n, zq_br, zq_gd, zq_cl2, zqc_s, zq_rt, zq_sw, zq_st, zsws, zent, zpad, zla, zlg, zpop, zrv, zc1, zmk, zob_w, zaw_w, zar_w, zln_w, zld_w, zin_w, zcpg_w, znr_w, List.getElem?_cons_zero, List.getElem?_cons_succ, List.set_cons_zero, List.set_cons_succ, List.length_cons, List.length_nil, Nat.reduceLT, Nat.reduceLeDiff, Nat.reduceAdd, Nat.reduceSub, Nat.reduceMul, Nat.reduceEqDiff, Nat.reduceBEq, ↓reduceIte, q_10, q_01, q_00, q_m1, q_m2, q_m3, q_m4, q_m5, q_n1, q_n2, decide_eq_true_eq, decide_eq_false_iff_not, Bool.and_eq_true, Bool.true_and, Bool.and_true, Bool.decide_and, decide_true, decide_false, Bool.true_eq_false, Bool.false_eq_true, Option.toList_some, Option.toList_none, List.cons_append, List.nil_append, true_and, and_true, and_self, not_true_eq_false, not_false_eq_true, forall_const, false_implies, implies_true, Nat.le_refl, ne_eq, Bool.not_eq_true, eq_self, zshA, zb_rz, zb_ne, zb_eq, qem, true_implies, Nat.zero_le, false_and, and_false, Bool.or_eq_true, or_true, true_or, false_or, or_false, y1, y2]
  rfl
theorem ma_162 (hR : qRk R a b c i) {I : zI} (V : mV S D I) (hK : mK S I) (hB : gB S) (hD : gBd D) (hm : g_m D < 100000) (h29 : I 75 29 = 99999) (h25 : I 75 25 = -1) : ∃ I', zcl (d + 10) 162 [.ref 75] (I, J, R, 111) = some (some (.int (gSp S (gWk S 30 D) - gSp S (gWk (gGe1 S 0) 30 D))), (I', J, R, 111)) ∧ mS I I' := by
  obtain ⟨I1, y1, e1, f1⟩ := ma_158 (d := d) (J := J) hR V hK hB hD hm h29
  have X1 := mX_s (mX_r 25 I) e1
  have K1 : mK (gGe1 S 0) (zup I1 75 25 0) := by
    refine mK_mind (mK_s hK e1) rfl ?_ ?_ ?_ ?_ ?_ ?_ ?_ (.inr ⟨?_, ?_⟩) (.inl ⟨?_, rfl⟩) (.inl ⟨?_, rfl⟩) <;> simp only [zup_row, Nat.reduceEqDiff, ↓reduceIte]
    · decide
    · rfl
  have h291 : I1 75 29 = 99999 := by rw [eq75 e1.1 29 (by decide)]; exact h29
  obtain ⟨I2, y2, e2, f2⟩ := ma_158 (d := d) (J := J) hR (mV_z (S' := gGe1 S 0) (m := 25) (x := 0) (mV_s V e1) ⟨rfl, rfl, rfl, rfl⟩ (by decide) (by decide) (by decide)) K1 (gB_ge hB ⟨by decide, by decide⟩) hD hm (by rw [zup_at, if_neg (by decide)]; exact h291)
  have X2 := mX_z (x := -1) (mX_s (mX_z (m := 25) (x := 0) X1) e2)
  refine ⟨zup I2 75 25 (-1), zcl_of (Nat.le_of_ble_eq_true rfl) (zg_wp 40 _ ?_), mX_e X2 (by rw [zup_at, if_pos ⟨rfl, rfl⟩, h25])⟩
  simp only [zpr_162, zhd_162, zp162, zh162, zml_162, o_bad, o_push, o_iload, o_lload, o_aload, o_istore, o_astore, o_lstore, o_iinc, o_ii, o_dv, o_i, o_ll, o_lshl, o_lcmp, o_i2l, o_l2i, o_dup, o_dup2, o_pop, o_goto, o_if, o_ic, o_sw, o_ireturn, o_nreturn, o_lreturn, o_return, o_min, o_max, o_geti, o_getr, o_puti, o_putz, o_putr, o_gets, o_iald, o_lald, o_aald, o_iast, o_last, o_aast, o_alen, o_new, o_newa, o_multi, o_call, o_scall, o_oinit, o_copyi, o_copyl, z_eq, z_ne, z_lt, z_ge, z_gt, z_le, z_ceq, z_cne, z_clt, z_cge, z_cgt, z_cle, z_rz, z_rb, z_rc, q_nz, zg_0, zg_s, zgk_s, zgh_n, zgh_s, zq_n, zq_br, zq_gd, zq_cl2, zqc_s, zq_rt, zq_sw, zq_st, zsws, zent, zpad, zla, zlg, zpop, zrv, zc1, zmk, zob_w, zaw_w, zar_w, zln_w, zld_w, zin_w, zcpg_w, znr_w, List.getElem?_cons_zero, List.getElem?_cons_succ, List.set_cons_zero, List.set_cons_succ, List.length_cons, List.length_nil, Nat.reduceLT, Nat.reduceLeDiff, Nat.reduceAdd, Nat.reduceSub, Nat.reduceMul, Nat.reduceEqDiff, Nat.reduceBEq, ↓reduceIte, q_10, q_01, q_00, q_m1, q_m2, q_m3, q_m4, q_m5, q_n1, q_n2, decide_eq_true_eq, decide_eq_false_iff_not, Bool.and_eq_true, Bool.true_and, Bool.and_true, Bool.decide_and, decide_true, decide_false, Bool.true_eq_false, Bool.false_eq_true, Option.toList_some, Option.toList_none, List.cons_append, List.nil_append, true_and, and_true, and_self, not_true_eq_false, not_false_eq_true, forall_const, false_implies, implies_true, Nat.le_refl, ne_eq, Bool.not_eq_true, eq_self, zshA, zb_rz, zb_ne, zb_eq, qem, true_implies, Nat.zero_le, false_and, and_false, Bool.or_eq_true, or_true, true_or, false_or, or_false, y1, y2]
  rfl
/-- the model's search of a LEAVE, from l - 1 down -/
def gLm (S : gS) (D : gD) : Nat → Int32 → Int32 → Int32 × Int32
  | 0, f, o => (f, o)
  | l + 1, f, o => if o < 0 ∨ gSp S (gWk (gLe1 S (nI l)) 30 D) < o then gLm S D l (nI l) (gSp S (gWk (gLe1 S (nI l)) 30 D)) else gLm S D l f o
set_option maxRecDepth 40000 in
theorem sl_159 (hR : qRk R a b c i) {I0 : zI} (V : mV S D I0) (hK : mK S I0) (hB : gB S) (hD : gBd D) (hm : g_m D < 100000) (h29 : I0 75 29 = 99999) (h26 : I0 75 26 = -1) {w : Int32} : ∀ (l : Nat) (f o : Int32) (I : zI), l ≤ 31 → mX 26 I0 I → I 75 26 = (if l = 0 then -1 else nI (l - 1)) → zWP (zcl (d + 9)) 159 (22, [some (.ref 75), some (.int w), some (.int f), some (.int o), none], [], (I, J, R, 111)) (zEn (some (.int (if w = 0 then (gLm S D l f o).1 else (gLm S D l f o).2))) J R (mS I0)) := by
  intro l
  induction l with
  | zero =>
    intro f o I hl X h
    rw [if_pos rfl] at h
    have X2 := mX_z (x := -1) X
    have e := mX_e X2 (by rw [zup_at, if_pos ⟨rfl, rfl⟩, h26])
    refine zg_wp 40 _ ?_
    by_cases hw : w = 0
    · simp only [zpr_159, zhd_159, zp159, zh159, zml_159, o_bad, o_push, o_iload, o_lload, o_aload, o_istore, o_astore, o_lstore, o_iinc, o_ii, o_dv, o_i, o_ll, o_lshl, o_lcmp, o_i2l, o_l2i, o_dup, o_dup2, o_pop, o_goto, o_if, o_ic, o_sw, o_ireturn, o_nreturn, o_lreturn, o_return, o_min, o_max, o_geti, o_getr, o_puti, o_putz, o_putr, o_gets, o_iald, o_lald, o_aald, o_iast, o_last, o_aast, o_alen, o_new, o_newa, o_multi, o_call, o_scall, o_oinit, o_copyi, o_copyl, z_eq, z_ne, z_lt, z_ge, z_gt, z_le, z_ceq, z_cne, z_clt, z_cge, z_cgt, z_cle, z_rz, z_rb, z_rc, q_nz, zg_0, zg_s, zgk_s, zgh_n, zgh_s, zq_n, zq_br, zq_gd, zq_cl2, zqc_s, zq_rt, zq_sw, zq_st, zsws, zent, zpad, zla, zlg, zpop, zrv, zc1, zmk, zob_w, zaw_w, zar_w, zln_w, zld_w, zin_w, zcpg_w, znr_w, List.getElem?_cons_zero, List.getElem?_cons_succ, List.set_cons_zero, List.set_cons_succ, List.length_cons, List.length_nil, Nat.reduceLT, Nat.reduceLeDiff, Nat.reduceAdd, Nat.reduceSub, Nat.reduceMul, Nat.reduceEqDiff, Nat.reduceBEq, ↓reduceIte, q_10, q_01, q_00, q_m1, q_m2, q_m3, q_m4, q_m5, q_n1, q_n2, decide_eq_true_eq, decide_eq_false_iff_not, Bool.and_eq_true, Bool.true_and, Bool.and_true, Bool.decide_and, decide_true, decide_false, Bool.true_eq_false, Bool.false_eq_true, Option.toList_some, Option.toList_none, List.cons_append, List.nil_append, true_and, and_true, and_self, not_true_eq_false, not_false_eq_true, forall_const, false_implies, implies_true, Nat.le_refl, ne_eq, Bool.not_eq_true, eq_self, zshA, zb_rz, zb_ne, zb_eq, qem, true_implies, Nat.zero_le, false_and, and_false, Bool.or_eq_true, or_true, true_or, false_or, or_false, h, hw]
      exact zEn_mk e
    · simp only [zpr_159, zhd_159, zp159, zh159, zml_159, o_bad, o_push, o_iload, o_lload, o_aload, o_istore, o_astore, o_lstore, o_iinc, o_ii, o_dv, o_i, o_ll, o_lshl, o_lcmp, o_i2l, o_l2i, o_dup, o_dup2, o_pop, o_goto, o_if, o_ic, o_sw, o_ireturn, o_nreturn, o_lreturn, o_return, o_min, o_max, o_geti, o_getr, o_puti, o_putz, o_putr, o_gets, o_iald, o_lald, o_aald, o_iast, o_last, o_aast, o_alen, o_new, o_newa, o_multi, o_call, o_scall, o_oinit, o_copyi, o_copyl, z_eq, z_ne, z_lt, z_ge, z_gt, z_le, z_ceq, z_cne, z_clt, z_cge, z_cgt, z_cle, z_rz, z_rb, z_rc, q_nz, zg_0, zg_s, zgk_s, zgh_n, zgh_s, zq_n, zq_br, zq_gd, zq_cl2, zqc_s, zq_rt, zq_sw, zq_st, zsws, zent, zpad, zla, zlg, zpop, zrv, zc1, zmk, zob_w, zaw_w, zar_w, zln_w, zld_w, zin_w, zcpg_w, znr_w, List.getElem?_cons_zero, List.getElem?_cons_succ, List.set_cons_zero, List.set_cons_succ, List.length_cons, List.length_nil, Nat.reduceLT, Nat.reduceLeDiff, Nat.reduceAdd, Nat.reduceSub, Nat.reduceMul, Nat.reduceEqDiff, Nat.reduceBEq, ↓reduceIte, q_10, q_01, q_00, q_m1, q_m2, q_m3, q_m4, q_m5, q_n1, q_n2, decide_eq_true_eq, decide_eq_false_iff_not, Bool.and_eq_true, Bool.true_and, Bool.and_true, Bool.decide_and, decide_true, decide_false, Bool.true_eq_false, Bool.false_eq_true, Option.toList_some, Option.toList_none, List.cons_append, List.nil_append, true_and, and_true, and_self, not_true_eq_false, not_false_eq_true, forall_const, false_implies, implies_true, Nat.le_refl, ne_eq, Bool.not_eq_true, eq_self, zshA, zb_rz, zb_ne, zb_eq, qem, true_implies, Nat.zero_le, false_and, and_false, Bool.or_eq_true, or_true, true_or, false_or, or_false, h, hw]
      exact zEn_mk e
  | succ l ih =>
    intro f o I hl X h
    rw [if_neg (by omega), Nat.add_sub_cancel] at h
    have e0 : ¬ nI l < 0 := q_tnl (n := 0) (by omega) (by omega)
    -- the state as of I0 with the mind l
    have Ke : mK (gLe1 S (nI l)) I := by
      refine mK_mind hK rfl (X.1.2.2 9 (by decide) (by decide) (by decide) (by decide) (by decide) (by decide) (by decide) (by decide) (by decide)) (X.1.1 82 (by decide)) (X.1.1 83 (by decide)) (X.1.1 84 (by decide)) (X.1.1 85 (by decide)) (X.1.1 86 (by decide)) (X.1.1 87 (by decide)) (.inl ⟨X.1.2.2 25 (by decide) (by decide) (by decide) (by decide) (by decide) (by decide) (by decide) (by decide) (by decide), rfl⟩) (.inr ⟨by rw [h]; exact q_tle (m := 0) (by omega) (by omega), h.symm⟩) (.inl ⟨X.1.2.2 27 (by decide) (by decide) (by decide) (by decide) (by decide) (by decide) (by decide) (by decide) (by decide), rfl⟩)
    have Ve : mV (gLe1 S (nI l)) D I := by
      refine mV_S (S := S) ?_ ⟨rfl, rfl, rfl, rfl⟩
      unfold mV at V ⊢
      rw [X.1.2.2 0 (by decide) (by decide) (by decide) (by decide) (by decide) (by decide) (by decide) (by decide) (by decide), X.1.2.2 1 (by decide) (by decide) (by decide) (by decide) (by decide) (by decide) (by decide) (by decide) (by decide), X.1.2.2 2 (by decide) (by decide) (by decide) (by decide) (by decide) (by decide) (by decide) (by decide) (by decide), X.1.1 76 (by decide), X.1.1 77 (by decide), X.1.1 78 (by decide), X.1.1 80 (by decide)]
      exact V
    have h29' : I 75 29 = 99999 := (X.1.2.2 29 (by decide) (by decide) (by decide) (by decide) (by decide) (by decide) (by decide) (by decide) (by decide)).trans h29
    obtain ⟨I1, y1, e1, f1⟩ := ma_158 (d := d) (J := J) hR Ve Ke (gB_lea hB (x := nI l) ⟨by rw [nI_toInt (by omega)]; omega, by rw [nI_toInt (by omega)]; omega⟩) hD hm h29'
    have hs : gSp (gLe1 S (nI l)) (gWk (gLe1 S (nI l)) 30 D) = gSp S (gWk (gLe1 S (nI l)) 30 D) := rfl
    rw [hs] at y1
    have h261 : I1 75 26 = nI l := by rw [eq75 e1.1 26 (by decide), h]
    have X1 := mX_z (x := nI l - 1) (mX_s X e1)
    have h1 : (zup I1 75 26 (nI l - 1)) 75 26 = (if l = 0 then -1 else nI (l - 1)) := by
      rw [zup_at, if_pos ⟨rfl, rfl⟩]
      cases l with
      | zero => rfl
      | succ l => rw [if_neg (by omega), nI_pred]; rfl
    refine zg_wp 60 _ ?_
    by_cases ho : o < 0
    · have z := ih (nI l) (gSp S (gWk (gLe1 S (nI l)) 30 D)) _ (by omega) X1 h1
      simp only [zpr_159, zhd_159, zp159, zh159, zml_159, o_bad, o_push, o_iload, o_lload, o_aload, o_istore, o_astore, o_lstore, o_iinc, o_ii, o_dv, o_i, o_ll, o_lshl, o_lcmp, o_i2l, o_l2i, o_dup, o_dup2, o_pop, o_goto, o_if, o_ic, o_sw, o_ireturn, o_nreturn, o_lreturn, o_return, o_min, o_max, o_geti, o_getr, o_puti, o_putz, o_putr, o_gets, o_iald, o_lald, o_aald, o_iast, o_last, o_aast, o_alen, o_new, o_newa, o_multi, o_call, o_scall, o_oinit, o_copyi, o_copyl, z_eq, z_ne, z_lt, z_ge, z_gt, z_le, z_ceq, z_cne, z_clt, z_cge, z_cgt, z_cle, z_rz, z_rb, z_rc, q_nz, zg_0, zg_s, zgk_s, zgh_n, zgh_s, zq_n, zq_br, zq_gd, zq_cl2, zqc_s, zq_rt, zq_sw, zq_st, zsws, zent, zpad, zla, zlg, zpop, zrv, zc1, zmk, zob_w, zaw_w, zar_w, zln_w, zld_w, zin_w, zcpg_w, znr_w, List.getElem?_cons_zero, List.getElem?_cons_succ, List.set_cons_zero, List.set_cons_succ, List.length_cons, List.length_nil, Nat.reduceLT, Nat.reduceLeDiff, Nat.reduceAdd, Nat.reduceSub, Nat.reduceMul, Nat.reduceEqDiff, Nat.reduceBEq, ↓reduceIte, q_10, q_01, q_00, q_m1, q_m2, q_m3, q_m4, q_m5, q_n1, q_n2, decide_eq_true_eq, decide_eq_false_iff_not, Bool.and_eq_true, Bool.true_and, Bool.and_true, Bool.decide_and, decide_true, decide_false, Bool.true_eq_false, Bool.false_eq_true, Option.toList_some, Option.toList_none, List.cons_append, List.nil_append, true_and, and_true, and_self, not_true_eq_false, not_false_eq_true, forall_const, false_implies, implies_true, Nat.le_refl, ne_eq, Bool.not_eq_true, eq_self, zshA, zb_rz, zb_ne, zb_eq, qem, true_implies, Nat.zero_le, false_and, and_false, Bool.or_eq_true, or_true, true_or, false_or, or_false, h, e0, y1, ho, h261]
      have g : gLm S D (l + 1) f o = gLm S D l (nI l) (gSp S (gWk (gLe1 S (nI l)) 30 D)) := if_pos (.inl ho)
      rw [g]
      exact z
    · by_cases hlt : gSp S (gWk (gLe1 S (nI l)) 30 D) < o
      · have z := ih (nI l) (gSp S (gWk (gLe1 S (nI l)) 30 D)) _ (by omega) X1 h1
        simp only [zpr_159, zhd_159, zp159, zh159, zml_159, o_bad, o_push, o_iload, o_lload, o_aload, o_istore, o_astore, o_lstore, o_iinc, o_ii, o_dv, o_i, o_ll, o_lshl, o_lcmp, o_i2l, o_l2i, o_dup, o_dup2, o_pop, o_goto, o_if, o_ic, o_sw, o_ireturn, o_nreturn, o_lreturn, o_return, o_min, o_max, o_geti, o_getr, o_puti, o_putz, o_putr, o_gets, o_iald, o_lald, o_aald, o_iast, o_last, o_aast, o_alen, o_new, o_newa, o_multi, o_call, o_scall, o_oinit, o_copyi, o_copyl, z_eq, z_ne, z_lt, z_ge, z_gt, z_le, z_ceq, z_cne, z_clt, z_cge, z_cgt, z_cle, z_rz, z_rb, z_rc, q_nz, zg_0, zg_s, zgk_s, zgh_n, zgh_s, zq_n, zq_br, zq_gd, zq_cl2, zqc_s, zq_rt, zq_sw, zq_st, zsws, zent, zpad, zla, zlg, zpop, zrv, zc1, zmk, zob_w, zaw_w, zar_w, zln_w, zld_w, zin_w, zcpg_w, znr_w, List.getElem?_cons_zero, List.getElem?_cons_succ, List.set_cons_zero, List.set_cons_succ, List.length_cons, List.length_nil, Nat.reduceLT, Nat.reduceLeDiff, Nat.reduceAdd, Nat.reduceSub, Nat.reduceMul, Nat.reduceEqDiff, Nat.reduceBEq, ↓reduceIte, q_10, q_01, q_00, q_m1, q_m2, q_m3, q_m4, q_m5, q_n1, q_n2, decide_eq_true_eq, decide_eq_false_iff_not, Bool.and_eq_true, Bool.true_and, Bool.and_true, Bool.decide_and, decide_true, decide_false, Bool.true_eq_false, Bool.false_eq_true, Option.toList_some, Option.toList_none, List.cons_append, List.nil_append, true_and, and_true, and_self, not_true_eq_false, not_false_eq_true, forall_const, false_implies, implies_true, Nat.le_refl, ne_eq, Bool.not_eq_true, eq_self, zshA, zb_rz, zb_ne, zb_eq, qem, true_implies, Nat.zero_le, false_and, and_false, Bool.or_eq_true, or_true, true_or, false_or, or_false, h, e0, y1, ho, hlt, h261]
        have g : gLm S D (l + 1) f o = gLm S D l (nI l) (gSp S (gWk (gLe1 S (nI l)) 30 D)) := if_pos (.inr hlt)
        rw [g]
        exact z
      · have z := ih f o _ (by omega) X1 h1
        simp only [zpr_159, zhd_159, zp159, zh159, zml_159, o_bad, o_push, o_iload, o_lload, o_aload, o_istore, o_astore, o_lstore, o_iinc, o_ii, o_dv, o_i, o_ll, o_lshl, o_lcmp, o_i2l, o_l2i, o_dup, o_dup2, o_pop, o_goto, o_if, o_ic, o_sw, o_ireturn, o_nreturn, o_lreturn, o_return, o_min, o_max, o_geti, o_getr, o_puti, o_putz, o_putr, o_gets, o_iald, o_lald, o_aald, o_iast, o_last, o_aast, o_alen, o_new, o_newa, o_multi, o_call, o_scall, o_oinit, o_copyi, o_copyl, z_eq, z_ne, z_lt, z_ge, z_gt, z_le, z_ceq, z_cne, z_clt, z_cge, z_cgt, z_cle, z_rz, z_rb, z_rc, q_nz, zg_0, zg_s, zgk_s, zgh_n, zgh_s, zq_n, zq_br, zq_gd, zq_cl2, zqc_s, zq_rt, zq_sw, zq_st, zsws, zent, zpad, zla, zlg, zpop, zrv, zc1, zmk, zob_w, zaw_w, zar_w, zln_w, zld_w, zin_w, zcpg_w, znr_w, List.getElem?_cons_zero, List.getElem?_cons_succ, List.set_cons_zero, List.set_cons_succ, List.length_cons, List.length_nil, Nat.reduceLT, Nat.reduceLeDiff, Nat.reduceAdd, Nat.reduceSub, Nat.reduceMul, Nat.reduceEqDiff, Nat.reduceBEq, ↓reduceIte, q_10, q_01, q_00, q_m1, q_m2, q_m3, q_m4, q_m5, q_n1, q_n2, decide_eq_true_eq, decide_eq_false_iff_not, Bool.and_eq_true, Bool.true_and, Bool.and_true, Bool.decide_and, decide_true, decide_false, Bool.true_eq_false, Bool.false_eq_true, Option.toList_some, Option.toList_none, List.cons_append, List.nil_append, true_and, and_true, and_self, not_true_eq_false, not_false_eq_true, forall_const, false_implies, implies_true, Nat.le_refl, ne_eq, Bool.not_eq_true, eq_self, zshA, zb_rz, zb_ne, zb_eq, qem, true_implies, Nat.zero_le, false_and, and_false, Bool.or_eq_true, or_true, true_or, false_or, or_false, h, e0, y1, ho, hlt, h261]
        have g : gLm S D (l + 1) f o = gLm S D l f o := if_neg (fun e => e.elim ho hlt)
        rw [g]
        exact z
theorem ma_159 (hR : qRk R a b c i) {I : zI} (V : mV S D I) (hK : mK S I) (hB : gB S) (hD : gBd D) (hm : g_m D < 100000) (h29 : I 75 29 = 99999) (h26 : I 75 26 = -1) {w : Int32} (hw : 0 ≤ w ∧ w ≤ 1) : ∃ I', zcl (d + 10) 159 [.ref 75, .int w] (I, J, R, 111) = some (some (.int (if w = 0 then (gLm S D 31 0 (-1)).1 else (gLm S D 31 0 (-1)).2)), (I', J, R, 111)) ∧ mS I I' := by
  refine zcl_en (Nat.le_of_ble_eq_true rfl) (zg_wp 30 _ ?_)
  simp only [zpr_159, zhd_159, zp159, zh159, zml_159, o_bad, o_push, o_iload, o_lload, o_aload, o_istore, o_astore, o_lstore, o_iinc, o_ii, o_dv, o_i, o_ll, o_lshl, o_lcmp, o_i2l, o_l2i, o_dup, o_dup2, o_pop, o_goto, o_if, o_ic, o_sw, o_ireturn, o_nreturn, o_lreturn, o_return, o_min, o_max, o_geti, o_getr, o_puti, o_putz, o_putr, o_gets, o_iald, o_lald, o_aald, o_iast, o_last, o_aast, o_alen, o_new, o_newa, o_multi, o_call, o_scall, o_oinit, o_copyi, o_copyl, z_eq, z_ne, z_lt, z_ge, z_gt, z_le, z_ceq, z_cne, z_clt, z_cge, z_cgt, z_cle, z_rz, z_rb, z_rc, q_nz, zg_0, zg_s, zgk_s, zgh_n, zgh_s, zq_n, zq_br, zq_gd, zq_cl2, zqc_s, zq_rt, zq_sw, zq_st, zsws, zent, zpad, zla, zlg, zpop, zrv, zc1, zmk, zob_w, zaw_w, zar_w, zln_w, zld_w, zin_w, zcpg_w, znr_w, List.getElem?_cons_zero, List.getElem?_cons_succ, List.set_cons_zero, List.set_cons_succ, List.length_cons, List.length_nil, Nat.reduceLT, Nat.reduceLeDiff, Nat.reduceAdd, Nat.reduceSub, Nat.reduceMul, Nat.reduceEqDiff, Nat.reduceBEq, ↓reduceIte, q_10, q_01, q_00, q_m1, q_m2, q_m3, q_m4, q_m5, q_n1, q_n2, decide_eq_true_eq, decide_eq_false_iff_not, Bool.and_eq_true, Bool.true_and, Bool.and_true, Bool.decide_and, decide_true, decide_false, Bool.true_eq_false, Bool.false_eq_true, Option.toList_some, Option.toList_none, List.cons_append, List.nil_append, true_and, and_true, and_self, not_true_eq_false, not_false_eq_true, forall_const, false_implies, implies_true, Nat.le_refl, ne_eq, Bool.not_eq_true, eq_self, zshA, zb_rz, zb_ne, zb_eq, qem, true_implies, Nat.zero_le, false_and, and_false, Bool.or_eq_true, or_true, true_or, false_or, or_false, sp_102, hw, zb_pos]
  exact sl_159 hR V hK hB hD hm h29 h26 31 0 (-1) _ (by omega) (mX_z (x := 30) (mX_r 26 I)) (by rw [zup_at, if_pos ⟨rfl, rfl⟩]; rfl)
end MA
