/-! ===== what the model is asked: it saves, tries, puts back ===== -/
def mH (I0 I : zI) : Prop := mT I0 I ∧ (∀ j, 6 ≤ j → I 78 j = I0 78 j) ∧ ∀ j, 6 ≤ j → I 79 j = I0 79 j
theorem mH_g {I0 I I1 : zI} (h : mH I0 I) (W : mW I I1) (p : ∀ j, 6 ≤ j → I1 78 j = I 78 j) (q : ∀ j, 6 ≤ j → I1 79 j = I 79 j) : mH I0 I1 :=
  ⟨mT_w h.1 W, fun j hj => (p j hj).trans (h.2.1 j hj), fun j hj => (q j hj).trans (h.2.2 j hj)⟩
theorem mH_f {I0 I I1 : zI} (h : mH I0 I) (f : mF I I1) : mH I0 I1 := mH_g h (mF_W f) (fun j _ => by rw [f 78 (by decide)]) (fun j _ => by rw [f 79 (by decide)])
theorem gCf_hi {M T : Int32} {s j : Nat} {f : Nat → Int32} (hs : s < 6) (hj : 6 ≤ j) : gCf M T s f j = f j := if_neg (by omega)
theorem gCu_hi2 {S : gS} {D : gD} {s j : Nat} {x : Int32} (hs : s < 6) (hj : 6 ≤ j) : g_l (gCu S D s x) j = g_l D j := if_neg (by omega)
theorem gDy_hi2 {S : gS} {D : gD} {j : Nat} (hn : g_n S ≤ 6) (hj : 6 ≤ j) : g_l (gDy S D) j = g_l D j := if_neg (by omega)
theorem mH_c {S : gS} {D : gD} {I0 I I1 : zI} {s : Nat} {x M T : Int32} (hs : s < 6) (h : mH I0 I) (V : mV S D I) (V1 : mV S (gCu S D s x) I1) (W : mW I I1) (g : I1 79 = gCf M T s (I 79)) : mH I0 I1 :=
  mH_g h W (fun j hj => by rw [V1.1.2.2.2.1, V.1.2.2.2.1, gCu_hi2 hs hj]) (fun j hj => by rw [g, gCf_hi hs hj])
theorem mH_w {S : gS} {D : gD} {I0 I I1 : zI} {n : Nat} {M : Int32} (hn : g_n S ≤ 6) (h0 : 0 ≤ g_le S) (h : mH I0 I) (V : mV S D I) (V1 : mV S (gWk S n D) I1) (W : mW I I1) (g : I1 79 = gOf M S n D (I 79)) : mH I0 I1 :=
  mH_g h W (fun j hj => by rw [V1.1.2.2.2.1, V.1.2.2.2.1, gWk_hi2 hn h0 n D j hj]) (fun j hj => by rw [g, gOf_hi hn h0 n D _ j hj])
theorem mH_d {S : gS} {D : gD} {I0 I I1 : zI} (hn : g_n S ≤ 6) (h : mH I0 I) (V : mV S D I) (V1 : mV S (gDy S D) I1) (W : mW I I1) (g : I1 79 = I 79) : mH I0 I1 :=
  mH_g h W (fun j hj => by rw [V1.1.2.2.2.1, V.1.2.2.2.1, gDy_hi2 hn hj]) (fun j _ => by rw [g])
def gEn (S : gS) : Nat → Nat → gD → Int32
  | 0, _, _ => -5
  | f + 1, n, D => if gGap S D ≤ g_le S then nI n else gEn S f (n + 1) (gNx S D)
theorem gBd_p {D : gD} (h : gBd D) (s : Nat) : 0 ≤ g_l D s := by
  rw [Int32.le_iff_toInt_le, i0]
  exact (h s).1
section MA
variable {d : Nat} {I : zI} {J : zJ} {R : zR} {a b c : Nat} {i : Option Nat} {S : gS} {D : gD}
theorem ma_begin (hR : qRk R a b c i) (V : mV S D I) (hK : mK S I) : ∃ I', zcl (d + 2) 149 [.ref 75] (I, J, R, 111) = some (none, (I', J, R, 111)) ∧ mV S D I' ∧ mK S I' ∧ mH I I' ∧ I' 75 29 = 2000000000 ∧ I' 79 = I 79 ∧ I' 92 = gPt (I 92) (I 79) 6 ∧ (∀ j, j ≠ 29 → j ≠ 31 → j ≠ 32 → I' 75 j = I 75 j) := by
  obtain ⟨I', y, V', K', ⟨g1, g2, g3, g4, g5⟩, f1, f2⟩ := ms_begin (d := d) (J := J) hR V hK
  exact ⟨I', y, V', K', ⟨mT_b g2 g3 g4 g5 f1 f2, fun j _ => by rw [f1 78 (by decide) (by decide) (by decide)], fun j _ => by rw [f1 79 (by decide) (by decide) (by decide)]⟩, g1, f1 79 (by decide) (by decide) (by decide), g5, f2⟩
theorem ma_end (hR : qRk R a b c i) {I0 : zI} (h : mH I0 I) (h29 : I0 75 29 = 99999) : ∃ I', zcl (d + 2) 150 [.ref 75] (I, J, R, 111) = some (none, (I', J, R, 111)) ∧ mS I0 I' ∧ (∀ k, k ≠ 75 → k ≠ 90 → k ≠ 91 → k ≠ 92 → I' k = I0 k) := ms_end hR h.1 h29 h.2.1 h.2.2
theorem ma_158 (hR : qRk R a b c i) (V : mV S D I) (hK : mK S I) (hB : gB S) (hD : gBd D) (hm : g_m D < 100000) (h29 : I 75 29 = 99999) : ∃ I', zcl (d + 9) 158 [.ref 75] (I, J, R, 111) = some (some (.int (gSp S (gWk S 30 D))), (I', J, R, 111)) ∧ mS I I' ∧ (∀ k, k ≠ 75 → k ≠ 90 → k ≠ 91 → k ≠ 92 → I' k = I k) := by
  obtain ⟨I1, y1, V1, K1, H1, _⟩ := ma_begin (d := d + 6) (J := J) hR V hK
  obtain ⟨I2, y2, V2, W2, g2⟩ := sp_151 (d := d) (J := J) hR hB.1 (gB_le hB) (n := 30) (by omega) V1 K1 (by omega)
  have y3 := sp_147 (d := d + 6) (J := J) hR hB.1 V2 (gBd_p (gWk_b hB 30 D hD) 0)
  obtain ⟨I3, y4, e3, f3⟩ := ma_end (d := d + 6) (J := J) hR (mH_w hB.1 (gB_le hB) H1 V1 V2 W2 g2) h29
  rw [show nI 30 = 30 from rfl] at y2
  refine ⟨I3, zcl_of (Nat.le_of_ble_eq_true rfl) (zg_wp 40 _ ?_), e3, f3⟩
  simp only [zpr_158, zhd_158, zp158, zh158, zml_158, o_bad, o_push, o_iload, o_lload, o_aload, o_istore, o_astore, o_lstore, o_iinc, o_ii, o_dv, o_i, o_ll, o_lshl, o_lcmp, o_i2l, o_l2i, o_dup, o_dup2, o_pop, o_goto, o_if, o_ic, o_sw, o_ireturn, o_nreturn, o_lreturn, o_return, o_min, o_max, o_geti, o_getr, o_puti, o_putz, o_putr, o_gets, o_iald, o_lald, o_aald, o_iast, o_last, o_aast, o_alen, o_new, o_newa, o_multi, o_call, o_scall, o_oinit, o_copyi, o_copyl, z_eq, z_ne, z_lt, z_ge, z_gt, z_le, z_ceq, z_cne, z_clt, z_cge, z_cgt, z_cle, z_rz, z_rb, z_rc, q_nz, zg_0, zg_s, zgk_s, zgh_n, zgh_s, zq_n, zq_br, zq_gd, zq_cl2, zqc_s, zq_rt, zq_sw, zq_st, zsws, zent, zpad, zla, zlg, zpop, zrv, zc1, zmk, zob_w, zaw_w, zar_w, zln_w, zld_w, zin_w, zcpg_w, znr_w, List.getElem?_cons_zero, List.getElem?_cons_succ, List.set_cons_zero, List.set_cons_succ, List.length_cons, List.length_nil, Nat.reduceLT, Nat.reduceLeDiff, Nat.reduceAdd, Nat.reduceSub, Nat.reduceMul, Nat.reduceEqDiff, Nat.reduceBEq, ↓reduceIte, q_10, q_01, q_00, q_m1, q_m2, q_m3, q_m4, q_m5, q_n1, q_n2, decide_eq_true_eq, decide_eq_false_iff_not, Bool.and_eq_true, Bool.true_and, Bool.and_true, Bool.decide_and, decide_true, decide_false, Bool.true_eq_false, Bool.false_eq_true, Option.toList_some, Option.toList_none, List.cons_append, List.nil_append, true_and, and_true, and_self, not_true_eq_false, not_false_eq_true, forall_const, false_implies, implies_true, Nat.le_refl, ne_eq, Bool.not_eq_true, eq_self, zshA, zb_rz, zb_ne, zb_eq, qem, true_implies, Nat.zero_le, false_and, and_false, Bool.or_eq_true, or_true, true_or, false_or, or_false, y1, y2, y3, y4]
theorem ma_154a (hR : qRk R a b c i) (V : mV S D I) (hK : mK S I) (hB : gB S) (hD : gBd D) (hm : g_m D < 100000) (h29 : I 75 29 = 99999) {n : Nat} (hn : n ≤ 60) : ∃ I', zcl (d + 9) 154 [.ref 75, .int (nI n), .int 0] (I, J, R, 111) = some (some (.int (gSp S (gWk S n D))), (I', J, R, 111)) ∧ mS I I' := by
  obtain ⟨I1, y1, V1, K1, H1, _⟩ := ma_begin (d := d + 6) (J := J) hR V hK
  obtain ⟨I2, y2, V2, W2, g2⟩ := sp_151 (d := d) (J := J) hR hB.1 (gB_le hB) (n := n) (by omega) V1 K1 (by omega)
  have y3 := sp_147 (d := d + 6) (J := J) hR hB.1 V2 (gBd_p (gWk_b hB n D hD) 0)
  obtain ⟨I3, y4, e3, f3⟩ := ma_end (d := d + 6) (J := J) hR (mH_w hB.1 (gB_le hB) H1 V1 V2 W2 g2) h29
  have h2 : (0 ≤ nI n ∧ nI n ≤ (60 : Int32)) ↔ True := q_wt (n := 60) hn (by omega)
  have h3 : ((0 : Int32) ≤ 0 ∧ (0 : Int32) ≤ 1) ↔ True := by decide
  refine ⟨I3, zcl_of (Nat.le_of_ble_eq_true rfl) (zg_wp 60 _ ?_), e3⟩
  simp only [zpr_154, zhd_154, zp154, zh154, zml_154, o_bad, o_push, o_iload, o_lload, o_aload, o_istore, o_astore, o_lstore, o_iinc, o_ii, o_dv, o_i, o_ll, o_lshl, o_lcmp, o_i2l, o_l2i, o_dup, o_dup2, o_pop, o_goto, o_if, o_ic, o_sw, o_ireturn, o_nreturn, o_lreturn, o_return, o_min, o_max, o_geti, o_getr, o_puti, o_putz, o_putr, o_gets, o_iald, o_lald, o_aald, o_iast, o_last, o_aast, o_alen, o_new, o_newa, o_multi, o_call, o_scall, o_oinit, o_copyi, o_copyl, z_eq, z_ne, z_lt, z_ge, z_gt, z_le, z_ceq, z_cne, z_clt, z_cge, z_cgt, z_cle, z_rz, z_rb, z_rc, q_nz, zg_0, zg_s, zgk_s, zgh_n, zgh_s, zq_n, zq_br, zq_gd, zq_cl2, zqc_s, zq_rt, zq_sw, zq_st, zsws, zent, zpad, zla, zlg, zpop, zrv, zc1, zmk, zob_w, zaw_w, zar_w, zln_w, zld_w, zin_w, zcpg_w, znr_w, List.getElem?_cons_zero, List.getElem?_cons_succ, List.set_cons_zero, List.set_cons_succ, List.length_cons, List.length_nil, Nat.reduceLT, Nat.reduceLeDiff, Nat.reduceAdd, Nat.reduceSub, Nat.reduceMul, Nat.reduceEqDiff, Nat.reduceBEq, ↓reduceIte, q_10, q_01, q_00, q_m1, q_m2, q_m3, q_m4, q_m5, q_n1, q_n2, decide_eq_true_eq, decide_eq_false_iff_not, Bool.and_eq_true, Bool.true_and, Bool.and_true, Bool.decide_and, decide_true, decide_false, Bool.true_eq_false, Bool.false_eq_true, Option.toList_some, Option.toList_none, List.cons_append, List.nil_append, true_and, and_true, and_self, not_true_eq_false, not_false_eq_true, forall_const, false_implies, implies_true, Nat.le_refl, ne_eq, Bool.not_eq_true, eq_self, zshA, zb_rz, zb_ne, zb_eq, qem, true_implies, Nat.zero_le, false_and, and_false, Bool.or_eq_true, or_true, true_or, false_or, or_false, sp_102, sp_153, h2, h3, zb_pos, y1, y2, y3, y4]
theorem ma_154b (hR : qRk R a b c i) (V : mV S D I) (hK : mK S I) (hB : gB S) (hD : gBd D) (hm : g_m D < 100000) (h29 : I 75 29 = 99999) (hf : ∀ s, iR (I 79 s) 0 99999) {n : Nat} (hn : n ≤ 60) : ∃ I', zcl (d + 9) 154 [.ref 75, .int (nI n), .int 1] (I, J, R, 111) = some (some (.int (gMr S n D)), (I', J, R, 111)) ∧ mS I I' := by
  obtain ⟨I1, y1, V1, K1, H1, g11, g12, g13, _⟩ := ma_begin (d := d + 6) (J := J) hR V hK
  obtain ⟨I2, y2, V2, W2, g2⟩ := sp_151 (d := d) (J := J) hR hB.1 (gB_le hB) (n := n) (by omega) V1 K1 (by omega)
  have y3 := sp_152 (d := d + 7) (J := J) hR hB.1 V2
  obtain ⟨I3, y4, e3, f3⟩ := ma_end (d := d + 6) (J := J) hR (mH_w hB.1 (gB_le hB) H1 V1 V2 W2 g2) h29
  have es : gSd (I2 79) (I2 92) (g_n S) = gMr S n D := by
    rw [g2, g11, g12, W2.1 92 (by decide) (by decide) (by decide) (by decide), g13]
    have z := (gOf_sum hB (g := gPt (I 92) (I 79) 6) n D (I 79) 99999 hD hf (by omega)).1
    rw [z]
    have z2 : ∀ m, m ≤ 6 → gSd (I 79) (gPt (I 92) (I 79) 6) m = 0 := by
      intro m
      induction m with
      | zero => intro _; rfl
      | succ m ih =>
        intro hm6
        show gSd (I 79) (gPt (I 92) (I 79) 6) m + (I 79 m - (if m < 6 then I 79 m else I 92 m)) = 0
        rw [ih (by omega), if_pos (by omega), Int32.sub_self]
        rfl
    rw [z2 _ hB.1, Int32.zero_add]
  rw [es] at y3
  have h2 : (0 ≤ nI n ∧ nI n ≤ (60 : Int32)) ↔ True := q_wt (n := 60) hn (by omega)
  have h3 : ((0 : Int32) ≤ 1 ∧ (1 : Int32) ≤ 1) ↔ True := by decide
  refine ⟨I3, zcl_of (Nat.le_of_ble_eq_true rfl) (zg_wp 60 _ ?_), e3⟩
  simp only [zpr_154, zhd_154, zp154, zh154, zml_154, o_bad, o_push, o_iload, o_lload, o_aload, o_istore, o_astore, o_lstore, o_iinc, o_ii, o_dv, o_i, o_ll, o_lshl, o_lcmp, o_i2l, o_l2i, o_dup, o_dup2, o_pop, o_goto, o_if, o_ic, o_sw, o_ireturn, o_nreturn, o_lreturn, o_return, o_min, o_max, o_geti, o_getr, o_puti, o_putz, o_putr, o_gets, o_iald, o_lald, o_aald, o_iast, o_last, o_aast, o_alen, o_new, o_newa, o_multi, o_call, o_scall, o_oinit, o_copyi, o_copyl, z_eq, z_ne, z_lt, z_ge, z_gt, z_le, z_ceq, z_cne, z_clt, z_cge, z_cgt, z_cle, z_rz, z_rb, z_rc, q_nz, zg_0, zg_s, zgk_s, zgh_n, zgh_s, zq_n, zq_br, zq_gd, zq_cl2, zqc_s, zq_rt, zq_sw, zq_st, zsws, zent, zpad, zla, zlg, zpop, zrv, zc1, zmk, zob_w, zaw_w, zar_w, zln_w, zld_w, zin_w, zcpg_w, znr_w, List.getElem?_cons_zero, List.getElem?_cons_succ, List.set_cons_zero, List.set_cons_succ, List.length_cons, List.length_nil, Nat.reduceLT, Nat.reduceLeDiff, Nat.reduceAdd, Nat.reduceSub, Nat.reduceMul, Nat.reduceEqDiff, Nat.reduceBEq, ↓reduceIte, q_10, q_01, q_00, q_m1, q_m2, q_m3, q_m4, q_m5, q_n1, q_n2, decide_eq_true_eq, decide_eq_false_iff_not, Bool.and_eq_true, Bool.true_and, Bool.and_true, Bool.decide_and, decide_true, decide_false, Bool.true_eq_false, Bool.false_eq_true, Option.toList_some, Option.toList_none, List.cons_append, List.nil_append, true_and, and_true, and_self, not_true_eq_false, not_false_eq_true, forall_const, false_implies, implies_true, Nat.le_refl, ne_eq, Bool.not_eq_true, eq_self, zshA, zb_rz, zb_ne, zb_eq, qem, true_implies, Nat.zero_le, false_and, and_false, Bool.or_eq_true, or_true, true_or, false_or, or_false, sp_102, sp_153, h2, h3, zb_pos, y1, y2, y3, y4]
theorem ma_154c (hR : qRk R a b c i) (V : mV S D I) (hK : mK S I) (hB : gB S) (hD : gBd D) (hm : g_m D < 100000) (h29 : I 75 29 = 99999) {n s : Nat} (hn : n ≤ 60) (hs : s < g_n S) : ∃ I', zcl (d + 9) 154 [.ref 75, .int (nI n), .int (nI (10 + s))] (I, J, R, 111) = some (some (.int (g_l (gWk S n D) s)), (I', J, R, 111)) ∧ mS I I' := by
  have hn6 := hB.1
  obtain ⟨I1, y1, V1, K1, H1, _⟩ := ma_begin (d := d + 6) (J := J) hR V hK
  obtain ⟨I2, y2, V2, W2, g2⟩ := sp_151 (d := d) (J := J) hR hB.1 (gB_le hB) (n := n) (by omega) V1 K1 (by omega)
  obtain ⟨I3, y4, e3, f3⟩ := ma_end (d := d + 6) (J := J) hR (mH_w hB.1 (gB_le hB) H1 V1 V2 W2 g2) h29
  have v0 := V.1.1
  have v3 := V2.1.2.2.2.1
  have h2 : (0 ≤ nI n ∧ nI n ≤ (60 : Int32)) ↔ True := q_wt (n := 60) hn (by omega)
  have h3 : (0 ≤ nI (10 + s) ∧ nI (10 + s) ≤ (1 : Int32)) ↔ False := iff_false_intro (fun e => q_tnle (m := 10 + s) (n := 1) (by omega) (by omega) e.2)
  have h4 : (9 : Int32) + nI (g_n S) = nI (9 + g_n S) := q_add3 (m := 9)
  have h5 : ((10 : Int32) ≤ nI (10 + s) ∧ nI (10 + s) ≤ nI (9 + g_n S)) ↔ True := iff_true_intro ⟨q_tle (m := 10) (by omega) (by omega), q_tle (by omega) (by omega)⟩
  have h6 : (nI (10 + s) = 0) = False := eq_false (fun e => absurd ((q_ge0 (by omega)).mp e) (by omega))
  have h7 : (nI (10 + s) = 1) = False := eq_false (fun e => absurd ((q_eq3 (n := 1) (by omega) (by omega)).mp e) (by omega))
  have h8 : nI (10 + s) - 10 = nI s := by
    have := q_sub (m := 10 + s) (c := 10) (by omega)
    rw [Nat.add_sub_cancel_left] at this
    exact this
  have e5 := q_row (m := s) (n := 6) (by omega) (by omega)
  refine ⟨I3, zcl_of (Nat.le_of_ble_eq_true rfl) (zg_wp 60 _ ?_), e3⟩
  simp only [zpr_154, zhd_154, zp154, zh154, zml_154, o_bad, o_push, o_iload, o_lload, o_aload, o_istore, o_astore, o_lstore, o_iinc, o_ii, o_dv, o_i, o_ll, o_lshl, o_lcmp, o_i2l, o_l2i, o_dup, o_dup2, o_pop, o_goto, o_if, o_ic, o_sw, o_ireturn, o_nreturn, o_lreturn, o_return, o_min, o_max, o_geti, o_getr, o_puti, o_putz, o_putr, o_gets, o_iald, o_lald, o_aald, o_iast, o_last, o_aast, o_alen, o_new, o_newa, o_multi, o_call, o_scall, o_oinit, o_copyi, o_copyl, z_eq, z_ne, z_lt, z_ge, z_gt, z_le, z_ceq, z_cne, z_clt, z_cge, z_cgt, z_cle, z_rz, z_rb, z_rc, q_nz, zg_0, zg_s, zgk_s, zgh_n, zgh_s, zq_n, zq_br, zq_gd, zq_cl2, zqc_s, zq_rt, zq_sw, zq_st, zsws, zent, zpad, zla, zlg, zpop, zrv, zc1, zmk, zob_w, zaw_w, zar_w, zln_w, zld_w, zin_w, zcpg_w, znr_w, List.getElem?_cons_zero, List.getElem?_cons_succ, List.set_cons_zero, List.set_cons_succ, List.length_cons, List.length_nil, Nat.reduceLT, Nat.reduceLeDiff, Nat.reduceAdd, Nat.reduceSub, Nat.reduceMul, Nat.reduceEqDiff, Nat.reduceBEq, ↓reduceIte, q_10, q_01, q_00, q_m1, q_m2, q_m3, q_m4, q_m5, q_n1, q_n2, decide_eq_true_eq, decide_eq_false_iff_not, Bool.and_eq_true, Bool.true_and, Bool.and_true, Bool.decide_and, decide_true, decide_false, Bool.true_eq_false, Bool.false_eq_true, Option.toList_some, Option.toList_none, List.cons_append, List.nil_append, true_and, and_true, and_self, not_true_eq_false, not_false_eq_true, forall_const, false_implies, implies_true, Nat.le_refl, ne_eq, Bool.not_eq_true, eq_self, zshA, zb_rz, zb_ne, zb_eq, qem, true_implies, Nat.zero_le, false_and, and_false, Bool.or_eq_true, or_true, true_or, false_or, or_false, sp_102, sp_153, zr_75_5 hR, v0, v3, h2, h3, h4, h5, h6, h7, h8, e5, zb_pos, zb_neg, not_false_eq_true, y1, y2, y4]
theorem ma_157 (hR : qRk R a b c i) (V : mV S D I) (hK : mK S I) (hB : gB S) (hD : gBd D) (hm : g_m D < 100000) (h29 : I 75 29 = 99999) {n : Nat} (h1 : 1 ≤ n) (hn : n ≤ 60) : ∃ I', zcl (d + 9) 157 [.ref 75, .int (nI n)] (I, J, R, 111) = some (some (.int (gBt S n D 0)), (I', J, R, 111)) ∧ mS I I' := by
  obtain ⟨I1, y1, V1, K1, H1, _⟩ := ma_begin (d := d + 6) (J := J) hR V hK
  obtain ⟨I2, y2, V2, W2, g2⟩ := sp_151 (d := d) (J := J) hR hB.1 (gB_le hB) (n := n) (by omega) V1 K1 (by omega)
  obtain ⟨I3, y4, e3, f3⟩ := ma_end (d := d + 6) (J := J) hR (mH_w hB.1 (gB_le hB) H1 V1 V2 W2 g2) h29
  have h2 : ((1 : Int32) ≤ nI n ∧ nI n ≤ (60 : Int32)) ↔ True := iff_true_intro ⟨q_tle (m := 1) h1 (by omega), q_tle (n := 60) hn (by omega)⟩
  refine ⟨I3, zcl_of (Nat.le_of_ble_eq_true rfl) (zg_wp 60 _ ?_), e3⟩
  simp only [zpr_157, zhd_157, zp157, zh157, zml_157, o_bad, o_push, o_iload, o_lload, o_aload, o_istore, o_astore, o_lstore, o_iinc, o_ii, o_dv, o_i, o_ll, o_lshl, o_lcmp, o_i2l, o_l2i, o_dup, o_dup2, o_pop, o_goto, o_if, o_ic, o_sw, o_ireturn, o_nreturn, o_lreturn, o_return, o_min, o_max, o_geti, o_getr, o_puti, o_putz, o_putr, o_gets, o_iald, o_lald, o_aald, o_iast, o_last, o_aast, o_alen, o_new, o_newa, o_multi, o_call, o_scall, o_oinit, o_copyi, o_copyl, z_eq, z_ne, z_lt, z_ge, z_gt, z_le, z_ceq, z_cne, z_clt, z_cge, z_cgt, z_cle, z_rz, z_rb, z_rc, q_nz, zg_0, zg_s, zgk_s, zgh_n, zgh_s, zq_n, zq_br, zq_gd, zq_cl2, zqc_s, zq_rt, zq_sw, zq_st, zsws, zent, zpad, zla, zlg, zpop, zrv, zc1, zmk, zob_w, zaw_w, zar_w, zln_w, zld_w, zin_w, zcpg_w, znr_w, List.getElem?_cons_zero, List.getElem?_cons_succ, List.set_cons_zero, List.set_cons_succ, List.length_cons, List.length_nil, Nat.reduceLT, Nat.reduceLeDiff, Nat.reduceAdd, Nat.reduceSub, Nat.reduceMul, Nat.reduceEqDiff, Nat.reduceBEq, ↓reduceIte, q_10, q_01, q_00, q_m1, q_m2, q_m3, q_m4, q_m5, q_n1, q_n2, decide_eq_true_eq, decide_eq_false_iff_not, Bool.and_eq_true, Bool.true_and, Bool.and_true, Bool.decide_and, decide_true, decide_false, Bool.true_eq_false, Bool.false_eq_true, Option.toList_some, Option.toList_none, List.cons_append, List.nil_append, true_and, and_true, and_self, not_true_eq_false, not_false_eq_true, forall_const, false_implies, implies_true, Nat.le_refl, ne_eq, Bool.not_eq_true, eq_self, zshA, zb_rz, zb_ne, zb_eq, qem, true_implies, Nat.zero_le, false_and, and_false, Bool.or_eq_true, or_true, true_or, false_or, or_false, sp_102, h2, zb_pos, y1, y2, y4]
end MA
