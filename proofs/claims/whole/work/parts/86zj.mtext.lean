/-! ===== the model takes a whole text; its kitchen ===== -/
section KM
variable {d : Nat} {I I0 : zI} {J : zJ} {R : zR} {a b c N at' f : Nat} {i : Option Nat} {nm u v : Int32} {cs : List kSy} {row : Nat → Int32} {L : List kCs}
/-- how many codes are ahead of clause c -/
def kPr (L : List kCs) : Nat → Nat
  | 0 => 0
  | c + 1 => (L.getD c (0, 0, 0)).2.2
theorem kC_e {T : Nat → Int32} (h : (kC T N at' cs).1.1 = true) : (kC T N at' cs).2.2.2 = (kC T N at' cs).1.2.2.length := by
  have e := kC_w (T := T) (N := N) (at' := at') (cs := cs) _ rfl
  by_cases h1 : (kWd T N (kWs (kCw (kNx T N at'))) at').1 = true
  · rw [if_pos h1] at e
    rw [e]
  · rw [if_neg h1] at e
    rw [e] at h
    exact nomatch h
/-- only what is of kitchen f is anew -/
def mOT (I I' : zI) (f : Nat) : Prop := (∀ k, k < 82 ∨ 86 < k → I' k = I k) ∧ (∀ j, j ≠ f → I' 82 j = I 82 j) ∧ ∀ k j, k ≠ 82 → (j < 10 * f ∨ 10 * f + 10 ≤ j) → I' k j = I k j
theorem mOT_r : mOT I I f := ⟨fun _ _ => rfl, fun _ _ => rfl, fun _ _ _ _ => rfl⟩
theorem mOT_u {I1 I2 : zI} {q : Nat} (h : mOT I I1 f) (g : mOu I1 I2 q) (h1 : 10 * f ≤ q) (h2 : q < 10 * f + 10) : mOT I I2 f :=
  ⟨fun k hk => (g.1 k (by omega)).trans (h.1 k hk), fun j hj => by rw [g.1 82 (by decide)]; exact h.2.1 j hj, fun k j hk hj => (g.2 k j (by omega)).trans (h.2.2 k j hk hj)⟩
theorem mOT_c {I1 : zI} {x : Int32} (h : mOT I I1 f) : mOT I (zup I1 82 f x) f := by
  refine ⟨fun k hk => ?_, fun j hj => ?_, fun k j hk hj => ?_⟩
  · rw [zup_ne' (by omega)]
    exact h.1 k hk
  · rw [zup_eq']
    dsimp only
    rw [if_neg hj]
    exact h.2.1 j hj
  · rw [zup_ne' hk]
    exact h.2.2 k j hk hj
/-- the clauses L are told -/
def mLs (I : zI) (f : Nat) (L : List kCs) : Prop := ∀ c z, L[c]? = some z → mCl I (10 * f + c) (100 * f) (kPr L c) z
theorem mCl_e {I1 I2 : zI} {q o b : Nat} {z : kCs} (h : mCl I1 q o b z) (e : ∀ k, 83 ≤ k → k ≤ 86 → I2 k q = I1 k q) : mCl I2 q o b z := by
  unfold mCl at h ⊢
  rw [e 83 (by decide) (by decide), e 84 (by decide) (by decide), e 85 (by decide) (by decide), e 86 (by decide) (by decide)]
  exact h
theorem kPr_a {Z : kCs} {c : Nat} (h : c ≤ L.length) : kPr (L ++ [Z]) c = kPr L c := by
  cases c with
  | zero => rfl
  | succ c =>
    show ((L ++ [Z]).getD c (0, 0, 0)).2.2 = (L.getD c (0, 0, 0)).2.2
    rw [List.getD_eq_getElem?_getD, List.getD_eq_getElem?_getD, List.getElem?_append_left (by omega)]
theorem kPr_z {Z : kCs} : kPr (L ++ [Z]) (L.length + 1) = Z.2.2 := by
  show ((L ++ [Z]).getD L.length (0, 0, 0)).2.2 = Z.2.2
  rw [List.getD_eq_getElem?_getD, List.getElem?_append_right (Nat.le_refl _), Nat.sub_self]
  rfl
theorem mLs_s {I1 I2 : zI} {Z : kCs} {x : Int32} (h : mLs I1 f L) (g : mOu I1 I2 (10 * f + L.length)) (z : mCl I2 (10 * f + L.length) (100 * f) (kPr L L.length) Z) : mLs (zup I2 82 f x) f (L ++ [Z]) := by
  have hz : ∀ k j, 83 ≤ k → zup I2 82 f x k j = I2 k j := fun k j hk => by rw [zup_ne' (by omega)]
  intro c y hy
  by_cases e : c < L.length
  · rw [List.getElem?_append_left e] at hy
    rw [kPr_a (by omega)]
    exact mCl_e (h c y hy) (fun k h1 h2 => (hz k _ h1).trans (g.2 k _ (by omega)))
  · by_cases e2 : c = L.length
    · subst e2
      rw [List.getElem?_append_right (Nat.le_refl _), Nat.sub_self] at hy
      have hy' : Z = y := Option.some.inj hy
      rw [kPr_a (Nat.le_refl _), ← hy']
      exact mCl_e z (fun k h1 h2 => hz k _ h1)
    · rw [List.getElem?_eq_none (by rw [List.length_append, List.length_cons, List.length_nil]; omega)] at hy
      exact nomatch hy
/-- behind a text -/
def mTz (I0 : zI) (J : zJ) (R : zR) (f : Nat) (X : kSt × List kCs) (r : Option Value) (w : zW) : Prop := ∃ I' nm' cs' u' v' row', (r = some (.int (kb X.1.1)) ∧ w = (mG I' (100 * f) X.1.2.1 nm' cs' u' v' row', J, R, 111)) ∧ (mOT I0 I' f ∧ cs'.length ≤ 100) ∧ (X.1.1 = true → cs' = X.1.2.2 ∧ mLs I' f X.2 ∧ I' 82 f = nI X.2.length ∧ X.2.length ≤ 10)
set_option maxRecDepth 40000 in
theorem sl_123 (hf : f < 6) : ∀ (n : Nat) (I : zI) (at' : Nat) (nm : Int32) (cs : List kSy) (L : List kCs) (u v : Int32) (row : Nat → Int32), mTx R I a b c N i → mLt I → mOT I0 I f → mLs I f L → kPr L L.length = cs.length → L.length + n + 1 = 10 → at' ≤ N → cs.length ≤ at' → zWP (zcl (d + 8)) 123 (15, [some (.ref 75), some (.int (nI f)), some (.int (nI L.length))], [], (mG I (100 * f) at' nm cs u v row, J, R, 111)) (mTz I0 J R f (kT (I 81) N (n + 1) at' cs L)) := by
  intro n I at' nm cs L u v row hH hL hO hS hP hn ha hc
  have hR := hH.1
  have h100 := hH.2.2.1
  have e1 : (10 : Int32) * nI f + nI L.length = nI (10 * f + L.length) := by rw [show (10 : Int32) * nI f = nI (10 * f) from q_mul2, q_add3]
  obtain ⟨I', nm', cs', u', v', row', y1, ⟨o1, l1⟩, t1⟩ := sp_122 (d := d + 1) (J := J) (nm := nm) (u := u) (v := v) (row := row) hH hL (show 100 * f ≤ 500 by omega) (show 10 * f + L.length < 60 by omega) ha hc
  obtain ⟨⟨a1, a2, a3⟩, nw, a4, a5⟩ := kC_b (T := I 81) (cs := cs) ha
  have kz := kC_e (T := I 81) (N := N) (at' := at') (cs := cs)
  have eT : kT (I 81) N (n + 1) at' cs L = if (kC (I 81) N at' cs).1.1 = true then (if (kC (I 81) N at' cs).1.2.1 = N then ((true, N, (kC (I 81) N at' cs).1.2.2), L ++ [(kC (I 81) N at' cs).2]) else if n = 0 then ((false, (kC (I 81) N at' cs).1.2.1, (kC (I 81) N at' cs).1.2.2), L) else if kNx (I 81) N (kC (I 81) N at' cs).1.2.1 = 59 then kT (I 81) N n ((kC (I 81) N at' cs).1.2.1 + 1) (kC (I 81) N at' cs).1.2.2 (L ++ [(kC (I 81) N at' cs).2]) else ((false, (kC (I 81) N at' cs).1.2.1, (kC (I 81) N at' cs).1.2.2), L)) else ((kC (I 81) N at' cs).1, L) := rfl
  have oT := mOT_u hO o1 (by omega) (by omega)
  have e81 : I' 81 = I 81 := o1.1 81 (by decide)
  have e75 : I' 75 = I 75 := o1.1 75 (by decide)
  have e89 : I' 89 = I 89 := o1.1 89 (by decide)
  refine zg_wp 60 _ ?_
  generalize kC (I 81) N at' cs = X at *
  obtain ⟨⟨X1, X2, X3⟩, Z⟩ := X
  dsimp only at y1 t1 a1 a2 a3 a4 a5 eT kz
  cases X1
  · rw [if_neg (by decide)] at eT
    simp only [zpr_123, zhd_123, zp123, zh123, zml_123, o_bad, o_push, o_iload, o_lload, o_aload, o_istore, o_astore, o_lstore, o_iinc, o_ii, o_dv, o_i, o_ll, o_lshl, o_lcmp, o_i2l, o_l2i, o_dup, o_dup2, o_pop, o_goto, o_if, o_ic, o_sw, o_ireturn, o_nreturn, o_lreturn, o_return, o_min, o_max, o_geti, o_getr, o_puti, o_putz, o_putr, o_gets, o_iald, o_lald, o_aald, o_iast, o_last, o_aast, o_alen, o_new, o_newa, o_multi, o_call, o_scall, o_chk, o_oinit, o_copyi, o_copyl, z_eq, z_ne, z_lt, z_ge, z_gt, z_le, z_ceq, z_cne, z_clt, z_cge, z_cgt, z_cle, z_rz, z_rb, z_rc, q_nz, zg_0, zg_s, zgk_s, zgh_n, zgh_s, zq_n, zq_br, zq_gd, zq_cl2, zqc_s, zq_rt, zq_sw, zq_st, zsws, zent, zpad, zla, zlg, zpop, zrv, zc1, zmk, zob_w, zaw_w, zar_w, zln_w, zld_w, zin_w, zcpg_w, znr_w, List.getElem?_cons_zero, List.getElem?_cons_succ, List.set_cons_zero, List.set_cons_succ, List.length_cons, List.length_nil, Nat.reduceLT, Nat.reduceLeDiff, Nat.reduceAdd, Nat.reduceSub, Nat.reduceMul, Nat.reduceEqDiff, Nat.reduceBEq, ↓reduceIte, q_10, q_01, q_00, q_m1, q_m2, q_m3, q_m4, q_m5, q_n1, q_n2, decide_eq_true_eq, decide_eq_false_iff_not, Bool.and_eq_true, Bool.true_and, Bool.and_true, Bool.decide_and, decide_true, decide_false, Bool.true_eq_false, Bool.false_eq_true, Option.toList_some, Option.toList_none, List.cons_append, List.nil_append, true_and, and_true, and_self, not_true_eq_false, not_false_eq_true, forall_const, false_implies, implies_true, Nat.le_refl, ne_eq, Bool.not_eq_true, eq_self, zshA, zb_rz, zb_ne, zb_eq, qem, true_implies, Nat.zero_le, false_and, and_false, Bool.or_eq_true, or_true, true_or, false_or, or_false, e1, y1, kb_f]
    unfold mTz
    rw [eT]
    exact ⟨_, _, _, _, _, _, ⟨rfl, rfl⟩, ⟨oT, l1⟩, fun z => nomatch z⟩
  rw [if_pos rfl] at eT
  obtain ⟨rfl, mc⟩ := t1 rfl
  have a6 := a3 rfl
  have k1 := kz rfl
  rw [← hP] at mc
  have ll : (L ++ [Z]).length = L.length + 1 := List.length_append
  have hS' := mLs_s (x := nI (L.length + 1)) hS o1 mc
  have eu := mG_up (I := I') (o := 100 * f) (at' := X2) (nm := nm') (cs := cs') (u := u') (v := v') (row := row') (k := 82) (j := f) (x := nI (L.length + 1)) (by decide) (by decide) (by decide)
  obtain ⟨p1, p2, p3⟩ := q_row (m := f) (n := 6) (by omega) (by omega)
  have e2 : nI L.length + 1 = nI (L.length + 1) := q_add3 (n := 1)
  have oC : mOT I0 (zup I' 82 f (nI (L.length + 1))) f := mOT_c oT
  have hH2 : mTx R (zup I' 82 f (nI (L.length + 1))) a b c N i := mTx_up (by decide) (by decide) (by
    unfold mTx
    rw [e75, e81]
    exact hH)
  have eT2 : zup I' 82 f (nI (L.length + 1)) 81 = I 81 := by rw [zup_ne' (by decide)]; exact e81
  have hL2 : mLt (zup I' 82 f (nI (L.length + 1))) := by
    unfold mLt
    rw [zup_ne' (by decide), e89]
    exact hL
  have v10 : mG (zup I' 82 f (nI (L.length + 1))) (100 * f) X2 nm' cs' u' v' row' 75 10 = nI N := hH2.2.1
  by_cases h1 : X2 = N
  · rw [if_pos h1] at eT
    subst h1
    simp only [zpr_123, zhd_123, zp123, zh123, zml_123, o_bad, o_push, o_iload, o_lload, o_aload, o_istore, o_astore, o_lstore, o_iinc, o_ii, o_dv, o_i, o_ll, o_lshl, o_lcmp, o_i2l, o_l2i, o_dup, o_dup2, o_pop, o_goto, o_if, o_ic, o_sw, o_ireturn, o_nreturn, o_lreturn, o_return, o_min, o_max, o_geti, o_getr, o_puti, o_putz, o_putr, o_gets, o_iald, o_lald, o_aald, o_iast, o_last, o_aast, o_alen, o_new, o_newa, o_multi, o_call, o_scall, o_chk, o_oinit, o_copyi, o_copyl, z_eq, z_ne, z_lt, z_ge, z_gt, z_le, z_ceq, z_cne, z_clt, z_cge, z_cgt, z_cle, z_rz, z_rb, z_rc, q_nz, zg_0, zg_s, zgk_s, zgh_n, zgh_s, zq_n, zq_br, zq_gd, zq_cl2, zqc_s, zq_rt, zq_sw, zq_st, zsws, zent, zpad, zla, zlg, zpop, zrv, zc1, zmk, zob_w, zaw_w, zar_w, zln_w, zld_w, zin_w, zcpg_w, znr_w, List.getElem?_cons_zero, List.getElem?_cons_succ, List.set_cons_zero, List.set_cons_succ, List.length_cons, List.length_nil, Nat.reduceLT, Nat.reduceLeDiff, Nat.reduceAdd, Nat.reduceSub, Nat.reduceMul, Nat.reduceEqDiff, Nat.reduceBEq, ↓reduceIte, q_10, q_01, q_00, q_m1, q_m2, q_m3, q_m4, q_m5, q_n1, q_n2, decide_eq_true_eq, decide_eq_false_iff_not, Bool.and_eq_true, Bool.true_and, Bool.and_true, Bool.decide_and, decide_true, decide_false, Bool.true_eq_false, Bool.false_eq_true, Option.toList_some, Option.toList_none, List.cons_append, List.nil_append, true_and, and_true, and_self, not_true_eq_false, not_false_eq_true, forall_const, false_implies, implies_true, Nat.le_refl, ne_eq, Bool.not_eq_true, eq_self, zshA, zb_rz, zb_ne, zb_eq, qem, true_implies, Nat.zero_le, false_and, and_false, Bool.or_eq_true, or_true, true_or, false_or, or_false, e1, e2, y1, kb_t, zr_75_14 hR, p1, p2, eu, mG_a, v10]
    unfold mTz
    rw [eT]
    exact ⟨_, _, _, _, _, _, ⟨rfl, rfl⟩, ⟨oC, l1⟩, fun _ => ⟨rfl, hS', by rw [ll]; exact zup_hit, by rw [ll]; omega⟩⟩
  rw [if_neg h1] at eT
  have e3 : ¬ nI X2 = nI N := fun e => h1 ((q_eq3 (by omega) (by omega)).mp e)
  match n, eT, hn with
  | 0, eT, hn =>
    rw [if_pos rfl] at eT
    have e4 : nI (L.length + 1) = 10 := by rw [show L.length + 1 = 10 from by omega]; rfl
    simp only [zpr_123, zhd_123, zp123, zh123, zml_123, o_bad, o_push, o_iload, o_lload, o_aload, o_istore, o_astore, o_lstore, o_iinc, o_ii, o_dv, o_i, o_ll, o_lshl, o_lcmp, o_i2l, o_l2i, o_dup, o_dup2, o_pop, o_goto, o_if, o_ic, o_sw, o_ireturn, o_nreturn, o_lreturn, o_return, o_min, o_max, o_geti, o_getr, o_puti, o_putz, o_putr, o_gets, o_iald, o_lald, o_aald, o_iast, o_last, o_aast, o_alen, o_new, o_newa, o_multi, o_call, o_scall, o_chk, o_oinit, o_copyi, o_copyl, z_eq, z_ne, z_lt, z_ge, z_gt, z_le, z_ceq, z_cne, z_clt, z_cge, z_cgt, z_cle, z_rz, z_rb, z_rc, q_nz, zg_0, zg_s, zgk_s, zgh_n, zgh_s, zq_n, zq_br, zq_gd, zq_cl2, zqc_s, zq_rt, zq_sw, zq_st, zsws, zent, zpad, zla, zlg, zpop, zrv, zc1, zmk, zob_w, zaw_w, zar_w, zln_w, zld_w, zin_w, zcpg_w, znr_w, List.getElem?_cons_zero, List.getElem?_cons_succ, List.set_cons_zero, List.set_cons_succ, List.length_cons, List.length_nil, Nat.reduceLT, Nat.reduceLeDiff, Nat.reduceAdd, Nat.reduceSub, Nat.reduceMul, Nat.reduceEqDiff, Nat.reduceBEq, ↓reduceIte, q_10, q_01, q_00, q_m1, q_m2, q_m3, q_m4, q_m5, q_n1, q_n2, decide_eq_true_eq, decide_eq_false_iff_not, Bool.and_eq_true, Bool.true_and, Bool.and_true, Bool.decide_and, decide_true, decide_false, Bool.true_eq_false, Bool.false_eq_true, Option.toList_some, Option.toList_none, List.cons_append, List.nil_append, true_and, and_true, and_self, not_true_eq_false, not_false_eq_true, forall_const, false_implies, implies_true, Nat.le_refl, ne_eq, Bool.not_eq_true, eq_self, zshA, zb_rz, zb_ne, zb_eq, qem, true_implies, Nat.zero_le, false_and, and_false, Bool.or_eq_true, or_true, true_or, false_or, or_false, e1, e2, y1, kb_t, zr_75_14 hR, p1, p2, eu, mG_a, v10, e3]
    simp only [zpr_123, zhd_123, zp123, zh123, zml_123, o_bad, o_push, o_iload, o_lload, o_aload, o_istore, o_astore, o_lstore, o_iinc, o_ii, o_dv, o_i, o_ll, o_lshl, o_lcmp, o_i2l, o_l2i, o_dup, o_dup2, o_pop, o_goto, o_if, o_ic, o_sw, o_ireturn, o_nreturn, o_lreturn, o_return, o_min, o_max, o_geti, o_getr, o_puti, o_putz, o_putr, o_gets, o_iald, o_lald, o_aald, o_iast, o_last, o_aast, o_alen, o_new, o_newa, o_multi, o_call, o_scall, o_chk, o_oinit, o_copyi, o_copyl, z_eq, z_ne, z_lt, z_ge, z_gt, z_le, z_ceq, z_cne, z_clt, z_cge, z_cgt, z_cle, z_rz, z_rb, z_rc, q_nz, zg_0, zg_s, zgk_s, zgh_n, zgh_s, zq_n, zq_br, zq_gd, zq_cl2, zqc_s, zq_rt, zq_sw, zq_st, zsws, zent, zpad, zla, zlg, zpop, zrv, zc1, zmk, zob_w, zaw_w, zar_w, zln_w, zld_w, zin_w, zcpg_w, znr_w, List.getElem?_cons_zero, List.getElem?_cons_succ, List.set_cons_zero, List.set_cons_succ, List.length_cons, List.length_nil, Nat.reduceLT, Nat.reduceLeDiff, Nat.reduceAdd, Nat.reduceSub, Nat.reduceMul, Nat.reduceEqDiff, Nat.reduceBEq, ↓reduceIte, q_10, q_01, q_00, q_m1, q_m2, q_m3, q_m4, q_m5, q_n1, q_n2, decide_eq_true_eq, decide_eq_false_iff_not, Bool.and_eq_true, Bool.true_and, Bool.and_true, Bool.decide_and, decide_true, decide_false, Bool.true_eq_false, Bool.false_eq_true, Option.toList_some, Option.toList_none, List.cons_append, List.nil_append, true_and, and_true, and_self, not_true_eq_false, not_false_eq_true, forall_const, false_implies, implies_true, Nat.le_refl, ne_eq, Bool.not_eq_true, eq_self, zshA, zb_rz, zb_ne, zb_eq, qem, true_implies, Nat.zero_le, false_and, and_false, Bool.or_eq_true, or_true, true_or, false_or, or_false, e4]
    rw [e4] at oC
    unfold mTz
    rw [eT]
    exact ⟨_, _, _, _, _, _, ⟨rfl, rfl⟩, ⟨oC, l1⟩, fun z => nomatch z⟩
  | n + 1, eT, hn =>
    rw [if_neg (Nat.succ_ne_zero n)] at eT
    have e4 : ¬ nI (L.length + 1) = 10 := q_tne (n := 10) (by omega) (by omega)
    by_cases h3 : kNx (I 81) N X2 = 59
    · rw [if_pos h3] at eT
      have hl := kNx_lt h3 (by decide)
      have y2 := sp_110G (d := d + 6) (J := J) (o := 100 * f) (nm := nm') (cs := cs') (u := u') (v := v') (row := row') hH2 a2 (x := 59) (by rw [eT2]; exact h3)
      have z := sl_123 hf n (zup I' 82 f (nI (L.length + 1))) (X2 + 1) nm' cs' (L ++ [Z]) u' v' row' hH2 hL2 oC hS' (by rw [ll, kPr_z]; exact k1) (by rw [ll]; omega) (by omega) (by rw [a4, List.length_append]; omega)
      rw [ll, eT2] at z
      simp only [zpr_123, zhd_123, zp123, zh123, zml_123, o_bad, o_push, o_iload, o_lload, o_aload, o_istore, o_astore, o_lstore, o_iinc, o_ii, o_dv, o_i, o_ll, o_lshl, o_lcmp, o_i2l, o_l2i, o_dup, o_dup2, o_pop, o_goto, o_if, o_ic, o_sw, o_ireturn, o_nreturn, o_lreturn, o_return, o_min, o_max, o_geti, o_getr, o_puti, o_putz, o_putr, o_gets, o_iald, o_lald, o_aald, o_iast, o_last, o_aast, o_alen, o_new, o_newa, o_multi, o_call, o_scall, o_chk, o_oinit, o_copyi, o_copyl, z_eq, z_ne, z_lt, z_ge, z_gt, z_le, z_ceq, z_cne, z_clt, z_cge, z_cgt, z_cle, z_rz, z_rb, z_rc, q_nz, zg_0, zg_s, zgk_s, zgh_n, zgh_s, zq_n, zq_br, zq_gd, zq_cl2, zqc_s, zq_rt, zq_sw, zq_st, zsws, zent, zpad, zla, zlg, zpop, zrv, zc1, zmk, zob_w, zaw_w, zar_w, zln_w, zld_w, zin_w, zcpg_w, znr_w, List.getElem?_cons_zero, List.getElem?_cons_succ, List.set_cons_zero, List.set_cons_succ, List.length_cons, List.length_nil, Nat.reduceLT, Nat.reduceLeDiff, Nat.reduceAdd, Nat.reduceSub, Nat.reduceMul, Nat.reduceEqDiff, Nat.reduceBEq, ↓reduceIte, q_10, q_01, q_00, q_m1, q_m2, q_m3, q_m4, q_m5, q_n1, q_n2, decide_eq_true_eq, decide_eq_false_iff_not, Bool.and_eq_true, Bool.true_and, Bool.and_true, Bool.decide_and, decide_true, decide_false, Bool.true_eq_false, Bool.false_eq_true, Option.toList_some, Option.toList_none, List.cons_append, List.nil_append, true_and, and_true, and_self, not_true_eq_false, not_false_eq_true, forall_const, false_implies, implies_true, Nat.le_refl, ne_eq, Bool.not_eq_true, eq_self, zshA, zb_rz, zb_ne, zb_eq, qem, true_implies, Nat.zero_le, false_and, and_false, Bool.or_eq_true, or_true, true_or, false_or, or_false, e1, e2, y1, y2, kb_t, zr_75_14 hR, p1, p2, eu, mG_a, v10, e3, e4]
      rw [eT]
      exact z
    · rw [if_neg h3] at eT
      have y2 := sp_110H (d := d + 6) (J := J) (o := 100 * f) (nm := nm') (cs := cs') (u := u') (v := v') (row := row') (x := 59) hH2 a2 (by rw [eT2]; exact h3)
      simp only [zpr_123, zhd_123, zp123, zh123, zml_123, o_bad, o_push, o_iload, o_lload, o_aload, o_istore, o_astore, o_lstore, o_iinc, o_ii, o_dv, o_i, o_ll, o_lshl, o_lcmp, o_i2l, o_l2i, o_dup, o_dup2, o_pop, o_goto, o_if, o_ic, o_sw, o_ireturn, o_nreturn, o_lreturn, o_return, o_min, o_max, o_geti, o_getr, o_puti, o_putz, o_putr, o_gets, o_iald, o_lald, o_aald, o_iast, o_last, o_aast, o_alen, o_new, o_newa, o_multi, o_call, o_scall, o_chk, o_oinit, o_copyi, o_copyl, z_eq, z_ne, z_lt, z_ge, z_gt, z_le, z_ceq, z_cne, z_clt, z_cge, z_cgt, z_cle, z_rz, z_rb, z_rc, q_nz, zg_0, zg_s, zgk_s, zgh_n, zgh_s, zq_n, zq_br, zq_gd, zq_cl2, zqc_s, zq_rt, zq_sw, zq_st, zsws, zent, zpad, zla, zlg, zpop, zrv, zc1, zmk, zob_w, zaw_w, zar_w, zln_w, zld_w, zin_w, zcpg_w, znr_w, List.getElem?_cons_zero, List.getElem?_cons_succ, List.set_cons_zero, List.set_cons_succ, List.length_cons, List.length_nil, Nat.reduceLT, Nat.reduceLeDiff, Nat.reduceAdd, Nat.reduceSub, Nat.reduceMul, Nat.reduceEqDiff, Nat.reduceBEq, ↓reduceIte, q_10, q_01, q_00, q_m1, q_m2, q_m3, q_m4, q_m5, q_n1, q_n2, decide_eq_true_eq, decide_eq_false_iff_not, Bool.and_eq_true, Bool.true_and, Bool.and_true, Bool.decide_and, decide_true, decide_false, Bool.true_eq_false, Bool.false_eq_true, Option.toList_some, Option.toList_none, List.cons_append, List.nil_append, true_and, and_true, and_self, not_true_eq_false, not_false_eq_true, forall_const, false_implies, implies_true, Nat.le_refl, ne_eq, Bool.not_eq_true, eq_self, zshA, zb_rz, zb_ne, zb_eq, qem, true_implies, Nat.zero_le, false_and, and_false, Bool.or_eq_true, or_true, true_or, false_or, or_false, e1, e2, y1, y2, kb_t, zr_75_14 hR, p1, p2, eu, mG_a, v10, e3, e4]
      unfold mTz
      rw [eT]
      exact ⟨_, _, _, _, _, _, ⟨rfl, rfl⟩, ⟨oC, l1⟩, fun z => nomatch z⟩
theorem mG_0 : zup (zup I 75 11 0) 75 21 (nI (100 * f)) = mG I (100 * f) 0 (I 75 12) [] (I 75 22) (I 75 23) (I 88) := by
  funext k
  by_cases e : k = 75
  · subst e
    rw [zup_eq', zup_eq', mG_75]
    funext j
    by_cases e1 : j = 11
    · subst e1
      simp
      rfl
    by_cases e2 : j = 21
    · subst e2
      simp
    by_cases e3 : j = 12
    · subst e3
      simp
    by_cases e4 : j = 22
    · subst e4
      simp
    by_cases e5 : j = 23
    · subst e5
      simp
    simp [e1, e2, e3, e4, e5]
  · rw [zup_ne' e, zup_ne' e]
    by_cases e1 : k = 87
    · subst e1
      rw [mG_87, kRw_0]
    by_cases e2 : k = 88
    · subst e2
      rfl
    rw [mG_o e e1 e2]
set_option maxRecDepth 40000 in
theorem sp_123 (hf : f < 6) (hH : mTx R I a b c N i) (hL : mLt I) : ∃ I' nm' cs' u' v' row', zcl (d + 9) 123 [.ref 75, .int (nI f)] (I, J, R, 111) = some (some (.int (kb (kT (I 81) N 10 0 [] []).1.1)), (mG I' (100 * f) (kT (I 81) N 10 0 [] []).1.2.1 nm' cs' u' v' row', J, R, 111)) ∧ (mOT I I' f ∧ cs'.length ≤ 100) ∧ ((kT (I 81) N 10 0 [] []).1.1 = true → cs' = (kT (I 81) N 10 0 [] []).1.2.2 ∧ mLs I' f (kT (I 81) N 10 0 [] []).2 ∧ I' 82 f = nI (kT (I 81) N 10 0 [] []).2.length ∧ (kT (I 81) N 10 0 [] []).2.length ≤ 10) := by
  have e : zWP (zcl (d + 8)) 123 (zent 123 [.ref 75, .int (nI f)] (I, J, R, 111)) (mTz I J R f (kT (I 81) N 10 0 [] [])) := by
    refine zg_wp 20 _ ?_
    have e1 : (100 : Int32) * nI f = nI (100 * f) := q_mul2
    simp only [zpr_123, zhd_123, zp123, zh123, zml_123, o_bad, o_push, o_iload, o_lload, o_aload, o_istore, o_astore, o_lstore, o_iinc, o_ii, o_dv, o_i, o_ll, o_lshl, o_lcmp, o_i2l, o_l2i, o_dup, o_dup2, o_pop, o_goto, o_if, o_ic, o_sw, o_ireturn, o_nreturn, o_lreturn, o_return, o_min, o_max, o_geti, o_getr, o_puti, o_putz, o_putr, o_gets, o_iald, o_lald, o_aald, o_iast, o_last, o_aast, o_alen, o_new, o_newa, o_multi, o_call, o_scall, o_chk, o_oinit, o_copyi, o_copyl, z_eq, z_ne, z_lt, z_ge, z_gt, z_le, z_ceq, z_cne, z_clt, z_cge, z_cgt, z_cle, z_rz, z_rb, z_rc, q_nz, zg_0, zg_s, zgk_s, zgh_n, zgh_s, zq_n, zq_br, zq_gd, zq_cl2, zqc_s, zq_rt, zq_sw, zq_st, zsws, zent, zpad, zla, zlg, zpop, zrv, zc1, zmk, zob_w, zaw_w, zar_w, zln_w, zld_w, zin_w, zcpg_w, znr_w, List.getElem?_cons_zero, List.getElem?_cons_succ, List.set_cons_zero, List.set_cons_succ, List.length_cons, List.length_nil, Nat.reduceLT, Nat.reduceLeDiff, Nat.reduceAdd, Nat.reduceSub, Nat.reduceMul, Nat.reduceEqDiff, Nat.reduceBEq, ↓reduceIte, q_10, q_01, q_00, q_m1, q_m2, q_m3, q_m4, q_m5, q_n1, q_n2, decide_eq_true_eq, decide_eq_false_iff_not, Bool.and_eq_true, Bool.true_and, Bool.and_true, Bool.decide_and, decide_true, decide_false, Bool.true_eq_false, Bool.false_eq_true, Option.toList_some, Option.toList_none, List.cons_append, List.nil_append, true_and, and_true, and_self, not_true_eq_false, not_false_eq_true, forall_const, false_implies, implies_true, Nat.le_refl, ne_eq, Bool.not_eq_true, eq_self, zshA, zb_rz, zb_ne, zb_eq, qem, true_implies, Nat.zero_le, false_and, and_false, Bool.or_eq_true, or_true, true_or, false_or, or_false, e1, mG_0]
    exact sl_123 hf 9 I 0 _ [] [] _ _ _ hH hL mOT_r (fun c z h => nomatch h) rfl rfl (Nat.zero_le _) (Nat.le_refl _)
  obtain ⟨r, w, q1, I', nm', cs', u', v', row', ⟨q2, q3⟩, q4⟩ := zcl_ex (Nat.le_of_ble_eq_true rfl) e
  exact ⟨I', nm', cs', u', v', row', by rw [q1, q2, q3], q4⟩
theorem mG_uj {o : Nat} {j : Nat} {x : Int32} (h : (j ≠ 11 ∧ j ≠ 12) ∧ j ≠ 21 ∧ j ≠ 22 ∧ j ≠ 23) : zup (mG I o at' nm cs u v row) 75 j x = mG (zup I 75 j x) o at' nm cs u v row := by
  obtain ⟨⟨h1, h2⟩, h3, h4, h5⟩ := h
  funext k
  by_cases e : k = 75
  · subst e
    rw [zup_eq', mG_75, mG_75, zup_eq']
    funext m
    by_cases e2 : m = j
    · subst e2
      simp [h1, h2, h3, h4, h5]
    · simp [e2]
  · rw [zup_ne' e]
    have e3 : zup I 75 j x k = I k := zup_ne' e
    have e4 : zup I 75 j x 87 = I 87 := zup_ne' (by decide)
    unfold mG mN mJ
    rw [if_neg e, if_neg e, if_neg e, if_neg e, e3, e4]
set_option maxRecDepth 40000 in
/-- the model's last kitchen -/
theorem ma_124f (hk : I 75 8 = nI 6) : zcl (d + 10) 124 [.ref 75] (I, J, R, 111) = some (some (.int (-4)), (I, J, R, 111)) := by
  have e1 : nI 6 = (6 : Int32) := rfl
  refine zcl_of (Nat.le_of_ble_eq_true rfl) (zg_wp 20 _ ?_)
  simp only [zpr_124, zhd_124, zp124, zh124, zml_124, o_bad, o_push, o_iload, o_lload, o_aload, o_istore, o_astore, o_lstore, o_iinc, o_ii, o_dv, o_i, o_ll, o_lshl, o_lcmp, o_i2l, o_l2i, o_dup, o_dup2, o_pop, o_goto, o_if, o_ic, o_sw, o_ireturn, o_nreturn, o_lreturn, o_return, o_min, o_max, o_geti, o_getr, o_puti, o_putz, o_putr, o_gets, o_iald, o_lald, o_aald, o_iast, o_last, o_aast, o_alen, o_new, o_newa, o_multi, o_call, o_scall, o_chk, o_oinit, o_copyi, o_copyl, z_eq, z_ne, z_lt, z_ge, z_gt, z_le, z_ceq, z_cne, z_clt, z_cge, z_cgt, z_cle, z_rz, z_rb, z_rc, q_nz, zg_0, zg_s, zgk_s, zgh_n, zgh_s, zq_n, zq_br, zq_gd, zq_cl2, zqc_s, zq_rt, zq_sw, zq_st, zsws, zent, zpad, zla, zlg, zpop, zrv, zc1, zmk, zob_w, zaw_w, zar_w, zln_w, zld_w, zin_w, zcpg_w, znr_w, List.getElem?_cons_zero, List.getElem?_cons_succ, List.set_cons_zero, List.set_cons_succ, List.length_cons, List.length_nil, Nat.reduceLT, Nat.reduceLeDiff, Nat.reduceAdd, Nat.reduceSub, Nat.reduceMul, Nat.reduceEqDiff, Nat.reduceBEq, ↓reduceIte, q_10, q_01, q_00, q_m1, q_m2, q_m3, q_m4, q_m5, q_n1, q_n2, decide_eq_true_eq, decide_eq_false_iff_not, Bool.and_eq_true, Bool.true_and, Bool.and_true, Bool.decide_and, decide_true, decide_false, Bool.true_eq_false, Bool.false_eq_true, Option.toList_some, Option.toList_none, List.cons_append, List.nil_append, true_and, and_true, and_self, not_true_eq_false, not_false_eq_true, forall_const, false_implies, implies_true, Nat.le_refl, ne_eq, Bool.not_eq_true, eq_self, zshA, zb_rz, zb_ne, zb_eq, qem, true_implies, Nat.zero_le, false_and, and_false, Bool.or_eq_true, or_true, true_or, false_or, or_false, hk, e1]
set_option maxRecDepth 40000 in
theorem ma_124 (hk : I 75 8 = nI f) (hf : f < 6) (hH : mTx R I a b c N i) (hL : mLt I) : ∃ I' nm' cs' u' v' row', (mOT I I' f ∧ cs'.length ≤ 100) ∧
    (¬ (kT (I 81) N 10 0 [] []).1.1 = true → zcl (d + 10) 124 [.ref 75] (I, J, R, 111) = some (some (.int (-10 - nI (kT (I 81) N 10 0 [] []).1.2.1)), (mG (zup I' 75 10 0) (100 * f) (kT (I 81) N 10 0 [] []).1.2.1 nm' cs' u' v' row', J, R, 111))) ∧
    ((kT (I 81) N 10 0 [] []).1.1 = true → (cs' = (kT (I 81) N 10 0 [] []).1.2.2 ∧ mLs I' f (kT (I 81) N 10 0 [] []).2 ∧ I' 82 f = nI (kT (I 81) N 10 0 [] []).2.length ∧ (kT (I 81) N 10 0 [] []).2.length ≤ 10) ∧ zcl (d + 10) 124 [.ref 75] (I, J, R, 111) = some (some (.int (nI f)), (mG (zup (zup (zup I' 75 10 0) 75 9 (nI f)) 75 8 (nI (f + 1))) (100 * f) (kT (I 81) N 10 0 [] []).1.2.1 nm' cs' u' v' row', J, R, 111))) := by
  have e1 : ¬ nI f = (6 : Int32) := q_tne (m := f) (n := 6) (by omega) (by omega)
  obtain ⟨I', nm', cs', u', v', row', y1, o1, t1⟩ := sp_123 (d := d) (J := J) hf hH hL
  have u10 : ∀ x, zup (mG I' (100 * f) (kT (I 81) N 10 0 [] []).1.2.1 nm' cs' u' v' row') 75 10 x = mG (zup I' 75 10 x) (100 * f) (kT (I 81) N 10 0 [] []).1.2.1 nm' cs' u' v' row' := fun x => mG_uj (by decide)
  refine ⟨I', nm', cs', u', v', row', o1, fun h => ?_, fun h => ?_⟩
  · rw [Bool.eq_false_iff.mpr h] at y1
    refine zcl_of (Nat.le_of_ble_eq_true rfl) (zg_wp 40 _ ?_)
    simp only [zpr_124, zhd_124, zp124, zh124, zml_124, o_bad, o_push, o_iload, o_lload, o_aload, o_istore, o_astore, o_lstore, o_iinc, o_ii, o_dv, o_i, o_ll, o_lshl, o_lcmp, o_i2l, o_l2i, o_dup, o_dup2, o_pop, o_goto, o_if, o_ic, o_sw, o_ireturn, o_nreturn, o_lreturn, o_return, o_min, o_max, o_geti, o_getr, o_puti, o_putz, o_putr, o_gets, o_iald, o_lald, o_aald, o_iast, o_last, o_aast, o_alen, o_new, o_newa, o_multi, o_call, o_scall, o_chk, o_oinit, o_copyi, o_copyl, z_eq, z_ne, z_lt, z_ge, z_gt, z_le, z_ceq, z_cne, z_clt, z_cge, z_cgt, z_cle, z_rz, z_rb, z_rc, q_nz, zg_0, zg_s, zgk_s, zgh_n, zgh_s, zq_n, zq_br, zq_gd, zq_cl2, zqc_s, zq_rt, zq_sw, zq_st, zsws, zent, zpad, zla, zlg, zpop, zrv, zc1, zmk, zob_w, zaw_w, zar_w, zln_w, zld_w, zin_w, zcpg_w, znr_w, List.getElem?_cons_zero, List.getElem?_cons_succ, List.set_cons_zero, List.set_cons_succ, List.length_cons, List.length_nil, Nat.reduceLT, Nat.reduceLeDiff, Nat.reduceAdd, Nat.reduceSub, Nat.reduceMul, Nat.reduceEqDiff, Nat.reduceBEq, ↓reduceIte, q_10, q_01, q_00, q_m1, q_m2, q_m3, q_m4, q_m5, q_n1, q_n2, decide_eq_true_eq, decide_eq_false_iff_not, Bool.and_eq_true, Bool.true_and, Bool.and_true, Bool.decide_and, decide_true, decide_false, Bool.true_eq_false, Bool.false_eq_true, Option.toList_some, Option.toList_none, List.cons_append, List.nil_append, true_and, and_true, and_self, not_true_eq_false, not_false_eq_true, forall_const, false_implies, implies_true, Nat.le_refl, ne_eq, Bool.not_eq_true, eq_self, zshA, zb_rz, zb_ne, zb_eq, qem, true_implies, Nat.zero_le, false_and, and_false, Bool.or_eq_true, or_true, true_or, false_or, or_false, hk, e1, y1, kb_f, u10, mG_a]
  · rw [h] at y1
    refine ⟨t1 h, ?_⟩
    have u9 : ∀ x, zup (mG (zup I' 75 10 0) (100 * f) (kT (I 81) N 10 0 [] []).1.2.1 nm' cs' u' v' row') 75 9 x = mG (zup (zup I' 75 10 0) 75 9 x) (100 * f) (kT (I 81) N 10 0 [] []).1.2.1 nm' cs' u' v' row' := fun x => mG_uj (by decide)
    have u8 : ∀ y x, zup (mG (zup (zup I' 75 10 0) 75 9 y) (100 * f) (kT (I 81) N 10 0 [] []).1.2.1 nm' cs' u' v' row') 75 8 x = mG (zup (zup (zup I' 75 10 0) 75 9 y) 75 8 x) (100 * f) (kT (I 81) N 10 0 [] []).1.2.1 nm' cs' u' v' row' := fun y x => mG_uj (by decide)
    have e8 : I' 75 8 = nI f := by rw [o1.1.1 75 (by decide)]; exact hk
    have v8 : mG (zup I' 75 10 0) (100 * f) (kT (I 81) N 10 0 [] []).1.2.1 nm' cs' u' v' row' 75 8 = nI f := e8
    have v8' : ∀ y, mG (zup (zup I' 75 10 0) 75 9 y) (100 * f) (kT (I 81) N 10 0 [] []).1.2.1 nm' cs' u' v' row' 75 8 = nI f := fun y => e8
    have v9 : ∀ x y, mG (zup (zup (zup I' 75 10 0) 75 9 x) 75 8 y) (100 * f) (kT (I 81) N 10 0 [] []).1.2.1 nm' cs' u' v' row' 75 9 = x := fun x y => by
      show zup (zup (zup I' 75 10 0) 75 9 x) 75 8 y 75 9 = x
      rw [zup_eq']
      dsimp only
      rw [if_neg (by decide)]
      exact zup_hit
    have e2 : nI f + 1 = nI (f + 1) := q_add3 (n := 1)
    refine zcl_of (Nat.le_of_ble_eq_true rfl) (zg_wp 60 _ ?_)
    simp only [zpr_124, zhd_124, zp124, zh124, zml_124, o_bad, o_push, o_iload, o_lload, o_aload, o_istore, o_astore, o_lstore, o_iinc, o_ii, o_dv, o_i, o_ll, o_lshl, o_lcmp, o_i2l, o_l2i, o_dup, o_dup2, o_pop, o_goto, o_if, o_ic, o_sw, o_ireturn, o_nreturn, o_lreturn, o_return, o_min, o_max, o_geti, o_getr, o_puti, o_putz, o_putr, o_gets, o_iald, o_lald, o_aald, o_iast, o_last, o_aast, o_alen, o_new, o_newa, o_multi, o_call, o_scall, o_chk, o_oinit, o_copyi, o_copyl, z_eq, z_ne, z_lt, z_ge, z_gt, z_le, z_ceq, z_cne, z_clt, z_cge, z_cgt, z_cle, z_rz, z_rb, z_rc, q_nz, zg_0, zg_s, zgk_s, zgh_n, zgh_s, zq_n, zq_br, zq_gd, zq_cl2, zqc_s, zq_rt, zq_sw, zq_st, zsws, zent, zpad, zla, zlg, zpop, zrv, zc1, zmk, zob_w, zaw_w, zar_w, zln_w, zld_w, zin_w, zcpg_w, znr_w, List.getElem?_cons_zero, List.getElem?_cons_succ, List.set_cons_zero, List.set_cons_succ, List.length_cons, List.length_nil, Nat.reduceLT, Nat.reduceLeDiff, Nat.reduceAdd, Nat.reduceSub, Nat.reduceMul, Nat.reduceEqDiff, Nat.reduceBEq, ↓reduceIte, q_10, q_01, q_00, q_m1, q_m2, q_m3, q_m4, q_m5, q_n1, q_n2, decide_eq_true_eq, decide_eq_false_iff_not, Bool.and_eq_true, Bool.true_and, Bool.and_true, Bool.decide_and, decide_true, decide_false, Bool.true_eq_false, Bool.false_eq_true, Option.toList_some, Option.toList_none, List.cons_append, List.nil_append, true_and, and_true, and_self, not_true_eq_false, not_false_eq_true, forall_const, false_implies, implies_true, Nat.le_refl, ne_eq, Bool.not_eq_true, eq_self, zshA, zb_rz, zb_ne, zb_eq, qem, true_implies, Nat.zero_le, false_and, and_false, Bool.or_eq_true, or_true, true_or, false_or, or_false, hk, e1, y1, kb_t, u10, u9, u8, v8, v8', v9, e2]
end KM
