/-! ===== the model takes a clause: the whole ===== -/
section KM
variable {d : Nat} {I : zI} {J : zJ} {R : zR} {a b c N at' o q : Nat} {i : Option Nat} {nm tv u v : Int32} {cs : List kSy} {row : Nat → Int32}
set_option maxRecDepth 40000 in
theorem sp_114G (hH : mTx R I a b c N i) (ha : at' ≤ N) (h1 : kDg (I 81) N at') : zcl (d + 4) 114 [.ref 75] (mG I o at' nm cs u v row, J, R, 111) = some (some (.int 1), (mG I o (kNu (I 81) N at').2 (kNu (I 81) N at').1 cs u v row, J, R, 111)) := by
  have e : mJ I o cs u v row 81 = I 81 := mJ_o (by decide) (by decide) (by decide)
  have y := sp_114 (d := d) (J := J) (nm := nm) (mTx_J (o := o) (cs := cs) (u := u) (v := v) (row := row) hH) ha (by rw [e]; exact h1)
  rw [e] at y
  exact y
set_option maxRecDepth 40000 in
theorem sp_114H (hH : mTx R I a b c N i) (ha : at' ≤ N) (h1 : ¬ kDg (I 81) N at') : zcl (d + 4) 114 [.ref 75] (mG I o at' nm cs u v row, J, R, 111) = some (some (.int 0), (mG I o at' nm cs u v row, J, R, 111)) :=
  sp_114n (d := d) (J := J) (nm := nm) (mTx_J (o := o) (cs := cs) (u := u) (v := v) (row := row) hH) ha (by rw [mJ_o (by decide) (by decide) (by decide)]; exact h1)
set_option maxRecDepth 40000 in
theorem sp_110G (hH : mTx R I a b c N i) (ha : at' ≤ N) {x : Int32} (h : kNx (I 81) N at' = x) : zcl (d + 2) 110 [.ref 75, .int x] (mG I o at' nm cs u v row, J, R, 111) = some (some (.int 1), (mG I o (at' + 1) nm cs u v row, J, R, 111)) := by
  have y := sp_110t (d := d) (J := J) (x := x) (mTx_G (o := o) (at' := at') (nm := nm) (cs := cs) (u := u) (v := v) (row := row) hH) mG_a ha (by rw [mG_T]; exact h)
  rw [mG_at] at y
  exact y
set_option maxRecDepth 40000 in
theorem sp_110H (hH : mTx R I a b c N i) (ha : at' ≤ N) {x : Int32} (h : ¬ kNx (I 81) N at' = x) : zcl (d + 2) 110 [.ref 75, .int x] (mG I o at' nm cs u v row, J, R, 111) = some (some (.int 0), (mG I o at' nm cs u v row, J, R, 111)) :=
  sp_110f (d := d) (J := J) (x := x) (mTx_G (o := o) (at' := at') (nm := nm) (cs := cs) (u := u) (v := v) (row := row) hH) mG_a ha (by rw [mG_T]; exact h)
/-- only the clause q is anew -/
def mOu (I I' : zI) (q : Nat) : Prop := (∀ k, k < 83 ∨ 86 < k → I' k = I k) ∧ ∀ k j, j ≠ q → I' k j = I k j
theorem mOu_r : mOu I I q := ⟨fun _ _ => rfl, fun _ _ _ => rfl⟩
theorem mOu_up {I' : zI} {k : Nat} {x : Int32} (h : mOu I I' q) (h1 : 83 ≤ k) (h2 : k ≤ 86) : mOu I (zup I' k q x) q := by
  refine ⟨fun m hm => ?_, fun m j hj => ?_⟩
  · rw [zup_ne' (by omega)]
    exact h.1 m hm
  · by_cases e : m = k
    · subst e
      rw [zup_eq']
      dsimp only
      rw [if_neg hj]
      exact h.2 m j hj
    · rw [zup_ne' e]
      exact h.2 m j hj
/-- what the clause q is; b codes are ahead of it -/
def mCl (I' : zI) (q o b : Nat) (z : kCs) : Prop := I' 83 q = nI z.1 ∧ (z.1 < 4 → I' 84 q = z.2.1) ∧ (z.1 < 2 → I' 85 q = nI (o + b) ∧ I' 86 q = nI (o + z.2.2))
theorem zup_hit {F : zI} {k j : Nat} {x : Int32} : zup F k j x k j = x := by
  rw [zup_eq']
  exact if_pos rfl
/-- behind a clause -/
def mCz (I : zI) (J : zJ) (R : zR) (o q b : Nat) (X : kSt × kCs) (r : Option Value) (w : zW) : Prop := ∃ I' nm' cs' u' v' row', (r = some (.int (kb X.1.1)) ∧ w = (mG I' o X.1.2.1 nm' cs' u' v' row', J, R, 111)) ∧ (mOu I I' q ∧ cs'.length ≤ 100) ∧ (X.1.1 = true → cs' = X.1.2.2 ∧ mCl I' q o b X.2)
set_option maxRecDepth 40000 in
theorem sl_122 (hH : mTx R I a b c N i) (hL : mLt I) (ho : o ≤ 500) (hq : q < 60) (ha : at' ≤ N) (hc : cs.length ≤ at') : zWP (zcl (d + 6)) 122 (zent 122 [.ref 75, .int (nI q)] (mG I o at' nm cs u v row, J, R, 111)) (mCz I J R o q cs.length (kC (I 81) N at' cs)) := by
  have hR := hH.1
  have h100 := hH.2.2.1
  have y1 := sp_121 (d := d + 1) (J := J) (o := o) (q := q) (nm := nm) (cs := cs) (u := u) (v := v) (row := row) hH hL hq ha
  have hw := kCw_b (kNx (I 81) N at')
  have eC := kC_w (T := I 81) (N := N) (at' := at') (cs := cs) _ rfl
  generalize kCw (kNx (I 81) N at') = w at *
  obtain ⟨w1, w2, w3⟩ := kWd_b (T := I 81) (N := N) (kWs w) at' (kWs_1 w hw) ha
  generalize kWd (I 81) N (kWs w) at' = W at *
  obtain ⟨W1, W2⟩ := W
  dsimp only at y1 w1 w2 eC
  refine zg_wp 80 _ ?_
  obtain ⟨p1, p2, p3⟩ := q_row (m := q) (n := 60) (by omega) (by omega)
  have hH1 : mTx R (zup I 83 q (nI w)) a b c N i := mTx_up (by decide) (by decide) hH
  have eT1 : zup I 83 q (nI w) 81 = I 81 := zup_ne' (by decide)
  have o1 : mOu I (zup I 83 q (nI w)) q := mOu_up mOu_r (by decide) (by decide)
  cases W1
  · rw [if_neg (by decide)] at eC
    rw [eC]
    simp only [zpr_122, zhd_122, zp122, zh122, zml_122, o_bad, o_push, o_iload, o_lload, o_aload, o_istore, o_astore, o_lstore, o_iinc, o_ii, o_dv, o_i, o_ll, o_lshl, o_lcmp, o_i2l, o_l2i, o_dup, o_dup2, o_pop, o_goto, o_if, o_ic, o_sw, o_ireturn, o_nreturn, o_lreturn, o_return, o_min, o_max, o_geti, o_getr, o_puti, o_putz, o_putr, o_gets, o_iald, o_lald, o_aald, o_iast, o_last, o_aast, o_alen, o_new, o_newa, o_multi, o_call, o_scall, o_chk, o_oinit, o_copyi, o_copyl, z_eq, z_ne, z_lt, z_ge, z_gt, z_le, z_ceq, z_cne, z_clt, z_cge, z_cgt, z_cle, z_rz, z_rb, z_rc, q_nz, zg_0, zg_s, zgk_s, zgh_n, zgh_s, zq_n, zq_br, zq_gd, zq_cl2, zqc_s, zq_rt, zq_sw, zq_st, zsws, zent, zpad, zla, zlg, zpop, zrv, zc1, zmk, zob_w, zaw_w, zar_w, zln_w, zld_w, zin_w, zcpg_w, znr_w, List.getElem?_cons_zero, List.getElem?_cons_succ, List.set_cons_zero, List.set_cons_succ, List.length_cons, List.length_nil, Nat.reduceLT, Nat.reduceLeDiff, Nat.reduceAdd, Nat.reduceSub, Nat.reduceMul, Nat.reduceEqDiff, Nat.reduceBEq, ↓reduceIte, q_10, q_01, q_00, q_m1, q_m2, q_m3, q_m4, q_m5, q_n1, q_n2, decide_eq_true_eq, decide_eq_false_iff_not, Bool.and_eq_true, Bool.true_and, Bool.and_true, Bool.decide_and, decide_true, decide_false, Bool.true_eq_false, Bool.false_eq_true, Option.toList_some, Option.toList_none, List.cons_append, List.nil_append, true_and, and_true, and_self, not_true_eq_false, not_false_eq_true, forall_const, false_implies, implies_true, Nat.le_refl, ne_eq, Bool.not_eq_true, eq_self, zshA, zb_rz, zb_ne, zb_eq, qem, true_implies, Nat.zero_le, false_and, and_false, Bool.or_eq_true, or_true, true_or, false_or, or_false, y1, kb_f]
    exact ⟨_, _, _, _, _, _, ⟨rfl, rfl⟩, ⟨o1, by omega⟩, fun z => nomatch z⟩
  rw [if_pos rfl] at eC
  have v1 : ∀ (x : Nat) (y : Int32), mG (zup I 83 q (nI w)) o x y cs u v row 83 q = nI w := fun x y => by rw [mG_o (by decide) (by decide) (by decide)]; exact zup_hit
  by_cases h4 : 4 ≤ w
  · have e : ¬ nI w < (4 : Int32) := q_tnl (m := w) (n := 4) (by omega) (by omega)
    rw [show kCv (I 81) N w W2 cs = (true, W2, cs) from if_pos h4] at eC
    rw [eC]
    simp only [zpr_122, zhd_122, zp122, zh122, zml_122, o_bad, o_push, o_iload, o_lload, o_aload, o_istore, o_astore, o_lstore, o_iinc, o_ii, o_dv, o_i, o_ll, o_lshl, o_lcmp, o_i2l, o_l2i, o_dup, o_dup2, o_pop, o_goto, o_if, o_ic, o_sw, o_ireturn, o_nreturn, o_lreturn, o_return, o_min, o_max, o_geti, o_getr, o_puti, o_putz, o_putr, o_gets, o_iald, o_lald, o_aald, o_iast, o_last, o_aast, o_alen, o_new, o_newa, o_multi, o_call, o_scall, o_chk, o_oinit, o_copyi, o_copyl, z_eq, z_ne, z_lt, z_ge, z_gt, z_le, z_ceq, z_cne, z_clt, z_cge, z_cgt, z_cle, z_rz, z_rb, z_rc, q_nz, zg_0, zg_s, zgk_s, zgh_n, zgh_s, zq_n, zq_br, zq_gd, zq_cl2, zqc_s, zq_rt, zq_sw, zq_st, zsws, zent, zpad, zla, zlg, zpop, zrv, zc1, zmk, zob_w, zaw_w, zar_w, zln_w, zld_w, zin_w, zcpg_w, znr_w, List.getElem?_cons_zero, List.getElem?_cons_succ, List.set_cons_zero, List.set_cons_succ, List.length_cons, List.length_nil, Nat.reduceLT, Nat.reduceLeDiff, Nat.reduceAdd, Nat.reduceSub, Nat.reduceMul, Nat.reduceEqDiff, Nat.reduceBEq, ↓reduceIte, q_10, q_01, q_00, q_m1, q_m2, q_m3, q_m4, q_m5, q_n1, q_n2, decide_eq_true_eq, decide_eq_false_iff_not, Bool.and_eq_true, Bool.true_and, Bool.and_true, Bool.decide_and, decide_true, decide_false, Bool.true_eq_false, Bool.false_eq_true, Option.toList_some, Option.toList_none, List.cons_append, List.nil_append, true_and, and_true, and_self, not_true_eq_false, not_false_eq_true, forall_const, false_implies, implies_true, Nat.le_refl, ne_eq, Bool.not_eq_true, eq_self, zshA, zb_rz, zb_ne, zb_eq, qem, true_implies, Nat.zero_le, false_and, and_false, Bool.or_eq_true, or_true, true_or, false_or, or_false, y1, kb_t, zr_75_15 hR, p1, p2, v1, e]
    exact ⟨_, _, _, _, _, _, ⟨rfl, rfl⟩, ⟨o1, by omega⟩, fun _ => ⟨rfl, by rw [zup_hit], fun z => absurd z (Nat.not_lt.mpr h4), fun z => absurd z (by show ¬ w < 2; omega)⟩⟩
  have e4 : nI w < (4 : Int32) := q_tlt (m := w) (n := 4) (by omega) (by omega)
  by_cases hg : kDg (I 81) N W2
  · have y2 := sp_114G (d := d + 2) (J := J) (o := o) (nm := nm) (cs := cs) (u := u) (v := v) (row := row) hH1 w2 (by rw [eT1]; exact hg)
    rw [eT1] at y2
    obtain ⟨m, hm, e5, g1, g2⟩ : ∃ m, m < 100 ∧ (kNu (I 81) N W2).1 = nI m ∧ W2 < (kNu (I 81) N W2).2 ∧ (kNu (I 81) N W2).2 ≤ N := by
      rcases kNu_b (T := I 81) (N := N) W2 with ⟨_, z⟩ | h
      · exact absurd hg z
      · exact h
    have hz : ¬ (kNu (I 81) N W2).1 < 0 := by rw [e5]; exact q_tnl (n := 0) (by omega) (by omega)
    have eu := mG_up (I := zup I 83 q (nI w)) (o := o) (at' := (kNu (I 81) N W2).2) (nm := (kNu (I 81) N W2).1) (cs := cs) (u := u) (v := v) (row := row) (k := 84) (j := q) (x := (kNu (I 81) N W2).1) (by decide) (by decide) (by decide)
    have hH2 : mTx R (zup (zup I 83 q (nI w)) 84 q (kNu (I 81) N W2).1) a b c N i := mTx_up (by decide) (by decide) hH1
    have eT2 : zup (zup I 83 q (nI w)) 84 q (kNu (I 81) N W2).1 81 = I 81 := by rw [zup_ne' (by decide)]; exact eT1
    have o2 : mOu I (zup (zup I 83 q (nI w)) 84 q (kNu (I 81) N W2).1) q := mOu_up o1 (by decide) (by decide)
    have v2 : ∀ (x : Nat) (y : Int32), mG (zup (zup I 83 q (nI w)) 84 q (kNu (I 81) N W2).1) o x y cs u v row 83 q = nI w := fun x y => by rw [mG_o (by decide) (by decide) (by decide), zup_ne' (by decide)]; exact zup_hit
    by_cases h2 : 2 ≤ w
    · have e2 : (2 : Int32) ≤ nI w := q_tle (m := 2) h2 (by omega)
      rw [show kCv (I 81) N w W2 cs = (true, (kNu (I 81) N W2).2, cs) from (if_neg h4).trans ((if_pos h2).trans (if_neg hz))] at eC
      rw [eC]
      simp only [zpr_122, zhd_122, zp122, zh122, zml_122, o_bad, o_push, o_iload, o_lload, o_aload, o_istore, o_astore, o_lstore, o_iinc, o_ii, o_dv, o_i, o_ll, o_lshl, o_lcmp, o_i2l, o_l2i, o_dup, o_dup2, o_pop, o_goto, o_if, o_ic, o_sw, o_ireturn, o_nreturn, o_lreturn, o_return, o_min, o_max, o_geti, o_getr, o_puti, o_putz, o_putr, o_gets, o_iald, o_lald, o_aald, o_iast, o_last, o_aast, o_alen, o_new, o_newa, o_multi, o_call, o_scall, o_chk, o_oinit, o_copyi, o_copyl, z_eq, z_ne, z_lt, z_ge, z_gt, z_le, z_ceq, z_cne, z_clt, z_cge, z_cgt, z_cle, z_rz, z_rb, z_rc, q_nz, zg_0, zg_s, zgk_s, zgh_n, zgh_s, zq_n, zq_br, zq_gd, zq_cl2, zqc_s, zq_rt, zq_sw, zq_st, zsws, zent, zpad, zla, zlg, zpop, zrv, zc1, zmk, zob_w, zaw_w, zar_w, zln_w, zld_w, zin_w, zcpg_w, znr_w, List.getElem?_cons_zero, List.getElem?_cons_succ, List.set_cons_zero, List.set_cons_succ, List.length_cons, List.length_nil, Nat.reduceLT, Nat.reduceLeDiff, Nat.reduceAdd, Nat.reduceSub, Nat.reduceMul, Nat.reduceEqDiff, Nat.reduceBEq, ↓reduceIte, q_10, q_01, q_00, q_m1, q_m2, q_m3, q_m4, q_m5, q_n1, q_n2, decide_eq_true_eq, decide_eq_false_iff_not, Bool.and_eq_true, Bool.true_and, Bool.and_true, Bool.decide_and, decide_true, decide_false, Bool.true_eq_false, Bool.false_eq_true, Option.toList_some, Option.toList_none, List.cons_append, List.nil_append, true_and, and_true, and_self, not_true_eq_false, not_false_eq_true, forall_const, false_implies, implies_true, Nat.le_refl, ne_eq, Bool.not_eq_true, eq_self, zshA, zb_rz, zb_ne, zb_eq, qem, true_implies, Nat.zero_le, false_and, and_false, Bool.or_eq_true, or_true, true_or, false_or, or_false, y1, y2, kb_t, zr_75_15 hR, zr_75_16 hR, p1, p2, v1, v2, e4, e2, mG_n, eu]
      exact ⟨_, _, _, _, _, _, ⟨rfl, rfl⟩, ⟨o2, by omega⟩, fun _ => ⟨rfl, by rw [zup_ne' (by decide)]; exact zup_hit, fun _ => zup_hit, fun z => absurd z (Nat.not_lt.mpr h2)⟩⟩
    have e2 : ¬ (2 : Int32) ≤ nI w := q_tnle (m := 2) (n := w) (by omega) (by omega)
    have eV : kCv (I 81) N w W2 cs = kJg (I 81) N W2 cs := (if_neg h4).trans (if_neg h2)
    have eJ : kJg (I 81) N W2 cs = if kNx (I 81) N (kNu (I 81) N W2).2 = 32 then kR (I 81) N 202 (some (false, false)) 0 ((kNu (I 81) N W2).2 + 1) cs else (false, (kNu (I 81) N W2).2, cs) := if_neg hz
    rw [eV, eJ] at eC
    by_cases h32 : kNx (I 81) N (kNu (I 81) N W2).2 = 32
    · have hl := kNx_lt h32 (by decide)
      have y3 := sp_110G (d := d + 4) (J := J) (o := o) (nm := (kNu (I 81) N W2).1) (cs := cs) (u := u) (v := v) (row := row) hH2 g2 (x := 32) (by rw [eT2]; exact h32)
      obtain ⟨nm', cs', tv', u', v', row', y4, l4, t4⟩ := sp_120 (d := d) (J := J) (nm := (kNu (I 81) N W2).1) (cs := cs) (u := u) (v := v) (row := row) hH2 ho hq (show (kNu (I 81) N W2).2 + 1 ≤ N by omega) (by omega)
      rw [if_pos h32] at eC
      rw [eT2] at y4 t4
      rw [eC]
      have o4 : mOu I (zup (zup (zup (zup I 83 q (nI w)) 84 q (kNu (I 81) N W2).1) 85 q (nI (o + cs.length))) 86 q tv') q := mOu_up (mOu_up o2 (by decide) (by decide)) (by decide) (by decide)
      generalize kR (I 81) N 202 (some (false, false)) 0 ((kNu (I 81) N W2).2 + 1) cs = X at *
      obtain ⟨X1, X2, X3⟩ := X
      dsimp only at y4 t4
      cases X1
      · simp only [zpr_122, zhd_122, zp122, zh122, zml_122, o_bad, o_push, o_iload, o_lload, o_aload, o_istore, o_astore, o_lstore, o_iinc, o_ii, o_dv, o_i, o_ll, o_lshl, o_lcmp, o_i2l, o_l2i, o_dup, o_dup2, o_pop, o_goto, o_if, o_ic, o_sw, o_ireturn, o_nreturn, o_lreturn, o_return, o_min, o_max, o_geti, o_getr, o_puti, o_putz, o_putr, o_gets, o_iald, o_lald, o_aald, o_iast, o_last, o_aast, o_alen, o_new, o_newa, o_multi, o_call, o_scall, o_chk, o_oinit, o_copyi, o_copyl, z_eq, z_ne, z_lt, z_ge, z_gt, z_le, z_ceq, z_cne, z_clt, z_cge, z_cgt, z_cle, z_rz, z_rb, z_rc, q_nz, zg_0, zg_s, zgk_s, zgh_n, zgh_s, zq_n, zq_br, zq_gd, zq_cl2, zqc_s, zq_rt, zq_sw, zq_st, zsws, zent, zpad, zla, zlg, zpop, zrv, zc1, zmk, zob_w, zaw_w, zar_w, zln_w, zld_w, zin_w, zcpg_w, znr_w, List.getElem?_cons_zero, List.getElem?_cons_succ, List.set_cons_zero, List.set_cons_succ, List.length_cons, List.length_nil, Nat.reduceLT, Nat.reduceLeDiff, Nat.reduceAdd, Nat.reduceSub, Nat.reduceMul, Nat.reduceEqDiff, Nat.reduceBEq, ↓reduceIte, q_10, q_01, q_00, q_m1, q_m2, q_m3, q_m4, q_m5, q_n1, q_n2, decide_eq_true_eq, decide_eq_false_iff_not, Bool.and_eq_true, Bool.true_and, Bool.and_true, Bool.decide_and, decide_true, decide_false, Bool.true_eq_false, Bool.false_eq_true, Option.toList_some, Option.toList_none, List.cons_append, List.nil_append, true_and, and_true, and_self, not_true_eq_false, not_false_eq_true, forall_const, false_implies, implies_true, Nat.le_refl, ne_eq, Bool.not_eq_true, eq_self, zshA, zb_rz, zb_ne, zb_eq, qem, true_implies, Nat.zero_le, false_and, and_false, Bool.or_eq_true, or_true, true_or, false_or, or_false, y1, y2, y3, y4, kb_t, kb_f, zr_75_15 hR, zr_75_16 hR, p1, p2, v1, v2, e4, e2, mG_n, eu]
        exact ⟨_, _, _, _, _, _, ⟨rfl, rfl⟩, ⟨o4, l4⟩, fun z => nomatch z⟩
      · obtain ⟨rfl, rfl⟩ := t4 rfl
        simp only [zpr_122, zhd_122, zp122, zh122, zml_122, o_bad, o_push, o_iload, o_lload, o_aload, o_istore, o_astore, o_lstore, o_iinc, o_ii, o_dv, o_i, o_ll, o_lshl, o_lcmp, o_i2l, o_l2i, o_dup, o_dup2, o_pop, o_goto, o_if, o_ic, o_sw, o_ireturn, o_nreturn, o_lreturn, o_return, o_min, o_max, o_geti, o_getr, o_puti, o_putz, o_putr, o_gets, o_iald, o_lald, o_aald, o_iast, o_last, o_aast, o_alen, o_new, o_newa, o_multi, o_call, o_scall, o_chk, o_oinit, o_copyi, o_copyl, z_eq, z_ne, z_lt, z_ge, z_gt, z_le, z_ceq, z_cne, z_clt, z_cge, z_cgt, z_cle, z_rz, z_rb, z_rc, q_nz, zg_0, zg_s, zgk_s, zgh_n, zgh_s, zq_n, zq_br, zq_gd, zq_cl2, zqc_s, zq_rt, zq_sw, zq_st, zsws, zent, zpad, zla, zlg, zpop, zrv, zc1, zmk, zob_w, zaw_w, zar_w, zln_w, zld_w, zin_w, zcpg_w, znr_w, List.getElem?_cons_zero, List.getElem?_cons_succ, List.set_cons_zero, List.set_cons_succ, List.length_cons, List.length_nil, Nat.reduceLT, Nat.reduceLeDiff, Nat.reduceAdd, Nat.reduceSub, Nat.reduceMul, Nat.reduceEqDiff, Nat.reduceBEq, ↓reduceIte, q_10, q_01, q_00, q_m1, q_m2, q_m3, q_m4, q_m5, q_n1, q_n2, decide_eq_true_eq, decide_eq_false_iff_not, Bool.and_eq_true, Bool.true_and, Bool.and_true, Bool.decide_and, decide_true, decide_false, Bool.true_eq_false, Bool.false_eq_true, Option.toList_some, Option.toList_none, List.cons_append, List.nil_append, true_and, and_true, and_self, not_true_eq_false, not_false_eq_true, forall_const, false_implies, implies_true, Nat.le_refl, ne_eq, Bool.not_eq_true, eq_self, zshA, zb_rz, zb_ne, zb_eq, qem, true_implies, Nat.zero_le, false_and, and_false, Bool.or_eq_true, or_true, true_or, false_or, or_false, y1, y2, y3, y4, kb_t, kb_f, zr_75_15 hR, zr_75_16 hR, p1, p2, v1, v2, e4, e2, mG_n, eu]
        exact ⟨_, _, _, _, _, _, ⟨rfl, rfl⟩, ⟨o4, l4⟩, fun _ => ⟨rfl, by rw [zup_ne' (by decide), zup_ne' (by decide), zup_ne' (by decide)]; exact zup_hit, fun _ => by rw [zup_ne' (by decide), zup_ne' (by decide)]; exact zup_hit, fun _ => ⟨by rw [zup_ne' (by decide)]; exact zup_hit, zup_hit⟩⟩⟩
    · have y3 := sp_110H (d := d + 4) (J := J) (o := o) (nm := (kNu (I 81) N W2).1) (cs := cs) (u := u) (v := v) (row := row) (x := 32) hH2 g2 (by rw [eT2]; exact h32)
      rw [if_neg h32] at eC
      rw [eC]
      simp only [zpr_122, zhd_122, zp122, zh122, zml_122, o_bad, o_push, o_iload, o_lload, o_aload, o_istore, o_astore, o_lstore, o_iinc, o_ii, o_dv, o_i, o_ll, o_lshl, o_lcmp, o_i2l, o_l2i, o_dup, o_dup2, o_pop, o_goto, o_if, o_ic, o_sw, o_ireturn, o_nreturn, o_lreturn, o_return, o_min, o_max, o_geti, o_getr, o_puti, o_putz, o_putr, o_gets, o_iald, o_lald, o_aald, o_iast, o_last, o_aast, o_alen, o_new, o_newa, o_multi, o_call, o_scall, o_chk, o_oinit, o_copyi, o_copyl, z_eq, z_ne, z_lt, z_ge, z_gt, z_le, z_ceq, z_cne, z_clt, z_cge, z_cgt, z_cle, z_rz, z_rb, z_rc, q_nz, zg_0, zg_s, zgk_s, zgh_n, zgh_s, zq_n, zq_br, zq_gd, zq_cl2, zqc_s, zq_rt, zq_sw, zq_st, zsws, zent, zpad, zla, zlg, zpop, zrv, zc1, zmk, zob_w, zaw_w, zar_w, zln_w, zld_w, zin_w, zcpg_w, znr_w, List.getElem?_cons_zero, List.getElem?_cons_succ, List.set_cons_zero, List.set_cons_succ, List.length_cons, List.length_nil, Nat.reduceLT, Nat.reduceLeDiff, Nat.reduceAdd, Nat.reduceSub, Nat.reduceMul, Nat.reduceEqDiff, Nat.reduceBEq, ↓reduceIte, q_10, q_01, q_00, q_m1, q_m2, q_m3, q_m4, q_m5, q_n1, q_n2, decide_eq_true_eq, decide_eq_false_iff_not, Bool.and_eq_true, Bool.true_and, Bool.and_true, Bool.decide_and, decide_true, decide_false, Bool.true_eq_false, Bool.false_eq_true, Option.toList_some, Option.toList_none, List.cons_append, List.nil_append, true_and, and_true, and_self, not_true_eq_false, not_false_eq_true, forall_const, false_implies, implies_true, Nat.le_refl, ne_eq, Bool.not_eq_true, eq_self, zshA, zb_rz, zb_ne, zb_eq, qem, true_implies, Nat.zero_le, false_and, and_false, Bool.or_eq_true, or_true, true_or, false_or, or_false, y1, y2, y3, kb_t, kb_f, zr_75_15 hR, zr_75_16 hR, p1, p2, v1, v2, e4, e2, mG_n, eu]
      exact ⟨_, _, _, _, _, _, ⟨rfl, rfl⟩, ⟨o2, by omega⟩, fun z => nomatch z⟩
  · have y2 := sp_114H (d := d + 2) (J := J) (o := o) (nm := nm) (cs := cs) (u := u) (v := v) (row := row) hH1 w2 (by rw [eT1]; exact hg)
    have e0 : kNu (I 81) N W2 = (-1, W2) := if_neg hg
    have eV : kCv (I 81) N w W2 cs = (false, W2, cs) := by
      unfold kCv kJg
      rw [if_neg h4, e0, if_pos (show (-1 : Int32) < 0 by decide)]
      by_cases h2 : 2 ≤ w
      · rw [if_pos h2]
      · rw [if_neg h2]
        exact if_pos (show (-1 : Int32) < 0 by decide)
    rw [eV] at eC
    rw [eC]
    simp only [zpr_122, zhd_122, zp122, zh122, zml_122, o_bad, o_push, o_iload, o_lload, o_aload, o_istore, o_astore, o_lstore, o_iinc, o_ii, o_dv, o_i, o_ll, o_lshl, o_lcmp, o_i2l, o_l2i, o_dup, o_dup2, o_pop, o_goto, o_if, o_ic, o_sw, o_ireturn, o_nreturn, o_lreturn, o_return, o_min, o_max, o_geti, o_getr, o_puti, o_putz, o_putr, o_gets, o_iald, o_lald, o_aald, o_iast, o_last, o_aast, o_alen, o_new, o_newa, o_multi, o_call, o_scall, o_chk, o_oinit, o_copyi, o_copyl, z_eq, z_ne, z_lt, z_ge, z_gt, z_le, z_ceq, z_cne, z_clt, z_cge, z_cgt, z_cle, z_rz, z_rb, z_rc, q_nz, zg_0, zg_s, zgk_s, zgh_n, zgh_s, zq_n, zq_br, zq_gd, zq_cl2, zqc_s, zq_rt, zq_sw, zq_st, zsws, zent, zpad, zla, zlg, zpop, zrv, zc1, zmk, zob_w, zaw_w, zar_w, zln_w, zld_w, zin_w, zcpg_w, znr_w, List.getElem?_cons_zero, List.getElem?_cons_succ, List.set_cons_zero, List.set_cons_succ, List.length_cons, List.length_nil, Nat.reduceLT, Nat.reduceLeDiff, Nat.reduceAdd, Nat.reduceSub, Nat.reduceMul, Nat.reduceEqDiff, Nat.reduceBEq, ↓reduceIte, q_10, q_01, q_00, q_m1, q_m2, q_m3, q_m4, q_m5, q_n1, q_n2, decide_eq_true_eq, decide_eq_false_iff_not, Bool.and_eq_true, Bool.true_and, Bool.and_true, Bool.decide_and, decide_true, decide_false, Bool.true_eq_false, Bool.false_eq_true, Option.toList_some, Option.toList_none, List.cons_append, List.nil_append, true_and, and_true, and_self, not_true_eq_false, not_false_eq_true, forall_const, false_implies, implies_true, Nat.le_refl, ne_eq, Bool.not_eq_true, eq_self, zshA, zb_rz, zb_ne, zb_eq, qem, true_implies, Nat.zero_le, false_and, and_false, Bool.or_eq_true, or_true, true_or, false_or, or_false, y1, y2, kb_t, kb_f, zr_75_15 hR, p1, p2, v1, e4]
    exact ⟨_, _, _, _, _, _, ⟨rfl, rfl⟩, ⟨o1, by omega⟩, fun z => nomatch z⟩
set_option maxRecDepth 40000 in
theorem sp_122 (hH : mTx R I a b c N i) (hL : mLt I) (ho : o ≤ 500) (hq : q < 60) (ha : at' ≤ N) (hc : cs.length ≤ at') : ∃ I' nm' cs' u' v' row', zcl (d + 7) 122 [.ref 75, .int (nI q)] (mG I o at' nm cs u v row, J, R, 111) = some (some (.int (kb (kC (I 81) N at' cs).1.1)), (mG I' o (kC (I 81) N at' cs).1.2.1 nm' cs' u' v' row', J, R, 111)) ∧ (mOu I I' q ∧ cs'.length ≤ 100) ∧ ((kC (I 81) N at' cs).1.1 = true → cs' = (kC (I 81) N at' cs).1.2.2 ∧ mCl I' q o cs.length (kC (I 81) N at' cs).2) := by
  obtain ⟨r, w, q1, I', nm', cs', u', v', row', ⟨q2, q3⟩, q4⟩ := zcl_ex (Nat.le_of_ble_eq_true rfl) (sl_122 (d := d) (J := J) (nm := nm) (u := u) (v := v) (row := row) hH hL ho hq ha hc)
  exact ⟨I', nm', cs', u', v', row', by rw [q1, q2, q3], q4⟩
end KM
