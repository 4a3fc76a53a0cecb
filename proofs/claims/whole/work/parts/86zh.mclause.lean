/-! ===== the model takes a clause ===== -/
section KM
variable {d : Nat} {I : zI} {J : zJ} {R : zR} {a b c N at' o q : Nat} {i : Option Nat} {nm tv u v : Int32} {cs : List kSy} {tp : List Int32} {row : Nat → Int32}
def mJ (I : zI) (o : Nat) (cs : List kSy) (u v : Int32) (row : Nat → Int32) : zI := fun k => if k = 75 then (fun j => if j = 21 then nI (o + cs.length) else if j = 22 then u else if j = 23 then v else I 75 j) else if k = 87 then kRw (fun z => z.2) o (I 87) cs else if k = 88 then row else I k
/-- the model between what it reads -/
def mG (I : zI) (o at' : Nat) (nm : Int32) (cs : List kSy) (u v : Int32) (row : Nat → Int32) : zI := mN (mJ I o cs u v row) at' nm
theorem mG_75 : mG I o at' nm cs u v row 75 = fun j => if j = 11 then nI at' else if j = 12 then nm else if j = 21 then nI (o + cs.length) else if j = 22 then u else if j = 23 then v else I 75 j := rfl
theorem mG_87 : mG I o at' nm cs u v row 87 = kRw (fun z => z.2) o (I 87) cs := rfl
theorem mG_88 : mG I o at' nm cs u v row 88 = row := rfl
theorem mJ_o {k : Nat} (h : k ≠ 75) (h1 : k ≠ 87) (h2 : k ≠ 88) : mJ I o cs u v row k = I k := by
  unfold mJ
  rw [if_neg h, if_neg h1, if_neg h2]
theorem mG_o {k : Nat} (h : k ≠ 75) (h1 : k ≠ 87) (h2 : k ≠ 88) : mG I o at' nm cs u v row k = I k := by
  unfold mG
  rw [mN_o h, mJ_o h h1 h2]
theorem mG_a : mG I o at' nm cs u v row 75 11 = nI at' := rfl
theorem mG_n : mG I o at' nm cs u v row 75 12 = nm := rfl
theorem mG_21 : mG I o at' nm cs u v row 75 21 = nI (o + cs.length) := rfl
theorem mG_T : mG I o at' nm cs u v row 81 = I 81 := mG_o (by decide) (by decide) (by decide)
theorem mTx_J (hH : mTx R I a b c N i) : mTx R (mJ I o cs u v row) a b c N i := ⟨hH.1, hH.2.1, hH.2.2.1, by rw [mJ_o (by decide) (by decide) (by decide)]; exact hH.2.2.2⟩
theorem mTx_G (hH : mTx R I a b c N i) : mTx R (mG I o at' nm cs u v row) a b c N i := mTx_N (mTx_J hH)
theorem mTx_up {k j : Nat} {x : Int32} (h : k ≠ 75) (h1 : k ≠ 81) (hH : mTx R I a b c N i) : mTx R (zup I k j x) a b c N i := by
  unfold mTx
  rw [zup_ne' (Ne.symm h), zup_ne' (Ne.symm h1)]
  exact hH
theorem mG_up {k j : Nat} {x : Int32} (h : k ≠ 75) (h1 : k ≠ 87) (h2 : k ≠ 88) : zup (mG I o at' nm cs u v row) k j x = mG (zup I k j x) o at' nm cs u v row := by
  funext m
  by_cases e : m = k
  · subst e
    rw [zup_eq', mG_o h h1 h2, mG_o h h1 h2, zup_eq']
  · rw [zup_ne' e]
    have e1 : zup I k j x 75 = I 75 := zup_ne' (Ne.symm h)
    have e2 : zup I k j x 87 = I 87 := zup_ne' (Ne.symm h1)
    have e3 : zup I k j x m = I m := zup_ne' e
    unfold mG mJ mN
    simp only [e1, e2, e3]
theorem mG_at {x : Nat} : zup (mG I o at' nm cs u v row) 75 11 (nI x) = mG I o x nm cs u v row := mN_u1
theorem mG_u22 {x : Int32} : zup (mG I o at' nm cs u v row) 75 22 x = mG I o at' nm cs x v row := by
  funext k
  by_cases e : k = 75
  · subst e
    rw [zup_eq', mG_75, mG_75]
    funext j
    by_cases e2 : j = 22
    · subst e2
      simp
    · simp [e2]
  · rw [zup_ne' e]
    unfold mG mN mJ
    rw [if_neg e, if_neg e, if_neg e, if_neg e]
theorem mG_u23 {x : Int32} : zup (mG I o at' nm cs u v row) 75 23 x = mG I o at' nm cs u x row := by
  funext k
  by_cases e : k = 75
  · subst e
    rw [zup_eq', mG_75, mG_75]
    funext j
    by_cases e2 : j = 23
    · subst e2
      simp
    · simp [e2]
  · rw [zup_ne' e]
    unfold mG mN mJ
    rw [if_neg e, if_neg e, if_neg e, if_neg e]
theorem zup_sf {F : zI} {k j : Nat} : zup F k j (F k j) = F := by
  funext m
  by_cases e : m = k
  · subst e
    rw [zup_eq']
    funext z
    by_cases e2 : z = j
    · simp [e2]
    · simp [e2]
  · rw [zup_ne' e]
theorem mE_G : mE I o q at' nm cs tp tv row = mG (zup I 86 q tv) o at' nm cs (nI tp.length) (nI (kOn tp)) row := by
  funext m
  by_cases e : m = 75
  · subst e
    rw [mE_75, mG_75, zup_ne' (by decide)]
  by_cases e1 : m = 86
  · subst e1
    rw [mE_86, mG_o (by decide) (by decide) (by decide), zup_eq']
  by_cases e2 : m = 87
  · subst e2
    rw [mE_87, mG_87, zup_ne' (by decide)]
  by_cases e3 : m = 88
  · subst e3
    rfl
  rw [mE_o e (by omega), mG_o e e2 e3, zup_ne' e1]
theorem mE_0 {x : Int32} : mG (zup I 85 q x) o at' nm cs 0 0 row = mE (zup I 85 q x) o q at' nm cs [] (I 86 q) row := by
  have e : zup (zup I 85 q x) 86 q (I 86 q) = zup I 85 q x := by
    have z : zup I 85 q x 86 q = I 86 q := by rw [zup_ne' (by decide)]
    rw [← z]
    exact zup_sf
  rw [mE_G, e]
  rfl
set_option maxRecDepth 40000 in
/-- what an over or under is about: the whole -/
theorem sp_120 (hH : mTx R I a b c N i) (ho : o ≤ 500) (hq : q < 60) (ha : at' ≤ N) (hc : cs.length ≤ at') : ∃ nm' cs' tv' u' v' row', zcl (d + 6) 120 [.ref 75, .int (nI q)] (mG I o at' nm cs u v row, J, R, 111) = some (some (.int (kb (kR (I 81) N 202 (some (false, false)) 0 at' cs).1)), (mG (zup (zup I 85 q (nI (o + cs.length))) 86 q tv') o (kR (I 81) N 202 (some (false, false)) 0 at' cs).2.1 nm' cs' u' v' row', J, R, 111)) ∧ cs'.length ≤ 100 ∧ ((kR (I 81) N 202 (some (false, false)) 0 at' cs).1 = true → cs' = (kR (I 81) N 202 (some (false, false)) 0 at' cs).2.2 ∧ tv' = nI (o + cs'.length)) := by
  have hR := hH.1
  have h100 := hH.2.2.1
  have hH' : mTx R (zup I 85 q (nI (o + cs.length))) a b c N i := mTx_up (by decide) (by decide) hH
  obtain ⟨⟨a1, a2, a3⟩, nw, a4, a5⟩ := kR_b (T := I 81) (N := N) 202 (some (false, false)) 0 at' cs ha
  have a6 : nw.length + at' ≤ 0 + (kR (I 81) N 202 (some (false, false)) 0 at' cs).2.1 := a5
  obtain ⟨p1, p2, p3⟩ := q_row (m := q) (n := 60) (by omega) (by omega)
  have v1 : mG I o at' nm cs 0 0 row 75 21 = nI (o + cs.length) := rfl
  have eu := mG_up (I := I) (o := o) (at' := at') (nm := nm) (cs := cs) (u := 0) (v := 0) (row := row) (k := 85) (j := q) (x := nI (o + cs.length)) (by decide) (by decide) (by decide)
  have key : zWP (zcl (d + 5)) 120 (zent 120 [.ref 75, .int (nI q)] (mG I o at' nm cs u v row, J, R, 111)) (fun r w => ∃ nm' cs' tv' u' v' row', (r = some (.int (kb (kR (I 81) N 202 (some (false, false)) 0 at' cs).1)) ∧ w = (mG (zup (zup I 85 q (nI (o + cs.length))) 86 q tv') o (kR (I 81) N 202 (some (false, false)) 0 at' cs).2.1 nm' cs' u' v' row', J, R, 111)) ∧ cs'.length ≤ 100 ∧ ((kR (I 81) N 202 (some (false, false)) 0 at' cs).1 = true → cs' = (kR (I 81) N 202 (some (false, false)) 0 at' cs).2.2 ∧ tv' = nI (o + cs'.length))) := by
    refine zg_wp 40 _ ?_
    simp only [zpr_120, zhd_120, zp120, zh120, zml_120, o_bad, o_push, o_iload, o_lload, o_aload, o_istore, o_astore, o_lstore, o_iinc, o_ii, o_dv, o_i, o_ll, o_lshl, o_lcmp, o_i2l, o_l2i, o_dup, o_dup2, o_pop, o_goto, o_if, o_ic, o_sw, o_ireturn, o_nreturn, o_lreturn, o_return, o_min, o_max, o_geti, o_getr, o_puti, o_putz, o_putr, o_gets, o_iald, o_lald, o_aald, o_iast, o_last, o_aast, o_alen, o_new, o_newa, o_multi, o_call, o_scall, o_chk, o_oinit, o_copyi, o_copyl, z_eq, z_ne, z_lt, z_ge, z_gt, z_le, z_ceq, z_cne, z_clt, z_cge, z_cgt, z_cle, z_rz, z_rb, z_rc, q_nz, zg_0, zg_s, zgk_s, zgh_n, zgh_s, zq_n, zq_br, zq_gd, zq_cl2, zqc_s, zq_rt, zq_sw, zq_st, zsws, zent, zpad, zla, zlg, zpop, zrv, zc1, zmk, zob_w, zaw_w, zar_w, zln_w, zld_w, zin_w, zcpg_w, znr_w, List.getElem?_cons_zero, List.getElem?_cons_succ, List.set_cons_zero, List.set_cons_succ, List.length_cons, List.length_nil, Nat.reduceLT, Nat.reduceLeDiff, Nat.reduceAdd, Nat.reduceSub, Nat.reduceMul, Nat.reduceEqDiff, Nat.reduceBEq, ↓reduceIte, q_10, q_01, q_00, q_m1, q_m2, q_m3, q_m4, q_m5, q_n1, q_n2, decide_eq_true_eq, decide_eq_false_iff_not, Bool.and_eq_true, Bool.true_and, Bool.and_true, Bool.decide_and, decide_true, decide_false, Bool.true_eq_false, Bool.false_eq_true, Option.toList_some, Option.toList_none, List.cons_append, List.nil_append, true_and, and_true, and_self, not_true_eq_false, not_false_eq_true, forall_const, false_implies, implies_true, Nat.le_refl, ne_eq, Bool.not_eq_true, eq_self, zshA, zb_rz, zb_ne, zb_eq, qem, true_implies, Nat.zero_le, false_and, and_false, Bool.or_eq_true, or_true, true_or, false_or, or_false, zr_75_17 hR, mG_u22, mG_u23, v1, p1, p2, eu, mE_0]
    have eT : zup I 85 q (nI (o + cs.length)) 81 = I 81 := zup_ne' (by decide)
    refine (sm_120 hH' ho hq 202).2 false false [] at' nm cs _ row _ (.inl rfl) ha (by omega) (by show cs.length + 0 ≤ _; omega) trivial (Nat.zero_le _) (fun hr => ?_) (fun hr => ?_)
    · rw [eT] at hr ⊢
      have hr' : (kR (I 81) N 202 (some (false, false)) 0 at' cs).1 = false := hr
      intro nm' cs' tp' tv' row' hl
      refine ⟨nm', cs', tv', _, _, row', ⟨by rw [hr']; rfl, by rw [mE_G]; rfl⟩, hl, fun z => ?_⟩
      rw [hr'] at z
      exact nomatch z
    · rw [eT] at hr ⊢
      have hr' : (kR (I 81) N 202 (some (false, false)) 0 at' cs).1 = true := hr
      intro A' O' cs' nm' tv' row' k1 k2 k3 k4 k5
      have kX := (kPi_124 A' O' (.inl rfl) cs').trans (congrArg (fun z => (([] : List Int32), z)) k1)
      rw [← eT] at k2 k3
      refine mH_5 hH' ho hq a2 k4 k5 k2 k3 kX ?_
      refine ⟨nm', _, _, _, _, row', ⟨by rw [hr']; rfl, by rw [mE_G]; rfl⟩, ?_, fun _ => ⟨rfl, rfl⟩⟩
      show (kR (I 81) N 202 (some (false, false)) 0 at' cs).2.2.length ≤ 100
      rw [a4, List.length_append]
      omega
  obtain ⟨r, w, q1, nm', cs', tv', u', v', row', ⟨q2, q3⟩, q4⟩ := zcl_ex (Nat.le_of_ble_eq_true rfl) key
  exact ⟨nm', cs', tv', u', v', row', by rw [q1, q2, q3], q4⟩
theorem kb_z (x : Bool) : kb x = 0 ∨ kb x = 1 := by
  cases x
  · exact .inl rfl
  · exact .inr rfl
def mLt (I : zI) : Prop := I 89 = fun j => ([111, 118, 101, 114, 117, 110, 100, 101, 114, 103, 105, 118, 101, 108, 101, 97, 118, 101, 104, 97, 108, 102, 97, 108, 108] : List Int32).getD j 0
set_option maxRecDepth 40000 in
theorem sp_121 (hH : mTx R I a b c N i) (hL : mLt I) (hq : q < 60) (ha : at' ≤ N) : zcl (d + 5) 121 [.ref 75, .int (nI q)] (mG I o at' nm cs u v row, J, R, 111) = some (some (.int (kb (kWd (I 81) N (kWs (kCw (kNx (I 81) N at'))) at').1)), (mG (zup I 83 q (nI (kCw (kNx (I 81) N at')))) o (kWd (I 81) N (kWs (kCw (kNx (I 81) N at'))) at').2 nm cs u v row, J, R, 111)) := by
  have hR := hH.1
  have y0 : zcl (d + 4) 109 [.ref 75] (mG I o at' nm cs u v row, J, R, 111) = some (some (.int (kNx (I 81) N at')), (mG I o at' nm cs u v row, J, R, 111)) := by
    have y := sp_109 (d := d + 3) (J := J) (mTx_G (o := o) (at' := at') (nm := nm) (cs := cs) (u := u) (v := v) (row := row) hH) mG_a ha
    rw [mG_T] at y
    exact y
  obtain ⟨p1, p2, p3⟩ := q_row (m := q) (n := 60) (by omega) (by omega)
  have eu : ∀ x, zup (mG I o at' nm cs u v row) 83 q x = mG (zup I 83 q x) o at' nm cs u v row := fun x => mG_up (by decide) (by decide) (by decide)
  have hH' : ∀ x, mTx R (mJ (zup I 83 q x) o cs u v row) a b c N i := fun x => mTx_J (mTx_up (by decide) (by decide) hH)
  have eT : ∀ x, mJ (zup I 83 q x) o cs u v row 81 = I 81 := fun x => by rw [mJ_o (by decide) (by decide) (by decide), zup_ne' (by decide)]
  have eL : ∀ x, mJ (zup I 83 q x) o cs u v row 89 = fun j => ([111, 118, 101, 114, 117, 110, 100, 101, 114, 103, 105, 118, 101, 108, 101, 97, 118, 101, 104, 97, 108, 102, 97, 108, 108] : List Int32).getD j 0 := fun x => by
    rw [mJ_o (by decide) (by decide) (by decide), zup_ne' (by decide)]
    exact hL
  by_cases h111 : kNx (I 81) N at' = 111
  · have y1 := sp_112 (d := d) (J := J) (nm := nm) (at' := at') (p := 0) (n := 4) (w := (kWs 0).take 4) (hH' 0) (by decide) (by decide) ha (fun z hz => by rw [eL]; revert z; decide) (by decide)
    rw [eT, show (kWs 0).take 4 ++ [32] = kWs 0 from rfl] at y1
    rw [h111] at y0
    rw [h111, show kCw 111 = 0 by decide]
    refine zcl_of (Nat.le_of_ble_eq_true rfl) (zg_wp 60 _ ?_)
    simp only [zpr_121, zhd_121, zp121, zh121, zml_121, o_bad, o_push, o_iload, o_lload, o_aload, o_istore, o_astore, o_lstore, o_iinc, o_ii, o_dv, o_i, o_ll, o_lshl, o_lcmp, o_i2l, o_l2i, o_dup, o_dup2, o_pop, o_goto, o_if, o_ic, o_sw, o_ireturn, o_nreturn, o_lreturn, o_return, o_min, o_max, o_geti, o_getr, o_puti, o_putz, o_putr, o_gets, o_iald, o_lald, o_aald, o_iast, o_last, o_aast, o_alen, o_new, o_newa, o_multi, o_call, o_scall, o_chk, o_oinit, o_copyi, o_copyl, z_eq, z_ne, z_lt, z_ge, z_gt, z_le, z_ceq, z_cne, z_clt, z_cge, z_cgt, z_cle, z_rz, z_rb, z_rc, q_nz, zg_0, zg_s, zgk_s, zgh_n, zgh_s, zq_n, zq_br, zq_gd, zq_cl2, zqc_s, zq_rt, zq_sw, zq_st, zsws, zent, zpad, zla, zlg, zpop, zrv, zc1, zmk, zob_w, zaw_w, zar_w, zln_w, zld_w, zin_w, zcpg_w, znr_w, List.getElem?_cons_zero, List.getElem?_cons_succ, List.set_cons_zero, List.set_cons_succ, List.length_cons, List.length_nil, Nat.reduceLT, Nat.reduceLeDiff, Nat.reduceAdd, Nat.reduceSub, Nat.reduceMul, Nat.reduceEqDiff, Nat.reduceBEq, ↓reduceIte, q_10, q_01, q_00, q_m1, q_m2, q_m3, q_m4, q_m5, q_n1, q_n2, decide_eq_true_eq, decide_eq_false_iff_not, Bool.and_eq_true, Bool.true_and, Bool.and_true, Bool.decide_and, decide_true, decide_false, Bool.true_eq_false, Bool.false_eq_true, Option.toList_some, Option.toList_none, List.cons_append, List.nil_append, true_and, and_true, and_self, not_true_eq_false, not_false_eq_true, forall_const, false_implies, implies_true, Nat.le_refl, ne_eq, Bool.not_eq_true, eq_self, zshA, zb_rz, zb_ne, zb_eq, qem, true_implies, Nat.zero_le, false_and, and_false, Bool.or_eq_true, or_true, true_or, false_or, or_false, y0, q_w6, zr_75_15 hR, p1, p2, eu]
    change zcl (d + 4) 112 [.ref 75, .int 0, .int 4] (mG (zup I 83 q 0) o at' nm cs u v row, J, R, 111) = _ at y1
    simp only [y1, zpr_121, zhd_121, zp121, zh121, zml_121, o_bad, o_push, o_iload, o_lload, o_aload, o_istore, o_astore, o_lstore, o_iinc, o_ii, o_dv, o_i, o_ll, o_lshl, o_lcmp, o_i2l, o_l2i, o_dup, o_dup2, o_pop, o_goto, o_if, o_ic, o_sw, o_ireturn, o_nreturn, o_lreturn, o_return, o_min, o_max, o_geti, o_getr, o_puti, o_putz, o_putr, o_gets, o_iald, o_lald, o_aald, o_iast, o_last, o_aast, o_alen, o_new, o_newa, o_multi, o_call, o_scall, o_chk, o_oinit, o_copyi, o_copyl, z_eq, z_ne, z_lt, z_ge, z_gt, z_le, z_ceq, z_cne, z_clt, z_cge, z_cgt, z_cle, z_rz, z_rb, z_rc, q_nz, zg_0, zg_s, zgk_s, zgh_n, zgh_s, zq_n, zq_br, zq_gd, zq_cl2, zqc_s, zq_rt, zq_sw, zq_st, zsws, zent, zpad, zla, zlg, zpop, zrv, zc1, zmk, zob_w, zaw_w, zar_w, zln_w, zld_w, zin_w, zcpg_w, znr_w, List.getElem?_cons_zero, List.getElem?_cons_succ, List.set_cons_zero, List.set_cons_succ, List.length_cons, List.length_nil, Nat.reduceLT, Nat.reduceLeDiff, Nat.reduceAdd, Nat.reduceSub, Nat.reduceMul, Nat.reduceEqDiff, Nat.reduceBEq, ↓reduceIte, q_10, q_01, q_00, q_m1, q_m2, q_m3, q_m4, q_m5, q_n1, q_n2, decide_eq_true_eq, decide_eq_false_iff_not, Bool.and_eq_true, Bool.true_and, Bool.and_true, Bool.decide_and, decide_true, decide_false, Bool.true_eq_false, Bool.false_eq_true, Option.toList_some, Option.toList_none, List.cons_append, List.nil_append, true_and, and_true, and_self, not_true_eq_false, not_false_eq_true, forall_const, false_implies, implies_true, Nat.le_refl, ne_eq, Bool.not_eq_true, eq_self, zshA, zb_rz, zb_ne, zb_eq, qem, true_implies, Nat.zero_le, false_and, and_false, Bool.or_eq_true, or_true, true_or, false_or, or_false]
    exact (if_pos (kb_z _)).mpr rfl
  by_cases h117 : kNx (I 81) N at' = 117
  · have y1 := sp_112 (d := d) (J := J) (nm := nm) (at' := at') (p := 4) (n := 5) (w := (kWs 1).take 5) (hH' 1) (by decide) (by decide) ha (fun z hz => by rw [eL]; revert z; decide) (by decide)
    rw [eT, show (kWs 1).take 5 ++ [32] = kWs 1 from rfl] at y1
    rw [h117] at y0
    rw [h117, show kCw 117 = 1 by decide]
    refine zcl_of (Nat.le_of_ble_eq_true rfl) (zg_wp 60 _ ?_)
    simp only [zpr_121, zhd_121, zp121, zh121, zml_121, o_bad, o_push, o_iload, o_lload, o_aload, o_istore, o_astore, o_lstore, o_iinc, o_ii, o_dv, o_i, o_ll, o_lshl, o_lcmp, o_i2l, o_l2i, o_dup, o_dup2, o_pop, o_goto, o_if, o_ic, o_sw, o_ireturn, o_nreturn, o_lreturn, o_return, o_min, o_max, o_geti, o_getr, o_puti, o_putz, o_putr, o_gets, o_iald, o_lald, o_aald, o_iast, o_last, o_aast, o_alen, o_new, o_newa, o_multi, o_call, o_scall, o_chk, o_oinit, o_copyi, o_copyl, z_eq, z_ne, z_lt, z_ge, z_gt, z_le, z_ceq, z_cne, z_clt, z_cge, z_cgt, z_cle, z_rz, z_rb, z_rc, q_nz, zg_0, zg_s, zgk_s, zgh_n, zgh_s, zq_n, zq_br, zq_gd, zq_cl2, zqc_s, zq_rt, zq_sw, zq_st, zsws, zent, zpad, zla, zlg, zpop, zrv, zc1, zmk, zob_w, zaw_w, zar_w, zln_w, zld_w, zin_w, zcpg_w, znr_w, List.getElem?_cons_zero, List.getElem?_cons_succ, List.set_cons_zero, List.set_cons_succ, List.length_cons, List.length_nil, Nat.reduceLT, Nat.reduceLeDiff, Nat.reduceAdd, Nat.reduceSub, Nat.reduceMul, Nat.reduceEqDiff, Nat.reduceBEq, ↓reduceIte, q_10, q_01, q_00, q_m1, q_m2, q_m3, q_m4, q_m5, q_n1, q_n2, decide_eq_true_eq, decide_eq_false_iff_not, Bool.and_eq_true, Bool.true_and, Bool.and_true, Bool.decide_and, decide_true, decide_false, Bool.true_eq_false, Bool.false_eq_true, Option.toList_some, Option.toList_none, List.cons_append, List.nil_append, true_and, and_true, and_self, not_true_eq_false, not_false_eq_true, forall_const, false_implies, implies_true, Nat.le_refl, ne_eq, Bool.not_eq_true, eq_self, zshA, zb_rz, zb_ne, zb_eq, qem, true_implies, Nat.zero_le, false_and, and_false, Bool.or_eq_true, or_true, true_or, false_or, or_false, y0, q_w6, zr_75_15 hR, p1, p2, eu]
    change zcl (d + 4) 112 [.ref 75, .int 4, .int 5] (mG (zup I 83 q 1) o at' nm cs u v row, J, R, 111) = _ at y1
    simp only [y1, zpr_121, zhd_121, zp121, zh121, zml_121, o_bad, o_push, o_iload, o_lload, o_aload, o_istore, o_astore, o_lstore, o_iinc, o_ii, o_dv, o_i, o_ll, o_lshl, o_lcmp, o_i2l, o_l2i, o_dup, o_dup2, o_pop, o_goto, o_if, o_ic, o_sw, o_ireturn, o_nreturn, o_lreturn, o_return, o_min, o_max, o_geti, o_getr, o_puti, o_putz, o_putr, o_gets, o_iald, o_lald, o_aald, o_iast, o_last, o_aast, o_alen, o_new, o_newa, o_multi, o_call, o_scall, o_chk, o_oinit, o_copyi, o_copyl, z_eq, z_ne, z_lt, z_ge, z_gt, z_le, z_ceq, z_cne, z_clt, z_cge, z_cgt, z_cle, z_rz, z_rb, z_rc, q_nz, zg_0, zg_s, zgk_s, zgh_n, zgh_s, zq_n, zq_br, zq_gd, zq_cl2, zqc_s, zq_rt, zq_sw, zq_st, zsws, zent, zpad, zla, zlg, zpop, zrv, zc1, zmk, zob_w, zaw_w, zar_w, zln_w, zld_w, zin_w, zcpg_w, znr_w, List.getElem?_cons_zero, List.getElem?_cons_succ, List.set_cons_zero, List.set_cons_succ, List.length_cons, List.length_nil, Nat.reduceLT, Nat.reduceLeDiff, Nat.reduceAdd, Nat.reduceSub, Nat.reduceMul, Nat.reduceEqDiff, Nat.reduceBEq, ↓reduceIte, q_10, q_01, q_00, q_m1, q_m2, q_m3, q_m4, q_m5, q_n1, q_n2, decide_eq_true_eq, decide_eq_false_iff_not, Bool.and_eq_true, Bool.true_and, Bool.and_true, Bool.decide_and, decide_true, decide_false, Bool.true_eq_false, Bool.false_eq_true, Option.toList_some, Option.toList_none, List.cons_append, List.nil_append, true_and, and_true, and_self, not_true_eq_false, not_false_eq_true, forall_const, false_implies, implies_true, Nat.le_refl, ne_eq, Bool.not_eq_true, eq_self, zshA, zb_rz, zb_ne, zb_eq, qem, true_implies, Nat.zero_le, false_and, and_false, Bool.or_eq_true, or_true, true_or, false_or, or_false]
    exact (if_pos (kb_z _)).mpr rfl
  by_cases h103 : kNx (I 81) N at' = 103
  · have y1 := sp_112 (d := d) (J := J) (nm := nm) (at' := at') (p := 9) (n := 4) (w := (kWs 2).take 4) (hH' 2) (by decide) (by decide) ha (fun z hz => by rw [eL]; revert z; decide) (by decide)
    rw [eT, show (kWs 2).take 4 ++ [32] = kWs 2 from rfl] at y1
    rw [h103] at y0
    rw [h103, show kCw 103 = 2 by decide]
    refine zcl_of (Nat.le_of_ble_eq_true rfl) (zg_wp 60 _ ?_)
    simp only [zpr_121, zhd_121, zp121, zh121, zml_121, o_bad, o_push, o_iload, o_lload, o_aload, o_istore, o_astore, o_lstore, o_iinc, o_ii, o_dv, o_i, o_ll, o_lshl, o_lcmp, o_i2l, o_l2i, o_dup, o_dup2, o_pop, o_goto, o_if, o_ic, o_sw, o_ireturn, o_nreturn, o_lreturn, o_return, o_min, o_max, o_geti, o_getr, o_puti, o_putz, o_putr, o_gets, o_iald, o_lald, o_aald, o_iast, o_last, o_aast, o_alen, o_new, o_newa, o_multi, o_call, o_scall, o_chk, o_oinit, o_copyi, o_copyl, z_eq, z_ne, z_lt, z_ge, z_gt, z_le, z_ceq, z_cne, z_clt, z_cge, z_cgt, z_cle, z_rz, z_rb, z_rc, q_nz, zg_0, zg_s, zgk_s, zgh_n, zgh_s, zq_n, zq_br, zq_gd, zq_cl2, zqc_s, zq_rt, zq_sw, zq_st, zsws, zent, zpad, zla, zlg, zpop, zrv, zc1, zmk, zob_w, zaw_w, zar_w, zln_w, zld_w, zin_w, zcpg_w, znr_w, List.getElem?_cons_zero, List.getElem?_cons_succ, List.set_cons_zero, List.set_cons_succ, List.length_cons, List.length_nil, Nat.reduceLT, Nat.reduceLeDiff, Nat.reduceAdd, Nat.reduceSub, Nat.reduceMul, Nat.reduceEqDiff, Nat.reduceBEq, ↓reduceIte, q_10, q_01, q_00, q_m1, q_m2, q_m3, q_m4, q_m5, q_n1, q_n2, decide_eq_true_eq, decide_eq_false_iff_not, Bool.and_eq_true, Bool.true_and, Bool.and_true, Bool.decide_and, decide_true, decide_false, Bool.true_eq_false, Bool.false_eq_true, Option.toList_some, Option.toList_none, List.cons_append, List.nil_append, true_and, and_true, and_self, not_true_eq_false, not_false_eq_true, forall_const, false_implies, implies_true, Nat.le_refl, ne_eq, Bool.not_eq_true, eq_self, zshA, zb_rz, zb_ne, zb_eq, qem, true_implies, Nat.zero_le, false_and, and_false, Bool.or_eq_true, or_true, true_or, false_or, or_false, y0, q_w6, zr_75_15 hR, p1, p2, eu]
    change zcl (d + 4) 112 [.ref 75, .int 9, .int 4] (mG (zup I 83 q 2) o at' nm cs u v row, J, R, 111) = _ at y1
    simp only [y1, zpr_121, zhd_121, zp121, zh121, zml_121, o_bad, o_push, o_iload, o_lload, o_aload, o_istore, o_astore, o_lstore, o_iinc, o_ii, o_dv, o_i, o_ll, o_lshl, o_lcmp, o_i2l, o_l2i, o_dup, o_dup2, o_pop, o_goto, o_if, o_ic, o_sw, o_ireturn, o_nreturn, o_lreturn, o_return, o_min, o_max, o_geti, o_getr, o_puti, o_putz, o_putr, o_gets, o_iald, o_lald, o_aald, o_iast, o_last, o_aast, o_alen, o_new, o_newa, o_multi, o_call, o_scall, o_chk, o_oinit, o_copyi, o_copyl, z_eq, z_ne, z_lt, z_ge, z_gt, z_le, z_ceq, z_cne, z_clt, z_cge, z_cgt, z_cle, z_rz, z_rb, z_rc, q_nz, zg_0, zg_s, zgk_s, zgh_n, zgh_s, zq_n, zq_br, zq_gd, zq_cl2, zqc_s, zq_rt, zq_sw, zq_st, zsws, zent, zpad, zla, zlg, zpop, zrv, zc1, zmk, zob_w, zaw_w, zar_w, zln_w, zld_w, zin_w, zcpg_w, znr_w, List.getElem?_cons_zero, List.getElem?_cons_succ, List.set_cons_zero, List.set_cons_succ, List.length_cons, List.length_nil, Nat.reduceLT, Nat.reduceLeDiff, Nat.reduceAdd, Nat.reduceSub, Nat.reduceMul, Nat.reduceEqDiff, Nat.reduceBEq, ↓reduceIte, q_10, q_01, q_00, q_m1, q_m2, q_m3, q_m4, q_m5, q_n1, q_n2, decide_eq_true_eq, decide_eq_false_iff_not, Bool.and_eq_true, Bool.true_and, Bool.and_true, Bool.decide_and, decide_true, decide_false, Bool.true_eq_false, Bool.false_eq_true, Option.toList_some, Option.toList_none, List.cons_append, List.nil_append, true_and, and_true, and_self, not_true_eq_false, not_false_eq_true, forall_const, false_implies, implies_true, Nat.le_refl, ne_eq, Bool.not_eq_true, eq_self, zshA, zb_rz, zb_ne, zb_eq, qem, true_implies, Nat.zero_le, false_and, and_false, Bool.or_eq_true, or_true, true_or, false_or, or_false]
    exact (if_pos (kb_z _)).mpr rfl
  by_cases h108 : kNx (I 81) N at' = 108
  · have y1 := sp_112 (d := d) (J := J) (nm := nm) (at' := at') (p := 13) (n := 5) (w := (kWs 3).take 5) (hH' 3) (by decide) (by decide) ha (fun z hz => by rw [eL]; revert z; decide) (by decide)
    rw [eT, show (kWs 3).take 5 ++ [32] = kWs 3 from rfl] at y1
    rw [h108] at y0
    rw [h108, show kCw 108 = 3 by decide]
    refine zcl_of (Nat.le_of_ble_eq_true rfl) (zg_wp 60 _ ?_)
    simp only [zpr_121, zhd_121, zp121, zh121, zml_121, o_bad, o_push, o_iload, o_lload, o_aload, o_istore, o_astore, o_lstore, o_iinc, o_ii, o_dv, o_i, o_ll, o_lshl, o_lcmp, o_i2l, o_l2i, o_dup, o_dup2, o_pop, o_goto, o_if, o_ic, o_sw, o_ireturn, o_nreturn, o_lreturn, o_return, o_min, o_max, o_geti, o_getr, o_puti, o_putz, o_putr, o_gets, o_iald, o_lald, o_aald, o_iast, o_last, o_aast, o_alen, o_new, o_newa, o_multi, o_call, o_scall, o_chk, o_oinit, o_copyi, o_copyl, z_eq, z_ne, z_lt, z_ge, z_gt, z_le, z_ceq, z_cne, z_clt, z_cge, z_cgt, z_cle, z_rz, z_rb, z_rc, q_nz, zg_0, zg_s, zgk_s, zgh_n, zgh_s, zq_n, zq_br, zq_gd, zq_cl2, zqc_s, zq_rt, zq_sw, zq_st, zsws, zent, zpad, zla, zlg, zpop, zrv, zc1, zmk, zob_w, zaw_w, zar_w, zln_w, zld_w, zin_w, zcpg_w, znr_w, List.getElem?_cons_zero, List.getElem?_cons_succ, List.set_cons_zero, List.set_cons_succ, List.length_cons, List.length_nil, Nat.reduceLT, Nat.reduceLeDiff, Nat.reduceAdd, Nat.reduceSub, Nat.reduceMul, Nat.reduceEqDiff, Nat.reduceBEq, ↓reduceIte, q_10, q_01, q_00, q_m1, q_m2, q_m3, q_m4, q_m5, q_n1, q_n2, decide_eq_true_eq, decide_eq_false_iff_not, Bool.and_eq_true, Bool.true_and, Bool.and_true, Bool.decide_and, decide_true, decide_false, Bool.true_eq_false, Bool.false_eq_true, Option.toList_some, Option.toList_none, List.cons_append, List.nil_append, true_and, and_true, and_self, not_true_eq_false, not_false_eq_true, forall_const, false_implies, implies_true, Nat.le_refl, ne_eq, Bool.not_eq_true, eq_self, zshA, zb_rz, zb_ne, zb_eq, qem, true_implies, Nat.zero_le, false_and, and_false, Bool.or_eq_true, or_true, true_or, false_or, or_false, y0, q_w6, zr_75_15 hR, p1, p2, eu]
    change zcl (d + 4) 112 [.ref 75, .int 13, .int 5] (mG (zup I 83 q 3) o at' nm cs u v row, J, R, 111) = _ at y1
    simp only [y1, zpr_121, zhd_121, zp121, zh121, zml_121, o_bad, o_push, o_iload, o_lload, o_aload, o_istore, o_astore, o_lstore, o_iinc, o_ii, o_dv, o_i, o_ll, o_lshl, o_lcmp, o_i2l, o_l2i, o_dup, o_dup2, o_pop, o_goto, o_if, o_ic, o_sw, o_ireturn, o_nreturn, o_lreturn, o_return, o_min, o_max, o_geti, o_getr, o_puti, o_putz, o_putr, o_gets, o_iald, o_lald, o_aald, o_iast, o_last, o_aast, o_alen, o_new, o_newa, o_multi, o_call, o_scall, o_chk, o_oinit, o_copyi, o_copyl, z_eq, z_ne, z_lt, z_ge, z_gt, z_le, z_ceq, z_cne, z_clt, z_cge, z_cgt, z_cle, z_rz, z_rb, z_rc, q_nz, zg_0, zg_s, zgk_s, zgh_n, zgh_s, zq_n, zq_br, zq_gd, zq_cl2, zqc_s, zq_rt, zq_sw, zq_st, zsws, zent, zpad, zla, zlg, zpop, zrv, zc1, zmk, zob_w, zaw_w, zar_w, zln_w, zld_w, zin_w, zcpg_w, znr_w, List.getElem?_cons_zero, List.getElem?_cons_succ, List.set_cons_zero, List.set_cons_succ, List.length_cons, List.length_nil, Nat.reduceLT, Nat.reduceLeDiff, Nat.reduceAdd, Nat.reduceSub, Nat.reduceMul, Nat.reduceEqDiff, Nat.reduceBEq, ↓reduceIte, q_10, q_01, q_00, q_m1, q_m2, q_m3, q_m4, q_m5, q_n1, q_n2, decide_eq_true_eq, decide_eq_false_iff_not, Bool.and_eq_true, Bool.true_and, Bool.and_true, Bool.decide_and, decide_true, decide_false, Bool.true_eq_false, Bool.false_eq_true, Option.toList_some, Option.toList_none, List.cons_append, List.nil_append, true_and, and_true, and_self, not_true_eq_false, not_false_eq_true, forall_const, false_implies, implies_true, Nat.le_refl, ne_eq, Bool.not_eq_true, eq_self, zshA, zb_rz, zb_ne, zb_eq, qem, true_implies, Nat.zero_le, false_and, and_false, Bool.or_eq_true, or_true, true_or, false_or, or_false]
    exact (if_pos (kb_z _)).mpr rfl
  by_cases h104 : kNx (I 81) N at' = 104
  · have y1 := sp_111 (d := d + 1) (J := J) (nm := nm) (at' := at') (p := 18) (n := 4) (w := kWs 4) (hH' 4) (by decide) (by decide) ha (fun z hz => by rw [eL]; revert z; decide) (by decide)
    rw [eT] at y1
    rw [h104] at y0
    rw [h104, show kCw 104 = 4 by decide]
    refine zcl_of (Nat.le_of_ble_eq_true rfl) (zg_wp 60 _ ?_)
    simp only [zpr_121, zhd_121, zp121, zh121, zml_121, o_bad, o_push, o_iload, o_lload, o_aload, o_istore, o_astore, o_lstore, o_iinc, o_ii, o_dv, o_i, o_ll, o_lshl, o_lcmp, o_i2l, o_l2i, o_dup, o_dup2, o_pop, o_goto, o_if, o_ic, o_sw, o_ireturn, o_nreturn, o_lreturn, o_return, o_min, o_max, o_geti, o_getr, o_puti, o_putz, o_putr, o_gets, o_iald, o_lald, o_aald, o_iast, o_last, o_aast, o_alen, o_new, o_newa, o_multi, o_call, o_scall, o_chk, o_oinit, o_copyi, o_copyl, z_eq, z_ne, z_lt, z_ge, z_gt, z_le, z_ceq, z_cne, z_clt, z_cge, z_cgt, z_cle, z_rz, z_rb, z_rc, q_nz, zg_0, zg_s, zgk_s, zgh_n, zgh_s, zq_n, zq_br, zq_gd, zq_cl2, zqc_s, zq_rt, zq_sw, zq_st, zsws, zent, zpad, zla, zlg, zpop, zrv, zc1, zmk, zob_w, zaw_w, zar_w, zln_w, zld_w, zin_w, zcpg_w, znr_w, List.getElem?_cons_zero, List.getElem?_cons_succ, List.set_cons_zero, List.set_cons_succ, List.length_cons, List.length_nil, Nat.reduceLT, Nat.reduceLeDiff, Nat.reduceAdd, Nat.reduceSub, Nat.reduceMul, Nat.reduceEqDiff, Nat.reduceBEq, ↓reduceIte, q_10, q_01, q_00, q_m1, q_m2, q_m3, q_m4, q_m5, q_n1, q_n2, decide_eq_true_eq, decide_eq_false_iff_not, Bool.and_eq_true, Bool.true_and, Bool.and_true, Bool.decide_and, decide_true, decide_false, Bool.true_eq_false, Bool.false_eq_true, Option.toList_some, Option.toList_none, List.cons_append, List.nil_append, true_and, and_true, and_self, not_true_eq_false, not_false_eq_true, forall_const, false_implies, implies_true, Nat.le_refl, ne_eq, Bool.not_eq_true, eq_self, zshA, zb_rz, zb_ne, zb_eq, qem, true_implies, Nat.zero_le, false_and, and_false, Bool.or_eq_true, or_true, true_or, false_or, or_false, y0, q_w6, zr_75_15 hR, p1, p2, eu]
    change zcl (d + 4) 111 [.ref 75, .int 18, .int 4] (mG (zup I 83 q 4) o at' nm cs u v row, J, R, 111) = _ at y1
    simp only [y1, zpr_121, zhd_121, zp121, zh121, zml_121, o_bad, o_push, o_iload, o_lload, o_aload, o_istore, o_astore, o_lstore, o_iinc, o_ii, o_dv, o_i, o_ll, o_lshl, o_lcmp, o_i2l, o_l2i, o_dup, o_dup2, o_pop, o_goto, o_if, o_ic, o_sw, o_ireturn, o_nreturn, o_lreturn, o_return, o_min, o_max, o_geti, o_getr, o_puti, o_putz, o_putr, o_gets, o_iald, o_lald, o_aald, o_iast, o_last, o_aast, o_alen, o_new, o_newa, o_multi, o_call, o_scall, o_chk, o_oinit, o_copyi, o_copyl, z_eq, z_ne, z_lt, z_ge, z_gt, z_le, z_ceq, z_cne, z_clt, z_cge, z_cgt, z_cle, z_rz, z_rb, z_rc, q_nz, zg_0, zg_s, zgk_s, zgh_n, zgh_s, zq_n, zq_br, zq_gd, zq_cl2, zqc_s, zq_rt, zq_sw, zq_st, zsws, zent, zpad, zla, zlg, zpop, zrv, zc1, zmk, zob_w, zaw_w, zar_w, zln_w, zld_w, zin_w, zcpg_w, znr_w, List.getElem?_cons_zero, List.getElem?_cons_succ, List.set_cons_zero, List.set_cons_succ, List.length_cons, List.length_nil, Nat.reduceLT, Nat.reduceLeDiff, Nat.reduceAdd, Nat.reduceSub, Nat.reduceMul, Nat.reduceEqDiff, Nat.reduceBEq, ↓reduceIte, q_10, q_01, q_00, q_m1, q_m2, q_m3, q_m4, q_m5, q_n1, q_n2, decide_eq_true_eq, decide_eq_false_iff_not, Bool.and_eq_true, Bool.true_and, Bool.and_true, Bool.decide_and, decide_true, decide_false, Bool.true_eq_false, Bool.false_eq_true, Option.toList_some, Option.toList_none, List.cons_append, List.nil_append, true_and, and_true, and_self, not_true_eq_false, not_false_eq_true, forall_const, false_implies, implies_true, Nat.le_refl, ne_eq, Bool.not_eq_true, eq_self, zshA, zb_rz, zb_ne, zb_eq, qem, true_implies, Nat.zero_le, false_and, and_false, Bool.or_eq_true, or_true, true_or, false_or, or_false]
    exact (if_pos (kb_z _)).mpr rfl
  have e5 : kCw (kNx (I 81) N at') = 5 := by
    unfold kCw
    rw [if_neg h111, if_neg h117, if_neg h103, if_neg h108, if_neg h104]
  have y1 := sp_111 (d := d + 1) (J := J) (nm := nm) (at' := at') (p := 22) (n := 3) (w := kWs 5) (hH' 5) (by decide) (by decide) ha (fun z hz => by rw [eL]; revert z; decide) (by decide)
  rw [eT] at y1
  rw [e5]
  refine zcl_of (Nat.le_of_ble_eq_true rfl) (zg_wp 60 _ ?_)
  simp only [zpr_121, zhd_121, zp121, zh121, zml_121, o_bad, o_push, o_iload, o_lload, o_aload, o_istore, o_astore, o_lstore, o_iinc, o_ii, o_dv, o_i, o_ll, o_lshl, o_lcmp, o_i2l, o_l2i, o_dup, o_dup2, o_pop, o_goto, o_if, o_ic, o_sw, o_ireturn, o_nreturn, o_lreturn, o_return, o_min, o_max, o_geti, o_getr, o_puti, o_putz, o_putr, o_gets, o_iald, o_lald, o_aald, o_iast, o_last, o_aast, o_alen, o_new, o_newa, o_multi, o_call, o_scall, o_chk, o_oinit, o_copyi, o_copyl, z_eq, z_ne, z_lt, z_ge, z_gt, z_le, z_ceq, z_cne, z_clt, z_cge, z_cgt, z_cle, z_rz, z_rb, z_rc, q_nz, zg_0, zg_s, zgk_s, zgh_n, zgh_s, zq_n, zq_br, zq_gd, zq_cl2, zqc_s, zq_rt, zq_sw, zq_st, zsws, zent, zpad, zla, zlg, zpop, zrv, zc1, zmk, zob_w, zaw_w, zar_w, zln_w, zld_w, zin_w, zcpg_w, znr_w, List.getElem?_cons_zero, List.getElem?_cons_succ, List.set_cons_zero, List.set_cons_succ, List.length_cons, List.length_nil, Nat.reduceLT, Nat.reduceLeDiff, Nat.reduceAdd, Nat.reduceSub, Nat.reduceMul, Nat.reduceEqDiff, Nat.reduceBEq, ↓reduceIte, q_10, q_01, q_00, q_m1, q_m2, q_m3, q_m4, q_m5, q_n1, q_n2, decide_eq_true_eq, decide_eq_false_iff_not, Bool.and_eq_true, Bool.true_and, Bool.and_true, Bool.decide_and, decide_true, decide_false, Bool.true_eq_false, Bool.false_eq_true, Option.toList_some, Option.toList_none, List.cons_append, List.nil_append, true_and, and_true, and_self, not_true_eq_false, not_false_eq_true, forall_const, false_implies, implies_true, Nat.le_refl, ne_eq, Bool.not_eq_true, eq_self, zshA, zb_rz, zb_ne, zb_eq, qem, true_implies, Nat.zero_le, false_and, and_false, Bool.or_eq_true, or_true, true_or, false_or, or_false, y0, h111, h117, h103, h108, h104, zr_75_15 hR, p1, p2, eu]
  change zcl (d + 4) 111 [.ref 75, .int 22, .int 3] (mG (zup I 83 q 5) o at' nm cs u v row, J, R, 111) = _ at y1
  simp only [y1, zpr_121, zhd_121, zp121, zh121, zml_121, o_bad, o_push, o_iload, o_lload, o_aload, o_istore, o_astore, o_lstore, o_iinc, o_ii, o_dv, o_i, o_ll, o_lshl, o_lcmp, o_i2l, o_l2i, o_dup, o_dup2, o_pop, o_goto, o_if, o_ic, o_sw, o_ireturn, o_nreturn, o_lreturn, o_return, o_min, o_max, o_geti, o_getr, o_puti, o_putz, o_putr, o_gets, o_iald, o_lald, o_aald, o_iast, o_last, o_aast, o_alen, o_new, o_newa, o_multi, o_call, o_scall, o_chk, o_oinit, o_copyi, o_copyl, z_eq, z_ne, z_lt, z_ge, z_gt, z_le, z_ceq, z_cne, z_clt, z_cge, z_cgt, z_cle, z_rz, z_rb, z_rc, q_nz, zg_0, zg_s, zgk_s, zgh_n, zgh_s, zq_n, zq_br, zq_gd, zq_cl2, zqc_s, zq_rt, zq_sw, zq_st, zsws, zent, zpad, zla, zlg, zpop, zrv, zc1, zmk, zob_w, zaw_w, zar_w, zln_w, zld_w, zin_w, zcpg_w, znr_w, List.getElem?_cons_zero, List.getElem?_cons_succ, List.set_cons_zero, List.set_cons_succ, List.length_cons, List.length_nil, Nat.reduceLT, Nat.reduceLeDiff, Nat.reduceAdd, Nat.reduceSub, Nat.reduceMul, Nat.reduceEqDiff, Nat.reduceBEq, ↓reduceIte, q_10, q_01, q_00, q_m1, q_m2, q_m3, q_m4, q_m5, q_n1, q_n2, decide_eq_true_eq, decide_eq_false_iff_not, Bool.and_eq_true, Bool.true_and, Bool.and_true, Bool.decide_and, decide_true, decide_false, Bool.true_eq_false, Bool.false_eq_true, Option.toList_some, Option.toList_none, List.cons_append, List.nil_append, true_and, and_true, and_self, not_true_eq_false, not_false_eq_true, forall_const, false_implies, implies_true, Nat.le_refl, ne_eq, Bool.not_eq_true, eq_self, zshA, zb_rz, zb_ne, zb_eq, qem, true_implies, Nat.zero_le, false_and, and_false, Bool.or_eq_true, or_true, true_or, false_or, or_false]
  exact (if_pos (kb_z _)).mpr rfl
end KM
