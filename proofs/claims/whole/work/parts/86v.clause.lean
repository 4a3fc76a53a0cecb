/-! ===== the class reads clauses ===== -/
/-- a clause: which word, its number, how many codes are behind it -/
abbrev kCs : Type := Nat × Int32 × Nat
def kCw (x : Int32) : Nat := if x = 111 then 0 else if x = 117 then 1 else if x = 103 then 2 else if x = 108 then 3 else if x = 104 then 4 else 5
def kWs (w : Nat) : List Int32 := if w = 0 then [111, 118, 101, 114, 32] else if w = 1 then [117, 110, 100, 101, 114, 32] else if w = 2 then [103, 105, 118, 101, 32] else if w = 3 then [108, 101, 97, 118, 101, 32] else if w = 4 then [104, 97, 108, 102] else [97, 108, 108]
/-- behind over, under: a number, a blank, what it is about -/
def kJg (T : Nat → Int32) (N at' : Nat) (cs : List kSy) : kSt := if (kNu T N at').1 < 0 then (false, (kNu T N at').2, cs) else if kNx T N (kNu T N at').2 = 32 then kR T N 202 (some (false, false)) 0 ((kNu T N at').2 + 1) cs else (false, (kNu T N at').2, cs)
/-- behind the word w -/
def kCv (T : Nat → Int32) (N w at' : Nat) (cs : List kSy) : kSt := if 4 ≤ w then (true, at', cs) else if 2 ≤ w then (if (kNu T N at').1 < 0 then (false, (kNu T N at').2, cs) else (true, (kNu T N at').2, cs)) else kJg T N at' cs
/-- a clause -/
def kC (T : Nat → Int32) (N at' : Nat) (cs : List kSy) : kSt × kCs := if (kWd T N (kWs (kCw (kNx T N at'))) at').1 = true then (kCv T N (kCw (kNx T N at')) (kWd T N (kWs (kCw (kNx T N at'))) at').2 cs, (kCw (kNx T N at'), (kNu T N (kWd T N (kWs (kCw (kNx T N at'))) at').2).1, (kCv T N (kCw (kNx T N at')) (kWd T N (kWs (kCw (kNx T N at'))) at').2 cs).2.2.length)) else ((false, (kWd T N (kWs (kCw (kNx T N at'))) at').2, cs), (kCw (kNx T N at'), 0, 0))
def kSj (js : List (Int32 × Nat)) (z : kCs) : List (Int32 × Nat) := if z.1 = 0 then js ++ [(z.2.1, z.2.2)] else if z.1 = 1 then js ++ [(-z.2.1, z.2.2)] else js
def kSG (g : Int32) (z : kCs) : Int32 := if z.1 = 2 then z.2.1 else g
def kSL (g : Int32) (z : kCs) : Int32 := if z.1 = 3 then z.2.1 else g
def kSH (g : Int32) (z : kCs) : Int32 := if z.1 = 4 then 1 else if z.1 = 5 then 0 else g
/-- all clauses: n may come -/
def kT (T : Nat → Int32) (N : Nat) : Nat → Nat → List kSy → List kCs → kSt × List kCs
  | 0, at', cs, L => ((false, at', cs), L)
  | n + 1, at', cs, L =>
    if (kC T N at' cs).1.1 = true then
      (if (kC T N at' cs).1.2.1 = N then ((true, N, (kC T N at' cs).1.2.2), L ++ [(kC T N at' cs).2])
       else if n = 0 then ((false, (kC T N at' cs).1.2.1, (kC T N at' cs).1.2.2), L)
       else if kNx T N (kC T N at' cs).1.2.1 = 59 then kT T N n ((kC T N at' cs).1.2.1 + 1) (kC T N at' cs).1.2.2 (L ++ [(kC T N at' cs).2])
       else ((false, (kC T N at' cs).1.2.1, (kC T N at' cs).1.2.2), L))
    else ((kC T N at' cs).1, L)
section KG
variable {T : Nat → Int32} {N : Nat}
theorem kWd_b : ∀ (w : List Int32) (at' : Nat), (∀ x ∈ w, ¬ (-1 = x)) → at' ≤ N → at' ≤ (kWd T N w at').2 ∧ (kWd T N w at').2 ≤ N ∧ ((kWd T N w at').1 = true → (kWd T N w at').2 = at' + w.length)
  | [], at', _, ha => ⟨Nat.le_refl _, ha, fun _ => rfl⟩
  | x :: w, at', hw, ha => by
    unfold kWd
    by_cases h : kNx T N at' = x
    · rw [if_pos h]
      have hl := kNx_lt h (hw x List.mem_cons_self)
      obtain ⟨a1, a2, a3⟩ := kWd_b w (at' + 1) (fun y hy => hw y (List.mem_cons_of_mem _ hy)) (by omega)
      exact ⟨by omega, a2, fun e => by rw [a3 e, List.length_cons]; omega⟩
    · rw [if_neg h]
      exact ⟨Nat.le_refl _, ha, fun e => nomatch e⟩
theorem kWs_1 : ∀ w, w < 6 → ∀ x ∈ kWs w, ¬ (-1 = x) := by decide
theorem kWs_l : ∀ w, w < 6 → 3 ≤ (kWs w).length := by decide
theorem kCw_b (x : Int32) : kCw x < 6 := by
  unfold kCw
  repeat' split
  all_goals decide
theorem kJg_b {at' : Nat} {cs : List kSy} (ha : at' ≤ N) : kGo N at' 0 cs (kJg T N at' cs) := by
  unfold kJg
  rcases kNu_b (T := T) (N := N) at' with ⟨e, _⟩ | ⟨m, hm, e, g1, g2⟩
  · rw [e, if_pos (show (-1 : Int32) < 0 by decide)]
    exact ⟨⟨Nat.le_refl _, ha, fun e => nomatch e⟩, [], (List.append_nil cs).symm, by show 0 + at' ≤ 0 + at'; omega⟩
  · rw [if_neg (by rw [e]; exact q_tnl (n := 0) (by omega) (by omega))]
    by_cases h : kNx T N (kNu T N at').2 = 32
    · have hl := kNx_lt h (by decide)
      rw [if_pos h]
      obtain ⟨⟨a1, a2, a3⟩, nw, a4, a5⟩ := kR_b (T := T) (N := N) 202 (some (false, false)) 0 ((kNu T N at').2 + 1) cs (by omega)
      have a6 : nw.length + ((kNu T N at').2 + 1) ≤ 0 + (kR T N 202 (some (false, false)) 0 ((kNu T N at').2 + 1) cs).2.1 := a5
      exact ⟨⟨by omega, a2, fun _ => by omega⟩, nw, a4, by omega⟩
    · rw [if_neg h]
      exact ⟨⟨by dsimp only; omega, g2, fun e => nomatch e⟩, [], (List.append_nil cs).symm, by show 0 + at' ≤ 0 + _; dsimp only; omega⟩
theorem kCv_b {at' w : Nat} {cs : List kSy} (ha : at' ≤ N) : (at' ≤ (kCv T N w at' cs).2.1 ∧ (kCv T N w at' cs).2.1 ≤ N) ∧ ∃ nw, (kCv T N w at' cs).2.2 = cs ++ nw ∧ nw.length + at' ≤ (kCv T N w at' cs).2.1 := by
  unfold kCv
  by_cases h4 : 4 ≤ w
  · rw [if_pos h4]
    exact ⟨⟨Nat.le_refl _, ha⟩, [], (List.append_nil cs).symm, by show 0 + at' ≤ at'; omega⟩
  rw [if_neg h4]
  by_cases h2 : 2 ≤ w
  · rw [if_pos h2]
    have z : at' ≤ (kNu T N at').2 ∧ (kNu T N at').2 ≤ N := by
      rcases kNu_b (T := T) (N := N) at' with ⟨e, _⟩ | ⟨m, hm, e, g1, g2⟩
      · rw [e]
        exact ⟨Nat.le_refl _, ha⟩
      · exact ⟨by omega, g2⟩
    by_cases h : (kNu T N at').1 < 0
    · rw [if_pos h]
      exact ⟨z, [], (List.append_nil cs).symm, by show 0 + at' ≤ _; dsimp only; omega⟩
    · rw [if_neg h]
      exact ⟨z, [], (List.append_nil cs).symm, by show 0 + at' ≤ _; dsimp only; omega⟩
  · rw [if_neg h2]
    obtain ⟨⟨a1, a2, a3⟩, nw, a4, a5⟩ := kJg_b (T := T) (cs := cs) ha
    exact ⟨⟨a1, a2⟩, nw, a4, by omega⟩
/-- a clause goes on in the text; its codes come of bytes -/
theorem kC_b {at' : Nat} {cs : List kSy} (ha : at' ≤ N) : (at' ≤ (kC T N at' cs).1.2.1 ∧ (kC T N at' cs).1.2.1 ≤ N ∧ ((kC T N at' cs).1.1 = true → at' < (kC T N at' cs).1.2.1)) ∧ ∃ nw, (kC T N at' cs).1.2.2 = cs ++ nw ∧ nw.length + at' ≤ (kC T N at' cs).1.2.1 := by
  unfold kC
  have hw := kCw_b (kNx T N at')
  obtain ⟨a1, a2, a3⟩ := kWd_b (T := T) (kWs (kCw (kNx T N at'))) at' (kWs_1 _ hw) ha
  have hl := kWs_l _ hw
  by_cases h : (kWd T N (kWs (kCw (kNx T N at'))) at').1 = true
  · rw [if_pos h]
    obtain ⟨⟨b1, b2⟩, nw, b3, b4⟩ := kCv_b (T := T) (w := kCw (kNx T N at')) (cs := cs) a2
    have a4 := a3 h
    exact ⟨⟨by dsimp only; omega, b2, fun _ => by dsimp only; omega⟩, nw, b3, by dsimp only; omega⟩
  · rw [if_neg h]
    exact ⟨⟨a1, a2, fun e => nomatch e⟩, [], (List.append_nil cs).symm, by show 0 + at' ≤ _; dsimp only; omega⟩
end KG
section KC
variable {d : Nat} {I : zI} {J : zJ} {R : zR} {a b c K N at' : Nat} {cs : List kSy} {js : List (Int32 × Nat)} {g l h : Int32}
set_option maxRecDepth 40000 in
theorem sp_21 (hH : kH R I a b c K N) (ha : at' ≤ N) (hc : cs.length ≤ at') (hj : js.length < 10) (dir : Int32) : zcl (d + 24) 21 [.ref 61, .int dir] (kX K I at' cs js g l h, J, R, 111) = some (some (.int (kb (kJg (I 62) N at' cs).1)), (kX K I (kJg (I 62) N at' cs).2.1 (kJg (I 62) N at' cs).2.2 (if (kJg (I 62) N at' cs).1 = true then js ++ [(dir * (kNu (I 62) N at').1, (kJg (I 62) N at' cs).2.2.length)] else js) g l h, J, R, 111)) := by
  obtain ⟨hR, hK, hN, h100, hT⟩ := id hH
  obtain ⟨⟨k1, k2, k3⟩, -⟩ := kF_of hR hK
  have y1 := sp_24 (d := d + 22) (J := J) (cs := cs) (js := js) (g := g) (l := l) (h := h) hH ha
  obtain ⟨⟨a1, a2, a3⟩, nw, a4, a5⟩ := kJg_b (T := I 62) (cs := cs) ha
  refine zcl_of (Nat.le_of_ble_eq_true rfl) (zg_wp 60 _ ?_)
  rcases kNu_b (T := I 62) (N := N) at' with ⟨e, _⟩ | ⟨m, hm, e, g1, g2⟩
  · have eJ : kJg (I 62) N at' cs = (false, at', cs) := by unfold kJg; rw [e, if_pos (show (-1 : Int32) < 0 by decide)]
    rw [e] at y1
    rw [eJ]
    simp only [zpr_21, zhd_21, zp21, zh21, zml_21, o_bad, o_push, o_iload, o_lload, o_aload, o_istore, o_astore, o_lstore, o_iinc, o_ii, o_dv, o_i, o_ll, o_lshl, o_lcmp, o_i2l, o_l2i, o_dup, o_dup2, o_pop, o_goto, o_if, o_ic, o_sw, o_ireturn, o_nreturn, o_lreturn, o_return, o_min, o_max, o_geti, o_getr, o_puti, o_putz, o_putr, o_gets, o_iald, o_lald, o_aald, o_iast, o_last, o_aast, o_alen, o_new, o_newa, o_multi, o_call, o_scall, o_chk, o_oinit, o_copyi, o_copyl, z_eq, z_ne, z_lt, z_ge, z_gt, z_le, z_ceq, z_cne, z_clt, z_cge, z_cgt, z_cle, z_rz, z_rb, z_rc, q_nz, zg_0, zg_s, zgk_s, zgh_n, zgh_s, zq_n, zq_br, zq_gd, zq_cl2, zqc_s, zq_rt, zq_sw, zq_st, zsws, zent, zpad, zla, zlg, zpop, zrv, zc1, zmk, zob_w, zaw_w, zar_w, zln_w, zld_w, zin_w, zcpg_w, znr_w, List.getElem?_cons_zero, List.getElem?_cons_succ, List.set_cons_zero, List.set_cons_succ, List.length_cons, List.length_nil, Nat.reduceLT, Nat.reduceLeDiff, Nat.reduceAdd, Nat.reduceSub, Nat.reduceMul, Nat.reduceEqDiff, Nat.reduceBEq, ↓reduceIte, q_10, q_01, q_00, q_m1, q_m2, q_m3, q_m4, q_m5, q_n1, q_n2, decide_eq_true_eq, decide_eq_false_iff_not, Bool.and_eq_true, Bool.true_and, Bool.and_true, Bool.decide_and, decide_true, decide_false, Bool.true_eq_false, Bool.false_eq_true, Option.toList_some, Option.toList_none, List.cons_append, List.nil_append, true_and, and_true, and_self, not_true_eq_false, not_false_eq_true, forall_const, false_implies, implies_true, Nat.le_refl, ne_eq, Bool.not_eq_true, eq_self, zshA, zb_rz, zb_ne, zb_eq, qem, true_implies, Nat.zero_le, false_and, and_false, Bool.or_eq_true, or_true, true_or, false_or, or_false, y1, q_ge1, kb_f]
  · have h0 : ¬ (kNu (I 62) N at').1 < 0 := by rw [e]; exact q_tnl (n := 0) (by omega) (by omega)
    by_cases h1 : kNx (I 62) N (kNu (I 62) N at').2 = 32
    · have hl := kNx_lt h1 (by decide)
      have y2 := sp_25t (d := d + 22) (J := J) (cs := cs) (js := js) (g := g) (l := l) (h := h) hH (by decide) h1
      have eJ : kJg (I 62) N at' cs = kR (I 62) N 202 (some (false, false)) 0 ((kNu (I 62) N at').2 + 1) cs := by unfold kJg; rw [if_neg h0, if_pos h1]
      have y3 : zcl (d + 23) 22 [.ref 61, .int 0] (kX K I ((kNu (I 62) N at').2 + 1) cs js g l h, J, R, 111) = some (some (.int (kb (kJg (I 62) N at' cs).1)), (kX K I (kJg (I 62) N at' cs).2.1 (kJg (I 62) N at' cs).2.2 js g l h, J, R, 111)) := by
        rw [eJ]
        refine zcl_of (Nat.le_of_ble_eq_true rfl) (zg_wp 40 _ ?_)
        simp only [zpr_22, zhd_22, zp22, zh22, zml_22, o_bad, o_push, o_iload, o_lload, o_aload, o_istore, o_astore, o_lstore, o_iinc, o_ii, o_dv, o_i, o_ll, o_lshl, o_lcmp, o_i2l, o_l2i, o_dup, o_dup2, o_pop, o_goto, o_if, o_ic, o_sw, o_ireturn, o_nreturn, o_lreturn, o_return, o_min, o_max, o_geti, o_getr, o_puti, o_putz, o_putr, o_gets, o_iald, o_lald, o_aald, o_iast, o_last, o_aast, o_alen, o_new, o_newa, o_multi, o_call, o_scall, o_chk, o_oinit, o_copyi, o_copyl, z_eq, z_ne, z_lt, z_ge, z_gt, z_le, z_ceq, z_cne, z_clt, z_cge, z_cgt, z_cle, z_rz, z_rb, z_rc, q_nz, zg_0, zg_s, zgk_s, zgh_n, zgh_s, zq_n, zq_br, zq_gd, zq_cl2, zqc_s, zq_rt, zq_sw, zq_st, zsws, zent, zpad, zla, zlg, zpop, zrv, zc1, zmk, zob_w, zaw_w, zar_w, zln_w, zld_w, zin_w, zcpg_w, znr_w, List.getElem?_cons_zero, List.getElem?_cons_succ, List.set_cons_zero, List.set_cons_succ, List.length_cons, List.length_nil, Nat.reduceLT, Nat.reduceLeDiff, Nat.reduceAdd, Nat.reduceSub, Nat.reduceMul, Nat.reduceEqDiff, Nat.reduceBEq, ↓reduceIte, q_10, q_01, q_00, q_m1, q_m2, q_m3, q_m4, q_m5, q_n1, q_n2, decide_eq_true_eq, decide_eq_false_iff_not, Bool.and_eq_true, Bool.true_and, Bool.and_true, Bool.decide_and, decide_true, decide_false, Bool.true_eq_false, Bool.false_eq_true, Option.toList_some, Option.toList_none, List.cons_append, List.nil_append, true_and, and_true, and_self, not_true_eq_false, not_false_eq_true, forall_const, false_implies, implies_true, Nat.le_refl, ne_eq, Bool.not_eq_true, eq_self, zshA, zb_rz, zb_ne, zb_eq, qem, true_implies, Nat.zero_le, false_and, and_false, Bool.or_eq_true, or_true, true_or, false_or, or_false]
        exact (sp_kR hH 202).2 0 ((kNu (I 62) N at').2 + 1) cs (d + 22) false false 0 (by omega) (by omega) (by omega) (by omega) (by show cs.length + 0 + 0 ≤ _; omega) (.inl rfl) (by omega)
      generalize kJg (I 62) N at' cs = X at *
      obtain ⟨X1, X2, X3⟩ := X
      dsimp only at y3 a2 a4 a5
      cases X1
      · simp only [zpr_21, zhd_21, zp21, zh21, zml_21, o_bad, o_push, o_iload, o_lload, o_aload, o_istore, o_astore, o_lstore, o_iinc, o_ii, o_dv, o_i, o_ll, o_lshl, o_lcmp, o_i2l, o_l2i, o_dup, o_dup2, o_pop, o_goto, o_if, o_ic, o_sw, o_ireturn, o_nreturn, o_lreturn, o_return, o_min, o_max, o_geti, o_getr, o_puti, o_putz, o_putr, o_gets, o_iald, o_lald, o_aald, o_iast, o_last, o_aast, o_alen, o_new, o_newa, o_multi, o_call, o_scall, o_chk, o_oinit, o_copyi, o_copyl, z_eq, z_ne, z_lt, z_ge, z_gt, z_le, z_ceq, z_cne, z_clt, z_cge, z_cgt, z_cle, z_rz, z_rb, z_rc, q_nz, zg_0, zg_s, zgk_s, zgh_n, zgh_s, zq_n, zq_br, zq_gd, zq_cl2, zqc_s, zq_rt, zq_sw, zq_st, zsws, zent, zpad, zla, zlg, zpop, zrv, zc1, zmk, zob_w, zaw_w, zar_w, zln_w, zld_w, zin_w, zcpg_w, znr_w, List.getElem?_cons_zero, List.getElem?_cons_succ, List.set_cons_zero, List.set_cons_succ, List.length_cons, List.length_nil, Nat.reduceLT, Nat.reduceLeDiff, Nat.reduceAdd, Nat.reduceSub, Nat.reduceMul, Nat.reduceEqDiff, Nat.reduceBEq, ↓reduceIte, q_10, q_01, q_00, q_m1, q_m2, q_m3, q_m4, q_m5, q_n1, q_n2, decide_eq_true_eq, decide_eq_false_iff_not, Bool.and_eq_true, Bool.true_and, Bool.and_true, Bool.decide_and, decide_true, decide_false, Bool.true_eq_false, Bool.false_eq_true, Option.toList_some, Option.toList_none, List.cons_append, List.nil_append, true_and, and_true, and_self, not_true_eq_false, not_false_eq_true, forall_const, false_implies, implies_true, Nat.le_refl, ne_eq, Bool.not_eq_true, eq_self, zshA, zb_rz, zb_ne, zb_eq, qem, true_implies, Nat.zero_le, false_and, and_false, Bool.or_eq_true, or_true, true_or, false_or, or_false, y1, y2, y3, h0, kb_f]
      · have y4 := sp_9 (d := d + 22) (J := J) (at' := X2) (cs := X3) (js := js) (g := g) (l := l) (h := h) hH (dir * (kNu (I 62) N at').1) hj (by rw [a4, List.length_append]; omega)
        simp only [zpr_21, zhd_21, zp21, zh21, zml_21, o_bad, o_push, o_iload, o_lload, o_aload, o_istore, o_astore, o_lstore, o_iinc, o_ii, o_dv, o_i, o_ll, o_lshl, o_lcmp, o_i2l, o_l2i, o_dup, o_dup2, o_pop, o_goto, o_if, o_ic, o_sw, o_ireturn, o_nreturn, o_lreturn, o_return, o_min, o_max, o_geti, o_getr, o_puti, o_putz, o_putr, o_gets, o_iald, o_lald, o_aald, o_iast, o_last, o_aast, o_alen, o_new, o_newa, o_multi, o_call, o_scall, o_chk, o_oinit, o_copyi, o_copyl, z_eq, z_ne, z_lt, z_ge, z_gt, z_le, z_ceq, z_cne, z_clt, z_cge, z_cgt, z_cle, z_rz, z_rb, z_rc, q_nz, zg_0, zg_s, zgk_s, zgh_n, zgh_s, zq_n, zq_br, zq_gd, zq_cl2, zqc_s, zq_rt, zq_sw, zq_st, zsws, zent, zpad, zla, zlg, zpop, zrv, zc1, zmk, zob_w, zaw_w, zar_w, zln_w, zld_w, zin_w, zcpg_w, znr_w, List.getElem?_cons_zero, List.getElem?_cons_succ, List.set_cons_zero, List.set_cons_succ, List.length_cons, List.length_nil, Nat.reduceLT, Nat.reduceLeDiff, Nat.reduceAdd, Nat.reduceSub, Nat.reduceMul, Nat.reduceEqDiff, Nat.reduceBEq, ↓reduceIte, q_10, q_01, q_00, q_m1, q_m2, q_m3, q_m4, q_m5, q_n1, q_n2, decide_eq_true_eq, decide_eq_false_iff_not, Bool.and_eq_true, Bool.true_and, Bool.and_true, Bool.decide_and, decide_true, decide_false, Bool.true_eq_false, Bool.false_eq_true, Option.toList_some, Option.toList_none, List.cons_append, List.nil_append, true_and, and_true, and_self, not_true_eq_false, not_false_eq_true, forall_const, false_implies, implies_true, Nat.le_refl, ne_eq, Bool.not_eq_true, eq_self, zshA, zb_rz, zb_ne, zb_eq, qem, true_implies, Nat.zero_le, false_and, and_false, Bool.or_eq_true, or_true, true_or, false_or, or_false, y1, y2, y3, y4, h0, hR.2.2.2.2, k1, k2, k3, kb_t]
    · have y2 := sp_25f (d := d + 22) (J := J) (cs := cs) (js := js) (g := g) (l := l) (h := h) hH g2 h1
      have eJ : kJg (I 62) N at' cs = (false, (kNu (I 62) N at').2, cs) := by unfold kJg; rw [if_neg h0, if_neg h1]
      rw [eJ]
      simp only [zpr_21, zhd_21, zp21, zh21, zml_21, o_bad, o_push, o_iload, o_lload, o_aload, o_istore, o_astore, o_lstore, o_iinc, o_ii, o_dv, o_i, o_ll, o_lshl, o_lcmp, o_i2l, o_l2i, o_dup, o_dup2, o_pop, o_goto, o_if, o_ic, o_sw, o_ireturn, o_nreturn, o_lreturn, o_return, o_min, o_max, o_geti, o_getr, o_puti, o_putz, o_putr, o_gets, o_iald, o_lald, o_aald, o_iast, o_last, o_aast, o_alen, o_new, o_newa, o_multi, o_call, o_scall, o_chk, o_oinit, o_copyi, o_copyl, z_eq, z_ne, z_lt, z_ge, z_gt, z_le, z_ceq, z_cne, z_clt, z_cge, z_cgt, z_cle, z_rz, z_rb, z_rc, q_nz, zg_0, zg_s, zgk_s, zgh_n, zgh_s, zq_n, zq_br, zq_gd, zq_cl2, zqc_s, zq_rt, zq_sw, zq_st, zsws, zent, zpad, zla, zlg, zpop, zrv, zc1, zmk, zob_w, zaw_w, zar_w, zln_w, zld_w, zin_w, zcpg_w, znr_w, List.getElem?_cons_zero, List.getElem?_cons_succ, List.set_cons_zero, List.set_cons_succ, List.length_cons, List.length_nil, Nat.reduceLT, Nat.reduceLeDiff, Nat.reduceAdd, Nat.reduceSub, Nat.reduceMul, Nat.reduceEqDiff, Nat.reduceBEq, ↓reduceIte, q_10, q_01, q_00, q_m1, q_m2, q_m3, q_m4, q_m5, q_n1, q_n2, decide_eq_true_eq, decide_eq_false_iff_not, Bool.and_eq_true, Bool.true_and, Bool.and_true, Bool.decide_and, decide_true, decide_false, Bool.true_eq_false, Bool.false_eq_true, Option.toList_some, Option.toList_none, List.cons_append, List.nil_append, true_and, and_true, and_self, not_true_eq_false, not_false_eq_true, forall_const, false_implies, implies_true, Nat.le_refl, ne_eq, Bool.not_eq_true, eq_self, zshA, zb_rz, zb_ne, zb_eq, qem, true_implies, Nat.zero_le, false_and, and_false, Bool.or_eq_true, or_true, true_or, false_or, or_false, y1, y2, h0, kb_f]
end KC
