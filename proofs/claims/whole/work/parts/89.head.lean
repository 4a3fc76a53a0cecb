/-! ===== the law's loop: the head, and the whole ===== -/
section QL
variable {L : Nat} {xs : Nat → Int32}
theorem qz0 {L : Nat} (hL : L ≤ 3072) : (Int32.ofNat L).toNatClampNeg = L := nI_clamp (by omega)
theorem qcond {k L : Nat} (hL : L ≤ 3072) (hk : k ≤ 600) : (Int32.ofNat L - 6 < nI (6 * k)) ↔ L < 6 * k + 6 := by
  rw [Int32.lt_iff_toInt_lt, show Int32.ofNat L = nI L from rfl, show (6 : Int32) = nI 6 from rfl, pk_sub_toInt (by omega) (by omega), nI_toInt (by omega)]
  omega
theorem qhead {Inv : Nat → zW → Prop} (hL : L ≤ 3072) (hinv : ∀ k w, Inv k w → w.1 1021 = xs ∧ w.1 1022 0 = Int32.ofNat L ∧ w.2.2.2 = 111) (h0 : ∀ (a1 : Int32) (a2 : Int32) (a3 : Int32), qPr Inv 54 105 [.int a1, .int a2, .int a3]) (h1 : ∀ (a1 : Int32) (a2 : Int32), qPr Inv 55 138 [.int a1, .int a2]) (h2 : ∀ (a1 : Int32) (a2 : Int32), qPr Inv 56 137 [.int a1, .int a2]) (h3 : ∀ (a1 : Int32) (a2 : Int32), qPr Inv 57 106 [.int a1, .int a2]) (h4 : ∀ (a1 : Int32) (a2 : Int32) (a3 : Int32), qPr Inv 58 107 [.int a1, .int a2, .int a3]) (h5 : ∀ (a1 : Int32), qPr Inv 59 108 [.int a1]) (h6 : qPr Inv 60 124 []) (h7 : ∀ (a1 : Int32), qPr Inv 61 148 [.int a1]) (h8 : qPr Inv 62 144 []) (h9 : ∀ (a1 : Int32), qPr Inv 63 146 [.int a1]) (h10 : ∀ (a1 : Int32) (a2 : Int32), qPr Inv 64 154 [.int a1, .int a2]) (h11 : qPr Inv 65 155 []) (h12 : ∀ (a1 : Int32), qPr Inv 66 156 [.int a1]) (h13 : ∀ (a1 : Int32), qPr Inv 67 157 [.int a1]) (h14 : ∀ (a1 : Int32), qPr Inv 68 159 [.int a1]) (h15 : qPr Inv 69 160 []) (h16 : ∀ (a1 : Int32), qPr Inv 70 161 [.int a1]) (h17 : qPr Inv 71 162 []) (h18 : qPr Inv 72 163 []) (h19 : qPr Inv 73 165 []) (h20 : qPr Inv 74 166 []) (h21 : ∀ (a1 : Int32), qPr Inv 75 167 [.int a1]) (h22 : ∀ (a1 : Int32) (a2 : Int32), qPr Inv 76 168 [.int a1, .int a2]) (h23 : ∀ (a1 : Int32), qPr Inv 77 169 [.int a1]) (h24 : ∀ (a1 : Int32) (a2 : Int32), qPr Inv 78 171 [.int a1, .int a2]) (h25 : qPr Inv 79 172 []) (h26 : ∀ (a1 : Int32) (a2 : Int32), qPl Inv 80 175 [.int a1, .int a2]) (h27 : ∀ (a1 : Int32) (a2 : Int32), qPl Inv 81 176 [.int a1, .int a2]) (h28 : ∀ (a1 : Int32), qPr Inv 82 177 [.int a1]) (h29 : ∀ (a1 : Int32), qPr Inv 83 178 [.int a1]) (h30 : ∀ (a1 : Int32) (a2 : Int32), qPr Inv 84 179 [.int a1, .int a2]) (h31 : qPr Inv 85 180 []) (h32 : ∀ (a1 : Int32) (a2 : Int32), qPr Inv 86 181 [.int a1, .int a2]) (h33 : qPr Inv 87 182 []) (h34 : qPr Inv 88 183 []) (h35 : ∀ (a1 : Int32) (a2 : Int32) (a3 : Int32), qPr Inv 89 192 [.int a1, .int a2, .int a3]) (h36 : ∀ (a1 : Int32), qPr Inv 90 193 [.int a1]) (h37 : ∀ (a1 : Int32) (a2 : Int32), qPr Inv 91 194 [.int a1, .int a2]) (h38 : ∀ (a1 : Int32), qPr Inv 92 195 [.int a1]) (h39 : ∀ (a1 : Int32) (a2 : Int32) (a3 : Int32), qPr Inv 93 197 [.int a1, .int a2, .int a3]) (h40 : ∀ (a1 : Int32) (a2 : Int32) (a3 : Int64), qPr Inv 94 199 [.int a1, .int a2, .long a3]) (h41 : ∀ (a1 : Int32) (a2 : Int32), qPl Inv 95 200 [.int a1, .int a2]) (h42 : ∀ (a1 : Int32) (a2 : Int32) (a3 : Int32) (a4 : Int32) (a5 : Int32), qPr Inv 96 201 [.int a1, .int a2, .int a3, .int a4, .int a5]) (hskip : ∀ k w, Inv k w → Inv (k + 1) w) :
    ∀ (n k : Nat) (w : zW), L < 6 * (k + n) → k ≤ 512 → Inv k w → zWP (zcl 60) 213 (18, [some (.ref 1021), some (.ref 0), some (.ref 75), some (.int (nI (6 * k)))], [], w) (fun r w => r = some (.int 1) ∧ w.2.2.2 ≤ 111)
  | n, k, (I, J, R, nc), hn, hk, hI => by
    obtain ⟨s1, s2, s3⟩ := hinv k _ hI
    dsimp only at s1 s2 s3
    subst s3
    refine zg_wp 12 _ ?_
    simp only [zpr_213, zhd_213, zp213, zh213, zml_213, o_bad, o_push, o_iload, o_lload, o_aload, o_istore, o_astore, o_lstore, o_iinc, o_ii, o_dv, o_i, o_ll, o_lshl, o_lcmp, o_i2l, o_l2i, o_dup, o_dup2, o_pop, o_goto, o_if, o_ic, o_sw, o_ireturn, o_nreturn, o_lreturn, o_return, o_min, o_max, o_geti, o_getr, o_puti, o_putz, o_putr, o_gets, o_iald, o_lald, o_aald, o_iast, o_last, o_aast, o_alen, o_new, o_newa, o_multi, o_call, o_scall, o_oinit, o_copyi, o_copyl, z_eq, z_ne, z_lt, z_ge, z_gt, z_le, z_ceq, z_cne, z_clt, z_cge, z_cgt, z_cle, z_rz, z_rb, z_rc, zg, zwp1, zsws, zent, zpad, zla, zlg, zpop, zrv, zc1, zmk, zob_w, zaw_w, zar_w, zln_w, zld_w, zin_w, zcpg_w, znr_w, List.getElem?_cons_zero, List.getElem?_cons_succ, List.set_cons_zero, List.set_cons_succ, List.length_cons, List.length_nil, Nat.reduceLT, Nat.reduceLeDiff, Nat.reduceAdd, Nat.reduceSub, Nat.reduceMul, Nat.reduceEqDiff, Nat.reduceBEq, ↓reduceIte, decide_eq_true_eq, decide_eq_false_iff_not, Bool.and_eq_true, Bool.true_and, Bool.and_true, Bool.decide_and, decide_true, decide_false, Bool.true_eq_false, Bool.false_eq_true, Option.toList_some, Option.toList_none, List.cons_append, List.nil_append, true_and, and_true, and_self, not_true_eq_false, not_false_eq_true, forall_const, false_implies, implies_true, Nat.le_refl, ne_eq, reduceCtorEq, Bool.not_eq_true, eq_self, zsh, zb_rz, zb_ne, zb_eq, qem, true_implies, Nat.zero_le, Bool.or_eq_true, or_true, true_or, false_or, or_false, s1, s2, qz0 hL, qcond hL (Nat.le_trans hk (by decide))]
    refine fun hx => ?_
    · have hi : qIn (nI (6 * k)) L := qIn_of (by omega) hL
      have b0 := hi 0 (by decide)
      rw [show nI (6 * k) + nI 0 = nI (6 * k) from by rw [nI_add]; rfl] at b0
      have hk2 : k < 512 := by omega
      have hd : qHd L xs Inv (fun r w => r = some (.int 1) ∧ w.2.2.2 ≤ 111) k := by
        intro w hw
        have e : nI (6 * k) + 6 = nI (6 * (k + 1)) := by rw [show (6 : Int32) = nI 6 from rfl, nI_add]; rfl
        rw [e]
        match n, hn with
        | 0, hn => exact absurd hn (by omega)
        | n + 1, hn => exact qhead hL hinv h0 h1 h2 h3 h4 h5 h6 h7 h8 h9 h10 h11 h12 h13 h14 h15 h16 h17 h18 h19 h20 h21 h22 h23 h24 h25 h26 h27 h28 h29 h30 h31 h32 h33 h34 h35 h36 h37 h38 h39 h40 h41 h42 hskip n (k + 1) w (by omega) (by omega) hw
      refine ⟨b0, ?_⟩
      have h2' : ((I, J, R, 111) : zW).1 1022 0 = Int32.ofNat L := s2
      have hz : (((I, J, R, 111) : zW).1 1022 0).toNatClampNeg = L := by rw [h2', qz0 hL]
      refine ⟨fun _ => ql_0 h0 hk2 hi s1 hz rfl hI hd, fun _ => ?_⟩
      refine ⟨fun _ => ql_1 h1 hk2 hi s1 hz rfl hI hd, fun _ => ?_⟩
      refine ⟨fun _ => ql_2 h2 hk2 hi s1 hz rfl hI hd, fun _ => ?_⟩
      refine ⟨fun _ => ql_3 h3 hk2 hi s1 hz rfl hI hd, fun _ => ?_⟩
      refine ⟨fun _ => ql_4 h4 hk2 hi s1 hz rfl hI hd, fun _ => ?_⟩
      refine ⟨fun _ => ql_5 h5 hk2 hi s1 hz rfl hI hd, fun _ => ?_⟩
      refine ⟨fun _ => ql_6 h6 hk2 hi s1 hz rfl hI hd, fun _ => ?_⟩
      refine ⟨fun _ => ql_7 h7 hk2 hi s1 hz rfl hI hd, fun _ => ?_⟩
      refine ⟨fun _ => ql_8 h8 hk2 hi s1 hz rfl hI hd, fun _ => ?_⟩
      refine ⟨fun _ => ql_9 h9 hk2 hi s1 hz rfl hI hd, fun _ => ?_⟩
      refine ⟨fun _ => ql_10 h10 hk2 hi s1 hz rfl hI hd, fun _ => ?_⟩
      refine ⟨fun _ => ql_11 h11 hk2 hi s1 hz rfl hI hd, fun _ => ?_⟩
      refine ⟨fun _ => ql_12 h12 hk2 hi s1 hz rfl hI hd, fun _ => ?_⟩
      refine ⟨fun _ => ql_13 h13 hk2 hi s1 hz rfl hI hd, fun _ => ?_⟩
      refine ⟨fun _ => ql_14 h14 hk2 hi s1 hz rfl hI hd, fun _ => ?_⟩
      refine ⟨fun _ => ql_15 h15 hk2 hi s1 hz rfl hI hd, fun _ => ?_⟩
      refine ⟨fun _ => ql_16 h16 hk2 hi s1 hz rfl hI hd, fun _ => ?_⟩
      refine ⟨fun _ => ql_17 h17 hk2 hi s1 hz rfl hI hd, fun _ => ?_⟩
      refine ⟨fun _ => ql_18 h18 hk2 hi s1 hz rfl hI hd, fun _ => ?_⟩
      refine ⟨fun _ => ql_19 h19 hk2 hi s1 hz rfl hI hd, fun _ => ?_⟩
      refine ⟨fun _ => ql_20 h20 hk2 hi s1 hz rfl hI hd, fun _ => ?_⟩
      refine ⟨fun _ => ql_21 h21 hk2 hi s1 hz rfl hI hd, fun _ => ?_⟩
      refine ⟨fun _ => ql_22 h22 hk2 hi s1 hz rfl hI hd, fun _ => ?_⟩
      refine ⟨fun _ => ql_23 h23 hk2 hi s1 hz rfl hI hd, fun _ => ?_⟩
      refine ⟨fun _ => ql_24 h24 hk2 hi s1 hz rfl hI hd, fun _ => ?_⟩
      refine ⟨fun _ => ql_25 h25 hk2 hi s1 hz rfl hI hd, fun _ => ?_⟩
      refine ⟨fun _ => ql_26 h26 hk2 hi s1 hz rfl hI hd, fun _ => ?_⟩
      refine ⟨fun _ => ql_27 h27 hk2 hi s1 hz rfl hI hd, fun _ => ?_⟩
      refine ⟨fun _ => ql_28 h28 hk2 hi s1 hz rfl hI hd, fun _ => ?_⟩
      refine ⟨fun _ => ql_29 h29 hk2 hi s1 hz rfl hI hd, fun _ => ?_⟩
      refine ⟨fun _ => ql_30 h30 hk2 hi s1 hz rfl hI hd, fun _ => ?_⟩
      refine ⟨fun _ => ql_31 h31 hk2 hi s1 hz rfl hI hd, fun _ => ?_⟩
      refine ⟨fun _ => ql_32 h32 hk2 hi s1 hz rfl hI hd, fun _ => ?_⟩
      refine ⟨fun _ => ql_33 h33 hk2 hi s1 hz rfl hI hd, fun _ => ?_⟩
      refine ⟨fun _ => ql_34 h34 hk2 hi s1 hz rfl hI hd, fun _ => ?_⟩
      refine ⟨fun _ => ql_35 h35 hk2 hi s1 hz rfl hI hd, fun _ => ?_⟩
      refine ⟨fun _ => ql_36 h36 hk2 hi s1 hz rfl hI hd, fun _ => ?_⟩
      refine ⟨fun _ => ql_37 h37 hk2 hi s1 hz rfl hI hd, fun _ => ?_⟩
      refine ⟨fun _ => ql_38 h38 hk2 hi s1 hz rfl hI hd, fun _ => ?_⟩
      refine ⟨fun _ => ql_39 h39 hk2 hi s1 hz rfl hI hd, fun _ => ?_⟩
      refine ⟨fun _ => ql_40 h40 hk2 hi s1 hz rfl hI hd, fun _ => ?_⟩
      refine ⟨fun _ => ql_41 h41 hk2 hi s1 hz rfl hI hd, fun _ => ?_⟩
      refine ⟨fun _ => ql_42 h42 hk2 hi s1 hz rfl hI hd, fun _ => ?_⟩
      refine zg_wp 3 _ ?_
      simp only [zpr_213, zhd_213, zp213, zh213, zml_213, o_bad, o_push, o_iload, o_lload, o_aload, o_istore, o_astore, o_lstore, o_iinc, o_ii, o_dv, o_i, o_ll, o_lshl, o_lcmp, o_i2l, o_l2i, o_dup, o_dup2, o_pop, o_goto, o_if, o_ic, o_sw, o_ireturn, o_nreturn, o_lreturn, o_return, o_min, o_max, o_geti, o_getr, o_puti, o_putz, o_putr, o_gets, o_iald, o_lald, o_aald, o_iast, o_last, o_aast, o_alen, o_new, o_newa, o_multi, o_call, o_scall, o_oinit, o_copyi, o_copyl, z_eq, z_ne, z_lt, z_ge, z_gt, z_le, z_ceq, z_cne, z_clt, z_cge, z_cgt, z_cle, z_rz, z_rb, z_rc, zg, zwp1, zsws, zent, zpad, zla, zlg, zpop, zrv, zc1, zmk, zob_w, zaw_w, zar_w, zln_w, zld_w, zin_w, zcpg_w, znr_w, List.getElem?_cons_zero, List.getElem?_cons_succ, List.set_cons_zero, List.set_cons_succ, List.length_cons, List.length_nil, Nat.reduceLT, Nat.reduceLeDiff, Nat.reduceAdd, Nat.reduceSub, Nat.reduceMul, Nat.reduceEqDiff, Nat.reduceBEq, ↓reduceIte, decide_eq_true_eq, decide_eq_false_iff_not, Bool.and_eq_true, Bool.true_and, Bool.and_true, Bool.decide_and, decide_true, decide_false, Bool.true_eq_false, Bool.false_eq_true, Option.toList_some, Option.toList_none, List.cons_append, List.nil_append, true_and, and_true, and_self, not_true_eq_false, not_false_eq_true, forall_const, false_implies, implies_true, Nat.le_refl, ne_eq, reduceCtorEq, Bool.not_eq_true, eq_self, zsh, zb_rz, zb_ne, zb_eq, qem, true_implies, Nat.zero_le, Bool.or_eq_true, or_true, true_or, false_or, or_false]
      exact hd _ (hskip _ _ hI)
/-- zPure, out of the pairs and the start -/
theorem zpure_of (Inv : Nat → (Nat → Int32) → Nat → zW → Prop) (hinv : ∀ L xs k w, Inv L xs k w → w.1 1021 = xs ∧ w.1 1022 0 = Int32.ofNat L ∧ w.2.2.2 = 111) (hskip : ∀ L xs k w, Inv L xs k w → Inv L xs (k + 1) w)
    (hstart : ∀ L xs, ∃ w1 w2 : zW, zcl 60 53 [.ref 0] (zal (zw0 L xs)) = some (none, w1) ∧ w1.2.2.2 = 75 ∧ zcl 60 101 [.ref 75] (zal w1) = some (none, w2) ∧ Inv L xs 0 w2)
    (h0 : ∀ (L : Nat) (xs : Nat → Int32), ∀ (a1 : Int32) (a2 : Int32) (a3 : Int32), qPr (Inv L xs) 54 105 [.int a1, .int a2, .int a3]) (h1 : ∀ (L : Nat) (xs : Nat → Int32), ∀ (a1 : Int32) (a2 : Int32), qPr (Inv L xs) 55 138 [.int a1, .int a2]) (h2 : ∀ (L : Nat) (xs : Nat → Int32), ∀ (a1 : Int32) (a2 : Int32), qPr (Inv L xs) 56 137 [.int a1, .int a2]) (h3 : ∀ (L : Nat) (xs : Nat → Int32), ∀ (a1 : Int32) (a2 : Int32), qPr (Inv L xs) 57 106 [.int a1, .int a2]) (h4 : ∀ (L : Nat) (xs : Nat → Int32), ∀ (a1 : Int32) (a2 : Int32) (a3 : Int32), qPr (Inv L xs) 58 107 [.int a1, .int a2, .int a3]) (h5 : ∀ (L : Nat) (xs : Nat → Int32), ∀ (a1 : Int32), qPr (Inv L xs) 59 108 [.int a1]) (h6 : ∀ (L : Nat) (xs : Nat → Int32), qPr (Inv L xs) 60 124 []) (h7 : ∀ (L : Nat) (xs : Nat → Int32), ∀ (a1 : Int32), qPr (Inv L xs) 61 148 [.int a1]) (h8 : ∀ (L : Nat) (xs : Nat → Int32), qPr (Inv L xs) 62 144 []) (h9 : ∀ (L : Nat) (xs : Nat → Int32), ∀ (a1 : Int32), qPr (Inv L xs) 63 146 [.int a1]) (h10 : ∀ (L : Nat) (xs : Nat → Int32), ∀ (a1 : Int32) (a2 : Int32), qPr (Inv L xs) 64 154 [.int a1, .int a2]) (h11 : ∀ (L : Nat) (xs : Nat → Int32), qPr (Inv L xs) 65 155 []) (h12 : ∀ (L : Nat) (xs : Nat → Int32), ∀ (a1 : Int32), qPr (Inv L xs) 66 156 [.int a1]) (h13 : ∀ (L : Nat) (xs : Nat → Int32), ∀ (a1 : Int32), qPr (Inv L xs) 67 157 [.int a1]) (h14 : ∀ (L : Nat) (xs : Nat → Int32), ∀ (a1 : Int32), qPr (Inv L xs) 68 159 [.int a1]) (h15 : ∀ (L : Nat) (xs : Nat → Int32), qPr (Inv L xs) 69 160 []) (h16 : ∀ (L : Nat) (xs : Nat → Int32), ∀ (a1 : Int32), qPr (Inv L xs) 70 161 [.int a1]) (h17 : ∀ (L : Nat) (xs : Nat → Int32), qPr (Inv L xs) 71 162 []) (h18 : ∀ (L : Nat) (xs : Nat → Int32), qPr (Inv L xs) 72 163 []) (h19 : ∀ (L : Nat) (xs : Nat → Int32), qPr (Inv L xs) 73 165 []) (h20 : ∀ (L : Nat) (xs : Nat → Int32), qPr (Inv L xs) 74 166 []) (h21 : ∀ (L : Nat) (xs : Nat → Int32), ∀ (a1 : Int32), qPr (Inv L xs) 75 167 [.int a1]) (h22 : ∀ (L : Nat) (xs : Nat → Int32), ∀ (a1 : Int32) (a2 : Int32), qPr (Inv L xs) 76 168 [.int a1, .int a2]) (h23 : ∀ (L : Nat) (xs : Nat → Int32), ∀ (a1 : Int32), qPr (Inv L xs) 77 169 [.int a1]) (h24 : ∀ (L : Nat) (xs : Nat → Int32), ∀ (a1 : Int32) (a2 : Int32), qPr (Inv L xs) 78 171 [.int a1, .int a2]) (h25 : ∀ (L : Nat) (xs : Nat → Int32), qPr (Inv L xs) 79 172 []) (h26 : ∀ (L : Nat) (xs : Nat → Int32), ∀ (a1 : Int32) (a2 : Int32), qPl (Inv L xs) 80 175 [.int a1, .int a2]) (h27 : ∀ (L : Nat) (xs : Nat → Int32), ∀ (a1 : Int32) (a2 : Int32), qPl (Inv L xs) 81 176 [.int a1, .int a2]) (h28 : ∀ (L : Nat) (xs : Nat → Int32), ∀ (a1 : Int32), qPr (Inv L xs) 82 177 [.int a1]) (h29 : ∀ (L : Nat) (xs : Nat → Int32), ∀ (a1 : Int32), qPr (Inv L xs) 83 178 [.int a1]) (h30 : ∀ (L : Nat) (xs : Nat → Int32), ∀ (a1 : Int32) (a2 : Int32), qPr (Inv L xs) 84 179 [.int a1, .int a2]) (h31 : ∀ (L : Nat) (xs : Nat → Int32), qPr (Inv L xs) 85 180 []) (h32 : ∀ (L : Nat) (xs : Nat → Int32), ∀ (a1 : Int32) (a2 : Int32), qPr (Inv L xs) 86 181 [.int a1, .int a2]) (h33 : ∀ (L : Nat) (xs : Nat → Int32), qPr (Inv L xs) 87 182 []) (h34 : ∀ (L : Nat) (xs : Nat → Int32), qPr (Inv L xs) 88 183 []) (h35 : ∀ (L : Nat) (xs : Nat → Int32), ∀ (a1 : Int32) (a2 : Int32) (a3 : Int32), qPr (Inv L xs) 89 192 [.int a1, .int a2, .int a3]) (h36 : ∀ (L : Nat) (xs : Nat → Int32), ∀ (a1 : Int32), qPr (Inv L xs) 90 193 [.int a1]) (h37 : ∀ (L : Nat) (xs : Nat → Int32), ∀ (a1 : Int32) (a2 : Int32), qPr (Inv L xs) 91 194 [.int a1, .int a2]) (h38 : ∀ (L : Nat) (xs : Nat → Int32), ∀ (a1 : Int32), qPr (Inv L xs) 92 195 [.int a1]) (h39 : ∀ (L : Nat) (xs : Nat → Int32), ∀ (a1 : Int32) (a2 : Int32) (a3 : Int32), qPr (Inv L xs) 93 197 [.int a1, .int a2, .int a3]) (h40 : ∀ (L : Nat) (xs : Nat → Int32), ∀ (a1 : Int32) (a2 : Int32) (a3 : Int64), qPr (Inv L xs) 94 199 [.int a1, .int a2, .long a3]) (h41 : ∀ (L : Nat) (xs : Nat → Int32), ∀ (a1 : Int32) (a2 : Int32), qPl (Inv L xs) 95 200 [.int a1, .int a2]) (h42 : ∀ (L : Nat) (xs : Nat → Int32), ∀ (a1 : Int32) (a2 : Int32) (a3 : Int32) (a4 : Int32) (a5 : Int32), qPr (Inv L xs) 96 201 [.int a1, .int a2, .int a3, .int a4, .int a5]) : zPure := by
  intro L xs hL
  obtain ⟨w1, w2, e1, e2, e3, hI⟩ := hstart L xs
  have hd := qhead (Inv := Inv L xs) hL (hinv L xs) (h0 L xs) (h1 L xs) (h2 L xs) (h3 L xs) (h4 L xs) (h5 L xs) (h6 L xs) (h7 L xs) (h8 L xs) (h9 L xs) (h10 L xs) (h11 L xs) (h12 L xs) (h13 L xs) (h14 L xs) (h15 L xs) (h16 L xs) (h17 L xs) (h18 L xs) (h19 L xs) (h20 L xs) (h21 L xs) (h22 L xs) (h23 L xs) (h24 L xs) (h25 L xs) (h26 L xs) (h27 L xs) (h28 L xs) (h29 L xs) (h30 L xs) (h31 L xs) (h32 L xs) (h33 L xs) (h34 L xs) (h35 L xs) (h36 L xs) (h37 L xs) (h38 L xs) (h39 L xs) (h40 L xs) (h41 L xs) (h42 L xs) (hskip L xs) (L + 1) 0 w2 (by omega) (by omega) hI
  refine zg_wp 30 _ ?_
  have n0 : (zw0 L xs).2.2.2 = 0 := rfl
  have n1 : (zal (zw0 L xs)).2.2.2 = 1 := rfl
  simp only [zpr_213, zhd_213, zp213, zh213, zml_213, o_bad, o_push, o_iload, o_lload, o_aload, o_istore, o_astore, o_lstore, o_iinc, o_ii, o_dv, o_i, o_ll, o_lshl, o_lcmp, o_i2l, o_l2i, o_dup, o_dup2, o_pop, o_goto, o_if, o_ic, o_sw, o_ireturn, o_nreturn, o_lreturn, o_return, o_min, o_max, o_geti, o_getr, o_puti, o_putz, o_putr, o_gets, o_iald, o_lald, o_aald, o_iast, o_last, o_aast, o_alen, o_new, o_newa, o_multi, o_call, o_scall, o_oinit, o_copyi, o_copyl, z_eq, z_ne, z_lt, z_ge, z_gt, z_le, z_ceq, z_cne, z_clt, z_cge, z_cgt, z_cle, z_rz, z_rb, z_rc, zg, zwp1, zsws, zent, zpad, zla, zlg, zpop, zrv, zc1, zmk, zob_w, zaw_w, zar_w, zln_w, zld_w, zin_w, zcpg_w, znr_w, List.getElem?_cons_zero, List.getElem?_cons_succ, List.set_cons_zero, List.set_cons_succ, List.length_cons, List.length_nil, Nat.reduceLT, Nat.reduceLeDiff, Nat.reduceAdd, Nat.reduceSub, Nat.reduceMul, Nat.reduceEqDiff, Nat.reduceBEq, ↓reduceIte, decide_eq_true_eq, decide_eq_false_iff_not, Bool.and_eq_true, Bool.true_and, Bool.and_true, Bool.decide_and, decide_true, decide_false, Bool.true_eq_false, Bool.false_eq_true, Option.toList_some, Option.toList_none, List.cons_append, List.nil_append, true_and, and_true, and_self, not_true_eq_false, not_false_eq_true, forall_const, false_implies, implies_true, Nat.le_refl, ne_eq, reduceCtorEq, Bool.not_eq_true, eq_self, zsh, zb_rz, zb_ne, zb_eq, qem, true_implies, Nat.zero_le, Bool.or_eq_true, or_true, true_or, false_or, or_false, n0, n1, e1, e2, e3]
  exact ⟨rfl, by show decide (75 < w1.2.2.2 + 1 ∧ (zsh 75).1 = 0 ∧ (zsh 75).2.1 = 7) = true; rw [e2]; rfl, hd⟩
end QL
