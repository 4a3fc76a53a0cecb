/-! ===== the pairs, one by one: what is asked ===== -/
theorem eqS_f5 {I I' : zI} (h : gF_5 I I') : eqS I I' := ⟨fun k hk => h.1 k (by omega) (by omega), fun j a _ _ => h.2 j a, fun j _ _ _ _ _ _ _ _ => by rw [h.1 75 (by decide) (by decide)]⟩
theorem aS_f5 {a b c : Nat} {i : Option Nat} {S : gS} {D : gD} {I I' : zI} {R : zR} (hR : qRk R a b c i) (hT : tOK a S D I) (h : gF_5 I I') : aS a b i I I' R := by
  refine ⟨eqS_f5 h, ?_, c, hR⟩
  rw [h.1 20 (by decide) (by decide), h.1 21 (by decide) (by decide), h.1 22 (by decide) (by decide), h.1 24 (by decide) (by decide)]
  exact hT.2.2.2
theorem mS_f {I I' : zI} (h : mF I I') : mS I I' := ⟨⟨fun k hk => h k (by omega), fun j _ _ _ => by rw [h 5 (by decide)], fun j _ _ _ _ _ _ _ _ => by rw [h 75 (by decide)]⟩, fun k h1 h2 => h k (by omega)⟩
theorem pW_x {yx ym : Nat} {as : List Value} {a b c : Nat} {i : Option Nat} {S : gS} {D : gD} {I : zI} {J : zJ} {R : zR} {v : Int32} (h1 : ∃ I' R', zcl 60 yx (.ref 0 :: as) (I, J, R, 111) = some (some (.int v), (I', J, R', 111)) ∧ aS a b i I I' R') (h2 : ∀ I1 R1 c1, mOK S D I1 → eqS I I1 → qRk R1 a b c1 i → ∃ I2, zcl 60 ym (.ref 75 :: as) (I1, J, R1, 111) = some (some (.int v), (I2, J, R1, 111)) ∧ mS I1 I2) : ∃ v : Int32, pW yx ym as a b c i S D I J R (.int v) := ⟨v, h1, h2⟩
theorem pW_xl {yx ym : Nat} {as : List Value} {a b c : Nat} {i : Option Nat} {S : gS} {D : gD} {I : zI} {J : zJ} {R : zR} {v : Int64} (h1 : ∃ I' R', zcl 60 yx (.ref 0 :: as) (I, J, R, 111) = some (some (.long v), (I', J, R', 111)) ∧ aS a b i I I' R') (h2 : ∀ I1 R1 c1, mOK S D I1 → eqS I I1 → qRk R1 a b c1 i → ∃ I2, zcl 60 ym (.ref 75 :: as) (I1, J, R1, 111) = some (some (.long v), (I2, J, R1, 111)) ∧ mS I1 I2) : ∃ v : Int64, pW yx ym as a b c i S D I J R (.long v) := ⟨v, h1, h2⟩
section PR
variable {L : Nat} {xs : Nat → Int32} {n s x y : Int32}
set_option maxRecDepth 40000 in
theorem pr_65 : qPr (Inv L xs) 65 155 [] := pair_w (fun k I J R a b c i S D hk hW hS hD ha hb hR hT hB => by
  apply pW_x
  · obtain ⟨I', R', y, t⟩ := ca_65 (d := 53) (J := J) hR hT hB
    exact ⟨I', R', y, aS_t t⟩
  · intro I1 R1 c1 hM he hr
    exact ma_155 (d := 52) (J := J) hr hM.1 hM.2.1 hB.1 (by have := hB.2.2.1; omega) hM.2.2.1.2.2.2)
set_option maxRecDepth 40000 in
theorem pr_66 : qPr (Inv L xs) 66 156 [.int n] := pair_w (fun k I J R a b c i S D hk hW hS hD ha hb hR hT hB => by
  by_cases h : 0 ≤ n ∧ n ≤ 60
  · obtain ⟨m, hm, rfl⟩ := q_of (k := 60) (by omega) h.1 h.2
    apply pW_x
    · obtain ⟨I', R', y, t⟩ := ca_66 (d := 52) (J := J) hR hT hB hm
      exact ⟨I', R', y, aS_t t⟩
    · intro I1 R1 c1 hM he hr
      exact ma_156 (d := 51) (J := J) hr hM.1 hM.2.1 hB.1 (by have := hB.2.2.1; omega) hM.2.2.1.2.2.2 hm
  · exact ⟨_, pW_c hR hT (rc_66 (d := 58) h) (fun I1 R1 c1 _ _ _ => rc_156 (d := 57) h)⟩)
set_option maxRecDepth 40000 in
theorem pr_67 : qPr (Inv L xs) 67 157 [.int n] := pair_w (fun k I J R a b c i S D hk hW hS hD ha hb hR hT hB => by
  by_cases h : 1 ≤ n ∧ n ≤ 60
  · obtain ⟨m, hm, rfl⟩ := q_of (k := 60) (by omega) (Int32.le_trans (by decide) h.1) h.2
    have h1 : 1 ≤ m := (q_le3 (m := 1) (by omega) (by omega)).mp h.1
    apply pW_x
    · obtain ⟨I', R', y, t⟩ := ca_67 (d := 53) (J := J) hR hT hB h1 hm
      exact ⟨I', R', y, aS_t t⟩
    · intro I1 R1 c1 hM he hr
      exact ma_157 (d := 51) (J := J) hr hM.1 hM.2.1 hB.1 (gOK_bd hB) (by have := hB.2.2.1; omega) hM.2.2.1.2.2.2 h1 hm
  · exact ⟨_, pW_c hR hT (rc_67 (d := 58) h) (fun I1 R1 c1 _ _ _ => rc_157 (d := 57) h)⟩)
set_option maxRecDepth 40000 in
theorem pr_68 : qPr (Inv L xs) 68 159 [.int n] := pair_w (fun k I J R a b c i S D hk hW hS hD ha hb hR hT hB => by
  by_cases h : 0 ≤ n ∧ n ≤ 1
  · apply pW_x
    · obtain ⟨I', R', y, t⟩ := ca_68 (d := 53) (J := J) hR hT hB h
      rw [gLv hB] at y
      exact ⟨I', R', y, aS_t t⟩
    · intro I1 R1 c1 hM he hr
      exact ma_159 (d := 50) (J := J) hr hM.1 hM.2.1 hB.1 (gOK_bd hB) (by have := hB.2.2.1; omega) hM.2.2.1.2.2.2 hM.2.2.1.2.1 h
  · exact ⟨_, pW_c hR hT (rc_68 (d := 58) h) (fun I1 R1 c1 _ _ _ => rc_159 (d := 57) h)⟩)
set_option maxRecDepth 40000 in
theorem pr_69 : qPr (Inv L xs) 69 160 [] := pair_w (fun k I J R a b c i S D hk hW hS hD ha hb hR hT hB => by
  apply pW_x
  · obtain ⟨I', R', y, t⟩ := ca_69 (d := 52) (J := J) hR hT hB
    exact ⟨I', R', y, aS_t t⟩
  · intro I1 R1 c1 hM he hr
    exact ma_160 (d := 50) (J := J) hr hM.1 hM.2.1 hB.1 (gOK_bd hB) (by have := hB.2.2.1; omega) hM.2.2.1.2.2.2 hM.2.2.1.2.2.1)
set_option maxRecDepth 40000 in
theorem pr_70 : qPr (Inv L xs) 70 161 [.int n] := pair_w (fun k I J R a b c i S D hk hW hS hD ha hb hR hT hB => by
  by_cases h : 1 ≤ n ∧ n ≤ 99
  · obtain ⟨m, hm, rfl⟩ := q_of (k := 99) (by omega) (Int32.le_trans (by decide) h.1) h.2
    have hx : iR (nI m) 0 3180 := ⟨by rw [nI_toInt (by omega)]; omega, by rw [nI_toInt (by omega)]; omega⟩
    apply pW_x
    · obtain ⟨I', R', y, t⟩ := ca_70 (d := 52) (J := J) hR hT hB h hx
      have e : gFc (gOs S D (nI m)) (g_n S) 0 (-5) 1000000 = gFm (gOs S D (nI m)) (g_n S) 0 (-5) 0 := gF_eq (fun s => gSp_r (gWk_b hB.1 30 _ (gCu_b hB.1 (gOK_bd hB) hx))) _ _ _ _ _ _ (by have := gOK_n hB; omega) (.inl ⟨rfl, rfl, rfl⟩)
      rw [e] at y
      exact ⟨I', R', y, aS_t t⟩
    · intro I1 R1 c1 hM he hr
      exact ma_161 (d := 51) (J := J) hr hM.1 hM.2.1 hB.1 (gOK_bd hB) (by have := hB.2.2.1; omega) hM.2.2.1.2.2.2 h hx
  · exact ⟨_, pW_c hR hT (rc_70 (d := 58) h) (fun I1 R1 c1 _ _ _ => rc_161 (d := 57) h)⟩)
set_option maxRecDepth 40000 in
theorem pr_71 : qPr (Inv L xs) 71 162 [] := pair_w (fun k I J R a b c i S D hk hW hS hD ha hb hR hT hB => by
  apply pW_x
  · obtain ⟨I', R', y, t⟩ := ca_71 (d := 52) (J := J) hR hT hB
    exact ⟨I', R', y, aS_t t⟩
  · intro I1 R1 c1 hM he hr
    exact ma_162 (d := 50) (J := J) hr hM.1 hM.2.1 hB.1 (gOK_bd hB) (by have := hB.2.2.1; omega) hM.2.2.1.2.2.2 hM.2.2.1.1)
set_option maxRecDepth 40000 in
theorem pr_72 : qPr (Inv L xs) 72 163 [] := pair_w (fun k I J R a b c i S D hk hW hS hD ha hb hR hT hB => by
  apply pW_x
  · obtain ⟨I', R', y, t⟩ := ca_72 (d := 57) (J := J) hR hT hB
    exact ⟨I', R', y, aS_t t⟩
  · intro I1 R1 c1 hM he hr
    exact ⟨I1, ma_163 (d := 57) (J := J) hr hM.1 (gOK_n hB) hB.2.1, mS_r I1⟩)
set_option maxRecDepth 40000 in
theorem pr_73 : qPr (Inv L xs) 73 165 [] := pair_w (fun k I J R a b c i S D hk hW hS hD ha hb hR hT hB =>
  ⟨_, pW_c hR hT (ca_73 (d := 59) (J := J) hR hT.1.1 (gOK_n hB)) (fun I1 R1 c1 hM _ hr => ma_165 (d := 58) (J := J) hr hM.1 (gOK_n hB))⟩)
set_option maxRecDepth 40000 in
theorem pr_74 : qPr (Inv L xs) 74 166 [] := pair_w (fun k I J R a b c i S D hk hW hS hD ha hb hR hT hB =>
  ⟨_, pW_c hR hT (ca_74 (d := 58) (J := J) hR hT.1.1 (gOK_n hB)) (fun I1 R1 c1 hM _ hr => ma_166 (d := 58) (J := J) hr hM.1 (gOK_n hB))⟩)
set_option maxRecDepth 40000 in
theorem pr_75 : qPr (Inv L xs) 75 167 [.int n] := pair_w (fun k I J R a b c i S D hk hW hS hD ha hb hR hT hB => by
  by_cases h : 0 ≤ n ∧ n ≤ 999
  · apply pW_x
    · obtain ⟨I', R', y, t⟩ := ca_75 (d := 57) (J := J) hR hT hB h
      exact ⟨I', R', y, aS_t t⟩
    · intro I1 R1 c1 hM he hr
      exact ma_167 (d := 57) (J := J) hr hM.1 hM.2.1 hB.1 (gOK_bd hB) hM.2.2.1.2.2.2 h
  · exact ⟨_, pW_c hR hT (rc_75 (d := 58) h) (fun I1 R1 c1 _ _ _ => rc_167 (d := 57) h)⟩)
set_option maxRecDepth 40000 in
theorem pr_76 : qPr (Inv L xs) 76 168 [.int s, .int n] := pair_w (fun k I J R a b c i S D hk hW hS hD ha hb hR hT hB => by
  have v0 := hT.1.1.1.1
  rcases sd_in (s := s) (gOK_n hB) with ⟨j, hj, rfl⟩ | ⟨h1, h2⟩
  · have hn6 := gOK_n hB
    have q1 : 0 ≤ nI j ∧ nI j < I 5 0 := by rw [v0]; exact (q_st hj (by omega)).mpr trivial
    have q2 : 0 ≤ nI j ∧ nI j ≤ nI (g_n S) - 1 := by
      rw [show nI (g_n S) - 1 = nI (g_n S - 1) from q_sub (m := g_n S) (c := 1) (by omega)]
      exact (q_wt (by omega) (by omega)).mpr trivial
    by_cases h : 0 ≤ n ∧ n ≤ 999
    · apply pW_x
      · obtain ⟨I', R', y, t⟩ := ca_76 (d := 57) (J := J) hR hT hB hj h
        exact ⟨I', R', y, aS_t t⟩
      · intro I1 R1 c1 hM he hr
        exact ma_168 (d := 57) (J := J) hr hM.1 hM.2.1 hB.1 hM.2.2.1.2.2.2 hj h
    · exact ⟨_, pW_c hR hT (rc_76b (d := 58) hR q1 h) (fun I1 R1 c1 hM _ _ => rc_168b (d := 57) (by rw [hM.1.1.1]; exact q2) h)⟩
  · exact ⟨_, pW_c hR hT (rc_76a (d := 58) hR (by rw [v0]; exact h1)) (fun I1 R1 c1 hM _ _ => rc_168a (d := 57) (by rw [hM.1.1.1]; exact h2))⟩)
set_option maxRecDepth 40000 in
theorem pr_78 : qPr (Inv L xs) 78 171 [.int s, .int n] := pair_w (fun k I J R a b c i S D hk hW hS hD ha hb hR hT hB => by
  have v0 := hT.1.1.1.1
  obtain ⟨⟨e1, _⟩, ⟨e4, _⟩, ⟨m, hm, em⟩, _⟩ := hW.2.2.2.1
  have h26 : I 26 1 = nI m := e1.trans em
  rcases sd_in (s := s) (gOK_n hB) with ⟨j, hj, rfl⟩ | ⟨h1, h2⟩
  · have hn6 := gOK_n hB
    by_cases h : 0 ≤ n ∧ n ≤ 1
    · refine pW_x (v := if n = 0 then nI (gWa (gWp S D (I 27) m j) 100).1 else (gWa (gWp S D (I 27) m j) 100).2) ?_ ?_
      · obtain ⟨I', R', y, t⟩ := ca_78 (d := 52) (J := J) hR hT hB hm h26 hj h
        exact ⟨I', R', y, aS_t t⟩
      · intro I1 R1 c1 hM he hr
        have h35 : I1 75 35 = nI m := (eq75 he 35 (by decide)).trans em
        have h93 : I1 93 = I 27 := (he.1 93 (by decide)).trans e4.symm
        obtain ⟨I2, y, e⟩ := ma_171 (d := 51) (J := J) hr hM.1 hM.2.1 hB.1 (by have := hB.2.2.1; omega) hM.2.2.1.2.2.2 hm h35 hj h
        rw [h93, gW_eq] at y
        refine ⟨I2, ?_, e⟩
        rw [y]
        have hz : (gWa (gWp S D (I 27) m j) 100).1 = 0 → (gWa (gWp S D (I 27) m j) 100).2 = -5 := by
          have key : ∀ q, (gWa (gWp S D (I 27) m j) q).1 = 0 → (gWa (gWp S D (I 27) m j) q).2 = -5 := by
            intro q
            induction q with
            | zero => exact fun _ => rfl
            | succ q ih =>
              show (if gWp S D (I 27) m j q = true then ((gWa (gWp S D (I 27) m j) q).1 + 1, if (gWa (gWp S D (I 27) m j) q).1 = 0 then nI q else (gWa (gWp S D (I 27) m j) q).2) else gWa (gWp S D (I 27) m j) q).1 = 0 → (if gWp S D (I 27) m j q = true then ((gWa (gWp S D (I 27) m j) q).1 + 1, if (gWa (gWp S D (I 27) m j) q).1 = 0 then nI q else (gWa (gWp S D (I 27) m j) q).2) else gWa (gWp S D (I 27) m j) q).2 = -5
              by_cases hp : gWp S D (I 27) m j q = true
              · rw [if_pos hp]
                intro e
                exact absurd e (by simp)
              · rw [if_neg hp]
                exact ih
          exact key 100
        by_cases hw : n = 0
        · rw [if_pos hw, if_pos hw]
          show some (some (Value.int (nI (0 + (gWa (gWp S D (I 27) m j) 100).1))), _) = _
          rw [Nat.zero_add]
        · rw [if_neg hw, if_neg hw]
          show some (some (Value.int (if (gWa (gWp S D (I 27) m j) 100).1 = 0 then -5 else (gWa (gWp S D (I 27) m j) 100).2)), _) = _
          by_cases h0 : (gWa (gWp S D (I 27) m j) 100).1 = 0
          · rw [if_pos h0, hz h0]
          · rw [if_neg h0]
    · exact ⟨_, pW_c hR hT (rc_78 (d := 58) hR (fun e => h e.2)) (fun I1 R1 c1 hM _ _ => rc_171 (d := 57) (fun e => h e.2))⟩
  · exact ⟨_, pW_c hR hT (rc_78 (d := 58) hR (fun e => h1 (by rw [← v0]; exact e.1))) (fun I1 R1 c1 hM _ _ => rc_171 (d := 57) (fun e => h2 (by rw [← hM.1.1.1]; exact e.1)))⟩)
set_option maxRecDepth 40000 in
theorem pr_79 : qPr (Inv L xs) 79 172 [] := pair_w (fun k I J R a b c i S D hk hW hS hD ha hb hR hT hB => by
  obtain ⟨⟨e1, _⟩, ⟨e4, _⟩, ⟨m, hm, em⟩, _⟩ := hW.2.2.2.1
  have h26 : I 26 1 = nI m := e1.trans em
  apply pW_x
  · obtain ⟨I', R', y, t⟩ := ca_79 (d := 52) (J := J) hR hT hB hm h26
    exact ⟨I', R', y, aS_t t⟩
  · intro I1 R1 c1 hM he hr
    have h35 : I1 75 35 = nI m := (eq75 he 35 (by decide)).trans em
    have h93 : I1 93 = I 27 := (he.1 93 (by decide)).trans e4.symm
    have z := ma_172 (d := 51) (J := J) hr hM.1 hM.2.1 hB.1 (by have := hB.2.2.1; omega) hM.2.2.1.2.2.2 hm h35
    rw [h93] at z
    exact z)
set_option maxRecDepth 40000 in
theorem pr_80 : qPl (Inv L xs) 80 175 [.int s, .int n] := pair_wl (fun k I J R a b c i S D hk hW hS hD ha hb hR hT hB => by
  by_cases h : (0 ≤ s ∧ s ≤ 999) ∧ 0 ≤ n ∧ n ≤ 1
  · rcases Nat.eq_zero_or_pos (g_n S) with h0 | h0
    · exact ⟨_, pW_c hR hT (rc_80b (d := 58) hR h.1 h.2 (by rw [hT.1.1.1.1, h0]; rfl)) (fun I1 R1 c1 hM _ _ => rc_175b (d := 57) h.1 h.2 (by rw [hM.1.1.1, h0]; rfl))⟩
    · apply pW_xl
      · obtain ⟨I', R', y, t⟩ := ca_80 (d := 52) (J := J) hR hT hB h0 h.1 h.2
        exact ⟨I', R', y, aS_t t⟩
      · intro I1 R1 c1 hM he hr
        exact ma_175 (d := 50) (J := J) hr hM.1 hM.2.1 hB.1 hB.2.1 (by have := hB.2.2.1; omega) hM.2.2.1.2.2.2 h0 h.1 h.2
  · exact ⟨_, pW_c hR hT (rc_80 (d := 58) h) (fun I1 R1 c1 _ _ _ => rc_175 (d := 57) h)⟩)
set_option maxRecDepth 40000 in
theorem pr_81 : qPl (Inv L xs) 81 176 [.int s, .int n] := pair_wl (fun k I J R a b c i S D hk hW hS hD ha hb hR hT hB => by
  by_cases h : (0 ≤ s ∧ s ≤ 60) ∧ 0 ≤ n ∧ n ≤ 1
  · obtain ⟨m, hm, rfl⟩ := q_of (k := 60) (by omega) h.1.1 h.1.2
    rcases Nat.eq_zero_or_pos (g_n S) with h0 | h0
    · refine pW_xl ?_ (fun I1 R1 c1 hM he hr => ⟨I1, rc_176b (d := 57) h.1 h.2 (by rw [hM.1.1.1, h0]; rfl), mS_r I1⟩)
      obtain ⟨I', R', y, t⟩ := ca_81b (d := 52) (J := J) hR hT hB h0 hm h.2
      exact ⟨I', R', y, aS_t t⟩
    · apply pW_xl
      · obtain ⟨I', R', y, t⟩ := ca_81 (d := 52) (J := J) hR hT hB h0 hm h.2
        exact ⟨I', R', y, aS_t t⟩
      · intro I1 R1 c1 hM he hr
        exact ma_176 (d := 51) (J := J) hr hM.1 hM.2.1 hB.1 (gOK_bd hB) (by have := hB.2.2.1; omega) hM.2.2.1.2.2.2 h0 hm h.2
  · exact ⟨_, pW_c hR hT (rc_81 (d := 58) h) (fun I1 R1 c1 _ _ _ => rc_176 (d := 57) h)⟩)
set_option maxRecDepth 40000 in
theorem pr_83 : qPr (Inv L xs) 83 178 [.int n] := pair_w (fun k I J R a b c i S D hk hW hS hD ha hb hR hT hB => by
  obtain ⟨⟨_, e2, _⟩, ⟨_, e5, _⟩, _, ⟨m, hm, em⟩, _, ⟨_, h01, _⟩, _⟩ := hW.2.2.2.1
  have h26 : I 26 3 = nI m := e2.trans em
  by_cases h : 0 ≤ n ∧ n ≤ 1
  · apply pW_x
    · obtain ⟨I', R', y, t⟩ := ca_83 (d := 53) (J := J) hR hT hB hm h26 h
      exact ⟨I', R', y, aS_t t⟩
    · intro I1 R1 c1 hM he hr
      have h37 : I1 75 37 = nI m := (eq75 he 37 (by decide)).trans em
      have h94 : I1 94 = I 94 := he.1 94 (by decide)
      have z := ma_178 (d := 52) (J := J) hr hM.1 hM.2.1 hB.1 (gOK_bd hB) (by have := hB.2.2.1; omega) hM.2.2.1.2.2.2 hm h37 (by rw [h94]; exact h01) hM.2.2.2 h
      rw [h94, ← e5] at z
      exact z
  · exact ⟨_, pW_c hR hT (rc_83 (d := 58) h) (fun I1 R1 c1 _ _ _ => rc_178 (d := 57) h)⟩)
set_option maxRecDepth 40000 in
theorem pr_64 : qPr (Inv L xs) 64 154 [.int n, .int s] := pair_w (fun k I J R a b c i S D hk hW hS hD ha hb hR hT hB => by
  have v0 := hT.1.1.1.1
  have hn6 := gOK_n hB
  have ten : ∀ j, j < g_n S → (10 ≤ nI (10 + j) ∧ 0 ≤ nI (10 + j) - 10 ∧ nI (10 + j) - 10 < I 5 0) ∧ (10 ≤ nI (10 + j) ∧ nI (10 + j) ≤ 9 + nI (g_n S)) := by
    intro j hj
    have e : nI (10 + j) - 10 = nI j := by
      have := q_sub (m := 10 + j) (c := 10) (by omega)
      rw [Nat.add_sub_cancel_left] at this
      exact this
    rw [e, v0, show (9 : Int32) + nI (g_n S) = nI (9 + g_n S) from q_add3 (m := 9)]
    exact ⟨⟨q_tle (m := 10) (by omega) (by omega), q_tle (m := 0) (by omega) (by omega), q_tlt hj (by omega)⟩, q_tle (m := 10) (by omega) (by omega), q_tle (by omega) (by omega)⟩
  by_cases h0 : s = 0
  · subst h0
    by_cases h : 0 ≤ n ∧ n ≤ 60
    · obtain ⟨m, hm, rfl⟩ := q_of (k := 60) (by omega) h.1 h.2
      apply pW_x
      · obtain ⟨I', R', y, t⟩ := ca_64a (d := 52) (J := J) hR hT hB hm
        exact ⟨I', R', y, aS_t t⟩
      · intro I1 R1 c1 hM he hr
        exact ma_154a (d := 51) (J := J) hr hM.1 hM.2.1 hB.1 (gOK_bd hB) (by have := hB.2.2.1; omega) hM.2.2.1.2.2.2 hm
    · exact ⟨_, pW_c hR hT (rc_64b (d := 58) hR (.inl rfl) h) (fun I1 R1 c1 hM _ _ => rc_154b (d := 57) (.inl (by decide)) h)⟩
  · by_cases h1 : s = 1
    · subst h1
      by_cases h : 0 ≤ n ∧ n ≤ 60
      · obtain ⟨m, hm, rfl⟩ := q_of (k := 60) (by omega) h.1 h.2
        apply pW_x
        · obtain ⟨I', R', y, t⟩ := ca_64b (d := 52) (J := J) hR hT hB hm
          exact ⟨I', R', y, aS_t t⟩
        · intro I1 R1 c1 hM he hr
          exact ma_154b (d := 51) (J := J) hr hM.1 hM.2.1 hB.1 (gOK_bd hB) (by have := hB.2.2.1; omega) hM.2.2.1.2.2.2 hM.2.2.2 hm
      · exact ⟨_, pW_c hR hT (rc_64b (d := 58) hR (.inr (.inl rfl)) h) (fun I1 R1 c1 hM _ _ => rc_154b (d := 57) (.inl (by decide)) h)⟩
    · by_cases hq : 10 ≤ s ∧ s ≤ 9 + nI (g_n S)
      · have hs : ∃ j, j < g_n S ∧ s = nI (10 + j) := by
          have q2 := hq.2
          rw [show (9 : Int32) + nI (g_n S) = nI (9 + g_n S) from q_add3 (m := 9)] at q2
          obtain ⟨m, hm, rfl⟩ := q_of (k := 9 + g_n S) (by omega) (Int32.le_trans (by decide) hq.1) q2
          have h10 : 10 ≤ m := (q_le3 (m := 10) (by omega) (by omega)).mp hq.1
          exact ⟨m - 10, by omega, by rw [show 10 + (m - 10) = m from by omega]⟩
        obtain ⟨j, hj, rfl⟩ := hs
        by_cases h : 0 ≤ n ∧ n ≤ 60
        · obtain ⟨m, hm, rfl⟩ := q_of (k := 60) (by omega) h.1 h.2
          apply pW_x
          · obtain ⟨I', R', y, t⟩ := ca_64c (d := 52) (J := J) hR hT hB hm hj
            exact ⟨I', R', y, aS_t t⟩
          · intro I1 R1 c1 hM he hr
            exact ma_154c (d := 51) (J := J) hr hM.1 hM.2.1 hB.1 (gOK_bd hB) (by have := hB.2.2.1; omega) hM.2.2.1.2.2.2 hm hj
        · exact ⟨_, pW_c hR hT (rc_64b (d := 58) hR (.inr (.inr (ten j hj).1)) h) (fun I1 R1 c1 hM _ _ => rc_154b (d := 57) (.inr (by rw [hM.1.1.1]; exact (ten j hj).2)) h)⟩
      · refine ⟨_, pW_c hR hT (rc_64a (d := 58) hR h0 h1 (fun e => ?_)) (fun I1 R1 c1 hM _ _ => rc_154a (d := 57) (fun e => ?_) (by rw [hM.1.1.1]; exact hq))⟩
        · obtain ⟨e1, e2, e3⟩ := e
          have e4 : s - 10 ≤ nI 6 := by
            rw [v0] at e3
            exact Int32.le_trans (Int32.le_of_lt e3) (q_tle hn6 (by omega))
          obtain ⟨j, hj, ej⟩ := q_of (k := 6) (by omega) e2 e4
          have es : s = nI (10 + j) := by
            have : s = s - 10 + 10 := (Int32.sub_add_cancel _ _).symm
            rw [this, ej, show nI j + (10 : Int32) = nI (j + 10) from q_add3 (n := 10), Nat.add_comm]
          rw [ej, v0] at e3
          have hj2 : j < g_n S := (q_lt3 (by omega) (by omega)).mp e3
          exact hq (by rw [es]; exact (ten j hj2).2)
        · obtain ⟨m, hm, rfl⟩ := q_of (k := 1) (by omega) e.1 e.2
          rcases (by omega : m = 0 ∨ m = 1) with rfl | rfl
          · exact h0 rfl
          · exact h1 rfl)
end PR
