/-! ===== pairs: what changes something (set, row, feed, see, plan, book, side) ===== -/
theorem iKn_e2 {kx km : Int32} {I I' : zI} (h : iKn kx km I) (e : ∀ k, (1 ≤ k ∧ k ≤ 4) ∨ (37 ≤ k ∧ k ≤ 60) ∨ (82 ≤ k ∧ k ≤ 87) → I' k = I k) : iKn kx km I' := by
  obtain ⟨h1, ⟨kn, h2, h3, h4⟩, h5⟩ := h
  refine ⟨h1, ⟨kn, h2, h3, fun f hf => ?_⟩, ?_⟩
  · rw [e (37 + 4 * f) (by omega), e (38 + 4 * f) (by omega), e (39 + 4 * f) (by omega), e (40 + 4 * f) (by omega), e 82 (by decide), e 83 (by decide), e 84 (by decide), e 85 (by decide), e 86 (by decide), e 87 (by decide)]
    exact h4 f hf
  · rw [e 1 (by decide)]
    exact h5
theorem iTh_e2 {km th g l h : Int32} {I I' : zI} (q : iTh km th g l h I) (e : ∀ k, (1 ≤ k ∧ k ≤ 4) ∨ (37 ≤ k ∧ k ≤ 60) ∨ (82 ≤ k ∧ k ≤ 87) → I' k = I k) : iTh km th g l h I' := by
  have z := kc_kt q.1
  have z2 : (1 ≤ kc th ∧ kc th ≤ 4) ∨ (37 ≤ kc th ∧ kc th ≤ 60) ∨ (82 ≤ kc th ∧ kc th ≤ 87) := by
    unfold zKt at z
    omega
  unfold iTh at q ⊢
  rw [e _ z2]
  exact q
section MD
variable {L : Nat} {xs : Nat → Int32} {yx ym : Nat} {as : List Value} {n s x y : Int32}
def qG (L : Nat) (xs : Nat → Int32) (yx ym : Nat) (as : List Value) (k : Nat) (w : zW) : Prop := ∃ (r : Int32) (w1 w2 : zW), zcl 60 yx (.ref 0 :: as) w = some (some (.int r), w1) ∧ zcl 60 ym (.ref 75 :: as) w1 = some (some (.int r), w2) ∧ (w1.1 1021 = w.1 1021 ∧ w1.1 1022 = w.1 1022 ∧ w1.2.2.2 = 111) ∧ Inv L xs (k + 1) w2
theorem pair_m (H : ∀ k I J R c i, k < 512 → iW L xs k I J → qRk R (kc (I 75 9)) (kc (I 75 43)) c i → qG L xs yx ym as k (I, J, R, 111)) : qPr (Inv L xs) yx ym as := by
  intro k w hk hI
  obtain ⟨I, J, R, nn⟩ := w
  obtain ⟨hn, ⟨c, i, hR⟩, hW⟩ := hI
  dsimp only at hn hR hW
  subst hn
  exact H k I J R c i hk hW hR
theorem md_same {k c : Nat} {i : Option Nat} {I : zI} {J : zJ} {R : zR} {v : Int32} (hW : iW L xs k I J) (hR : qRk R (kc (I 75 9)) (kc (I 75 43)) c i) (h1 : zcl 60 yx (.ref 0 :: as) (I, J, R, 111) = some (some (.int v), (I, J, R, 111))) (h2 : zcl 60 ym (.ref 75 :: as) (I, J, R, 111) = some (some (.int v), (I, J, R, 111))) : qG L xs yx ym as k (I, J, R, 111) :=
  ⟨v, _, _, h1, h2, ⟨rfl, rfl, rfl⟩, rfl, ⟨c, i, hR⟩, iW_eq hW (eqS_r I) hW.2.2.2.2.2.2.2.2.2.2.2.2.2⟩
theorem md_fin {k c : Nat} {i : Option Nat} {I I1 I2 : zI} {J J1 J2 : zJ} {R R1 R2 : zR} {v : Int32} (h1 : zcl 60 yx (.ref 0 :: as) (I, J, R, 111) = some (some (.int v), (I1, J1, R1, 111))) (h2 : zcl 60 ym (.ref 75 :: as) (I1, J1, R1, 111) = some (some (.int v), (I2, J2, R2, 111))) (f1 : I1 1021 = I 1021) (f2 : I1 1022 = I 1022) (hR : qRk R2 (kc (I2 75 9)) (kc (I2 75 43)) c i) (hW2 : iW L xs (k + 1) I2 J2) : qG L xs yx ym as k (I, J, R, 111) :=
  ⟨v, _, _, h1, h2, ⟨f1, f2, rfl⟩, rfl, ⟨c, i, hR⟩, hW2⟩
theorem sd_n {k : Nat} {n m d n' m' d' : Int32} {q v t f r q' v' t' f' r' : Nat → Int32} (h : iSd k n m d n' m' d' q v t f r q' v' t' f' r') : ∃ j, j ≤ 6 ∧ n = nI j ∧ n' = nI j := by
  obtain ⟨⟨h1, _⟩, _, ⟨j, hj, e⟩, _⟩ := h
  exact ⟨j, hj, h1.trans e, e⟩
theorem zN_up {n m : Nat} {x : Int32} {f : Nat → Int32} (h : zN n f) (hm : m < n) : zN n (fun b => if b = m then x else f b) := fun j hj => by
  show (if j = m then x else f j) = 0
  rw [if_neg (by omega)]
  exact h j hj
theorem iR_up {m : Nat} {x : Int32} {f : Nat → Int32} {a b : Int} (h : ∀ j, iR (f j) a b) (hx : iR x a b) : ∀ j, iR ((fun b => if b = m then x else f b) j) a b := fun j => by
  show iR (if j = m then x else f j) a b
  split
  · exact hx
  · exact h j
theorem iR_of {x : Int32} {k : Nat} (hk : k < 2147483648) (h : 0 ≤ x ∧ x ≤ nI k) : iR x 0 k := by
  rw [Int32.le_iff_toInt_le, Int32.le_iff_toInt_le, i0, nI_toInt hk] at h
  exact h
set_option maxRecDepth 40000 in
theorem pr_57 : qPr (Inv L xs) 57 106 [.int s, .int n] := pair_m (fun k I J R c i hk hW hR => by
  obtain ⟨m, hm, em, em'⟩ := sd_n hW.2.1
  rcases sd_in (s := s) hm with ⟨j, hj, rfl⟩ | ⟨h1, h2⟩
  · have q1 : 0 ≤ nI j ∧ nI j < I 5 0 := by rw [em]; exact (q_st hj (by omega)).mpr trivial
    have q2 : 0 ≤ nI j ∧ nI j ≤ I 75 0 - 1 := by
      rw [em', show nI m - 1 = nI (m - 1) from q_sub (m := m) (c := 1) (by omega)]
      exact (q_wt (by omega) (by omega)).mpr trivial
    by_cases h : 0 ≤ n ∧ n ≤ 999
    · have y1 := sp_57c (d := 58) (J := J) hR q1 h (by omega)
      have y2 := sp_106c (d := 57) (I := zup I 8 j n) (J := J) hR (by rw [zup_row, if_neg (by decide)]; exact q2) h (by omega)
      have hr := iR_of (k := 999) (by omega) h
      obtain ⟨h1, ⟨s1, ⟨s2, s3, s4, s5, s6⟩, s7, s8, s9, ⟨r1, r2, r3, r4⟩, z1, z2, z3, z4⟩, h3, h4, h5, h6, h7, h8, h9, h10⟩ := hW
      have e78 : (zup I 8 j n) 78 j = I 8 j := by rw [zup_row, if_neg (by decide), s4]
      rw [e78] at y2
      have fr : ∀ k, (1 ≤ k ∧ k ≤ 4) ∨ (37 ≤ k ∧ k ≤ 60) ∨ (82 ≤ k ∧ k ≤ 87) → (zup (zup I 8 j n) 78 j n) k = I k := fun k hk => by
        have n1 : ¬ k = 8 := by omega
        have n2 : ¬ k = 78 := by omega
        simp only [zup_row, n1, n2, ↓reduceIte]
      refine md_fin y1 y2 (by rw [zup_row, if_neg (by decide)]) (by rw [zup_row, if_neg (by decide)]) (by simp only [zup_row, Nat.reduceEqDiff, ↓reduceIte]; exact hR) ?_
      unfold iW
      simp only [zup_row, Nat.reduceEqDiff, ↓reduceIte]
      obtain ⟨s8a, s8b, s8c⟩ := s8
      exact ⟨h1, ⟨s1, ⟨s2, s3, by rw [s4], s5, s6⟩, s7, ⟨s8a, by omega, s8c⟩, s9, ⟨r1, r2, iR_up r3 hr, r4⟩, z1, z2, zN_up z3 (by omega), z4⟩, iSd_le h3, h4, h5, h6, iKn_e2 h7 fr, iTh_e2 h8 fr, iTh_e2 h9 fr, h10⟩
    · exact md_same hW hR (sp_57e (d := 58) hR q1 h) (sp_106e (d := 57) hR q2 h)
  · exact md_same hW hR (sp_57b (d := 58) hR (by rw [em]; exact h1)) (sp_106b (d := 57) hR (by rw [em']; exact h2)))
set_option maxRecDepth 40000 in
theorem pr_58 : qPr (Inv L xs) 58 107 [.int s, .int x, .int n] := pair_m (fun k I J R c i hk hW hR => by
  obtain ⟨m, hm, em, em'⟩ := sd_n hW.2.1
  rcases sd_in (s := s) hm with ⟨j, hj, rfl⟩ | ⟨h1, h2⟩
  · have q1 : 0 ≤ nI j ∧ nI j < I 5 0 := by rw [em]; exact (q_st hj (by omega)).mpr trivial
    have q2 : 0 ≤ nI j ∧ nI j ≤ I 75 0 - 1 := by
      rw [em', show nI m - 1 = nI (m - 1) from q_sub (m := m) (c := 1) (by omega)]
      exact (q_wt (by omega) (by omega)).mpr trivial
    by_cases hx : 0 ≤ x ∧ x ≤ 3
    · obtain ⟨p, hp, rfl⟩ := q_of (k := 3) (by omega) hx.1 hx.2
      by_cases h : 0 ≤ n ∧ n ≤ 9
      · have s2 := hW.2.1.2.1.1
        by_cases h6 : I 6 j = 6
        · have y1 := sp_58c (d := 58) (J := J) hR q1 hx h (by omega) (j := p) (by omega) h6
          have y2 := sp_107c (d := 57) (I := zup I 10 (4 * j + p) n) (J := J) hR (by rw [zup_row, if_neg (by decide)]; exact q2) hx h (by omega) (j := p) (by omega) (by rw [zup_row, if_neg (by decide), ← s2]; exact h6)
          have hr := iR_of (k := 9) (by omega) h
          obtain ⟨h1, ⟨s1, ⟨s2, s3, s4, s5, s6⟩, s7, s8, s9, ⟨r1, r2, r3, r4, r5⟩, z1, z2, z3, z4, z5⟩, h3, h4, h5, h6, h7, h8, h9, h10⟩ := hW
          have e80 : (zup I 10 (4 * j + p) n) 80 (4 * j + p) = I 10 (4 * j + p) := by rw [zup_row, if_neg (by decide), s6]
          rw [e80] at y2
          have fr : ∀ k, (1 ≤ k ∧ k ≤ 4) ∨ (37 ≤ k ∧ k ≤ 60) ∨ (82 ≤ k ∧ k ≤ 87) → (zup (zup I 10 (4 * j + p) n) 80 (4 * j + p) n) k = I k := fun k hk => by
            have n1 : ¬ k = 10 := by omega
            have n2 : ¬ k = 80 := by omega
            simp only [zup_row, n1, n2, ↓reduceIte]
          refine md_fin y1 y2 (by rw [zup_row, if_neg (by decide)]) (by rw [zup_row, if_neg (by decide)]) (by simp only [zup_row, Nat.reduceEqDiff, ↓reduceIte]; exact hR) ?_
          unfold iW
          simp only [zup_row, Nat.reduceEqDiff, ↓reduceIte]
          obtain ⟨s8a, s8b, s8c⟩ := s8
          exact ⟨h1, ⟨s1, ⟨s2, s3, s4, s5, by rw [s6]⟩, s7, ⟨s8a, by omega, s8c⟩, s9, ⟨r1, r2, r3, r4, iR_up r5 hr⟩, z1, z2, z3, z4, zN_up z5 (by omega)⟩, iSd_le h3, h4, h5, h6, iKn_e2 h7 fr, iTh_e2 h8 fr, iTh_e2 h9 fr, h10⟩
        · exact md_same hW hR (sp_58d (d := 58) hR q1 hx h (by omega) h6) (sp_107d (d := 57) hR q2 hx h (by omega) (by rw [← s2]; exact h6))
      · exact md_same hW hR (sp_58e (d := 58) hR q1 hx h) (sp_107e (d := 57) hR q2 hx h)
    · exact md_same hW hR (sp_58b (d := 58) hR (fun e => hx e.2)) (sp_107b (d := 57) hR (fun e => hx e.2))
  · exact md_same hW hR (sp_58b (d := 58) hR (fun e => h1 (by rw [← em]; exact e.1))) (sp_107b (d := 57) hR (fun e => h2 (by rw [← em']; exact e.1))))
theorem q_byte : ∀ m : Fin 128, znr 2 (nI m.val).toInt8.toInt32 = nI m.val := by decide +kernel
set_option maxRecDepth 40000 in
theorem pr_59 : qPr (Inv L xs) 59 108 [.int n] := pair_m (fun k I J R c i hk hW hR => by
  obtain ⟨⟨t1, m, hm, em⟩, t2, t3⟩ := hW.2.2.2.2.2.1
  by_cases h : 0 ≤ n ∧ n ≤ 127
  · obtain ⟨p, hp, rfl⟩ := q_of (k := 127) (by omega) h.1 h.2
    by_cases hf : m < 100
    · have y1 := sp_59c (d := 58) (J := J) hR h (t1.trans em) hf
      rw [q_byte ⟨p, by omega⟩] at y1
      have y2 := sp_108c (d := 58) (I := zup (zup I 62 m (nI p)) 61 1 (nI (m + 1))) (J := J) hR h (m := m) (by simp only [zup_row, Nat.reduceEqDiff, ↓reduceIte]; exact em) hf
      have hr := iR_of (k := 127) (by omega) h
      obtain ⟨h1, h2, h3, h4, h5, _, h7, h8, h9, h10⟩ := hW
      have fr : ∀ k, (1 ≤ k ∧ k ≤ 4) ∨ (37 ≤ k ∧ k ≤ 60) ∨ (82 ≤ k ∧ k ≤ 87) → (zup (zup (zup (zup I 62 m (nI p)) 61 1 (nI (m + 1))) 81 m (nI p)) 75 10 (nI (m + 1))) k = I k := fun k hk => by
        have n1 : ¬ k = 62 := by omega
        have n2 : ¬ k = 61 := by omega
        have n3 : ¬ k = 81 := by omega
        have n4 : ¬ k = 75 := by omega
        simp only [zup_row, n1, n2, n3, n4, ↓reduceIte]
      refine md_fin y1 y2 (by simp only [zup_row, Nat.reduceEqDiff, ↓reduceIte]) (by simp only [zup_row, Nat.reduceEqDiff, ↓reduceIte]) (by simp only [zup_row, Nat.reduceEqDiff, ↓reduceIte]; exact hR) ?_
      unfold iW
      simp only [zup_row, Nat.reduceEqDiff, ↓reduceIte]
      exact ⟨h1, iSd_le h2, iSd_le h3, h4, h5, ⟨⟨rfl, m + 1, by omega, rfl⟩, by rw [t2], iR_up t3 hr⟩, iKn_e2 h7 fr, iTh_e2 h8 fr, iTh_e2 h9 fr, h10⟩
    · have e100 : m = 100 := by omega
      subst e100
      exact md_same hW hR (sp_59d (d := 58) hR h (t1.trans em)) (sp_108d (d := 58) hR h em)
  · exact md_same hW hR (sp_59b (d := 58) hR h) (sp_108b (d := 58) hR h))
set_option maxRecDepth 40000 in
theorem pr_77 : qPr (Inv L xs) 77 169 [.int n] := pair_m (fun k I J R c i hk hW hR => by
  have hW0 := hW
  obtain ⟨h1, h2, h3, ⟨⟨a1, a2, a3⟩, ⟨b1, b2, b3, b4⟩, ⟨m, hm, em⟩, c2, c3, ⟨d1, d2, d3⟩, z1, z2⟩, h5, h6, h7, h8, h9, h10⟩ := hW
  by_cases hn : n = -1
  · subst hn
    have fr : ∀ k, (1 ≤ k ∧ k ≤ 4) ∨ (37 ≤ k ∧ k ≤ 60) ∨ (82 ≤ k ∧ k ≤ 87) → (zup (zup I 26 1 0) 75 35 0) k = I k := fun k hk => by
      have n1 : ¬ k = 26 := by omega
      have n4 : ¬ k = 75 := by omega
      simp only [zup_row, n1, n4, ↓reduceIte]
    refine md_fin (sp_77a (d := 58) hR) (sp_169a (d := 58) hR) (by simp only [zup_row, Nat.reduceEqDiff, ↓reduceIte]) (by simp only [zup_row, Nat.reduceEqDiff, ↓reduceIte]) (by simp only [zup_row, Nat.reduceEqDiff, ↓reduceIte]; exact hR) ?_
    unfold iW
    simp only [zup_row, Nat.reduceEqDiff, ↓reduceIte]
    exact ⟨h1, iSd_le h2, iSd_le h3, ⟨⟨rfl, a2, a3⟩, ⟨b1, b2, b3, b4⟩, ⟨0, by omega, rfl⟩, c2, c3, ⟨d1, d2, d3⟩, z1, z2⟩, h5, h6, iKn_e2 h7 fr, iTh_e2 h8 fr, iTh_e2 h9 fr, h10⟩
  · by_cases h : 0 ≤ n ∧ n ≤ 999
    · by_cases hf : m < 5
      · have y1 := sp_77c (d := 58) (J := J) hR hn h (a1.trans em) hf
        have y2 := sp_169c (d := 57) (I := zup (zup I 27 m n) 26 1 (nI (m + 1))) (J := J) hR hn h (m := m) (by simp only [zup_row, Nat.reduceEqDiff, ↓reduceIte]; exact em) hf
        have hr := iR_of (k := 999) (by omega) h
        have fr : ∀ k, (1 ≤ k ∧ k ≤ 4) ∨ (37 ≤ k ∧ k ≤ 60) ∨ (82 ≤ k ∧ k ≤ 87) → (zup (zup (zup (zup I 27 m n) 26 1 (nI (m + 1))) 93 m n) 75 35 (nI (m + 1))) k = I k := fun k hk => by
          have n1 : ¬ k = 27 := by omega
          have n2 : ¬ k = 26 := by omega
          have n3 : ¬ k = 93 := by omega
          have n4 : ¬ k = 75 := by omega
          simp only [zup_row, n1, n2, n3, n4, ↓reduceIte]
        refine md_fin y1 y2 (by simp only [zup_row, Nat.reduceEqDiff, ↓reduceIte]) (by simp only [zup_row, Nat.reduceEqDiff, ↓reduceIte]) (by simp only [zup_row, Nat.reduceEqDiff, ↓reduceIte]; exact hR) ?_
        unfold iW
        simp only [zup_row, Nat.reduceEqDiff, ↓reduceIte]
        exact ⟨h1, iSd_le h2, iSd_le h3, ⟨⟨rfl, a2, a3⟩, ⟨by rw [b1], b2, b3, b4⟩, ⟨m + 1, by omega, rfl⟩, c2, c3, ⟨iR_up d1 hr, d2, d3⟩, zN_up z1 hf, z2⟩, h5, h6, iKn_e2 h7 fr, iTh_e2 h8 fr, iTh_e2 h9 fr, h10⟩
      · have e100 : m = 5 := by omega
        subst e100
        exact md_same hW0 hR (sp_77d (d := 58) hR hn h (a1.trans em)) (sp_169d (d := 57) hR hn h em)
    · exact md_same hW0 hR (sp_77b (d := 58) hR hn h) (sp_169b (d := 57) hR hn h))
theorem p01_up {m : Nat} {x : Int32} {f : Nat → Int32} (h : ∀ j, f j = 0 ∨ f j = 1) (hx : x = 0 ∨ x = 1) : ∀ j, (fun b => if b = m then x else f b) j = 0 ∨ (fun b => if b = m then x else f b) j = 1 := fun j => by
  show (if j = m then x else f j) = 0 ∨ (if j = m then x else f j) = 1
  split
  · exact hx
  · exact h j
set_option maxRecDepth 40000 in
theorem pr_82 : qPr (Inv L xs) 82 177 [.int n] := pair_m (fun k I J R c i hk hW hR => by
  have hW0 := hW
  obtain ⟨h1, h2, h3, ⟨⟨a1, a2, a3⟩, ⟨b1, b2, b3, b4⟩, c1, ⟨m, hm, em⟩, c3, ⟨d1, d2, d3⟩, z1, z2, z3⟩, h5, h6, h7, h8, h9, h10⟩ := hW
  by_cases hn : n = -1
  · subst hn
    have fr : ∀ k, (1 ≤ k ∧ k ≤ 4) ∨ (37 ≤ k ∧ k ≤ 60) ∨ (82 ≤ k ∧ k ≤ 87) → (zup (zup I 26 3 0) 75 37 0) k = I k := fun k hk => by
      have n1 : ¬ k = 26 := by omega
      have n4 : ¬ k = 75 := by omega
      simp only [zup_row, n1, n4, ↓reduceIte]
    refine md_fin (sp_82a (d := 58) hR) (sp_177a (d := 58) hR) (by simp only [zup_row, Nat.reduceEqDiff, ↓reduceIte]) (by simp only [zup_row, Nat.reduceEqDiff, ↓reduceIte]) (by simp only [zup_row, Nat.reduceEqDiff, ↓reduceIte]; exact hR) ?_
    unfold iW
    simp only [zup_row, Nat.reduceEqDiff, ↓reduceIte]
    exact ⟨h1, iSd_le h2, iSd_le h3, ⟨⟨a1, rfl, a3⟩, ⟨b1, b2, b3, b4⟩, c1, ⟨0, by omega, rfl⟩, c3, ⟨d1, d2, d3⟩, z1, z2, z3⟩, h5, h6, iKn_e2 h7 fr, iTh_e2 h8 fr, iTh_e2 h9 fr, h10⟩
  · by_cases h : 0 ≤ n ∧ n ≤ 1
    · by_cases hf : m < 10
      · have y1 := sp_82c (d := 58) (J := J) hR hn h (a2.trans em) hf
        have y2 := sp_177c (d := 58) (I := zup (zup I 28 m n) 26 3 (nI (m + 1))) (J := J) hR hn h (m := m) (by simp only [zup_row, Nat.reduceEqDiff, ↓reduceIte]; exact em) hf
        have h01 : n = 0 ∨ n = 1 := by
          obtain ⟨p, hp, rfl⟩ := q_of (k := 1) (by omega) h.1 h.2
          rcases (by omega : p = 0 ∨ p = 1) with rfl | rfl
          · exact .inl rfl
          · exact .inr rfl
        have fr : ∀ k, (1 ≤ k ∧ k ≤ 4) ∨ (37 ≤ k ∧ k ≤ 60) ∨ (82 ≤ k ∧ k ≤ 87) → (zup (zup (zup (zup I 28 m n) 26 3 (nI (m + 1))) 94 m n) 75 37 (nI (m + 1))) k = I k := fun k hk => by
          have n1 : ¬ k = 28 := by omega
          have n2 : ¬ k = 26 := by omega
          have n3 : ¬ k = 94 := by omega
          have n4 : ¬ k = 75 := by omega
          simp only [zup_row, n1, n2, n3, n4, ↓reduceIte]
        refine md_fin y1 y2 (by simp only [zup_row, Nat.reduceEqDiff, ↓reduceIte]) (by simp only [zup_row, Nat.reduceEqDiff, ↓reduceIte]) (by simp only [zup_row, Nat.reduceEqDiff, ↓reduceIte]; exact hR) ?_
        unfold iW
        simp only [zup_row, Nat.reduceEqDiff, ↓reduceIte]
        exact ⟨h1, iSd_le h2, iSd_le h3, ⟨⟨a1, rfl, a3⟩, ⟨b1, by rw [b2], b3, b4⟩, c1, ⟨m + 1, by omega, rfl⟩, c3, ⟨d1, p01_up d2 h01, d3⟩, z1, zN_up z2 hf, z3⟩, h5, h6, iKn_e2 h7 fr, iTh_e2 h8 fr, iTh_e2 h9 fr, h10⟩
      · have e100 : m = 10 := by omega
        subst e100
        exact md_same hW0 hR (sp_82d (d := 58) hR hn h (a2.trans em)) (sp_177d (d := 58) hR hn h em)
    · exact md_same hW0 hR (sp_82b (d := 58) hR hn h) (sp_177b (d := 58) hR hn h))
set_option maxRecDepth 40000 in
theorem pr_84 : qPr (Inv L xs) 84 179 [.int s, .int n] := pair_m (fun k I J R c i hk hW hR => by
  have hW0 := hW
  obtain ⟨q, hq, eq, eq'⟩ := sd_n hW.2.1
  obtain ⟨h1, h2, h3, ⟨⟨a1, a2, a3⟩, ⟨b1, b2, b3, b4⟩, c1, c2, ⟨m, hm, em, hb⟩, ⟨d1, d2, d3⟩, z1, z2, z3, z4⟩, h5, h6, h7, h8, h9, h10⟩ := hW
  by_cases hs : s = -1
  · subst hs
    have fr : ∀ k, (1 ≤ k ∧ k ≤ 4) ∨ (37 ≤ k ∧ k ≤ 60) ∨ (82 ≤ k ∧ k ≤ 87) → (zup (zup I 26 6 0) 75 38 0) k = I k := fun k hk => by
      have n1 : ¬ k = 26 := by omega
      have n4 : ¬ k = 75 := by omega
      simp only [zup_row, n1, n4, ↓reduceIte]
    refine md_fin (sp_84a (d := 58) hR) (sp_179a (d := 57) hR) (by simp only [zup_row, Nat.reduceEqDiff, ↓reduceIte]) (by simp only [zup_row, Nat.reduceEqDiff, ↓reduceIte]) (by simp only [zup_row, Nat.reduceEqDiff, ↓reduceIte]; exact hR) ?_
    unfold iW
    simp only [zup_row, Nat.reduceEqDiff, ↓reduceIte]
    exact ⟨h1, iSd_le h2, iSd_le h3, ⟨⟨a1, a2, rfl⟩, ⟨b1, b2, b3, b4⟩, c1, c2, ⟨0, by omega, rfl, fun z hz => absurd hz (by omega)⟩, ⟨d1, d2, d3⟩, z1, z2, z3, z4⟩, h5, h6, iKn_e2 h7 fr, iTh_e2 h8 fr, iTh_e2 h9 fr, h10⟩
  · rcases sd_in (s := s) hq with ⟨j, hj, rfl⟩ | ⟨g1, g2⟩
    · have q1 : 0 ≤ nI j ∧ nI j < I 5 0 := by rw [eq]; exact (q_st hj (by omega)).mpr trivial
      have q2 : 0 ≤ nI j ∧ nI j ≤ I 75 0 - 1 := by
        rw [eq', show nI q - 1 = nI (q - 1) from q_sub (m := q) (c := 1) (by omega)]
        exact (q_wt (by omega) (by omega)).mpr trivial
      by_cases h : 0 ≤ n ∧ n ≤ 999
      · by_cases hf : m < 8
        · have y1 := sp_84c (d := 58) (J := J) hR hs q1 h (a3.trans em) hf
          have y2 := sp_179c (d := 57) (I := zup (zup (zup I 29 m (nI j)) 30 m n) 26 6 (nI (m + 1))) (J := J) hR hs (by simp only [zup_row, Nat.reduceEqDiff, ↓reduceIte]; exact q2) h (m := m) (by simp only [zup_row, Nat.reduceEqDiff, ↓reduceIte]; exact em) hf
          have hr := iR_of (k := 999) (by omega) h
          have fr : ∀ k, (1 ≤ k ∧ k ≤ 4) ∨ (37 ≤ k ∧ k ≤ 60) ∨ (82 ≤ k ∧ k ≤ 87) → (zup (zup (zup (zup (zup (zup I 29 m (nI j)) 30 m n) 26 6 (nI (m + 1))) 95 m (nI j)) 96 m n) 75 38 (nI (m + 1))) k = I k := fun k hk => by
            have n1 : ¬ k = 29 := by omega
            have n2 : ¬ k = 26 := by omega
            have n3 : ¬ k = 30 := by omega
            have n4 : ¬ k = 75 := by omega
            have n5 : ¬ k = 95 := by omega
            have n6 : ¬ k = 96 := by omega
            simp only [zup_row, n1, n2, n3, n4, n5, n6, ↓reduceIte]
          refine md_fin y1 y2 (by simp only [zup_row, Nat.reduceEqDiff, ↓reduceIte]) (by simp only [zup_row, Nat.reduceEqDiff, ↓reduceIte]) (by simp only [zup_row, Nat.reduceEqDiff, ↓reduceIte]; exact hR) ?_
          unfold iW
          simp only [zup_row, Nat.reduceEqDiff, ↓reduceIte]
          exact ⟨h1, iSd_le h2, iSd_le h3, ⟨⟨a1, a2, rfl⟩, ⟨b1, b2, by rw [b3], by rw [b4]⟩, c1, c2, ⟨m + 1, by omega, rfl, fun z hz => by
            show iR (if z = m then nI j else I 95 z) 0 _
            split
            · rw [eq', nI_toInt (by omega)]
              exact ⟨by rw [nI_toInt (by omega)]; omega, by rw [nI_toInt (by omega)]; omega⟩
            · exact hb z (by omega)⟩, ⟨d1, d2, iR_up d3 hr⟩, z1, z2, zN_up z3 hf, zN_up z4 hf⟩, h5, h6, iKn_e2 h7 fr, iTh_e2 h8 fr, iTh_e2 h9 fr, h10⟩
        · have e100 : m = 8 := by omega
          subst e100
          exact md_same hW0 hR (sp_84d (d := 58) hR hs q1 h (a3.trans em)) (sp_179d (d := 57) hR hs q2 h em)
      · exact md_same hW0 hR (sp_84e (d := 58) hR hs q1 h) (sp_179e (d := 57) hR hs q2 h)
    · exact md_same hW0 hR (sp_84b (d := 58) hR hs (by rw [eq]; exact g1)) (sp_179b (d := 57) hR hs (by rw [eq']; exact g2)))
end MD
