/-! ===== what both sides hold alike between two orders ===== -/
theorem q_nm1 {m : Nat} (h : m < 2147483648) : ¬ nI m = -1 := q_nneg h (n := 1) (by omega) (by omega)
/-- the class's cell of the kitchen that holds -/
def kc (th : Int32) : Nat := if th = -1 then 1 else 37 + 4 * th.toNatClampNeg
def iSd (k : Nat) (n m d n' m' d' : Int32) (q v t f r q' v' t' f' r' : Nat → Int32) : Prop :=
  (n = n' ∧ m = m' ∧ d = d') ∧ (q = q' ∧ v = v' ∧ t = t' ∧ f = f' ∧ r = r') ∧
  (∃ j, j ≤ 6 ∧ n' = nI j) ∧ (∃ j, j ≤ k ∧ m' = nI j) ∧ (∃ j, j ≤ 9999 ∧ d' = nI j) ∧
  ((∀ j, iR (q' j) 0 6) ∧ (∀ j, iR (v' j) 0 9) ∧ (∀ j, iR (t' j) 0 999) ∧ (∀ j, iR (f' j) 0 99999) ∧ ∀ j, iR (r' j) 0 9) ∧
  (zN 6 q' ∧ zN 6 v' ∧ zN 6 t' ∧ zN 6 f' ∧ zN 24 r')
def iNt (n : Int32) (a b c a' b' c' : Int32) (s p w l s' p' w' l' : Nat → Int32) : Prop :=
  (a = a' ∧ b = b' ∧ c = c') ∧ (s = s' ∧ p = p' ∧ w = w' ∧ l = l') ∧
  (∃ j, j ≤ 5 ∧ a' = nI j) ∧ (∃ j, j ≤ 10 ∧ b' = nI j) ∧ (∃ j, j ≤ 8 ∧ c' = nI j ∧ ∀ z, z < j → iR (w' z) 0 (n.toInt - 1)) ∧
  ((∀ j, iR (s' j) 0 999) ∧ (∀ j, p' j = 0 ∨ p' j = 1) ∧ ∀ j, iR (l' j) 0 999) ∧
  (zN 5 s' ∧ zN 10 p' ∧ zN 8 w' ∧ zN 8 l')
def iTx (n n' : Int32) (t t' : Nat → Int32) : Prop := (n = n' ∧ ∃ j, j ≤ 100 ∧ n' = nI j) ∧ t = t' ∧ ∀ j, iR (t' j) 0 127
/-- the class's kitchen (numbers g l h, rows) is the model's f-th -/
def iKr (f : Nat) (jn g l h : Int32) (ch ce co : Nat → Int32) (cl wd nu fr to sg : Nat → Int32) : Prop :=
  ∃ j cn, (jn = nI j ∧ gKw j ch ce co ∧ cn ≤ 10 ∧ cl f = nI cn) ∧ (g = gLa wd nu 2 (10 * f) cn 1 ∧ l = gLa wd nu 3 (10 * f) cn 2 ∧ h = gHa wd (10 * f) cn 0) ∧ (iR g 0 99 ∧ iR l 0 99 ∧ (h = 0 ∨ h = 1)) ∧ gCl ch ce co wd nu fr to sg (100 * f) (10 * f) cn 0 j
def iKn (kx km : Int32) (I : zI) : Prop := kx = km ∧ (∃ kn, kn ≤ 6 ∧ km = nI kn ∧ ∀ f, f < kn → iKr f (I (37 + 4 * f) 2) (I (37 + 4 * f) 5) (I (37 + 4 * f) 6) (I (37 + 4 * f) 7) (I (38 + 4 * f)) (I (39 + 4 * f)) (I (40 + 4 * f)) (I 82) (I 83) (I 84) (I 85) (I 86) (I 87)) ∧ (I 1 2 = 0 ∧ I 1 5 = 1 ∧ I 1 6 = 2 ∧ I 1 7 = 0)
/-- which kitchen holds; GIVE, LEAVE, HALF as it tells -/
def iTh (km th g l h : Int32) (I : zI) : Prop := (th = -1 ∨ ∃ f, th = nI f ∧ f < 6 ∧ th < km) ∧ g = I (kc th) 5 ∧ l = I (kc th) 6 ∧ h = I (kc th) 7
def iMd (g l h m : Int32) (le : Nat → Int32) : Prop := (g = -1 ∧ l = -1 ∧ h = -1 ∧ m = 99999) ∧ le = fun j => ([111, 118, 101, 114, 117, 110, 100, 101, 114, 103, 105, 118, 101, 108, 101, 97, 118, 101, 104, 97, 108, 102, 97, 108, 108] : List Int32).getD j 0
def iPi (p p' : Int32) : Prop := p = p' ∧ (p = 0 ∨ p = 1)
def iAc (r r' : Int32) (b b' : Nat → Int32) : Prop := r = r' ∧ b = b'
def iTp (so sz so' sz' : Nat → Int32) (J : zJ) : Prop := so = so' ∧ ∀ t, t < 6 → so' t = -1 ∨ (iR (so' t) 0 4 ∧ sz t = sz' t ∧ ∃ m, m ≤ 60 ∧ sz' t = nI m ∧ ∀ j, j < m → J (69 + t) j = J 109 (60 * t + j))
def iTr (a b c e : Nat → Int32) : Prop := zN 6 a ∧ zN 6 b ∧ zN 6 c ∧ zN 24 e
def iW (L : Nat) (xs : Nat → Int32) (k : Nat) (I : zI) (J : zJ) : Prop :=
  (I 1021 = xs ∧ I 1022 0 = Int32.ofNat L) ∧
  iSd k (I 5 0) (I 5 6) (I 5 7) (I 75 0) (I 75 1) (I 75 2) (I 6) (I 7) (I 8) (I 9) (I 10) (I 76) (I 77) (I 78) (I 79) (I 80) ∧
  iSd k (I 12 0) (I 12 6) (I 12 7) (I 75 44) (I 75 45) (I 75 46) (I 13) (I 14) (I 15) (I 16) (I 17) (I 97) (I 98) (I 99) (I 100) (I 101) ∧
  iNt (I 75 0) (I 26 1) (I 26 3) (I 26 6) (I 75 35) (I 75 37) (I 75 38) (I 27) (I 28) (I 29) (I 30) (I 93) (I 94) (I 95) (I 96) ∧
  iNt (I 75 44) (I 31 1) (I 31 3) (I 31 6) (I 75 47) (I 75 48) (I 75 49) (I 32) (I 33) (I 34) (I 35) (I 102) (I 103) (I 104) (I 105) ∧
  iTx (I 61 1) (I 75 10) (I 62) (I 81) ∧
  iKn (I 0 7) (I 75 8) I ∧
  iTh (I 75 8) (I 75 9) (I 5 9) (I 5 10) (I 5 11) I ∧
  iTh (I 75 8) (I 75 43) (I 12 9) (I 12 10) (I 12 11) I ∧
  iMd (I 75 25) (I 75 26) (I 75 27) (I 75 29) (I 89) ∧
  iPi (I 0 4) (I 75 42) ∧
  iAc (I 63 1) (I 75 59) (I 64) (I 106) ∧
  iTp (I 66) (I 67) (I 107) (I 108) J ∧
  iTr (I 20) (I 21) (I 22) (I 24)
def Inv (L : Nat) (xs : Nat → Int32) (k : Nat) (w : zW) : Prop := w.2.2.2 = 111 ∧ (∃ c i, qRk w.2.2.1 (kc (w.1 75 9)) (kc (w.1 75 43)) c i) ∧ iW L xs k w.1 w.2.1
/-- cells that stay -/
abbrev kp (k : Nat) : Prop := k < 5 ∨ (5 < k ∧ k < 11) ∨ (11 < k ∧ k < 19) ∨ (25 < k ∧ k < 75) ∨ (75 < k ∧ k < 88) ∨ k = 89 ∨ 92 < k
/-- the same but for what is only used on the way -/
def eqS (I I' : zI) : Prop := (∀ k, kp k → I' k = I k) ∧ (∀ j, j ≠ 13 → j ≠ 14 → j ≠ 15 → I' 5 j = I 5 j) ∧ ∀ j, j ≠ 11 → j ≠ 12 → j ≠ 21 → j ≠ 22 → j ≠ 23 → j ≠ 30 → j ≠ 31 → j ≠ 32 → I' 75 j = I 75 j
theorem eqS_r (I : zI) : eqS I I := ⟨fun _ _ => rfl, fun _ _ _ _ => rfl, fun _ _ _ _ _ _ _ _ _ => rfl⟩
theorem eqS_t {I I1 I2 : zI} (h : eqS I I1) (q : eqS I1 I2) : eqS I I2 := ⟨fun k a => (q.1 k a).trans (h.1 k a), fun j a b c => (q.2.1 j a b c).trans (h.2.1 j a b c), fun j a b c d e f g i => (q.2.2 j a b c d e f g i).trans (h.2.2 j a b c d e f g i)⟩
theorem iSd_le {k : Nat} {n m d n' m' d' : Int32} {q v t f r q' v' t' f' r' : Nat → Int32} (h : iSd k n m d n' m' d' q v t f r q' v' t' f' r') : iSd (k + 1) n m d n' m' d' q v t f r q' v' t' f' r' := by
  obtain ⟨h1, h2, h3, ⟨j, hj, e⟩, h5⟩ := h
  exact ⟨h1, h2, h3, ⟨j, by omega, e⟩, h5⟩
theorem kc_kt {th km : Int32} (h : th = -1 ∨ ∃ f, th = nI f ∧ f < 6 ∧ th < km) : zKt (kc th) := by
  rcases h with rfl | ⟨f, rfl, hf, _⟩
  · exact .inl rfl
  · unfold kc
    rw [if_neg (q_nm1 (by omega)), nI_clamp (by omega)]
    unfold zKt
    omega
theorem zKt_kp {K k : Nat} (h : zKt K) (h1 : K ≤ k) (h2 : k ≤ K + 3) : kp k := by
  unfold zKt at h
  unfold kp
  omega
theorem eq75 {I I' : zI} (e : eqS I I') (j : Nat) (h : (j ≠ 11 ∧ j ≠ 12 ∧ j ≠ 21 ∧ j ≠ 22) ∧ j ≠ 23 ∧ j ≠ 30 ∧ j ≠ 31 ∧ j ≠ 32) : I' 75 j = I 75 j := e.2.2 j h.1.1 h.1.2.1 h.1.2.2.1 h.1.2.2.2 h.2.1 h.2.2.1 h.2.2.2.1 h.2.2.2.2
theorem iKn_eq {kx km : Int32} {I I' : zI} (h : iKn kx km I) (e : ∀ k, kp k → I' k = I k) : iKn kx km I' := by
  have p : ∀ f, f < 6 → kp (37 + 4 * f) ∧ kp (38 + 4 * f) ∧ kp (39 + 4 * f) ∧ kp (40 + 4 * f) := by
    intro f hf
    unfold kp
    omega
  obtain ⟨h1, ⟨kn, h2, h3, h4⟩, h5⟩ := h
  refine ⟨h1, ⟨kn, h2, h3, fun f hf => ?_⟩, ?_⟩
  · obtain ⟨p1, p2, p3, p4⟩ := p f (by omega)
    rw [e _ p1, e _ p2, e _ p3, e _ p4, e 82 (by decide), e 83 (by decide), e 84 (by decide), e 85 (by decide), e 86 (by decide), e 87 (by decide)]
    exact h4 f hf
  · rw [e 1 (by decide)]
    exact h5
theorem iTh_eq {km th g l h : Int32} {I I' : zI} (q : iTh km th g l h I) (e : ∀ k, kp k → I' k = I k) : iTh km th g l h I' := by
  have z := zKt_kp (kc_kt q.1) (Nat.le_refl _) (by omega)
  unfold iTh at q ⊢
  rw [e _ z]
  exact q
theorem iW_eq {L : Nat} {xs : Nat → Int32} {k : Nat} {I I' : zI} {J : zJ} (h : iW L xs k I J) (e : eqS I I') (t : iTr (I' 20) (I' 21) (I' 22) (I' 24)) : iW L xs (k + 1) I' J := by
  obtain ⟨h1, h2, h3, h4, h5, h6, h7, h8, h9, h10, h11, h12, h13, _⟩ := h
  have a := e.1
  have b := e.2.1
  have c := eq75 e
  unfold iW
  rw [a 1021 (by decide), a 1022 (by decide), b 0 (by decide) (by decide) (by decide), b 6 (by decide) (by decide) (by decide), b 7 (by decide) (by decide) (by decide), b 9 (by decide) (by decide) (by decide), b 10 (by decide) (by decide) (by decide), b 11 (by decide) (by decide) (by decide)]
  rw [c 0 (by decide), c 1 (by decide), c 2 (by decide), c 8 (by decide), c 9 (by decide), c 10 (by decide), c 25 (by decide), c 26 (by decide), c 27 (by decide), c 29 (by decide), c 35 (by decide), c 37 (by decide), c 38 (by decide), c 42 (by decide), c 43 (by decide), c 44 (by decide), c 45 (by decide), c 46 (by decide), c 47 (by decide), c 48 (by decide), c 49 (by decide), c 59 (by decide)]
  rw [a 6 (by decide), a 7 (by decide), a 8 (by decide), a 9 (by decide), a 10 (by decide), a 12 (by decide), a 13 (by decide), a 14 (by decide), a 15 (by decide), a 16 (by decide), a 17 (by decide), a 26 (by decide), a 27 (by decide), a 28 (by decide), a 29 (by decide), a 30 (by decide), a 31 (by decide), a 32 (by decide), a 33 (by decide), a 34 (by decide), a 35 (by decide), a 61 (by decide), a 62 (by decide), a 0 (by decide), a 63 (by decide), a 64 (by decide), a 66 (by decide), a 67 (by decide)]
  rw [a 76 (by decide), a 77 (by decide), a 78 (by decide), a 79 (by decide), a 80 (by decide), a 81 (by decide), a 89 (by decide), a 93 (by decide), a 94 (by decide), a 95 (by decide), a 96 (by decide), a 97 (by decide), a 98 (by decide), a 99 (by decide), a 100 (by decide), a 101 (by decide), a 102 (by decide), a 103 (by decide), a 104 (by decide), a 105 (by decide), a 106 (by decide), a 107 (by decide), a 108 (by decide)]
  exact ⟨h1, iSd_le h2, iSd_le h3, h4, h5, h6, iKn_eq h7 a, iTh_eq h8 a, iTh_eq h9 a, h10, h11, h12, h13, t⟩
/-! what is asked of: the sides as they are -/
def gSof (I : zI) : gS := ((I 75 0).toNatClampNeg, I 76, I 77, I 80, I 5 9, I 5 10, I 5 11, fun L => gMs (I (kc (I 75 9) + 1)) (I (kc (I 75 9) + 2)) (I (kc (I 75 9) + 3)) L (I (kc (I 75 9)) 2).toNatClampNeg)
def gDof (I : zI) : gD := (I 78, (I 75 1).toNatClampNeg, I 75 2)
theorem gSof_eq {L : Nat} {xs : Nat → Int32} {k : Nat} {I I' : zI} {J : zJ} (h : iW L xs k I J) (e : eqS I I') : gSof I' = gSof I ∧ gDof I' = gDof I := by
  have a := e.1
  have b := e.2.1
  have c := eq75 e
  have z := kc_kt h.2.2.2.2.2.2.2.1.1
  unfold gSof gDof
  rw [c 0 (by decide), c 1 (by decide), c 2 (by decide), c 9 (by decide), b 9 (by decide) (by decide) (by decide), b 10 (by decide) (by decide) (by decide), b 11 (by decide) (by decide) (by decide), a 76 (by decide), a 77 (by decide), a 78 (by decide), a 80 (by decide), a _ (zKt_kp z (Nat.le_refl _) (by omega)), a _ (zKt_kp z (by omega) (show kc (I 75 9) + 1 ≤ _ by omega)), a _ (zKt_kp z (by omega) (show kc (I 75 9) + 2 ≤ _ by omega)), a _ (zKt_kp z (by omega) (show kc (I 75 9) + 3 ≤ _ by omega))]
  exact ⟨rfl, rfl⟩
/-- the views that an Inv gives -/
theorem iW_open {L : Nat} {xs : Nat → Int32} {k : Nat} {I : zI} {J : zJ} (h : iW L xs k I J) (hk : k < 600) : (cV_5 (gSof I) (gDof I) I ∧ kV (kc (I 75 9)) (gSof I) I ∧ mV (gSof I) (gDof I) I ∧ mK (gSof I) I ∧ zKt (kc (I 75 9))) ∧ gB (gSof I) ∧ (∀ s, iR (g_l (gDof I) s) 0 999) ∧ g_m (gDof I) ≤ k ∧ (zN 6 (I 6) ∧ zN 6 (I 7) ∧ zN 6 (I 8) ∧ zN 24 (I 10)) ∧ (I 5 11 = 0 ∨ I 5 11 = 1) := by
  obtain ⟨h1, ⟨⟨s1, s2, s3⟩, ⟨s4, s5, s6, s7, s8⟩, ⟨n, hn, sn⟩, ⟨m, hm, sm⟩, ⟨d, hd, sd⟩, ⟨r1, r2, r3, r4, r5⟩, z1, z2, z3, z4, z5⟩, h3, h4, h5, h6, ⟨k1, ⟨kn, k2, k3, k4⟩, p1, p2, p3, p4⟩, ⟨t1, t2, t3, t4⟩, h9, ⟨⟨m1, m2, m3, m4⟩, _⟩, _⟩ := h
  have hz := kc_kt t1
  have en : (I 75 0).toNatClampNeg = n := by rw [sn, nI_clamp (by omega)]
  have em : (I 75 1).toNatClampNeg = m := by rw [sm, nI_clamp (by omega)]
  -- the kitchen that holds
  have key : ∃ j cn o bg, (I (kc (I 75 9)) 2 = nI j ∧ gKw j (I (kc (I 75 9) + 1)) (I (kc (I 75 9) + 2)) (I (kc (I 75 9) + 3))) ∧ (mB bg (bg + cn) I ∧ o ≤ 500) ∧ (I 5 9 = gLa (I 83) (I 84) 2 bg cn 1 ∧ I 5 10 = gLa (I 83) (I 84) 3 bg cn 2 ∧ I 5 11 = gHa (I 83) bg cn 0) ∧ (iR (I 5 9) 0 99 ∧ iR (I 5 10) 0 99 ∧ (I 5 11 = 0 ∨ I 5 11 = 1)) ∧ gCl (I (kc (I 75 9) + 1)) (I (kc (I 75 9) + 2)) (I (kc (I 75 9) + 3)) (I 83) (I 84) (I 85) (I 86) (I 87) o bg cn 0 j := by
    rcases t1 with e | ⟨f, e, hf, hlt⟩
    · rw [e] at t2 t3 t4 ⊢
      have ek : kc (-1) = 1 := rfl
      rw [ek] at t2 t3 t4 ⊢
      rw [t2, t3, t4, p2, p3, p4]
      refine ⟨0, 0, 0, 0, ⟨p1, by omega, fun i hi => absurd hi (by omega)⟩, ⟨.inl ⟨e, rfl, rfl⟩, by omega⟩, ⟨rfl, rfl, rfl⟩, ⟨⟨by decide, by decide⟩, ⟨by decide, by decide⟩, .inl rfl⟩, rfl⟩
    · have ek : kc (I 75 9) = 37 + 4 * f := by
        rw [e]
        unfold kc
        rw [if_neg (q_nm1 (by omega)), nI_clamp (by omega)]
      have hfk : f < kn := by
        rw [e, k3] at hlt
        exact (q_lt3 (by omega) (by omega)).mp hlt
      obtain ⟨j, cn, ⟨a1, a2, a3, a4⟩, ⟨b1, b2, b3⟩, ⟨c1, c2, c3⟩, d1⟩ := k4 f hfk
      rw [ek] at t2 t3 t4 ⊢
      rw [t2, t3, t4]
      refine ⟨j, cn, 100 * f, 10 * f, ⟨a1, ?_⟩, ⟨.inr ⟨f, cn, hf, a3, e, a4, rfl, rfl⟩, by omega⟩, ⟨b1, b2, b3⟩, ⟨c1, c2, c3⟩, ?_⟩
      · rw [show 37 + 4 * f + 1 = 38 + 4 * f from by omega, show 37 + 4 * f + 2 = 39 + 4 * f from by omega, show 37 + 4 * f + 3 = 40 + 4 * f from by omega]
        exact a2
      · rw [show 37 + 4 * f + 1 = 38 + 4 * f from by omega, show 37 + 4 * f + 2 = 39 + 4 * f from by omega, show 37 + 4 * f + 3 = 40 + 4 * f from by omega]
        exact d1
  obtain ⟨j, cn, o, bg, ⟨a1, a2⟩, ⟨b1, b2⟩, ⟨c1, c2, c3⟩, ⟨d1, d2, d3⟩, e1⟩ := key
  have ej : (I (kc (I 75 9)) 2).toNatClampNeg = j := by rw [a1, nI_clamp (by have := a2.1; omega)]
  have emi : g_mi (gSof I) = fun L => gMs (I (kc (I 75 9) + 1)) (I (kc (I 75 9) + 2)) (I (kc (I 75 9) + 3)) L j := by
    show (fun L => gMs _ _ _ L (I (kc (I 75 9)) 2).toNatClampNeg) = _
    rw [ej]
  refine ⟨⟨⟨⟨?_, s4, s5, s6, s8⟩, ?_, s3, rfl, rfl, rfl⟩, ⟨j, ⟨a1, a2⟩, emi⟩, ⟨⟨?_, rfl, rfl, rfl, rfl⟩, ?_, rfl⟩, ?_, hz⟩, ⟨?_, r2, r5, d1, d2, ?_⟩, r3, ?_, ⟨?_, ?_, ?_, ?_⟩, d3⟩
  · show I 5 0 = nI (I 75 0).toNatClampNeg
    rw [en, s1, sn]
  · show I 5 6 = nI (I 75 1).toNatClampNeg
    rw [em, s2, sm]
  · show I 75 0 = nI (I 75 0).toNatClampNeg
    rw [en, sn]
  · show I 75 1 = nI (I 75 1).toNatClampNeg
    rw [em, sm]
  · refine ⟨bg, bg + cn, o, j, _, _, _, ⟨b1, b2, a2⟩, ?_, ?_, ?_, ?_, emi⟩
    · rw [m1, if_pos (by decide), Nat.add_sub_cancel_left]
      exact c1
    · rw [m2, if_pos (by decide), Nat.add_sub_cancel_left]
      exact c2
    · rw [m3, if_pos (by decide), Nat.add_sub_cancel_left]
      exact c3
    · rw [Nat.add_sub_cancel_left]
      exact e1
  · show (I 75 0).toNatClampNeg ≤ 6
    rw [en]
    exact hn
  · intro L
    rw [emi]
    obtain ⟨x1, x2⟩ := gMs_b (L := L) a2 j (Nat.le_refl _)
    have := a2.1
    unfold iR
    dsimp only
    exact ⟨by omega, by omega⟩
  · show (I 75 1).toNatClampNeg ≤ k
    rw [em]
    exact hm
  · rw [s4]; exact z1
  · rw [s5]; exact z2
  · rw [s6]; exact z3
  · rw [s8]; exact z5
