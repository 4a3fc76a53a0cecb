/-! ===== last kitchen: both sides hold alike behind it ===== -/
section KP
theorem gLa_e {wd nu wd' nu' : Nat → Int32} {w : Int32} : ∀ (k c : Nat) (n : Int32), (∀ x, c ≤ x → x < c + k → wd' x = wd x ∧ nu' x = nu x) → gLa wd' nu' w c k n = gLa wd nu w c k n
  | 0, c, n, e => rfl
  | k + 1, c, n, e => by
    obtain ⟨e1, e2⟩ := e c (Nat.le_refl _) (by omega)
    show gLa wd' nu' w (c + 1) k (if wd' c = w then nu' c else n) = gLa wd nu w (c + 1) k (if wd c = w then nu c else n)
    rw [e1, e2]
    exact gLa_e k (c + 1) _ (fun x h1 h2 => e x (by omega) (by omega))
theorem gHa_e {wd wd' : Nat → Int32} : ∀ (k c : Nat) (n : Int32), (∀ x, c ≤ x → x < c + k → wd' x = wd x) → gHa wd' c k n = gHa wd c k n
  | 0, c, n, e => rfl
  | k + 1, c, n, e => by
    have e1 := e c (Nat.le_refl _) (by omega)
    show gHa wd' (c + 1) k (if 4 ≤ wd' c then (if wd' c = 4 then 1 else 0) else n) = gHa wd (c + 1) k (if 4 ≤ wd c then (if wd c = 4 then 1 else 0) else n)
    rw [e1]
    exact gHa_e k (c + 1) _ (fun x h1 h2 => e x (by omega) (by omega))
theorem gCl_e {ch en co wd nu fr to sg wd' nu' fr' to' sg' : Nat → Int32} {o j : Nat} (hk : ∀ i, i < j → gFr en (i + 1) ≤ 100) (es : ∀ z, z < 100 → sg' (o + z) = sg (o + z)) : ∀ (k c i : Nat), (∀ x, c ≤ x → x < c + k → (wd' x = wd x ∧ nu' x = nu x) ∧ fr' x = fr x ∧ to' x = to x) → gCl ch en co wd nu fr to sg o c k i j → gCl ch en co wd' nu' fr' to' sg' o c k i j
  | 0, c, i, e, h => h
  | k + 1, c, i, e, h => by
    obtain ⟨⟨e1, e2⟩, e3, e4⟩ := e c (Nat.le_refl _) (by omega)
    have et : ∀ x, c + 1 ≤ x → x < c + 1 + k → (wd' x = wd x ∧ nu' x = nu x) ∧ fr' x = fr x ∧ to' x = to x := fun x h1 h2 => e x (by omega) (by omega)
    rcases h with ⟨h1, h2, h3, h4, h5, h6, h7⟩ | ⟨h1, h2⟩
    · left
      have k1 := hk i h5
      refine ⟨by rw [e1]; exact h1, by rw [e1, e2]; exact h2, by rw [e3]; exact h3, by rw [e4]; exact h4, h5, fun z z1 z2 => ?_, gCl_e hk es k (c + 1) (i + 1) et h7⟩
      rw [es z (by omega)]
      exact h6 z z1 z2
    · right
      exact ⟨by rw [e1]; exact h1, gCl_e hk es k (c + 1) i et h2⟩
theorem iKr_e {f : Nat} {jn g l h : Int32} {ch ce co cl wd nu fr to sg cl' wd' nu' fr' to' sg' : Nat → Int32} (q : iKr f jn g l h ch ce co cl wd nu fr to sg) (e1 : cl' f = cl f) (e2 : ∀ x, 10 * f ≤ x → x < 10 * f + 10 → (wd' x = wd x ∧ nu' x = nu x) ∧ fr' x = fr x ∧ to' x = to x) (e3 : ∀ z, z < 100 → sg' (100 * f + z) = sg (100 * f + z)) : iKr f jn g l h ch ce co cl' wd' nu' fr' to' sg' := by
  obtain ⟨j, cn, ⟨h1, h2, h3, h4⟩, ⟨h5, h6, h7⟩, h8, h9⟩ := q
  refine ⟨j, cn, ⟨h1, h2, h3, by rw [e1]; exact h4⟩, ⟨?_, ?_, ?_⟩, h8, ?_⟩
  · rw [gLa_e cn (10 * f) 1 (fun x a b => (e2 x a (by omega)).1)]
    exact h5
  · rw [gLa_e cn (10 * f) 2 (fun x a b => (e2 x a (by omega)).1)]
    exact h6
  · rw [gHa_e cn (10 * f) 0 (fun x a b => (e2 x a (by omega)).1.1)]
    exact h7
  · exact gCl_e (fun i hi => (h2.2 i hi).2.1) e3 cn (10 * f) 0 (fun x a b => e2 x a (by omega)) h9
/-- the new kitchen -/
theorem iKr_n {f : Nat} {js : List (Int32 × Nat)} {g l h : Int32} {L : List kCs} {cs : List kSy} {ch ce co cl wd nu fr to sg : Nat → Int32} (hF : kFo L js g l h) (hL : kLs L 0 cs) (h100 : cs.length ≤ 100) (h10 : L.length ≤ 10) (hcl : cl f = nI L.length) (hm : kRm wd nu fr to (100 * f) (10 * f) 0 L) (hj : kRj ch ce 0 js) (hc : kRc co sg (100 * f) 0 cs) : iKr f (nI js.length) g l h ch ce co cl wd nu fr to sg := by
  obtain ⟨rfl, rfl, rfl, rfl⟩ := hF
  have ej : L.foldl kSj [] = kJs L := kJs_f L []
  rw [ej] at hj ⊢
  have lj := kJs_l L
  obtain ⟨b1, b2⟩ := kL_gb L 0 cs 1 2 hL (iR_99 (m := 1) (by decide)) (iR_99 (m := 2) (by decide))
  refine ⟨(kJs L).length, L.length, ⟨rfl, ⟨by omega, fun i hi => ?_⟩, h10, hcl⟩, ⟨?_, ?_, ?_⟩, ⟨b1, b2, kSH_b L 0 (.inl rfl)⟩, ?_⟩
  · exact kL_kw L 0 0 cs hL (by omega) hj (fun x z hz => (hc x z hz).1) rfl i (Nat.zero_le _) (by omega)
  · exact (kL_g L (10 * f) 0 cs 1 hL hm).symm
  · exact (kL_l L (10 * f) 0 cs 2 hL hm).symm
  · exact (kL_h L (10 * f) 0 cs 0 hL hm).symm
  · have z := kL_cl (ch := ch) (en := ce) (co := co) (sg := sg) L (10 * f) 0 0 cs hL (by omega) hm hj hc rfl
    rw [Nat.zero_add] at z
    exact z
/-- the same but for what a text touches -/
def eqT (I I' : zI) : Prop := (∀ k, (k ≠ 0 ∧ k ≠ 5 ∧ k ≠ 61 ∧ k ≠ 75) → (k < 37 ∨ 60 < k) → (k < 82 ∨ 88 < k) → I' k = I k) ∧ (∀ j, j ≠ 7 → I' 0 j = I 0 j) ∧ (∀ j, (j < 9 ∨ 11 < j) → I' 5 j = I 5 j) ∧ (∀ j, (j < 8 ∨ 12 < j) → (j < 21 ∨ 23 < j) → I' 75 j = I 75 j) ∧ I' 61 1 = 0 ∧ I' 75 10 = 0
theorem iW_txt {L : Nat} {xs : Nat → Int32} {k : Nat} {I I' : zI} {J : zJ} (q : iW L xs k I J) (e : eqT I I') (hK : iKn (I' 0 7) (I' 75 8) I') (hT : iTh (I' 75 8) (I' 75 9) (I' 5 9) (I' 5 10) (I' 5 11) I') (hP : iTh (I' 75 8) (I' 75 43) (I' 12 9) (I' 12 10) (I' 12 11) I') : iW L xs (k + 1) I' J := by
  obtain ⟨h1, h2, h3, h4, h5, h6, h7, h8, h9, h10, h11, h12, h13, h14⟩ := q
  obtain ⟨a, a0, a5, a75, a61, a10⟩ := e
  refine ⟨?_, ?_, ?_, ?_, ?_, ?_, hK, hT, hP, ?_, ?_, ?_, ?_, ?_⟩
  · rw [a 1021 (by decide) (by decide) (by decide), a 1022 (by decide) (by decide) (by decide)]
    exact h1
  · rw [a5 0 (by decide), a5 6 (by decide), a5 7 (by decide), a75 0 (by decide) (by decide), a75 1 (by decide) (by decide), a75 2 (by decide) (by decide), a 6 (by decide) (by decide) (by decide), a 7 (by decide) (by decide) (by decide), a 8 (by decide) (by decide) (by decide), a 9 (by decide) (by decide) (by decide), a 10 (by decide) (by decide) (by decide), a 76 (by decide) (by decide) (by decide), a 77 (by decide) (by decide) (by decide), a 78 (by decide) (by decide) (by decide), a 79 (by decide) (by decide) (by decide), a 80 (by decide) (by decide) (by decide)]
    exact iSd_le h2
  · rw [a75 44 (by decide) (by decide), a75 45 (by decide) (by decide), a75 46 (by decide) (by decide), a 12 (by decide) (by decide) (by decide), a 13 (by decide) (by decide) (by decide), a 14 (by decide) (by decide) (by decide), a 15 (by decide) (by decide) (by decide), a 16 (by decide) (by decide) (by decide), a 17 (by decide) (by decide) (by decide), a 97 (by decide) (by decide) (by decide), a 98 (by decide) (by decide) (by decide), a 99 (by decide) (by decide) (by decide), a 100 (by decide) (by decide) (by decide), a 101 (by decide) (by decide) (by decide)]
    exact iSd_le h3
  · rw [a75 0 (by decide) (by decide), a75 35 (by decide) (by decide), a75 37 (by decide) (by decide), a75 38 (by decide) (by decide), a 26 (by decide) (by decide) (by decide), a 27 (by decide) (by decide) (by decide), a 28 (by decide) (by decide) (by decide), a 29 (by decide) (by decide) (by decide), a 30 (by decide) (by decide) (by decide), a 93 (by decide) (by decide) (by decide), a 94 (by decide) (by decide) (by decide), a 95 (by decide) (by decide) (by decide), a 96 (by decide) (by decide) (by decide)]
    exact h4
  · rw [a75 44 (by decide) (by decide), a75 47 (by decide) (by decide), a75 48 (by decide) (by decide), a75 49 (by decide) (by decide), a 31 (by decide) (by decide) (by decide), a 32 (by decide) (by decide) (by decide), a 33 (by decide) (by decide) (by decide), a 34 (by decide) (by decide) (by decide), a 35 (by decide) (by decide) (by decide), a 102 (by decide) (by decide) (by decide), a 103 (by decide) (by decide) (by decide), a 104 (by decide) (by decide) (by decide), a 105 (by decide) (by decide) (by decide)]
    exact h5
  · rw [a61, a10, a 62 (by decide) (by decide) (by decide), a 81 (by decide) (by decide) (by decide)]
    exact ⟨⟨rfl, 0, Nat.zero_le _, rfl⟩, h6.2⟩
  · rw [a75 25 (by decide) (by decide), a75 26 (by decide) (by decide), a75 27 (by decide) (by decide), a75 29 (by decide) (by decide), a 89 (by decide) (by decide) (by decide)]
    exact h10
  · rw [a0 4 (by decide), a75 42 (by decide) (by decide)]
    exact h11
  · rw [a 63 (by decide) (by decide) (by decide), a75 59 (by decide) (by decide), a 64 (by decide) (by decide) (by decide), a 106 (by decide) (by decide) (by decide)]
    exact h12
  · rw [a 66 (by decide) (by decide) (by decide), a 67 (by decide) (by decide) (by decide), a 107 (by decide) (by decide) (by decide), a 108 (by decide) (by decide) (by decide)]
    exact h13
  · rw [a 20 (by decide) (by decide) (by decide), a 21 (by decide) (by decide) (by decide), a 22 (by decide) (by decide) (by decide), a 24 (by decide) (by decide) (by decide)]
    exact h14
theorem kc_old {th : Int32} {kn : Nat} (h6 : kn ≤ 6) (h : th = -1 ∨ ∃ f, th = nI f ∧ f < 6 ∧ th < nI kn) : kc th = 1 ∨ (37 ≤ kc th ∧ kc th < 37 + 4 * kn) := by
  rcases h with rfl | ⟨f, rfl, hf, hl⟩
  · exact .inl rfl
  · have h1 : f < kn := by
      rcases Nat.lt_or_ge f kn with z | z
      · exact z
      · exact absurd hl (q_tnl (m := f) (n := kn) z (by omega))
    right
    unfold kc
    rw [if_neg (q_nm1 (by omega)), nI_clamp (by omega)]
    omega
theorem iTh_txt {I I' : zI} {kn km : Nat} {th g l h : Int32} (q : iTh (nI kn) th g l h I) (h6 : kn ≤ 6) (hle : kn ≤ km) (hkm : km ≤ 6) (e1 : I' 1 = I 1) (eK : ∀ k, 37 ≤ k → k < 37 + 4 * kn → I' k = I k) : iTh (nI km) th g l h I' := by
  obtain ⟨h1, h2, h3, h4⟩ := q
  have e : I' (kc th) = I (kc th) := by
    rcases kc_old h6 h1 with z | ⟨z1, z2⟩
    · rw [z]
      exact e1
    · exact eK _ z1 z2
  refine ⟨?_, by rw [e]; exact h2, by rw [e]; exact h3, by rw [e]; exact h4⟩
  rcases h1 with h1 | ⟨f, h1, hf, hl⟩
  · exact .inl h1
  · refine .inr ⟨f, h1, hf, ?_⟩
    rw [h1] at hl ⊢
    have h5 : f < kn := by
      rcases Nat.lt_or_ge f kn with z | z
      · exact z
      · exact absurd hl (q_tnl (m := f) (n := kn) z (by omega))
    exact q_tlt (m := f) (n := km) (by omega) (by omega)
/-- rows of the older kitchens -/
def eqO (I I' : zI) (f : Nat) : Prop := (∀ k, 37 ≤ k → k < 37 + 4 * f → I' k = I k) ∧ ∀ m, m < f → I' 82 m = I 82 m ∧ (∀ x, 10 * m ≤ x → x < 10 * m + 10 → (I' 83 x = I 83 x ∧ I' 84 x = I 84 x) ∧ I' 85 x = I 85 x ∧ I' 86 x = I 86 x) ∧ ∀ z, z < 100 → I' 87 (100 * m + z) = I 87 (100 * m + z)
theorem iKr_old {I I' : zI} {f m : Nat} (e : eqO I I' f) (hm : m < f) (q : iKr m (I (37 + 4 * m) 2) (I (37 + 4 * m) 5) (I (37 + 4 * m) 6) (I (37 + 4 * m) 7) (I (38 + 4 * m)) (I (39 + 4 * m)) (I (40 + 4 * m)) (I 82) (I 83) (I 84) (I 85) (I 86) (I 87)) : iKr m (I' (37 + 4 * m) 2) (I' (37 + 4 * m) 5) (I' (37 + 4 * m) 6) (I' (37 + 4 * m) 7) (I' (38 + 4 * m)) (I' (39 + 4 * m)) (I' (40 + 4 * m)) (I' 82) (I' 83) (I' 84) (I' 85) (I' 86) (I' 87) := by
  obtain ⟨e1, e2⟩ := e
  obtain ⟨e3, e4, e5⟩ := e2 m hm
  rw [e1 (37 + 4 * m) (by omega) (by omega), e1 (38 + 4 * m) (by omega) (by omega), e1 (39 + 4 * m) (by omega) (by omega), e1 (40 + 4 * m) (by omega) (by omega)]
  exact iKr_e q e3 e4 e5
theorem mG_75j {F : zI} {o at' j : Nat} {nm u v : Int32} {cs : List kSy} {row : Nat → Int32} (h : j ≠ 11 ∧ j ≠ 12) (h2 : j < 21 ∨ 23 < j) : mG F o at' nm cs u v row 75 j = F 75 j := by
  rw [mG_75]
  dsimp only
  rw [if_neg h.1, if_neg h.2, if_neg (by omega), if_neg (by omega), if_neg (by omega)]
/-- both sides together: what the text touched -/
theorem eqT_mk {I I1 I' F : zI} {f at' : Nat} {nm u v : Int32} {cs : List kSy} {row : Nat → Int32} (hf : f < 6) (oT : mOT I1 I' f) (hl : cs.length ≤ 100) (c1 : ∀ k, (k ≠ 0 ∧ k ≠ 5 ∧ k ≠ 61) → (k < 37 ∨ 60 < k) → I1 k = I k) (c0 : ∀ j, j ≠ 7 → I1 0 j = I 0 j) (c5 : ∀ j, (j < 9 ∨ 11 < j) → I1 5 j = I 5 j) (c61 : I1 61 1 = 0) (cK : ∀ k, 37 ≤ k → k < 37 + 4 * f → I1 k = I k) (g1 : ∀ k, k ≠ 75 → F k = I' k) (g2 : ∀ j, (j < 8 ∨ 10 < j) → F 75 j = I' 75 j) (g3 : F 75 10 = 0) : eqT I (mG F (100 * f) at' nm cs u v row) ∧ eqO I (mG F (100 * f) at' nm cs u v row) f := by
  obtain ⟨o1, o2, o3⟩ := oT
  refine ⟨⟨fun k h1 h2 h3 => ?_, fun j hj => ?_, fun j hj => ?_, fun j h1 h2 => ?_, ?_, ?_⟩, fun k h1 h2 => ?_, fun m hm => ⟨?_, fun x h1 h2 => ⟨⟨?_, ?_⟩, ?_, ?_⟩, fun z hz => ?_⟩⟩
  · rw [mG_o h1.2.2.2 (by omega) (by omega), g1 k h1.2.2.2, o1 k (by omega), c1 k ⟨h1.1, h1.2.1, h1.2.2.1⟩ h2]
  · rw [mG_o (by decide) (by decide) (by decide), g1 0 (by decide), o1 0 (by decide)]
    exact c0 j hj
  · rw [mG_o (by decide) (by decide) (by decide), g1 5 (by decide), o1 5 (by decide)]
    exact c5 j hj
  · rw [mG_75j (by omega) h2, g2 j (by omega), o1 75 (by decide), c1 75 (by decide) (by decide)]
  · rw [mG_o (by decide) (by decide) (by decide), g1 61 (by decide), o1 61 (by decide)]
    exact c61
  · rw [mG_75j (by decide) (by decide)]
    exact g3
  · rw [mG_o (by omega) (by omega) (by omega), g1 k (by omega), o1 k (by omega)]
    exact cK k h1 h2
  · rw [mG_o (by decide) (by decide) (by decide), g1 82 (by decide), o2 m (by omega), c1 82 (by decide) (by decide)]
  · rw [mG_o (by decide) (by decide) (by decide), g1 83 (by decide), o3 83 x (by decide) (by omega), c1 83 (by decide) (by decide)]
  · rw [mG_o (by decide) (by decide) (by decide), g1 84 (by decide), o3 84 x (by decide) (by omega), c1 84 (by decide) (by decide)]
  · rw [mG_o (by decide) (by decide) (by decide), g1 85 (by decide), o3 85 x (by decide) (by omega), c1 85 (by decide) (by decide)]
  · rw [mG_o (by decide) (by decide) (by decide), g1 86 (by decide), o3 86 x (by decide) (by omega), c1 86 (by decide) (by decide)]
  · rw [mG_87, kRw_out (by omega), g1 87 (by decide), o1 87 (by decide), c1 87 (by decide) (by decide)]
theorem kBad_o {I : zI} {K k : Nat} {t : kSt} {js : List (Int32 × Nat)} {g l h : Int32} (h1 : k ≠ 61) (h2 : k < K ∨ K + 3 < k) : kBad I K t js g l h k = I k := by
  unfold kBad
  rw [zup_ne' h1, kX_o h1 h2]
theorem kBad_61 {I : zI} {K : Nat} {t : kSt} {js : List (Int32 × Nat)} {g l h : Int32} : kBad I K t js g l h 61 1 = 0 := zup_hit
theorem kGood_o {I : zI} {K kn k : Nat} {t : kSt} {js : List (Int32 × Nat)} {g l h : Int32} (h1 : k ≠ 0 ∧ k ≠ 5) : kGood I K kn t js g l h k = kBad I K t js g l h k := by
  unfold kGood
  rw [zup_ne' h1.1, zup_ne' h1.2, zup_ne' h1.2, zup_ne' h1.2]
theorem kGood_0 {I : zI} {K kn j : Nat} {t : kSt} {js : List (Int32 × Nat)} {g l h : Int32} (hK : zKt K) (hj : j ≠ 7) : kGood I K kn t js g l h 0 j = I 0 j := by
  have := zKt_61 hK
  unfold kGood
  rw [zup_eq']
  dsimp only
  rw [if_neg hj, zup_ne' (by decide), zup_ne' (by decide), zup_ne' (by decide), kBad_o (by decide) (by omega)]
theorem kGood_07 {I : zI} {K kn : Nat} {t : kSt} {js : List (Int32 × Nat)} {g l h : Int32} : kGood I K kn t js g l h 0 7 = nI (kn + 1) := zup_hit
theorem kGood_5 {I : zI} {K kn : Nat} {t : kSt} {js : List (Int32 × Nat)} {g l h : Int32} (hK : zKt K) (h5 : 5 < K) : (∀ j, (j < 9 ∨ 11 < j) → kGood I K kn t js g l h 5 j = I 5 j) ∧ kGood I K kn t js g l h 5 9 = g ∧ kGood I K kn t js g l h 5 10 = l ∧ kGood I K kn t js g l h 5 11 = h := by
  have e : kGood I K kn t js g l h 5 = fun j => if j = 11 then h else if j = 10 then l else if j = 9 then g else I 5 j := by
    unfold kGood
    rw [zup_ne' (by decide), zup_eq', zup_eq', zup_eq', kBad_o (by decide) (by omega)]
  rw [e]
  refine ⟨fun j hj => ?_, rfl, rfl, rfl⟩
  dsimp only
  rw [if_neg (by omega), if_neg (by omega), if_neg (by omega)]
end KP
