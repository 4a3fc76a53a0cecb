/-! ===== what is asked of both sides ===== -/
/-- both answer alike to a call, and what ties them holds behind it (ints) -/
def qPr (Inv : Nat → zW → Prop) (yx ym : Nat) (as : List Value) : Prop := ∀ (k : Nat) (w : zW), k < 512 → Inv k w → ∃ (r : Int32) (w1 w2 : zW), zcl 60 yx (.ref 0 :: as) w = some (some (.int r), w1) ∧ zcl 60 ym (.ref 75 :: as) w1 = some (some (.int r), w2) ∧ (w1.1 1021 = w.1 1021 ∧ w1.1 1022 = w.1 1022 ∧ w1.2.2.2 = 111) ∧ Inv (k + 1) w2
/-- the same, longs -/
def qPl (Inv : Nat → zW → Prop) (yx ym : Nat) (as : List Value) : Prop := ∀ (k : Nat) (w : zW), k < 512 → Inv k w → ∃ (r : Int64) (w1 w2 : zW), zcl 60 yx (.ref 0 :: as) w = some (some (.long r), w1) ∧ zcl 60 ym (.ref 75 :: as) w1 = some (some (.long r), w2) ∧ (w1.1 1021 = w.1 1021 ∧ w1.1 1022 = w.1 1022 ∧ w1.2.2.2 = 111) ∧ Inv (k + 1) w2
/-- an end with the answer r0; longs stay; ints and references have P -/
def zAs (r0 : Option Value) (J : zJ) (P : zI → zR → Prop) (r : Option Value) (w : zW) : Prop := ∃ I' R', (r = r0 ∧ w = (I', J, R', 111)) ∧ P I' R'
theorem zAs_mk {r0 : Option Value} {J : zJ} {R : zR} {P : zI → zR → Prop} {I : zI} (h : P I R) : zAs r0 J P r0 (I, J, R, 111) := ⟨I, R, ⟨rfl, rfl⟩, h⟩
theorem zAs_mo {r0 : Option Value} {J : zJ} {P P' : zI → zR → Prop} (h : ∀ I R, P I R → P' I R) {r : Option Value} {w : zW} (q : zAs r0 J P r w) : zAs r0 J P' r w := q.elim fun I' z => z.elim fun R' z => ⟨I', R', z.1, h _ _ z.2⟩
theorem zcl_as {d y : Nat} {as : List Value} {w : zW} {r0 : Option Value} {J : zJ} {P : zI → zR → Prop} (hf : (zla as).length ≤ zml y) (h : zWP (zcl d) y (zent y as w) (zAs r0 J P)) : ∃ I' R', zcl (d + 1) y as w = some (r0, (I', J, R', 111)) ∧ P I' R' := by
  obtain ⟨r, w', h1, I', R', ⟨h2, h3⟩, h4⟩ := zcl_ex hf h
  rw [h2, h3] at h1
  exact ⟨I', R', h1, h4⟩
/-- behind what the class was asked -/
def aS (a b : Nat) (i : Option Nat) (I I' : zI) (R' : zR) : Prop := eqS I I' ∧ iTr (I' 20) (I' 21) (I' 22) (I' 24) ∧ ∃ c, qRk R' a b c i
/-- behind what the model was asked -/
def mS (I I' : zI) : Prop := eqS I I' ∧ ∀ k, 19 ≤ k → k ≤ 25 → I' k = I k
theorem mS_r (I : zI) : mS I I := ⟨eqS_r I, fun _ _ _ => rfl⟩
theorem mS_t {I I1 I2 : zI} (h : mS I I1) (q : mS I1 I2) : mS I I2 := ⟨eqS_t h.1 q.1, fun k a b => (q.2 k a b).trans (h.2 k a b)⟩
section PA
variable {L : Nat} {xs : Nat → Int32} {yx ym : Nat} {as : List Value}
def qCa (L : Nat) (xs : Nat → Int32) (yx : Nat) (as : List Value) (E : zI → Value) : Prop := ∀ (k : Nat) (I : zI) (J : zJ) (R : zR), k < 600 → iW L xs k I J → ∀ c i, qRk R (kc (I 75 9)) (kc (I 75 43)) c i → ∃ I' R', zcl 60 yx (.ref 0 :: as) (I, J, R, 111) = some (some (E I), (I', J, R', 111)) ∧ aS (kc (I 75 9)) (kc (I 75 43)) i I I' R'
def qMa (L : Nat) (xs : Nat → Int32) (ym : Nat) (as : List Value) (E : zI → Value) : Prop := ∀ (k : Nat) (I : zI) (J : zJ) (R : zR), k < 600 → iW L xs k I J → ∀ a b c i, qRk R a b c i → ∃ I', zcl 60 ym (.ref 75 :: as) (I, J, R, 111) = some (some (E I), (I', J, R, 111)) ∧ mS I I'
theorem pair_ask {E E' : zI → Int32} (hc : qCa L xs yx as (fun I => .int (E I))) (hm : qMa L xs ym as (fun I => .int (E' I))) (he : ∀ k I I' J, k < 600 → iW L xs k I J → eqS I I' → E' I' = E I) : qPr (Inv L xs) yx ym as := by
  intro k w hk hI
  obtain ⟨I, J, R, n⟩ := w
  obtain ⟨hn, ⟨c, i, hR⟩, hW⟩ := hI
  dsimp only at hn hR hW
  subst hn
  obtain ⟨I1, R1, y1, e1, t1, c1, hR1⟩ := hc k I J R (by omega) hW c i hR
  have hW1 := iW_eq hW e1 t1
  obtain ⟨I2, y2, e2, t2⟩ := hm (k + 1) I1 J R1 (by omega) hW1 _ _ _ _ hR1
  refine ⟨E I, (I1, J, R1, 111), (I2, J, R1, 111), y1, ?_, ⟨e1.1 1021 (by decide), e1.1 1022 (by decide), rfl⟩, rfl, ⟨c1, i, ?_⟩, ?_⟩
  · rw [y2]
    have z := he k I I1 J (by omega) hW e1
    dsimp only
    rw [z]
  · have a9 := eq75 e1 9 (by decide)
    have a43 := eq75 e1 43 (by decide)
    have b9 := eq75 e2 9 (by decide)
    have b43 := eq75 e2 43 (by decide)
    dsimp only
    rw [b9, b43, a9, a43]
    exact hR1
  · dsimp only
    refine iW_eq (k := k) hW (eqS_t e1 e2) ?_
    rw [t2 20 (by decide) (by decide), t2 21 (by decide) (by decide), t2 22 (by decide) (by decide), t2 24 (by decide) (by decide)]
    exact t1
theorem pair_askl {E E' : zI → Int64} (hc : qCa L xs yx as (fun I => .long (E I))) (hm : qMa L xs ym as (fun I => .long (E' I))) (he : ∀ k I I' J, k < 600 → iW L xs k I J → eqS I I' → E' I' = E I) : qPl (Inv L xs) yx ym as := by
  intro k w hk hI
  obtain ⟨I, J, R, n⟩ := w
  obtain ⟨hn, ⟨c, i, hR⟩, hW⟩ := hI
  dsimp only at hn hR hW
  subst hn
  obtain ⟨I1, R1, y1, e1, t1, c1, hR1⟩ := hc k I J R (by omega) hW c i hR
  have hW1 := iW_eq hW e1 t1
  obtain ⟨I2, y2, e2, t2⟩ := hm (k + 1) I1 J R1 (by omega) hW1 _ _ _ _ hR1
  refine ⟨E I, (I1, J, R1, 111), (I2, J, R1, 111), y1, ?_, ⟨e1.1 1021 (by decide), e1.1 1022 (by decide), rfl⟩, rfl, ⟨c1, i, ?_⟩, ?_⟩
  · rw [y2]
    have z := he k I I1 J (by omega) hW e1
    dsimp only
    rw [z]
  · have a9 := eq75 e1 9 (by decide)
    have a43 := eq75 e1 43 (by decide)
    have b9 := eq75 e2 9 (by decide)
    have b43 := eq75 e2 43 (by decide)
    dsimp only
    rw [b9, b43, a9, a43]
    exact hR1
  · dsimp only
    refine iW_eq (k := k) hW (eqS_t e1 e2) ?_
    rw [t2 20 (by decide) (by decide), t2 21 (by decide) (by decide), t2 22 (by decide) (by decide), t2 24 (by decide) (by decide)]
    exact t1
/-- both out of the sides as they are -/
def gOK (S : gS) (D : gD) : Prop := gB S ∧ (∀ s, iR (g_l D s) 0 999) ∧ g_m D < 600 ∧ zN 6 (g_l D)
theorem gOK_of {k : Nat} {I : zI} {J : zJ} (h : iW L xs k I J) (hk : k < 600) : gOK (gSof I) (gDof I) := by
  obtain ⟨_, h1, h2, h3, _⟩ := iW_open h hk
  have h4 := h.2.1.2.2.2.2.2.2.2.2.1
  exact ⟨h1, h2, by omega, h4⟩
theorem pair_sd {e e' : gS → gD → Int32} (hc : qCa L xs yx as (fun I => .int (e (gSof I) (gDof I)))) (hm : qMa L xs ym as (fun I => .int (e' (gSof I) (gDof I)))) (he : ∀ S D, gOK S D → e' S D = e S D) : qPr (Inv L xs) yx ym as :=
  pair_ask hc hm (fun k I I' J hk h q => by
    obtain ⟨e1, e2⟩ := gSof_eq h q
    rw [e1, e2]
    exact he _ _ (gOK_of h hk))
theorem pair_sdl {e e' : gS → gD → Int64} (hc : qCa L xs yx as (fun I => .long (e (gSof I) (gDof I)))) (hm : qMa L xs ym as (fun I => .long (e' (gSof I) (gDof I)))) (he : ∀ S D, gOK S D → e' S D = e S D) : qPl (Inv L xs) yx ym as :=
  pair_askl hc hm (fun k I I' J hk h q => by
    obtain ⟨e1, e2⟩ := gSof_eq h q
    rw [e1, e2]
    exact he _ _ (gOK_of h hk))
end PA
/-! the class tries on its trial -/
section TR
variable {d : Nat} {I : zI} {J : zJ} {R : zR} {a b c : Nat} {i : Option Nat} {S : gS} {D : gD}

def tOK (a : Nat) (S : gS) (D : gD) (I : zI) : Prop := (cV_5 S D I ∧ kV a S I ∧ zKt a) ∧ (zN 6 (I 6) ∧ zN 6 (I 7) ∧ zN 6 (I 8) ∧ zN 24 (I 10)) ∧ (I 5 11 = 0 ∨ I 5 11 = 1) ∧ iTr (I 20) (I 21) (I 22) (I 24)
theorem tOK_of {L : Nat} {xs : Nat → Int32} {k : Nat} (h : iW L xs k I J) (hk : k < 600) : tOK (kc (I 75 9)) (gSof I) (gDof I) I := by
  obtain ⟨⟨h1, h2, _, _, h3⟩, _, _, _, h4, h5⟩ := iW_open h hk
  exact ⟨⟨h1, h2, h3⟩, h4, h5, h.2.2.2.2.2.2.2.2.2.2.2.2.2⟩
theorem tr_begin (hR : qRk R a b c i) (h : tOK a S D I) : ∃ I' R', zcl (d + 1) 30 [.ref 19, .ref 5] (I, J, R, 111) = some (none, (I', J, R', 111)) ∧ (cV_19 S D I' ∧ kV a S I' ∧ I' 19 15 = 0) ∧ (qRk R' a b a i ∧ R' 19 8 = some a) ∧ (∀ k, k < 19 ∨ 24 < k → I' k = I k) ∧ (I' 20 = I 6 ∧ I' 21 = I 7 ∧ I' 24 = I 10) := by
  obtain ⟨⟨V, hV, hK⟩, ⟨z1, z2, z3, z4⟩, hh, t1, t2, t3, t4⟩ := h
  obtain ⟨I', y, ⟨g1, g2, g3, g5⟩, _, ⟨f0, f6, f7, f9, f10, f11, f15⟩, fr⟩ := sp_30_19 (d := d) (J := J) hR hR.2.1 z1 z2 z3 z4 t1 t2 t3 t4 hh
  refine ⟨I', _, y, ⟨?_, ?_, f15⟩, ⟨?_, ?_⟩, fr, g1, g2, g5⟩
  · unfold cV_5 tV at V
    unfold cV_19 tV
    rw [f0, f6, f7, f9, f10, f11, g1, g2, g3, g5]
    exact V
  · refine kV_fr hV (fun k h1 h2 => fr k ?_)
    have := zKt_out (t := 19) hK (by decide) h1 h2
    omega
  · have q := qRk_put (k := 19) (j := 8) (q := a) hR (.inl ⟨.inr (.inr rfl), rfl⟩)
    exact q
  · rw [zup_at, if_pos ⟨rfl, rfl⟩]
/-- what stays, while it is tried -/
def tE (I0 I : zI) : Prop := (∀ k, kp k → I k = I0 k) ∧ I 5 = I0 5 ∧ I 75 = I0 75 ∧ (∀ k, k = 11 ∨ 87 < k → I k = I0 k)
theorem tE_S {I0 I : zI} (h : tE I0 I) : eqS I0 I := ⟨h.1, fun j _ _ _ => by rw [h.2.1], fun j _ _ _ _ _ _ _ _ => by rw [h.2.2.1]⟩
theorem tE_r (I : zI) : tE I I := ⟨fun _ _ => rfl, rfl, rfl, fun _ _ => rfl⟩
theorem tE_b {I0 I I' : zI} (h : tE I0 I) (f : ∀ k, k < 19 ∨ 24 < k → I' k = I k) : tE I0 I' := by
  refine ⟨fun k hk => ?_, ?_, ?_, fun k hk => ?_⟩
  · rw [f k (by omega)]
    exact h.1 k hk
  · rw [f 5 (by decide)]
    exact h.2.1
  · rw [f 75 (by decide)]
    exact h.2.2.1
  · rw [f k (by omega)]
    exact h.2.2.2 k hk
theorem tE_w {I0 I I' : zI} (h : tE I0 I) (f : gW_19 I I') : tE I0 I' := by
  refine ⟨fun k hk => ?_, ?_, ?_, fun k hk => ?_⟩
  · rw [f.1 k (by omega) (by omega) (by omega) (by omega)]
    exact h.1 k hk
  · rw [f.1 5 (by decide) (by decide) (by decide) (by decide)]
    exact h.2.1
  · rw [f.1 75 (by decide) (by decide) (by decide) (by decide)]
    exact h.2.2.1
  · rw [f.1 k (by omega) (by omega) (by omega) (by omega)]
    exact h.2.2.2 k hk
/-- and it may be begun again -/
theorem tOK_e {I0 I : zI} (h : tOK a S D I0) (e : tE I0 I) (t : iTr (I 20) (I 21) (I 22) (I 24)) : tOK a S D I := by
  obtain ⟨⟨V, hV, hK⟩, z, hh, _⟩ := h
  refine ⟨⟨?_, ?_, hK⟩, ?_, ?_, t⟩
  · unfold cV_5 at V ⊢
    rw [e.2.1, e.1 6 (by decide), e.1 7 (by decide), e.1 8 (by decide), e.1 10 (by decide)]
    exact V
  · exact kV_fr hV (fun k h1 h2 => e.1 k (zKt_kp hK h1 h2))
  · rw [e.1 6 (by decide), e.1 7 (by decide), e.1 8 (by decide), e.1 10 (by decide)]
    exact z
  · rw [e.2.1]
    exact hh
theorem iTr_w {I0 I' I2 : zI} {D' : gD} (h : tOK a S D I0) (g1 : I' 20 = I0 6) (g2 : I' 21 = I0 7) (g5 : I' 24 = I0 10) {S' : gS} (f : gW_19 I' I2) (V : cV_19 S' D' I2) (z : zN 6 (g_l D')) : iTr (I2 20) (I2 21) (I2 22) (I2 24) := by
  obtain ⟨_, ⟨z1, z2, _, z4⟩, _⟩ := h
  refine ⟨?_, ?_, ?_, ?_⟩
  · rw [f.1 20 (by decide) (by decide) (by decide) (by decide), g1]
    exact z1
  · rw [f.1 21 (by decide) (by decide) (by decide) (by decide), g2]
    exact z2
  · rw [V.1.2.2.2.1]
    exact z
  · rw [f.1 24 (by decide) (by decide) (by decide) (by decide), g5]
    exact z4
end TR
/-! the model saves, tries, puts back -/
section MT
variable {d : Nat} {I : zI} {J : zJ} {R : zR} {a b c : Nat} {i : Option Nat} {S : gS} {D : gD}
theorem ms_begin (hR : qRk R a b c i) (V : mV S D I) (hK : mK S I) : ∃ I', zcl (d + 2) 149 [.ref 75] (I, J, R, 111) = some (none, (I', J, R, 111)) ∧ mV S D I' ∧ mK S I' ∧ (I' 75 29 = 2000000000 ∧ I' 75 31 = I 75 1 ∧ I' 75 32 = I 75 2 ∧ I' 91 = gPt (I 91) (I 78) 6 ∧ I' 92 = gPt (I 92) (I 79) 6) ∧ (∀ k, k ≠ 75 → k ≠ 91 → k ≠ 92 → I' k = I k) ∧ (∀ j, j ≠ 29 → j ≠ 31 → j ≠ 32 → I' 75 j = I 75 j) := by
  obtain ⟨I', y, f1, f2, ⟨g1, g2, g3⟩, g4, g5⟩ := sp_149 (d := d) (J := J) hR (I := I)
  refine ⟨I', y, ?_, ?_, ⟨g1, g2, g3, g4, g5⟩, f1, f2⟩
  · unfold mV at V ⊢
    rw [f2 0 (by decide) (by decide) (by decide), f2 1 (by decide) (by decide) (by decide), f2 2 (by decide) (by decide) (by decide), f1 76 (by decide) (by decide) (by decide), f1 77 (by decide) (by decide) (by decide), f1 78 (by decide) (by decide) (by decide), f1 80 (by decide) (by decide) (by decide)]
    exact V
  · exact mK_e hK (f2 9 (by decide) (by decide) (by decide)) (f2 25 (by decide) (by decide) (by decide)) (f2 26 (by decide) (by decide) (by decide)) (f2 27 (by decide) (by decide) (by decide)) (f1 82 (by decide) (by decide) (by decide)) (f1 83 (by decide) (by decide) (by decide)) (f1 84 (by decide) (by decide) (by decide)) (f1 85 (by decide) (by decide) (by decide)) (f1 86 (by decide) (by decide) (by decide)) (f1 87 (by decide) (by decide) (by decide))
/-- I is on the way, behind save at I0 -/
def mT (I0 I : zI) : Prop := (∀ k, k ≠ 75 → k ≠ 78 → k ≠ 79 → k ≠ 90 → k ≠ 91 → k ≠ 92 → I k = I0 k) ∧ (∀ j, j ≠ 1 → j ≠ 2 → j ≠ 29 → j ≠ 30 → j ≠ 31 → j ≠ 32 → I 75 j = I0 75 j) ∧ (I 75 31 = I0 75 1 ∧ I 75 32 = I0 75 2 ∧ I 91 = gPt (I0 91) (I0 78) 6 ∧ I 92 = gPt (I0 92) (I0 79) 6)
theorem mT_b {I I' : zI} (g2 : I' 75 31 = I 75 1) (g3 : I' 75 32 = I 75 2) (g4 : I' 91 = gPt (I 91) (I 78) 6) (g5 : I' 92 = gPt (I 92) (I 79) 6) (f1 : ∀ k, k ≠ 75 → k ≠ 91 → k ≠ 92 → I' k = I k) (f2 : ∀ j, j ≠ 29 → j ≠ 31 → j ≠ 32 → I' 75 j = I 75 j) : mT I I' :=
  ⟨fun k h1 _ _ _ h5 h6 => f1 k h1 h5 h6, fun j _ _ h3 _ h5 h6 => f2 j h3 h5 h6, g2, g3, g4, g5⟩
theorem mT_w {I0 I I' : zI} (h : mT I0 I) (f : mW I I') : mT I0 I' := by
  obtain ⟨h1, h2, h3, h4, h5, h6⟩ := h
  refine ⟨fun k a1 a2 a3 a4 a5 a6 => (f.1 k a1 a2 a3 a4).trans (h1 k a1 a2 a3 a4 a5 a6), fun j a1 a2 a3 a4 a5 a6 => (f.2 j a1 a2 a4).trans (h2 j a1 a2 a3 a4 a5 a6), ?_, ?_, ?_, ?_⟩
  · rw [f.2 31 (by decide) (by decide) (by decide), h3]
  · rw [f.2 32 (by decide) (by decide) (by decide), h4]
  · rw [f.1 91 (by decide) (by decide) (by decide) (by decide), h5]
  · rw [f.1 92 (by decide) (by decide) (by decide) (by decide), h6]
/-- lengths and cuts are put back, also where the sixth place is passed -/
theorem ms_end (hR : qRk R a b c i) {I0 : zI} (h : mT I0 I) (h29 : I0 75 29 = 99999) (h78 : ∀ j, 6 ≤ j → I 78 j = I0 78 j) (h79 : ∀ j, 6 ≤ j → I 79 j = I0 79 j) : ∃ I', zcl (d + 2) 150 [.ref 75] (I, J, R, 111) = some (none, (I', J, R, 111)) ∧ mS I0 I' ∧ (∀ k, k ≠ 75 → k ≠ 90 → k ≠ 91 → k ≠ 92 → I' k = I0 k) := by
  obtain ⟨I', y, f1, f2, ⟨g1, g2, g3⟩, g4, g5⟩ := sp_150 (d := d) (J := J) hR (I := I)
  obtain ⟨t1, t2, t3, t4, t5, t6⟩ := h
  have e78 : I' 78 = I0 78 := by
    rw [g4, t5]
    funext j
    unfold gPt
    by_cases hj : j < 6
    · rw [if_pos hj, if_pos hj]
    · rw [if_neg hj]
      exact h78 j (by omega)
  have e79 : I' 79 = I0 79 := by
    rw [g5, t6]
    funext j
    unfold gPt
    by_cases hj : j < 6
    · rw [if_pos hj, if_pos hj]
    · rw [if_neg hj]
      exact h79 j (by omega)
  have all : ∀ k, k ≠ 75 → k ≠ 90 → k ≠ 91 → k ≠ 92 → I' k = I0 k := by
    intro k h1 h2 h3 h4
    by_cases k78 : k = 78
    · rw [k78, e78]
    · by_cases k79 : k = 79
      · rw [k79, e79]
      · rw [f1 k h1 k78 k79]
        exact t1 k h1 k78 k79 h2 h3 h4
  refine ⟨I', y, ⟨⟨fun k hk => all k (by omega) (by omega) (by omega) (by omega), fun j _ _ _ => by rw [all 5 (by decide) (by decide) (by decide) (by decide)], fun j h1 h2 h3 h4 h5 h6 h7 h8 => ?_⟩, fun k h1 h2 => all k (by omega) (by omega) (by omega) (by omega)⟩, all⟩
  by_cases j1 : j = 1
  · rw [j1, g2, t3]
  · by_cases j2 : j = 2
    · rw [j2, g3, t4]
    · by_cases j29 : j = 29
      · rw [j29, g1, h29]
      · rw [f2 j j29 j1 j2]
        exact t2 j j1 j2 j29 h6 h7 h8
theorem gOf_hi {S : gS} (hn : g_n S ≤ 6) (h0 : 0 ≤ g_le S) {M : Int32} : ∀ (k : Nat) (D : gD) (f : Nat → Int32) (j : Nat), 6 ≤ j → gOf M S k D f j = f j
  | 0, _, _, _, _ => rfl
  | k + 1, D, f, j, hj => by
    by_cases hd : gGap S D ≤ g_le S
    · rw [show gOf M S (k + 1) D f = f from if_pos hd]
    · rw [show gOf M S (k + 1) D f = gOf M S k (gNx S D) (gCf M (gTl S D) (gLo S D) f) from if_neg hd, gOf_hi hn h0 k _ _ j hj]
      have := gLo_lt h0 hd
      show (if j = gLo S D then _ else f j) = f j
      rw [if_neg (by omega)]
theorem gWk_hi2 {S : gS} (hn : g_n S ≤ 6) (h0 : 0 ≤ g_le S) : ∀ (k : Nat) (D : gD) (j : Nat), 6 ≤ j → g_l (gWk S k D) j = g_l D j
  | 0, _, _, _ => rfl
  | k + 1, D, j, hj => by
    by_cases hd : gGap S D ≤ g_le S
    · rw [gWk_d hd]
    · rw [gWk_s hd, gWk_hi2 hn h0 k _ j hj]
      have := gLo_lt h0 hd
      show (if j = gLo S D then _ else g_l D j) = g_l D j
      rw [if_neg (by omega)]
end MT
