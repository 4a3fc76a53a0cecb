/-! ===== last kitchen: the pair ===== -/
section KP
variable {L : Nat} {xs : Nat → Int32}
theorem qRk_61 {R : zR} {a b c K : Nat} {i : Option Nat} (h : qRk R a b c i) : qRk (zup R 61 3 (some K)) a b c (some K) := qRk_put (q := K) h (.inr ⟨rfl, rfl⟩)
theorem qRk_58 {R : zR} {a b c K : Nat} {i : Option Nat} (h : qRk R a b c i) : qRk (zup R 5 8 (some K)) K b c i := qRk_put (q := K) h (.inl ⟨.inl rfl, rfl⟩)
theorem iTx_T {I I1 : zI} {N : Nat} {R : zR} {a b c : Nat} {i : Option Nat} (hR : qRk R a b c i) (hN : N ≤ 100) (e10 : I 75 10 = nI N) (hT : ∀ j, iR (I 81 j) 0 127) (a1 : I1 75 = I 75) (a2 : I1 81 = I 81) : mTx R I1 a b c N i := by
  refine ⟨hR, ?_, hN, ?_⟩
  · rw [a1]; exact e10
  · rw [a2]; exact hT
set_option maxRecDepth 40000 in
theorem pr_60 : qPr (Inv L xs) 60 124 [] := by
  intro k w hk hI
  obtain ⟨I, J, R, n⟩ := w
  obtain ⟨hn, ⟨c, i, hR⟩, hW⟩ := hI
  dsimp only at hn hR hW
  subst hn
  obtain ⟨⟨e61, N, hN, e10⟩, eT, hT⟩ := hW.2.2.2.2.2.1
  obtain ⟨e07, ⟨kn, k6, e8, hold⟩, h1⟩ := hW.2.2.2.2.2.2.1
  have h8 := hW.2.2.2.2.2.2.2.1
  have h9 := hW.2.2.2.2.2.2.2.2.1
  have h10 := hW.2.2.2.2.2.2.2.2.2.1
  have hlt : mLt I := h10.2
  by_cases h5 : kn < 6
  · have hK := zKt_of h5
    obtain ⟨js, g, l, h, yb, yg⟩ := ca_60 (d := 30) (J := J) hR (e07.trans e8) h5 (e61.trans e10) hN (by rw [eT]; exact hT)
    have oB : ∀ (t : kSt) (g l h : Int32) (k : Nat), (k ≠ 0 ∧ k ≠ 5 ∧ k ≠ 61) → (k < 37 ∨ 60 < k) → kBad I (37 + 4 * kn) t js g l h k = I k := fun t g l h k h1 h2 => kBad_o h1.2.2 (by omega)
    rw [e8] at h8 h9
    by_cases hX : (kT (I 62) N 10 0 [] []).1.1 = true
    · obtain ⟨hF, y1⟩ := yg hX
      have oG : ∀ k, (k ≠ 0 ∧ k ≠ 5 ∧ k ≠ 61) → (k < 37 ∨ 60 < k) → kGood I (37 + 4 * kn) kn (kT (I 62) N 10 0 [] []).1 js g l h k = I k := fun k h1 h2 => (kGood_o ⟨h1.1, h1.2.1⟩).trans (oB _ _ _ _ k h1 h2)
      have g75 := oG 75 (by decide) (by decide)
      have g81 := oG 81 (by decide) (by decide)
      have hR1 : qRk (zup (zup R 61 3 (some (37 + 4 * kn))) 5 8 (some (37 + 4 * kn))) (37 + 4 * kn) (kc (I 75 43)) c (some (37 + 4 * kn)) := qRk_58 (qRk_61 hR)
      have hH := iTx_T hR1 hN e10 hT g75 g81
      obtain ⟨I', nm', cs', u', v', row', ⟨oT, l100⟩, -, y2⟩ := ma_124 (d := 50) (J := J) (f := kn) (by rw [g75]; exact e8) h5 hH (by unfold mLt; rw [oG 89 (by decide) (by decide)]; exact hlt)
      rw [g81, ← eT] at y2
      obtain ⟨⟨t1, t2, t3, t4⟩, y2⟩ := y2 hX
      obtain ⟨L', r', k1, k2, k3⟩ := kT_ls (T := I 62) (N := N) 10 0 [] [] (Nat.zero_le _) hX
      have k1' : (kT (I 62) N 10 0 [] []).2 = L' := k1
      have k2' : (kT (I 62) N 10 0 [] []).1.2.2 = r' := k2
      obtain ⟨q5, q59, q510, q511⟩ := kGood_5 (I := I) (kn := kn) (t := (kT (I 62) N 10 0 [] []).1) (js := js) (g := g) (l := l) (h := h) hK (by omega)
      have gK : ∀ k, 37 ≤ k → k < 37 + 4 * kn → kGood I (37 + 4 * kn) kn (kT (I 62) N 10 0 [] []).1 js g l h k = I k := fun k h1 h2 => (kGood_o (by omega)).trans (kBad_o (by omega) (by omega))
      have g61 : kGood I (37 + 4 * kn) kn (kT (I 62) N 10 0 [] []).1 js g l h 61 1 = 0 := by rw [kGood_o (by decide)]; exact kBad_61
      have f1 : ∀ k, k ≠ 75 → zup (zup (zup I' 75 10 0) 75 9 (nI kn)) 75 8 (nI (kn + 1)) k = I' k := fun k hk => by rw [zup_ne' hk, zup_ne' hk, zup_ne' hk]
      have f75 : zup (zup (zup I' 75 10 0) 75 9 (nI kn)) 75 8 (nI (kn + 1)) 75 = fun j => if j = 8 then nI (kn + 1) else if j = 9 then nI kn else if j = 10 then 0 else I' 75 j := by rw [zup_eq', zup_eq', zup_eq']
      obtain ⟨E1, E2⟩ := eqT_mk (at' := (kT (I 62) N 10 0 [] []).1.2.1) (nm := nm') (u := u') (v := v') (row := row') (cs := cs') h5 oT l100 oG (fun j hj => kGood_0 hK hj) q5 g61 gK f1 (fun j hj => by rw [f75]; dsimp only; rw [if_neg (by omega), if_neg (by omega), if_neg (by omega)]) (by rw [f75]; rfl)
      have gKX : ∀ m, m ≤ 3 → kGood I (37 + 4 * kn) kn (kT (I 62) N 10 0 [] []).1 js g l h (37 + 4 * kn + m) = kX (37 + 4 * kn) I (kT (I 62) N 10 0 [] []).1.2.1 (kT (I 62) N 10 0 [] []).1.2.2 js g l h (37 + 4 * kn + m) := fun m hm => (kGood_o (by omega)).trans (zup_ne' (by omega))
      have gIK : ∀ m, m ≤ 3 → mG (zup (zup (zup I' 75 10 0) 75 9 (nI kn)) 75 8 (nI (kn + 1))) (100 * kn) (kT (I 62) N 10 0 [] []).1.2.1 nm' cs' u' v' row' (37 + 4 * kn + m) = kX (37 + 4 * kn) I (kT (I 62) N 10 0 [] []).1.2.1 (kT (I 62) N 10 0 [] []).1.2.2 js g l h (37 + 4 * kn + m) := fun m hm => by
        rw [mG_o (by omega) (by omega) (by omega), f1 _ (by omega), oT.1 _ (by omega)]
        exact gKX m hm
      have g0 := gIK 0 (by decide)
      simp only [Nat.add_zero] at g0
      have r82 : ∀ k, (81 < k ∧ k < 87) → mG (zup (zup (zup I' 75 10 0) 75 9 (nI kn)) 75 8 (nI (kn + 1))) (100 * kn) (kT (I 62) N 10 0 [] []).1.2.1 nm' cs' u' v' row' k = I' k := fun k hk => by
        rw [mG_o (by omega) (by omega) (by omega), f1 _ (by omega)]
      have r87 : mG (zup (zup (zup I' 75 10 0) 75 9 (nI kn)) 75 8 (nI (kn + 1))) (100 * kn) (kT (I 62) N 10 0 [] []).1.2.1 nm' cs' u' v' row' 87 = kRw (fun z => z.2) (100 * kn) (I' 87) cs' := by
        rw [mG_87, f1 87 (by decide)]
      have r8 : mG (zup (zup (zup I' 75 10 0) 75 9 (nI kn)) 75 8 (nI (kn + 1))) (100 * kn) (kT (I 62) N 10 0 [] []).1.2.1 nm' cs' u' v' row' 75 8 = nI (kn + 1) := by rw [mG_75j (by decide) (by decide), f75]; rfl
      have r9 : mG (zup (zup (zup I' 75 10 0) 75 9 (nI kn)) 75 8 (nI (kn + 1))) (100 * kn) (kT (I 62) N 10 0 [] []).1.2.1 nm' cs' u' v' row' 75 9 = nI kn := by rw [mG_75j (by decide) (by decide), f75]; rfl
      have r43 := E1.2.2.2.1 43 (by decide) (by decide)
      have r07 : mG (zup (zup (zup I' 75 10 0) 75 9 (nI kn)) 75 8 (nI (kn + 1))) (100 * kn) (kT (I 62) N 10 0 [] []).1.2.1 nm' cs' u' v' row' 0 7 = nI (kn + 1) := by
        rw [mG_o (by decide) (by decide) (by decide), f1 0 (by decide), oT.1 0 (by decide)]
        exact kGood_07
      have r5 : mG (zup (zup (zup I' 75 10 0) 75 9 (nI kn)) 75 8 (nI (kn + 1))) (100 * kn) (kT (I 62) N 10 0 [] []).1.2.1 nm' cs' u' v' row' 5 = kGood I (37 + 4 * kn) kn (kT (I 62) N 10 0 [] []).1 js g l h 5 := by
        rw [mG_o (by decide) (by decide) (by decide), f1 5 (by decide), oT.1 5 (by decide)]
      have r1 := E1.1 1 (by decide) (by decide) (by decide)
      have r12 := E1.1 12 (by decide) (by decide) (by decide)
      have ekc : kc (nI kn) = 37 + 4 * kn := by
        unfold kc
        rw [if_neg (q_nm1 (by omega)), nI_clamp (by omega)]
      have new : iKr kn (mG (zup (zup (zup I' 75 10 0) 75 9 (nI kn)) 75 8 (nI (kn + 1))) (100 * kn) (kT (I 62) N 10 0 [] []).1.2.1 nm' cs' u' v' row' (37 + 4 * kn) 2) g l h (mG (zup (zup (zup I' 75 10 0) 75 9 (nI kn)) 75 8 (nI (kn + 1))) (100 * kn) (kT (I 62) N 10 0 [] []).1.2.1 nm' cs' u' v' row' (38 + 4 * kn)) (mG (zup (zup (zup I' 75 10 0) 75 9 (nI kn)) 75 8 (nI (kn + 1))) (100 * kn) (kT (I 62) N 10 0 [] []).1.2.1 nm' cs' u' v' row' (39 + 4 * kn)) (mG (zup (zup (zup I' 75 10 0) 75 9 (nI kn)) 75 8 (nI (kn + 1))) (100 * kn) (kT (I 62) N 10 0 [] []).1.2.1 nm' cs' u' v' row' (40 + 4 * kn)) (mG (zup (zup (zup I' 75 10 0) 75 9 (nI kn)) 75 8 (nI (kn + 1))) (100 * kn) (kT (I 62) N 10 0 [] []).1.2.1 nm' cs' u' v' row' 82) (mG (zup (zup (zup I' 75 10 0) 75 9 (nI kn)) 75 8 (nI (kn + 1))) (100 * kn) (kT (I 62) N 10 0 [] []).1.2.1 nm' cs' u' v' row' 83) (mG (zup (zup (zup I' 75 10 0) 75 9 (nI kn)) 75 8 (nI (kn + 1))) (100 * kn) (kT (I 62) N 10 0 [] []).1.2.1 nm' cs' u' v' row' 84) (mG (zup (zup (zup I' 75 10 0) 75 9 (nI kn)) 75 8 (nI (kn + 1))) (100 * kn) (kT (I 62) N 10 0 [] []).1.2.1 nm' cs' u' v' row' 85) (mG (zup (zup (zup I' 75 10 0) 75 9 (nI kn)) 75 8 (nI (kn + 1))) (100 * kn) (kT (I 62) N 10 0 [] []).1.2.1 nm' cs' u' v' row' 86) (mG (zup (zup (zup I' 75 10 0) 75 9 (nI kn)) 75 8 (nI (kn + 1))) (100 * kn) (kT (I 62) N 10 0 [] []).1.2.1 nm' cs' u' v' row' 87) := by
        rw [g0, show 38 + 4 * kn = 37 + 4 * kn + 1 by omega, show 39 + 4 * kn = 37 + 4 * kn + 2 by omega, show 40 + 4 * kn = 37 + 4 * kn + 3 by omega, gIK 1 (by decide), gIK 2 (by decide), gIK 3 (by decide), kX_1 hK, kX_2 hK, kX_3 hK, r82 82 (by decide), r82 83 (by decide), r82 84 (by decide), r82 85 (by decide), r82 86 (by decide), r87]
        have e2 : kX (37 + 4 * kn) I (kT (I 62) N 10 0 [] []).1.2.1 (kT (I 62) N 10 0 [] []).1.2.2 js g l h (37 + 4 * kn) 2 = nI js.length := by
          rw [kX_K hK]
          rfl
        rw [e2, k2']
        rw [k2'] at t1
        rw [k1'] at t2 t3 t4 hF
        rw [t1] at l100 ⊢
        refine iKr_n hF k3 l100 t4 t3 (fun c z hz => ?_) (fun x z hz => ?_) (fun x z hz => ?_)
        · obtain ⟨m1, m2, m3⟩ := t2 c z hz
          refine ⟨m1, m2, fun h2 => ?_⟩
          have m4 := m3 h2
          rw [show kPr L' c = kPb 0 L' c from by cases c <;> rfl] at m4
          exact m4
        · exact ⟨kRw_at hz, kRw_at hz⟩
        · refine ⟨kRw_at hz, ?_⟩
          rw [Nat.zero_add]
          exact kRw_at hz
      refine ⟨nI kn, _, _, y1, y2, ⟨?_, ?_, rfl⟩, rfl, ⟨c, some (37 + 4 * kn), ?_⟩, ?_⟩
      · exact oG 1021 (by decide) (by decide)
      · exact oG 1022 (by decide) (by decide)
      · dsimp only
        rw [r9, r43, ekc]
        exact hR1
      · dsimp only
        refine iW_txt hW E1 ?_ ?_ ?_
        · refine ⟨r07.trans r8.symm, ⟨kn + 1, by omega, r8, fun m hm => ?_⟩, ?_⟩
          · by_cases hm2 : m < kn
            · exact iKr_old E2 hm2 (hold m hm2)
            · have hm3 : m = kn := by omega
              subst hm3
              have z5 := congrFun (g0.trans (kX_K hK)) 5
              have z6 := congrFun (g0.trans (kX_K hK)) 6
              have z7 := congrFun (g0.trans (kX_K hK)) 7
              rw [z5, z6, z7]
              exact new
          · rw [r1]
            exact h1
        · rw [r8, r9, r5, q59, q510, q511]
          refine ⟨.inr ⟨kn, rfl, h5, q_tlt (m := kn) (n := kn + 1) (by omega) (by omega)⟩, ?_, ?_, ?_⟩
          · rw [ekc]
            exact (congrFun (g0.trans (kX_K hK)) 5).symm
          · rw [ekc]
            exact (congrFun (g0.trans (kX_K hK)) 6).symm
          · rw [ekc]
            exact (congrFun (g0.trans (kX_K hK)) 7).symm
        · rw [r8, r43, r12]
          exact iTh_txt h9 k6 (Nat.le_succ _) (by omega) r1 E2.1
    · have y1 := yb hX
      have g75 : kBad I (37 + 4 * kn) (kT (I 62) N 10 0 [] []).1 js g l h 75 = I 75 := oB _ _ _ _ 75 (by decide) (by decide)
      have g81 : kBad I (37 + 4 * kn) (kT (I 62) N 10 0 [] []).1 js g l h 81 = I 81 := oB _ _ _ _ 81 (by decide) (by decide)
      have hR1 : qRk (zup R 61 3 (some (37 + 4 * kn))) (kc (I 75 9)) (kc (I 75 43)) c (some (37 + 4 * kn)) := qRk_61 hR
      have hH := iTx_T hR1 hN e10 hT g75 g81
      obtain ⟨I', nm', cs', u', v', row', ⟨oT, l100⟩, y2, -⟩ := ma_124 (d := 50) (J := J) (f := kn) (by rw [g75]; exact e8) h5 hH (by unfold mLt; rw [oB _ _ _ _ 89 (by decide) (by decide)]; exact hlt)
      rw [g81, ← eT] at y2
      have y2 := y2 hX
      have f1 : ∀ k, k ≠ 75 → zup I' 75 10 0 k = I' k := fun k hk => zup_ne' hk
      have f75 : zup I' 75 10 0 75 = fun j => if j = 10 then 0 else I' 75 j := zup_eq'
      obtain ⟨E1, E2⟩ := eqT_mk (at' := (kT (I 62) N 10 0 [] []).1.2.1) (nm := nm') (u := u') (v := v') (row := row') (cs := cs') h5 oT l100 (oB _ _ _ _) (fun j hj => by rw [kBad_o (by decide) (by omega)]) (fun j hj => by rw [kBad_o (by decide) (by omega)]) kBad_61 (fun k h1 h2 => kBad_o (by omega) (by omega)) f1 (fun j hj => by rw [f75]; dsimp only; rw [if_neg (by omega)]) (by rw [f75]; rfl)
      have r8 : mG (zup I' 75 10 0) (100 * kn) (kT (I 62) N 10 0 [] []).1.2.1 nm' cs' u' v' row' 75 8 = nI kn := by
        rw [mG_75j (by decide) (by decide), f75]
        show I' 75 8 = nI kn
        rw [oT.1 75 (by decide), g75]
        exact e8
      have r9 : mG (zup I' 75 10 0) (100 * kn) (kT (I 62) N 10 0 [] []).1.2.1 nm' cs' u' v' row' 75 9 = I 75 9 := by
        rw [mG_75j (by decide) (by decide), f75]
        show I' 75 9 = _
        rw [oT.1 75 (by decide), g75]
      have r43 := E1.2.2.2.1 43 (by decide) (by decide)
      have r1 := E1.1 1 (by decide) (by decide) (by decide)
      have r12 := E1.1 12 (by decide) (by decide) (by decide)
      have r5 : mG (zup I' 75 10 0) (100 * kn) (kT (I 62) N 10 0 [] []).1.2.1 nm' cs' u' v' row' 5 = I 5 := by
        rw [mG_o (by decide) (by decide) (by decide), f1 5 (by decide), oT.1 5 (by decide), kBad_o (by decide) (by omega)]
      have r0 := E1.2.1 7
      have r07 : mG (zup I' 75 10 0) (100 * kn) (kT (I 62) N 10 0 [] []).1.2.1 nm' cs' u' v' row' 0 7 = nI kn := by
        rw [mG_o (by decide) (by decide) (by decide), f1 0 (by decide), oT.1 0 (by decide), kBad_o (by decide) (by omega)]
        exact e07.trans e8
      refine ⟨_, _, _, y1, y2, ⟨?_, ?_, rfl⟩, rfl, ⟨c, some (37 + 4 * kn), ?_⟩, ?_⟩
      · exact oB _ _ _ _ 1021 (by decide) (by decide)
      · exact oB _ _ _ _ 1022 (by decide) (by decide)
      · dsimp only
        rw [r9, r43]
        exact hR1
      · dsimp only
        refine iW_txt hW E1 ?_ ?_ ?_
        · refine ⟨r07.trans r8.symm, ⟨kn, k6, r8, fun m hm => iKr_old E2 hm (hold m hm)⟩, ?_⟩
          rw [r1]
          exact h1
        · rw [r8, r9, r5]
          exact iTh_txt h8 k6 (Nat.le_refl _) k6 r1 E2.1
        · rw [r8, r43, r12]
          exact iTh_txt h9 k6 (Nat.le_refl _) k6 r1 E2.1
  · have ek : kn = 6 := by omega
    subst ek
    exact ⟨-4, (I, J, R, 111), (I, J, R, 111), ca_60f (d := 30) hR (e07.trans e8), ma_124f (d := 50) e8, ⟨rfl, rfl, rfl⟩, rfl, ⟨c, i, hR⟩, iW_eq hW (eqS_r I) hW.2.2.2.2.2.2.2.2.2.2.2.2.2⟩
end KP
