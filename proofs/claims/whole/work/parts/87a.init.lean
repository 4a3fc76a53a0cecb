/-! ===== Inv before the first order ===== -/
/-- the ints, the references behind both constructors -/
def xI_0 (I : zI) : zI := xI_101_75 (zup1 (xI_53c (xI_53b (xI_53a (zup1 I 0 zzf)))) 75 zzf)
def xJ_0 (J : zJ) : zJ := xJ_101_75 (zup1 (xJ_53c (xJ_53b (xJ_53a (zup1 J 0 zzl)))) 75 zzl)
def xR_0 : zR := xR_101_75 (zup1 (xR_53c (xR_53b (xR_53a (zup1 (fun _ => zzr) 0 zzr)))) 75 zzr)
theorem xR_0_ok : (∀ q ∈ qrefs, xR_0 q.1 q.2.1 = some q.2.2) ∧ xR_0 5 8 = some 1 ∧ xR_0 12 8 = some 1 ∧ xR_0 19 8 = some 1 ∧ xR_0 61 3 = none := by decide +kernel
theorem iSd_0 : iSd 0 0 0 0 0 0 0 zzf zzf zzf zzf zzf zzf zzf zzf zzf zzf :=
  ⟨⟨rfl, rfl, rfl⟩, ⟨rfl, rfl, rfl, rfl, rfl⟩, ⟨0, by decide, rfl⟩, ⟨0, by decide, rfl⟩, ⟨0, by decide, rfl⟩, ⟨fun _ => ⟨by decide, by decide⟩, fun _ => ⟨by decide, by decide⟩, fun _ => ⟨by decide, by decide⟩, fun _ => ⟨by decide, by decide⟩, fun _ => ⟨by decide, by decide⟩⟩, ⟨fun _ _ => rfl, fun _ _ => rfl, fun _ _ => rfl, fun _ _ => rfl, fun _ _ => rfl⟩⟩
theorem iNt_0 : iNt 0 0 0 0 0 0 0 zzf zzf zzf zzf zzf zzf zzf zzf :=
  ⟨⟨rfl, rfl, rfl⟩, ⟨rfl, rfl, rfl, rfl⟩, ⟨0, by decide, rfl⟩, ⟨0, by decide, rfl⟩, ⟨0, by decide, rfl, fun _ h => absurd h (by omega)⟩, ⟨fun _ => ⟨by decide, by decide⟩, fun _ => .inl rfl, fun _ => ⟨by decide, by decide⟩⟩, ⟨fun _ _ => rfl, fun _ _ => rfl, fun _ _ => rfl, fun _ _ => rfl⟩⟩
theorem iTx_0 : iTx 0 0 zzf zzf := ⟨⟨rfl, 0, by decide, rfl⟩, rfl, fun _ => ⟨by decide, by decide⟩⟩
theorem iKn_0 {I : zI} : iKn 0 0 (xI_0 I) := ⟨rfl, ⟨0, by decide, rfl, fun f h => absurd h (by omega)⟩, rfl, rfl, rfl, rfl⟩
theorem iTh_0 {I : zI} : iTh 0 (-1) 1 2 0 (xI_0 I) := ⟨.inl rfl, rfl, rfl, rfl⟩
theorem iTp_0 {I : zI} {J : zJ} : iTp (xI_0 I 66) (xI_0 I 67) (xI_0 I 107) (xI_0 I 108) J := by
  refine ⟨rfl, fun t h => .inl ?_⟩
  match t, h with
  | 0, _ => rfl
  | 1, _ => rfl
  | 2, _ => rfl
  | 3, _ => rfl
  | 4, _ => rfl
  | 5, _ => rfl
theorem iMd_0 {I : zI} : iMd (-1) (-1) (-1) 99999 (xI_0 I 89) := by
  refine ⟨⟨rfl, rfl, rfl, rfl⟩, ?_⟩
  funext j
  by_cases h : j < 25
  · have key : ∀ j, j < 25 → xI_0 (fun _ => zzf) 89 j = ([111, 118, 101, 114, 117, 110, 100, 101, 114, 103, 105, 118, 101, 108, 101, 97, 118, 101, 104, 97, 108, 102, 97, 108, 108] : List Int32).getD j 0 := by decide +kernel
    exact key j h
  · have e : xI_0 I 89 j = 0 := by
      show xI_101_75 _ 89 j = 0
      unfold xI_101_75
      simp only [zup_at, zup1_at, Nat.reduceEqDiff, ↓reduceIte, false_and, true_and]
      iterate 25 rw [if_neg (by omega)]
      rfl
    rw [e, List.getD_eq_default]
    exact Nat.le_of_not_lt h
theorem iW_0 {L : Nat} {xs : Nat → Int32} {I : zI} {J : zJ} (h1 : xI_0 I 1021 = xs) (h2 : xI_0 I 1022 0 = Int32.ofNat L) : iW L xs 0 (xI_0 I) J :=
  ⟨⟨h1, h2⟩, iSd_0, iSd_0, iNt_0, iNt_0, iTx_0, iKn_0, iTh_0, iTh_0, iMd_0, ⟨rfl, .inl rfl⟩, ⟨rfl, rfl⟩, iTp_0, ⟨fun _ _ => rfl, fun _ _ => rfl, fun _ _ => rfl, fun _ _ => rfl⟩⟩
theorem q_start (L : Nat) (xs : Nat → Int32) : ∃ w1 w2 : zW, zcl 60 53 [.ref 0] (zal (zw0 L xs)) = some (none, w1) ∧ w1.2.2.2 = 75 ∧ zcl 60 101 [.ref 75] (zal w1) = some (none, w2) ∧ Inv L xs 0 w2 := by
  refine ⟨_, _, sp_53, rfl, sp_101_75, rfl, ⟨1, none, xR_0_ok⟩, iW_0 (I := (zw0 L xs).1) rfl rfl⟩
