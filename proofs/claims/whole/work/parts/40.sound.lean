/-! ===== new cells, calls ===== -/
section ZS
variable {p : Program} {l : Launch} {e : Env} {R : Room} {s : State} {m : MethodId} {args : Array Value} {below : List Frame} {meth : Method} {c : Code} {G : zG} {L : Nat} {xs : Nat → Int32} {cc : ByteArray} {own : String} {rt : Option FieldType} {cl : zA} {d n0 nf pc : Nat} {Q : State → Prop} {Qp : Option Value → zW → Prop} {mt : zA → Nat → Prop}
theorem so_new (C : zCx mt p l e R s m args below meth c G L xs cc own rt cl d n0 nf Q Qp) {ci n : Nat} {Cn : String} {T : u_T} {N : Nat} {ty : Nat → FieldType} (B : zKls ci Cn T N ty) (hd : ∀ j, j < N → defaultValue (ty j) = (if zfr ci j = true then .null else .int 0)) (D : decode cc pc = .ok (.new n, 3)) (hw : Cond.classLink own n Cn ∈ zGw) (hi : Cond.instantiable Cn N ∈ zGw) (hini : Cond.initialized Cn ∈ zGw) : zSd p l e R s m args below meth c G L xs cl n0 nf Q Qp pc (o_new ci) := by
  intro ls st w K h hK hle lsm H locs h1 h2 h3 h4
  unfold o_new at h
  obtain ⟨g, h⟩ := h
  obtain ⟨g1, g2, g3⟩ := of_decide_eq_true g
  dsimp only at g1 g2 g3 h
  have hn := hle _ h
  dsimp only [zal] at hn
  have hN : (zsh w.2.2.2).2.2 = N := by rw [zsh_ok _ g1 g2, g3, zcl_n B]
  have hc1 : w.2.2.2 - n0 + 1 ≤ R.cells := by rw [← zx14 h4]; exact zx10 hn C.2.2.2.2.2.2.1.2.2.1
  have hs1 : zsl w.2.2.2 - zsl n0 + N ≤ R.slots := by rw [← hN, ← zx15 h4]; exact zx11 hn C.2.2.2.2.2.2.1.2.2.2
  have hKn := C.2.2.2.2.1.1.1 ci _ B.1
  refine W.newcK C.1 C.2.1 C.2.2.1 (C.2.2.2.1 _ hw) (C.2.2.2.1 _ hi) (C.2.2.2.1 _ hini) rfl D hc1 hs1 hKn.2.1 rfl fun H1 kC hkC e1 z1 o1 => ?_
  have hz : H.size = G.2.2.1 + w.2.2.2 := h2.1
  have h' := hK _ h lsm H1 locs h1 (zRl_push (w' := zal w) h2 g1 rfl (fun a ha => ⟨zup1_ne ha, zup1_ne ha, zup1_ne ha⟩) (by
    unfold zce
    rw [if_pos g2, g3, hN]
    refine ⟨_, B.1, ?_⟩
    show t_OB (G.2.2.1 + w.2.2.2) _ _ _ _ _
    rw [← hz]
    refine (u_born ty C.2.2.2.1 B.2.1 hKn hkC e1 B.2.2.1).to fun j hj => ?_
    dsimp only
    rw [hd j hj]
    unfold vp_V
    rw [List.getD_eq_getElem?_getD, zfs_get hj]
    unfold zfv zal
    dsimp only
    rw [zup1_eq, zup1_eq]
    by_cases q : zfr ci j = true <;> simp [q, zzf, zzr, va_rf]) z1 o1) (zS_push h3 z1 o1) (Nat.le_succ_of_le h4)
  dsimp only [zal] at h'
  rw [zx14 h4, zx15 h4, hN] at h'
  simp only [List.map_cons, ztr, zad_lt g1, ← hz] at h'
  exact h'
theorem so_newa_int (C : zCx mt p l e R s m args below meth c G L xs cc own rt cl d n0 nf Q Qp) (D : decode cc pc = .ok (.newarray .int, 2)) (hw : Cond.arrayClass .int ∈ zGw) : zSd p l e R s m args below meth c G L xs cl n0 nf Q Qp pc (o_newa 1 2) := by
  intro ls st w K h hK hle lsm H locs h1 h2 h3 h4
  unfold o_newa at h
  dsimp only at h
  split at h
  · rename_i x t
    obtain ⟨g, h⟩ := h
    obtain ⟨g1, g2, g3, g4⟩ := of_decide_eq_true g
    have hn := hle _ h
    dsimp only [zal] at hn
    have hc1 : w.2.2.2 - n0 + 1 ≤ R.cells := by rw [← zx14 h4]; exact zx10 hn C.2.2.2.2.2.2.1.2.2.1
    have hs1 : zsl w.2.2.2 - zsl n0 + (zsh w.2.2.2).2.2 ≤ R.slots := by rw [← zx15 h4]; exact zx11 hn C.2.2.2.2.2.2.1.2.2.2
    have hx : x.toNatClampNeg = (zsh w.2.2.2).2.2 := by
      show x.toInt.toNat = _
      rw [g4]
      rfl
    have hx0 : ¬ x < 0 := fun q => by
      have := Int32.lt_iff_toInt_lt.mp q
      rw [g4] at this
      exact absurd this (Int.not_lt.mpr (Int.natCast_nonneg _))
    have hz : H.size = G.2.2.1 + w.2.2.2 := h2.1
    have hRA : s.vm.findClass ("[" ++ (newarray.typeOf .int).toString) = some (G.2.1 1) := (C.2.2.2.2.1.1.2 0 (G.2.1 1, .int) rfl).2
    refine W.newa (atype := .int) C.1 C.2.1 (C.2.2.2.1 _ hw) rfl D rfl hx0 (by rw [hx]; exact Nat.le_trans (Nat.mul_le_mul (Nat.le_of_lt g3) (Nat.le_of_ble_eq_true rfl : componentBytes (newarray.typeOf .int) ≤ 8)) (Nat.le_of_ble_eq_true rfl)) hc1 (by rw [hx]; exact hs1) fun cA kA comp f1 f2 f3 => ?_
    have hcA : cA = G.2.1 1 := Option.some.inj (f1.symm.trans hRA)
    subst hcA
    rw [hx]
    generalize hH1 : H.push ({ cls := G.2.1 1, slots := Array.replicate (zsh w.2.2.2).2.2 (defaultValue (newarray.typeOf .int)), vm := .none } : Cell) = H1
    have z1 : H1.size = H.size + 1 := by rw [← hH1, Array.size_push]
    have e1 : H1[H.size]? = some (arrV (G.2.1 1) (zsh w.2.2.2).2.2 (fun _ => .int 0)) := by rw [← hH1, Array.getElem?_push_size, ← arrV_new]; rfl
    have o1 : ∀ q : Nat, q < H.size → H1[q]? = H[q]? := fun q hq => by rw [← hH1, Array.getElem?_push, if_neg (Nat.ne_of_lt hq)]
    have h' := hK _ h lsm H1 locs h1 (zRl_push (w' := zal w) h2 g1 rfl (fun a ha => ⟨zup1_ne ha, zup1_ne ha, zup1_ne ha⟩) (by
      rw [zce_i (by rw [g2]; decide) (by rw [g2]; decide), g2]
      show H1[G.2.2.1 + w.2.2.2]? = some (vp_cell _ _)
      rw [← hz, e1]
      unfold zal
      dsimp only
      rw [zup1_eq]
      rfl) z1 o1) (zS_push h3 z1 o1) (Nat.le_succ_of_le h4)
    dsimp only [zal] at h'
    rw [zx14 h4, zx15 h4] at h'
    simp only [List.map_cons, ztr, zad_lt g1, ← hz] at h'
    exact h'
  · exact h.elim
theorem so_newa_byte (C : zCx mt p l e R s m args below meth c G L xs cc own rt cl d n0 nf Q Qp) (D : decode cc pc = .ok (.newarray .byte, 2)) (hw : Cond.arrayClass .byte ∈ zGw) : zSd p l e R s m args below meth c G L xs cl n0 nf Q Qp pc (o_newa 2 2) := by
  intro ls st w K h hK hle lsm H locs h1 h2 h3 h4
  unfold o_newa at h
  dsimp only at h
  split at h
  · rename_i x t
    obtain ⟨g, h⟩ := h
    obtain ⟨g1, g2, g3, g4⟩ := of_decide_eq_true g
    have hn := hle _ h
    dsimp only [zal] at hn
    have hc1 : w.2.2.2 - n0 + 1 ≤ R.cells := by rw [← zx14 h4]; exact zx10 hn C.2.2.2.2.2.2.1.2.2.1
    have hs1 : zsl w.2.2.2 - zsl n0 + (zsh w.2.2.2).2.2 ≤ R.slots := by rw [← zx15 h4]; exact zx11 hn C.2.2.2.2.2.2.1.2.2.2
    have hx : x.toNatClampNeg = (zsh w.2.2.2).2.2 := by
      show x.toInt.toNat = _
      rw [g4]
      rfl
    have hx0 : ¬ x < 0 := fun q => by
      have := Int32.lt_iff_toInt_lt.mp q
      rw [g4] at this
      exact absurd this (Int.not_lt.mpr (Int.natCast_nonneg _))
    have hz : H.size = G.2.2.1 + w.2.2.2 := h2.1
    have hRA : s.vm.findClass ("[" ++ (newarray.typeOf .byte).toString) = some (G.2.1 2) := (C.2.2.2.2.1.1.2 1 (G.2.1 2, .byte) rfl).2
    refine W.newa (atype := .byte) C.1 C.2.1 (C.2.2.2.1 _ hw) rfl D rfl hx0 (by rw [hx]; exact Nat.le_trans (Nat.mul_le_mul (Nat.le_of_lt g3) (Nat.le_of_ble_eq_true rfl : componentBytes (newarray.typeOf .byte) ≤ 8)) (Nat.le_of_ble_eq_true rfl)) hc1 (by rw [hx]; exact hs1) fun cA kA comp f1 f2 f3 => ?_
    have hcA : cA = G.2.1 2 := Option.some.inj (f1.symm.trans hRA)
    subst hcA
    rw [hx]
    generalize hH1 : H.push ({ cls := G.2.1 2, slots := Array.replicate (zsh w.2.2.2).2.2 (defaultValue (newarray.typeOf .byte)), vm := .none } : Cell) = H1
    have z1 : H1.size = H.size + 1 := by rw [← hH1, Array.size_push]
    have e1 : H1[H.size]? = some (arrV (G.2.1 2) (zsh w.2.2.2).2.2 (fun _ => .int 0)) := by rw [← hH1, Array.getElem?_push_size, ← arrV_new]; rfl
    have o1 : ∀ q : Nat, q < H.size → H1[q]? = H[q]? := fun q hq => by rw [← hH1, Array.getElem?_push, if_neg (Nat.ne_of_lt hq)]
    have h' := hK _ h lsm H1 locs h1 (zRl_push (w' := zal w) h2 g1 rfl (fun a ha => ⟨zup1_ne ha, zup1_ne ha, zup1_ne ha⟩) (by
      rw [zce_i (by rw [g2]; decide) (by rw [g2]; decide), g2]
      show H1[G.2.2.1 + w.2.2.2]? = some (vp_cell _ _)
      rw [← hz, e1]
      unfold zal
      dsimp only
      rw [zup1_eq]
      rfl) z1 o1) (zS_push h3 z1 o1) (Nat.le_succ_of_le h4)
    dsimp only [zal] at h'
    rw [zx14 h4, zx15 h4] at h'
    simp only [List.map_cons, ztr, zad_lt g1, ← hz] at h'
    exact h'
  · exact h.elim
theorem so_newa_boolean (C : zCx mt p l e R s m args below meth c G L xs cc own rt cl d n0 nf Q Qp) (D : decode cc pc = .ok (.newarray .boolean, 2)) (hw : Cond.arrayClass .boolean ∈ zGw) : zSd p l e R s m args below meth c G L xs cl n0 nf Q Qp pc (o_newa 3 2) := by
  intro ls st w K h hK hle lsm H locs h1 h2 h3 h4
  unfold o_newa at h
  dsimp only at h
  split at h
  · rename_i x t
    obtain ⟨g, h⟩ := h
    obtain ⟨g1, g2, g3, g4⟩ := of_decide_eq_true g
    have hn := hle _ h
    dsimp only [zal] at hn
    have hc1 : w.2.2.2 - n0 + 1 ≤ R.cells := by rw [← zx14 h4]; exact zx10 hn C.2.2.2.2.2.2.1.2.2.1
    have hs1 : zsl w.2.2.2 - zsl n0 + (zsh w.2.2.2).2.2 ≤ R.slots := by rw [← zx15 h4]; exact zx11 hn C.2.2.2.2.2.2.1.2.2.2
    have hx : x.toNatClampNeg = (zsh w.2.2.2).2.2 := by
      show x.toInt.toNat = _
      rw [g4]
      rfl
    have hx0 : ¬ x < 0 := fun q => by
      have := Int32.lt_iff_toInt_lt.mp q
      rw [g4] at this
      exact absurd this (Int.not_lt.mpr (Int.natCast_nonneg _))
    have hz : H.size = G.2.2.1 + w.2.2.2 := h2.1
    have hRA : s.vm.findClass ("[" ++ (newarray.typeOf .boolean).toString) = some (G.2.1 3) := (C.2.2.2.2.1.1.2 2 (G.2.1 3, .boolean) rfl).2
    refine W.newa (atype := .boolean) C.1 C.2.1 (C.2.2.2.1 _ hw) rfl D rfl hx0 (by rw [hx]; exact Nat.le_trans (Nat.mul_le_mul (Nat.le_of_lt g3) (Nat.le_of_ble_eq_true rfl : componentBytes (newarray.typeOf .boolean) ≤ 8)) (Nat.le_of_ble_eq_true rfl)) hc1 (by rw [hx]; exact hs1) fun cA kA comp f1 f2 f3 => ?_
    have hcA : cA = G.2.1 3 := Option.some.inj (f1.symm.trans hRA)
    subst hcA
    rw [hx]
    generalize hH1 : H.push ({ cls := G.2.1 3, slots := Array.replicate (zsh w.2.2.2).2.2 (defaultValue (newarray.typeOf .boolean)), vm := .none } : Cell) = H1
    have z1 : H1.size = H.size + 1 := by rw [← hH1, Array.size_push]
    have e1 : H1[H.size]? = some (arrV (G.2.1 3) (zsh w.2.2.2).2.2 (fun _ => .int 0)) := by rw [← hH1, Array.getElem?_push_size, ← arrV_new]; rfl
    have o1 : ∀ q : Nat, q < H.size → H1[q]? = H[q]? := fun q hq => by rw [← hH1, Array.getElem?_push, if_neg (Nat.ne_of_lt hq)]
    have h' := hK _ h lsm H1 locs h1 (zRl_push (w' := zal w) h2 g1 rfl (fun a ha => ⟨zup1_ne ha, zup1_ne ha, zup1_ne ha⟩) (by
      rw [zce_i (by rw [g2]; decide) (by rw [g2]; decide), g2]
      show H1[G.2.2.1 + w.2.2.2]? = some (vp_cell _ _)
      rw [← hz, e1]
      unfold zal
      dsimp only
      rw [zup1_eq]
      rfl) z1 o1) (zS_push h3 z1 o1) (Nat.le_succ_of_le h4)
    dsimp only [zal] at h'
    rw [zx14 h4, zx15 h4] at h'
    simp only [List.map_cons, ztr, zad_lt g1, ← hz] at h'
    exact h'
  · exact h.elim
theorem so_newa_long (C : zCx mt p l e R s m args below meth c G L xs cc own rt cl d n0 nf Q Qp) (D : decode cc pc = .ok (.newarray .long, 2)) (hw : Cond.arrayClass .long ∈ zGw) : zSd p l e R s m args below meth c G L xs cl n0 nf Q Qp pc (o_newa 4 2) := by
  intro ls st w K h hK hle lsm H locs h1 h2 h3 h4
  unfold o_newa at h
  dsimp only at h
  split at h
  · rename_i x t
    obtain ⟨g, h⟩ := h
    obtain ⟨g1, g2, g3, g4⟩ := of_decide_eq_true g
    have hn := hle _ h
    dsimp only [zal] at hn
    have hc1 : w.2.2.2 - n0 + 1 ≤ R.cells := by rw [← zx14 h4]; exact zx10 hn C.2.2.2.2.2.2.1.2.2.1
    have hs1 : zsl w.2.2.2 - zsl n0 + (zsh w.2.2.2).2.2 ≤ R.slots := by rw [← zx15 h4]; exact zx11 hn C.2.2.2.2.2.2.1.2.2.2
    have hx : x.toNatClampNeg = (zsh w.2.2.2).2.2 := by
      show x.toInt.toNat = _
      rw [g4]
      rfl
    have hx0 : ¬ x < 0 := fun q => by
      have := Int32.lt_iff_toInt_lt.mp q
      rw [g4] at this
      exact absurd this (Int.not_lt.mpr (Int.natCast_nonneg _))
    have hz : H.size = G.2.2.1 + w.2.2.2 := h2.1
    have hRA : s.vm.findClass ("[" ++ (newarray.typeOf .long).toString) = some (G.2.1 4) := (C.2.2.2.2.1.1.2 3 (G.2.1 4, .long) rfl).2
    refine W.newa (atype := .long) C.1 C.2.1 (C.2.2.2.1 _ hw) rfl D rfl hx0 (by rw [hx]; exact Nat.le_trans (Nat.mul_le_mul (Nat.le_of_lt g3) (Nat.le_of_ble_eq_true rfl : componentBytes (newarray.typeOf .long) ≤ 8)) (Nat.le_of_ble_eq_true rfl)) hc1 (by rw [hx]; exact hs1) fun cA kA comp f1 f2 f3 => ?_
    have hcA : cA = G.2.1 4 := Option.some.inj (f1.symm.trans hRA)
    subst hcA
    rw [hx]
    generalize hH1 : H.push ({ cls := G.2.1 4, slots := Array.replicate (zsh w.2.2.2).2.2 (defaultValue (newarray.typeOf .long)), vm := .none } : Cell) = H1
    have z1 : H1.size = H.size + 1 := by rw [← hH1, Array.size_push]
    have e1 : H1[H.size]? = some (arrV (G.2.1 4) (zsh w.2.2.2).2.2 (fun _ => .long 0)) := by rw [← hH1, Array.getElem?_push_size, ← arrV_new]; rfl
    have o1 : ∀ q : Nat, q < H.size → H1[q]? = H[q]? := fun q hq => by rw [← hH1, Array.getElem?_push, if_neg (Nat.ne_of_lt hq)]
    have h' := hK _ h lsm H1 locs h1 (zRl_push (w' := zal w) h2 g1 rfl (fun a ha => ⟨zup1_ne ha, zup1_ne ha, zup1_ne ha⟩) (by
      rw [zce_l g2]
      show H1[G.2.2.1 + w.2.2.2]? = some (vp_cell _ _)
      rw [← hz, e1]
      unfold zal
      dsimp only
      rw [zup1_eq]
      rfl) z1 o1) (zS_push h3 z1 o1) (Nat.le_succ_of_le h4)
    dsimp only [zal] at h'
    rw [zx14 h4, zx15 h4] at h'
    simp only [List.map_cons, ztr, zad_lt g1, ← hz] at h'
    exact h'
  · exact h.elim
theorem so_anew (C : zCx mt p l e R s m args below meth c G L xs cc own rt cl d n0 nf Q Qp) {n : Nat} (D : decode cc pc = .ok (.anewarray n, 3)) (hw : Cond.classLink own n "BitOff$Kitchen" ∈ zGw) : zSd p l e R s m args below meth c G L xs cl n0 nf Q Qp pc (o_newa 5 3) := by
  intro ls st w K h hK hle lsm H locs h1 h2 h3 h4
  unfold o_newa at h
  dsimp only at h
  split at h
  · rename_i x t
    obtain ⟨g, h⟩ := h
    obtain ⟨g1, g2, g3, g4⟩ := of_decide_eq_true g
    have hn := hle _ h
    dsimp only [zal] at hn
    have hc1 : w.2.2.2 - n0 + 1 ≤ R.cells := by rw [← zx14 h4]; exact zx10 hn C.2.2.2.2.2.2.1.2.2.1
    have hs1 : zsl w.2.2.2 - zsl n0 + (zsh w.2.2.2).2.2 ≤ R.slots := by rw [← zx15 h4]; exact zx11 hn C.2.2.2.2.2.2.1.2.2.2
    have hx : x.toNatClampNeg = (zsh w.2.2.2).2.2 := by
      show x.toInt.toNat = _
      rw [g4]
      rfl
    have hx0 : ¬ x < 0 := fun q => by
      have := Int32.lt_iff_toInt_lt.mp q
      rw [g4] at this
      exact absurd this (Int.not_lt.mpr (Int.natCast_nonneg _))
    have hz : H.size = G.2.2.1 + w.2.2.2 := h2.1
    obtain ⟨kA0, comp0, -, -, -, hRA⟩ := (C.2.2.2.2.1.1.2 4 (G.2.1 5, .object "BitOff$Kitchen") rfl).2
    refine W.anew C.1 C.2.1 C.2.2.1 (C.2.2.2.1 _ hw) (va_AO.use C.2.2.2.2.1.2.2.2.1) rfl D rfl hx0 (by rw [hx]; exact Nat.le_trans (Nat.mul_le_mul_right 4 (Nat.le_of_lt g3)) (Nat.le_of_ble_eq_true rfl)) hc1 (by rw [hx]; exact hs1) fun cA kA comp f1 f2 f3 f4 => ?_
    have hcA : cA = G.2.1 5 := Option.some.inj (f1.symm.trans hRA)
    subst hcA
    rw [hx]
    generalize hH1 : H.push ({ cls := G.2.1 5, slots := Array.replicate (zsh w.2.2.2).2.2 .null, vm := .none } : Cell) = H1
    have z1 : H1.size = H.size + 1 := by rw [← hH1, Array.size_push]
    have e1 : H1[H.size]? = some (arrV (G.2.1 5) (zsh w.2.2.2).2.2 (fun _ => .null)) := by rw [← hH1, Array.getElem?_push_size, ← arrV_new]
    have o1 : ∀ q : Nat, q < H.size → H1[q]? = H[q]? := fun q hq => by rw [← hH1, Array.getElem?_push, if_neg (Nat.ne_of_lt hq)]
    have h' := hK _ h lsm H1 locs h1 (zRl_push (w' := zal w) h2 g1 rfl (fun a ha => ⟨zup1_ne ha, zup1_ne ha, zup1_ne ha⟩) (by
      rw [zce_q (by rw [g2]; decide), g2]
      show H1[G.2.2.1 + w.2.2.2]? = some (vp_cell _ _)
      rw [← hz, e1]
      unfold zal
      dsimp only
      rw [zup1_eq]
      rfl) z1 o1) (zS_push h3 z1 o1) (Nat.le_succ_of_le h4)
    dsimp only [zal] at h'
    rw [zx14 h4, zx15 h4] at h'
    simp only [List.map_cons, ztr, zad_lt g1, ← hz] at h'
    exact h'
  · exact h.elim
/-- behind a call: the run goes on with what came back -/
theorem zback (C : zCx mt p l e R s m args below meth c G L xs cc own rt cl d n0 nf Q Qp) {as : List Value} {w w1 : zW} {r : Option Value} {ls : zL} {lsm : Array Slot} {t : List Value} {st0 : List Value} {H : Heap} {locs : List Loc} {a : Array Value} (h1 : zLr G c.maxLocals ls lsm) (h3 : va_S (zA0 G) s.heap H locs) (h4 : n0 ≤ w.2.2.2) (hm : w.2.2.2 ≤ w1.2.2.2)
    (run : va_Run p l e R s m args below meth c H locs (w.2.2.2 - n0) (zsl w.2.2.2 - zsl n0) (w1.2.2.2 - w.2.2.2) (zsl w1.2.2.2 - zsl w.2.2.2) (F0 m pc lsm st0) (t.map (ztr G)) (zQc G L xs r w1 a) (zA0 G))
    (hk : zgo p l e R s m args below meth c G L xs n0 Q (pc + 3, ls, r.toList ++ t, w1)) : W p l e R s m args below meth c H locs (w.2.2.2 - n0) (zsl w.2.2.2 - zsl n0) Q (F0 m pc lsm st0) := by
  intro T hT X
  obtain ⟨v, st₀, t1, T', L1, h0, X', hL, e1, e2, ⟨hv, hrl, hfr⟩, st⟩ := run T hT X
  have hv2 : v = r.map (ztr G) := Outcome.returned.inj hv
  subst hv2
  have hz : H.size ≤ T'.heap.size := by rw [e1, ← h0]; exact hfr.1
  have hq : ∀ q : Nat, q < H.size → ¬ zA0 G q → T'.heap[q]? = H[q]? := fun q g1 g2 => by rw [e1, ← h0]; exact hfr.2 q (by rw [h0]; exact g1) g2
  have h' := hk lsm T'.heap (locs ++ L1) h1 (by rw [e1]; exact hrl) ⟨Nat.le_trans h3.1 hz, fun q g1 g2 => (hq q (Nat.lt_of_lt_of_le g1 h3.1) g2).trans (h3.2.1 q g1 g2), fun q hq => by
    rcases List.mem_append.mp hq with h | h
    · exact h3.2.2 q h
    · exact hL q h⟩ (Nat.le_trans h4 hm)
  dsimp only at h'
  rw [← zx16 h4 hm, ← zx17 h4 hm] at h'
  obtain ⟨t2, a2, b2⟩ := h' T' rfl X'
  refine ⟨t2, st t2 ?_, b2⟩
  have e3 : List.map (ztr G) (r.toList ++ t) = (r.map (ztr G)).toList ++ t.map (ztr G) := by cases r <;> simp
  rw [e3] at a2
  exact a2
theorem zx19 {ml d f : Nat} (h : ml ≤ 30) (h2 : 60 * (d + 1) ≤ f) : 8 + (ml + 11) + 60 * d ≤ f := by omega
theorem zx20 {nc n0 nd nf c : Nat} (h0 : n0 ≤ nc) (h1 : nc ≤ nd) (h : nd ≤ nf) (h2 : nf - n0 ≤ c) : nc - n0 + (nd - nc) ≤ c := by omega
theorem zx21 {nc n0 nd nf c : Nat} (h0 : n0 ≤ nc) (h1 : nc ≤ nd) (h : nd ≤ nf) (h2 : zsl nf - zsl n0 ≤ c) : zsl nc - zsl n0 + (zsl nd - zsl nc) ≤ c := by
  have a := zsl_le h0
  have b := zsl_le h1
  have d := zsl_le h
  omega
theorem so_scall (C : zCx zmt p l e R s m args below meth c G L xs cc own rt cl d n0 nf Q Qp) {y n j : Nat} (D : decode cc pc = .ok (.invokestatic j, 3)) (hw : Cond.methodLink own j (znm y) ∈ zGw) (hy : zMy y n) (hs : Cond.static (znm y) ∈ zGw) : zSd p l e R s m args below meth c G L xs cl n0 nf Q Qp pc (o_scall y n) := by
  intro ls st w K h hK hle lsm H locs h1 h2 h3 h4
  unfold o_scall at h
  dsimp only at h
  split at h
  · rename_i as t ht
    obtain ⟨g, h⟩ := h
    obtain ⟨pre, p1, p2, p3⟩ := zpop_of _ _ _ _ _ ht
    dsimp only at h
    cases hc : cl y as w with
    | none => rw [hc] at h; exact h.elim
    | some q =>
      obtain ⟨r, w1⟩ := q
      rw [hc] at h
      obtain ⟨hm, M⟩ := C.2.2.2.2.2.2.2.2 y as w r w1 hc
      have hn := hle _ h
      refine zback C (as := as) h1 h3 h4 hm (va_runS (As := as.map (ztr G)) (rest := t.map (ztr G)) (n := n) ⟨C.1, C.2.1, rfl, C.2.2.1, C.2.2.2.1⟩ (M l G L xs) ⟨callB_of (ret := zrt y) n C.2.2.2.1 (zGw_good (zTs_good hy)) rfl rfl rfl (C.2.2.2.1 _ hy.1) (C.2.2.2.1 _ hw) hy.2.2.1 ⟨C.2.2.2.2.2.2.1.1, zx19 hy.2.2.2 C.2.2.2.2.2.2.1.2.1⟩, C.2.2.2.1 _ hs⟩ ⟨zPc_blind, zPc_at C h2 h3⟩ rfl (by rw [List.length_map, p3, List.append_nil, List.length_reverse, p1]) h1.1 ?_ (lv_room (zroom8 g)) D ⟨zx20 h4 hm hn C.2.2.2.2.2.2.1.2.2.1, zx21 h4 hm hn C.2.2.2.2.2.2.1.2.2.2⟩) (hK _ h)
      show st.map (ztr G) = _
      rw [p2, p3]
      simp
  · exact h.elim
/-- the class of number ci (8: a String) -/
def zRv (ci : Nat) (Cn : String) : Prop := (ci = 8 ∧ Cn = "java/lang/String") ∨ (ci ≠ 8 ∧ ∃ (T : u_T) (N : Nat) (ty : Nat → FieldType), zKls ci Cn T N ty)
theorem zrecv (C : zCx mt p l e R s m args below meth c G L xs cc own rt cl d n0 nf Q Qp) {ci : Nat} {Cn : String} {as : List Value} {w : zW} {H : Heap} {locs : List Loc} (h2 : zRl G L xs w H) (h3 : va_S (zA0 G) s.heap H locs) (hcl : zRv ci Cn) (h : zrv ci as w = true) : ∃ (k : Nat) (as' : List Value), as = .ref k :: as' ∧ ∃ cellB : Cell, H[zad G k]? = some cellB ∧ cellB.vm.isStatics = false ∧ s.vm.findClass Cn = some cellB.cls := by
  unfold zrv at h
  split at h
  · rename_i k as'
    refine ⟨k, as', rfl, ?_⟩
    rcases hcl with ⟨e1, e2⟩ | ⟨e1, T, N, ty, B⟩
    · rw [if_pos e1] at h
      obtain ⟨g1, g2⟩ := of_decide_eq_true h
      obtain ⟨j, hj, rfl⟩ := zx5 g1 g2
      obtain ⟨cell, q1, q2, q3, -⟩ := (C.2.2.2.2.1.2.2.2.2.2.1 j hj).1.kept h3.2.1
      exact ⟨cell, q1, q2, by rw [e2]; exact q3⟩
    · rw [if_neg e1] at h
      obtain ⟨k1, k2, k3, k4⟩ := zob_get (G := G) B h2.2.2.1 h
      exact va_recv C.2.2.2.2.1.1 h2.2.1 B.1 k4
  · cases h
theorem so_vcall (C : zCx zmt p l e R s m args below meth c G L xs cc own rt cl d n0 nf Q Qp) {y n j ci : Nat} (D : decode cc pc = .ok (.invokevirtual j, 3)) (hw : Cond.methodLink own j (znm y) ∈ zGw) (hy : zMy y n) (hi : Cond.instanceMethod (znm y) ∈ zGw) (hs : ∀ (args : Array Value), (∀ w ∈ zGw, w.before args s = true) → (Cond.selects (znm y).cls (znm y) (znm y)).before args s = true) (hcl : zRv ci (znm y).cls) : zSd p l e R s m args below meth c G L xs cl n0 nf Q Qp pc (o_call y (n + 1) ci) := by
  intro ls st w K h hK hle lsm H locs h1 h2 h3 h4
  unfold o_call at h
  dsimp only at h
  split at h
  · rename_i as t ht
    obtain ⟨g, h⟩ := h
    obtain ⟨gr, gt⟩ := Bool.and_eq_true_iff.mp g
    clear g
    obtain ⟨pre, p1, p2, p3⟩ := zpop_of _ _ _ _ _ ht
    dsimp only at h
    cases hc : cl y as w with
    | none => rw [hc] at h; exact h.elim
    | some q =>
      obtain ⟨r, w1⟩ := q
      rw [hc] at h
      obtain ⟨hm, M⟩ := C.2.2.2.2.2.2.2.2 y as w r w1 hc
      have hn := hle _ h
      obtain ⟨k, as', e, hrc⟩ := zrecv C h2 h3 hcl gr
      subst e
      refine zback C (as := .ref k :: as') h1 h3 h4 hm (va_runV (b := zad G k) (C := (znm y).cls) (As := as'.map (ztr G)) (rest := t.map (ztr G)) (n := n) ⟨C.1, C.2.1, rfl, C.2.2.1, C.2.2.2.1⟩ (M l G L xs) ⟨callB_of (ret := zrt y) n C.2.2.2.1 (zGw_good (zTs_good hy)) rfl rfl rfl (C.2.2.2.1 _ hy.1) (C.2.2.2.1 _ hw) hy.2.2.1 ⟨C.2.2.2.2.2.2.1.1, zx19 hy.2.2.2 C.2.2.2.2.2.2.1.2.1⟩, C.2.2.2.1 _ hi, hs _ C.2.2.2.1⟩ ⟨zPc_blind, hrc, zPc_at C h2 h3⟩ rfl ?_ h1.1 ?_ (lv_room (zroom8 gt)) D ⟨zx20 h4 hm hn C.2.2.2.2.2.2.1.2.2.1, zx21 h4 hm hn C.2.2.2.2.2.2.1.2.2.2⟩) (hK _ h)
      · have := congrArg List.length p3
        rw [List.append_nil, List.length_reverse, p1, List.length_cons] at this
        rw [List.length_map]
        exact Nat.succ.inj this
      · show st.map (ztr G) = _
        have e2 : pre = as'.reverse ++ [.ref k] := by
          rw [List.append_nil] at p3
          rw [← List.reverse_reverse pre, ← p3]
          simp
        rw [p2, e2]
        simp [ztr]
  · exact h.elim
theorem so_icall (C : zCx zmt p l e R s m args below meth c G L xs cc own rt cl d n0 nf Q Qp) {y n j ci : Nat} (D : decode cc pc = .ok (.invokespecial j, 3)) (hw : Cond.methodLink own j (znm y) ∈ zGw) (hy : zMy y n) (hi : Cond.instanceMethod (znm y) ∈ zGw) (hr : zrt y = none) (hn1 : (znm y).name = "<init>") : zSd p l e R s m args below meth c G L xs cl n0 nf Q Qp pc (o_call y (n + 1) ci) := by
  intro ls st w K h hK hle lsm H locs h1 h2 h3 h4
  unfold o_call at h
  dsimp only at h
  split at h
  · rename_i as t ht
    obtain ⟨g, h⟩ := h
    obtain ⟨gr, gt⟩ := Bool.and_eq_true_iff.mp g
    clear g
    obtain ⟨pre, p1, p2, p3⟩ := zpop_of _ _ _ _ _ ht
    dsimp only at h
    cases hc : cl y as w with
    | none => rw [hc] at h; exact h.elim
    | some q =>
      obtain ⟨r, w1⟩ := q
      rw [hc] at h
      obtain ⟨hm, M⟩ := C.2.2.2.2.2.2.2.2 y as w r w1 hc
      have hn := hle _ h
      obtain ⟨k, as', rfl⟩ : ∃ (k : Nat) (as' : List Value), as = .ref k :: as' := by
        unfold zrv at gr
        split at gr
        · exact ⟨_, _, rfl⟩
        · cases gr
      refine zback C (as := .ref k :: as') h1 h3 h4 hm (va_runI (b := zad G k) (As := as'.map (ztr G)) (rest := t.map (ztr G)) (n := n) ⟨C.1, C.2.1, rfl, C.2.2.1, C.2.2.2.1⟩ (M l G L xs) ⟨by rw [← hr]; exact callB_of (ret := zrt y) n C.2.2.2.1 (zGw_good (zTs_good hy)) rfl rfl rfl (C.2.2.2.1 _ hy.1) (C.2.2.2.1 _ hw) hy.2.2.1 ⟨C.2.2.2.2.2.2.1.1, zx19 hy.2.2.2 C.2.2.2.2.2.2.1.2.1⟩, hn1, C.2.2.2.1 _ hi⟩ ⟨zPc_blind, zPc_at C h2 h3⟩ rfl ?_ h1.1 ?_ (lv_room (zroom8 gt)) D ⟨zx20 h4 hm hn C.2.2.2.2.2.2.1.2.2.1, zx21 h4 hm hn C.2.2.2.2.2.2.1.2.2.2⟩) (hK _ h)
      · have := congrArg List.length p3
        rw [List.append_nil, List.length_reverse, p1, List.length_cons] at this
        rw [List.length_map]
        exact Nat.succ.inj this
      · show st.map (ztr G) = _
        have e2 : pre = as'.reverse ++ [.ref k] := by
          rw [List.append_nil] at p3
          rw [← List.reverse_reverse pre, ← p3]
          simp
        rw [p2, e2]
        simp [ztr]
  · exact h.elim
theorem so_scallN (C : zCx zmt p l e R s m args below meth c G L xs cc own rt cl d n0 nf Q Qp) {y n j : Nat} {host : String} (D : decode cc pc = .ok (.invokestatic j, 3)) (hw : Cond.methodLinkNest own j (znm y) host ∈ zNst) (hy : zMy y n) (hs : Cond.static (znm y) ∈ zGw) : zSd p l e R s m args below meth c G L xs cl n0 nf Q Qp pc (o_scall y n) := by
  intro ls st w K h hK hle lsm H locs h1 h2 h3 h4
  unfold o_scall at h
  dsimp only at h
  split at h
  · rename_i as t ht
    obtain ⟨g, h⟩ := h
    obtain ⟨pre, p1, p2, p3⟩ := zpop_of _ _ _ _ _ ht
    dsimp only at h
    cases hc : cl y as w with
    | none => rw [hc] at h; exact h.elim
    | some q =>
      obtain ⟨r, w1⟩ := q
      rw [hc] at h
      obtain ⟨hm, M⟩ := C.2.2.2.2.2.2.2.2 y as w r w1 hc
      have hn := hle _ h
      refine zback C (as := as) h1 h3 h4 hm (va_runSN (As := as.map (ztr G)) (rest := t.map (ztr G)) (n := n) ⟨C.1, C.2.1, rfl, C.2.2.1, C.2.2.2.1⟩ (M l G L xs) ⟨va_cnB (ret := zrt y) n C.2.2.2.1 (zGw_good (zTs_good hy)) rfl rfl rfl (C.2.2.2.2.1.2.1 _ hw) (C.2.2.2.1 _ hy.1) hy.2.2.1 ⟨C.2.2.2.2.2.2.1.1, zx19 hy.2.2.2 C.2.2.2.2.2.2.1.2.1⟩, C.2.2.2.1 _ hs, trivial⟩ ⟨zPc_blind, zPc_at C h2 h3⟩ rfl (by rw [List.length_map, p3, List.append_nil, List.length_reverse, p1]) h1.1 ?_ (lv_room (zroom8 g)) D ⟨zx20 h4 hm hn C.2.2.2.2.2.2.1.2.2.1, zx21 h4 hm hn C.2.2.2.2.2.2.1.2.2.2⟩) (hK _ h)
      show st.map (ztr G) = _
      rw [p2, p3]
      simp
  · exact h.elim
theorem so_vcallN (C : zCx zmt p l e R s m args below meth c G L xs cc own rt cl d n0 nf Q Qp) {y n j ci : Nat} {host : String} (D : decode cc pc = .ok (.invokevirtual j, 3)) (hw : Cond.methodLinkNest own j (znm y) host ∈ zNst) (hy : zMy y n) (hi : Cond.instanceMethod (znm y) ∈ zGw) (hs : ∀ (args : Array Value), (∀ w ∈ zGw, w.before args s = true) → (Cond.selects (znm y).cls (znm y) (znm y)).before args s = true) (hcl : zRv ci (znm y).cls) : zSd p l e R s m args below meth c G L xs cl n0 nf Q Qp pc (o_call y (n + 1) ci) := by
  intro ls st w K h hK hle lsm H locs h1 h2 h3 h4
  unfold o_call at h
  dsimp only at h
  split at h
  · rename_i as t ht
    obtain ⟨g, h⟩ := h
    obtain ⟨gr, gt⟩ := Bool.and_eq_true_iff.mp g
    clear g
    obtain ⟨pre, p1, p2, p3⟩ := zpop_of _ _ _ _ _ ht
    dsimp only at h
    cases hc : cl y as w with
    | none => rw [hc] at h; exact h.elim
    | some q =>
      obtain ⟨r, w1⟩ := q
      rw [hc] at h
      obtain ⟨hm, M⟩ := C.2.2.2.2.2.2.2.2 y as w r w1 hc
      have hn := hle _ h
      obtain ⟨k, as', e, hrc⟩ := zrecv C h2 h3 hcl gr
      subst e
      refine zback C (as := .ref k :: as') h1 h3 h4 hm (va_runVN (b := zad G k) (C := (znm y).cls) (As := as'.map (ztr G)) (rest := t.map (ztr G)) (n := n) ⟨C.1, C.2.1, rfl, C.2.2.1, C.2.2.2.1⟩ (M l G L xs) ⟨va_cnB (ret := zrt y) n C.2.2.2.1 (zGw_good (zTs_good hy)) rfl rfl rfl (C.2.2.2.2.1.2.1 _ hw) (C.2.2.2.1 _ hy.1) hy.2.2.1 ⟨C.2.2.2.2.2.2.1.1, zx19 hy.2.2.2 C.2.2.2.2.2.2.1.2.1⟩, C.2.2.2.1 _ hi, hs _ C.2.2.2.1⟩ ⟨zPc_blind, hrc, zPc_at C h2 h3⟩ rfl ?_ h1.1 ?_ (lv_room (zroom8 gt)) D ⟨zx20 h4 hm hn C.2.2.2.2.2.2.1.2.2.1, zx21 h4 hm hn C.2.2.2.2.2.2.1.2.2.2⟩) (hK _ h)
      · have := congrArg List.length p3
        rw [List.append_nil, List.length_reverse, p1, List.length_cons] at this
        rw [List.length_map]
        exact Nat.succ.inj this
      · show st.map (ztr G) = _
        have e2 : pre = as'.reverse ++ [.ref k] := by
          rw [List.append_nil] at p3
          rw [← List.reverse_reverse pre, ← p3]
          simp
        rw [p2, e2]
        simp [ztr]
  · exact h.elim
theorem so_icallN (C : zCx zmt p l e R s m args below meth c G L xs cc own rt cl d n0 nf Q Qp) {y n j ci : Nat} {host : String} (D : decode cc pc = .ok (.invokespecial j, 3)) (hw : Cond.methodLinkNest own j (znm y) host ∈ zNst) (hy : zMy y n) (hi : Cond.instanceMethod (znm y) ∈ zGw) (hr : zrt y = none) (hn1 : (znm y).name = "<init>") : zSd p l e R s m args below meth c G L xs cl n0 nf Q Qp pc (o_call y (n + 1) ci) := by
  intro ls st w K h hK hle lsm H locs h1 h2 h3 h4
  unfold o_call at h
  dsimp only at h
  split at h
  · rename_i as t ht
    obtain ⟨g, h⟩ := h
    obtain ⟨gr, gt⟩ := Bool.and_eq_true_iff.mp g
    clear g
    obtain ⟨pre, p1, p2, p3⟩ := zpop_of _ _ _ _ _ ht
    dsimp only at h
    cases hc : cl y as w with
    | none => rw [hc] at h; exact h.elim
    | some q =>
      obtain ⟨r, w1⟩ := q
      rw [hc] at h
      obtain ⟨hm, M⟩ := C.2.2.2.2.2.2.2.2 y as w r w1 hc
      have hn := hle _ h
      obtain ⟨k, as', rfl⟩ : ∃ (k : Nat) (as' : List Value), as = .ref k :: as' := by
        unfold zrv at gr
        split at gr
        · exact ⟨_, _, rfl⟩
        · cases gr
      refine zback C (as := .ref k :: as') h1 h3 h4 hm (va_runIN (b := zad G k) (As := as'.map (ztr G)) (rest := t.map (ztr G)) (n := n) ⟨C.1, C.2.1, rfl, C.2.2.1, C.2.2.2.1⟩ (M l G L xs) ⟨by rw [← hr]; exact va_cnB (ret := zrt y) n C.2.2.2.1 (zGw_good (zTs_good hy)) rfl rfl rfl (C.2.2.2.2.1.2.1 _ hw) (C.2.2.2.1 _ hy.1) hy.2.2.1 ⟨C.2.2.2.2.2.2.1.1, zx19 hy.2.2.2 C.2.2.2.2.2.2.1.2.1⟩, hn1, C.2.2.2.1 _ hi⟩ ⟨zPc_blind, zPc_at C h2 h3⟩ rfl ?_ h1.1 ?_ (lv_room (zroom8 gt)) D ⟨zx20 h4 hm hn C.2.2.2.2.2.2.1.2.2.1, zx21 h4 hm hn C.2.2.2.2.2.2.1.2.2.2⟩) (hK _ h)
      · have := congrArg List.length p3
        rw [List.append_nil, List.length_reverse, p1, List.length_cons] at this
        rw [List.length_map]
        exact Nat.succ.inj this
      · show st.map (ztr G) = _
        have e2 : pre = as'.reverse ++ [.ref k] := by
          rw [List.append_nil] at p3
          rw [← List.reverse_reverse pre, ← p3]
          simp
        rw [p2, e2]
        simp [ztr]
  · exact h.elim
end ZS
