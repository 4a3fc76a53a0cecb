/-! ===== arrays ===== -/
theorem zin_vp {i : Int32} {n : Nat} (h : zin i n = true) : vp_in i n := vp_in_iff.mpr (of_decide_eq_true h)
theorem zaw_get {G : zG} {w : zW} {tg k : Nat} (hn : w.2.2.2 ≤ 1000) (h : zaw tg k w = true) : k < w.2.2.2 ∧ k < 1000 ∧ (zsh k).1 = tg ∧ zad G k = G.2.2.1 + k ∧ (zws G w)[k]? = some (zad G k, zce G k (w.1 k) (w.2.1 k) (w.2.2.1 k)) := by
  obtain ⟨h1, h2⟩ := of_decide_eq_true h
  exact ⟨h1, by omega, h2, zad_lt (by omega), by rw [zws_get h1, zad_lt (by omega)]⟩
theorem zce_i {G : zG} {k : Nat} {i : Nat → Int32} {j : Nat → Int64} {r : Nat → Option Nat} (h0 : ¬ (zsh k).1 = 0) (h : (zsh k).1 ≤ 3) : zce G k i j r = .inl (G.2.1 (zsh k).1, (zsh k).2.2, .inl i) := by
  unfold zce
  rw [if_neg h0, if_pos h]
theorem zce_l {G : zG} {k : Nat} {i : Nat → Int32} {j : Nat → Int64} {r : Nat → Option Nat} (h : (zsh k).1 = 4) : zce G k i j r = .inl (G.2.1 4, (zsh k).2.2, .inr (.inl j)) := by
  unfold zce
  rw [if_neg (by omega), if_neg (by omega), if_pos h]
theorem zce_q {G : zG} {k : Nat} {i : Nat → Int32} {j : Nat → Int64} {r : Nat → Option Nat} (h : 5 ≤ (zsh k).1) : zce G k i j r = .inl (G.2.1 (zsh k).1, (zsh k).2.2, .inr (.inr (.inr (.inr (fun x => (r x).map (zad G)))))) := by
  unfold zce
  rw [if_neg (by omega), if_neg (by omega), if_neg (by omega)]
theorem zsh_st1 : ∀ k, 1010 ≤ k → k < 1030 → (zsh k).1 = 1 → k = 1020 ∨ k = 1021 := by
  have h : ∀ k, k < 20 → (zsh (1010 + k)).1 = 1 → 1010 + k = 1020 ∨ 1010 + k = 1021 := by decide +kernel
  intro k h1 h2 h3
  have := h (k - 1010) (by omega)
  rw [show 1010 + (k - 1010) = k by omega] at this
  exact this h3
theorem zsh_st2 : ∀ k, 1010 ≤ k → k < 1030 → (zsh k).1 = 2 → k < 1018 := by
  have h : ∀ k, k < 20 → (zsh (1010 + k)).1 = 2 → 1010 + k < 1018 := by decide +kernel
  intro k h1 h2 h3
  have := h (k - 1010) (by omega)
  rw [show 1010 + (k - 1010) = k by omega] at this
  exact this h3
theorem zsh_st3 : ∀ k, 1010 ≤ k → k < 1030 → ¬ (zsh k).1 = 3 := by
  have h : ∀ k, k < 20 → ¬ (zsh (1010 + k)).1 = 3 := by decide +kernel
  intro k h1 h2
  have := h (k - 1010) (by omega)
  rw [show 1010 + (k - 1010) = k by omega] at this
  exact this
theorem zx1 {k : Nat} (h : k < 1000) : ¬ k = 1021 := by omega
theorem zx2 {k : Nat} (h : 1010 ≤ k) (h2 : k < 1018) : ∃ j, j < 8 ∧ k = 1010 + j := ⟨k - 1010, by omega, by omega⟩
theorem zx3 {j : Nat} (h : j < 8) : ¬ 1010 + j = 1021 := by omega
theorem zx4 {j : Nat} (h : j < 8) : ¬ (1010 + j < 1000 ∨ 1010 + j = 1021) := by omega
theorem zx5 {k : Nat} (h : 1000 ≤ k) (h2 : k < 1008) : ∃ j, j < 8 ∧ k = 1000 + j := ⟨k - 1000, by omega, by omega⟩
theorem zx6 {t : Nat} (h : 1 ≤ t) (h2 : t ≤ 6) (h3 : ¬ t ≤ 3) (h4 : ¬ t = 4) : t = 5 ∨ t = 6 := by omega
theorem zx7 {t : Nat} (h : 1 ≤ t) (h3 : t ≤ 3) : t = 1 ∨ t = 2 ∨ t = 3 := by omega
theorem zx8 {t : Nat} (h : 1 ≤ t) (h3 : ¬ t ≤ 3) (h4 : ¬ t = 4) : 5 ≤ t := by omega
theorem zx9 {t : Nat} (h : 1 ≤ t) : ¬ t = 0 := by omega
theorem zsh_1020 : (zsh 1020).2.2 = 7 := by decide +kernel
section ZS
variable {p : Program} {l : Launch} {e : Env} {R : Room} {s : State} {m : MethodId} {args : Array Value} {below : List Frame} {meth : Method} {c : Code} {G : zG} {L : Nat} {xs : Nat → Int32} {cc : ByteArray} {own : String} {rt : Option FieldType} {cl : zA} {d n0 nf pc : Nat} {Q : State → Prop} {Qp : Option Value → zW → Prop} {mt : zA → Nat → Prop}
theorem so_iald (C : zCx mt p l e R s m args below meth c G L xs cc own rt cl d n0 nf Q Qp) (D : decode cc pc = .ok (.iaload, 1)) : zSd p l e R s m args below meth c G L xs cl n0 nf Q Qp pc (o_iald 1) := by
  intro ls st w K h hK _ lsm H locs h1 h2 h3 h4
  unfold o_iald at h
  dsimp only at h
  split at h
  · rename_i i k t
    obtain ⟨g, h⟩ := h
    obtain ⟨ga, gi⟩ := Bool.and_eq_true_iff.mp g
    have hi := zin_vp gi
    obtain ⟨g1, g2⟩ := of_decide_eq_true ga
    rcases g1 with g1 | ⟨g1, g1'⟩
    · have hnc : w.2.2.2 ≤ 1000 := h2.2.2.1
      have hk : k < 1000 := Nat.lt_of_lt_of_le g1 hnc
      have he : (zws G w)[k]? = some (zad G k, .inl (G.2.1 1, (zsh k).2.2, .inl (w.1 k))) := by
        rw [zws_get g1, zad_lt hk, zce_i (by rw [g2]; decide) (by rw [g2]; decide), g2]
      refine va_iald (D := G.1) (cl := zcls) (tys := ztys G) (ws := zws G w) C.1 C.2.1 C.2.2.2.2.1.1 h2.2.1 k 0 he rfl (i := i) ?_ D ?_
      · unfold zln at hi
        rw [if_neg (zx1 hk)] at hi
        exact hi
      · have h' := hK _ h lsm H locs h1 h2 h3 h4
        unfold zld at h'
        rw [if_pos (Or.inl hk)] at h'
        exact h'
    · obtain ⟨e1, e2, e3, e4, e5, e6, e7, e8, e9, e10, e11⟩ := C.2.2.2.2.1
      rcases zsh_st1 k g1 g1' g2 with e | e
      · subst e
        unfold zln at hi
        rw [if_neg (by decide), zsh_1020] at hi
        refine va_ti C.1 C.2.1 e7 h3 hi rfl D ?_
        have h' := hK _ h lsm H locs h1 h2 h3 h4
        unfold zld at h'
        rw [if_neg (by decide)] at h'
        exact h'
      · subst e
        unfold zln at hi
        have hL : (w.1 1022 0).toNatClampNeg = L := by
          rw [h2.2.2.2.2]
          exact nI_clamp e11.1
        rw [if_pos rfl, hL] at hi
        refine va_ti C.1 C.2.1 e8 h3 hi rfl D ?_
        have h' := hK _ h lsm H locs h1 h2 h3 h4
        unfold zld at h'
        rw [if_pos (Or.inr rfl)] at h'
        rw [← h2.2.2.2.1]
        exact h'
  · exact h.elim
theorem so_bald (C : zCx mt p l e R s m args below meth c G L xs cc own rt cl d n0 nf Q Qp) (D : decode cc pc = .ok (.baload, 1)) : zSd p l e R s m args below meth c G L xs cl n0 nf Q Qp pc (o_iald 2) := by
  intro ls st w K h hK _ lsm H locs h1 h2 h3 h4
  unfold o_iald at h
  dsimp only at h
  split at h
  · rename_i i k t
    obtain ⟨g, h⟩ := h
    obtain ⟨ga, gi⟩ := Bool.and_eq_true_iff.mp g
    have hi := zin_vp gi
    obtain ⟨g1, g2⟩ := of_decide_eq_true ga
    rcases g1 with g1 | ⟨g1, g1'⟩
    · have hnc : w.2.2.2 ≤ 1000 := h2.2.2.1
      have hk : k < 1000 := Nat.lt_of_lt_of_le g1 hnc
      have he : (zws G w)[k]? = some (zad G k, .inl (G.2.1 2, (zsh k).2.2, .inl (w.1 k))) := by
        rw [zws_get g1, zad_lt hk, zce_i (by rw [g2]; decide) (by rw [g2]; decide), g2]
      refine va_bald (D := G.1) (cl := zcls) (tys := ztys G) (ws := zws G w) C.1 C.2.1 C.2.2.2.2.1.1 h2.2.1 k 1 he rfl (i := i) ?_ D ?_
      · unfold zln at hi
        rw [if_neg (zx1 hk)] at hi
        exact hi
      · have h' := hK _ h lsm H locs h1 h2 h3 h4
        unfold zld at h'
        rw [if_pos (Or.inl hk)] at h'
        exact h'
    · obtain ⟨e1, e2, e3, e4, e5, e6, e7, e8, e9, e10, e11⟩ := C.2.2.2.2.1
      have hk := zsh_st2 k g1 g1' g2
      obtain ⟨j, hj, rfl⟩ := zx2 g1 hk
      have e := (e6 j hj).2.2.2
      unfold zln at hi
      rw [if_neg (zx3 hj)] at hi
      refine va_tb C.1 C.2.1 e h3 hi rfl D ?_
      have h' := hK _ h lsm H locs h1 h2 h3 h4
      unfold zld at h'
      rw [if_neg (zx4 hj)] at h'
      exact h'
  · exact h.elim
theorem so_zald (C : zCx mt p l e R s m args below meth c G L xs cc own rt cl d n0 nf Q Qp) (D : decode cc pc = .ok (.baload, 1)) : zSd p l e R s m args below meth c G L xs cl n0 nf Q Qp pc (o_iald 3) := by
  intro ls st w K h hK _ lsm H locs h1 h2 h3 h4
  unfold o_iald at h
  dsimp only at h
  split at h
  · rename_i i k t
    obtain ⟨g, h⟩ := h
    obtain ⟨ga, gi⟩ := Bool.and_eq_true_iff.mp g
    have hi := zin_vp gi
    obtain ⟨g1, g2⟩ := of_decide_eq_true ga
    rcases g1 with g1 | ⟨g1, g1'⟩
    · have hnc : w.2.2.2 ≤ 1000 := h2.2.2.1
      have hk : k < 1000 := Nat.lt_of_lt_of_le g1 hnc
      have he : (zws G w)[k]? = some (zad G k, .inl (G.2.1 3, (zsh k).2.2, .inl (w.1 k))) := by
        rw [zws_get g1, zad_lt hk, zce_i (by rw [g2]; decide) (by rw [g2]; decide), g2]
      refine va_zald (D := G.1) (cl := zcls) (tys := ztys G) (ws := zws G w) C.1 C.2.1 C.2.2.2.2.1.1 h2.2.1 k 2 he rfl (i := i) ?_ D ?_
      · unfold zln at hi
        rw [if_neg (zx1 hk)] at hi
        exact hi
      · have h' := hK _ h lsm H locs h1 h2 h3 h4
        unfold zld at h'
        rw [if_pos (Or.inl hk)] at h'
        exact h'
    · exact absurd g2 (zsh_st3 k g1 g1')
  · exact h.elim
theorem so_lald (C : zCx mt p l e R s m args below meth c G L xs cc own rt cl d n0 nf Q Qp) (D : decode cc pc = .ok (.laload, 1)) : zSd p l e R s m args below meth c G L xs cl n0 nf Q Qp pc (o_lald) := by
  intro ls st w K h hK _ lsm H locs h1 h2 h3 h4
  unfold o_lald at h
  dsimp only at h
  split at h
  · rename_i i k t
    obtain ⟨g, h⟩ := h
    obtain ⟨ga, gi⟩ := Bool.and_eq_true_iff.mp g
    obtain ⟨k1, k2, k3, k4, k5⟩ := zaw_get (G := G) h2.2.2.1 ga
    rw [zce_l k3] at k5
    exact va_lald (D := G.1) (cl := zcls) (tys := ztys G) (ws := zws G w) C.1 C.2.1 C.2.2.2.2.1.1 h2.2.1 k 3 k5 rfl (zin_vp gi) D (hK _ h lsm H locs h1 h2 h3 h4)
  · exact h.elim
theorem so_aald5 (C : zCx mt p l e R s m args below meth c G L xs cc own rt cl d n0 nf Q Qp) (D : decode cc pc = .ok (.aaload, 1)) : zSd p l e R s m args below meth c G L xs cl n0 nf Q Qp pc (o_aald 5) := by
  intro ls st w K h hK _ lsm H locs h1 h2 h3 h4
  unfold o_aald at h
  dsimp only at h
  split at h
  · rename_i i k t
    split at h
    · rename_i q hq
      obtain ⟨g, h⟩ := h
      obtain ⟨ga, gi⟩ := Bool.and_eq_true_iff.mp g
      obtain ⟨k1, k2, k3, k4, k5⟩ := zaw_get (G := G) h2.2.2.1 ga
      rw [zce_q (by rw [k3]; decide), k3] at k5
      have hi := zin_vp gi
      have hlt : i.toNatClampNeg < (zsh k).2.2 := Nat.not_le.mp fun q => hi (Or.inr q)
      have ht : (ztys G)[4]? = some (G.2.1 5, .object "BitOff$Kitchen") := rfl
      refine W.aald (v := .ref (zad G q)) (ty := .object "BitOff$Kitchen") C.1 C.2.1 (h2.2.1 k _ k5) ((C.2.2.2.2.1.1.2 4 _ ht).1 (zsh k).2.2 (fun j => va_rf ((w.2.2.1 k j).map (zad G)))) rfl (fun q => by cases q) (by show ¬ (i < 0 ∨ (arrV _ _ _).slots.size ≤ _); rw [arrV_size]; exact hi) ?_ rfl rfl D (hK _ h lsm H locs h1 h2 h3 h4)
      show (arrV _ _ _).slots[_]? = _
      rw [arrV_read _ _ hlt]
      dsimp only
      rw [hq]
      rfl
    · exact h.elim
  · exact h.elim
theorem so_aald6 (C : zCx mt p l e R s m args below meth c G L xs cc own rt cl d n0 nf Q Qp) (D : decode cc pc = .ok (.aaload, 1)) : zSd p l e R s m args below meth c G L xs cl n0 nf Q Qp pc (o_aald 6) := by
  intro ls st w K h hK _ lsm H locs h1 h2 h3 h4
  unfold o_aald at h
  dsimp only at h
  split at h
  · rename_i i k t
    split at h
    · rename_i q hq
      obtain ⟨g, h⟩ := h
      obtain ⟨ga, gi⟩ := Bool.and_eq_true_iff.mp g
      obtain ⟨k1, k2, k3, k4, k5⟩ := zaw_get (G := G) h2.2.2.1 ga
      rw [zce_q (by rw [k3]; decide), k3] at k5
      have hi := zin_vp gi
      have hlt : i.toNatClampNeg < (zsh k).2.2 := Nat.not_le.mp fun q => hi (Or.inr q)
      have ht : (ztys G)[5]? = some (G.2.1 6, .array .long) := rfl
      refine W.aald (v := .ref (zad G q)) (ty := .array .long) C.1 C.2.1 (h2.2.1 k _ k5) ((C.2.2.2.2.1.1.2 5 _ ht).1 (zsh k).2.2 (fun j => va_rf ((w.2.2.1 k j).map (zad G)))) rfl (fun q => by cases q) (by show ¬ (i < 0 ∨ (arrV _ _ _).slots.size ≤ _); rw [arrV_size]; exact hi) ?_ rfl rfl D (hK _ h lsm H locs h1 h2 h3 h4)
      show (arrV _ _ _).slots[_]? = _
      rw [arrV_read _ _ hlt]
      dsimp only
      rw [hq]
      rfl
    · exact h.elim
  · exact h.elim
theorem so_iast (C : zCx mt p l e R s m args below meth c G L xs cc own rt cl d n0 nf Q Qp) (D : decode cc pc = .ok (.iastore, 1)) : zSd p l e R s m args below meth c G L xs cl n0 nf Q Qp pc (o_iast 1) := by
  intro ls st w K h hK _ lsm H locs h1 h2 h3 h4
  unfold o_iast at h
  dsimp only at h
  split at h
  · rename_i x i k t
    obtain ⟨g, h⟩ := h
    obtain ⟨ga, gi⟩ := Bool.and_eq_true_iff.mp g
    obtain ⟨k1, k2, k3, k4, k5⟩ := zaw_get (G := G) h2.2.2.1 ga
    rw [zce_i (by rw [k3]; decide) (by rw [k3]; decide), k3] at k5
    have hi := zin_vp gi
    have ht : (ztys G)[0]? = some (G.2.1 1, .int) := rfl
    refine W.iast C.1 C.2.1 (h2.2.1 k _ k5) ((C.2.2.2.2.1.1.2 0 _ ht).1 (zsh k).2.2 (fun j => .int (w.1 k j))) (fun q => by cases q) (by show ¬ (i < 0 ∨ (arrV _ _ _).slots.size ≤ _); rw [arrV_size]; exact hi) rfl rfl D fun H1 e z oq => ?_
    refine hK _ h lsm H1 _ h1 (zRl_set (w' := (zup w.1 k i.toNatClampNeg (znr 1 x), w.2.1, w.2.2.1, w.2.2.2)) h2 k1 rfl (fun a ha => ⟨zup_ne ha, rfl, rfl⟩) ?_ z (by rw [← k4]; exact oq)) (h3.put z oq (by rw [k4]; exact Nat.le_add_right _ _)) h4
    rw [zce_i (by rw [k3]; decide) (by rw [k3]; decide), k3]
    show H1[_]? = some (vp_cell _ _)
    rw [← k4, e, vp_cell_i, vp_cell_i, arrV_store]
    congr 2
    funext q
    dsimp only
    rw [zup_eq]
    by_cases hq : q = i.toNatClampNeg
    · subst hq
      simp [updV, va_up, znr, vp_nar]
      try rfl
    · simp [updV, va_up, hq]
  · exact h.elim
theorem so_bast (C : zCx mt p l e R s m args below meth c G L xs cc own rt cl d n0 nf Q Qp) (D : decode cc pc = .ok (.bastore, 1)) : zSd p l e R s m args below meth c G L xs cl n0 nf Q Qp pc (o_iast 2) := by
  intro ls st w K h hK _ lsm H locs h1 h2 h3 h4
  unfold o_iast at h
  dsimp only at h
  split at h
  · rename_i x i k t
    obtain ⟨g, h⟩ := h
    obtain ⟨ga, gi⟩ := Bool.and_eq_true_iff.mp g
    obtain ⟨k1, k2, k3, k4, k5⟩ := zaw_get (G := G) h2.2.2.1 ga
    rw [zce_i (by rw [k3]; decide) (by rw [k3]; decide), k3] at k5
    have hi := zin_vp gi
    have ht : (ztys G)[1]? = some (G.2.1 2, .byte) := rfl
    refine W.bast C.1 C.2.1 (h2.2.1 k _ k5) ((C.2.2.2.2.1.1.2 1 _ ht).1 (zsh k).2.2 (fun j => .int (w.1 k j))) (fun q => by cases q) (by show ¬ (i < 0 ∨ (arrV _ _ _).slots.size ≤ _); rw [arrV_size]; exact hi) rfl rfl D fun H1 e z oq => ?_
    refine hK _ h lsm H1 _ h1 (zRl_set (w' := (zup w.1 k i.toNatClampNeg (znr 2 x), w.2.1, w.2.2.1, w.2.2.2)) h2 k1 rfl (fun a ha => ⟨zup_ne ha, rfl, rfl⟩) ?_ z (by rw [← k4]; exact oq)) (h3.put z oq (by rw [k4]; exact Nat.le_add_right _ _)) h4
    rw [zce_i (by rw [k3]; decide) (by rw [k3]; decide), k3]
    show H1[_]? = some (vp_cell _ _)
    rw [← k4, e, vp_cell_i, vp_cell_i, arrV_store]
    congr 2
    funext q
    dsimp only
    rw [zup_eq]
    by_cases hq : q = i.toNatClampNeg
    · subst hq
      simp [updV, va_up, znr, vp_nar]
      try rfl
    · simp [updV, va_up, hq]
  · exact h.elim
theorem so_zast (C : zCx mt p l e R s m args below meth c G L xs cc own rt cl d n0 nf Q Qp) (D : decode cc pc = .ok (.bastore, 1)) : zSd p l e R s m args below meth c G L xs cl n0 nf Q Qp pc (o_iast 3) := by
  intro ls st w K h hK _ lsm H locs h1 h2 h3 h4
  unfold o_iast at h
  dsimp only at h
  split at h
  · rename_i x i k t
    obtain ⟨g, h⟩ := h
    obtain ⟨ga, gi⟩ := Bool.and_eq_true_iff.mp g
    obtain ⟨k1, k2, k3, k4, k5⟩ := zaw_get (G := G) h2.2.2.1 ga
    rw [zce_i (by rw [k3]; decide) (by rw [k3]; decide), k3] at k5
    have hi := zin_vp gi
    have ht : (ztys G)[2]? = some (G.2.1 3, .boolean) := rfl
    refine W.zast C.1 C.2.1 (h2.2.1 k _ k5) ((C.2.2.2.2.1.1.2 2 _ ht).1 (zsh k).2.2 (fun j => .int (w.1 k j))) (fun q => by cases q) (by show ¬ (i < 0 ∨ (arrV _ _ _).slots.size ≤ _); rw [arrV_size]; exact hi) rfl rfl D fun H1 e z oq => ?_
    refine hK _ h lsm H1 _ h1 (zRl_set (w' := (zup w.1 k i.toNatClampNeg (znr 3 x), w.2.1, w.2.2.1, w.2.2.2)) h2 k1 rfl (fun a ha => ⟨zup_ne ha, rfl, rfl⟩) ?_ z (by rw [← k4]; exact oq)) (h3.put z oq (by rw [k4]; exact Nat.le_add_right _ _)) h4
    rw [zce_i (by rw [k3]; decide) (by rw [k3]; decide), k3]
    show H1[_]? = some (vp_cell _ _)
    rw [← k4, e, vp_cell_i, vp_cell_i, arrV_store]
    congr 2
    funext q
    dsimp only
    rw [zup_eq]
    by_cases hq : q = i.toNatClampNeg
    · subst hq
      simp [updV, va_up, znr, vp_nar]
      try rfl
    · simp [updV, va_up, hq]
  · exact h.elim
theorem so_last (C : zCx mt p l e R s m args below meth c G L xs cc own rt cl d n0 nf Q Qp) (D : decode cc pc = .ok (.lastore, 1)) : zSd p l e R s m args below meth c G L xs cl n0 nf Q Qp pc (o_last) := by
  intro ls st w K h hK _ lsm H locs h1 h2 h3 h4
  unfold o_last at h
  dsimp only at h
  split at h
  · rename_i x i k t
    obtain ⟨g, h⟩ := h
    obtain ⟨ga, gi⟩ := Bool.and_eq_true_iff.mp g
    obtain ⟨k1, k2, k3, k4, k5⟩ := zaw_get (G := G) h2.2.2.1 ga
    rw [zce_l k3] at k5
    have hi := zin_vp gi
    have ht : (ztys G)[3]? = some (G.2.1 4, .long) := rfl
    refine W.last C.1 C.2.1 (h2.2.1 k _ k5) ((C.2.2.2.2.1.1.2 3 _ ht).1 (zsh k).2.2 (fun j => .long (w.2.1 k j))) (fun q => by cases q) (by show ¬ (i < 0 ∨ (arrV _ _ _).slots.size ≤ _); rw [arrV_size]; exact hi) rfl rfl D fun H1 e z oq => ?_
    refine hK _ h lsm H1 _ h1 (zRl_set (w' := (w.1, zup w.2.1 k i.toNatClampNeg x, w.2.2.1, w.2.2.2)) h2 k1 rfl (fun a ha => ⟨rfl, zup_ne ha, rfl⟩) ?_ z (by rw [← k4]; exact oq)) (h3.put z oq (by rw [k4]; exact Nat.le_add_right _ _)) h4
    rw [zce_l k3]
    show H1[_]? = some (vp_cell _ _)
    rw [← k4, e, vp_cell_l, vp_cell_l, arrV_store]
    congr 2
    funext q
    dsimp only
    rw [zup_eq]
    by_cases hq : q = i.toNatClampNeg
    · subst hq
      simp [updV, va_up]
    · simp [updV, va_up, hq]
  · exact h.elim
theorem so_aast (C : zCx mt p l e R s m args below meth c G L xs cc own rt cl d n0 nf Q Qp) (B : zKls 1 "BitOff$Kitchen" TX1 8 tyX1) (D : decode cc pc = .ok (.aastore, 1)) : zSd p l e R s m args below meth c G L xs cl n0 nf Q Qp pc (o_aast) := by
  intro ls st w K h hK _ lsm H locs h1 h2 h3 h4
  unfold o_aast at h
  dsimp only at h
  split at h
  · rename_i v i k t
    obtain ⟨g, h⟩ := h
    obtain ⟨ga, g⟩ := Bool.and_eq_true_iff.mp g
    obtain ⟨gv, gi⟩ := Bool.and_eq_true_iff.mp g
    obtain ⟨k1, k2, k3, k4, k5⟩ := zaw_get (G := G) h2.2.2.1 ga
    obtain ⟨v1, v2, v3, v4⟩ := zob_get (G := G) B h2.2.2.1 gv
    rw [zce_q (by rw [k3]; decide), k3] at k5
    have hin := zin_vp gi
    have hlt : i.toNatClampNeg < (zsh k).2.2 := Nat.not_le.mp fun q => hin (Or.inr q)
    have h0 : ¬ i < 0 := fun q => hin (Or.inl q)
    have ht : (ztys G)[4]? = some (G.2.1 5, .object "BitOff$Kitchen") := rfl
    obtain ⟨r', hr', cellV, g1, g2, g3, -⟩ := h2.2.1 v _ v4
    have hcls := (C.2.2.2.2.1.1.1 1 _ B.1).2
    obtain ⟨kA, comp, j1, j2, j3, -⟩ := (C.2.2.2.2.1.1.2 4 _ ht).2
    have hcomp : comp = G.1.1 1 := Option.some.inj (j3.symm.trans hcls.1)
    subst hcomp
    obtain ⟨kC, hkC, -⟩ := hcls.2
    refine W.aast C.1 C.2.1 (h2.2.1 k _ k5) (fun q h => by cases h) (fun h => by cases h) j1 j2 rfl hkC ⟨h0, by show _ < (arrV _ _ _).slots.size; rw [arrV_size]; exact hlt⟩ g1 (fun q h => by rw [g3] at h; cases h) (by rw [g2]; exact hkC) (by rw [g2]; exact va_assign hcls) rfl rfl D fun H1 e z oq => ?_
    refine hK _ h lsm H1 _ h1 (zRl_set (w' := (w.1, w.2.1, zup w.2.2.1 k i.toNatClampNeg (some v), w.2.2.2)) h2 k1 rfl (fun a ha => ⟨rfl, rfl, zup_ne ha⟩) ?_ z (by rw [← k4]; exact oq)) (h3.put z oq (by rw [k4]; exact Nat.le_add_right _ _)) h4
    rw [zce_q (by rw [k3]; decide), k3]
    show H1[_]? = some (vp_cell _ _)
    rw [← k4, e, vp_cell_q, vp_cell_q, arrV_store]
    congr 2
    funext q
    dsimp only
    rw [zup_eq]
    by_cases hq : q = i.toNatClampNeg
    · subst hq
      simp [updV, va_up, va_rf]
    · simp [updV, va_up, hq]
  · exact h.elim
theorem so_alen (C : zCx mt p l e R s m args below meth c G L xs cc own rt cl d n0 nf Q Qp) (D : decode cc pc = .ok (.arraylength, 1)) : zSd p l e R s m args below meth c G L xs cl n0 nf Q Qp pc (o_alen) := by
  intro ls st w K h hK _ lsm H locs h1 h2 h3 h4
  unfold o_alen at h
  dsimp only at h
  split at h
  · rename_i k t
    obtain ⟨g, h⟩ := h
    have h' := hK _ h lsm H locs h1 h2 h3 h4
    obtain ⟨e1, e2, e3, e4, e5, e6, e7, e8, e9, e10, e11⟩ := C.2.2.2.2.1
    rcases of_decide_eq_true g with ⟨g1, g2, g3⟩ | ⟨g1, g2⟩ | g1
    · have hnc : w.2.2.2 ≤ 1000 := h2.2.2.1
      have hk : k < 1000 := Nat.lt_of_lt_of_le g1 hnc
      rw [if_neg (zx1 hk)] at h'
      by_cases q3 : (zsh k).1 ≤ 3
      · have he : (zws G w)[k]? = some (zad G k, .inl (G.2.1 (zsh k).1, (zsh k).2.2, .inl (w.1 k))) := by rw [zws_get g1, zad_lt hk, zce_i (zx9 g2) q3]
        have ht : ∃ ty, (ztys G)[(zsh k).1 - 1]? = some (G.2.1 (zsh k).1, ty) := by
          rcases zx7 g2 q3 with z | z | z <;> rw [z] <;> exact ⟨_, rfl⟩
        obtain ⟨ty, ht⟩ := ht
        exact va_alen (D := G.1) (cl := zcls) (tys := ztys G) (ws := zws G w) C.1 C.2.1 e1 h2.2.1 k ((zsh k).1 - 1) he ht rfl D h'
      by_cases q4 : (zsh k).1 = 4
      · have he : (zws G w)[k]? = some (zad G k, .inl (G.2.1 4, (zsh k).2.2, .inr (.inl (w.2.1 k)))) := by rw [zws_get g1, zad_lt hk, zce_l q4]
        exact va_alen (D := G.1) (cl := zcls) (tys := ztys G) (ws := zws G w) C.1 C.2.1 e1 h2.2.1 k 3 he (show (ztys G)[3]? = some (G.2.1 4, .long) from rfl) rfl D h'
      · have he : (zws G w)[k]? = some (zad G k, .inl (G.2.1 (zsh k).1, (zsh k).2.2, .inr (.inr (.inr (.inr (fun x => (w.2.2.1 k x).map (zad G))))))) := by rw [zws_get g1, zad_lt hk, zce_q (zx8 g2 q3 q4)]
        have ht : ∃ ty, (ztys G)[(zsh k).1 - 1]? = some (G.2.1 (zsh k).1, ty) := by
          rcases zx6 g2 g3 q3 q4 with z | z <;> rw [z] <;> exact ⟨_, rfl⟩
        obtain ⟨ty, ht⟩ := ht
        exact va_alen (D := G.1) (cl := zcls) (tys := ztys G) (ws := zws G w) C.1 C.2.1 e1 h2.2.1 k ((zsh k).1 - 1) he ht rfl D h'
    · obtain ⟨j, hj, rfl⟩ := zx2 g1 (Nat.lt_succ_of_le g2)
      have e := (e6 j hj).2.2.2
      rw [if_neg (zx3 hj)] at h'
      exact va_tlen C.1 C.2.1 e h3 rfl D h'
    · subst g1
      rw [if_pos rfl, h2.2.2.2.2] at h'
      exact va_tlen C.1 C.2.1 e8 h3 rfl D h'
  · exact h.elim
theorem so_gets_value (C : zCx mt p l e R s m args below meth c G L xs cc own rt cl d n0 nf Q Qp) {n : Nat} (D : decode cc pc = .ok (.getfield n, 3)) (hw : Cond.fieldLink own n "java/lang/String" "value" "[B" ∈ zGw) : zSd p l e R s m args below meth c G L xs cl n0 nf Q Qp pc (o_gets 0) := by
  intro ls st w K h hK _ lsm H locs h1 h2 h3 h4
  unfold o_gets at h
  dsimp only at h
  split at h
  · rename_i k t
    obtain ⟨g, h⟩ := h
    obtain ⟨g1, g2⟩ := of_decide_eq_true g
    obtain ⟨j, hj, rfl⟩ := zx5 g1 g2
    have e := (C.2.2.2.2.1.2.2.2.2.2.1 j hj).2.2.1
    have h' := hK _ h lsm H locs h1 h2 h3 h4
    have ej : 1000 + j + 10 = 1010 + j := Nat.add_right_comm 1000 j 10
    rw [if_pos rfl, ej] at h'
    exact vk_getf C.1 C.2.1 e h3 C.2.2.1 (C.2.2.2.1 _ hw) (fun _ q => q) D h'
  · exact h.elim
theorem so_gets_coder (C : zCx mt p l e R s m args below meth c G L xs cc own rt cl d n0 nf Q Qp) {n : Nat} (D : decode cc pc = .ok (.getfield n, 3)) (hw : Cond.fieldLink own n "java/lang/String" "coder" "B" ∈ zGw) : zSd p l e R s m args below meth c G L xs cl n0 nf Q Qp pc (o_gets 1) := by
  intro ls st w K h hK _ lsm H locs h1 h2 h3 h4
  unfold o_gets at h
  dsimp only at h
  split at h
  · rename_i k t
    obtain ⟨g, h⟩ := h
    obtain ⟨g1, g2⟩ := of_decide_eq_true g
    obtain ⟨j, hj, rfl⟩ := zx5 g1 g2
    have e := (C.2.2.2.2.1.2.2.2.2.2.1 j hj).2.1
    exact vk_getf C.1 C.2.1 e h3 C.2.2.1 (C.2.2.2.1 _ hw) (fun _ q => q) D (hK _ h lsm H locs h1 h2 h3 h4)
  · exact h.elim
end ZS
