/-! ===== six rows of sixty longs ===== -/
theorem zouter (c : ClassId) (N h0 : Nat) : ∀ i : Nat, Jvm.Free.Multi.outerC c N h0 i = arrV c N (fun j => va_rf (if j < i then some (h0 + 1 + j) else none))
  | 0 => by
    show ({ cls := c, slots := Array.replicate N .null, vm := .none } : Cell) = _
    rw [arrV_new]
    refine congrArg (arrV c N) (funext fun j => ?_)
    simp [va_rf]
  | i + 1 => by
    show (Jvm.Free.Multi.outerC c N h0 i).setSlot i (.ref (h0 + 1 + i)) = _
    rw [zouter c N h0 i, arrV_store]
    refine congrArg (arrV c N) (funext fun j => ?_)
    by_cases e : j = i
    · subst e
      simp [updV, va_rf]
    · by_cases h : j < i
      · simp [updV, e, h, Nat.lt_succ_of_lt h]
      · simp [updV, e, h, show ¬ j < i + 1 by omega]
theorem zinner (c : ClassId) (M : Nat) : Jvm.Free.Multi.innerC c M (.long 0) = arrV c M (fun _ => .long 0) := by
  show ({ cls := c, slots := Array.replicate M (.long 0), vm := .none } : Cell) = _
  rw [arrV_new]
theorem zs7 {nc : Nat} (h0 : zsh nc = (6, 0, 6)) (h : ∀ j, j < 6 → zsh (nc + 1 + j) = (4, 0, 60)) : zsl (nc + 7) = zsl nc + 6 + 360 := by
  have a1 := h 0 (by omega)
  have a2 := h 1 (by omega)
  have a3 := h 2 (by omega)
  have a4 := h 3 (by omega)
  have a5 := h 4 (by omega)
  have a6 := h 5 (by omega)
  show zsl nc + (zsh nc).2.2 + (zsh (nc + 1)).2.2 + (zsh (nc + 2)).2.2 + (zsh (nc + 3)).2.2 + (zsh (nc + 4)).2.2 + (zsh (nc + 5)).2.2 + (zsh (nc + 6)).2.2 = _
  rw [h0, show zsh (nc + 1) = (4, 0, 60) from a1, show zsh (nc + 2) = (4, 0, 60) from a2, show zsh (nc + 3) = (4, 0, 60) from a3, show zsh (nc + 4) = (4, 0, 60) from a4, show zsh (nc + 5) = (4, 0, 60) from a5, show zsh (nc + 6) = (4, 0, 60) from a6]
  dsimp only
theorem zx30 {nc n0 : Nat} (h : n0 ≤ nc) : nc + 7 - n0 = nc - n0 + 1 + 6 := by omega
theorem zx31 {nc n0 : Nat} (h : n0 ≤ nc) (e : zsl (nc + 7) = zsl nc + 6 + 360) : zsl (nc + 7) - zsl n0 = zsl nc - zsl n0 + 6 + 360 := by
  have := zsl_le h
  omega
theorem zx32 {a b : Nat} (h : a + 1 + 6 ≤ b) : a + (1 + 6) ≤ b := by omega
theorem zx33 {a b : Nat} (h : a + 6 + 360 ≤ b) : a + (6 + 6 * 60) ≤ b := by omega
theorem zRl_mu {G : zG} {L : Nat} {xs : Nat → Int32} {w : zW} {H H1 : Heap} (h : zRl G L xs w H) (hk : w.2.2.2 < 900) (h0 : zsh w.2.2.2 = (6, 0, 6)) (hr : ∀ j, j < 6 → zsh (w.2.2.2 + 1 + j) = (4, 0, 60)) (z : H1.size = H.size + 1 + 6) (oq : ∀ q : Nat, q < H.size → H1[q]? = H[q]?)
    (e0 : H1[H.size]? = some (arrV (G.2.1 6) 6 (fun j => va_rf (if j < 6 then some (H.size + 1 + j) else none)))) (ei : ∀ j, j < 6 → H1[H.size + 1 + j]? = some (arrV (G.2.1 4) 60 (fun _ => .long 0))) : zRl G L xs (zmu w) H1 := by
  obtain ⟨h1, h2, h3, h4, h5⟩ := h
  refine ⟨by show H1.size = G.2.2.1 + (w.2.2.2 + 7); omega, fun k q hq => ?_, by show w.2.2.2 + 7 ≤ 1000; omega, ?_, ?_⟩
  · have hl : k < w.2.2.2 + 7 := by
      have := (List.getElem?_eq_some_iff.mp hq).1
      rwa [zws_len] at this
    rw [zws_get hl] at hq
    cases hq
    by_cases e : k < w.2.2.2
    · have g1 : ¬ (w.2.2.2 ≤ k ∧ k < w.2.2.2 + 7) := by omega
      have g2 : ¬ k = w.2.2.2 := by omega
      unfold zmu
      dsimp only
      rw [if_neg g1, if_neg g1, if_neg g2, if_neg g1]
      exact (h2 k _ (zws_get e)).kept (oq _ (by show G.2.2.1 + k < H.size; omega))
    by_cases e2 : k = w.2.2.2
    · subst e2
      rw [zce_q (by rw [h0]; decide), h0]
      show H1[G.2.2.1 + w.2.2.2]? = some (vp_cell _ _)
      rw [← h1, e0, vp_cell_q]
      refine congrArg (fun f => some (arrV (G.2.1 6) 6 f)) (funext fun j => ?_)
      unfold zmu
      dsimp only
      rw [if_pos rfl]
      by_cases hj : j < 6
      · rw [if_pos hj, if_pos hj]
        show va_rf (some _) = va_rf (some (zad G (w.2.2.2 + 1 + j)))
        rw [zad_lt (by omega), h1]
        exact congrArg (fun n => va_rf (some n)) (by omega)
      · rw [if_neg hj, if_neg hj]
        rfl
    · obtain ⟨j, hj, rfl⟩ : ∃ j, j < 6 ∧ k = w.2.2.2 + 1 + j := ⟨k - w.2.2.2 - 1, by omega, by omega⟩
      rw [zce_l (by rw [hr j hj])]
      show H1[G.2.2.1 + (w.2.2.2 + 1 + j)]? = some (vp_cell _ _)
      have e3 : G.2.2.1 + (w.2.2.2 + 1 + j) = H.size + 1 + j := by omega
      rw [e3, ei j hj, hr j hj, vp_cell_l]
      refine congrArg (fun f => some (arrV (G.2.1 4) 60 f)) (funext fun i => ?_)
      unfold zmu
      dsimp only
      rw [if_pos ⟨by omega, by omega⟩]
      rfl
  · unfold zmu
    dsimp only
    rw [if_neg (by omega)]
    exact h4
  · unfold zmu
    dsimp only
    rw [if_neg (by omega)]
    exact h5
section ZS
variable {p : Program} {l : Launch} {e : Env} {R : Room} {s : State} {m : MethodId} {args : Array Value} {below : List Frame} {meth : Method} {c : Code} {G : zG} {L : Nat} {xs : Nat → Int32} {cc : ByteArray} {own : String} {rt : Option FieldType} {cl : zA} {d n0 nf pc : Nat} {Q : State → Prop} {Qp : Option Value → zW → Prop} {mt : zA → Nat → Prop}
theorem so_multi (C : zCx mt p l e R s m args below meth c G L xs cc own rt cl d n0 nf Q Qp) {j0 : Nat} (D : decode cc pc = .ok (.multianewarray j0 2, 4)) (hw : Cond.classLink own j0 "[[J" ∈ zGw) (ha : Cond.arrayClass .long ∈ zGw) : zSd p l e R s m args below meth c G L xs cl n0 nf Q Qp pc (o_multi) := by
  intro ls st w K h hK hle lsm H locs h1 h2 h3 h4
  unfold o_multi at h
  dsimp only at h
  split at h
  · rename_i k n t
    obtain ⟨g, h⟩ := h
    obtain ⟨ga, gb⟩ := Bool.and_eq_true_iff.mp g
    obtain ⟨g1, g2, g3, g4⟩ := of_decide_eq_true ga
    have g5 : ∀ j, j < 6 → zsh (w.2.2.2 + 1 + j) = (4, 0, 60) := fun j hj => of_decide_eq_true (List.all_eq_true.mp gb j (List.mem_range.mpr hj))
    subst g2
    subst g3
    have hn := hle _ h
    have es := zs7 g4 g5
    have hn7 : w.2.2.2 + 7 ≤ nf := hn
    have hc1 : w.2.2.2 - n0 + 1 + 6 ≤ R.cells := by rw [← zx30 h4]; exact zx10 hn7 C.2.2.2.2.2.2.1.2.2.1
    have hs1 : zsl w.2.2.2 - zsl n0 + 6 + 360 ≤ R.slots := by rw [← zx31 h4 es]; exact zx11 hn7 C.2.2.2.2.2.2.1.2.2.2
    have hz : H.size = G.2.2.1 + w.2.2.2 := h2.1
    have hstr : "[" ++ (FieldType.array FieldType.long).toString = "[[J" := by decide +kernel
    have hstr2 : (FieldType.array FieldType.long).toString = "[" ++ FieldType.long.toString := by decide +kernel
    intro T hT X
    obtain ⟨vm₁, cA, comp, -, fA, fC, hO, hI, X', step⟩ := X.multianewarray2F C.1 C.2.2.1 (ty := .long) (index := j0) (own := own) (by rw [hstr]; exact C.2.2.2.1 _ hw) (by have := C.2.2.2.2.1.2.2.2.2.1; exact this) (C.2.2.2.1 _ ha) (g := F0 m pc lsm (.int 60 :: .int 6 :: t.map (ztr G))) rfl (by rw [C.2.1]; exact D) rfl (by decide) (by decide) (by decide) (by decide) (by decide) rfl rfl (zx32 hc1) (zx33 hs1)
    have hcA : cA = G.2.1 6 := Option.some.inj (fA.symm.trans (C.2.2.2.2.1.1.2 5 (G.2.1 6, .array .long) rfl).2)
    have hcy : s.vm.findClass ("[" ++ FieldType.long.toString) = some (G.2.1 4) := (C.2.2.2.2.1.1.2 3 (G.2.1 4, .long) rfl).2
    have hcomp : comp = G.2.1 4 := by
      rw [hstr2] at fC
      exact Option.some.inj (fC.symm.trans hcy)
    subst hcA
    subst hcomp
    have e6 : (6 : Int32).toNatClampNeg = 6 := by decide
    have e60 : (60 : Int32).toNatClampNeg = 60 := by decide
    have edv : defaultValue .long = .long 0 := rfl
    rw [e6, e60, edv] at X' step
    generalize hF : Jvm.Free.Multi.fill (T.setVm vm₁) (G.2.1 6) (G.2.1 4) 6 60 (.long 0) 6 = F at X' step
    have hTh : (T.setVm vm₁).heap = H := hT
    obtain ⟨f1, f2, -, -⟩ := Jvm.Free.Multi.fill_facts (T.setVm vm₁) (G.2.1 6) (G.2.1 4) 6 60 (.long 0) 6
    rw [hF, hTh] at f1 f2
    have hold : ∀ x : Nat, x < H.size → F.heap[x]? = H[x]? := fun x hx => by
      have := Jvm.Free.Multi.fill_old (T.setVm vm₁) (G.2.1 6) (G.2.1 4) 6 60 (.long 0) (a := x) (by rw [hTh]; exact hx) 6
      rw [hF, hTh] at this
      exact this
    have hrow : ∀ j : Nat, j < 6 → F.heap[H.size + 1 + j]? = some (arrV (G.2.1 4) 60 (fun _ => .long 0)) := fun j hj => by
      have := Jvm.Free.Multi.fill_inner (T.setVm vm₁) (G.2.1 6) (G.2.1 4) 6 60 (.long 0) 6 j hj
      rw [hF, hTh, zinner] at this
      exact this
    rw [zouter] at f2
    have h' := hK _ h lsm F.heap locs h1 (zRl_mu h2 g1 g4 g5 f1 hold f2 hrow) ⟨Nat.le_trans h3.1 (by rw [f1]; exact Nat.le_add_right _ 7), fun x a1 a2 => (hold x (Nat.lt_of_lt_of_le a1 h3.1)).trans (h3.2.1 x a1 a2), h3.2.2⟩ (Nat.le_trans h4 (Nat.le_add_right _ 7))
    dsimp only [zmu] at h'
    rw [zx30 h4, zx31 h4 es] at h'
    simp only [List.map_cons, ztr, zad_lt (Nat.lt_of_lt_of_le g1 (by decide)), ← hz] at h'
    obtain ⟨t2, a2, b2⟩ := h' F rfl X'
    refine ⟨t2, step t2 ?_, b2⟩
    rw [hT]
    exact a2
  · exact h.elim
end ZS
