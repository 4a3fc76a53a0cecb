/-! ===== the machine's own methods, new cells, calls ===== -/
theorem zsl_le : ∀ {a b : Nat}, a ≤ b → zsl a ≤ zsl b := by
  intro a b h
  induction h with
  | refl => exact Nat.le_refl _
  | step _ ih => exact Nat.le_trans ih (Nat.le_add_right _ _)
theorem zcat_le (v : Value) : v.category ≤ 2 := by cases v <;> simp [Value.category]
theorem zroom (G : zG) : ∀ t : List Value, (((t.map (ztr G)).map fun v => v.category).sum) ≤ 2 * t.length
  | [] => Nat.le_refl _
  | v :: t => by
    have h := zroom G t
    have h2 := zcat_le (ztr G v)
    simp only [List.map_cons, List.sum_cons, List.length_cons]
    omega
theorem zroom8 {G : zG} {t : List Value} (h : decide (t.length ≤ 4) = true) : (((t.map (ztr G)).map fun v => v.category).sum) ≤ 8 := by
  have h1 := zroom G t
  have h2 := of_decide_eq_true h
  omega
theorem zx10 {nc n0 nf c : Nat} (h : nc ≤ nf) (h2 : nf - n0 ≤ c) : nc - n0 ≤ c := by omega
theorem zx11 {nc n0 nf c : Nat} (h : nc ≤ nf) (h2 : zsl nf - zsl n0 ≤ c) : zsl nc - zsl n0 ≤ c := by
  have := zsl_le h
  omega
theorem zx12 {d f : Nat} (h : d + 1 ≤ f) : 1 ≤ f := by omega
theorem zx13 {d f k x : Nat} (h : 60 * (d + 1) ≤ f) (hx : x ≤ 8) (hk : k ≤ 50) : x + k ≤ f := by omega
theorem zx14 {nc n0 : Nat} (h : n0 ≤ nc) : nc + 1 - n0 = nc - n0 + 1 := by omega
theorem zx15 {nc n0 : Nat} (h : n0 ≤ nc) : zsl (nc + 1) - zsl n0 = zsl nc - zsl n0 + (zsh nc).2.2 := by
  have h1 := zsl_le h
  have h2 : zsl (nc + 1) = zsl nc + (zsh nc).2.2 := rfl
  omega
theorem zx16 {n0 a b : Nat} (h : n0 ≤ a) (h2 : a ≤ b) : a - n0 + (b - a) = b - n0 := by omega
theorem zx17 {n0 a b : Nat} (h : n0 ≤ a) (h2 : a ≤ b) : zsl a - zsl n0 + (zsl b - zsl a) = zsl b - zsl n0 := by
  have h1 := zsl_le h
  have h3 := zsl_le h2
  omega
theorem zx18 {b n i : Nat} (h : i < n) (e : b = n) : i < b := by omega
/-- a new cell -/
theorem zRl_push {G : zG} {L : Nat} {xs : Nat → Int32} {w w' : zW} {H H1 : Heap} (h : zRl G L xs w H) (hk : w.2.2.2 < 1000) (hn : w'.2.2.2 = w.2.2.2 + 1) (hd : ∀ a, a ≠ w.2.2.2 → w'.1 a = w.1 a ∧ w'.2.1 a = w.2.1 a ∧ w'.2.2.1 a = w.2.2.1 a)
    (he : va_at G.1 zcls (G.2.2.1 + w.2.2.2, zce G w.2.2.2 (w'.1 w.2.2.2) (w'.2.1 w.2.2.2) (w'.2.2.1 w.2.2.2)) H1) (z : H1.size = H.size + 1) (oq : ∀ q : Nat, q < H.size → H1[q]? = H[q]?) : zRl G L xs w' H1 := by
  obtain ⟨h1, h2, h3, h4, h5⟩ := h
  refine ⟨by omega, fun k q hq => ?_, by omega, by rw [(hd 1021 (by omega)).1]; exact h4, by rw [(hd 1022 (by omega)).1]; exact h5⟩
  have hl : k < w'.2.2.2 := by
    have := (List.getElem?_eq_some_iff.mp hq).1
    rwa [zws_len] at this
  rw [zws_get hl] at hq
  cases hq
  by_cases e : k = w.2.2.2
  · subst e
    exact he
  · have hl2 : k < w.2.2.2 := by omega
    obtain ⟨d1, d2, d3⟩ := hd k e
    rw [d1, d2, d3]
    exact (h2 k _ (zws_get hl2)).kept (oq _ (by show G.2.2.1 + k < H.size; omega))
theorem zS_push {A : Nat → Prop} {H0 H H1 : Heap} {locs : List Loc} (h : va_S A H0 H locs) (z : H1.size = H.size + 1) (oq : ∀ q : Nat, q < H.size → H1[q]? = H[q]?) : va_S A H0 H1 locs := ⟨Nat.le_trans h.1 (by omega), fun x h1 h2 => (oq x (Nat.lt_of_lt_of_le h1 h.1)).trans (h.2.1 x h1 h2), h.2.2⟩
theorem zup1_eq {α : Type} {f : Nat → α} {k : Nat} {x : α} : zup1 f k x k = x := if_pos rfl
theorem zup1_ne {α : Type} {f : Nat → α} {k a : Nat} {x : α} (h : a ≠ k) : zup1 f k x a = f a := if_neg h
theorem zpop_of : ∀ (n : Nat) (st acc as t : List Value), zpop n st acc = some (as, t) → ∃ pre : List Value, pre.length = n ∧ st = pre ++ t ∧ as = pre.reverse ++ acc
  | 0, st, acc, as, t, h => by
    simp only [zpop, Option.some.injEq, Prod.mk.injEq] at h
    exact ⟨[], rfl, h.2, h.1.symm⟩
  | n + 1, [], acc, as, t, h => by cases h
  | n + 1, v :: st, acc, as, t, h => by
    obtain ⟨pre, h1, h2, h3⟩ := zpop_of n st (v :: acc) as t h
    exact ⟨v :: pre, by rw [List.length_cons, h1], by rw [h2]; rfl, by rw [h3]; simp⟩
def zTs (y : Nat) : List Cond := Cond.code (znm y) (zby y) (zml y) (zrt y) :: zGw
/-- the contracts of what cl answers -/
def zmt (cl : zA) (d : Nat) : Prop := ∀ (y : Nat) (as : List Value) (w : zW) (r : Option Value) (w' : zW), cl y as w = some (r, w') → w.2.2.2 ≤ w'.2.2.2 ∧ ∀ (l : Launch) (G : zG) (L : Nat) (xs : Nat → Int32),
  Met l (znm y) (zTs y) (zrm d (w'.2.2.2 - w.2.2.2) (zsl w'.2.2.2 - zsl w.2.2.2)) (zPc G L xs as w) (zQc G L xs r w') (w'.2.2.2 - w.2.2.2) (zsl w'.2.2.2 - zsl w.2.2.2) (zA0 G)
/-- what the tables say of a method y of n parameters -/
def zMy (y n : Nat) : Prop := Cond.initialized (znm y).cls ∈ zGw ∧ Cond.code (znm y) (zby y) (zml y) (zrt y) ∈ zGw ∧ ((znm y).cls ≠ "java/lang/invoke/MethodHandle" ∧ (znm y).cls ≠ "java/lang/invoke/VarHandle" ∧ (parseMethodDescriptor (znm y).desc).map (fun d => d.parameters.length) = some n) ∧ zml y ≤ 30
theorem zTs_good {y n : Nat} (h : zMy y n) : ∀ w ∈ zTs y, w ∈ zGw := fun w hw => (List.mem_cons.mp hw).elim (fun e => by rw [e]; exact h.2.1) (fun q => q)
theorem zPc_blind {G : zG} {L : Nat} {xs : Nat → Int32} {as : List Value} {w : zW} : FrameBlind (zPc G L xs as w) := fun a U g mk h => ⟨h.1, h.2.1, zE_same (s := U) (U := U.calling g mk a) rfl rfl h.2.2⟩
section ZS
variable {p : Program} {l : Launch} {e : Env} {R : Room} {s : State} {m : MethodId} {args : Array Value} {below : List Frame} {meth : Method} {c : Code} {G : zG} {L : Nat} {xs : Nat → Int32} {cc : ByteArray} {own : String} {rt : Option FieldType} {cl : zA} {d n0 nf pc : Nat} {Q : State → Prop} {Qp : Option Value → zW → Prop} {mt : zA → Nat → Prop}
theorem zPc_at (C : zCx mt p l e R s m args below meth c G L xs cc own rt cl d n0 nf Q Qp) {as : List Value} {w : zW} {H : Heap} {locs : List Loc} (h2 : zRl G L xs w H) (h3 : va_S (zA0 G) s.heap H locs) : ∀ U : State, U.heap = H → s.WarmedH U.vm → zPc G L xs as w (as.map (ztr G)).toArray U := fun U hU hW => ⟨rfl, by rw [hU]; exact h2, zE_warm hW (by rw [hU]; exact h3.2.1) C.2.2.2.2.1⟩
theorem so_oinit (C : zCx mt p l e R s m args below meth c G L xs cc own rt cl d n0 nf Q Qp) {n : Nat} (D : decode cc pc = .ok (.invokespecial n, 3)) (hw : Cond.methodLink own n Lib.objectInit ∈ zGw) (hi : Cond.instanceMethod Lib.objectInit ∈ zGw) (hc : Cond.code Lib.objectInit ⟨#[0xb1]⟩ 1 none ∈ zGw) : zSd p l e R s m args below meth c G L xs cl n0 nf Q Qp pc (o_oinit) := by
  intro ls st w K h hK _ lsm H locs h1 h2 h3 h4
  unfold o_oinit at h
  dsimp only at h
  split at h
  · rename_i k t
    obtain ⟨g, h⟩ := h
    have hr := zroom8 (G := G) g
    exact W.objInit C.1 C.2.1 C.2.2.1 (C.2.2.2.1 _ hw) (C.2.2.2.1 _ hi) (C.2.2.2.1 _ hc) (g := F0 m pc lsm (Value.ref (zad G k) :: t.map (ztr G))) rfl h1.1 rfl D (zx12 C.2.2.2.2.2.2.1.1) (zx13 C.2.2.2.2.2.2.1.2.1 (lv_room (m := m) (pc := pc) (ls := lsm) (rest := Value.ref (zad G k) :: t.map (ztr G)) hr) (by decide)) (hK _ h lsm H locs h1 h2 h3 h4)
  · exact h.elim
theorem so_min (C : zCx mt p l e R s m args below meth c G L xs cc own rt cl d n0 nf Q Qp) {n : Nat} (D : decode cc pc = .ok (.invokestatic n, 3)) (hw : Cond.methodLink own n Lib.Math.min.name ∈ zGw) (hs : Cond.static Lib.Math.min.name ∈ zGw) (hi : Cond.initialized "java/lang/Math" ∈ zGw) (hc : Cond.code Lib.Math.min.name Lib.Math.min.code 2 (some .int) ∈ zGw) : zSd p l e R s m args below meth c G L xs cl n0 nf Q Qp pc (o_min) := by
  intro ls st w K h hK hle lsm H locs h1 h2 h3 h4
  unfold o_min at h
  dsimp only at h
  split at h
  · rename_i x y t
    obtain ⟨g, h⟩ := h
    have hr := zroom8 (G := G) g
    have hn := hle _ h
    exact va_mmin C.1 C.2.1 h1.1.symm C.2.2.1 (C.2.2.2.1 _ hw) (C.2.2.2.1 _ hs) (C.2.2.2.1 _ hi) (C.2.2.2.1 _ hc) (zx12 C.2.2.2.2.2.2.1.1) (zx13 C.2.2.2.2.2.2.1.2.1 hr (by decide)) (zx10 hn C.2.2.2.2.2.2.1.2.2.1) (zx11 hn C.2.2.2.2.2.2.1.2.2.2) D (hK _ h lsm H locs h1 h2 h3 h4)
  · exact h.elim
theorem so_max (C : zCx mt p l e R s m args below meth c G L xs cc own rt cl d n0 nf Q Qp) {n : Nat} (D : decode cc pc = .ok (.invokestatic n, 3)) (hw : Cond.methodLink own n Lib.Math.max.name ∈ zGw) (hs : Cond.static Lib.Math.max.name ∈ zGw) (hi : Cond.initialized "java/lang/Math" ∈ zGw) (hc : Cond.code Lib.Math.max.name Lib.Math.max.code 2 (some .int) ∈ zGw) : zSd p l e R s m args below meth c G L xs cl n0 nf Q Qp pc (o_max) := by
  intro ls st w K h hK hle lsm H locs h1 h2 h3 h4
  unfold o_max at h
  dsimp only at h
  split at h
  · rename_i x y t
    obtain ⟨g, h⟩ := h
    have hr := zroom8 (G := G) g
    have hn := hle _ h
    exact va_mmax C.1 C.2.1 h1.1.symm C.2.2.1 (C.2.2.2.1 _ hw) (C.2.2.2.1 _ hs) (C.2.2.2.1 _ hi) (C.2.2.2.1 _ hc) (zx12 C.2.2.2.2.2.2.1.1) (zx13 C.2.2.2.2.2.2.1.2.1 hr (by decide)) (zx10 hn C.2.2.2.2.2.2.1.2.2.1) (zx11 hn C.2.2.2.2.2.2.1.2.2.2) D (hK _ h lsm H locs h1 h2 h3 h4)
  · exact h.elim
theorem so_copyi (C : zCx mt p l e R s m args below meth c G L xs cc own rt cl d n0 nf Q Qp) {j0 : Nat} (D : decode cc pc = .ok (.invokestatic j0, 3)) (hw : Cond.methodLink own j0 arraycopyName ∈ zGw) (hna : Cond.native arraycopyName ∈ zGw) (hs : Cond.static arraycopyName ∈ zGw) (hi : Cond.initialized "java/lang/System" ∈ zGw) : zSd p l e R s m args below meth c G L xs cl n0 nf Q Qp pc (o_copyi) := by
  intro ls st w K h hK hle lsm H locs h1 h2 h3 h4
  unfold o_copyi at h
  dsimp only at h
  split at h
  · rename_i n dp k2 sp k1 t
    obtain ⟨g, h⟩ := h
    obtain ⟨g, gt⟩ := Bool.and_eq_true_iff.mp g
    have hr := zroom8 (G := G) gt
    unfold zcpg at g
    obtain ⟨ga, g⟩ := Bool.and_eq_true_iff.mp g
    obtain ⟨gb, g⟩ := Bool.and_eq_true_iff.mp g
    obtain ⟨b1, b2, b3, b4, b5⟩ := of_decide_eq_true g
    obtain ⟨p1, p2, p3, p4, p5⟩ := zaw_get (G := G) h2.2.2.1 ga
    obtain ⟨q1, q2, q3, q4, q5⟩ := zaw_get (G := G) h2.2.2.1 gb
    rw [zce_i (by rw [p3]; decide) (by rw [p3]; decide), p3] at p5
    rw [zce_i (by rw [q3]; decide) (by rw [q3]; decide), q3] at q5
    have ht : (ztys G)[0]? = some (G.2.1 1, .int) := rfl
    have nn : ∀ z : Int32, 0 ≤ z.toInt → z.toInt = (z.toNatClampNeg : Int) := fun z hz => by
      show z.toInt = ((z.toInt.toNat : Nat) : Int)
      exact (Int.toNat_of_nonneg hz).symm
    have nz : ∀ z : Int32, 0 ≤ z.toInt → ¬ z < 0 := fun z hz q => by
      have := Int32.lt_iff_toInt_lt.mp q
      exact absurd hz (by simpa using this)
    have c4 : sp.toNatClampNeg + n.toNatClampNeg ≤ (zsh k1).2.2 := by
      have e1 := nn sp b1
      have e2 := nn n b3
      rw [e1, e2] at b4
      exact Int.ofNat_le.mp b4
    have c5 : dp.toNatClampNeg + n.toNatClampNeg ≤ (zsh k2).2.2 := by
      have e1 := nn dp b2
      have e2 := nn n b3
      rw [e1, e2] at b5
      exact Int.ofNat_le.mp b5
    have hc0 : H[zad G k1]? = some (vp_cell (G.2.1 1) ((zsh k1).2.2, .inl (w.1 k1))) := h2.2.1 k1 _ p5
    have hc1 : H[zad G k2]? = some (vp_cell (G.2.1 1) ((zsh k2).2.2, .inl (w.1 k2))) := h2.2.1 k2 _ q5
    intro T hT X
    obtain ⟨-, a0, hk0, cm0, hkk0⟩ := (C.2.2.2.2.1.1.2 0 _ ht).1 (zsh k1).2.2 (fun j => .int (w.1 k1 j))
    obtain ⟨-, a1, hk1, cm1, hkk1⟩ := (C.2.2.2.2.1.1.2 0 _ ht).1 (zsh k2).2.2 (fun j => .int (w.1 k2 j))
    obtain ⟨vm', X', step⟩ := X.arraycopy C.1 C.2.2.1 (C.2.2.2.1 _ hw) (C.2.2.2.1 _ hna) (C.2.2.2.1 _ hs) (C.2.2.2.1 _ hi) (src := zad G k1) (dst := zad G k2) (cs := vp_cell (G.2.1 1) ((zsh k1).2.2, .inl (w.1 k1))) (cd := vp_cell (G.2.1 1) ((zsh k2).2.2, .inl (w.1 k2))) (srcPos := sp) (destPos := dp) (n := n) (by rw [hT]; exact hc0) (by rw [hT]; exact hc1)
      (fun _ h => by cases h) (fun _ h => by cases h) (fun h => by cases h) (fun h => by cases h) hk0 hk1 hkk0 hkk1 (by simp [refKind]) (nz sp b1) (nz dp b2) (nz n b3)
      (by rw [nn sp b1, nn n b3]; show ¬ _ > ((arrV (G.2.1 1) (zsh k1).2.2 (fun j => .int (w.1 k1 j))).slots.size : Int); rw [arrV_size]; exact Int.not_lt.mpr (Int.ofNat_le.mpr c4))
      (by rw [nn dp b2, nn n b3]; show ¬ _ > ((arrV (G.2.1 1) (zsh k2).2.2 (fun j => .int (w.1 k2 j))).slots.size : Int); rw [arrV_size]; exact Int.not_lt.mpr (Int.ofNat_le.mpr c5))
      (fun vm₁ _ i hi => by
        have e : (vp_cell (G.2.1 1) ((zsh k1).2.2, .inl (w.1 k1))).slots.getD (sp.toNatClampNeg + i) .null = .int (w.1 k1 (sp.toNatClampNeg + i)) := by
          show (arrV (G.2.1 1) (zsh k1).2.2 (fun j => .int (w.1 k1 j))).slots.getD _ _ = _
          rw [Array.getD_eq_getD_getElem?, arrV_read _ _ (Nat.lt_of_lt_of_le (Nat.add_lt_add_left hi _) c4)]
          rfl
        refine ⟨?_, ?_⟩
        · rw [e]
          rfl
        · rw [e]
          exact trivial)
      (g := F0 m pc lsm (.int n :: .int dp :: .ref (zad G k2) :: .int sp :: .ref (zad G k1) :: t.map (ztr G))) rfl h1.1 (rest := t.map (ztr G)) rfl (by rw [C.2.1]; exact D) (zx12 C.2.2.2.2.2.2.1.1) (by show 2 * 0 + _ + _ ≤ _; rw [Nat.zero_add]; exact zx13 C.2.2.2.2.2.2.1.2.1 hr (by decide))
    have e1 : copied (vp_cell (G.2.1 1) ((zsh k1).2.2, .inl (w.1 k1))) (vp_cell (G.2.1 1) ((zsh k2).2.2, .inl (w.1 k2))) sp dp n = vp_cell (G.2.1 1) ((zsh k2).2.2, .inl (va_cpy (w.1 k1) (w.1 k2) sp.toNatClampNeg dp.toNatClampNeg n.toNatClampNeg)) := va_copied (fun z => .int z) (G.2.1 1) (G.2.1 1) (w.1 k1) (w.1 k2) c4
    rw [e1] at X' step
    have hl : zad G k2 < H.size := (Array.getElem?_eq_some_iff.mp hc1).1
    generalize hH1 : ((T.setVm vm').setCell (zad G k2) (vp_cell (G.2.1 1) ((zsh k2).2.2, .inl (va_cpy (w.1 k1) (w.1 k2) sp.toNatClampNeg dp.toNatClampNeg n.toNatClampNeg)))).heap = H1
    have hh : H1 = H.setIfInBounds (zad G k2) (vp_cell (G.2.1 1) ((zsh k2).2.2, .inl (va_cpy (w.1 k1) (w.1 k2) sp.toNatClampNeg dp.toNatClampNeg n.toNatClampNeg))) := by rw [← hH1, ← hT]; rfl
    have z1 : H1.size = H.size := by rw [hh]; simp
    have oq : ∀ q : Nat, q ≠ zad G k2 → H1[q]? = H[q]? := fun q hq => by rw [hh]; simp [Array.getElem?_setIfInBounds, Ne.symm hq]
    have eq : H1[zad G k2]? = some (vp_cell (G.2.1 1) ((zsh k2).2.2, .inl (va_cpy (w.1 k1) (w.1 k2) sp.toNatClampNeg dp.toNatClampNeg n.toNatClampNeg))) := by rw [hh]; simp [Array.getElem?_setIfInBounds, hl]
    have hb : zA0 G (zad G k2) := by rw [q4]; exact Nat.le_add_right _ _
    obtain ⟨t2, a2, b2⟩ := hK _ h lsm H1 _ h1 (zRl_set (w' := (zcp w.1 k1 sp.toNatClampNeg k2 dp.toNatClampNeg n.toNatClampNeg, w.2.1, w.2.2.1, w.2.2.2)) h2 q1 rfl (fun a ha => ⟨if_neg ha, rfl, rfl⟩) (by
      rw [zce_i (by rw [q3]; decide) (by rw [q3]; decide), q3]
      dsimp only
      rw [show zcp w.1 k1 sp.toNatClampNeg k2 dp.toNatClampNeg n.toNatClampNeg k2 = va_cpy (w.1 k1) (w.1 k2) sp.toNatClampNeg dp.toNatClampNeg n.toNatClampNeg from if_pos rfl, ← q4]
      exact eq) z1 (by rw [← q4]; exact oq)) ⟨by rw [z1]; exact h3.1, fun q g1 g2 => by
        rw [oq q (fun e => g2 (by rw [e]; exact hb))]
        exact h3.2.1 q g1 g2, fun q hq => by
        rcases List.mem_append.mp hq with h | h
        · exact h3.2.2 q h
        · obtain ⟨z, -, hz⟩ := List.mem_map.mp h
          rw [← hz]
          exact hb⟩ h4 _ hH1 X'
    exact ⟨t2, step t2 a2, b2⟩
  · exact h.elim
theorem so_copyl (C : zCx mt p l e R s m args below meth c G L xs cc own rt cl d n0 nf Q Qp) {j0 : Nat} (D : decode cc pc = .ok (.invokestatic j0, 3)) (hw : Cond.methodLink own j0 arraycopyName ∈ zGw) (hna : Cond.native arraycopyName ∈ zGw) (hs : Cond.static arraycopyName ∈ zGw) (hi : Cond.initialized "java/lang/System" ∈ zGw) : zSd p l e R s m args below meth c G L xs cl n0 nf Q Qp pc (o_copyl) := by
  intro ls st w K h hK hle lsm H locs h1 h2 h3 h4
  unfold o_copyl at h
  dsimp only at h
  split at h
  · rename_i n dp k2 sp k1 t
    obtain ⟨g, h⟩ := h
    obtain ⟨g, gt⟩ := Bool.and_eq_true_iff.mp g
    have hr := zroom8 (G := G) gt
    unfold zcpg at g
    obtain ⟨ga, g⟩ := Bool.and_eq_true_iff.mp g
    obtain ⟨gb, g⟩ := Bool.and_eq_true_iff.mp g
    obtain ⟨b1, b2, b3, b4, b5⟩ := of_decide_eq_true g
    obtain ⟨p1, p2, p3, p4, p5⟩ := zaw_get (G := G) h2.2.2.1 ga
    obtain ⟨q1, q2, q3, q4, q5⟩ := zaw_get (G := G) h2.2.2.1 gb
    rw [zce_l p3] at p5
    rw [zce_l q3] at q5
    have ht : (ztys G)[3]? = some (G.2.1 4, .long) := rfl
    have nn : ∀ z : Int32, 0 ≤ z.toInt → z.toInt = (z.toNatClampNeg : Int) := fun z hz => by
      show z.toInt = ((z.toInt.toNat : Nat) : Int)
      exact (Int.toNat_of_nonneg hz).symm
    have nz : ∀ z : Int32, 0 ≤ z.toInt → ¬ z < 0 := fun z hz q => by
      have := Int32.lt_iff_toInt_lt.mp q
      exact absurd hz (by simpa using this)
    have c4 : sp.toNatClampNeg + n.toNatClampNeg ≤ (zsh k1).2.2 := by
      have e1 := nn sp b1
      have e2 := nn n b3
      rw [e1, e2] at b4
      exact Int.ofNat_le.mp b4
    have c5 : dp.toNatClampNeg + n.toNatClampNeg ≤ (zsh k2).2.2 := by
      have e1 := nn dp b2
      have e2 := nn n b3
      rw [e1, e2] at b5
      exact Int.ofNat_le.mp b5
    have hc0 : H[zad G k1]? = some (vp_cell (G.2.1 4) ((zsh k1).2.2, .inr (.inl (w.2.1 k1)))) := h2.2.1 k1 _ p5
    have hc1 : H[zad G k2]? = some (vp_cell (G.2.1 4) ((zsh k2).2.2, .inr (.inl (w.2.1 k2)))) := h2.2.1 k2 _ q5
    intro T hT X
    obtain ⟨-, a0, hk0, cm0, hkk0⟩ := (C.2.2.2.2.1.1.2 3 _ ht).1 (zsh k1).2.2 (fun j => .long (w.2.1 k1 j))
    obtain ⟨-, a1, hk1, cm1, hkk1⟩ := (C.2.2.2.2.1.1.2 3 _ ht).1 (zsh k2).2.2 (fun j => .long (w.2.1 k2 j))
    obtain ⟨vm', X', step⟩ := X.arraycopy C.1 C.2.2.1 (C.2.2.2.1 _ hw) (C.2.2.2.1 _ hna) (C.2.2.2.1 _ hs) (C.2.2.2.1 _ hi) (src := zad G k1) (dst := zad G k2) (cs := vp_cell (G.2.1 4) ((zsh k1).2.2, .inr (.inl (w.2.1 k1)))) (cd := vp_cell (G.2.1 4) ((zsh k2).2.2, .inr (.inl (w.2.1 k2)))) (srcPos := sp) (destPos := dp) (n := n) (by rw [hT]; exact hc0) (by rw [hT]; exact hc1)
      (fun _ h => by cases h) (fun _ h => by cases h) (fun h => by cases h) (fun h => by cases h) hk0 hk1 hkk0 hkk1 (by simp [refKind]) (nz sp b1) (nz dp b2) (nz n b3)
      (by rw [nn sp b1, nn n b3]; show ¬ _ > ((arrV (G.2.1 4) (zsh k1).2.2 (fun j => .long (w.2.1 k1 j))).slots.size : Int); rw [arrV_size]; exact Int.not_lt.mpr (Int.ofNat_le.mpr c4))
      (by rw [nn dp b2, nn n b3]; show ¬ _ > ((arrV (G.2.1 4) (zsh k2).2.2 (fun j => .long (w.2.1 k2 j))).slots.size : Int); rw [arrV_size]; exact Int.not_lt.mpr (Int.ofNat_le.mpr c5))
      (fun vm₁ _ i hi => by
        have e : (vp_cell (G.2.1 4) ((zsh k1).2.2, .inr (.inl (w.2.1 k1)))).slots.getD (sp.toNatClampNeg + i) .null = .long (w.2.1 k1 (sp.toNatClampNeg + i)) := by
          show (arrV (G.2.1 4) (zsh k1).2.2 (fun j => .long (w.2.1 k1 j))).slots.getD _ _ = _
          rw [Array.getD_eq_getD_getElem?, arrV_read _ _ (Nat.lt_of_lt_of_le (Nat.add_lt_add_left hi _) c4)]
          rfl
        refine ⟨?_, ?_⟩
        · rw [e]
          rfl
        · rw [e]
          exact trivial)
      (g := F0 m pc lsm (.int n :: .int dp :: .ref (zad G k2) :: .int sp :: .ref (zad G k1) :: t.map (ztr G))) rfl h1.1 (rest := t.map (ztr G)) rfl (by rw [C.2.1]; exact D) (zx12 C.2.2.2.2.2.2.1.1) (by show 2 * 0 + _ + _ ≤ _; rw [Nat.zero_add]; exact zx13 C.2.2.2.2.2.2.1.2.1 hr (by decide))
    have e1 : copied (vp_cell (G.2.1 4) ((zsh k1).2.2, .inr (.inl (w.2.1 k1)))) (vp_cell (G.2.1 4) ((zsh k2).2.2, .inr (.inl (w.2.1 k2)))) sp dp n = vp_cell (G.2.1 4) ((zsh k2).2.2, .inr (.inl (va_cpy (w.2.1 k1) (w.2.1 k2) sp.toNatClampNeg dp.toNatClampNeg n.toNatClampNeg))) := va_copied (fun z => .long z) (G.2.1 4) (G.2.1 4) (w.2.1 k1) (w.2.1 k2) c4
    rw [e1] at X' step
    have hl : zad G k2 < H.size := (Array.getElem?_eq_some_iff.mp hc1).1
    generalize hH1 : ((T.setVm vm').setCell (zad G k2) (vp_cell (G.2.1 4) ((zsh k2).2.2, .inr (.inl (va_cpy (w.2.1 k1) (w.2.1 k2) sp.toNatClampNeg dp.toNatClampNeg n.toNatClampNeg))))).heap = H1
    have hh : H1 = H.setIfInBounds (zad G k2) (vp_cell (G.2.1 4) ((zsh k2).2.2, .inr (.inl (va_cpy (w.2.1 k1) (w.2.1 k2) sp.toNatClampNeg dp.toNatClampNeg n.toNatClampNeg)))) := by rw [← hH1, ← hT]; rfl
    have z1 : H1.size = H.size := by rw [hh]; simp
    have oq : ∀ q : Nat, q ≠ zad G k2 → H1[q]? = H[q]? := fun q hq => by rw [hh]; simp [Array.getElem?_setIfInBounds, Ne.symm hq]
    have eq : H1[zad G k2]? = some (vp_cell (G.2.1 4) ((zsh k2).2.2, .inr (.inl (va_cpy (w.2.1 k1) (w.2.1 k2) sp.toNatClampNeg dp.toNatClampNeg n.toNatClampNeg)))) := by rw [hh]; simp [Array.getElem?_setIfInBounds, hl]
    have hb : zA0 G (zad G k2) := by rw [q4]; exact Nat.le_add_right _ _
    obtain ⟨t2, a2, b2⟩ := hK _ h lsm H1 _ h1 (zRl_set (w' := (w.1, zcp w.2.1 k1 sp.toNatClampNeg k2 dp.toNatClampNeg n.toNatClampNeg, w.2.2.1, w.2.2.2)) h2 q1 rfl (fun a ha => ⟨rfl, if_neg ha, rfl⟩) (by
      rw [zce_l q3]
      dsimp only
      rw [show zcp w.2.1 k1 sp.toNatClampNeg k2 dp.toNatClampNeg n.toNatClampNeg k2 = va_cpy (w.2.1 k1) (w.2.1 k2) sp.toNatClampNeg dp.toNatClampNeg n.toNatClampNeg from if_pos rfl, ← q4]
      exact eq) z1 (by rw [← q4]; exact oq)) ⟨by rw [z1]; exact h3.1, fun q g1 g2 => by
        rw [oq q (fun e => g2 (by rw [e]; exact hb))]
        exact h3.2.1 q g1 g2, fun q hq => by
        rcases List.mem_append.mp hq with h | h
        · exact h3.2.2 q h
        · obtain ⟨z, -, hz⟩ := List.mem_map.mp h
          rw [← hz]
          exact hb⟩ h4 _ hH1 X'
    exact ⟨t2, step t2 a2, b2⟩
  · exact h.elim
end ZS
