/-! ===== fields and arrays ===== -/
/-- class ci: its name, table, number of fields, their types -/
def zKls (ci : Nat) (Cn : String) (T : u_T) (N : Nat) (ty : Nat → FieldType) : Prop := zcls[ci]? = some (Cn, T, N) ∧ (∀ w ∈ u_ws Cn T N, w ∈ zGw) ∧ (∀ k, k < N → parseFieldDescriptor (T k).2.2.1 = some (ty k)) ∧ ∀ a, a < N → ∀ b, b < N → a ≠ b → (T a).2.1 ≠ (T b).2.1
def zcn (ci : Nat) : Nat := match zcls[ci]? with
  | some q => q.2.2
  | none => 0
theorem zsh_ok : ∀ k, k < 1000 → (zsh k).1 = 0 → (zsh k).2.2 = zcn (zsh k).2.1 := by decide +kernel
theorem zsh_tg : ∀ k, k < 1000 → (zsh k).1 ≤ 6 ∨ (zsh k).1 = 9 := by decide +kernel
theorem zcl_n {ci : Nat} {Cn : String} {T : u_T} {N : Nat} {ty : Nat → FieldType} (B : zKls ci Cn T N ty) : zcn ci = N := by
  unfold zcn
  rw [B.1]
theorem zfr_of {ci : Nat} {Cn : String} {T : u_T} {N : Nat} {ty : Nat → FieldType} (B : zKls ci Cn T N ty) {j : Nat} (hj : j < N) : zfr ci j = (match ty j with
    | .object _ => true
    | .array _ => true
    | _ => false) := by
  unfold zfr
  rw [B.1]
  dsimp only
  rw [B.2.2.1 j hj]
  cases ty j <;> rfl
theorem zad_lt {G : zG} {k : Nat} (h : k < 1000) : zad G k = G.2.2.1 + k := if_pos h
/-- an object of the world -/
theorem zob_get {G : zG} {w : zW} {ci k : Nat} {Cn : String} {T : u_T} {N : Nat} {ty : Nat → FieldType} (B : zKls ci Cn T N ty) (hn : w.2.2.2 ≤ 1000) (h : zob ci k w = true) : k < w.2.2.2 ∧ zad G k = G.2.2.1 + k ∧ (∀ i j r, zce G k i j r = .inr (ci, (List.range N).map (zfv G ci i r))) ∧ (zws G w)[k]? = some (zad G k, .inr (ci, (List.range N).map (zfv G ci (w.1 k) (w.2.2.1 k)))) := by
  obtain ⟨h1, h2, h3⟩ := of_decide_eq_true h
  have hk : k < 1000 := by omega
  have hz : ∀ i j r, zce G k i j r = .inr (ci, (List.range N).map (zfv G ci i r)) := by
    intro i j r
    unfold zce
    rw [if_pos h2, zsh_ok k hk h2, h3, zcl_n B]
  refine ⟨h1, zad_lt hk, hz, ?_⟩
  rw [zws_get h1, zad_lt hk, hz]
theorem zfs_get {G : zG} {ci N j : Nat} {i : Nat → Int32} {r : Nat → Option Nat} (hj : j < N) : ((List.range N).map (zfv G ci i r))[j]? = some (zfv G ci i r j) := by simp [List.getElem?_map, List.getElem?_range hj]
theorem zfs_seti {G : zG} {ci N j : Nat} {i : Nat → Int32} {r : Nat → Option Nat} {x : Int32} (hf : zfr ci j = false) : ((List.range N).map (zfv G ci i r)).set j (.int x) = (List.range N).map (zfv G ci (va_up i j x) r) := by
  apply List.ext_getElem?
  intro k
  by_cases e : k = j
  · subst e
    by_cases hl : k < N
    · rw [List.getElem?_set_self (by simpa using hl), zfs_get hl]
      simp [zfv, hf, va_up]
    · rw [List.getElem?_eq_none (by simp; omega), List.getElem?_eq_none (by simp; omega)]
  · rw [List.getElem?_set_ne (Ne.symm e)]
    by_cases hl : k < N
    · rw [zfs_get hl, zfs_get hl]
      simp [zfv, va_up, e]
    · rw [List.getElem?_eq_none (by simp; omega), List.getElem?_eq_none (by simp; omega)]
theorem zfs_setr {G : zG} {ci N j q : Nat} {i : Nat → Int32} {r : Nat → Option Nat} (hf : zfr ci j = true) : ((List.range N).map (zfv G ci i r)).set j (.ref (zad G q)) = (List.range N).map (zfv G ci i (va_up r j (some q))) := by
  apply List.ext_getElem?
  intro k
  by_cases e : k = j
  · subst e
    by_cases hl : k < N
    · rw [List.getElem?_set_self (by simpa using hl), zfs_get hl]
      simp [zfv, hf, va_up, va_rf]
    · rw [List.getElem?_eq_none (by simp; omega), List.getElem?_eq_none (by simp; omega)]
  · rw [List.getElem?_set_ne (Ne.symm e)]
    by_cases hl : k < N
    · rw [zfs_get hl, zfs_get hl]
      simp [zfv, va_up, e]
    · rw [List.getElem?_eq_none (by simp; omega), List.getElem?_eq_none (by simp; omega)]
/-- one cell anew: the heap holds the new world -/
theorem zRl_set {G : zG} {L : Nat} {xs : Nat → Int32} {w w' : zW} {H H1 : Heap} {k : Nat} (h : zRl G L xs w H) (hk : k < w.2.2.2) (hn : w'.2.2.2 = w.2.2.2) (hd : ∀ a, a ≠ k → w'.1 a = w.1 a ∧ w'.2.1 a = w.2.1 a ∧ w'.2.2.1 a = w.2.2.1 a)
    (he : va_at G.1 zcls (G.2.2.1 + k, zce G k (w'.1 k) (w'.2.1 k) (w'.2.2.1 k)) H1) (z : H1.size = H.size) (oq : ∀ q : Nat, q ≠ G.2.2.1 + k → H1[q]? = H[q]?) : zRl G L xs w' H1 := by
  obtain ⟨h1, h2, h3, h4, h5⟩ := h
  refine ⟨by rw [z, hn]; exact h1, ?_, by rw [hn]; exact h3, by rw [(hd 1021 (by omega)).1]; exact h4, by rw [(hd 1022 (by omega)).1]; exact h5⟩
  rw [← zws_set hn hd]
  exact h2.set zws_D (zws_get hk) he oq
theorem zup_eq {α : Type} {f : Nat → Nat → α} {k j : Nat} {x : α} : zup f k j x k = va_up (f k) j x := if_pos rfl
theorem zup_ne {α : Type} {f : Nat → Nat → α} {k j a : Nat} {x : α} (h : a ≠ k) : zup f k j x a = f a := if_neg h
section ZS
variable {p : Program} {l : Launch} {e : Env} {R : Room} {s : State} {m : MethodId} {args : Array Value} {below : List Frame} {meth : Method} {c : Code} {G : zG} {L : Nat} {xs : Nat → Int32} {cc : ByteArray} {own : String} {rt : Option FieldType} {cl : zA} {d n0 nf pc : Nat} {Q : State → Prop} {Qp : Option Value → zW → Prop} {mt : zA → Nat → Prop}
theorem so_geti (C : zCx mt p l e R s m args below meth c G L xs cc own rt cl d n0 nf Q Qp) {ci j : Nat} {Cn : String} {T : u_T} {N : Nat} {ty : Nat → FieldType} (B : zKls ci Cn T N ty) {n : Nat} (D : decode cc pc = .ok (.getfield n, 3)) (hw : Cond.fieldLink own n (T j).1 (T j).2.1 (T j).2.2.1 ∈ zGw) (hj : j < N) (ht : zfr ci j = false) : zSd p l e R s m args below meth c G L xs cl n0 nf Q Qp pc (o_geti ci j) := by
  intro ls st w K h hK _ lsm H locs h1 h2 h3 h4
  unfold o_geti at h
  dsimp only at h
  split at h
  · rename_i k t
    obtain ⟨g, h⟩ := h
    obtain ⟨k1, k2, -, k4⟩ := zob_get (G := G) B h2.2.2.1 g
    refine va_get (D := G.1) (cl := zcls) (ci := ci) (C := Cn) (T := T) (N := N) (ws := zws G w) (tys := ztys G) C.1 C.2.1 C.2.2.2.1 B.2.1 C.2.2.1 C.2.2.2.2.1.1 h2.2.1 k k4 B.1 j hj (C.2.2.2.1 _ hw) (fun _ q => q) (v := .int (w.1 k j)) ?_ D (hK _ h lsm H locs h1 h2 h3 h4)
    rw [zfs_get hj]
    simp [zfv, ht]
  · exact h.elim
theorem so_getiN (C : zCx mt p l e R s m args below meth c G L xs cc own rt cl d n0 nf Q Qp) {ci j : Nat} {Cn : String} {T : u_T} {N : Nat} {ty : Nat → FieldType} (B : zKls ci Cn T N ty) {n : Nat} {host : String} (D : decode cc pc = .ok (.getfield n, 3)) (hw : Cond.fieldLinkNest own n (T j).1 (T j).2.1 (T j).2.2.1 host ∈ zNst) (hj : j < N) (ht : zfr ci j = false) : zSd p l e R s m args below meth c G L xs cl n0 nf Q Qp pc (o_geti ci j) := by
  intro ls st w K h hK _ lsm H locs h1 h2 h3 h4
  unfold o_geti at h
  dsimp only at h
  split at h
  · rename_i k t
    obtain ⟨g, h⟩ := h
    obtain ⟨k1, k2, -, k4⟩ := zob_get (G := G) B h2.2.2.1 g
    refine va_getN (D := G.1) (cl := zcls) (ci := ci) (C := Cn) (T := T) (N := N) (ws := zws G w) (tys := ztys G) C.1 C.2.1 C.2.2.2.1 B.2.1 C.2.2.1 C.2.2.2.2.1.1 h2.2.1 k k4 B.1 j hj (va_Nw.use rfl (C.2.2.2.2.1.2.1 _ hw)) (fun _ q => q) (v := .int (w.1 k j)) ?_ D (hK _ h lsm H locs h1 h2 h3 h4)
    rw [zfs_get hj]
    simp [zfv, ht]
  · exact h.elim
theorem so_getr (C : zCx mt p l e R s m args below meth c G L xs cc own rt cl d n0 nf Q Qp) {ci j : Nat} {Cn : String} {T : u_T} {N : Nat} {ty : Nat → FieldType} (B : zKls ci Cn T N ty) {n : Nat} (D : decode cc pc = .ok (.getfield n, 3)) (hw : Cond.fieldLink own n (T j).1 (T j).2.1 (T j).2.2.1 ∈ zGw) (hj : j < N) (ht : zfr ci j = true) : zSd p l e R s m args below meth c G L xs cl n0 nf Q Qp pc (o_getr ci j) := by
  intro ls st w K h hK _ lsm H locs h1 h2 h3 h4
  unfold o_getr at h
  dsimp only at h
  split at h
  · rename_i k t
    split at h
    · rename_i q hq
      obtain ⟨g, h⟩ := h
      obtain ⟨k1, k2, -, k4⟩ := zob_get (G := G) B h2.2.2.1 g
      refine va_get (D := G.1) (cl := zcls) (ci := ci) (C := Cn) (T := T) (N := N) (ws := zws G w) (tys := ztys G) C.1 C.2.1 C.2.2.2.1 B.2.1 C.2.2.1 C.2.2.2.2.1.1 h2.2.1 k k4 B.1 j hj (C.2.2.2.1 _ hw) (fun _ q => q) (v := .ref (zad G q)) ?_ D (hK _ h lsm H locs h1 h2 h3 h4)
      rw [zfs_get hj]
      simp [zfv, ht, hq, va_rf]
    · exact h.elim
  · exact h.elim
theorem so_getrN (C : zCx mt p l e R s m args below meth c G L xs cc own rt cl d n0 nf Q Qp) {ci j : Nat} {Cn : String} {T : u_T} {N : Nat} {ty : Nat → FieldType} (B : zKls ci Cn T N ty) {n : Nat} {host : String} (D : decode cc pc = .ok (.getfield n, 3)) (hw : Cond.fieldLinkNest own n (T j).1 (T j).2.1 (T j).2.2.1 host ∈ zNst) (hj : j < N) (ht : zfr ci j = true) : zSd p l e R s m args below meth c G L xs cl n0 nf Q Qp pc (o_getr ci j) := by
  intro ls st w K h hK _ lsm H locs h1 h2 h3 h4
  unfold o_getr at h
  dsimp only at h
  split at h
  · rename_i k t
    split at h
    · rename_i q hq
      obtain ⟨g, h⟩ := h
      obtain ⟨k1, k2, -, k4⟩ := zob_get (G := G) B h2.2.2.1 g
      refine va_getN (D := G.1) (cl := zcls) (ci := ci) (C := Cn) (T := T) (N := N) (ws := zws G w) (tys := ztys G) C.1 C.2.1 C.2.2.2.1 B.2.1 C.2.2.1 C.2.2.2.2.1.1 h2.2.1 k k4 B.1 j hj (va_Nw.use rfl (C.2.2.2.2.1.2.1 _ hw)) (fun _ q => q) (v := .ref (zad G q)) ?_ D (hK _ h lsm H locs h1 h2 h3 h4)
      rw [zfs_get hj]
      simp [zfv, ht, hq, va_rf]
    · exact h.elim
  · exact h.elim
theorem zput0 {ci j : Nat} {Cn : String} {T : u_T} {N : Nat} {ty : Nat → FieldType} (B : zKls ci Cn T N ty) {w : zW} {H : Heap} {locs : List Loc} {cells slots k n : Nat} {ls : Array Slot} {rest : List Value} {v : Value} (link : (∃ host : String, Cond.fieldLinkNest own n (T j).1 (T j).2.1 (T j).2.2.1 host ∈ zNst) ∨ Cond.fieldLink own n (T j).1 (T j).2.1 (T j).2.2.1 ∈ zGw) (hj : j < N) (hfin : (T j).2.2.2 = false)
    (hP : va_P G.1 zcls (zws G w) H) (he : (zws G w)[k]? = some (zad G k, .inr (ci, (List.range N).map (zfv G ci (w.1 k) (w.2.2.1 k))))) (hn : narrow (ty j) v = v) (hfit : fits (ty j) v = true) (D : decode cc pc = .ok (.putfield n, 3)) (C : zCx mt p l e R s m args below meth c G L xs cc own rt cl d n0 nf Q Qp)
    (kk : ∀ (H1 : Heap) (z : Nat), va_at G.1 zcls (zad G k, .inr (ci, ((List.range N).map (zfv G ci (w.1 k) (w.2.2.1 k))).set j v)) H1 → H1.size = H.size → (∀ q : Nat, q ≠ zad G k → H1[q]? = H[q]?) → W p l e R s m args below meth c H1 (locs ++ [⟨zad G k, z⟩]) cells slots Q (F0 m (pc + 3) ls rest)) : W p l e R s m args below meth c H locs cells slots Q (F0 m pc ls (v :: .ref (zad G k) :: rest)) := by
  have hK := C.2.2.2.2.1.1
  have hts := C.2.2.2.1
  have hap := va_apart (own := own) hts B.2.1 ty B.2.2.1 B.2.2.2 hK B.1
  obtain ⟨r, r1, cell, q1, q2, q3, q4⟩ := hP k _ he
  have hr : r = (Cn, T, N) := Option.some.inj (r1.symm.trans B.1)
  subst hr
  obtain ⟨hS, hfc, kC, hkC, hkind⟩ := hK.1 ci _ B.1
  obtain ⟨cf, kf, fi, f, hi, hsl⟩ := hS j hj
  have hlay := hts _ (B.2.1 _ (u_in_lay hj))
  unfold u_lay at hlay
  rw [if_neg (by rw [hfin]; decide)] at hlay
  have hst := (u_facts hfc hkC (u_lays hts B.2.1 hj) hi).1
  have h6 := u_store hfc hkC hkind hlay hi (B.2.2.1 j hj) hn hfit
  have fin : ∀ H1 : Heap, H1[zad G k]? = some (cell.setSlot f.slot v) → H1.size = H.size → (∀ q : Nat, q ≠ zad G k → H1[q]? = H[q]?) → W p l e R s m args below meth c H1 (locs ++ [⟨zad G k, f.slot⟩]) cells slots Q (F0 m (pc + 3) ls rest) := by
    intro H1 e1 e2 e3
    refine kk H1 _ ⟨_, B.1, ?_⟩ e2 e3
    rw [hsl] at e1
    exact t_OB.to (V := updV (vp_V ((List.range N).map (zfv G ci (w.1 k) (w.2.2.1 k)))) j v) ⟨_, e1, q2, q3, t_set q4 hap hj v⟩ (fun a _ => vp_updV_set (by simpa using hj) v a)
  rcases link with ⟨host, hw⟩ | hw
  · exact va_WputK C.1 C.2.1 (f := f) C.2.2.1 (va_Nw.use rfl (C.2.2.2.2.1.2.1 _ hw)) hi hst (by rw [q2]; exact h6) q1 q3 (by rw [hsl]; exact k2_hasslot (q4 j hj)) rfl rfl D fin
  · exact W.putK C.1 C.2.1 (f := f) ⟨C.2.2.1, hts _ hw, ⟨_, _, _, hi⟩, hst⟩ (by rw [q2]; exact h6) q1 q3 (by rw [hsl]; exact k2_hasslot (q4 j hj)) rfl rfl D fin
theorem zput1 {ci j : Nat} {Cn : String} {T : u_T} {N : Nat} {ty : Nat → FieldType} (B : zKls ci Cn T N ty) {w : zW} {H : Heap} {locs : List Loc} {cells slots k n : Nat} {ls : Array Slot} {rest : List Value} {v : Value} (hw : Cond.fieldLink own n (T j).1 (T j).2.1 (T j).2.2.1 ∈ zGw) (hj : j < N) (hfin : (T j).2.2.2 = true) (hin : meth.name = "<init>") (hdecl : (T j).1 = own)
    (hP : va_P G.1 zcls (zws G w) H) (he : (zws G w)[k]? = some (zad G k, .inr (ci, (List.range N).map (zfv G ci (w.1 k) (w.2.2.1 k))))) (hn : narrow (ty j) v = v) (hfit : fits (ty j) v = true) (D : decode cc pc = .ok (.putfield n, 3)) (C : zCx mt p l e R s m args below meth c G L xs cc own rt cl d n0 nf Q Qp)
    (kk : ∀ (H1 : Heap) (z : Nat), va_at G.1 zcls (zad G k, .inr (ci, ((List.range N).map (zfv G ci (w.1 k) (w.2.2.1 k))).set j v)) H1 → H1.size = H.size → (∀ q : Nat, q ≠ zad G k → H1[q]? = H[q]?) → W p l e R s m args below meth c H1 (locs ++ [⟨zad G k, z⟩]) cells slots Q (F0 m (pc + 3) ls rest)) : W p l e R s m args below meth c H locs cells slots Q (F0 m pc ls (v :: .ref (zad G k) :: rest)) := by
  have hK := C.2.2.2.2.1.1
  have hts := C.2.2.2.1
  have hap := va_apart (own := own) hts B.2.1 ty B.2.2.1 B.2.2.2 hK B.1
  obtain ⟨r, r1, cell, q1, q2, q3, q4⟩ := hP k _ he
  have hr : r = (Cn, T, N) := Option.some.inj (r1.symm.trans B.1)
  subst hr
  obtain ⟨hS, hfc, kC, hkC, hkind⟩ := hK.1 ci _ B.1
  obtain ⟨cf, kf, fi, f, hi, hsl⟩ := hS j hj
  have hlay := hts _ (B.2.1 _ (u_in_lay hj))
  unfold u_lay at hlay
  rw [if_pos hfin] at hlay
  have hst := (u_facts hfc hkC (u_lays hts B.2.1 hj) hi).1
  have hcf : m.cls = cf := by
    obtain ⟨_, _, c', _, _, _, -, -, hf', -, -, -, hown2, -⟩ := Cond.laysFinal_spec hlay
    have e1 : c' = cf := by have := hi.symm.trans hf'; simp at this; exact this.1.symm
    rw [hdecl] at hown2
    rw [← e1]; exact Option.some.inj (C.2.2.1.symm.trans hown2)
  have h6 := u_fits hfc hkC hkind (Or.inr hlay) hi (B.2.2.1 j hj) hn hfit
  refine W.putFinK C.1 C.2.1 C.2.2.1 (hts _ hw) hi hst hcf hin (by rw [q2]; exact h6) q1 q3 (by rw [hsl]; exact k2_hasslot (q4 j hj)) rfl rfl D fun H1 e1 e2 e3 => ?_
  refine kk H1 _ ⟨_, B.1, ?_⟩ e2 e3
  rw [hsl] at e1
  exact t_OB.to (V := updV (vp_V ((List.range N).map (zfv G ci (w.1 k) (w.2.2.1 k)))) j v) ⟨_, e1, q2, q3, t_set q4 hap hj v⟩ (fun a _ => vp_updV_set (by simpa using hj) v a)
theorem so_puti (C : zCx mt p l e R s m args below meth c G L xs cc own rt cl d n0 nf Q Qp) {ci j : Nat} {Cn : String} {T : u_T} {N : Nat} {ty : Nat → FieldType} (B : zKls ci Cn T N ty) {n : Nat} (D : decode cc pc = .ok (.putfield n, 3)) (hw : Cond.fieldLink own n (T j).1 (T j).2.1 (T j).2.2.1 ∈ zGw) (hj : j < N) (ht : ty j = .int) (hfin : (T j).2.2.2 = false) : zSd p l e R s m args below meth c G L xs cl n0 nf Q Qp pc (o_puti ci j) := by
  intro ls st w K h hK _ lsm H locs h1 h2 h3 h4
  unfold o_puti at h
  dsimp only at h
  split at h
  · rename_i x k t
    obtain ⟨g, h⟩ := h
    obtain ⟨k1, k2, k3, k4⟩ := zob_get (G := G) B h2.2.2.1 g
    have hfr : zfr ci j = false := by rw [zfr_of B hj, ht]
    refine zput0 B (Or.inr hw) hj hfin h2.2.1 k4 (v := .int x) (by rw [ht]; rfl) (by rw [ht]; rfl) D C fun H1 z e1 e2 e3 => ?_
    rw [k2] at e1 e3
    refine hK _ h lsm H1 _ h1 (zRl_set (w' := (zup w.1 k j x, w.2.1, w.2.2.1, w.2.2.2)) h2 k1 rfl (fun a ha => ⟨zup_ne ha, rfl, rfl⟩) ?_ e2 e3) (h3.put e2 (by rw [k2]; exact e3) (by rw [k2]; exact Nat.le_add_right _ _)) h4
    rw [k3]
    dsimp only
    rw [zup_eq, ← zfs_seti hfr]
    exact e1
  · exact h.elim
theorem so_putiN (C : zCx mt p l e R s m args below meth c G L xs cc own rt cl d n0 nf Q Qp) {ci j : Nat} {Cn : String} {T : u_T} {N : Nat} {ty : Nat → FieldType} (B : zKls ci Cn T N ty) {n : Nat} {host : String} (D : decode cc pc = .ok (.putfield n, 3)) (hw : Cond.fieldLinkNest own n (T j).1 (T j).2.1 (T j).2.2.1 host ∈ zNst) (hj : j < N) (ht : ty j = .int) (hfin : (T j).2.2.2 = false) : zSd p l e R s m args below meth c G L xs cl n0 nf Q Qp pc (o_puti ci j) := by
  intro ls st w K h hK _ lsm H locs h1 h2 h3 h4
  unfold o_puti at h
  dsimp only at h
  split at h
  · rename_i x k t
    obtain ⟨g, h⟩ := h
    obtain ⟨k1, k2, k3, k4⟩ := zob_get (G := G) B h2.2.2.1 g
    have hfr : zfr ci j = false := by rw [zfr_of B hj, ht]
    refine zput0 B (Or.inl ⟨_, hw⟩) hj hfin h2.2.1 k4 (v := .int x) (by rw [ht]; rfl) (by rw [ht]; rfl) D C fun H1 z e1 e2 e3 => ?_
    rw [k2] at e1 e3
    refine hK _ h lsm H1 _ h1 (zRl_set (w' := (zup w.1 k j x, w.2.1, w.2.2.1, w.2.2.2)) h2 k1 rfl (fun a ha => ⟨zup_ne ha, rfl, rfl⟩) ?_ e2 e3) (h3.put e2 (by rw [k2]; exact e3) (by rw [k2]; exact Nat.le_add_right _ _)) h4
    rw [k3]
    dsimp only
    rw [zup_eq, ← zfs_seti hfr]
    exact e1
  · exact h.elim
theorem so_putiF (C : zCx mt p l e R s m args below meth c G L xs cc own rt cl d n0 nf Q Qp) {ci j : Nat} {Cn : String} {T : u_T} {N : Nat} {ty : Nat → FieldType} (B : zKls ci Cn T N ty) {n : Nat} (D : decode cc pc = .ok (.putfield n, 3)) (hw : Cond.fieldLink own n (T j).1 (T j).2.1 (T j).2.2.1 ∈ zGw) (hj : j < N) (ht : ty j = .int) (hfin : (T j).2.2.2 = true) (hin : meth.name = "<init>") (hdecl : (T j).1 = own) : zSd p l e R s m args below meth c G L xs cl n0 nf Q Qp pc (o_puti ci j) := by
  intro ls st w K h hK _ lsm H locs h1 h2 h3 h4
  unfold o_puti at h
  dsimp only at h
  split at h
  · rename_i x k t
    obtain ⟨g, h⟩ := h
    obtain ⟨k1, k2, k3, k4⟩ := zob_get (G := G) B h2.2.2.1 g
    have hfr : zfr ci j = false := by rw [zfr_of B hj, ht]
    refine zput1 B hw hj hfin hin hdecl h2.2.1 k4 (v := .int x) (by rw [ht]; rfl) (by rw [ht]; rfl) D C fun H1 z e1 e2 e3 => ?_
    rw [k2] at e1 e3
    refine hK _ h lsm H1 _ h1 (zRl_set (w' := (zup w.1 k j x, w.2.1, w.2.2.1, w.2.2.2)) h2 k1 rfl (fun a ha => ⟨zup_ne ha, rfl, rfl⟩) ?_ e2 e3) (h3.put e2 (by rw [k2]; exact e3) (by rw [k2]; exact Nat.le_add_right _ _)) h4
    rw [k3]
    dsimp only
    rw [zup_eq, ← zfs_seti hfr]
    exact e1
  · exact h.elim
theorem zn_fz {x : Int32} (h : z_rz x = true) : fits .boolean (.int x) = true := by
  have h1 := of_decide_eq_true h
  rcases h1 with h1 | h1 <;> rw [h1] <;> decide +kernel
theorem so_putz (C : zCx mt p l e R s m args below meth c G L xs cc own rt cl d n0 nf Q Qp) {ci j : Nat} {Cn : String} {T : u_T} {N : Nat} {ty : Nat → FieldType} (B : zKls ci Cn T N ty) {n : Nat} (D : decode cc pc = .ok (.putfield n, 3)) (hw : Cond.fieldLink own n (T j).1 (T j).2.1 (T j).2.2.1 ∈ zGw) (hj : j < N) (ht : ty j = .boolean) (hfin : (T j).2.2.2 = false) : zSd p l e R s m args below meth c G L xs cl n0 nf Q Qp pc (o_putz ci j) := by
  intro ls st w K h hK _ lsm H locs h1 h2 h3 h4
  unfold o_putz at h
  dsimp only at h
  split at h
  · rename_i x k t
    obtain ⟨g, h⟩ := h
    obtain ⟨g, g2⟩ := Bool.and_eq_true_iff.mp g
    obtain ⟨k1, k2, k3, k4⟩ := zob_get (G := G) B h2.2.2.1 g
    have hfr : zfr ci j = false := by rw [zfr_of B hj, ht]
    refine zput0 B (Or.inr hw) hj hfin h2.2.1 k4 (v := .int x) (by rw [ht]; exact zn_z g2) (by rw [ht]; exact zn_fz g2) D C fun H1 z e1 e2 e3 => ?_
    rw [k2] at e1 e3
    refine hK _ h lsm H1 _ h1 (zRl_set (w' := (zup w.1 k j x, w.2.1, w.2.2.1, w.2.2.2)) h2 k1 rfl (fun a ha => ⟨zup_ne ha, rfl, rfl⟩) ?_ e2 e3) (h3.put e2 (by rw [k2]; exact e3) (by rw [k2]; exact Nat.le_add_right _ _)) h4
    rw [k3]
    dsimp only
    rw [zup_eq, ← zfs_seti hfr]
    exact e1
  · exact h.elim
theorem so_putzN (C : zCx mt p l e R s m args below meth c G L xs cc own rt cl d n0 nf Q Qp) {ci j : Nat} {Cn : String} {T : u_T} {N : Nat} {ty : Nat → FieldType} (B : zKls ci Cn T N ty) {n : Nat} {host : String} (D : decode cc pc = .ok (.putfield n, 3)) (hw : Cond.fieldLinkNest own n (T j).1 (T j).2.1 (T j).2.2.1 host ∈ zNst) (hj : j < N) (ht : ty j = .boolean) (hfin : (T j).2.2.2 = false) : zSd p l e R s m args below meth c G L xs cl n0 nf Q Qp pc (o_putz ci j) := by
  intro ls st w K h hK _ lsm H locs h1 h2 h3 h4
  unfold o_putz at h
  dsimp only at h
  split at h
  · rename_i x k t
    obtain ⟨g, h⟩ := h
    obtain ⟨g, g2⟩ := Bool.and_eq_true_iff.mp g
    obtain ⟨k1, k2, k3, k4⟩ := zob_get (G := G) B h2.2.2.1 g
    have hfr : zfr ci j = false := by rw [zfr_of B hj, ht]
    refine zput0 B (Or.inl ⟨_, hw⟩) hj hfin h2.2.1 k4 (v := .int x) (by rw [ht]; exact zn_z g2) (by rw [ht]; exact zn_fz g2) D C fun H1 z e1 e2 e3 => ?_
    rw [k2] at e1 e3
    refine hK _ h lsm H1 _ h1 (zRl_set (w' := (zup w.1 k j x, w.2.1, w.2.2.1, w.2.2.2)) h2 k1 rfl (fun a ha => ⟨zup_ne ha, rfl, rfl⟩) ?_ e2 e3) (h3.put e2 (by rw [k2]; exact e3) (by rw [k2]; exact Nat.le_add_right _ _)) h4
    rw [k3]
    dsimp only
    rw [zup_eq, ← zfs_seti hfr]
    exact e1
  · exact h.elim
theorem so_putr (C : zCx mt p l e R s m args below meth c G L xs cc own rt cl d n0 nf Q Qp) {ci j : Nat} {Cn : String} {T : u_T} {N : Nat} {ty : Nat → FieldType} (B : zKls ci Cn T N ty) {n : Nat} (D : decode cc pc = .ok (.putfield n, 3)) (hw : Cond.fieldLink own n (T j).1 (T j).2.1 (T j).2.2.1 ∈ zGw) (hj : j < N) (ht : (∃ q, ty j = .object q) ∨ ∃ q, ty j = .array q) (hfin : (T j).2.2.2 = false) : zSd p l e R s m args below meth c G L xs cl n0 nf Q Qp pc (o_putr ci j) := by
  intro ls st w K h hK _ lsm H locs h1 h2 h3 h4
  unfold o_putr at h
  dsimp only at h
  split at h
  · rename_i q k t
    obtain ⟨g, h⟩ := h
    obtain ⟨k1, k2, k3, k4⟩ := zob_get (G := G) B h2.2.2.1 g
    have hfr : zfr ci j = true := by rw [zfr_of B hj]; rcases ht with ⟨z, hz⟩ | ⟨z, hz⟩ <;> rw [hz]
    refine zput0 B (Or.inr hw) hj hfin h2.2.1 k4 (v := .ref (zad G q)) (by rcases ht with ⟨z, hz⟩ | ⟨z, hz⟩ <;> rw [hz] <;> rfl) (by rcases ht with ⟨z, hz⟩ | ⟨z, hz⟩ <;> rw [hz] <;> rfl) D C fun H1 z e1 e2 e3 => ?_
    rw [k2] at e1 e3
    refine hK _ h lsm H1 _ h1 (zRl_set (w' := (w.1, w.2.1, zup w.2.2.1 k j (some q), w.2.2.2)) h2 k1 rfl (fun a ha => ⟨rfl, rfl, zup_ne ha⟩) ?_ e2 e3) (h3.put e2 (by rw [k2]; exact e3) (by rw [k2]; exact Nat.le_add_right _ _)) h4
    rw [k3]
    dsimp only
    rw [zup_eq, ← zfs_setr hfr]
    exact e1
  · exact h.elim
theorem so_putrN (C : zCx mt p l e R s m args below meth c G L xs cc own rt cl d n0 nf Q Qp) {ci j : Nat} {Cn : String} {T : u_T} {N : Nat} {ty : Nat → FieldType} (B : zKls ci Cn T N ty) {n : Nat} {host : String} (D : decode cc pc = .ok (.putfield n, 3)) (hw : Cond.fieldLinkNest own n (T j).1 (T j).2.1 (T j).2.2.1 host ∈ zNst) (hj : j < N) (ht : (∃ q, ty j = .object q) ∨ ∃ q, ty j = .array q) (hfin : (T j).2.2.2 = false) : zSd p l e R s m args below meth c G L xs cl n0 nf Q Qp pc (o_putr ci j) := by
  intro ls st w K h hK _ lsm H locs h1 h2 h3 h4
  unfold o_putr at h
  dsimp only at h
  split at h
  · rename_i q k t
    obtain ⟨g, h⟩ := h
    obtain ⟨k1, k2, k3, k4⟩ := zob_get (G := G) B h2.2.2.1 g
    have hfr : zfr ci j = true := by rw [zfr_of B hj]; rcases ht with ⟨z, hz⟩ | ⟨z, hz⟩ <;> rw [hz]
    refine zput0 B (Or.inl ⟨_, hw⟩) hj hfin h2.2.1 k4 (v := .ref (zad G q)) (by rcases ht with ⟨z, hz⟩ | ⟨z, hz⟩ <;> rw [hz] <;> rfl) (by rcases ht with ⟨z, hz⟩ | ⟨z, hz⟩ <;> rw [hz] <;> rfl) D C fun H1 z e1 e2 e3 => ?_
    rw [k2] at e1 e3
    refine hK _ h lsm H1 _ h1 (zRl_set (w' := (w.1, w.2.1, zup w.2.2.1 k j (some q), w.2.2.2)) h2 k1 rfl (fun a ha => ⟨rfl, rfl, zup_ne ha⟩) ?_ e2 e3) (h3.put e2 (by rw [k2]; exact e3) (by rw [k2]; exact Nat.le_add_right _ _)) h4
    rw [k3]
    dsimp only
    rw [zup_eq, ← zfs_setr hfr]
    exact e1
  · exact h.elim
theorem so_putrF (C : zCx mt p l e R s m args below meth c G L xs cc own rt cl d n0 nf Q Qp) {ci j : Nat} {Cn : String} {T : u_T} {N : Nat} {ty : Nat → FieldType} (B : zKls ci Cn T N ty) {n : Nat} (D : decode cc pc = .ok (.putfield n, 3)) (hw : Cond.fieldLink own n (T j).1 (T j).2.1 (T j).2.2.1 ∈ zGw) (hj : j < N) (ht : (∃ q, ty j = .object q) ∨ ∃ q, ty j = .array q) (hfin : (T j).2.2.2 = true) (hin : meth.name = "<init>") (hdecl : (T j).1 = own) : zSd p l e R s m args below meth c G L xs cl n0 nf Q Qp pc (o_putr ci j) := by
  intro ls st w K h hK _ lsm H locs h1 h2 h3 h4
  unfold o_putr at h
  dsimp only at h
  split at h
  · rename_i q k t
    obtain ⟨g, h⟩ := h
    obtain ⟨k1, k2, k3, k4⟩ := zob_get (G := G) B h2.2.2.1 g
    have hfr : zfr ci j = true := by rw [zfr_of B hj]; rcases ht with ⟨z, hz⟩ | ⟨z, hz⟩ <;> rw [hz]
    refine zput1 B hw hj hfin hin hdecl h2.2.1 k4 (v := .ref (zad G q)) (by rcases ht with ⟨z, hz⟩ | ⟨z, hz⟩ <;> rw [hz] <;> rfl) (by rcases ht with ⟨z, hz⟩ | ⟨z, hz⟩ <;> rw [hz] <;> rfl) D C fun H1 z e1 e2 e3 => ?_
    rw [k2] at e1 e3
    refine hK _ h lsm H1 _ h1 (zRl_set (w' := (w.1, w.2.1, zup w.2.2.1 k j (some q), w.2.2.2)) h2 k1 rfl (fun a ha => ⟨rfl, rfl, zup_ne ha⟩) ?_ e2 e3) (h3.put e2 (by rw [k2]; exact e3) (by rw [k2]; exact Nat.le_add_right _ _)) h4
    rw [k3]
    dsimp only
    rw [zup_eq, ← zfs_setr hfr]
    exact e1
  · exact h.elim
end ZS
