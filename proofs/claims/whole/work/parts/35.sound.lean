/-! ===== each instruction of the pure machine is the machine's own ===== -/
def zmo1 (n : Nat) : zO → Prop
  | .inl c => n ≤ c.2.2.2.2.2.2
  | .inr (.inl (_, c1, c2)) => n ≤ c1.2.2.2.2.2.2 ∧ n ≤ c2.2.2.2.2.2.2
  | .inr (.inr (.inl (_, c))) => n ≤ c.2.2.2.2.2.2
  | .inr (.inr (.inr (.inl (_, _, _, c)))) => n ≤ c.2.2.2.2.2.2
  | .inr (.inr (.inr (.inr (.inl (_, _, w))))) => n ≤ w.2.2.2
  | .inr (.inr (.inr (.inr (.inr (.inl (_, _, _, c)))))) => n ≤ c.2.2.2.2.2.2
  | .inr (.inr (.inr (.inr (.inr (.inr _))))) => True
/-- cells only come -/
def zMo (o : zC → zO) : Prop := ∀ c : zC, zmo1 c.2.2.2.2.2.2 (o c)
def zgo (p : Program) (l : Launch) (e : Env) (R : Room) (s : State) (m : MethodId) (args : Array Value) (below : List Frame) (meth : Method) (c : Code) (G : zG) (L : Nat) (xs : Nat → Int32) (n0 : Nat) (Q : State → Prop) (x : zC) : Prop :=
  ∀ (lsm : Array Slot) (H : Heap) (locs : List Loc), zLr G c.maxLocals x.2.1 lsm → zRl G L xs x.2.2.2 H → va_S (zA0 G) s.heap H locs → n0 ≤ x.2.2.2.2.2.2 →
    W p l e R s m args below meth c H locs (x.2.2.2.2.2.2 - n0) (zsl x.2.2.2.2.2.2 - zsl n0) Q (F0 m x.1 lsm (x.2.2.1.map (ztr G)))
/-- an answer goes with the instruction that gives it -/
def zRk (cc : ByteArray) (pc : Nat) (rt : Option FieldType) (v : Option Value) : Prop :=
  (∃ (x : Int32) (ty : FieldType), v = some (.int x) ∧ rt = some ty ∧ narrow ty (.int x) = .int x ∧ decode cc pc = .ok (.ireturn, 1)) ∨ (∃ x : Int64, v = some (.long x) ∧ rt = some .long ∧ decode cc pc = .ok (.lreturn, 1)) ∨ (v = none ∧ rt = none ∧ decode cc pc = .ok (.return_, 1))
def zPc (G : zG) (L : Nat) (xs : Nat → Int32) (as : List Value) (w : zW) : Array Value → State → Prop := va_Pc (as.map (ztr G)) (fun U => zRl G L xs w U.heap ∧ zE G L xs U)
def zQc (G : zG) (L : Nat) (xs : Nat → Int32) (r : Option Value) (w : zW) : Array Value → State → Outcome → State → Prop := fun _ st o t => o = .returned (r.map (ztr G)) ∧ zRl G L xs w t.heap ∧ va_F (zA0 G) st t
def zrm (d mc ms : Nat) : Room := { frames := d, cells := mc, slots := ms, locals := 60 * d }
section ZS
variable {p : Program} {l : Launch} {e : Env} {R : Room} {s : State} {m : MethodId} {args : Array Value} {below : List Frame} {meth : Method} {c : Code} {G : zG} {L : Nat} {xs : Nat → Int32} {cc : ByteArray} {own : String} {rt : Option FieldType} {cl : zA} {d n0 nf pc : Nat} {Q : State → Prop} {Qp : Option Value → zW → Prop}
/-- what a method's frame stands on; mt: what the methods below have as contracts -/
def zCx (mt : zA → Nat → Prop) (p : Program) (l : Launch) (e : Env) (R : Room) (s : State) (m : MethodId) (args : Array Value) (below : List Frame) (meth : Method) (c : Code) (G : zG) (L : Nat) (xs : Nat → Int32) (cc : ByteArray) (own : String) (rt : Option FieldType) (cl : zA) (d n0 nf : Nat) (Q : State → Prop) (Qp : Option Value → zW → Prop) : Prop :=
  p.tables.exec = Jvm.exec ∧ c.code = cc ∧ s.vm.findClass own = some m.cls ∧ (∀ w ∈ zGw, w.before args s = true) ∧ zE G L xs s ∧ G.2.2.1 ≤ s.heap.size ∧ (d + 1 ≤ R.frames ∧ 60 * (d + 1) ≤ R.locals ∧ nf - n0 ≤ R.cells ∧ zsl nf - zsl n0 ≤ R.slots) ∧
  (∀ (pc : Nat) (ls : zL) (v : Option Value) (w : zW), Qp v w → zRk cc pc rt v → zgo p l e R s m args below meth c G L xs n0 Q (pc, ls, v.toList, w)) ∧ mt cl d
def zSd (p : Program) (l : Launch) (e : Env) (R : Room) (s : State) (m : MethodId) (args : Array Value) (below : List Frame) (meth : Method) (c : Code) (G : zG) (L : Nat) (xs : Nat → Int32) (cl : zA) (n0 nf : Nat) (Q : State → Prop) (Qp : Option Value → zW → Prop) (pc : Nat) (o : zC → zO) : Prop :=
  ∀ (ls : zL) (st : List Value) (w : zW) (K : zC → Prop), zwp1 cl K Qp (o (pc, ls, st, w)) → (∀ c', K c' → zgo p l e R s m args below meth c G L xs n0 Q c') → (∀ c' : zC, K c' → c'.2.2.2.2.2.2 ≤ nf) → zgo p l e R s m args below meth c G L xs n0 Q (pc, ls, st, w)
theorem so_bad : zSd p l e R s m args below meth c G L xs cl n0 nf Q Qp pc o_bad := fun _ _ _ _ h => h.elim
variable {mt : zA → Nat → Prop}
theorem so_push {v : Value} {n : Nat} (row : ∀ {H : Heap} {locs : List Loc} {cells slots : Nat} {ls : Array Slot} {rest : List Value}, W p l e R s m args below meth c H locs cells slots Q (F0 m (pc + n) ls (ztr G v :: rest)) → W p l e R s m args below meth c H locs cells slots Q (F0 m pc ls rest)) : zSd p l e R s m args below meth c G L xs cl n0 nf Q Qp pc (o_push v n) :=
  fun _ _ _ _ h hK _ lsm H locs h1 h2 h3 h4 => row (hK _ h lsm H locs h1 h2 h3 h4)
theorem so_iconst (C : zCx mt p l e R s m args below meth c G L xs cc own rt cl d n0 nf Q Qp) {n : Int} {v : Int32} (D : decode cc pc = .ok (.iconst n, 1)) (hv : Int32.ofInt n = v) : zSd p l e R s m args below meth c G L xs cl n0 nf Q Qp pc (o_push (.int v) 1) := so_push fun k => lv_iconst C.1 C.2.1 D hv k
theorem so_bipush (C : zCx mt p l e R s m args below meth c G L xs cc own rt cl d n0 nf Q Qp) {n : Int} {v : Int32} (D : decode cc pc = .ok (.bipush n, 2)) (hv : (Int8.ofInt n).toInt32 = v) : zSd p l e R s m args below meth c G L xs cl n0 nf Q Qp pc (o_push (.int v) 2) := so_push fun k => lv_bipush C.1 C.2.1 D hv k
theorem so_sipush (C : zCx mt p l e R s m args below meth c G L xs cc own rt cl d n0 nf Q Qp) {n : Int} {v : Int32} (D : decode cc pc = .ok (.sipush n, 3)) (hv : (Int16.ofInt n).toInt32 = v) : zSd p l e R s m args below meth c G L xs cl n0 nf Q Qp pc (o_push (.int v) 3) := so_push fun k => lv_sipush C.1 C.2.1 D hv k
theorem so_lconst (C : zCx mt p l e R s m args below meth c G L xs cc own rt cl d n0 nf Q Qp) {n : Fin 2} {v : Int64} (D : decode cc pc = .ok (.lconst n, 1)) (hv : Int64.ofNat (n : Nat) = v) : zSd p l e R s m args below meth c G L xs cl n0 nf Q Qp pc (o_push (.long v) 1) := so_push fun k => lv_lconst C.1 C.2.1 D hv k
theorem so_ldc (C : zCx mt p l e R s m args below meth c G L xs cc own rt cl d n0 nf Q Qp) {n : Nat} {v : Int32} (D : decode cc pc = .ok (.ldc n, 2)) (hw : Cond.constant own n v ∈ zGw) : zSd p l e R s m args below meth c G L xs cl n0 nf Q Qp pc (o_push (.int v) 2) := so_push fun k => lv_ldc C.1 C.2.1 C.2.2.1 (C.2.2.2.1 _ hw) D k
theorem so_ldc_w (C : zCx mt p l e R s m args below meth c G L xs cc own rt cl d n0 nf Q Qp) {n : Nat} {v : Int32} (D : decode cc pc = .ok (.ldc_w n, 3)) (hw : Cond.constant own n v ∈ zGw) : zSd p l e R s m args below meth c G L xs cl n0 nf Q Qp pc (o_push (.int v) 3) := so_push fun k => lv_ldcw C.1 C.2.1 C.2.2.1 (C.2.2.2.1 _ hw) D k
theorem so_ldc2 (C : zCx mt p l e R s m args below meth c G L xs cc own rt cl d n0 nf Q Qp) {n : Nat} {v : Int64} (D : decode cc pc = .ok (.ldc2_w n, 3)) (hw : Cond.constantLong own n v ∈ zGw) : zSd p l e R s m args below meth c G L xs cl n0 nf Q Qp pc (o_push (.long v) 3) := so_push fun k => lv_ldc2 C.1 C.2.1 C.2.2.1 (C.2.2.2.1 _ hw) D k
theorem so_ldcS (C : zCx mt p l e R s m args below meth c G L xs cc "BitOff$Reader" rt cl d n0 nf Q Qp) (j : Nat) (hj : j < 8) (D : decode cc pc = .ok (.ldc (zstr j).1, 2)) : zSd p l e R s m args below meth c G L xs cl n0 nf Q Qp pc (o_push (.ref (1000 + j)) 2) := so_push fun k => va_ldcS C.1 C.2.1 C.2.2.1 (C.2.2.2.2.1.2.2.1 j hj) D k
theorem so_gsK (C : zCx mt p l e R s m args below meth c G L xs cc own rt cl d n0 nf Q Qp) {n : Nat} (D : decode cc pc = .ok (.getstatic n, 3)) (hw : Cond.fieldLink own n "BitOff$Table" "KIND_ABOVE" "[I" ∈ zGw) : zSd p l e R s m args below meth c G L xs cl n0 nf Q Qp pc (o_push (.ref 1020) 3) :=
  fun _ _ _ _ h hK _ lsm H locs h1 h2 h3 h4 => va_gets C.1 C.2.1 C.2.2.2.2.1.2.2.2.2.2.2.2.2.1 h3 C.2.2.1 (C.2.2.2.1 _ hw) (fun _ q => q) D (hK _ h lsm H locs h1 h2 h3 h4)
theorem so_gsC (C : zCx mt p l e R s m args below meth c G L xs cc own rt cl d n0 nf Q Qp) {n : Nat} (D : decode cc pc = .ok (.getstatic n, 3)) (hw : Cond.fieldLink own n "java/lang/String" "COMPACT_STRINGS" "Z" ∈ zGw) : zSd p l e R s m args below meth c G L xs cl n0 nf Q Qp pc (o_push (.int 1) 3) :=
  fun _ _ _ _ h hK _ lsm H locs h1 h2 h3 h4 => va_gets C.1 C.2.1 C.2.2.2.2.1.2.2.2.2.2.2.2.2.2.1 h3 C.2.2.1 (C.2.2.2.1 _ hw) (fun _ q => q) D (hK _ h lsm H locs h1 h2 h3 h4)
-- loads
theorem so_iload0 {i n : Nat} (row : ∀ {H : Heap} {locs : List Loc} {cells slots : Nat} {ls : Array Slot} {rest : List Value} {x : Int32}, ls[i]? = some (.val (.int x)) → W p l e R s m args below meth c H locs cells slots Q (F0 m (pc + n) ls (.int x :: rest)) → W p l e R s m args below meth c H locs cells slots Q (F0 m pc ls rest)) : zSd p l e R s m args below meth c G L xs cl n0 nf Q Qp pc (o_iload i n) := by
  intro ls st w K h hK _ lsm H locs h1 h2 h3 h4
  unfold o_iload at h
  dsimp only at h
  split at h
  · rename_i x hx
    exact row (h1.2.2.2 i (.int x) hx) (hK _ h lsm H locs h1 h2 h3 h4)
  · exact h.elim
theorem so_lload0 {i n : Nat} (row : ∀ {H : Heap} {locs : List Loc} {cells slots : Nat} {ls : Array Slot} {rest : List Value} {x : Int64}, ls[i]? = some (.val (.long x)) → W p l e R s m args below meth c H locs cells slots Q (F0 m (pc + n) ls (.long x :: rest)) → W p l e R s m args below meth c H locs cells slots Q (F0 m pc ls rest)) : zSd p l e R s m args below meth c G L xs cl n0 nf Q Qp pc (o_lload i n) := by
  intro ls st w K h hK _ lsm H locs h1 h2 h3 h4
  unfold o_lload at h
  dsimp only at h
  split at h
  · rename_i x hx
    exact row (h1.2.2.2 i (.long x) hx) (hK _ h lsm H locs h1 h2 h3 h4)
  · exact h.elim
theorem so_aload0 {i n : Nat} (row : ∀ {H : Heap} {locs : List Loc} {cells slots : Nat} {ls : Array Slot} {rest : List Value} {x : Nat}, ls[i]? = some (.val (.ref x)) → W p l e R s m args below meth c H locs cells slots Q (F0 m (pc + n) ls (.ref x :: rest)) → W p l e R s m args below meth c H locs cells slots Q (F0 m pc ls rest)) : zSd p l e R s m args below meth c G L xs cl n0 nf Q Qp pc (o_aload i n) := by
  intro ls st w K h hK _ lsm H locs h1 h2 h3 h4
  unfold o_aload at h
  dsimp only at h
  split at h
  · rename_i x hx
    exact row (h1.2.2.2 i (.ref x) hx) (hK _ h lsm H locs h1 h2 h3 h4)
  · exact h.elim
theorem so_iload_n (C : zCx mt p l e R s m args below meth c G L xs cc own rt cl d n0 nf Q Qp) {k : Fin 4} (D : decode cc pc = .ok (.iload_n k, 1)) : zSd p l e R s m args below meth c G L xs cl n0 nf Q Qp pc (o_iload k 1) := so_iload0 fun h k => lv_iload_n C.1 C.2.1 D rfl h k
theorem so_iload (C : zCx mt p l e R s m args below meth c G L xs cc own rt cl d n0 nf Q Qp) {k : Nat} (D : decode cc pc = .ok (.iload k, 2)) : zSd p l e R s m args below meth c G L xs cl n0 nf Q Qp pc (o_iload k 2) := so_iload0 fun h k => lv_iload C.1 C.2.1 D h k
theorem so_lload_n (C : zCx mt p l e R s m args below meth c G L xs cc own rt cl d n0 nf Q Qp) {k : Fin 4} (D : decode cc pc = .ok (.lload_n k, 1)) : zSd p l e R s m args below meth c G L xs cl n0 nf Q Qp pc (o_lload k 1) := so_lload0 fun h k => lv_lload_n C.1 C.2.1 D rfl h k
theorem so_lload (C : zCx mt p l e R s m args below meth c G L xs cc own rt cl d n0 nf Q Qp) {k : Nat} (D : decode cc pc = .ok (.lload k, 2)) : zSd p l e R s m args below meth c G L xs cl n0 nf Q Qp pc (o_lload k 2) := so_lload0 fun h k => lv_lload C.1 C.2.1 D h k
theorem so_aload_n (C : zCx mt p l e R s m args below meth c G L xs cc own rt cl d n0 nf Q Qp) {k : Fin 4} (D : decode cc pc = .ok (.aload_n k, 1)) : zSd p l e R s m args below meth c G L xs cl n0 nf Q Qp pc (o_aload k 1) := so_aload0 fun h k => lv_aload_n C.1 C.2.1 D rfl h k
theorem so_aload (C : zCx mt p l e R s m args below meth c G L xs cc own rt cl d n0 nf Q Qp) {k : Nat} (D : decode cc pc = .ok (.aload k, 2)) : zSd p l e R s m args below meth c G L xs cl n0 nf Q Qp pc (o_aload k 2) := so_aload0 fun h k => lv_aload C.1 C.2.1 D h k
-- stores
theorem zlt {G : zG} {nL i : Nat} {ls : zL} {lsm : Array Slot} {v : Value} (h : zLr G nL ls lsm) (hi : ls[i]? = some (some v)) : i < nL := by
  have := (List.getElem?_eq_some_iff.mp hi).1
  rwa [h.2.2.1] at this
theorem so_istore0 {i n : Nat} (hi : i < c.maxLocals) (row : ∀ {H : Heap} {locs : List Loc} {cells slots : Nat} {ls : Array Slot} {rest : List Value} {x : Int32} {lv : List (Nat × Value)}, lv_has ls c.maxLocals lv → (∀ ls' : Array Slot, lv_has ls' c.maxLocals ((i, Value.int x) :: lv.filter (fun q => !(q.1 == i) && !(q.1 + 1 == i && q.2.category == 2))) → W p l e R s m args below meth c H locs cells slots Q (F0 m (pc + n) ls' rest)) → W p l e R s m args below meth c H locs cells slots Q (F0 m pc ls (.int x :: rest))) : zSd p l e R s m args below meth c G L xs cl n0 nf Q Qp pc (o_istore i n) := by
  intro ls st w K h hK _ lsm H locs h1 h2 h3 h4
  unfold o_istore at h
  dsimp only at h
  split at h
  · rename_i x t
    obtain ⟨g, h⟩ := h
    exact row (zLr_has h1) fun ls' h' => hK _ h ls' H locs (zLr_set1 (v := .int x) h1.2.2.1 g h') h2 h3 h4
  · exact h.elim
theorem so_astore0 {i n : Nat} (hi : i < c.maxLocals) (row : ∀ {H : Heap} {locs : List Loc} {cells slots : Nat} {ls : Array Slot} {rest : List Value} {x : Nat} {lv : List (Nat × Value)}, lv_has ls c.maxLocals lv → (∀ ls' : Array Slot, lv_has ls' c.maxLocals ((i, Value.ref x) :: lv.filter (fun q => !(q.1 == i) && !(q.1 + 1 == i && q.2.category == 2))) → W p l e R s m args below meth c H locs cells slots Q (F0 m (pc + n) ls' rest)) → W p l e R s m args below meth c H locs cells slots Q (F0 m pc ls (.ref x :: rest))) : zSd p l e R s m args below meth c G L xs cl n0 nf Q Qp pc (o_astore i n) := by
  intro ls st w K h hK _ lsm H locs h1 h2 h3 h4
  unfold o_astore at h
  dsimp only at h
  split at h
  · rename_i x t
    obtain ⟨g, h⟩ := h
    exact row (zLr_has h1) fun ls' h' => hK _ h ls' H locs (zLr_set1 (v := .ref x) h1.2.2.1 g h') h2 h3 h4
  · exact h.elim
theorem so_lstore0 {i n : Nat} (hi : i + 1 < c.maxLocals) (row : ∀ {H : Heap} {locs : List Loc} {cells slots : Nat} {ls : Array Slot} {rest : List Value} {x : Int64} {lv : List (Nat × Value)}, lv_has ls c.maxLocals lv → (∀ ls' : Array Slot, lv_has ls' c.maxLocals ((i, Value.long x) :: lv.filter (fun q => !(q.1 == i) && (!(q.1 == i + 1) && !(q.1 + 1 == i && q.2.category == 2)))) → W p l e R s m args below meth c H locs cells slots Q (F0 m (pc + n) ls' rest)) → W p l e R s m args below meth c H locs cells slots Q (F0 m pc ls (.long x :: rest))) : zSd p l e R s m args below meth c G L xs cl n0 nf Q Qp pc (o_lstore i n) := by
  intro ls st w K h hK _ lsm H locs h1 h2 h3 h4
  unfold o_lstore at h
  dsimp only at h
  split at h
  · rename_i x t
    obtain ⟨g, h⟩ := h
    exact row (zLr_has h1) fun ls' h' => hK _ h ls' H locs (zLr_set2 (v := .long x) h1.2.2.1 g h') h2 h3 h4
  · exact h.elim
theorem so_istore_n (C : zCx mt p l e R s m args below meth c G L xs cc own rt cl d n0 nf Q Qp) {k : Fin 4} (D : decode cc pc = .ok (.istore_n k, 1)) (hi : (k : Nat) < c.maxLocals) : zSd p l e R s m args below meth c G L xs cl n0 nf Q Qp pc (o_istore k 1) := so_istore0 hi fun h k => lv_istore_n C.1 C.2.1 D rfl h hi rfl k
theorem so_istore (C : zCx mt p l e R s m args below meth c G L xs cc own rt cl d n0 nf Q Qp) {k : Nat} (D : decode cc pc = .ok (.istore k, 2)) (hi : k < c.maxLocals) : zSd p l e R s m args below meth c G L xs cl n0 nf Q Qp pc (o_istore k 2) := so_istore0 hi fun h k => lv_istore C.1 C.2.1 D h hi rfl k
theorem so_astore_n (C : zCx mt p l e R s m args below meth c G L xs cc own rt cl d n0 nf Q Qp) {k : Fin 4} (D : decode cc pc = .ok (.astore_n k, 1)) (hi : (k : Nat) < c.maxLocals) : zSd p l e R s m args below meth c G L xs cl n0 nf Q Qp pc (o_astore k 1) := so_astore0 hi fun h k => lv_astore_n C.1 C.2.1 D rfl h hi rfl k
theorem so_astore (C : zCx mt p l e R s m args below meth c G L xs cc own rt cl d n0 nf Q Qp) {k : Nat} (D : decode cc pc = .ok (.astore k, 2)) (hi : k < c.maxLocals) : zSd p l e R s m args below meth c G L xs cl n0 nf Q Qp pc (o_astore k 2) := so_astore0 hi fun h k => lv_astore C.1 C.2.1 D h hi rfl k
theorem so_lstore_n (C : zCx mt p l e R s m args below meth c G L xs cc own rt cl d n0 nf Q Qp) {k : Fin 4} (D : decode cc pc = .ok (.lstore_n k, 1)) (hi : (k : Nat) + 1 < c.maxLocals) : zSd p l e R s m args below meth c G L xs cl n0 nf Q Qp pc (o_lstore k 1) := so_lstore0 hi fun h k => lv_lstore_n C.1 C.2.1 D rfl h hi rfl k
theorem so_lstore (C : zCx mt p l e R s m args below meth c G L xs cc own rt cl d n0 nf Q Qp) {k : Nat} (D : decode cc pc = .ok (.lstore k, 2)) (hi : k + 1 < c.maxLocals) : zSd p l e R s m args below meth c G L xs cl n0 nf Q Qp pc (o_lstore k 2) := so_lstore0 hi fun h k => lv_lstore C.1 C.2.1 D h hi rfl k
theorem so_iinc (C : zCx mt p l e R s m args below meth c G L xs cc own rt cl d n0 nf Q Qp) {i : Nat} {n : Int} {v : Int32} (D : decode cc pc = .ok (.iinc i n, 3)) (hv : Int32.ofInt n = v) : zSd p l e R s m args below meth c G L xs cl n0 nf Q Qp pc (o_iinc i v) := by
  intro ls st w K h hK _ lsm H locs h1 h2 h3 h4
  unfold o_iinc at h
  dsimp only at h
  split at h
  · rename_i x hx
    obtain ⟨g, h⟩ := h
    obtain ⟨k, hk⟩ := zLr_place h1 hx
    exact lv_iinc (v := x + v) C.1 C.2.1 D (zLr_has h1) (k := k) hk (by rw [hv]) (zlt h1 hx) rfl fun ls' h' => hK _ h ls' H locs (zLr_set1 (v := .int (x + v)) h1.2.2.1 g h') h2 h3 h4
  · exact h.elim
end ZS
