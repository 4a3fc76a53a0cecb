section ZS
variable {p : Program} {l : Launch} {e : Env} {R : Room} {s : State} {m : MethodId} {args : Array Value} {below : List Frame} {meth : Method} {c : Code} {G : zG} {L : Nat} {xs : Nat → Int32} {cc : ByteArray} {own : String} {rt : Option FieldType} {cl : zA} {d n0 nf pc : Nat} {Q : State → Prop} {Qp : Option Value → zW → Prop} {mt : zA → Nat → Prop}
theorem so_ii0 {f : Int32 → Int32 → Int32} (row : ∀ {H : Heap} {locs : List Loc} {cells slots : Nat} {ls : Array Slot} {rest : List Value} {x y : Int32}, W p l e R s m args below meth c H locs cells slots Q (F0 m (pc + 1) ls (.int (f x y) :: rest)) → W p l e R s m args below meth c H locs cells slots Q (F0 m pc ls (.int y :: .int x :: rest))) : zSd p l e R s m args below meth c G L xs cl n0 nf Q Qp pc (o_ii f) := by
  intro ls st w K h hK _ lsm H locs h1 h2 h3 h4
  unfold o_ii at h
  dsimp only at h
  split at h
  · exact row (hK _ h lsm H locs h1 h2 h3 h4)
  · exact h.elim
theorem so_iadd (C : zCx mt p l e R s m args below meth c G L xs cc own rt cl d n0 nf Q Qp) (D : decode cc pc = .ok (.iadd, 1)) : zSd p l e R s m args below meth c G L xs cl n0 nf Q Qp pc (o_ii (fun x y => x + y)) := so_ii0 fun k => lv_iadd C.1 C.2.1 D k
theorem so_isub (C : zCx mt p l e R s m args below meth c G L xs cc own rt cl d n0 nf Q Qp) (D : decode cc pc = .ok (.isub, 1)) : zSd p l e R s m args below meth c G L xs cl n0 nf Q Qp pc (o_ii (fun x y => x - y)) := so_ii0 fun k => lv_isub C.1 C.2.1 D k
theorem so_imul (C : zCx mt p l e R s m args below meth c G L xs cc own rt cl d n0 nf Q Qp) (D : decode cc pc = .ok (.imul, 1)) : zSd p l e R s m args below meth c G L xs cl n0 nf Q Qp pc (o_ii (fun x y => x * y)) := so_ii0 fun k => lv_imul C.1 C.2.1 D k
theorem so_iand (C : zCx mt p l e R s m args below meth c G L xs cc own rt cl d n0 nf Q Qp) (D : decode cc pc = .ok (.iand, 1)) : zSd p l e R s m args below meth c G L xs cl n0 nf Q Qp pc (o_ii (fun x y => x &&& y)) := so_ii0 fun k => lv_iand C.1 C.2.1 D k
theorem so_ior (C : zCx mt p l e R s m args below meth c G L xs cc own rt cl d n0 nf Q Qp) (D : decode cc pc = .ok (.ior, 1)) : zSd p l e R s m args below meth c G L xs cl n0 nf Q Qp pc (o_ii (fun x y => x ||| y)) := so_ii0 fun k => lv_ior C.1 C.2.1 D k
theorem so_ixor (C : zCx mt p l e R s m args below meth c G L xs cc own rt cl d n0 nf Q Qp) (D : decode cc pc = .ok (.ixor, 1)) : zSd p l e R s m args below meth c G L xs cl n0 nf Q Qp pc (o_ii (fun x y => x ^^^ y)) := so_ii0 fun k => lv_ixor C.1 C.2.1 D k
theorem so_ishl (C : zCx mt p l e R s m args below meth c G L xs cc own rt cl d n0 nf Q Qp) (D : decode cc pc = .ok (.ishl, 1)) : zSd p l e R s m args below meth c G L xs cl n0 nf Q Qp pc (o_ii (fun x y => x <<< (y &&& 31))) := so_ii0 fun k => lv_ishl C.1 C.2.1 D k
theorem so_ishr (C : zCx mt p l e R s m args below meth c G L xs cc own rt cl d n0 nf Q Qp) (D : decode cc pc = .ok (.ishr, 1)) : zSd p l e R s m args below meth c G L xs cl n0 nf Q Qp pc (o_ii (fun x y => x >>> (y &&& 31))) := so_ii0 fun k => lv_ishr C.1 C.2.1 D k
theorem so_dv0 {f : Int32 → Int32 → Int32} (row : ∀ {H : Heap} {locs : List Loc} {cells slots : Nat} {ls : Array Slot} {rest : List Value} {x y : Int32}, ¬ y = 0 → W p l e R s m args below meth c H locs cells slots Q (F0 m (pc + 1) ls (.int (f x y) :: rest)) → W p l e R s m args below meth c H locs cells slots Q (F0 m pc ls (.int y :: .int x :: rest))) : zSd p l e R s m args below meth c G L xs cl n0 nf Q Qp pc (o_dv f) := by
  intro ls st w K h hK _ lsm H locs h1 h2 h3 h4
  unfold o_dv at h
  dsimp only at h
  split at h
  · exact row (of_decide_eq_true h.1) (hK _ h.2 lsm H locs h1 h2 h3 h4)
  · exact h.elim
theorem so_idiv (C : zCx mt p l e R s m args below meth c G L xs cc own rt cl d n0 nf Q Qp) (D : decode cc pc = .ok (.idiv, 1)) : zSd p l e R s m args below meth c G L xs cl n0 nf Q Qp pc (o_dv (fun x y => x / y)) := so_dv0 fun h k => lv_idiv C.1 C.2.1 D h k
theorem so_irem (C : zCx mt p l e R s m args below meth c G L xs cc own rt cl d n0 nf Q Qp) (D : decode cc pc = .ok (.irem, 1)) : zSd p l e R s m args below meth c G L xs cl n0 nf Q Qp pc (o_dv (fun x y => x - x / y * y)) := so_dv0 fun h k => lv_irem C.1 C.2.1 D h k
theorem so_i0 {f : Int32 → Int32} (row : ∀ {H : Heap} {locs : List Loc} {cells slots : Nat} {ls : Array Slot} {rest : List Value} {x : Int32}, W p l e R s m args below meth c H locs cells slots Q (F0 m (pc + 1) ls (.int (f x) :: rest)) → W p l e R s m args below meth c H locs cells slots Q (F0 m pc ls (.int x :: rest))) : zSd p l e R s m args below meth c G L xs cl n0 nf Q Qp pc (o_i f) := by
  intro ls st w K h hK _ lsm H locs h1 h2 h3 h4
  unfold o_i at h
  dsimp only at h
  split at h
  · exact row (hK _ h lsm H locs h1 h2 h3 h4)
  · exact h.elim
theorem so_ineg (C : zCx mt p l e R s m args below meth c G L xs cc own rt cl d n0 nf Q Qp) (D : decode cc pc = .ok (.ineg, 1)) : zSd p l e R s m args below meth c G L xs cl n0 nf Q Qp pc (o_i (fun x => -x)) := so_i0 fun k => lv_ineg C.1 C.2.1 D k
theorem so_i2b (C : zCx mt p l e R s m args below meth c G L xs cc own rt cl d n0 nf Q Qp) (D : decode cc pc = .ok (.i2b, 1)) : zSd p l e R s m args below meth c G L xs cl n0 nf Q Qp pc (o_i (fun x => x.toInt8.toInt32)) := so_i0 fun k => lv_i2b C.1 C.2.1 D rfl k
theorem so_i2s (C : zCx mt p l e R s m args below meth c G L xs cc own rt cl d n0 nf Q Qp) (D : decode cc pc = .ok (.i2s, 1)) : zSd p l e R s m args below meth c G L xs cl n0 nf Q Qp pc (o_i (fun x => x.toInt16.toInt32)) := so_i0 fun k => lv_i2s C.1 C.2.1 D rfl k
theorem so_i2c (C : zCx mt p l e R s m args below meth c G L xs cc own rt cl d n0 nf Q Qp) (D : decode cc pc = .ok (.i2c, 1)) : zSd p l e R s m args below meth c G L xs cl n0 nf Q Qp pc (o_i (fun x => (x.toUInt32 % 65536).toInt32)) := so_i0 fun k => lv_i2c C.1 C.2.1 D rfl k
theorem so_ll0 {f : Int64 → Int64 → Int64} (row : ∀ {H : Heap} {locs : List Loc} {cells slots : Nat} {ls : Array Slot} {rest : List Value} {x y : Int64}, W p l e R s m args below meth c H locs cells slots Q (F0 m (pc + 1) ls (.long (f x y) :: rest)) → W p l e R s m args below meth c H locs cells slots Q (F0 m pc ls (.long y :: .long x :: rest))) : zSd p l e R s m args below meth c G L xs cl n0 nf Q Qp pc (o_ll f) := by
  intro ls st w K h hK _ lsm H locs h1 h2 h3 h4
  unfold o_ll at h
  dsimp only at h
  split at h
  · exact row (hK _ h lsm H locs h1 h2 h3 h4)
  · exact h.elim
theorem so_ladd (C : zCx mt p l e R s m args below meth c G L xs cc own rt cl d n0 nf Q Qp) (D : decode cc pc = .ok (.ladd, 1)) : zSd p l e R s m args below meth c G L xs cl n0 nf Q Qp pc (o_ll (fun x y => x + y)) := so_ll0 fun k => lv_ladd C.1 C.2.1 D k
theorem so_land (C : zCx mt p l e R s m args below meth c G L xs cc own rt cl d n0 nf Q Qp) (D : decode cc pc = .ok (.land, 1)) : zSd p l e R s m args below meth c G L xs cl n0 nf Q Qp pc (o_ll (fun x y => x &&& y)) := so_ll0 fun k => lv_land C.1 C.2.1 D k
theorem so_lor (C : zCx mt p l e R s m args below meth c G L xs cc own rt cl d n0 nf Q Qp) (D : decode cc pc = .ok (.lor, 1)) : zSd p l e R s m args below meth c G L xs cl n0 nf Q Qp pc (o_ll (fun x y => x ||| y)) := so_ll0 fun k => lv_lor C.1 C.2.1 D k
theorem so_lshl (C : zCx mt p l e R s m args below meth c G L xs cc own rt cl d n0 nf Q Qp) (D : decode cc pc = .ok (.lshl, 1)) : zSd p l e R s m args below meth c G L xs cl n0 nf Q Qp pc (o_lshl) := by
  intro ls st w K h hK _ lsm H locs h1 h2 h3 h4
  unfold o_lshl at h
  dsimp only at h
  split at h
  · exact lv_lshl C.1 C.2.1 D rfl (hK _ h lsm H locs h1 h2 h3 h4)
  · exact h.elim
theorem so_lcmp (C : zCx mt p l e R s m args below meth c G L xs cc own rt cl d n0 nf Q Qp) (D : decode cc pc = .ok (.lcmp, 1)) : zSd p l e R s m args below meth c G L xs cl n0 nf Q Qp pc (o_lcmp) := by
  intro ls st w K h hK _ lsm H locs h1 h2 h3 h4
  unfold o_lcmp at h
  dsimp only at h
  split at h
  · exact W.lcmp C.1 C.2.1 D (hK _ h lsm H locs h1 h2 h3 h4)
  · exact h.elim
theorem so_i2l (C : zCx mt p l e R s m args below meth c G L xs cc own rt cl d n0 nf Q Qp) (D : decode cc pc = .ok (.i2l, 1)) : zSd p l e R s m args below meth c G L xs cl n0 nf Q Qp pc (o_i2l) := by
  intro ls st w K h hK _ lsm H locs h1 h2 h3 h4
  unfold o_i2l at h
  dsimp only at h
  split at h
  · exact lv_i2l C.1 C.2.1 D rfl (hK _ h lsm H locs h1 h2 h3 h4)
  · exact h.elim
theorem so_l2i (C : zCx mt p l e R s m args below meth c G L xs cc own rt cl d n0 nf Q Qp) (D : decode cc pc = .ok (.l2i, 1)) : zSd p l e R s m args below meth c G L xs cl n0 nf Q Qp pc (o_l2i) := by
  intro ls st w K h hK _ lsm H locs h1 h2 h3 h4
  unfold o_l2i at h
  dsimp only at h
  split at h
  · exact lv_l2i C.1 C.2.1 D rfl (hK _ h lsm H locs h1 h2 h3 h4)
  · exact h.elim
theorem zc1_cat {G : zG} {v : Value} (h : zc1 v = true) : (ztr G v).category = 1 := by cases v <;> first | rfl | exact Bool.noConfusion h
theorem so_dup (C : zCx mt p l e R s m args below meth c G L xs cc own rt cl d n0 nf Q Qp) (D : decode cc pc = .ok (.dup, 1)) : zSd p l e R s m args below meth c G L xs cl n0 nf Q Qp pc (o_dup) := by
  intro ls st w K h hK _ lsm H locs h1 h2 h3 h4
  unfold o_dup at h
  dsimp only at h
  split at h
  · exact lv_dup C.1 C.2.1 D (zc1_cat h.1) (hK _ h.2 lsm H locs h1 h2 h3 h4)
  · exact h.elim
theorem so_pop (C : zCx mt p l e R s m args below meth c G L xs cc own rt cl d n0 nf Q Qp) (D : decode cc pc = .ok (.pop, 1)) : zSd p l e R s m args below meth c G L xs cl n0 nf Q Qp pc (o_pop) := by
  intro ls st w K h hK _ lsm H locs h1 h2 h3 h4
  unfold o_pop at h
  dsimp only at h
  split at h
  · exact lv_pop C.1 C.2.1 D (zc1_cat h.1) (hK _ h.2 lsm H locs h1 h2 h3 h4)
  · exact h.elim
theorem so_dup2 (C : zCx mt p l e R s m args below meth c G L xs cc own rt cl d n0 nf Q Qp) (D : decode cc pc = .ok (.dup2, 1)) : zSd p l e R s m args below meth c G L xs cl n0 nf Q Qp pc (o_dup2) := by
  intro ls st w K h hK _ lsm H locs h1 h2 h3 h4
  unfold o_dup2 at h
  dsimp only at h
  split at h
  · exact lv_dup2_11 C.1 C.2.1 D (zc1_cat (Bool.and_eq_true_iff.mp h.1).1) (zc1_cat (Bool.and_eq_true_iff.mp h.1).2) (hK _ h.2 lsm H locs h1 h2 h3 h4)
  · exact h.elim
theorem so_goto (C : zCx mt p l e R s m args below meth c G L xs cc own rt cl d n0 nf Q Qp) {off : Int} {t : Nat} (D : decode cc pc = .ok (.goto off, 3)) (ht : (pc : Int) + off = (t : Int)) : zSd p l e R s m args below meth c G L xs cl n0 nf Q Qp pc (o_goto t) := fun ls st w K h hK _ lsm H locs h1 h2 h3 h4 => lv_goto C.1 C.2.1 D ht (hK _ h lsm H locs h1 h2 h3 h4)
theorem so_if_eq (C : zCx mt p l e R s m args below meth c G L xs cc own rt cl d n0 nf Q Qp) {off : Int} {t : Nat} (D : decode cc pc = .ok (.ifCond .eq off, 3)) (ht : (pc : Int) + off = (t : Int)) : zSd p l e R s m args below meth c G L xs cl n0 nf Q Qp pc (o_if z_eq t) := by
  intro ls st w K h hK _ lsm H locs h1 h2 h3 h4
  unfold o_if at h
  dsimp only at h
  split at h
  · exact lv_if_eq C.1 C.2.1 D ht (fun q => hK _ (h.1 (decide_eq_true q)) lsm H locs h1 h2 h3 h4) (fun q => hK _ (h.2 (decide_eq_false q)) lsm H locs h1 h2 h3 h4)
  · exact h.elim
theorem so_ic_eq (C : zCx mt p l e R s m args below meth c G L xs cc own rt cl d n0 nf Q Qp) {off : Int} {t : Nat} (D : decode cc pc = .ok (.if_icmp .eq off, 3)) (ht : (pc : Int) + off = (t : Int)) : zSd p l e R s m args below meth c G L xs cl n0 nf Q Qp pc (o_ic z_ceq t) := by
  intro ls st w K h hK _ lsm H locs h1 h2 h3 h4
  unfold o_ic at h
  dsimp only at h
  split at h
  · exact lv_icmp_eq C.1 C.2.1 D ht (fun q => hK _ (h.1 (decide_eq_true q)) lsm H locs h1 h2 h3 h4) (fun q => hK _ (h.2 (decide_eq_false q)) lsm H locs h1 h2 h3 h4)
  · exact h.elim
theorem so_if_ne (C : zCx mt p l e R s m args below meth c G L xs cc own rt cl d n0 nf Q Qp) {off : Int} {t : Nat} (D : decode cc pc = .ok (.ifCond .ne off, 3)) (ht : (pc : Int) + off = (t : Int)) : zSd p l e R s m args below meth c G L xs cl n0 nf Q Qp pc (o_if z_ne t) := by
  intro ls st w K h hK _ lsm H locs h1 h2 h3 h4
  unfold o_if at h
  dsimp only at h
  split at h
  · exact lv_if_ne C.1 C.2.1 D ht (fun q => hK _ (h.1 (decide_eq_true q)) lsm H locs h1 h2 h3 h4) (fun q => hK _ (h.2 (decide_eq_false (fun z => z q))) lsm H locs h1 h2 h3 h4)
  · exact h.elim
theorem so_ic_ne (C : zCx mt p l e R s m args below meth c G L xs cc own rt cl d n0 nf Q Qp) {off : Int} {t : Nat} (D : decode cc pc = .ok (.if_icmp .ne off, 3)) (ht : (pc : Int) + off = (t : Int)) : zSd p l e R s m args below meth c G L xs cl n0 nf Q Qp pc (o_ic z_cne t) := by
  intro ls st w K h hK _ lsm H locs h1 h2 h3 h4
  unfold o_ic at h
  dsimp only at h
  split at h
  · exact lv_icmp_ne C.1 C.2.1 D ht (fun q => hK _ (h.1 (decide_eq_true q)) lsm H locs h1 h2 h3 h4) (fun q => hK _ (h.2 (decide_eq_false (fun z => z q))) lsm H locs h1 h2 h3 h4)
  · exact h.elim
theorem so_if_lt (C : zCx mt p l e R s m args below meth c G L xs cc own rt cl d n0 nf Q Qp) {off : Int} {t : Nat} (D : decode cc pc = .ok (.ifCond .lt off, 3)) (ht : (pc : Int) + off = (t : Int)) : zSd p l e R s m args below meth c G L xs cl n0 nf Q Qp pc (o_if z_lt t) := by
  intro ls st w K h hK _ lsm H locs h1 h2 h3 h4
  unfold o_if at h
  dsimp only at h
  split at h
  · exact lv_if_lt C.1 C.2.1 D ht (fun q => hK _ (h.1 (decide_eq_true q)) lsm H locs h1 h2 h3 h4) (fun q => hK _ (h.2 (decide_eq_false q)) lsm H locs h1 h2 h3 h4)
  · exact h.elim
theorem so_ic_lt (C : zCx mt p l e R s m args below meth c G L xs cc own rt cl d n0 nf Q Qp) {off : Int} {t : Nat} (D : decode cc pc = .ok (.if_icmp .lt off, 3)) (ht : (pc : Int) + off = (t : Int)) : zSd p l e R s m args below meth c G L xs cl n0 nf Q Qp pc (o_ic z_clt t) := by
  intro ls st w K h hK _ lsm H locs h1 h2 h3 h4
  unfold o_ic at h
  dsimp only at h
  split at h
  · exact lv_icmp_lt C.1 C.2.1 D ht (fun q => hK _ (h.1 (decide_eq_true q)) lsm H locs h1 h2 h3 h4) (fun q => hK _ (h.2 (decide_eq_false q)) lsm H locs h1 h2 h3 h4)
  · exact h.elim
theorem so_if_ge (C : zCx mt p l e R s m args below meth c G L xs cc own rt cl d n0 nf Q Qp) {off : Int} {t : Nat} (D : decode cc pc = .ok (.ifCond .ge off, 3)) (ht : (pc : Int) + off = (t : Int)) : zSd p l e R s m args below meth c G L xs cl n0 nf Q Qp pc (o_if z_ge t) := by
  intro ls st w K h hK _ lsm H locs h1 h2 h3 h4
  unfold o_if at h
  dsimp only at h
  split at h
  · exact lv_if_ge C.1 C.2.1 D ht (fun q => hK _ (h.1 (decide_eq_true q)) lsm H locs h1 h2 h3 h4) (fun q => hK _ (h.2 (decide_eq_false q)) lsm H locs h1 h2 h3 h4)
  · exact h.elim
theorem so_ic_ge (C : zCx mt p l e R s m args below meth c G L xs cc own rt cl d n0 nf Q Qp) {off : Int} {t : Nat} (D : decode cc pc = .ok (.if_icmp .ge off, 3)) (ht : (pc : Int) + off = (t : Int)) : zSd p l e R s m args below meth c G L xs cl n0 nf Q Qp pc (o_ic z_cge t) := by
  intro ls st w K h hK _ lsm H locs h1 h2 h3 h4
  unfold o_ic at h
  dsimp only at h
  split at h
  · exact lv_icmp_ge C.1 C.2.1 D ht (fun q => hK _ (h.1 (decide_eq_true q)) lsm H locs h1 h2 h3 h4) (fun q => hK _ (h.2 (decide_eq_false q)) lsm H locs h1 h2 h3 h4)
  · exact h.elim
theorem so_if_gt (C : zCx mt p l e R s m args below meth c G L xs cc own rt cl d n0 nf Q Qp) {off : Int} {t : Nat} (D : decode cc pc = .ok (.ifCond .gt off, 3)) (ht : (pc : Int) + off = (t : Int)) : zSd p l e R s m args below meth c G L xs cl n0 nf Q Qp pc (o_if z_gt t) := by
  intro ls st w K h hK _ lsm H locs h1 h2 h3 h4
  unfold o_if at h
  dsimp only at h
  split at h
  · exact lv_if_gt C.1 C.2.1 D ht (fun q => hK _ (h.1 (decide_eq_true q)) lsm H locs h1 h2 h3 h4) (fun q => hK _ (h.2 (decide_eq_false q)) lsm H locs h1 h2 h3 h4)
  · exact h.elim
theorem so_ic_gt (C : zCx mt p l e R s m args below meth c G L xs cc own rt cl d n0 nf Q Qp) {off : Int} {t : Nat} (D : decode cc pc = .ok (.if_icmp .gt off, 3)) (ht : (pc : Int) + off = (t : Int)) : zSd p l e R s m args below meth c G L xs cl n0 nf Q Qp pc (o_ic z_cgt t) := by
  intro ls st w K h hK _ lsm H locs h1 h2 h3 h4
  unfold o_ic at h
  dsimp only at h
  split at h
  · exact lv_icmp_gt C.1 C.2.1 D ht (fun q => hK _ (h.1 (decide_eq_true q)) lsm H locs h1 h2 h3 h4) (fun q => hK _ (h.2 (decide_eq_false q)) lsm H locs h1 h2 h3 h4)
  · exact h.elim
theorem so_if_le (C : zCx mt p l e R s m args below meth c G L xs cc own rt cl d n0 nf Q Qp) {off : Int} {t : Nat} (D : decode cc pc = .ok (.ifCond .le off, 3)) (ht : (pc : Int) + off = (t : Int)) : zSd p l e R s m args below meth c G L xs cl n0 nf Q Qp pc (o_if z_le t) := by
  intro ls st w K h hK _ lsm H locs h1 h2 h3 h4
  unfold o_if at h
  dsimp only at h
  split at h
  · exact lv_if_le C.1 C.2.1 D ht (fun q => hK _ (h.1 (decide_eq_true q)) lsm H locs h1 h2 h3 h4) (fun q => hK _ (h.2 (decide_eq_false q)) lsm H locs h1 h2 h3 h4)
  · exact h.elim
theorem so_ic_le (C : zCx mt p l e R s m args below meth c G L xs cc own rt cl d n0 nf Q Qp) {off : Int} {t : Nat} (D : decode cc pc = .ok (.if_icmp .le off, 3)) (ht : (pc : Int) + off = (t : Int)) : zSd p l e R s m args below meth c G L xs cl n0 nf Q Qp pc (o_ic z_cle t) := by
  intro ls st w K h hK _ lsm H locs h1 h2 h3 h4
  unfold o_ic at h
  dsimp only at h
  split at h
  · exact lv_icmp_le C.1 C.2.1 D ht (fun q => hK _ (h.1 (decide_eq_true q)) lsm H locs h1 h2 h3 h4) (fun q => hK _ (h.2 (decide_eq_false q)) lsm H locs h1 h2 h3 h4)
  · exact h.elim
theorem zsw_in {x : Int32} {P : Nat → Prop} : ∀ (r : List (Int32 × Nat)) (d k : Nat), zsws x P r d → (∃ q ∈ r, x = q.1 ∧ k = q.2 ∧ ∀ z ∈ r, z.1 = q.1 → z.2 = q.2) → P k
  | [], _, _, _, ⟨_, h, _⟩ => by cases h
  | (a, t) :: r, d, k, h, ⟨q, hq, h1, h2, h3⟩ => by
    by_cases e : x = a
    · have := h3 (a, t) List.mem_cons_self (e.symm.trans h1)
      rw [h2, ← this]
      exact h.1 e
    · refine zsw_in r d k (h.2 e) ⟨q, ?_, h1, h2, fun z hz => h3 z (List.mem_cons_of_mem _ hz)⟩
      rcases List.mem_cons.mp hq with z | z
      · rw [z] at h1
        exact absurd h1 e
      · exact z
theorem zsw_out {x : Int32} {P : Nat → Prop} : ∀ (r : List (Int32 × Nat)) (d : Nat), zsws x P r d → (∀ q ∈ r, ¬ x = q.1) → P d
  | [], _, h, _ => h
  | (a, t) :: r, d, h, g => zsw_out r d (h.2 (g (a, t) List.mem_cons_self)) fun q hq => g q (List.mem_cons_of_mem _ hq)
/-- the rows that a tableswitch comes to: for each number from lo on, its offset; those of the default may be left out -/
def ztab (pc : Nat) (dflt lo : Int) (offs : List Int) (r : List (Int32 × Nat)) (dt : Nat) : Bool :=
  decide ((pc : Int) + dflt = dt) && ((List.range offs.length).all fun i => let t := ((pc : Int) + offs.getD i 0).toNat
    decide ((pc : Int) + offs.getD i 0 = t) && (r.any (fun q => decide (q.1.toInt = lo + i ∧ q.2 = t)) || (decide (t = dt) && r.all (fun q => decide (¬ q.1.toInt = lo + i))))) &&
  r.all (fun q => decide (lo ≤ q.1.toInt ∧ q.1.toInt < lo + offs.length) && r.all (fun z => decide (z.1 = q.1 → z.2 = q.2)))
theorem so_tsw (C : zCx mt p l e R s m args below meth c G L xs cc own rt cl d n0 nf Q Qp) {dflt lo hi : Int} {offs : Array Int} {len dt : Nat} {r : List (Int32 × Nat)} (D : decode cc pc = .ok (.tableswitch dflt lo hi offs, len)) (hn : hi + 1 - lo = offs.toList.length) (ht : ztab pc dflt lo offs.toList r dt = true) : zSd p l e R s m args below meth c G L xs cl n0 nf Q Qp pc (o_sw r dt) := by
  intro ls st w K h hK _ lsm H locs h1 h2 h3 h4
  unfold o_sw at h
  dsimp only at h
  split at h
  · rename_i x t
    unfold ztab at ht
    simp only [Bool.and_eq_true, decide_eq_true_eq, List.all_eq_true, List.mem_range, Bool.or_eq_true, List.any_eq_true] at ht
    obtain ⟨⟨hd, hi1⟩, hr⟩ := ht
    by_cases hlo : x.toInt < lo
    · refine lv_tableOut C.1 C.2.1 D (Or.inl hlo) hd (hK _ (zsw_out r dt h fun q hq e => ?_) lsm H locs h1 h2 h3 h4)
      have := (hr q hq).1
      rw [← e] at this
      omega
    by_cases hhi : hi < x.toInt
    · refine lv_tableOut C.1 C.2.1 D (Or.inr hhi) hd (hK _ (zsw_out r dt h fun q hq e => ?_) lsm H locs h1 h2 h3 h4)
      have := (hr q hq).1
      rw [← e] at this
      omega
    · have hb : (x.toInt - lo).toNat < offs.toList.length := by omega
      have hx : lo + ((x.toInt - lo).toNat : Int) = x.toInt := by omega
      have ho : offs[(x.toInt - lo).toNat]? = some (offs.toList.getD (x.toInt - lo).toNat 0) := by
        rw [← Array.getElem?_toList, List.getD_eq_getElem?_getD, List.getElem?_eq_getElem hb]
        rfl
      obtain ⟨g1, g2⟩ := hi1 _ hb
      refine lv_tableIn C.1 C.2.1 D hlo hhi ho g1 (hK (((pc : Int) + offs.toList.getD (x.toInt - lo).toNat 0).toNat, ls, t, w) ?_ lsm H locs h1 h2 h3 h4)
      rcases g2 with ⟨q, hq, q1, q2⟩ | ⟨q1, q2⟩
      · refine zsw_in (P := fun t_1 => K (t_1, ls, t, w)) r dt _ h ⟨q, hq, ?_, q2.symm, fun z hz => (hr q hq).2 z hz⟩
        rw [hx] at q1
        exact (Int32.toInt_inj.mp q1).symm
      · rw [q1]
        refine zsw_out (P := fun t_1 => K (t_1, ls, t, w)) r dt h fun q hq e => ?_
        have := q2 q hq
        rw [hx, e] at this
        exact this rfl
  · exact h.elim
/-- the rows that a lookupswitch comes to -/
def zlkp (pc : Nat) (dflt : Int) (ps : List (Int × Int)) (r : List (Int32 × Nat)) (dt : Nat) : Bool :=
  decide ((pc : Int) + dflt = dt) && decide (r.map (fun q => (q.1.toInt, (q.2 : Int))) = ps.map (fun q => (q.1, (pc : Int) + q.2))) && (ps.zip (ps.drop 1)).all (fun (a, next) => a.1 < next.1)
theorem zlk_go {x : Int32} {P : Nat → Prop} {pc dt : Nat} {dflt : Int} (hd : (pc : Int) + dflt = dt) : ∀ (ps : List (Int × Int)) (r : List (Int32 × Nat)), r.map (fun q => (q.1.toInt, (q.2 : Int))) = ps.map (fun q => (q.1, (pc : Int) + q.2)) → zsws x P r dt → ∃ t : Nat, (pc : Int) + Op.lookupswitch.offset ps dflt x.toInt = t ∧ P t
  | [], [], _, h => ⟨dt, hd, h⟩
  | [], _ :: _, e, _ => by cases e
  | _ :: _, [], e, _ => by cases e
  | (a, o) :: ps, (k, t) :: r, e, h => by
    simp only [List.map_cons, List.cons.injEq, Prod.mk.injEq] at e
    obtain ⟨⟨e1, e2⟩, e3⟩ := e
    by_cases z : x = k
    · refine ⟨t, ?_, h.1 z⟩
      rw [z, e1]
      simp [Op.lookupswitch.offset]
      omega
    · obtain ⟨t', g1, g2⟩ := zlk_go hd ps r e3 (h.2 z)
      exact ⟨t', by rw [lv_osw z e1]; exact g1, g2⟩
theorem so_lsw (C : zCx mt p l e R s m args below meth c G L xs cc own rt cl d n0 nf Q Qp) {dflt : Int} {ps : Array (Int × Int)} {len dt : Nat} {r : List (Int32 × Nat)} (D : decode cc pc = .ok (.lookupswitch dflt ps, len)) (hn : True) (ht : zlkp pc dflt ps.toList r dt = true) : zSd p l e R s m args below meth c G L xs cl n0 nf Q Qp pc (o_sw r dt) := by
  intro ls st w K h hK _ lsm H locs h1 h2 h3 h4
  unfold o_sw at h
  dsimp only at h
  split at h
  · rename_i x t
    unfold zlkp at ht
    simp only [Bool.and_eq_true, decide_eq_true_eq] at ht
    obtain ⟨⟨hd, hr⟩, hs⟩ := ht
    obtain ⟨t', g1, g2⟩ := zlk_go (P := fun t_1 => K (t_1, ls, t, w)) hd ps.toList r hr h
    exact lv_lookup C.1 C.2.1 D hs rfl g1 (hK _ g2 lsm H locs h1 h2 h3 h4)
  · exact h.elim
theorem so_ireturn (C : zCx mt p l e R s m args below meth c G L xs cc own rt cl d n0 nf Q Qp) (D : decode cc pc = .ok (.ireturn, 1)) (hr : rt = some .int) : zSd p l e R s m args below meth c G L xs cl n0 nf Q Qp pc (o_ireturn) := by
  intro ls st w K h hK _ lsm H locs h1 h2 h3 h4
  unfold o_ireturn at h
  dsimp only at h
  split at h
  · exact C.2.2.2.2.2.2.2.1 pc ls _ _ h.2 (Or.inl ⟨_, _, rfl, hr, rfl, D⟩) lsm H locs h1 h2 h3 h4
  · exact h.elim
theorem so_lreturn (C : zCx mt p l e R s m args below meth c G L xs cc own rt cl d n0 nf Q Qp) (D : decode cc pc = .ok (.lreturn, 1)) (hr : rt = some .long) : zSd p l e R s m args below meth c G L xs cl n0 nf Q Qp pc (o_lreturn) := by
  intro ls st w K h hK _ lsm H locs h1 h2 h3 h4
  unfold o_lreturn at h
  dsimp only at h
  split at h
  · exact C.2.2.2.2.2.2.2.1 pc ls _ _ h.2 (Or.inr (Or.inl ⟨_, rfl, hr, D⟩)) lsm H locs h1 h2 h3 h4
  · exact h.elim
theorem so_return (C : zCx mt p l e R s m args below meth c G L xs cc own rt cl d n0 nf Q Qp) (D : decode cc pc = .ok (.return_, 1)) (hr : rt = none) : zSd p l e R s m args below meth c G L xs cl n0 nf Q Qp pc (o_return) := by
  intro ls st w K h hK _ lsm H locs h1 h2 h3 h4
  unfold o_return at h
  dsimp only at h
  split at h
  · exact C.2.2.2.2.2.2.2.1 pc ls _ _ h.2 (Or.inr (Or.inr ⟨rfl, hr, D⟩)) lsm H locs h1 h2 h3 h4
  · exact h.elim
theorem zn_z {x : Int32} (h : z_rz x = true) : narrow .boolean (.int x) = .int x := by
  have h1 := of_decide_eq_true h
  rcases h1 with h1 | h1 <;> rw [h1] <;> decide +kernel
theorem zn_b {x : Int32} (h : z_rb x = true) : narrow .byte (.int x) = .int x := by
  have h1 := of_decide_eq_true h
  rw [h1]
  decide +kernel
theorem zn_c {x : Int32} (h : z_rc x = true) : narrow .char (.int x) = .int x := by
  have h1 := of_decide_eq_true h
  obtain ⟨j, hj, e⟩ := vp_in_of (n := 128) (vp_in_iff.mpr h1) (by decide)
  rw [e]
  exact (pk_charN (by omega)).1
theorem so_zreturn (C : zCx mt p l e R s m args below meth c G L xs cc own rt cl d n0 nf Q Qp) (D : decode cc pc = .ok (.ireturn, 1)) (hr : rt = some .boolean) : zSd p l e R s m args below meth c G L xs cl n0 nf Q Qp pc (o_nreturn z_rz) := by
  intro ls st w K h hK _ lsm H locs h1 h2 h3 h4
  unfold o_nreturn at h
  dsimp only at h
  split at h
  · exact C.2.2.2.2.2.2.2.1 pc ls _ _ h.2 (Or.inl ⟨_, _, rfl, hr, zn_z h.1, D⟩) lsm H locs h1 h2 h3 h4
  · exact h.elim
theorem so_breturn (C : zCx mt p l e R s m args below meth c G L xs cc own rt cl d n0 nf Q Qp) (D : decode cc pc = .ok (.ireturn, 1)) (hr : rt = some .byte) : zSd p l e R s m args below meth c G L xs cl n0 nf Q Qp pc (o_nreturn z_rb) := by
  intro ls st w K h hK _ lsm H locs h1 h2 h3 h4
  unfold o_nreturn at h
  dsimp only at h
  split at h
  · exact C.2.2.2.2.2.2.2.1 pc ls _ _ h.2 (Or.inl ⟨_, _, rfl, hr, zn_b h.1, D⟩) lsm H locs h1 h2 h3 h4
  · exact h.elim
theorem so_creturn (C : zCx mt p l e R s m args below meth c G L xs cc own rt cl d n0 nf Q Qp) (D : decode cc pc = .ok (.ireturn, 1)) (hr : rt = some .char) : zSd p l e R s m args below meth c G L xs cl n0 nf Q Qp pc (o_nreturn z_rc) := by
  intro ls st w K h hK _ lsm H locs h1 h2 h3 h4
  unfold o_nreturn at h
  dsimp only at h
  split at h
  · exact C.2.2.2.2.2.2.2.1 pc ls _ _ h.2 (Or.inl ⟨_, _, rfl, hr, zn_c h.1, D⟩) lsm H locs h1 h2 h3 h4
  · exact h.elim
end ZS
