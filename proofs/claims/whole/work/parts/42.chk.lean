/-! ===== String.checkIndex: a static field of the JDK, a call of the JDK ===== -/
abbrev chkM : MethodName := ⟨"jdk/internal/util/Preconditions", "checkIndex", "(IILjava/util/function/BiFunction;)I"⟩
theorem chk_met {l : Launch} {G : zG} {L : Nat} {xs : Nat → Int32} {w : zW} {i n : Int32} {v : Value} (hv : v = .null ∨ ∃ a : Nat, v = .ref a) (hi : 0 ≤ i ∧ i < n) {mc ms : Nat} (hm : mc = 0) (hs : ms = 0) : Met l chkM (Cond.code chkM prog_16_method_11_code 3 (some .int) :: zGw) (zrm 0 mc ms) (va_Pc [.int i, .int n, v] (fun U => zRl G L xs w U.heap ∧ zE G L xs U)) (zQc G L xs (some (.int i)) w) mc ms (zA0 G) := by
  subst hm
  subst hs
  refine Met.ofW (cc := prog_16_method_11_code) (maxL := 3) (ret := some .int) (by decide) rfl ?_
  intro p e s m args below meth c s₁ B hml hv'
  obtain ⟨rfl, hrl, hE⟩ := hv'
  have hr := B.returns
  have e0 : entryFrame m ([.int i, .int n, v] : List Value).toArray 3 = F0 m 0 #[.val (.int i), .val (.int n), .val v] [] := by
    rw [lg_entry_eq]
    rcases hv with rfl | ⟨a, rfl⟩ <;> rfl
  rw [e0]
  refine lv_iload_n B.exec B.bytes (show decode prog_16_method_11_code 0 = .ok (.iload_n 0, 1) by decide +kernel) rfl (x := i) rfl ?_
  refine lv_if_lt B.exec B.bytes (show decode prog_16_method_11_code 1 = .ok (.ifCond .lt 8, 3) by decide +kernel) (tgt := 9) (by decide) (fun h => absurd h (Int32.not_lt.mpr hi.1)) fun _ => ?_
  refine lv_iload_n B.exec B.bytes (show decode prog_16_method_11_code 4 = .ok (.iload_n 0, 1) by decide +kernel) rfl (x := i) rfl ?_
  refine lv_iload_n B.exec B.bytes (show decode prog_16_method_11_code 5 = .ok (.iload_n 1, 1) by decide +kernel) rfl (x := n) rfl ?_
  refine lv_icmp_lt B.exec B.bytes (show decode prog_16_method_11_code 6 = .ok (.if_icmp .lt 10, 3) by decide +kernel) (tgt := 16) (by decide) (fun _ => ?_) (fun h => absurd hi.2 h)
  refine lv_iload_n B.exec B.bytes (show decode prog_16_method_11_code 16 = .ok (.iload_n 0, 1) by decide +kernel) rfl (x := i) rfl ?_
  exact W.zret B.exec B.bytes hr rfl (fun t ht _ => ⟨rfl, by rw [ht]; exact hrl, va_S.rf.F ht⟩) (fun q hq => by cases hq) (show decode prog_16_method_11_code 17 = .ok (.ireturn, 1) by decide +kernel) B.notSynchronized
theorem zx22 {d f : Nat} (h2 : 60 * (d + 1) ≤ f) : 8 + (3 + 11) + 60 * 0 ≤ f := by omega
section ZS
variable {p : Program} {l : Launch} {e : Env} {R : Room} {s : State} {m : MethodId} {args : Array Value} {below : List Frame} {meth : Method} {c : Code} {G : zG} {L : Nat} {xs : Nat → Int32} {cc : ByteArray} {own : String} {rt : Option FieldType} {cl : zA} {d n0 nf pc : Nat} {Q : State → Prop} {Qp : Option Value → zW → Prop}
theorem so_chk (C : zCx zmt p l e R s m args below meth c G L xs cc own rt cl d n0 nf Q Qp) {j1 j2 : Nat} (D1 : decode cc pc = .ok (.getstatic j1, 3)) (D2 : decode cc (pc + 3) = .ok (.invokestatic j2, 3)) (hf : Cond.fieldLink own j1 "jdk/internal/util/Preconditions" "SIOOBE_FORMATTER" "Ljava/util/function/BiFunction;" ∈ zGw) (hw : Cond.methodLink own j2 chkM ∈ zGw) (hs : Cond.static chkM ∈ zGw) (hi : Cond.initialized chkM.cls ∈ zGw) (hc : Cond.code chkM prog_16_method_11_code 3 (some .int) ∈ zGw) : zSd p l e R s m args below meth c G L xs cl n0 nf Q Qp pc o_chk := by
  intro ls st w K h hK hle lsm H locs h1 h2 h3 h4
  unfold o_chk at h
  dsimp only at h
  split at h
  · rename_i n i t
    obtain ⟨g, h⟩ := h
    obtain ⟨gi, gt⟩ := Bool.and_eq_true_iff.mp g
    have hn := hle _ h
    have key : ∀ v : Value, (v = .null ∨ ∃ a : Nat, v = .ref a) → W p l e R s m args below meth c H locs (w.2.2.2 - n0) (zsl w.2.2.2 - zsl n0) Q (F0 m (pc + 3) lsm (v :: .int n :: .int i :: t.map (ztr G))) := by
      intro v hv
      refine zback C (as := [.int i]) (w := w) (w1 := w) (r := some (.int i)) (ls := ls) (t := t) (a := #[.int i, .int n, v]) h1 h3 h4 (Nat.le_refl _) ?_ (hK _ h)
      exact va_runS (As := [.int i, .int n, v]) (rest := t.map (ztr G)) (n := 3) ⟨C.1, C.2.1, rfl, C.2.2.1, C.2.2.2.1⟩ (chk_met hv (of_decide_eq_true gi) (Nat.sub_self _) (Nat.sub_self _)) ⟨callB_of (ret := some .int) 3 C.2.2.2.1 (zGw_good (fun w hw => (List.mem_cons.mp hw).elim (fun e => by rw [e]; exact hc) (fun q => q))) rfl rfl rfl (C.2.2.2.1 _ hi) (C.2.2.2.1 _ hw) ⟨by decide, by decide, by decide +kernel⟩ ⟨Nat.le_trans (Nat.succ_le_succ (Nat.zero_le _)) C.2.2.2.2.2.2.1.1, zx22 C.2.2.2.2.2.2.1.2.1⟩, C.2.2.2.1 _ hs⟩ ⟨fun a U g mk h => ⟨h.1, h.2.1, zE_same (s := U) (U := U.calling g mk a) rfl rfl h.2.2⟩, fun U hU hW => ⟨rfl, by rw [hU]; exact h2, zE_warm hW (by rw [hU]; exact h3.2.1) C.2.2.2.2.1⟩⟩ rfl rfl h1.1 rfl (lv_room (zroom8 gt)) D2 ⟨zx20 h4 (Nat.le_refl _) hn C.2.2.2.2.2.2.1.2.2.1, zx21 h4 (Nat.le_refl _) hn C.2.2.2.2.2.2.1.2.2.2⟩
    rcases C.2.2.2.2.1.2.2.2.2.2.2.2.2.2.2.2 with hZ | ⟨a, hZ⟩
    · exact va_gets C.1 C.2.1 hZ h3 C.2.2.1 (C.2.2.2.1 _ hf) (fun _ q => q) D1 (key _ (.inl rfl))
    · exact va_gets C.1 C.2.1 hZ h3 C.2.2.1 (C.2.2.2.1 _ hf) (fun _ q => q) D1 (key _ (.inr ⟨a, rfl⟩))
  · exact h.elim
end ZS
