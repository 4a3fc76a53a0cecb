/-! ===== the contract of every method, out of the pure machine's answer ===== -/
theorem zcut_nc (y : Nat) (c : zC) : (zcut y c).2.2.2.2.2.2 = c.2.2.2.2.2.2 := by
  unfold zcut
  split <;> rfl
theorem zsws_some {x : Int32} {P : Nat → Prop} (r : List (Int32 × Nat)) (d : Nat) (h : zsws x P r d) : ∃ t, P t := by
  obtain ⟨t, h1, -⟩ := zsws_pick r d h
  exact ⟨t, h1⟩
theorem zwn_nc {cl : zA} {y nf : Nat} {Qp : Option Value → zW → Prop} (hcl : ∀ y' as w r w', cl y' as w = some (r, w') → w.2.2.2 ≤ w'.2.2.2) (hmo : ∀ pc, zMo (zpr y pc)) (hQ : ∀ (r : Option Value) (w : zW), Qp r w → w.2.2.2 ≤ nf) : ∀ (n : Nat) (c : zC), zwn cl y Qp n c → c.2.2.2.2.2.2 ≤ nf
  | 0, _, h => h.elim
  | n + 1, c, h => by
    have hm := hmo c.1 c
    unfold zwn at h
    generalize zpr y c.1 c = o at h hm
    have ih := fun c' h' => zwn_nc hcl hmo hQ n (zcut y c') h'
    match o, h, hm with
    | .inl c', h, hm => exact Nat.le_trans hm (by rw [← zcut_nc y c']; exact ih c' h)
    | .inr (.inl (true, c1, c2)), h, hm => exact Nat.le_trans hm.1 (by rw [← zcut_nc y c1]; exact ih c1 (h.1 rfl))
    | .inr (.inl (false, c1, c2)), h, hm => exact Nat.le_trans hm.2 (by rw [← zcut_nc y c2]; exact ih c2 (h.2 rfl))
    | .inr (.inr (.inl (b, c'))), h, hm => exact Nat.le_trans hm (by rw [← zcut_nc y c']; exact ih c' h.2)
    | .inr (.inr (.inr (.inl (b, y', as, c')))), h, hm =>
      have h2 := h.2
      cases hc : cl y' as c'.2.2.2 with
      | none => rw [hc] at h2; exact h2.elim
      | some q =>
        obtain ⟨r, w1⟩ := q
        rw [hc] at h2
        have h3 := ih _ h2
        rw [zcut_nc] at h3
        exact Nat.le_trans hm (Nat.le_trans (hcl _ _ _ _ _ hc) h3)
    | .inr (.inr (.inr (.inr (.inl (b, v, w))))), h, hm => exact Nat.le_trans hm (hQ _ _ h.2)
    | .inr (.inr (.inr (.inr (.inr (.inl (x, r, d, c')))))), h, hm =>
      obtain ⟨t, h1⟩ := zsws_some r d h
      have h3 := ih _ h1
      rw [zcut_nc] at h3
      exact Nat.le_trans hm h3
    | .inr (.inr (.inr (.inr (.inr (.inr _))))), h, hm => exact h.elim
section ZS
variable {p : Program} {l : Launch} {e : Env} {R : Room} {s : State} {m : MethodId} {args : Array Value} {below : List Frame} {meth : Method} {c : Code} {G : zG} {L : Nat} {xs : Nat → Int32} {cl : zA} {d n0 nf y : Nat} {Q : State → Prop} {Qp : Option Value → zW → Prop}
theorem zgo_cut {x : zC} (h : zgo p l e R s m args below meth c G L xs n0 Q (zcut y x)) : zgo p l e R s m args below meth c G L xs n0 Q x := by
  unfold zcut at h
  split at h
  · rename_i mk hmk
    exact fun lsm H locs h1 h2 h3 h4 => h lsm H locs (zLr_mk mk h1) h2 h3 h4
  · exact h
theorem zgo_run (hS : ∀ pc, zSd p l e R s m args below meth c G L xs cl n0 nf Q Qp pc (zpr y pc)) (hcl : ∀ y' as w r w', cl y' as w = some (r, w') → w.2.2.2 ≤ w'.2.2.2) (hmo : ∀ pc, zMo (zpr y pc)) (hQ : ∀ (r : Option Value) (w : zW), Qp r w → w.2.2.2 ≤ nf) : ∀ (n : Nat) (x : zC), zwn cl y Qp n x → zgo p l e R s m args below meth c G L xs n0 Q x
  | 0, _, h => h.elim
  | n + 1, (pc, ls, st, w), h => hS pc ls st w (fun c' => zwn cl y Qp n (zcut y c')) h (fun c' h' => zgo_cut (zgo_run hS hcl hmo hQ n _ h')) (fun c' h' => by
    have := zwn_nc hcl hmo hQ n _ h'
    rwa [zcut_nc] at this)
end ZS
theorem zla_get (G : zG) : ∀ (as : List Value) (i : Nat) (v : Value), (zla as)[i]? = some (some v) → (lg_sl (as.map (ztr G)))[i]? = some (.val (ztr G v))
  | [], i, v, h => by simp [zla] at h
  | a :: as, i, v, h => by
    have ih := zla_get G as
    have e1 : lg_sl ((a :: as).map (ztr G)) = (if (ztr G a).category = 2 then [Slot.val (ztr G a), .second] else [Slot.val (ztr G a)]) ++ lg_sl (as.map (ztr G)) := by
      simp [lg_sl]
    rw [e1, ztr_cat]
    have two : (zla (a :: as) = some a :: none :: zla as ∧ a.category = 2) ∨ (zla (a :: as) = some a :: zla as ∧ ¬ a.category = 2) := by
      cases a <;> simp [zla, Value.category]
    rcases two with ⟨e2, hc⟩ | ⟨e2, hc⟩
    · rw [if_pos hc]
      rw [e2] at h
      match i, h with
      | 0, h => simp at h; rw [← h]; rfl
      | 1, h => simp at h
      | i + 2, h => simpa using ih i v (by simpa using h)
    · rw [if_neg hc]
      rw [e2] at h
      match i, h with
      | 0, h => simp at h; rw [← h]; rfl
      | i + 1, h => simpa using ih i v (by simpa using h)
theorem zla_len (G : zG) : ∀ as : List Value, (zla as).length = (lg_sl (as.map (ztr G))).length
  | [] => rfl
  | a :: as => by
    have e1 : lg_sl ((a :: as).map (ztr G)) = (if (ztr G a).category = 2 then [Slot.val (ztr G a), .second] else [Slot.val (ztr G a)]) ++ lg_sl (as.map (ztr G)) := by
      simp [lg_sl]
    have ih := zla_len G as
    rw [e1, ztr_cat]
    have two : (zla (a :: as) = some a :: none :: zla as ∧ a.category = 2) ∨ (zla (a :: as) = some a :: zla as ∧ ¬ a.category = 2) := by
      cases a <;> simp [zla, Value.category]
    rcases two with ⟨e2, hc⟩ | ⟨e2, hc⟩
    · rw [if_pos hc, e2]
      simp [ih]
    · rw [if_neg hc, e2]
      simp [ih]
theorem zpad_len : ∀ (n : Nat) (ls : zL), (zpad n ls).length = n
  | 0, _ => rfl
  | n + 1, [] => by simp [zpad, zpad_len n]
  | n + 1, x :: xs => by simp [zpad, zpad_len n]
theorem zpad_get : ∀ (n : Nat) (ls : zL) (i : Nat) (v : Value), (zpad n ls)[i]? = some (some v) → ls[i]? = some (some v)
  | 0, _, i, v, h => by simp [zpad] at h
  | n + 1, [], 0, v, h => by simp [zpad] at h
  | n + 1, [], i + 1, v, h => by
    have := zpad_get n [] i v (by simpa [zpad] using h)
    simp at this
  | n + 1, x :: xs, 0, v, h => by simpa [zpad] using h
  | n + 1, x :: xs, i + 1, v, h => by simpa using zpad_get n xs i v (by simpa [zpad] using h)
theorem zLr_ent {G : zG} {n : Nat} {as : List Value} (h : (zla as).length ≤ n) : zLr G n (zpad n (zla as)) ((lg_sl (as.map (ztr G)) ++ List.replicate (n - (lg_sl (as.map (ztr G))).length) Slot.unset).toArray) := by
  have hl := lv_entry (as.map (ztr G)) (n := n) (by rw [← zla_len]; exact h)
  refine ⟨hl.1, hl.2.1, zpad_len n _, fun i v hi => ?_⟩
  have h1 := zla_get G as i v (zpad_get n _ i v hi)
  have hlt := (List.getElem?_eq_some_iff.mp h1).1
  rw [List.getElem?_toArray, List.getElem?_append_left hlt]
  exact h1
theorem zx40 {a b : Nat} (h : a ≤ b) : b - a ≤ b - a := Nat.le_refl _
theorem zlr0 {G : zG} {L : Nat} {xs : Nat → Int32} {w : zW} {U : State} (h : zRl G L xs w U.heap) : G.2.2.1 ≤ U.heap.size := by
  rw [h.1]
  exact Nat.le_add_right _ _
/-- every method answers as the pure machine does -/
theorem zMet : ∀ d : Nat, zmt (zcl d) d
  | 0 => fun _ _ _ _ _ h => by cases h
  | d + 1 => fun y as w r w' h => by
    obtain ⟨hf, n, hn⟩ := zcl_to h
    have IH := zMet d
    have hcl : ∀ y' as w r w', zcl d y' as w = some (r, w') → w.2.2.2 ≤ w'.2.2.2 := fun y' as w r w' h => (IH y' as w r w' h).1
    have hQ : ∀ (r1 : Option Value) (w1 : zW), r1 = r ∧ w1 = w' → w1.2.2.2 ≤ w'.2.2.2 := fun _ _ q => by rw [q.2]; exact Nat.le_refl _
    by_cases hy : y < 214
    · have hmo := zmoAll y (Nat.zero_le _) hy
      have hle : w.2.2.2 ≤ w'.2.2.2 := zwn_nc hcl hmo hQ n _ hn
      refine ⟨hle, fun l G L xs => ?_⟩
      refine Met.ofW (cc := zby y) (maxL := zml y) (ret := zrt y) (zplain y hy) rfl ?_
      intro p e s m args below meth c s₁ B hml hv
      obtain ⟨rfl, hrl, hE⟩ := hv
      have hr := B.returns
      have hts := atoms_spec (ws := zTs y) B.pre
      have C : zCx zmt p l e (headSpec (zTs y) (zrm (d + 1) (w'.2.2.2 - w.2.2.2) (zsl w'.2.2.2 - zsl w.2.2.2))).room s m (as.map (ztr G)).toArray below meth c G L xs (zby y) (znm y).cls (zrt y) (zcl d) d w.2.2.2 w'.2.2.2 (MQ below (zQc G L xs r w') (as.map (ztr G)).toArray s (w'.2.2.2 - w.2.2.2) (zsl w'.2.2.2 - zsl w.2.2.2) (zA0 G)) (fun r1 w1 => r1 = r ∧ w1 = w') := by
        refine ⟨B.exec, B.bytes, findClass_of_methodNamed B.named, fun w hw => hts w (List.mem_cons_of_mem _ hw), hE, zlr0 hrl, ⟨Nat.le_refl _, Nat.le_refl _, Nat.le_refl _, Nat.le_refl _⟩, ?_, IH⟩
        intro pc ls v w1 hq hk lsm H locs h1 h2 h3 h4
        obtain ⟨rfl, rfl⟩ := hq
        have post : ∀ t : State, t.heap = H → s.WarmedH t.vm → zQc G L xs v w1 (as.map (ztr G)).toArray s (.returned (v.map (ztr G))) t := fun t ht _ => ⟨rfl, by rw [ht]; exact h2, h3.F ht⟩
        rcases hk with ⟨x, ty, rfl, e2, e3, D⟩ | ⟨x, rfl, e2, D⟩ | ⟨rfl, e2, D⟩
        · exact W.zret B.exec B.bytes (by rw [hr]; exact e2) e3 post h3.2.2 D B.notSynchronized
        · exact W.lret B.exec B.bytes (by rw [hr]; exact e2) post h3.2.2 D B.notSynchronized
        · exact W.vret B.exec B.bytes (by rw [hr]; exact e2) post h3.2.2 D B.notSynchronized
      have hN : meth.name = (znm y).name := (name_of_methodNamed B.named B.method).1
      have run := zgo_run (zsAll y (Nat.zero_le _) hy C hml hN) hcl hmo hQ n _ hn
      have hl := zLr_ent (G := G) hf
      rw [lg_entry_eq]
      have h9 := run _ s.heap [] (by rw [hml]; exact hl) hrl va_S.rf (Nat.le_refl _)
      dsimp only [zent] at h9
      rw [Nat.sub_self, Nat.sub_self] at h9
      exact h9
    · exfalso
      rw [show n = n - 1 + 1 from by cases n with | zero => exact hn.elim | succ n => rfl] at hn
      unfold zwn at hn
      rw [zpr_big hy] at hn
      exact hn
