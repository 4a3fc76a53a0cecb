/-! ===== the contract of every method, out of the pure machine's answer ===== -/
theorem zcut_nc (y : Nat) (c : zC) : (zcut y c).2.2.2.2.2.2 = c.2.2.2.2.2.2 := by
  unfold zcut
  split <;> rfl
theorem zsws_some {x : Int32} {P : Nat → Prop} (r : List (Int32 × Nat)) (d : Nat) (h : zsws x P r d) : ∃ t, P t := by
  obtain ⟨t, h1, -⟩ := zsws_pick r d h
  exact ⟨t, h1⟩
theorem zwn_nc {cl : zA} {y nf : Nat} {Qp : Option Value → zW → Prop} (hcl : ∀ y' as w r w', cl y' as w = some (r, w') → w.2.2.2 ≤ w'.2.2.2) (hmo : ∀ pc, zMo (zpr y pc)) (hQ : ∀ (r : Option Value) (w : zW), Qp r w → w.2.2.2 ≤ nf) : ∀ (n : Nat) (c : zC), zwn cl y Qp n c → c.2.2.2.2.2.2 ≤ nf
  | 0, _, h => h.elim
  | n + 1, c, h => by
    have hm := hmo c.1 c
    unfold zwn at h
    generalize zpr y c.1 c = o at h hm
    have ih := fun c' h' => zwn_nc hcl hmo hQ n (zcut y c') h'
    match o, h, hm with
    | .inl c', h, hm => exact Nat.le_trans hm (by rw [← zcut_nc y c']; exact ih c' h)
    | .inr (.inl (true, c1, c2)), h, hm => exact Nat.le_trans hm.1 (by rw [← zcut_nc y c1]; exact ih c1 (h.1 rfl))
    | .inr (.inl (false, c1, c2)), h, hm => exact Nat.le_trans hm.2 (by rw [← zcut_nc y c2]; exact ih c2 (h.2 rfl))
    | .inr (.inr (.inl (b, c'))), h, hm => exact Nat.le_trans hm (by rw [← zcut_nc y c']; exact ih c' h.2)
    | .inr (.inr (.inr (.inl (b, y', as, c')))), h, hm =>
      have h2 := h.2
      cases hc : cl y' as c'.2.2.2 with
      | none => rw [hc] at h2; exact h2.elim
      | some q =>
        obtain ⟨r, w1⟩ := q
        rw [hc] at h2
        have h3 := ih _ h2
        rw [zcut_nc] at h3
        exact Nat.le_trans hm (Nat.le_trans (hcl _ _ _ _ _ hc) h3)
    | .inr (.inr (.inr (.inr (.inl (b, v, w))))), h, hm => exact Nat.le_trans hm (hQ _ _ h.2)
    | .inr (.inr (.inr (.inr (.inr (.inl (x, r, d, c')))))), h, hm =>
      obtain ⟨t, h1⟩ := zsws_some r d h
      have h3 := ih _ h1
      rw [zcut_nc] at h3
      exact Nat.le_trans hm h3
    | .inr (.inr (.inr (.inr (.inr (.inr _))))), h, hm => exact h.elim
section ZS
variable {p : Program} {l : Launch} {e : Env} {R : Room} {s : State} {m : MethodId} {args : Array Value} {below : List Frame} {meth : Method} {c : Code} {G : zG} {L : Nat} {xs : Nat → Int32} {cl : zA} {d n0 nf y : Nat} {Q : State → Prop} {Qp : Option Value → zW → Prop}
theorem zgo_cut {x : zC} (h : zgo p l e R s m args below meth c G L xs n0 Q (zcut y x)) : zgo p l e R s m args below meth c G L xs n0 Q x := by
  unfold zcut at h
  split at h
  · rename_i mk hmk
    exact fun lsm H locs h1 h2 h3 h4 => h lsm H locs (zLr_mk mk h1) h2 h3 h4
  · exact h
theorem zgo_run (hS : ∀ pc, zSd p l e R s m args below meth c G L xs cl n0 nf Q Qp pc (zpr y pc)) (hcl : ∀ y' as w r w', cl y' as w = some (r, w') → w.2.2.2 ≤ w'.2.2.2) (hmo : ∀ pc, zMo (zpr y pc)) (hQ : ∀ (r : Option Value) (w : zW), Qp r w → w.2.2.2 ≤ nf) : ∀ (n : Nat) (x : zC), zwn cl y Qp n x → zgo p l e R s m args below meth c G L xs n0 Q x
  | 0, _, h => h.elim
  | n + 1, (pc, ls, st, w), h => hS pc ls st w (fun c' => zwn cl y Qp n (zcut y c')) h (fun c' h' => zgo_cut (zgo_run hS hcl hmo hQ n _ h')) (fun c' h' => by
    have := zwn_nc hcl hmo hQ n _ h'
    rwa [zcut_nc] at this)
end ZS
theorem zla_get (G : zG) : ∀ (as : List Value) (i : Nat) (v : Value), (zla as)[i]? = some (some v) → (lg_sl (as.map (ztr G)))[i]? = some (.val (ztr G v))
  | [], i, v, h => by simp [zla] at h
  | a :: as, i, v, h => by
    have ih := zla_get G as
    have e1 : lg_sl ((a :: as).map (ztr G)) = (if (ztr G a).category = 2 then [Slot.val (ztr G a), .second] else [Slot.val (ztr G a)]) ++ lg_sl (as.map (ztr G)) := by
      simp [lg_sl]
    rw [e1, ztr_cat]
    cases a with
    | long x =>
      have hc : (Value.long x).category = 2 := rfl
      rw [if_pos hc]
      match i, h with
      | 0, h => simp [zla] at h; rw [← h]; rfl
      | 1, h => simp [zla] at h
      | i + 2, h => simpa using ih i v (by simpa [zla] using h)
    | double x =>
      sorry
    | int x =>
      have hc : ¬ (Value.int x).category = 2 := by simp [Value.category]
      rw [if_neg hc]
      match i, h with
      | 0, h => simp [zla] at h; rw [← h]; rfl
      | i + 1, h => simpa using ih i v (by simpa [zla] using h)
    | _ =>
      sorry
