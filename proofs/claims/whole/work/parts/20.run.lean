/-! ===== runs of the pure machine ===== -/
/-- a jump to a loop's head forgets the dead locals -/
def zcut (y : Nat) (c : zC) : zC := match zhd y c.1 with
  | some m => (c.1, zmk m c.2.1, c.2.2)
  | none => c
def zwn (cl : zA) (y : Nat) (Q : Option Value → zW → Prop) : Nat → zC → Prop
  | 0, _ => False
  | n + 1, c => zwp1 cl (fun c' => zwn cl y Q n (zcut y c')) Q (zpr y c.1 c)
def zWP (cl : zA) (y : Nat) (c : zC) (Q : Option Value → zW → Prop) : Prop := ∃ n, zwn cl y Q n c
theorem zsws_mono {x : Int32} {P P' : Nat → Prop} (h : ∀ t, P t → P' t) : ∀ (r : List (Int32 × Nat)) (d : Nat), zsws x P r d → zsws x P' r d
  | [], d, q => h d q
  | (_, _) :: r, d, q => ⟨fun e => h _ (q.1 e), fun e => zsws_mono h r d (q.2 e)⟩
theorem zwp1_mono {cl : zA} {K K' : zC → Prop} {Q Q' : Option Value → zW → Prop} (hK : ∀ c, K c → K' c) (hQ : ∀ r w, Q r w → Q' r w) : ∀ o : zO, zwp1 cl K Q o → zwp1 cl K' Q' o
  | .inl c, h => hK c h
  | .inr (.inl (b, c1, c2)), h => ⟨fun e => hK _ (h.1 e), fun e => hK _ (h.2 e)⟩
  | .inr (.inr (.inl (b, c))), h => ⟨h.1, hK _ h.2⟩
  | .inr (.inr (.inr (.inl (b, y, as, c)))), h => by
    refine ⟨h.1, ?_⟩
    have h2 := h.2
    cases hc : cl y as c.2.2.2 with
    | none => rw [hc] at h2; exact h2
    | some q => rw [hc] at h2; exact hK _ h2
  | .inr (.inr (.inr (.inr (.inl (b, v, w))))), h => ⟨h.1, hQ _ _ h.2⟩
  | .inr (.inr (.inr (.inr (.inr (.inl (x, r, d, c)))))), h => zsws_mono (fun t q => hK _ q) r d h
  | .inr (.inr (.inr (.inr (.inr (.inr _))))), h => h
theorem zwn_le {cl : zA} {y : Nat} {Q Q' : Option Value → zW → Prop} (hQ : ∀ r w, Q r w → Q' r w) : ∀ (n m : Nat) (c : zC), n ≤ m → zwn cl y Q n c → zwn cl y Q' m c
  | 0, _, _, _, h => h.elim
  | n + 1, 0, _, h, _ => absurd h (by omega)
  | n + 1, m + 1, c, h, q => zwp1_mono (fun c' q' => zwn_le hQ n m _ (by omega) q') hQ _ q
theorem zWP_mono {cl : zA} {y : Nat} {c : zC} {Q Q' : Option Value → zW → Prop} (hQ : ∀ r w, Q r w → Q' r w) (h : zWP cl y c Q) : zWP cl y c Q' := h.elim fun n q => ⟨n, zwn_le hQ n n c (Nat.le_refl n) q⟩
theorem zsws_pick {x : Int32} {P : Nat → Prop} : ∀ (r : List (Int32 × Nat)) (d : Nat), zsws x P r d → ∃ t, P t ∧ ∀ P' : Nat → Prop, zsws x P' r d ↔ P' t
  | [], d, h => ⟨d, h, fun _ => Iff.rfl⟩
  | (k, t) :: r, d, h => by
    by_cases e : x = k
    · exact ⟨t, h.1 e, fun P' => ⟨fun q => q.1 e, fun q => ⟨fun _ => q, fun z => absurd e z⟩⟩⟩
    · obtain ⟨t', h1, h2⟩ := zsws_pick r d (h.2 e)
      exact ⟨t', h1, fun P' => ⟨fun q => (h2 P').mp (q.2 e), fun q => ⟨fun z => absurd z e, fun _ => (h2 P').mpr q⟩⟩⟩
/-- a run has one end -/
theorem zwn_one {cl : zA} {y : Nat} {Q Q' : Option Value → zW → Prop} : ∀ (n m : Nat) (c : zC), zwn cl y Q n c → zwn cl y Q' m c → ∃ r w, Q r w ∧ Q' r w
  | 0, _, _, h, _ => h.elim
  | n + 1, 0, _, _, h => h.elim
  | n + 1, m + 1, c, h, q => by
    unfold zwn at h q
    generalize zpr y c.1 c = o at h q
    match o, h, q with
    | .inl c', h, q => exact zwn_one n m _ h q
    | .inr (.inl (true, c1, c2)), h, q => exact zwn_one n m _ (h.1 rfl) (q.1 rfl)
    | .inr (.inl (false, c1, c2)), h, q => exact zwn_one n m _ (h.2 rfl) (q.2 rfl)
    | .inr (.inr (.inl (b, c'))), h, q => exact zwn_one n m _ h.2 q.2
    | .inr (.inr (.inr (.inl (b, y', as, c')))), h, q =>
      have h2 := h.2
      have q2 := q.2
      cases hc : cl y' as c'.2.2.2 with
      | none => rw [hc] at h2; exact h2.elim
      | some z => rw [hc] at h2 q2; exact zwn_one n m _ h2 q2
    | .inr (.inr (.inr (.inr (.inl (b, v, w))))), h, q => exact ⟨v, w, h.2, q.2⟩
    | .inr (.inr (.inr (.inr (.inr (.inl (x, r, d, c')))))), h, q =>
      obtain ⟨t, h1, h2⟩ := zsws_pick r d h
      exact zwn_one n m _ h1 ((h2 _).mp q)
    | .inr (.inr (.inr (.inr (.inr (.inr _))))), h, q => exact h.elim
theorem zWP_one {cl : zA} {y : Nat} {c : zC} {Q Q' : Option Value → zW → Prop} (h : zWP cl y c Q) (q : zWP cl y c Q') : ∃ r w, Q r w ∧ Q' r w := by
  obtain ⟨n, h⟩ := h
  obtain ⟨m, q⟩ := q
  exact zwn_one n m c h q
/-- locals at a method's entry -/
def zla : List Value → zL
  | [] => []
  | .long x :: as => some (.long x) :: none :: zla as
  | .double x :: as => some (.double x) :: none :: zla as
  | v :: as => some v :: zla as
def zpad : Nat → zL → zL
  | 0, _ => []
  | n + 1, [] => none :: zpad n []
  | n + 1, x :: xs => x :: zpad n xs
def zent (y : Nat) (as : List Value) (w : zW) : zC := (0, zpad (zml y) (zla as), [], w)
/-- the thing with P, if there is one -/
noncomputable def zpick (P : Option Value × zW → Prop) : Option (Option Value × zW) := @dite _ (∃ q, P q) (Classical.propDecidable _) (fun h => some (Classical.choose h)) (fun _ => none)
theorem zpick_of {P : Option Value × zW → Prop} (h : ∃ q, P q) : ∃ q, zpick P = some q ∧ P q := ⟨Classical.choose h, by unfold zpick; rw [dif_pos h], Classical.choose_spec h⟩
theorem zpick_to {P : Option Value × zW → Prop} {q : Option Value × zW} (h : zpick P = some q) : P q := by
  by_cases h0 : ∃ q, P q
  · unfold zpick at h
    rw [dif_pos h0] at h
    rw [← Option.some.inj h]
    exact Classical.choose_spec h0
  · unfold zpick at h
    rw [dif_neg h0] at h
    cases h
/-- what a method answers, calls going d deep -/
noncomputable def zcl : Nat → zA
  | 0 => fun _ _ _ => none
  | d + 1 => fun y as w => if (zla as).length ≤ zml y then zpick (fun q => zWP (zcl d) y (zent y as w) (fun r w1 => r = q.1 ∧ w1 = q.2)) else none
theorem zcl_succ (d y : Nat) (as : List Value) (w : zW) : zcl (d + 1) y as w = if (zla as).length ≤ zml y then zpick (fun q => zWP (zcl d) y (zent y as w) (fun r w1 => r = q.1 ∧ w1 = q.2)) else none := rfl
theorem zcl_of {d y : Nat} {as : List Value} {w w' : zW} {r : Option Value} (hf : (zla as).length ≤ zml y) (h : zWP (zcl d) y (zent y as w) (fun r1 w1 => r1 = r ∧ w1 = w')) : zcl (d + 1) y as w = some (r, w') := by
  obtain ⟨q, h1, h2⟩ := zpick_of (P := fun q => zWP (zcl d) y (zent y as w) (fun r w1 => r = q.1 ∧ w1 = q.2)) ⟨(r, w'), h⟩
  rw [zcl_succ, if_pos hf, h1]
  obtain ⟨r2, w2, ⟨a1, a2⟩, ⟨b1, b2⟩⟩ := zWP_one h h2
  rw [show q = (r, w') from Prod.ext (b1.symm.trans a1) (b2.symm.trans a2)]
theorem zcl_to {d y : Nat} {as : List Value} {w w' : zW} {r : Option Value} (h : zcl (d + 1) y as w = some (r, w')) : (zla as).length ≤ zml y ∧ zWP (zcl d) y (zent y as w) (fun r1 w1 => r1 = r ∧ w1 = w') := by
  rw [zcl_succ] at h
  by_cases hf : (zla as).length ≤ zml y
  · rw [if_pos hf] at h
    exact ⟨hf, zpick_to (q := (r, w')) h⟩
  · rw [if_neg hf] at h
    cases h
/-- a piece of a run: up to n instructions on each road, to the next head of a loop -/
def zg (cl : zA) (y : Nat) (Q : Option Value → zW → Prop) : Nat → zC → Prop
  | 0, c => zWP cl y c Q
  | n + 1, c => zwp1 cl (fun c' => match zhd y c'.1 with
    | some m => zWP cl y (c'.1, zmk m c'.2.1, c'.2.2) Q
    | none => zg cl y Q n c') Q (zpr y c.1 c)
theorem zWP_step {cl : zA} {y : Nat} {c : zC} {Q : Option Value → zW → Prop} (h : zwp1 cl (fun c' => zWP cl y (zcut y c') Q) Q (zpr y c.1 c)) : zWP cl y c Q := by
  have key : ∀ o : zO, zwp1 cl (fun c' => zWP cl y (zcut y c') Q) Q o → ∃ n, zwp1 cl (fun c' => zwn cl y Q n (zcut y c')) Q o := by
    intro o h
    match o, h with
    | .inl c', h => exact h
    | .inr (.inl (true, c1, c2)), h =>
      obtain ⟨n, h⟩ := h.1 rfl
      exact ⟨n, ⟨fun _ => h, fun e => absurd e (by decide)⟩⟩
    | .inr (.inl (false, c1, c2)), h =>
      obtain ⟨n, h⟩ := h.2 rfl
      exact ⟨n, ⟨fun e => absurd e (by decide), fun _ => h⟩⟩
    | .inr (.inr (.inl (b, c'))), h =>
      obtain ⟨n, h2⟩ := h.2
      exact ⟨n, h.1, h2⟩
    | .inr (.inr (.inr (.inl (b, y', as, c')))), h =>
      have h2 := h.2
      cases hc : cl y' as c'.2.2.2 with
      | none => rw [hc] at h2; exact h2.elim
      | some z =>
        rw [hc] at h2
        obtain ⟨n, h2⟩ := h2
        refine ⟨n, h.1, ?_⟩
        rw [hc]
        exact h2
    | .inr (.inr (.inr (.inr (.inl (b, v, w))))), h => exact ⟨0, h⟩
    | .inr (.inr (.inr (.inr (.inr (.inl (x, r, d, c')))))), h =>
      obtain ⟨t, ⟨n, h1⟩, h2⟩ := zsws_pick r d h
      exact ⟨n, (h2 _).mpr h1⟩
    | .inr (.inr (.inr (.inr (.inr (.inr _))))), h => exact h.elim
  obtain ⟨n, hn⟩ := key _ h
  exact ⟨n + 1, hn⟩
theorem zg_wp {cl : zA} {y : Nat} {Q : Option Value → zW → Prop} : ∀ (n : Nat) (c : zC), zg cl y Q n c → zWP cl y c Q
  | 0, _, h => h
  | n + 1, c, h => by
    refine zWP_step (zwp1_mono (fun c' q => ?_) (fun _ _ q => q) _ h)
    unfold zcut
    split at q
    · exact q
    · exact zg_wp n c' q
