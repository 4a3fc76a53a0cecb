/-! ===== a kitchen's text, read as both sides read it ===== -/
section KP
variable {T : Nat → Int32} {N : Nat}
/-- the byte that is next, or -1 -/
def kNx (T : Nat → Int32) (N at' : Nat) : Int32 := if at' < N then T at' else -1
abbrev kDg (T : Nat → Int32) (N at' : Nat) : Prop := 48 ≤ kNx T N at' ∧ kNx T N at' ≤ 57
def kVa (T : Nat → Int32) (N at' : Nat) : Nat := (kNx T N at').toNatClampNeg - 48
/-- a number: what, and where it ends -/
def kNu (T : Nat → Int32) (N at' : Nat) : Int32 × Nat := if kDg T N at' then (if kDg T N (at' + 1) then (nI (10 * kVa T N at' + kVa T N (at' + 1)), at' + 2) else (nI (kVa T N at'), at' + 1)) else (-1, at')
def kPl (x : Int32) : Int32 := if x = 115 then 0 else if x = 107 then 1 else if x = 118 then 2 else if x = 108 then 3 else if x = 110 then 4 else if x = 100 then 5 else -1
/-- a code: the class's, the model's -/
abbrev kSy : Type := Int32 × Int32
/-- it stands, where, the codes -/
abbrev kSt : Type := Bool × Nat × List kSy
/-- a test -/
def kTe (T : Nat → Int32) (N at' : Nat) (cs : List kSy) : kSt :=
  if kPl (kNx T N at') < 0 then (false, at', cs)
  else if 60 ≤ kNx T N (at' + 1) ∧ kNx T N (at' + 1) ≤ 62 then
    (if (kNu T N (at' + 2)).1 < 0 then (false, at' + 2, cs)
     else (true, (kNu T N (at' + 2)).2, cs ++ [(300 * kPl (kNx T N at') + 100 * (kNx T N (at' + 1) - 60) + (kNu T N (at' + 2)).1, 1000 * kPl (kNx T N at') + 100 * (kNx T N (at' + 1) - 60) + (kNu T N (at' + 2)).1)]))
  else (false, at' + 1, cs)
/-- mode none: a part; some (behind &, behind |): parts with & and | between -/
def kR (T : Nat → Int32) (N : Nat) : Nat → Option (Bool × Bool) → Nat → Nat → List kSy → kSt
  | 0, _, _, at', cs => (false, at', cs)
  | n + 1, none, d, at', cs =>
    if d < 4 ∧ kNx T N at' = 33 then
      (if (kR T N n none (d + 1) (at' + 1) cs).1 = true then (true, (kR T N n none (d + 1) (at' + 1) cs).2.1, (kR T N n none (d + 1) (at' + 1) cs).2.2 ++ [(-1, -33)]) else kR T N n none (d + 1) (at' + 1) cs)
    else if d < 4 ∧ kNx T N at' = 40 then
      (if (kR T N n (some (false, false)) (d + 1) (at' + 1) cs).1 = true then
        (if kNx T N (kR T N n (some (false, false)) (d + 1) (at' + 1) cs).2.1 = 41 then (true, (kR T N n (some (false, false)) (d + 1) (at' + 1) cs).2.1 + 1, (kR T N n (some (false, false)) (d + 1) (at' + 1) cs).2.2)
         else (false, (kR T N n (some (false, false)) (d + 1) (at' + 1) cs).2.1, (kR T N n (some (false, false)) (d + 1) (at' + 1) cs).2.2))
       else kR T N n (some (false, false)) (d + 1) (at' + 1) cs)
    else kTe T N at' cs
  | n + 1, some (a, o), d, at', cs =>
    if (kR T N n none d at' cs).1 = true then
      (if kNx T N (kR T N n none d at' cs).2.1 = 38 then kR T N n (some (true, o)) d ((kR T N n none d at' cs).2.1 + 1) ((kR T N n none d at' cs).2.2 ++ if a = true then [(-2, -38)] else [])
       else if kNx T N (kR T N n none d at' cs).2.1 = 124 then kR T N n (some (false, true)) d ((kR T N n none d at' cs).2.1 + 1) (((kR T N n none d at' cs).2.2 ++ if a = true then [(-2, -38)] else []) ++ if o = true then [(-3, -124)] else [])
       else (true, (kR T N n none d at' cs).2.1, ((kR T N n none d at' cs).2.2 ++ if a = true then [(-2, -38)] else []) ++ if o = true then [(-3, -124)] else []))
    else kR T N n none d at' cs
def kCr (m : Option (Bool × Bool)) : Nat := match m with
  | none => 0
  | some (a, o) => a.toNat + o.toNat
/-- well-formed codes from k held to e held -/
def kWf : List kSy → Nat → Nat → Prop
  | [], k, e => k = e
  | s :: t, k, e => (gOk s.1 k ∧ gTr s.1 s.2) ∧ kWf t (gDp s.1 k) e
theorem kWf_app : ∀ (s t : List kSy) (k e f : Nat), kWf s k e → kWf t e f → kWf (s ++ t) k f
  | [], t, k, e, f, h, q => by
    rw [show k = e from h]
    exact q
  | x :: s, t, k, e, f, h, q => ⟨h.1, kWf_app s t _ e f h.2 q⟩
theorem kNx_lt {at' : Nat} {x : Int32} (h : kNx T N at' = x) (hx : ¬ (-1 = x)) : at' < N := by
  unfold kNx at h
  by_cases c : at' < N
  · exact c
  · rw [if_neg c] at h
    exact absurd h hx
theorem kDg_v {at' : Nat} (h : kDg T N at') : at' < N ∧ kVa T N at' < 10 ∧ kNx T N at' = nI (48 + kVa T N at') := by

  have h0 : at' < N := by
    have z := h.1
    unfold kNx at z
    by_cases c : at' < N
    · exact c
    · rw [if_neg c] at z
      exact absurd z (by decide)
  obtain ⟨h1, h2⟩ := h
  have e1 : (48 : Int) ≤ (kNx T N at').toInt := Int32.le_iff_toInt_le.mp h1
  have e2 : (kNx T N at').toInt ≤ (57 : Int) := Int32.le_iff_toInt_le.mp h2
  have e3 : (kNx T N at').toNatClampNeg = (kNx T N at').toInt.toNat := rfl
  refine ⟨h0, ?_, ?_⟩
  · unfold kVa
    omega
  · unfold kVa
    apply Int32.toInt_inj.mp
    rw [nI_toInt (by omega)]
    omega
/-- what a number comes to -/
theorem kNu_b (at' : Nat) : (kNu T N at' = (-1, at') ∧ ¬ kDg T N at') ∨ ∃ m, m < 100 ∧ (kNu T N at').1 = nI m ∧ at' < (kNu T N at').2 ∧ (kNu T N at').2 ≤ N := by
  unfold kNu
  by_cases h : kDg T N at'
  · right
    obtain ⟨a1, a2, _⟩ := kDg_v h
    rw [if_pos h]
    by_cases h2 : kDg T N (at' + 1)
    · obtain ⟨b1, b2, _⟩ := kDg_v h2
      rw [if_pos h2]
      exact ⟨_, by omega, rfl, by show at' < at' + 2; omega, by show at' + 2 ≤ N; omega⟩
    · rw [if_neg h2]
      exact ⟨_, by omega, rfl, by show at' < at' + 1; omega, by show at' + 1 ≤ N; omega⟩
  · exact .inl ⟨if_neg h, h⟩
theorem kPl_b (x : Int32) : kPl x = -1 ∨ ((∃ p, p < 6 ∧ kPl x = nI p) ∧ ¬ (-1 = x)) := by
  unfold kPl
  by_cases h1 : x = 115
  · rw [if_pos h1, h1]; exact .inr ⟨⟨0, by decide, rfl⟩, by decide⟩
  rw [if_neg h1]
  by_cases h2 : x = 107
  · rw [if_pos h2, h2]; exact .inr ⟨⟨1, by decide, rfl⟩, by decide⟩
  rw [if_neg h2]
  by_cases h3 : x = 118
  · rw [if_pos h3, h3]; exact .inr ⟨⟨2, by decide, rfl⟩, by decide⟩
  rw [if_neg h3]
  by_cases h4 : x = 108
  · rw [if_pos h4, h4]; exact .inr ⟨⟨3, by decide, rfl⟩, by decide⟩
  rw [if_neg h4]
  by_cases h5 : x = 110
  · rw [if_pos h5, h5]; exact .inr ⟨⟨4, by decide, rfl⟩, by decide⟩
  rw [if_neg h5]
  by_cases h6 : x = 100
  · rw [if_pos h6, h6]; exact .inr ⟨⟨5, by decide, rfl⟩, by decide⟩
  rw [if_neg h6]
  exact .inl rfl
/-- what a test comes to -/
theorem kTe_b (at' : Nat) (cs : List kSy) (hN : at' ≤ N) : (∃ j, kTe T N at' cs = (false, j, cs) ∧ at' ≤ j ∧ j ≤ N) ∨ ∃ j x y, kTe T N at' cs = (true, j, cs ++ [(x, y)]) ∧ at' < j ∧ j ≤ N ∧ (∃ p s m, p < 6 ∧ s < 3 ∧ m < 100 ∧ x = nI (300 * p + 100 * s + m) ∧ y = nI (1000 * p + 100 * s + m)) := by
  unfold kTe
  rcases kPl_b (kNx T N at') with h | ⟨⟨p, hp, h⟩, hn⟩
  · rw [h, if_pos (by decide)]
    exact .inl ⟨at', rfl, Nat.le_refl _, hN⟩
  have h0 : at' < N := by
    unfold kNx at hn
    by_cases c : at' < N
    · exact c
    · rw [if_neg c] at hn
      exact absurd rfl hn
  have hz : ¬ nI p < (0 : Int32) := q_tnl (n := 0) (by omega) (by omega)
  rw [h, if_neg hz]
  by_cases h2 : 60 ≤ kNx T N (at' + 1) ∧ kNx T N (at' + 1) ≤ 62
  · have h1 : at' + 1 < N := by
      have z := h2.1
      unfold kNx at z
      by_cases c : at' + 1 < N
      · exact c
      · rw [if_neg c] at z
        exact absurd z (by decide)
    rw [if_pos h2]
    obtain ⟨s, hs, es⟩ : ∃ s, s < 3 ∧ kNx T N (at' + 1) - 60 = nI s := by
      obtain ⟨z1, z2⟩ := h2
      have e1 : (60 : Int) ≤ (kNx T N (at' + 1)).toInt := Int32.le_iff_toInt_le.mp z1
      have e2 : (kNx T N (at' + 1)).toInt ≤ (62 : Int) := Int32.le_iff_toInt_le.mp z2
      refine ⟨((kNx T N (at' + 1)).toInt - 60).toNat, by omega, ?_⟩
      apply Int32.toInt_inj.mp
      rw [nI_toInt (by omega), Int32.toInt_sub, show (60 : Int32).toInt = 60 from rfl, Int.bmod_eq_of_le (by omega) (by omega)]
      omega
    rcases kNu_b (T := T) (N := N) (at' + 2) with ⟨e, _⟩ | ⟨m, hm, e, g1, g2⟩
    · rw [e, if_pos (by show (-1 : Int32) < 0; decide)]
      exact .inl ⟨at' + 2, rfl, by omega, by omega⟩
    · have hy : ¬ nI m < (0 : Int32) := q_tnl (n := 0) (by omega) (by omega)
      rw [e, if_neg hy, es]
      exact .inr ⟨_, _, _, rfl, by omega, g2, p, s, m, hp, hs, hm, by
        rw [show (300 : Int32) = nI 300 from rfl, show (100 : Int32) = nI 100 from rfl, show nI 300 * nI p = nI (300 * p) from pk_mul _ p, show nI 100 * nI s = nI (100 * s) from pk_mul 100 s, q_add3, q_add3], by
        rw [show (1000 : Int32) = nI 1000 from rfl, show (100 : Int32) = nI 100 from rfl, show nI 1000 * nI p = nI (1000 * p) from pk_mul _ p, show nI 100 * nI s = nI (100 * s) from pk_mul 100 s, q_add3, q_add3]⟩
  · rw [if_neg h2]
    exact .inl ⟨at' + 1, rfl, by omega, by omega⟩
/-- what reading comes to: it goes on in the text, every code comes of a byte -/
def kGo (N at' c : Nat) (cs : List kSy) (r : kSt) : Prop := (at' ≤ r.2.1 ∧ r.2.1 ≤ N ∧ (r.1 = true → at' < r.2.1)) ∧ ∃ nw, r.2.2 = cs ++ nw ∧ nw.length + at' ≤ c + r.2.1
theorem kR_b : ∀ (n : Nat) (m : Option (Bool × Bool)) (d at' : Nat) (cs : List kSy), at' ≤ N → kGo N at' (kCr m) cs (kR T N n m d at' cs)
  | 0, m, d, at', cs, h => ⟨⟨Nat.le_refl _, h, fun e => nomatch e⟩, [], (List.append_nil cs).symm, by show 0 + at' ≤ kCr m + at'; omega⟩
  | n + 1, none, d, at', cs, h => by
    unfold kR
    by_cases h1 : d < 4 ∧ kNx T N at' = 33
    · have hl := kNx_lt h1.2 (by decide)
      rw [if_pos h1]
      obtain ⟨⟨a1, a2, a3⟩, nw, b1, b2⟩ := kR_b n none (d + 1) (at' + 1) cs (by omega)
      by_cases hr : (kR T N n none (d + 1) (at' + 1) cs).1 = true
      · rw [if_pos hr]
        refine ⟨⟨by dsimp only; omega, a2, fun _ => by dsimp only; omega⟩, nw ++ [(-1, -33)], by rw [b1, List.append_assoc], ?_⟩
        have := a3 hr
        simp only [List.length_append, List.length_cons, List.length_nil, kCr] at b2 ⊢
        omega
      · rw [if_neg hr]
        exact ⟨⟨by omega, a2, fun e => absurd e hr⟩, nw, b1, by omega⟩
    rw [if_neg h1]
    by_cases h2 : d < 4 ∧ kNx T N at' = 40
    · have hl := kNx_lt h2.2 (by decide)
      rw [if_pos h2]
      obtain ⟨⟨a1, a2, a3⟩, nw, b1, b2⟩ := kR_b n (some (false, false)) (d + 1) (at' + 1) cs (by omega)
      have b3 : nw.length + (at' + 1) ≤ 0 + (kR T N n (some (false, false)) (d + 1) (at' + 1) cs).2.1 := b2
      by_cases hr : (kR T N n (some (false, false)) (d + 1) (at' + 1) cs).1 = true
      · rw [if_pos hr]
        by_cases h3 : kNx T N (kR T N n (some (false, false)) (d + 1) (at' + 1) cs).2.1 = 41
        · have hl2 := kNx_lt h3 (by decide)
          rw [if_pos h3]
          exact ⟨⟨by dsimp only; omega, by dsimp only; omega, fun _ => by dsimp only; omega⟩, nw, b1, by show nw.length + at' ≤ 0 + _; dsimp only; omega⟩
        · rw [if_neg h3]
          exact ⟨⟨by dsimp only; omega, a2, fun e => nomatch e⟩, nw, b1, by show nw.length + at' ≤ 0 + _; dsimp only; omega⟩
      · rw [if_neg hr]
        exact ⟨⟨by omega, a2, fun e => absurd e hr⟩, nw, b1, by show nw.length + at' ≤ 0 + _; omega⟩
    rw [if_neg h2]
    rcases kTe_b (T := T) at' cs h with ⟨j, e, g1, g2⟩ | ⟨j, x, y, e, g1, g2, _⟩
    · rw [e]
      exact ⟨⟨g1, g2, fun z => nomatch z⟩, [], (List.append_nil cs).symm, by show 0 + at' ≤ 0 + j; omega⟩
    · rw [e]
      exact ⟨⟨by show at' ≤ j; omega, g2, fun _ => g1⟩, [(x, y)], rfl, by show 1 + at' ≤ 0 + j; omega⟩
  | n + 1, some (a, o), d, at', cs, h => by
    unfold kR
    obtain ⟨⟨a1, a2, a3⟩, nw, b1, b2⟩ := kR_b n none d at' cs h
    have b3 : nw.length + at' ≤ 0 + (kR T N n none d at' cs).2.1 := b2
    have la : (if a = true then [((-2 : Int32), (-38 : Int32))] else []).length = a.toNat := by cases a <;> rfl
    have lo : (if o = true then [((-3 : Int32), (-124 : Int32))] else []).length = o.toNat := by cases o <;> rfl
    by_cases hr : (kR T N n none d at' cs).1 = true
    · rw [if_pos hr]
      have a4 := a3 hr
      by_cases h1 : kNx T N (kR T N n none d at' cs).2.1 = 38
      · have hl := kNx_lt h1 (by decide)
        rw [if_pos h1]
        obtain ⟨⟨c1, c2, c3⟩, nx, d1, d2⟩ := kR_b n (some (true, o)) d ((kR T N n none d at' cs).2.1 + 1) ((kR T N n none d at' cs).2.2 ++ if a = true then [(-2, -38)] else []) (by omega)
        refine ⟨⟨by omega, c2, fun z => by have := c3 z; omega⟩, nw ++ ((if a = true then [(-2, -38)] else []) ++ nx), by rw [d1, b1]; simp only [List.append_assoc], ?_⟩
        simp only [List.length_append, la, kCr, Bool.toNat_true] at d2 ⊢
        omega
      rw [if_neg h1]
      by_cases h2 : kNx T N (kR T N n none d at' cs).2.1 = 124
      · have hl := kNx_lt h2 (by decide)
        rw [if_pos h2]
        obtain ⟨⟨c1, c2, c3⟩, nx, d1, d2⟩ := kR_b n (some (false, true)) d ((kR T N n none d at' cs).2.1 + 1) (((kR T N n none d at' cs).2.2 ++ if a = true then [(-2, -38)] else []) ++ if o = true then [(-3, -124)] else []) (by omega)
        refine ⟨⟨by omega, c2, fun z => by have := c3 z; omega⟩, nw ++ ((if a = true then [(-2, -38)] else []) ++ ((if o = true then [(-3, -124)] else []) ++ nx)), by rw [d1, b1]; simp only [List.append_assoc], ?_⟩
        simp only [List.length_append, la, lo, kCr, Bool.toNat_true, Bool.toNat_false] at d2 ⊢
        omega
      rw [if_neg h2]
      refine ⟨⟨by dsimp only; omega, a2, fun _ => a4⟩, nw ++ ((if a = true then [(-2, -38)] else []) ++ (if o = true then [(-3, -124)] else [])), by dsimp only; rw [b1]; simp only [List.append_assoc], ?_⟩
      simp only [List.length_append, la, lo, kCr]
      omega
    · rw [if_neg hr]
      exact ⟨⟨a1, a2, fun e => absurd e hr⟩, nw, b1, by show nw.length + at' ≤ a.toNat + o.toNat + _; omega⟩
end KP
