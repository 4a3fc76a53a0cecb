/-! ===== what clauses and codes come to: the lists ===== -/
section KL
variable {T : Nat → Int32} {N : Nat}
/-- a clause and its codes -/
def kZs (z : kCs) (s : List kSy) : Prop := (z.1 < 6 ∧ (z.1 < 4 → ∃ m, m < 100 ∧ z.2.1 = nI m)) ∧ (z.1 < 2 → 0 < s.length ∧ kWf s 0 1) ∧ (2 ≤ z.1 → s = [])
/-- clauses and all their codes; b codes are ahead -/
def kLs : List kCs → Nat → List kSy → Prop
  | [], _, r => r = []
  | z :: L, b, r => ∃ s r', (r = s ++ r' ∧ kZs z s ∧ z.2.2 = b + s.length) ∧ kLs L (b + s.length) r'
theorem kC_ls {at' : Nat} {cs : List kSy} (ha : at' ≤ N) (h : (kC T N at' cs).1.1 = true) : ∃ s, (kC T N at' cs).1.2.2 = cs ++ s ∧ kZs (kC T N at' cs).2 s ∧ (kC T N at' cs).2.2.2 = cs.length + s.length := by
  have kz := kC_e h
  have hw := kCw_b (kNx T N at')
  have e := kC_w (T := T) (N := N) (at' := at') (cs := cs) _ rfl
  generalize kCw (kNx T N at') = w at *
  obtain ⟨w1, w2, -⟩ := kWd_b (T := T) (N := N) (kWs w) at' (kWs_1 w hw) ha
  by_cases h1 : (kWd T N (kWs w) at').1 = true
  · rw [if_pos h1] at e
    generalize (kWd T N (kWs w) at').2 = x at *
    have key : ∃ s, (kCv T N w x cs).2.2 = cs ++ s ∧ kZs (w, (kNu T N x).1, (kCv T N w x cs).2.2.length) s := by
      have hc : (kCv T N w x cs).1 = true := by rw [e] at h; exact h
      by_cases h4 : 4 ≤ w
      · refine ⟨[], ?_, ⟨⟨hw, fun z => absurd z (Nat.not_lt.mpr h4)⟩, fun z => absurd z (by show ¬ w < 2; omega), fun _ => rfl⟩⟩
        rw [show kCv T N w x cs = (true, x, cs) from if_pos h4]
        exact (List.append_nil cs).symm
      have hnum : ∃ m, m < 100 ∧ (kNu T N x).1 = nI m := by
        rcases kNu_b (T := T) (N := N) x with ⟨e0, -⟩ | ⟨m, hm, e0, -⟩
        · have eV : kCv T N w x cs = (false, x, cs) := by
            unfold kCv kJg
            rw [if_neg h4, e0, if_pos (show (-1 : Int32) < 0 by decide)]
            by_cases h2 : 2 ≤ w
            · rw [if_pos h2]
            · rw [if_neg h2]
              exact if_pos (show (-1 : Int32) < 0 by decide)
          rw [eV] at hc
          exact nomatch hc
        · exact ⟨m, hm, e0⟩
      have hz : ¬ (kNu T N x).1 < 0 := by
        obtain ⟨m, hm, e0⟩ := hnum
        rw [e0]
        exact q_tnl (n := 0) (by omega) (by omega)
      by_cases h2 : 2 ≤ w
      · refine ⟨[], ?_, ⟨⟨hw, fun _ => hnum⟩, fun z => absurd z (Nat.not_lt.mpr h2), fun _ => rfl⟩⟩
        rw [show kCv T N w x cs = (true, (kNu T N x).2, cs) from (if_neg h4).trans ((if_pos h2).trans (if_neg hz))]
        exact (List.append_nil cs).symm
      have eV : kCv T N w x cs = if kNx T N (kNu T N x).2 = 32 then kR T N 202 (some (false, false)) 0 ((kNu T N x).2 + 1) cs else (false, (kNu T N x).2, cs) := (if_neg h4).trans ((if_neg h2).trans (if_neg hz))
      by_cases h32 : kNx T N (kNu T N x).2 = 32
      · have hl := kNx_lt h32 (by decide)
        rw [if_pos h32] at eV
        rw [eV] at hc ⊢
        obtain ⟨nw, e1, wf⟩ := kR_wf (T := T) (N := N) 202 (some (false, false)) 0 ((kNu T N x).2 + 1) cs 0 (by omega) (by omega) (Nat.le_refl _) (Nat.zero_le _) hc
        have wf' : kWf nw 0 1 := wf
        refine ⟨nw, e1, ⟨⟨hw, fun _ => hnum⟩, fun _ => ⟨?_, wf'⟩, fun z => absurd z h2⟩⟩
        match nw, wf' with
        | [], q => exact absurd (show 0 = 1 from q) (by decide)
        | y :: t, _ => exact Nat.succ_pos _
      · rw [if_neg h32] at eV
        rw [eV] at hc
        exact nomatch hc
    rw [e] at kz ⊢
    obtain ⟨s, e1, e2⟩ := key
    exact ⟨s, e1, e2, by show (kCv T N w x cs).2.2.length = _; rw [e1, List.length_append]⟩
  · rw [if_neg h1] at e
    rw [e] at h
    exact nomatch h
theorem kT_ls : ∀ (n at' : Nat) (cs : List kSy) (L : List kCs), at' ≤ N → (kT T N n at' cs L).1.1 = true → ∃ L' r, (kT T N n at' cs L).2 = L ++ L' ∧ (kT T N n at' cs L).1.2.2 = cs ++ r ∧ kLs L' cs.length r
  | 0, at', cs, L, ha, h => nomatch h
  | n + 1, at', cs, L, ha, h => by
    have eT : kT T N (n + 1) at' cs L = if (kC T N at' cs).1.1 = true then (if (kC T N at' cs).1.2.1 = N then ((true, N, (kC T N at' cs).1.2.2), L ++ [(kC T N at' cs).2]) else if n = 0 then ((false, (kC T N at' cs).1.2.1, (kC T N at' cs).1.2.2), L) else if kNx T N (kC T N at' cs).1.2.1 = 59 then kT T N n ((kC T N at' cs).1.2.1 + 1) (kC T N at' cs).1.2.2 (L ++ [(kC T N at' cs).2]) else ((false, (kC T N at' cs).1.2.1, (kC T N at' cs).1.2.2), L)) else ((kC T N at' cs).1, L) := rfl
    by_cases h1 : (kC T N at' cs).1.1 = true
    · obtain ⟨s, s1, s2, s3⟩ := kC_ls ha h1
      rw [if_pos h1] at eT
      by_cases h2 : (kC T N at' cs).1.2.1 = N
      · rw [if_pos h2] at eT
        rw [eT]
        exact ⟨[(kC T N at' cs).2], s, rfl, s1, s, [], ⟨(List.append_nil s).symm, s2, s3⟩, rfl⟩
      rw [if_neg h2] at eT
      by_cases h3 : n = 0
      · rw [if_pos h3] at eT
        rw [eT] at h
        exact nomatch h
      rw [if_neg h3] at eT
      by_cases h4 : kNx T N (kC T N at' cs).1.2.1 = 59
      · have hl := kNx_lt h4 (by decide)
        rw [if_pos h4] at eT
        rw [eT] at h ⊢
        obtain ⟨L', r, k1, k2, k3⟩ := kT_ls n _ _ _ (by omega) h
        refine ⟨(kC T N at' cs).2 :: L', s ++ r, ?_, ?_, s, r, ⟨rfl, s2, s3⟩, ?_⟩
        · rw [k1, List.append_assoc]
          rfl
        · rw [k2, s1, List.append_assoc]
        · rw [s1, List.length_append] at k3
          exact k3
      · rw [if_neg h4] at eT
        rw [eT] at h
        exact nomatch h
    · rw [if_neg h1] at eT
      rw [eT] at h
      exact absurd h h1
/-- the judgements among clauses -/
def kJs : List kCs → List (Int32 × Nat)
  | [] => []
  | z :: L => if z.1 = 0 then (z.2.1, z.2.2) :: kJs L else if z.1 = 1 then (-z.2.1, z.2.2) :: kJs L else kJs L
theorem kJs_c {z : kCs} {L : List kCs} : kJs (z :: L) = if z.1 = 0 then (z.2.1, z.2.2) :: kJs L else if z.1 = 1 then (-z.2.1, z.2.2) :: kJs L else kJs L := rfl
theorem kJs_f : ∀ (L : List kCs) (js : List (Int32 × Nat)), L.foldl kSj js = js ++ kJs L
  | [], js => (List.append_nil js).symm
  | z :: L, js => by
    show L.foldl kSj (kSj js z) = _
    rw [kJs_f L, kJs_c]
    unfold kSj
    by_cases h0 : z.1 = 0
    · rw [if_pos h0, if_pos h0, List.append_assoc]
      rfl
    · rw [if_neg h0, if_neg h0]
      by_cases h1 : z.1 = 1
      · rw [if_pos h1, if_pos h1, List.append_assoc]
        rfl
      · rw [if_neg h1, if_neg h1]
theorem kJs_l : ∀ (L : List kCs), (kJs L).length ≤ L.length
  | [] => Nat.le_refl _
  | z :: L => by
    have := kJs_l L
    rw [kJs_c]
    by_cases h0 : z.1 = 0
    · rw [if_pos h0]
      exact Nat.succ_le_succ this
    · rw [if_neg h0]
      by_cases h1 : z.1 = 1
      · rw [if_pos h1]
        exact Nat.succ_le_succ this
      · rw [if_neg h1]
        exact Nat.le_succ_of_le this
/-- the same with b ahead of the first -/
def kPb (b : Nat) (L : List kCs) : Nat → Nat
  | 0 => b
  | c + 1 => (L.getD c (0, 0, 0)).2.2
variable {ch en co wd nu fr to sg : Nat → Int32}
/-- the rows of the model tell the clauses from q on -/
def kRm (wd nu fr to : Nat → Int32) (o q b : Nat) (L : List kCs) : Prop := ∀ c z, L[c]? = some z → wd (q + c) = nI z.1 ∧ (z.1 < 4 → nu (q + c) = z.2.1) ∧ (z.1 < 2 → fr (q + c) = nI (o + kPb b L c) ∧ to (q + c) = nI (o + z.2.2))
/-- the rows of the class tell the judgements from i on -/
def kRj (ch en : Nat → Int32) (i : Nat) (js : List (Int32 × Nat)) : Prop := ∀ x z, js[x]? = some z → ch (i + x) = z.1 ∧ en (i + x) = nI z.2
/-- both sides' rows of codes -/
def kRc (co sg : Nat → Int32) (o b : Nat) (r : List kSy) : Prop := ∀ x z, r[x]? = some z → co (b + x) = z.1 ∧ sg (o + (b + x)) = z.2
theorem kRm_t {o q b : Nat} {z : kCs} {L : List kCs} (h : kRm wd nu fr to o q b (z :: L)) : kRm wd nu fr to o (q + 1) z.2.2 L := by
  intro c y hy
  have := h (c + 1) y hy
  rw [show q + (c + 1) = q + 1 + c by omega] at this
  refine ⟨this.1, this.2.1, fun h2 => ?_⟩
  have g := this.2.2 h2
  rw [show kPb b (z :: L) (c + 1) = kPb z.2.2 L c from by cases c <;> rfl] at g
  exact g
theorem kRj_t {i : Nat} {z : Int32 × Nat} {js : List (Int32 × Nat)} (h : kRj ch en i (z :: js)) : kRj ch en (i + 1) js := by
  intro c y hy
  have := h (c + 1) y hy
  rw [show i + (c + 1) = i + 1 + c by omega] at this
  exact this
theorem kRc_t {o b : Nat} {s r : List kSy} (h : kRc co sg o b (s ++ r)) : kRc co sg o (b + s.length) r := by
  intro x y hy
  have := h (s.length + x) y (by rw [List.getElem?_append_right (by omega), show s.length + x - s.length = x by omega]; exact hy)
  rw [show b + (s.length + x) = b + s.length + x by omega] at this
  exact this
theorem q_eqw {m n : Nat} (h : m < 6) (h2 : n < 6) : nI m = nI n ↔ m = n := q_eq3 (by omega) (by omega)
theorem gFr_s {i x : Nat} (h : en i = nI x) (hx : x < 2147483648) : gFr en (i + 1) = x := by
  show (en i).toNatClampNeg = x
  rw [h, nI_clamp hx]
/-- the clauses of the model are the judgements of the class -/
theorem kL_cl {o : Nat} : ∀ (L : List kCs) (q b i : Nat) (r : List kSy), kLs L b r → b + r.length ≤ 100 → kRm wd nu fr to o q b L → kRj ch en i (kJs L) → kRc co sg o b r → gFr en i = b → gCl ch en co wd nu fr to sg o q L.length i (i + (kJs L).length)
  | [], q, b, i, r, hL, hb, hm, hj, hc, hf => rfl
  | z :: L, q, b, i, r, hL, hb, hm, hj, hc, hf => by
    obtain ⟨s, r', ⟨rfl, ⟨⟨z1, z2⟩, z3, z4⟩, z5⟩, hL'⟩ := hL
    rw [List.length_append] at hb
    obtain ⟨m1, m2, m3⟩ := hm 0 z rfl
    rw [Nat.add_zero] at m1 m2 m3
    by_cases h2 : z.1 < 2
    · left
      obtain ⟨y, ey, hy⟩ : ∃ y : Int32, kJs (z :: L) = (y, z.2.2) :: kJs L ∧ y = if nI z.1 = 0 then z.2.1 else -z.2.1 := by
        by_cases h0 : z.1 = 0
        · exact ⟨z.2.1, kJs_c.trans (if_pos h0), (if_pos (by rw [h0]; rfl)).symm⟩
        · have h1 : z.1 = 1 := by omega
          exact ⟨-z.2.1, kJs_c.trans ((if_neg h0).trans (if_pos h1)), (if_neg (by rw [h1]; decide)).symm⟩
      rw [ey] at hj ⊢
      obtain ⟨j1, j2⟩ := hj 0 _ rfl
      rw [Nat.add_zero] at j1 j2
      have f1 : gFr en (i + 1) = z.2.2 := gFr_s j2 (by omega)
      have e2 : nu q = z.2.1 := m2 (by omega)
      obtain ⟨g1, g2⟩ := m3 h2
      have w01 : wd q = 0 ∨ wd q = 1 := by
        rw [m1]
        by_cases h0 : z.1 = 0
        · rw [h0]; exact .inl rfl
        · rw [show z.1 = 1 by omega]; exact .inr rfl
      refine ⟨w01, ?_, ?_, ?_, ?_, ?_, ?_⟩
      · rw [j1, hy, m1, e2]
      · rw [g1, hf]
        rfl
      · rw [g2, f1]
      · rw [List.length_cons]
        omega
      · intro x h1 h3
        rw [hf] at h1
        rw [f1] at h3
        obtain ⟨k, rfl⟩ : ∃ k, x = b + k := ⟨x - b, by omega⟩
        have hk : k < s.length := by omega
        have hx : (s ++ r')[k]? = some s[k] := by rw [List.getElem?_append_left hk, List.getElem?_eq_getElem hk]
        obtain ⟨c1, c2⟩ := hc k _ hx
        rw [c1, c2]
        exact kWf_tr s 0 1 (z3 h2).2 _ (List.getElem_mem hk)
      · rw [show i + ((y, z.2.2) :: kJs L).length = i + 1 + (kJs L).length by rw [List.length_cons]; omega]
        have m4 := kRm_t hm
        rw [z5] at m4
        exact kL_cl L (q + 1) (b + s.length) (i + 1) r' hL' (by omega) m4 (kRj_t hj) (kRc_t hc) (by rw [f1, z5])
    · right
      have hs := z4 (by omega)
      subst hs
      have ey : kJs (z :: L) = kJs L := by
        show (if z.1 = 0 then _ else if z.1 = 1 then _ else kJs L) = _
        rw [if_neg (by omega), if_neg (by omega)]
      rw [ey] at hj ⊢
      refine ⟨?_, ?_⟩
      · rw [m1]
        exact q_tnle (m := z.1) (n := 1) (by omega) (by omega)
      · have m4 := kRm_t hm
        rw [z5] at m4
        exact kL_cl L (q + 1) b i r' hL' (by omega) m4 hj hc hf
/-- the judgements of the class are as they must be -/
theorem kL_kw : ∀ (L : List kCs) (b i : Nat) (r : List kSy), kLs L b r → b + r.length ≤ 100 → kRj ch en i (kJs L) → (∀ x z, r[x]? = some z → co (b + x) = z.1) → gFr en i = b → ∀ j, i ≤ j → j < i + (kJs L).length → gFr en j < gFr en (j + 1) ∧ gFr en (j + 1) ≤ 100 ∧ en j = nI (gFr en (j + 1)) ∧ gWf co (gFr en j) (gFr en (j + 1) - gFr en j) 0 ∧ -99 ≤ (ch j).toInt ∧ (ch j).toInt ≤ 99
  | [], b, i, r, hL, hb, hj, hc, hf, j, h1, h2 => absurd (show j < i + 0 from h2) (by omega)
  | z :: L, b, i, r, hL, hb, hj, hc, hf, j, h1, h2 => by
    obtain ⟨s, r', ⟨rfl, ⟨⟨z1, z2⟩, z3, z4⟩, z5⟩, hL'⟩ := hL
    rw [List.length_append] at hb
    have hc' : ∀ x y, r'[x]? = some y → co (b + s.length + x) = y.1 := fun x y hy => by
      have := hc (s.length + x) y (by rw [List.getElem?_append_right (by omega), show s.length + x - s.length = x by omega]; exact hy)
      rw [show b + (s.length + x) = b + s.length + x by omega] at this
      exact this
    by_cases h3 : z.1 < 2
    · obtain ⟨y, ey, hy⟩ : ∃ y : Int32, kJs (z :: L) = (y, z.2.2) :: kJs L ∧ (y = z.2.1 ∨ y = -z.2.1) := by
        by_cases h0 : z.1 = 0
        · exact ⟨z.2.1, kJs_c.trans (if_pos h0), .inl rfl⟩
        · have h1 : z.1 = 1 := by omega
          exact ⟨-z.2.1, kJs_c.trans ((if_neg h0).trans (if_pos h1)), .inr rfl⟩
      rw [ey] at hj h2
      obtain ⟨j1, j2⟩ := hj 0 _ rfl
      rw [Nat.add_zero] at j1 j2
      have f1 : gFr en (i + 1) = z.2.2 := gFr_s j2 (by omega)
      by_cases e : j = i
      · subst e
        obtain ⟨s0, sw⟩ := z3 h3
        obtain ⟨m, hm, em⟩ := z2 (by omega)
        rw [f1, hf, z5, show b + s.length - b = s.length by omega]
        refine ⟨by omega, by omega, by rw [j2]; exact congrArg nI z5, ?_, ?_⟩
        · refine kWf_g s b 0 sw (fun x y hy => ?_)
          have hx : x < s.length := by
            rcases Nat.lt_or_ge x s.length with h | h
            · exact h
            · rw [List.getElem?_eq_none h] at hy
              exact nomatch hy
          exact hc x y (by rw [List.getElem?_append_left hx]; exact hy)
        · rw [j1]
          dsimp only
          rcases hy with hy | hy
          · rw [hy, em, nI_toInt (by omega)]
            omega
          · rw [hy, em, Int32.toInt_neg, nI_toInt (by omega), Int.bmod_eq_of_le (by omega) (by omega)]
            omega
      · have h4 : j < i + ((kJs L).length + 1) := h2
        exact kL_kw L (b + s.length) (i + 1) r' hL' (by omega) (kRj_t hj) hc' (by rw [f1, z5]) j (by omega) (by omega)
    · have hs := z4 (by omega)
      subst hs
      have ey : kJs (z :: L) = kJs L := by
        show (if z.1 = 0 then _ else if z.1 = 1 then _ else kJs L) = _
        rw [if_neg (by omega), if_neg (by omega)]
      rw [ey] at hj h2
      exact kL_kw L b i r' hL' (by omega) hj hc' hf j h1 h2
/-- give, leave, half: the last of each -/
theorem kL_g {o : Nat} : ∀ (L : List kCs) (q b : Nat) (r : List kSy) (x : Int32), kLs L b r → kRm wd nu fr to o q b L → gLa wd nu 2 q L.length x = L.foldl kSG x
  | [], q, b, r, x, hL, hm => rfl
  | z :: L, q, b, r, x, hL, hm => by
    obtain ⟨s, r', ⟨-, ⟨⟨z1, z2⟩, -, -⟩, z5⟩, hL'⟩ := hL
    obtain ⟨m1, m2, m3⟩ := hm 0 z rfl
    rw [Nat.add_zero] at m1 m2
    have m4 := kRm_t hm
    rw [z5] at m4
    show gLa wd nu 2 (q + 1) L.length (if wd q = 2 then nu q else x) = L.foldl kSG (if z.1 = 2 then z.2.1 else x)
    rw [kL_g L (q + 1) (b + s.length) r' _ hL' m4]
    congr 1
    by_cases h : z.1 = 2
    · rw [if_pos h, if_pos (by rw [m1, h]; rfl), m2 (by omega)]
    · rw [if_neg h, if_neg (by rw [m1]; exact fun e => h ((q_eqw z1 (by decide)).mp e))]
theorem kL_l {o : Nat} : ∀ (L : List kCs) (q b : Nat) (r : List kSy) (x : Int32), kLs L b r → kRm wd nu fr to o q b L → gLa wd nu 3 q L.length x = L.foldl kSL x
  | [], q, b, r, x, hL, hm => rfl
  | z :: L, q, b, r, x, hL, hm => by
    obtain ⟨s, r', ⟨-, ⟨⟨z1, z2⟩, -, -⟩, z5⟩, hL'⟩ := hL
    obtain ⟨m1, m2, m3⟩ := hm 0 z rfl
    rw [Nat.add_zero] at m1 m2
    have m4 := kRm_t hm
    rw [z5] at m4
    show gLa wd nu 3 (q + 1) L.length (if wd q = 3 then nu q else x) = L.foldl kSL (if z.1 = 3 then z.2.1 else x)
    rw [kL_l L (q + 1) (b + s.length) r' _ hL' m4]
    congr 1
    by_cases h : z.1 = 3
    · rw [if_pos h, if_pos (by rw [m1, h]; rfl), m2 (by omega)]
    · rw [if_neg h, if_neg (by rw [m1]; exact fun e => h ((q_eqw z1 (by decide)).mp e))]
theorem kL_h {o : Nat} : ∀ (L : List kCs) (q b : Nat) (r : List kSy) (x : Int32), kLs L b r → kRm wd nu fr to o q b L → gHa wd q L.length x = L.foldl kSH x
  | [], q, b, r, x, hL, hm => rfl
  | z :: L, q, b, r, x, hL, hm => by
    obtain ⟨s, r', ⟨-, ⟨⟨z1, z2⟩, -, -⟩, z5⟩, hL'⟩ := hL
    obtain ⟨m1, m2, m3⟩ := hm 0 z rfl
    rw [Nat.add_zero] at m1 m2
    have m4 := kRm_t hm
    rw [z5] at m4
    show gHa wd (q + 1) L.length (if 4 ≤ wd q then (if wd q = 4 then 1 else 0) else x) = L.foldl kSH (if z.1 = 4 then 1 else if z.1 = 5 then 0 else x)
    rw [kL_h L (q + 1) (b + s.length) r' _ hL' m4, m1]
    congr 1
    by_cases h : z.1 = 4
    · rw [if_pos h, h]
      exact (if_pos (by decide)).trans (if_pos (by decide))
    · rw [if_neg h]
      by_cases h5 : z.1 = 5
      · rw [if_pos h5, h5]
        exact (if_pos (by decide)).trans (if_neg (by decide))
      · rw [if_neg h5, if_neg (show ¬ (4 : Int32) ≤ nI z.1 from q_tnle (m := 4) (n := z.1) (by omega) (by omega))]
theorem iR_99 {m : Nat} (h : m < 100) : iR (nI m) 0 99 := by
  unfold iR
  rw [nI_toInt (by omega)]
  omega
theorem kL_gb : ∀ (L : List kCs) (b : Nat) (r : List kSy) (x y : Int32), kLs L b r → iR x 0 99 → iR y 0 99 → iR (L.foldl kSG x) 0 99 ∧ iR (L.foldl kSL y) 0 99
  | [], b, r, x, y, hL, hx, hy => ⟨hx, hy⟩
  | z :: L, b, r, x, y, hL, hx, hy => by
    obtain ⟨s, r', ⟨-, ⟨⟨z1, z2⟩, -, -⟩, z5⟩, hL'⟩ := hL
    refine kL_gb L (b + s.length) r' (kSG x z) (kSL y z) hL' ?_ ?_
    · unfold kSG
      by_cases h : z.1 = 2
      · obtain ⟨m, hm, em⟩ := z2 (by omega)
        rw [if_pos h, em]
        exact iR_99 hm
      · rw [if_neg h]
        exact hx
    · unfold kSL
      by_cases h : z.1 = 3
      · obtain ⟨m, hm, em⟩ := z2 (by omega)
        rw [if_pos h, em]
        exact iR_99 hm
      · rw [if_neg h]
        exact hy
end KL
