/-! ===== a run again, so that simp never looks into what is not yet reached ===== -/
section ZK
variable {cl : zA} {y : Nat} {Q : Option Value → zW → Prop} {K : zC → Prop}
def zgk (cl : zA) (y : Nat) (Q : Option Value → zW → Prop) (n : Nat) : zC → Prop := fun c' => match zhd y c'.1 with
    | some m => zWP cl y (c'.1, zmk m c'.2.1, c'.2.2) Q
    | none => zg cl y Q n c'
def zgh (cl : zA) (y : Nat) (Q : Option Value → zW → Prop) (n pc : Nat) (ls : zL) (st : List Value) (w : zW) : Option (List Bool) → Prop
  | some m => zWP cl y (pc, zmk m ls, st, w) Q
  | none => zg cl y Q n (pc, ls, st, w)
theorem zg_0 {c : zC} : zg cl y Q 0 c = zWP cl y c Q := rfl
theorem zg_s {n pc : Nat} {ls : zL} {st : List Value} {w : zW} : zg cl y Q (n + 1) (pc, ls, st, w) = zwp1 cl (zgk cl y Q n) Q (zpr y pc (pc, ls, st, w)) := rfl
theorem zgk_s {n pc : Nat} {ls : zL} {st : List Value} {w : zW} : zgk cl y Q n (pc, ls, st, w) = zgh cl y Q n pc ls st w (zhd y pc) := by
  unfold zgk zgh
  cases zhd y pc <;> rfl
theorem zgh_n {n pc : Nat} {ls : zL} {st : List Value} {w : zW} : zgh cl y Q n pc ls st w none = zg cl y Q n (pc, ls, st, w) := rfl
theorem zgh_s {n pc : Nat} {ls : zL} {st : List Value} {w : zW} {m : List Bool} : zgh cl y Q n pc ls st w (some m) = zWP cl y (pc, zmk m ls, st, w) Q := rfl
def zqc (K : zC → Prop) (pc : Nat) (ls : zL) (st : List Value) : Option (Option Value × zW) → Prop
  | some (r, w1) => K (pc, ls, r.toList ++ st, w1)
  | none => False
theorem zqc_s {pc : Nat} {ls : zL} {st : List Value} {r : Option Value} {w1 : zW} : zqc K pc ls st (some (r, w1)) = K (pc, ls, r.toList ++ st, w1) := rfl
theorem zq_cl2 {b : Bool} {y : Nat} {as : List Value} {pc : Nat} {ls : zL} {st : List Value} {w : zW} : zwp1 cl K Q (.inr (.inr (.inr (.inl (b, y, as, (pc, ls, st, w)))))) = (if b = true then zqc K pc ls st (cl y as w) else False) := by
  cases b
  · simp [zwp1]
  · simp [zwp1]
    exact Iff.rfl
end ZK
/-! ===== ends that are not told beforehand ===== -/
theorem zwn_end {cl : zA} {y : Nat} {Q : Option Value → zW → Prop} : ∀ (n : Nat) (c : zC), zwn cl y Q n c → ∃ r w, Q r w ∧ zwn cl y (fun r1 w1 => r1 = r ∧ w1 = w) n c
  | 0, _, h => h.elim
  | n + 1, c, h => by
    unfold zwn at h
    unfold zwn
    generalize zpr y c.1 c = o at h
    match o, h with
    | .inl c', h => exact zwn_end n _ h
    | .inr (.inl (true, c1, c2)), h =>
      obtain ⟨r, w, hq, h2⟩ := zwn_end n _ (h.1 rfl)
      exact ⟨r, w, hq, fun _ => h2, fun e => absurd e (by decide)⟩
    | .inr (.inl (false, c1, c2)), h =>
      obtain ⟨r, w, hq, h2⟩ := zwn_end n _ (h.2 rfl)
      exact ⟨r, w, hq, fun e => absurd e (by decide), fun _ => h2⟩
    | .inr (.inr (.inl (b, c'))), h =>
      obtain ⟨r, w, hq, h2⟩ := zwn_end n _ h.2
      exact ⟨r, w, hq, h.1, h2⟩
    | .inr (.inr (.inr (.inl (b, y', as, c')))), h =>
      have h2 := h.2
      cases hc : cl y' as c'.2.2.2 with
      | none => rw [hc] at h2; exact h2.elim
      | some z =>
        rw [hc] at h2
        obtain ⟨r, w, hq, h3⟩ := zwn_end n _ h2
        refine ⟨r, w, hq, h.1, ?_⟩
        rw [hc]
        exact h3
    | .inr (.inr (.inr (.inr (.inl (b, v, w))))), h => exact ⟨v, w, h.2, h.1, rfl, rfl⟩
    | .inr (.inr (.inr (.inr (.inr (.inl (x, r, d, c')))))), h =>
      obtain ⟨t, h1, h2⟩ := zsws_pick r d h
      obtain ⟨r, w, hq, h3⟩ := zwn_end n _ h1
      exact ⟨r, w, hq, (h2 _).mpr h3⟩
    | .inr (.inr (.inr (.inr (.inr (.inr _))))), h => exact h.elim
theorem zcl_ex {d y : Nat} {as : List Value} {w : zW} {Q : Option Value → zW → Prop} (hf : (zla as).length ≤ zml y) (h : zWP (zcl d) y (zent y as w) Q) : ∃ r w', zcl (d + 1) y as w = some (r, w') ∧ Q r w' := by
  obtain ⟨n, h⟩ := h
  obtain ⟨r, w', hq, h2⟩ := zwn_end n _ h
  exact ⟨r, w', zcl_of hf ⟨n, h2⟩, hq⟩
/-- an end with the answer r0, only ints changed, to such as have P -/
def zEn (r0 : Option Value) (J : zJ) (R : zR) (P : zI → Prop) (r : Option Value) (w : zW) : Prop := ∃ I', (r = r0 ∧ w = (I', J, R, 111)) ∧ P I'
theorem zEn_mk {r0 : Option Value} {J : zJ} {R : zR} {P : zI → Prop} {I : zI} (h : P I) : zEn r0 J R P r0 (I, J, R, 111) := ⟨I, ⟨rfl, rfl⟩, h⟩
theorem zEn_mo {r0 : Option Value} {J : zJ} {R : zR} {P P' : zI → Prop} (h : ∀ I, P I → P' I) {r : Option Value} {w : zW} (q : zEn r0 J R P r w) : zEn r0 J R P' r w := q.elim fun I' z => ⟨I', z.1, h _ z.2⟩
theorem zcl_en {d y : Nat} {as : List Value} {w : zW} {r0 : Option Value} {J : zJ} {R : zR} {P : zI → Prop} (hf : (zla as).length ≤ zml y) (h : zWP (zcl d) y (zent y as w) (zEn r0 J R P)) : ∃ I', zcl (d + 1) y as w = some (r0, (I', J, R, 111)) ∧ P I' := by
  obtain ⟨r, w', h1, I', ⟨h2, h3⟩, h4⟩ := zcl_ex hf h
  rw [h2, h3] at h1
  exact ⟨I', h1, h4⟩
/-! ===== numbers ===== -/
theorem q_divI {x k : Nat} (hx : x < 2147483648) (h0 : 0 < k) (hk : k < 2147483648) : nI x / nI k = nI (x / k) := pk_div hx h0 hk
theorem q_remI {x k : Nat} (hx : x < 2147483648) (h0 : 0 < k) (hk : k < 2147483648) : nI x - nI x / nI k * nI k = nI (x % k) := pk_rem hx h0 hk
theorem q_min2 (a b : Int32) : (if a < b then a else b) = (if b < a then b else a) := by
  by_cases h : a < b
  · rw [if_pos h, if_neg (Int32.lt_asymm h)]
  · rw [if_neg h]
    by_cases h2 : b < a
    · rw [if_pos h2]
    · rw [if_neg h2]
      exact Int32.le_antisymm (Int32.not_lt.mp h) (Int32.not_lt.mp h2)
/-! ===== what an over or under is about: codes behind one another, a pile of yes and no ===== -/
/-- a test: letter p, sign s, number n -/
def gTs (L : Nat → Int32) (p s n : Nat) : Bool := if s = 0 then decide (L p < nI n) else if s = 1 then decide (L p = nI n) else decide (nI n < L p)
def gTok (L : Nat → Int32) (x : Int32) (k : List Bool) : List Bool :=
  if x = -1 then (match k with | b :: r => (!b) :: r | [] => [])
  else if x = -2 then (match k with | b :: a :: r => (a && b) :: r | _ => [])
  else if x = -3 then (match k with | b :: a :: r => (a || b) :: r | _ => [])
  else gTs L (x.toNatClampNeg / 300 % 6) (x.toNatClampNeg / 100 % 3) (x.toNatClampNeg % 100) :: k
/-- how many are held behind a code -/
def gDp (x : Int32) (n : Nat) : Nat := if x = -1 then n else if x = -2 then n - 1 else if x = -3 then n - 1 else n + 1
/-- the code may come when n are held -/
def gOk (x : Int32) (n : Nat) : Prop := (x = -1 ∧ 1 ≤ n) ∨ (x = -2 ∧ 2 ≤ n) ∨ (x = -3 ∧ 2 ≤ n) ∨ ∃ p s m, p < 6 ∧ s < 3 ∧ m < 100 ∧ x = nI (300 * p + 100 * s + m) ∧ n < 30
def gRun (co : Nat → Int32) (L : Nat → Int32) : Nat → Nat → List Bool → List Bool
  | _, 0, k => k
  | a, n + 1, k => gRun co L (a + 1) n (gTok L (co a) k)
/-- n codes from a on, k held ahead of them: all may come, and one is held in the end -/
def gWf (co : Nat → Int32) : Nat → Nat → Nat → Prop
  | _, 0, k => k = 1
  | a, n + 1, k => gOk (co a) k ∧ gWf co (a + 1) n (gDp (co a) k)
def gSo (co : Nat → Int32) (L : Nat → Int32) (a e : Nat) : Bool := (gRun co L a (e - a) []).headD false
/-- where the codes of judgement i begin -/
def gFr (en : Nat → Int32) (i : Nat) : Nat := if i = 0 then 0 else (en (i - 1)).toNatClampNeg
def gMs (ch en co : Nat → Int32) (L : Nat → Int32) : Nat → Int32
  | 0 => 0
  | i + 1 => if gSo co L (gFr en i) (gFr en (i + 1)) then gMs ch en co L i + ch i else gMs ch en co L i
/-- j judgements, as they must be -/
def gKw (j : Nat) (ch en co : Nat → Int32) : Prop := j ≤ 10 ∧ ∀ i, i < j → gFr en i < gFr en (i + 1) ∧ gFr en (i + 1) ≤ 100 ∧ en i = nI (gFr en (i + 1)) ∧ gWf co (gFr en i) (gFr en (i + 1) - gFr en i) 0 ∧ -99 ≤ (ch i).toInt ∧ (ch i).toInt ≤ 99
theorem gOk_pos {p s m : Nat} (hp : p < 6) (hs : s < 3) (hm : m < 100) : (¬ nI (300 * p + 100 * s + m) = -1) ∧ (¬ nI (300 * p + 100 * s + m) = -2) ∧ (¬ nI (300 * p + 100 * s + m) = -3) := by
  have e : ∀ z : Nat, 0 < z → z < 2147483648 → ¬ nI (300 * p + 100 * s + m) = -nI z := by
    intro z h0 hz e
    have e2 := congrArg Int32.toInt e
    rw [nI_toInt (by omega), Int32.toInt_neg, nI_toInt (by omega)] at e2
    rw [Int.bmod_eq_of_le (by omega) (by omega)] at e2
    omega
  exact ⟨e 1 (by omega) (by omega), e 2 (by omega) (by omega), e 3 (by omega) (by omega)⟩
theorem gOk_len {L : Nat → Int32} {x : Int32} {k : List Bool} (h : gOk x k.length) : (gTok L x k).length = gDp x k.length := by
  unfold gTok gDp
  rcases h with ⟨rfl, h⟩ | ⟨rfl, h⟩ | ⟨rfl, h⟩ | ⟨p, s, m, hp, hs, hm, rfl, h⟩
  · match k, h with
    | b :: r, h => rfl
  · match k, h with
    | b :: a :: r, h => rfl
  · match k, h with
    | b :: a :: r, h => rfl
  · obtain ⟨h1, h2, h3⟩ := gOk_pos hp hs hm
    rw [if_neg h1, if_neg h2, if_neg h3, if_neg h1, if_neg h2, if_neg h3]
    rfl
theorem gTok_test {L : Nat → Int32} {p s m : Nat} {k : List Bool} (hp : p < 6) (hs : s < 3) (hm : m < 100) : gTok L (nI (300 * p + 100 * s + m)) k = gTs L p s m :: k := by
  obtain ⟨h1, h2, h3⟩ := gOk_pos hp hs hm
  unfold gTok
  rw [if_neg h1, if_neg h2, if_neg h3, nI_clamp (by omega)]
  rw [show (300 * p + 100 * s + m) / 300 % 6 = p from by omega, show (300 * p + 100 * s + m) / 100 % 3 = s from by omega, show (300 * p + 100 * s + m) % 100 = m from by omega]
/-- the class holds them as bits, the newest lowest -/
def hB (h : Int32) (k : List Bool) : Prop := k.length ≤ 30 ∧ ∀ i : Nat, i < k.length → h.toBitVec.getLsbD i = k.getD i false
theorem hB_not {h : Int32} {b : Bool} {k : List Bool} (q : hB h (b :: k)) : hB (h ^^^ 1) ((!b) :: k) := by
  obtain ⟨q1, q2⟩ := q
  refine ⟨q1, fun i hi => ?_⟩
  have q3 := q2 i hi
  rw [Int32.toBitVec_xor, BitVec.getLsbD_xor, q3]
  match i with
  | 0 => simp
  | i + 1 => simp
theorem hB_and {h : Int32} {a b : Bool} {k : List Bool} (q : hB h (b :: a :: k)) : hB ((h >>> 1) &&& (h ||| -2)) ((a && b) :: k) := by
  obtain ⟨q1, q2⟩ := q
  simp only [List.length_cons] at q1 q2
  refine ⟨by simp only [List.length_cons]; omega, fun i hi => ?_⟩
  simp only [List.length_cons] at hi
  have q4 : h.toBitVec.getLsbD 0 = b := q2 0 (by omega)
  have q5 : h.toBitVec.getLsbD 1 = a := q2 1 (by omega)
  rw [Int32.toBitVec_and, BitVec.getLsbD_and, Int32.toBitVec_or, BitVec.getLsbD_or]
  have e : (h >>> 1).toBitVec = h.toBitVec.sshiftRight 1 := by
    rw [Int32.toBitVec_shiftRight]
    rfl
  rw [e, BitVec.getLsbD_sshiftRight]
  match i, hi with
  | 0, _ =>
    simp at q4 q5 ⊢
    simp [q4, q5]
  | i + 1, hi =>
    have h32 : ¬ (32 ≤ i + 1) := by omega
    have h33 : i + 1 + 1 < 32 := by omega
    have q3 : h.toBitVec.getLsbD (i + 1 + 1) = k.getD i false := q2 (i + 1 + 1) (by omega)
    have e2 : (-2 : Int32).toBitVec.getLsbD (i + 1) = true := by
      have : ∀ j : Fin 31, (-2 : Int32).toBitVec.getLsbD (j.val + 1) = true := by decide
      exact this ⟨i, by omega⟩
    rw [e2, show 1 + (i + 1) = i + 1 + 1 from by omega]
    simp only [h32, h33, decide_false, Bool.not_false, Bool.true_and, if_true, q3, Bool.or_true, Bool.and_true, Bool.and_false, Bool.or_false]
    rfl
theorem hB_or {h : Int32} {a b : Bool} {k : List Bool} (q : hB h (b :: a :: k)) : hB ((h >>> 1) ||| (h &&& 1)) ((a || b) :: k) := by
  obtain ⟨q1, q2⟩ := q
  simp only [List.length_cons] at q1 q2
  refine ⟨by simp only [List.length_cons]; omega, fun i hi => ?_⟩
  simp only [List.length_cons] at hi
  have q4 : h.toBitVec.getLsbD 0 = b := q2 0 (by omega)
  have q5 : h.toBitVec.getLsbD 1 = a := q2 1 (by omega)
  rw [Int32.toBitVec_or, BitVec.getLsbD_or, Int32.toBitVec_and, BitVec.getLsbD_and]
  have e : (h >>> 1).toBitVec = h.toBitVec.sshiftRight 1 := by
    rw [Int32.toBitVec_shiftRight]
    rfl
  rw [e, BitVec.getLsbD_sshiftRight]
  match i, hi with
  | 0, _ =>
    simp at q4 q5 ⊢
    simp [q4, q5]
  | i + 1, hi =>
    have h32 : ¬ (32 ≤ i + 1) := by omega
    have h33 : i + 1 + 1 < 32 := by omega
    have q3 : h.toBitVec.getLsbD (i + 1 + 1) = k.getD i false := q2 (i + 1 + 1) (by omega)
    have e2 : (1 : Int32).toBitVec.getLsbD (i + 1) = false := by
      have : ∀ j : Fin 31, (1 : Int32).toBitVec.getLsbD (j.val + 1) = false := by decide
      exact this ⟨i, by omega⟩
    rw [e2, show 1 + (i + 1) = i + 1 + 1 from by omega]
    simp only [h32, h33, decide_false, Bool.not_false, Bool.true_and, if_true, q3, Bool.or_true, Bool.and_true, Bool.and_false, Bool.or_false]
    rfl
theorem hB_push {h : Int32} {b : Bool} {k : List Bool} (q : hB h k) (hk : k.length < 30) : hB ((h <<< 1) ||| (if b = true then 1 else 0)) (b :: k) := by
  obtain ⟨q1, q2⟩ := q
  refine ⟨by simp only [List.length_cons]; omega, fun i hi => ?_⟩
  simp only [List.length_cons] at hi
  rw [Int32.toBitVec_or, BitVec.getLsbD_or]
  have e : (h <<< 1).toBitVec = h.toBitVec <<< 1 := by
    rw [Int32.toBitVec_shiftLeft]
    rfl
  rw [e, BitVec.getLsbD_shiftLeft]
  match i with
  | 0 => cases b <;> simp
  | i + 1 =>
    have e2 : ∀ c : Bool, (if c = true then (1 : Int32) else 0).toBitVec.getLsbD (i + 1) = false := by
      have h1 : ∀ j : Fin 31, (1 : Int32).toBitVec.getLsbD (j.val + 1) = false := by decide
      have h0 : ∀ j : Fin 31, (0 : Int32).toBitVec.getLsbD (j.val + 1) = false := by decide
      intro c
      cases c
      · exact h0 ⟨i, by omega⟩
      · exact h1 ⟨i, by omega⟩
    rw [e2, show i + 1 - 1 = i from rfl, q2 i (by omega)]
    simp
    omega
theorem hB_top {h : Int32} {b : Bool} (q : hB h [b]) : (h &&& 1 = 1) ↔ b = true := by
  have q3 := q.2 0 (by simp)
  have e : h &&& 1 = if h.toBitVec.getLsbD 0 = true then 1 else 0 := by
    apply Int32.toBitVec_inj.mp
    rw [Int32.toBitVec_and]
    apply BitVec.eq_of_getLsbD_eq
    intro i hi
    rw [BitVec.getLsbD_and]
    match i with
    | 0 => cases h.toBitVec.getLsbD 0 <;> simp
    | i + 1 =>
      have h1 : ∀ j : Fin 31, (1 : Int32).toBitVec.getLsbD (j.val + 1) = false := by decide
      have h0 : ∀ j : Fin 31, (0 : Int32).toBitVec.getLsbD (j.val + 1) = false := by decide
      rw [h1 ⟨i, by omega⟩]
      cases h.toBitVec.getLsbD 0
      · simpa using (h0 ⟨i, by omega⟩).symm
      · simpa using (h1 ⟨i, by omega⟩).symm
  rw [e, q3]
  cases b <;> simp
theorem q_nz : ((2 : Int32) = 0 ↔ False) ∧ ((3 : Int32) = 0 ↔ False) ∧ ((4 : Int32) = 0 ↔ False) ∧ ((6 : Int32) = 0 ↔ False) ∧ ((10 : Int32) = 0 ↔ False) ∧ ((100 : Int32) = 0 ↔ False) ∧ ((300 : Int32) = 0 ↔ False) ∧ ((1000 : Int32) = 0 ↔ False) := by decide
theorem zshA : zsh 0 = (0, 6, 11) ∧ zsh 1 = (0, 1, 8) ∧ zsh 2 = (1, 0, 10) ∧ zsh 3 = (1, 0, 10) ∧ zsh 4 = (1, 0, 100) ∧ zsh 5 = (0, 4, 16) ∧ zsh 6 = (1, 0, 6) ∧ zsh 7 = (1, 0, 6) ∧ zsh 8 = (1, 0, 6) ∧ zsh 9 = (1, 0, 6) ∧ zsh 10 = (1, 0, 24) ∧ zsh 11 = (1, 0, 6) ∧ zsh 12 = (0, 4, 16) ∧ zsh 13 = (1, 0, 6) ∧ zsh 14 = (1, 0, 6) ∧ zsh 15 = (1, 0, 6) ∧ zsh 16 = (1, 0, 6) ∧ zsh 17 = (1, 0, 24) ∧ zsh 18 = (1, 0, 6) ∧ zsh 19 = (0, 4, 16) ∧ zsh 20 = (1, 0, 6) ∧ zsh 21 = (1, 0, 6) ∧ zsh 22 = (1, 0, 6) ∧ zsh 23 = (1, 0, 6) ∧ zsh 24 = (1, 0, 24) ∧ zsh 25 = (1, 0, 6) ∧ zsh 26 = (0, 2, 7) ∧ zsh 27 = (1, 0, 5) ∧ zsh 28 = (1, 0, 10) ∧ zsh 29 = (1, 0, 8) ∧ zsh 30 = (1, 0, 8) ∧ zsh 31 = (0, 2, 7) ∧ zsh 32 = (1, 0, 5) ∧ zsh 33 = (1, 0, 10) ∧ zsh 34 = (1, 0, 8) ∧ zsh 35 = (1, 0, 8) ∧ zsh 36 = (5, 0, 6) ∧ zsh 37 = (0, 1, 8) ∧ zsh 38 = (1, 0, 10) ∧ zsh 39 = (1, 0, 10) ∧ zsh 40 = (1, 0, 100) ∧ zsh 41 = (0, 1, 8) ∧ zsh 42 = (1, 0, 10) ∧ zsh 43 = (1, 0, 10) ∧ zsh 44 = (1, 0, 100) ∧ zsh 45 = (0, 1, 8) ∧ zsh 46 = (1, 0, 10) ∧ zsh 47 = (1, 0, 10) ∧ zsh 48 = (1, 0, 100) ∧ zsh 49 = (0, 1, 8) ∧ zsh 50 = (1, 0, 10) ∧ zsh 51 = (1, 0, 10) ∧ zsh 52 = (1, 0, 100) ∧ zsh 53 = (0, 1, 8) ∧ zsh 54 = (1, 0, 10) ∧ zsh 55 = (1, 0, 10) ∧ zsh 56 = (1, 0, 100) ∧ zsh 57 = (0, 1, 8) ∧ zsh 58 = (1, 0, 10) ∧ zsh 59 = (1, 0, 10) ∧ zsh 60 = (1, 0, 100) ∧ zsh 61 = (0, 3, 4) ∧ zsh 62 = (2, 0, 100) ∧ zsh 63 = (0, 0, 5) ∧ zsh 64 = (1, 0, 20) ∧ zsh 65 = (0, 5, 3) ∧ zsh 66 = (1, 0, 6) ∧ zsh 67 = (1, 0, 6) ∧ zsh 68 = (6, 0, 6) ∧ zsh 69 = (4, 0, 60) ∧ zsh 70 = (4, 0, 60) ∧ zsh 71 = (4, 0, 60) ∧ zsh 72 = (4, 0, 60) ∧ zsh 73 = (4, 0, 60) ∧ zsh 74 = (4, 0, 60) ∧ zsh 75 = (0, 7, 65) ∧ zsh 76 = (1, 0, 6) ∧ zsh 77 = (1, 0, 6) ∧ zsh 78 = (1, 0, 6) ∧ zsh 79 = (1, 0, 6) ∧ zsh 80 = (1, 0, 24) ∧ zsh 81 = (1, 0, 100) ∧ zsh 82 = (1, 0, 6) ∧ zsh 83 = (1, 0, 60) ∧ zsh 84 = (1, 0, 60) ∧ zsh 85 = (1, 0, 60) ∧ zsh 86 = (1, 0, 60) ∧ zsh 87 = (1, 0, 600) ∧ zsh 88 = (1, 0, 101) ∧ zsh 89 = (1, 0, 25) ∧ zsh 90 = (3, 0, 100) ∧ zsh 91 = (1, 0, 6) ∧ zsh 92 = (1, 0, 6) ∧ zsh 93 = (1, 0, 5) ∧ zsh 94 = (1, 0, 10) ∧ zsh 95 = (1, 0, 8) ∧ zsh 96 = (1, 0, 8) ∧ zsh 97 = (1, 0, 6) ∧ zsh 98 = (1, 0, 6) ∧ zsh 99 = (1, 0, 6) ∧ zsh 100 = (1, 0, 6) ∧ zsh 101 = (1, 0, 24) ∧ zsh 102 = (1, 0, 5) ∧ zsh 103 = (1, 0, 10) ∧ zsh 104 = (1, 0, 8) ∧ zsh 105 = (1, 0, 8) ∧ zsh 106 = (1, 0, 20) ∧ zsh 107 = (1, 0, 6) ∧ zsh 108 = (1, 0, 6) ∧ zsh 109 = (4, 0, 360) ∧ zsh 110 = (4, 0, 60) ∧ zsh 1000 = (7, 8, 2) ∧ zsh 1001 = (7, 8, 2) ∧ zsh 1002 = (7, 8, 2) ∧ zsh 1003 = (7, 8, 2) ∧ zsh 1004 = (7, 8, 2) ∧ zsh 1005 = (7, 8, 2) ∧ zsh 1006 = (7, 8, 2) ∧ zsh 1007 = (7, 8, 2) ∧ zsh 1010 = (2, 0, 5) ∧ zsh 1011 = (2, 0, 6) ∧ zsh 1012 = (2, 0, 5) ∧ zsh 1013 = (2, 0, 6) ∧ zsh 1014 = (2, 0, 4) ∧ zsh 1015 = (2, 0, 3) ∧ zsh 1016 = (2, 0, 6) ∧ zsh 1017 = (2, 0, 3) ∧ zsh 1020 = (1, 0, 7) ∧ zsh 1021 = (1, 0, 0) := ⟨rfl, rfl, rfl, rfl, rfl, rfl, rfl, rfl, rfl, rfl, rfl, rfl, rfl, rfl, rfl, rfl, rfl, rfl, rfl, rfl, rfl, rfl, rfl, rfl, rfl, rfl, rfl, rfl, rfl, rfl, rfl, rfl, rfl, rfl, rfl, rfl, rfl, rfl, rfl, rfl, rfl, rfl, rfl, rfl, rfl, rfl, rfl, rfl, rfl, rfl, rfl, rfl, rfl, rfl, rfl, rfl, rfl, rfl, rfl, rfl, rfl, rfl, rfl, rfl, rfl, rfl, rfl, rfl, rfl, rfl, rfl, rfl, rfl, rfl, rfl, rfl, rfl, rfl, rfl, rfl, rfl, rfl, rfl, rfl, rfl, rfl, rfl, rfl, rfl, rfl, rfl, rfl, rfl, rfl, rfl, rfl, rfl, rfl, rfl, rfl, rfl, rfl, rfl, rfl, rfl, rfl, rfl, rfl, rfl, rfl, rfl, rfl, rfl, rfl, rfl, rfl, rfl, rfl, rfl, rfl, rfl, rfl, rfl, rfl, rfl, rfl, rfl, rfl, rfl⟩
