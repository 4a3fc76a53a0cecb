/-! ===== codes that were read are well-formed ===== -/
section KP
variable {T : Nat → Int32} {N : Nat}
theorem kWf_1 {s : kSy} {k e : Nat} (h : gOk s.1 k ∧ gTr s.1 s.2) (he : gDp s.1 k = e) : kWf [s] k e := ⟨h, he⟩
theorem kWf_not {k : Nat} (h : 1 ≤ k) : kWf [((-1 : Int32), (-33 : Int32))] k k := kWf_1 ⟨.inl ⟨rfl, h⟩, .inl ⟨rfl, rfl⟩⟩ (if_pos rfl)
theorem kWf_and {k e : Nat} (h : 2 ≤ k) (he : e + 1 = k) : kWf [((-2 : Int32), (-38 : Int32))] k e := kWf_1 ⟨.inr (.inl ⟨rfl, h⟩), .inr (.inl ⟨rfl, rfl⟩)⟩ (((if_neg (by decide)).trans (if_pos rfl)).trans (by omega))
theorem kWf_or {k e : Nat} (h : 2 ≤ k) (he : e + 1 = k) : kWf [((-3 : Int32), (-124 : Int32))] k e := kWf_1 ⟨.inr (.inr (.inl ⟨rfl, h⟩)), .inr (.inr (.inl ⟨rfl, rfl⟩))⟩ (((if_neg (by decide)).trans ((if_neg (by decide)).trans (if_pos rfl))).trans (by omega))
theorem kWf_te {x y : Int32} {k p s m : Nat} (hk : k < 30) (hp : p < 6) (hs : s < 3) (hm : m < 100) (hx : x = nI (300 * p + 100 * s + m)) (hy : y = nI (1000 * p + 100 * s + m)) : kWf [(x, y)] k (k + 1) := by
  obtain ⟨n1, n2, n3⟩ := gOk_pos hp hs hm
  refine kWf_1 ⟨.inr (.inr (.inr ⟨p, s, m, hp, hs, hm, hx, hk⟩)), .inr (.inr (.inr ⟨p, s, m, hp, hs, hm, hx, hy⟩))⟩ ?_
  rw [hx]
  exact (if_neg n1).trans ((if_neg n2).trans (if_neg n3))
/-- & is over, | is over -/
theorem kA_wf (A : Bool) {k e : Nat} (h : A = true → 2 ≤ k) (he : e + A.toNat = k) : kWf (kA A []) k e := by
  cases A
  · show k = e
    rw [Bool.toNat_false] at he
    omega
  · exact kWf_and (h rfl) he
theorem kO_wf (A : Bool) {k e : Nat} (h : A = true → 2 ≤ k) (he : e + A.toNat = k) : kWf (kO A []) k e := by
  cases A
  · show k = e
    rw [Bool.toNat_false] at he
    omega
  · exact kWf_or (h rfl) he
theorem kA_ap (A : Bool) (cs : List kSy) : kA A cs = cs ++ kA A [] := by
  cases A
  · exact (List.append_nil cs).symm
  · rfl
theorem kO_ap (A : Bool) (cs : List kSy) : kO A cs = cs ++ kO A [] := by
  cases A
  · exact (List.append_nil cs).symm
  · rfl
def kMx (m : Option (Bool × Bool)) (d : Nat) : Nat := match m with
  | none => 2 * d + 2
  | some (a, o) => 2 * d + (a.toNat + o.toNat)
theorem kR_wf : ∀ (n : Nat) (m : Option (Bool × Bool)) (d at' : Nat) (cs : List kSy) (k : Nat), at' ≤ N → d ≤ 4 → kCr m ≤ k → k ≤ kMx m d → (kR T N n m d at' cs).1 = true → ∃ nw, (kR T N n m d at' cs).2.2 = cs ++ nw ∧ kWf nw k (k + 1 - kCr m)
  | 0, m, d, at', cs, k, ha, hd, h1, h2, hr => nomatch hr
  | n + 1, none, d, at', cs, k, ha, hd, h1, h2, hr => by
    have hk : k ≤ 2 * d + 2 := h2
    have ih := kR_wf n
    by_cases h3 : d < 4 ∧ kNx T N at' = 33
    · have hl := kNx_lt h3.2 (by decide)
      by_cases hq : (kR T N n none (d + 1) (at' + 1) cs).1 = true
      · rw [kR_n1 h3 hq]
        obtain ⟨nw, e, w⟩ := ih none (d + 1) (at' + 1) cs k (by omega) (by omega) h1 (by show k ≤ 2 * (d + 1) + 2; omega) hq
        exact ⟨nw ++ [(-1, -33)], by show _ ++ _ = _; rw [e, List.append_assoc], kWf_app _ _ _ _ _ w (kWf_not (by show 1 ≤ k + 1 - 0; omega))⟩
      · rw [kR_n0 h3 hq] at hr
        exact absurd hr hq
    by_cases h4 : d < 4 ∧ kNx T N at' = 40
    · have hl := kNx_lt h4.2 (by decide)
      by_cases hq : (kR T N n (some (false, false)) (d + 1) (at' + 1) cs).1 = true
      · by_cases h5 : kNx T N (kR T N n (some (false, false)) (d + 1) (at' + 1) cs).2.1 = 41
        · rw [kR_b1 h4 hq h5]
          exact ih (some (false, false)) (d + 1) (at' + 1) cs k (by omega) (by omega) (Nat.zero_le _) (by show k ≤ 2 * (d + 1) + (0 + 0); omega) hq
        · rw [kR_b2 h4 hq h5] at hr
          exact nomatch hr
      · rw [kR_b0 h4 hq] at hr
        exact absurd hr hq
    rw [kR_t h3 h4] at hr ⊢
    rcases kTe_b (T := T) at' cs ha with ⟨j, e, -⟩ | ⟨j, x, y, e, g1, g2, p, s, m, hp, hs, hm, hx, hy⟩
    · rw [e] at hr
      exact nomatch hr
    · rw [e]
      exact ⟨_, rfl, kWf_te (by omega) hp hs hm hx hy⟩
  | n + 1, some (A, O), d, at', cs, k, ha, hd, h1, h2, hr => by
    have h1' : A.toNat + O.toNat ≤ k := h1
    have hk : k ≤ 2 * d + (A.toNat + O.toNat) := h2
    have ha1 : A.toNat ≤ 1 := by cases A <;> decide
    have ho1 : O.toNat ≤ 1 := by cases O <;> decide
    have ih := kR_wf n
    by_cases hq : (kR T N n none d at' cs).1 = true
    · obtain ⟨⟨a1, a2, a3⟩, -⟩ := kR_b (T := T) (N := N) n none d at' cs ha
      obtain ⟨nw, e, w⟩ := ih none d at' cs k ha hd (Nat.zero_le _) (by show k ≤ 2 * d + 2; omega) hq
      have w1 : kWf nw k (k + 1) := w
      have wa : kWf (nw ++ kA A []) k (k + 1 - A.toNat) := kWf_app _ _ _ _ _ w1 (kA_wf A (fun z => by rw [z] at h1'; simp only [Bool.toNat_true] at h1'; omega) (by omega))
      have wo : kWf ((nw ++ kA A []) ++ kO O []) k (k + 1 - A.toNat - O.toNat) := kWf_app _ _ _ _ _ wa (kO_wf O (fun z => by rw [z] at h1'; simp only [Bool.toNat_true] at h1'; omega) (by omega))
      have ea : kA A (kR T N n none d at' cs).2.2 = cs ++ (nw ++ kA A []) := by rw [kA_ap, e, List.append_assoc]
      have eo : kO O (kA A (kR T N n none d at' cs).2.2) = cs ++ ((nw ++ kA A []) ++ kO O []) := by rw [kO_ap, ea, List.append_assoc]
      by_cases h3 : kNx T N (kR T N n none d at' cs).2.1 = 38
      · have hl := kNx_lt h3 (by decide)
        rw [kR_e1 hq h3] at hr ⊢
        obtain ⟨n2, e2, w2⟩ := ih (some (true, O)) d _ _ (k + 1 - A.toNat) (by omega) hd (by show 1 + O.toNat ≤ _; omega) (by show _ ≤ 2 * d + (1 + O.toNat); omega) hr
        refine ⟨(nw ++ kA A []) ++ n2, by rw [e2, ea, List.append_assoc], kWf_app _ _ _ _ _ wa ?_⟩
        have z : k + 1 - A.toNat + 1 - (1 + O.toNat) = k + 1 - (A.toNat + O.toNat) := by omega
        have w3 : kWf n2 (k + 1 - A.toNat) (k + 1 - A.toNat + 1 - (1 + O.toNat)) := w2
        rw [z] at w3
        exact w3
      by_cases h4 : kNx T N (kR T N n none d at' cs).2.1 = 124
      · have hl := kNx_lt h4 (by decide)
        rw [kR_e2 hq h4] at hr ⊢
        obtain ⟨n2, e2, w2⟩ := ih (some (false, true)) d _ _ (k + 1 - A.toNat - O.toNat) (by omega) hd (by show 0 + 1 ≤ _; omega) (by show _ ≤ 2 * d + (0 + 1); omega) hr
        refine ⟨((nw ++ kA A []) ++ kO O []) ++ n2, by rw [e2, eo, List.append_assoc], kWf_app _ _ _ _ _ wo ?_⟩
        have z : k + 1 - A.toNat - O.toNat + 1 - (0 + 1) = k + 1 - (A.toNat + O.toNat) := by omega
        have w3 : kWf n2 (k + 1 - A.toNat - O.toNat) (k + 1 - A.toNat - O.toNat + 1 - (0 + 1)) := w2
        rw [z] at w3
        exact w3
      rw [kR_e3 hq h3 h4]
      refine ⟨(nw ++ kA A []) ++ kO O [], eo, ?_⟩
      have z : k + 1 - A.toNat - O.toNat = k + 1 - (A.toNat + O.toNat) := by omega
      rw [z] at wo
      exact wo
    · rw [kR_e0 hq] at hr
      exact absurd hr hq
/-- well-formed codes in a row are a judgement -/
theorem kWf_g {co : Nat → Int32} : ∀ (s : List kSy) (o k : Nat), kWf s k 1 → (∀ j z, s[j]? = some z → co (o + j) = z.1) → gWf co o s.length k
  | [], o, k, h, q => h
  | x :: s, o, k, h, q => by
    have e : co o = x.1 := q 0 x rfl
    show gOk (co o) k ∧ gWf co (o + 1) s.length (gDp (co o) k)
    rw [e]
    refine ⟨h.1.1, kWf_g s (o + 1) _ h.2 (fun j z hz => ?_)⟩
    rw [show o + 1 + j = o + (j + 1) by omega]
    exact q (j + 1) z hz
theorem kWf_tr : ∀ (s : List kSy) (k e : Nat), kWf s k e → ∀ z ∈ s, gTr z.1 z.2
  | [], k, e, h, z, hz => absurd hz List.not_mem_nil
  | x :: s, k, e, h, z, hz => by
    rcases List.mem_cons.mp hz with rfl | hz
    · exact h.1.2
    · exact kWf_tr s _ e h.2 z hz
end KP
