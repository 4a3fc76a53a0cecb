/-! ===== what both sides hold alike between two orders ===== -/
theorem zup_row {α : Type} {f : Nat → Nat → α} {k j a : Nat} {x : α} : zup f k j x a = if a = k then (fun b => if b = j then x else f a b) else f a := by
  funext b
  rw [zup_at]
  by_cases h : a = k
  · by_cases h2 : b = j <;> simp [h, h2]
  · simp [h]
/-- SEEN, the PLAN, the BOOK: the class's counts a b c and rows, the model's -/
def vNt (a b c a' b' c' : Int32) (s p w l s' p' w' l' : Nat → Int32) : Prop :=
  (a = a' ∧ b = b' ∧ c = c') ∧ (s = s' ∧ p = p' ∧ w = w' ∧ l = l') ∧
  (∃ n, n ≤ 5 ∧ a' = nI n) ∧ (∃ n, n ≤ 10 ∧ b' = nI n) ∧ (∃ n, n ≤ 8 ∧ c' = nI n) ∧
  (∀ j, 0 ≤ s' j ∧ s' j ≤ 999) ∧ (∀ j, p' j = 0 ∨ p' j = 1) ∧ (∀ j, (0 ≤ w' j ∧ w' j < 6) ∧ 0 ≤ l' j ∧ l' j ≤ 999)
theorem vNt_see0 {a b c a' b' c' : Int32} {s p w l s' p' w' l' : Nat → Int32} (h : vNt a b c a' b' c' s p w l s' p' w' l') : vNt 0 b c 0 b' c' s p w l s' p' w' l' := by
  obtain ⟨⟨h1, h2, h3⟩, h4, h5, h6⟩ := h
  exact ⟨⟨rfl, h2, h3⟩, h4, ⟨0, by omega, rfl⟩, h6⟩
theorem vNt_plan0 {a b c a' b' c' : Int32} {s p w l s' p' w' l' : Nat → Int32} (h : vNt a b c a' b' c' s p w l s' p' w' l') : vNt a 0 c a' 0 c' s p w l s' p' w' l' := by
  obtain ⟨⟨h1, h2, h3⟩, h4, h5, h6, h7⟩ := h
  exact ⟨⟨h1, rfl, h3⟩, h4, h5, ⟨0, by omega, rfl⟩, h7⟩
theorem vNt_book0 {a b c a' b' c' : Int32} {s p w l s' p' w' l' : Nat → Int32} (h : vNt a b c a' b' c' s p w l s' p' w' l') : vNt a b 0 a' b' 0 s p w l s' p' w' l' := by
  obtain ⟨⟨h1, h2, h3⟩, h4, h5, h6, h7, h8⟩ := h
  exact ⟨⟨h1, h2, rfl⟩, h4, h5, h6, ⟨0, by omega, rfl⟩, h8⟩
theorem vNt_see {b c b' c' x : Int32} {m : Nat} {s p w l s' p' w' l' : Nat → Int32} (hm : m < 5) (hx : 0 ≤ x ∧ x ≤ 999) (h : vNt (nI m) b c (nI m) b' c' s p w l s' p' w' l') : vNt (nI (m + 1)) b c (nI (m + 1)) b' c' (fun j => if j = m then x else s j) p w l (fun j => if j = m then x else s' j) p' w' l' := by
  obtain ⟨⟨h1, h2, h3⟩, ⟨h4, h41⟩, h5, h6, h7, h8, h9⟩ := h
  refine ⟨⟨rfl, h2, h3⟩, ⟨by rw [h4], h41⟩, ⟨m + 1, by omega, rfl⟩, h6, h7, fun j => ?_, h9⟩
  by_cases e : j = m
  · simp only [e, ↓reduceIte]
    exact hx
  · simp only [e, ↓reduceIte]
    exact h8 j
theorem vNt_plan {a c a' c' x : Int32} {m : Nat} {s p w l s' p' w' l' : Nat → Int32} (hm : m < 10) (hx : x = 0 ∨ x = 1) (h : vNt a (nI m) c a' (nI m) c' s p w l s' p' w' l') : vNt a (nI (m + 1)) c a' (nI (m + 1)) c' s (fun j => if j = m then x else p j) w l s' (fun j => if j = m then x else p' j) w' l' := by
  obtain ⟨⟨h1, h2, h3⟩, ⟨h4, h41, h42⟩, h5, h6, h7, h8, h9, h10⟩ := h
  refine ⟨⟨h1, rfl, h3⟩, ⟨h4, by rw [h41], h42⟩, h5, ⟨m + 1, by omega, rfl⟩, h7, h8, fun j => ?_, h10⟩
  by_cases e : j = m
  · simp only [e, ↓reduceIte]
    exact hx
  · simp only [e, ↓reduceIte]
    exact h9 j
theorem vNt_book {a b a' b' x y : Int32} {m : Nat} {s p w l s' p' w' l' : Nat → Int32} (hm : m < 8) (hx : 0 ≤ x ∧ x < 6) (hy : 0 ≤ y ∧ y ≤ 999) (h : vNt a b (nI m) a' b' (nI m) s p w l s' p' w' l') : vNt a b (nI (m + 1)) a' b' (nI (m + 1)) s p (fun j => if j = m then x else w j) (fun j => if j = m then y else l j) s' p' (fun j => if j = m then x else w' j) (fun j => if j = m then y else l' j) := by
  obtain ⟨⟨h1, h2, h3⟩, ⟨h4, h41, h42, h43⟩, h5, h6, h7, h8, h9, h10⟩ := h
  refine ⟨⟨h1, h2, rfl⟩, ⟨h4, h41, by rw [h42], by rw [h43]⟩, h5, h6, ⟨m + 1, by omega, rfl⟩, h8, h9, fun j => ?_⟩
  by_cases e : j = m
  · simp only [e, ↓reduceIte]
    exact ⟨hx, hy⟩
  · simp only [e, ↓reduceIte]
    exact h10 j
/-- the SIDES: how many, kinds, numbers, lengths, what is off, rows, SNIPS, DAYS; at most k SNIPS -/
def vSd (k : Nat) (n m d n' m' d' : Int32) (q v t f r q' v' t' f' r' : Nat → Int32) : Prop :=
  (n = n' ∧ m = m' ∧ d = d') ∧ (q = q' ∧ v = v' ∧ t = t' ∧ f = f' ∧ r = r') ∧
  (∃ j, j ≤ 6 ∧ n' = nI j) ∧ (∃ j, j ≤ k ∧ m' = nI j) ∧ (∃ j, j ≤ 9999 ∧ d' = nI j) ∧
  (∀ j, 0 ≤ q' j ∧ q' j ≤ 6) ∧ (∀ j, 0 ≤ v' j ∧ v' j ≤ 9) ∧ (∀ j, 0 ≤ t' j ∧ t' j ≤ 999) ∧ (∀ j, 0 ≤ f' j ∧ f' j ≤ 99999) ∧ (∀ j, 0 ≤ r' j ∧ r' j ≤ 9)
theorem vSd_le {k : Nat} {n m d n' m' d' : Int32} {q v t f r q' v' t' f' r' : Nat → Int32} (h : vSd k n m d n' m' d' q v t f r q' v' t' f' r') : vSd (k + 1) n m d n' m' d' q v t f r q' v' t' f' r' := by
  obtain ⟨h1, h2, h3, ⟨j, hj, e⟩, h5⟩ := h
  exact ⟨h1, h2, h3, ⟨j, by omega, e⟩, h5⟩
/-- the text that is fed -/
def vTx (n n' : Int32) (t t' : Nat → Int32) : Prop := (n = n' ∧ ∃ j, j ≤ 100 ∧ n' = nI j) ∧ t = t' ∧ ∀ j, 0 ≤ t' j ∧ t' j ≤ 127
