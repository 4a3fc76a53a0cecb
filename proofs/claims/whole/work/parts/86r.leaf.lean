/-! ===== the class reads a kitchen: strings, bytes, codes ===== -/
/-- a list laid over a row from o on -/
def kRw {β : Type} (g : β → Int32) (o : Nat) (r : Nat → Int32) (l : List β) : Nat → Int32 := fun i => if o ≤ i then (match l[i - o]? with | some s => g s | none => r i) else r i
theorem kRw_up {β : Type} {g : β → Int32} {o : Nat} {r : Nat → Int32} {l : List β} {s : β} : (fun b => if b = o + l.length then g s else kRw g o r l b) = kRw g o r (l ++ [s]) := by
  funext i
  unfold kRw
  by_cases h : i = o + l.length
  · subst h
    rw [if_pos rfl, if_pos (Nat.le_add_right _ _), Nat.add_sub_cancel_left, List.getElem?_append_right (Nat.le_refl _), Nat.sub_self]
    rfl
  · rw [if_neg h]
    by_cases h2 : o ≤ i
    · rw [if_pos h2, if_pos h2]
      by_cases h3 : i - o < l.length
      · rw [List.getElem?_append_left h3]
      · rw [List.getElem?_eq_none (by omega), List.getElem?_eq_none (by rw [List.length_append, List.length_cons, List.length_nil]; omega)]
    · rw [if_neg h2, if_neg h2]
theorem kRw_at {β : Type} {g : β → Int32} {o i : Nat} {r : Nat → Int32} {l : List β} {s : β} (h : l[i]? = some s) : kRw g o r l (o + i) = g s := by
  unfold kRw
  rw [if_pos (Nat.le_add_right _ _), Nat.add_sub_cancel_left, h]
theorem kRw_out {β : Type} {g : β → Int32} {o i : Nat} {r : Nat → Int32} {l : List β} (h : i < o ∨ o + l.length ≤ i) : kRw g o r l i = r i := by
  unfold kRw
  by_cases h2 : o ≤ i
  · rw [if_pos h2, List.getElem?_eq_none (by omega)]
  · rw [if_neg h2]
theorem kRw_0 {β : Type} {g : β → Int32} {o : Nat} {r : Nat → Int32} : kRw g o r [] = r := by
  funext i
  exact kRw_out (by show i < o ∨ o + 0 ≤ i; omega)
/-- the class at place at' of the text, with codes cs, judgements js, give, leave, half into the kitchen K -/
def kX (K : Nat) (I : zI) (at' : Nat) (cs : List kSy) (js : List (Int32 × Nat)) (g l h : Int32) : zI := fun k =>
  if k = 61 then (fun j => if j = 2 then nI at' else I 61 j)
  else if k = K then (fun j => if j = 2 then nI js.length else if j = 4 then nI cs.length else if j = 5 then g else if j = 6 then l else if j = 7 then h else I K j)
  else if k = K + 1 then kRw (fun z => z.1) 0 (I (K + 1)) js
  else if k = K + 2 then kRw (fun z => nI z.2) 0 (I (K + 2)) js
  else if k = K + 3 then kRw (fun z => z.1) 0 (I (K + 3)) cs
  else I k
section KX
variable {K at' x : Nat} {I : zI} {cs : List kSy} {js : List (Int32 × Nat)} {g l h y : Int32}
theorem zKt_61 (hK : zKt K) : 1 ≤ K ∧ K ≤ 57 := by
  unfold zKt at hK
  omega
theorem kX_l : kX K I at' cs js g l h 61 1 = I 61 1 := rfl
theorem kX_a : kX K I at' cs js g l h 61 2 = nI at' := rfl
theorem kX_o {k : Nat} (h1 : k ≠ 61) (h2 : k < K ∨ K + 3 < k) : kX K I at' cs js g l h k = I k := by
  unfold kX
  rw [if_neg h1, if_neg (by omega), if_neg (by omega), if_neg (by omega), if_neg (by omega)]
theorem kX_t (hK : zKt K) {j : Nat} : kX K I at' cs js g l h 62 j = I 62 j := by
  have := zKt_61 hK
  rw [kX_o (by omega) (by omega)]
theorem kX_K (hK : zKt K) : kX K I at' cs js g l h K = (fun j => if j = 2 then nI js.length else if j = 4 then nI cs.length else if j = 5 then g else if j = 6 then l else if j = 7 then h else I K j) := by
  have := zKt_61 hK
  unfold kX
  rw [if_neg (by omega), if_pos rfl]
theorem kX_1 (hK : zKt K) : kX K I at' cs js g l h (K + 1) = kRw (fun z => z.1) 0 (I (K + 1)) js := by
  have := zKt_61 hK
  unfold kX
  rw [if_neg (by omega), if_neg (by omega), if_pos rfl]
theorem kX_2 (hK : zKt K) : kX K I at' cs js g l h (K + 2) = kRw (fun z => nI z.2) 0 (I (K + 2)) js := by
  have := zKt_61 hK
  unfold kX
  rw [if_neg (by omega), if_neg (by omega), if_neg (by omega), if_pos rfl]
theorem kX_3 (hK : zKt K) : kX K I at' cs js g l h (K + 3) = kRw (fun z => z.1) 0 (I (K + 3)) cs := by
  have := zKt_61 hK
  unfold kX
  rw [if_neg (by omega), if_neg (by omega), if_neg (by omega), if_neg (by omega), if_pos rfl]
/-- two worlds are the same if their rows are -/
theorem kX_ext {F G : zI} (h0 : F 61 = G 61) (h1 : F K = G K) (h2 : F (K + 1) = G (K + 1)) (h3 : F (K + 2) = G (K + 2)) (h4 : F (K + 3) = G (K + 3)) (ho : ∀ k, k ≠ 61 → (k < K ∨ K + 3 < k) → F k = G k) : F = G := by
  funext k
  by_cases e0 : k = 61
  · rw [e0, h0]
  by_cases e1 : k = K
  · rw [e1, h1]
  by_cases e2 : k = K + 1
  · rw [e2, h2]
  by_cases e3 : k = K + 2
  · rw [e3, h3]
  by_cases e4 : k = K + 3
  · rw [e4, h4]
  exact ho k e0 (by omega)
theorem zup_ne' {I : zI} {k a j : Nat} {x : Int32} (h : a ≠ k) : zup I k j x a = I a := if_neg h
theorem zup_eq' {I : zI} {k j : Nat} {x : Int32} : zup I k j x k = (fun b => if b = j then x else I k b) := by
  rw [zup_row, if_pos rfl]
theorem kX_u1 : zup (kX K I at' cs js g l h) 61 2 (nI x) = kX K I x cs js g l h := by
  funext k
  by_cases e : k = 61
  · subst e
    rw [zup_eq']
    funext b
    by_cases e2 : b = 2
    · subst e2; rfl
    · rw [if_neg e2]
      show (if b = 2 then _ else _) = (if b = 2 then _ else _)
      rw [if_neg e2, if_neg e2]
  · rw [zup_ne' e]
    unfold kX
    rw [if_neg e, if_neg e]
theorem kX_u2 (hK : zKt K) (s : kSy) : zup (zup (kX K I at' cs js g l h) (K + 3) cs.length s.1) K 4 (nI (cs.length + 1)) = kX K I at' (cs ++ [s]) js g l h := by
  have hk := zKt_61 hK
  refine kX_ext (K := K) ?_ ?_ ?_ ?_ ?_ ?_
  · rw [zup_ne' (by omega), zup_ne' (by omega)]; rfl
  · rw [zup_eq', zup_ne' (by omega), kX_K hK, kX_K hK]
    funext b
    by_cases e : b = 4
    · subst e
      simp
    · simp [e]
  · rw [zup_ne' (by omega), zup_ne' (by omega), kX_1 hK, kX_1 hK]
  · rw [zup_ne' (by omega), zup_ne' (by omega), kX_2 hK, kX_2 hK]
  · rw [zup_ne' (by omega), zup_eq', kX_3 hK, kX_3 hK, ← kRw_up]
    simp only [Nat.zero_add]
  · intro k e1 e2
    rw [zup_ne' (by omega), zup_ne' (by omega), kX_o e1 e2, kX_o e1 e2]
theorem kX_u3 (hK : zKt K) (ch : Int32) : zup (zup (zup (kX K I at' cs js g l h) (K + 1) js.length ch) (K + 2) js.length (nI cs.length)) K 2 (nI (js.length + 1)) = kX K I at' cs (js ++ [(ch, cs.length)]) g l h := by
  have hk := zKt_61 hK
  refine kX_ext (K := K) ?_ ?_ ?_ ?_ ?_ ?_
  · rw [zup_ne' (by omega), zup_ne' (by omega), zup_ne' (by omega)]; rfl
  · rw [zup_eq', zup_ne' (by omega), zup_ne' (by omega), kX_K hK, kX_K hK]
    funext b
    by_cases e : b = 2
    · subst e
      simp
    · simp [e]
  · rw [zup_ne' (by omega), zup_ne' (by omega), zup_eq', kX_1 hK, kX_1 hK, ← kRw_up]
    simp only [Nat.zero_add]
  · rw [zup_ne' (by omega), zup_eq', zup_ne' (by omega), kX_2 hK, kX_2 hK, ← kRw_up]
    simp only [Nat.zero_add]
  · rw [zup_ne' (by omega), zup_ne' (by omega), zup_ne' (by omega), kX_3 hK, kX_3 hK]
  · intro k e1 e2
    rw [zup_ne' (by omega), zup_ne' (by omega), zup_ne' (by omega), kX_o e1 e2, kX_o e1 e2]
theorem kX_f5 (hK : zKt K) : zup (kX K I at' cs js g l h) K 5 y = kX K I at' cs js y l h := by
  have hk := zKt_61 hK
  refine kX_ext (K := K) ?_ ?_ ?_ ?_ ?_ ?_
  · rw [zup_ne' (by omega)]; rfl
  · rw [zup_eq', kX_K hK, kX_K hK]
    funext b
    by_cases e : b = 5
    · subst e
      simp
    · simp [e]
  · rw [zup_ne' (by omega), kX_1 hK, kX_1 hK]
  · rw [zup_ne' (by omega), kX_2 hK, kX_2 hK]
  · rw [zup_ne' (by omega), kX_3 hK, kX_3 hK]
  · intro k e1 e2
    rw [zup_ne' (by omega), kX_o e1 e2, kX_o e1 e2]
theorem kX_f6 (hK : zKt K) : zup (kX K I at' cs js g l h) K 6 y = kX K I at' cs js g y h := by
  have hk := zKt_61 hK
  refine kX_ext (K := K) ?_ ?_ ?_ ?_ ?_ ?_
  · rw [zup_ne' (by omega)]; rfl
  · rw [zup_eq', kX_K hK, kX_K hK]
    funext b
    by_cases e : b = 6
    · subst e
      simp
    · simp [e]
  · rw [zup_ne' (by omega), kX_1 hK, kX_1 hK]
  · rw [zup_ne' (by omega), kX_2 hK, kX_2 hK]
  · rw [zup_ne' (by omega), kX_3 hK, kX_3 hK]
  · intro k e1 e2
    rw [zup_ne' (by omega), kX_o e1 e2, kX_o e1 e2]
theorem kX_f7 (hK : zKt K) : zup (kX K I at' cs js g l h) K 7 y = kX K I at' cs js g l y := by
  have hk := zKt_61 hK
  refine kX_ext (K := K) ?_ ?_ ?_ ?_ ?_ ?_
  · rw [zup_ne' (by omega)]; rfl
  · rw [zup_eq', kX_K hK, kX_K hK]
    funext b
    by_cases e : b = 7
    · subst e
      simp
    · simp [e]
  · rw [zup_ne' (by omega), kX_1 hK, kX_1 hK]
  · rw [zup_ne' (by omega), kX_2 hK, kX_2 hK]
  · rw [zup_ne' (by omega), kX_3 hK, kX_3 hK]
  · intro k e1 e2
    rw [zup_ne' (by omega), kX_o e1 e2, kX_o e1 e2]
theorem kX_0 (hK : zKt K) : zup (zup (zup (zup (zup (zup I K 2 0) K 4 0) K 5 1) K 6 2) K 7 0) 61 2 0 = kX K I 0 [] [] 1 2 0 := by
  have hk := zKt_61 hK
  refine kX_ext (K := K) ?_ ?_ ?_ ?_ ?_ ?_
  · rw [zup_eq', zup_ne' (by omega), zup_ne' (by omega), zup_ne' (by omega), zup_ne' (by omega), zup_ne' (by omega)]; rfl
  · rw [zup_ne' (by omega), zup_eq', zup_eq', zup_eq', zup_eq', zup_eq', kX_K hK]
    funext b
    by_cases e2 : b = 2
    · subst e2; simp; rfl
    by_cases e4 : b = 4
    · subst e4; simp; rfl
    by_cases e5 : b = 5
    · subst e5; simp
    by_cases e6 : b = 6
    · subst e6; simp
    by_cases e7 : b = 7
    · subst e7; simp
    simp [e2, e4, e5, e6, e7]
  · rw [zup_ne' (by omega), zup_ne' (by omega), zup_ne' (by omega), zup_ne' (by omega), zup_ne' (by omega), zup_ne' (by omega), kX_1 hK, kRw_0]
  · rw [zup_ne' (by omega), zup_ne' (by omega), zup_ne' (by omega), zup_ne' (by omega), zup_ne' (by omega), zup_ne' (by omega), kX_2 hK, kRw_0]
  · rw [zup_ne' (by omega), zup_ne' (by omega), zup_ne' (by omega), zup_ne' (by omega), zup_ne' (by omega), zup_ne' (by omega), kX_3 hK, kRw_0]
  · intro k e1 e2
    rw [zup_ne' (by omega), zup_ne' (by omega), zup_ne' (by omega), zup_ne' (by omega), zup_ne' (by omega), zup_ne' (by omega), kX_o e1 e2]
end KX
