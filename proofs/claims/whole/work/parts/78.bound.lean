/-! ===== how large all may be ===== -/
theorem iadd {x y : Int32} (h1 : -1000000000 ≤ x.toInt) (h2 : x.toInt ≤ 1000000000) (h3 : -1000000000 ≤ y.toInt) (h4 : y.toInt ≤ 1000000000) : (x + y).toInt = x.toInt + y.toInt := by
  rw [Int32.toInt_add, Int.bmod_eq_of_le (by omega) (by omega)]
theorem isub {x y : Int32} (h1 : -1000000000 ≤ x.toInt) (h2 : x.toInt ≤ 1000000000) (h3 : -1000000000 ≤ y.toInt) (h4 : y.toInt ≤ 1000000000) : (x - y).toInt = x.toInt - y.toInt := by
  rw [Int32.toInt_sub, Int.bmod_eq_of_le (by omega) (by omega)]
theorem idiv2 {x : Int32} (h1 : 0 ≤ x.toInt) : (x / 2).toInt = x.toInt / 2 := by
  rw [Int32.toInt_div_of_ne_right x 2 (by decide), show (2 : Int32).toInt = 2 from by decide, Int.tdiv_eq_ediv_of_nonneg h1]
theorem imul2 {x : Int32} (h1 : 0 ≤ x.toInt) (h2 : x.toInt ≤ 1000000000) : (x * 2).toInt = x.toInt * 2 := by
  rw [Int32.toInt_mul, show (2 : Int32).toInt = 2 from by decide, Int.bmod_eq_of_le (by omega) (by omega)]
theorem i0 : (0 : Int32).toInt = 0 := by decide
theorem i1 : (1 : Int32).toInt = 1 := by decide
theorem i999 : (999 : Int32).toInt = 999 := by decide
theorem i99 : (99999 : Int32).toInt = 99999 := by decide
theorem i2g : (2000000000 : Int32).toInt = 2000000000 := by decide
def iR (x : Int32) (a b : Int) : Prop := a ≤ x.toInt ∧ x.toInt ≤ b
/-- S as it must be -/
def gB (S : gS) : Prop := g_n S ≤ 6 ∧ (∀ s, iR (g_v S s) 0 9) ∧ (∀ s, iR (g_r S s) 0 9) ∧ iR (g_ge S) 0 99 ∧ iR (g_le S) 0 99 ∧ ∀ L, iR (g_mi S L) (-990) 990
def gBd (D : gD) : Prop := ∀ s, iR (g_l D s) 0 1200
theorem gB_le {S : gS} (h : gB S) : 0 ≤ g_le S := by
  rw [Int32.le_iff_toInt_le, i0]
  exact h.2.2.2.2.1.1
theorem gMs_b {ch en co L : Nat → Int32} {j : Nat} (h : gKw j ch en co) : ∀ i : Nat, i ≤ j → iR (gMs ch en co L i) (-(99 * i)) (99 * i)
  | 0, _ => by
    refine ⟨?_, ?_⟩
    · show -(99 * ((0 : Nat) : Int)) ≤ (0 : Int32).toInt
      rw [i0]
      omega
    · show (0 : Int32).toInt ≤ 99 * ((0 : Nat) : Int)
      rw [i0]
      omega
  | i + 1, hi => by
    obtain ⟨q1, q2⟩ := gMs_b (L := L) h i (by omega)
    obtain ⟨_, _, _, _, c1, c2⟩ := h.2 i (by omega)
    have hj := h.1
    unfold iR
    show _ ≤ (if gSo co L (gFr en i) (gFr en (i + 1)) then gMs ch en co L i + ch i else gMs ch en co L i).toInt ∧ (if gSo co L (gFr en i) (gFr en (i + 1)) then gMs ch en co L i + ch i else gMs ch en co L i).toInt ≤ _
    split
    · rw [iadd (by omega) (by omega) (by omega) (by omega)]
      omega
    · omega
theorem gLk_b {S : gS} {D : gD} (h : gB S) (q : gBd D) (s : Nat) : iR (gLk S D s) (-990) 2190 := by
  obtain ⟨q1, q2⟩ := q s
  obtain ⟨h1, h2⟩ := h.2.2.2.2.2 (gLt S D s)
  unfold iR gLk
  rw [iadd (by omega) (by omega) (by omega) (by omega)]
  omega
theorem gSc_b {S : gS} {D : gD} (h : gB S) (q : gBd D) : ∀ s : Nat, iR (gSc S D s).1 (-990) 2190 ∧ iR (gSc S D s).2.1 (-990) 2190
  | 0 => by
    refine ⟨⟨?_, ?_⟩, ?_, ?_⟩ <;> (show _ ≤ _; simp only [gSc, i0]; omega)
  | s + 1 => by
    obtain ⟨h1, h2⟩ := gSc_b h q s
    have h3 := gLk_b h q s
    refine ⟨?_, ?_⟩
    · show iR (if s = 0 ∨ (gSc S D s).1 < gLk S D s then gLk S D s else (gSc S D s).1) _ _
      split
      · exact h3
      · exact h1
    · show iR (if s = 0 ∨ gLk S D s < (gSc S D s).2.1 then gLk S D s else (gSc S D s).2.1) _ _
      split
      · exact h3
      · exact h2
theorem gGap_b {S : gS} {D : gD} (h : gB S) (q : gBd D) : iR (gGap S D) (-3180) 3180 := by
  obtain ⟨⟨a1, a2⟩, b1, b2⟩ := gSc_b h q (g_n S)
  unfold iR gGap
  rw [isub (by omega) (by omega) (by omega) (by omega)]
  omega
theorem gAm_b {S : gS} {D : gD} (h : gB S) (q : gBd D) (hd : ¬ gGap S D ≤ g_le S) : iR (gAm S D) 0 3180 := by
  obtain ⟨a1, a2⟩ := gGap_b h q
  obtain ⟨l1, l2⟩ := h.2.2.2.2.1
  rw [Int32.le_iff_toInt_le] at hd
  unfold iR gAm
  split
  · omega
  · have e : (gGap S D + 1).toInt = (gGap S D).toInt + 1 := by rw [iadd (by omega) (by omega) (by rw [i1]; omega) (by rw [i1]; omega), i1]
    rw [idiv2 (by omega), e]
    omega
theorem gMu_b {S : gS} {D : gD} (h : gB S) (q : gBd D) {s : Nat} {x : Int32} (hx : iR x 0 3180) : iR (gMu S D s x) 0 100000 := by
  obtain ⟨_, v, r, ⟨g1, g2⟩, _⟩ := h
  obtain ⟨v1, v2⟩ := v s
  obtain ⟨r1, r2⟩ := r (4 * s + g_m D % 4)
  obtain ⟨x1, x2⟩ := hx
  have e : (x + g_ge S).toInt = x.toInt + (g_ge S).toInt := iadd (by omega) (by omega) (by omega) (by omega)
  have ev : (g_v S s / 2).toInt = (g_v S s).toInt / 2 := idiv2 v1
  have e1 : (x + g_ge S + g_v S s / 2).toInt = (x + g_ge S).toInt + (g_v S s / 2).toInt := iadd (by omega) (by omega) (by omega) (by omega)
  have e2 : ((x + g_ge S) / 2).toInt = (x + g_ge S).toInt / 2 := idiv2 (by omega)
  have e3 : ((x + g_ge S) / 2 + g_v S s).toInt = ((x + g_ge S) / 2).toInt + (g_v S s).toInt := iadd (by omega) (by omega) (by omega) (by omega)
  have e4 : (x + g_ge S + g_r S (4 * s + g_m D % 4)).toInt = (x + g_ge S).toInt + (g_r S (4 * s + g_m D % 4)).toInt := iadd (by omega) (by omega) (by omega) (by omega)
  have e5 : ((x + g_ge S + g_v S s / 2) * 2).toInt = (x + g_ge S + g_v S s / 2).toInt * 2 := imul2 (by omega) (by omega)
  unfold iR gMu
  split
  · omega
  · split
    · omega
    · split
      · split
        · omega
        · rw [Int32.mul_one]
          omega
      · split
        · omega
        · split <;> omega
theorem gTk_b {S : gS} {D : gD} (h : gB S) (q : gBd D) {s : Nat} {x : Int32} (hx : iR x 0 3180) : iR (gTk S D s x) 0 (g_l D s).toInt := by
  obtain ⟨m1, m2⟩ := gMu_b (s := s) h q hx
  obtain ⟨q1, q2⟩ := q s
  unfold iR gTk
  split
  · omega
  · rename_i hl
    rw [Int32.lt_iff_toInt_lt] at hl
    omega
theorem gCu_b {S : gS} {D : gD} (h : gB S) (q : gBd D) {s : Nat} {x : Int32} (hx : iR x 0 3180) : gBd (gCu S D s x) := by
  intro j
  obtain ⟨t1, t2⟩ := gTk_b (s := s) h q hx
  obtain ⟨q1, q2⟩ := q s
  show iR (if j = s then g_l D s - gTk S D s x else g_l D j) 0 1200
  split
  · unfold iR
    rw [isub (by omega) (by omega) (by omega) (by omega)]
    omega
  · exact q j
theorem gNx_b {S : gS} {D : gD} (h : gB S) (q : gBd D) (hd : ¬ gGap S D ≤ g_le S) : gBd (gNx S D) := gCu_b h q (gAm_b h q hd)
theorem gWk_b {S : gS} (h : gB S) : ∀ (k : Nat) (D : gD), gBd D → gBd (gWk S k D)
  | 0, _, q => q
  | k + 1, D, q => by
    by_cases hd : gGap S D ≤ g_le S
    · rw [gWk_d hd]
      exact q
    · rw [gWk_s hd]
      exact gWk_b h k _ (gNx_b h q hd)
theorem gGr_b {S : gS} (h : gB S) (s : Nat) : iR (gGr S s) 0 9 := by
  obtain ⟨v1, v2⟩ := h.2.1 s
  have ev : (g_v S s / 2).toInt = (g_v S s).toInt / 2 := idiv2 v1
  unfold iR gGr
  split
  · exact ⟨v1, v2⟩
  · split
    · omega
    · rw [i0]
      omega
theorem gDc_b {S : gS} {D : gD} (h : gB S) (q : gBd D) (s : Nat) : iR (gDc S D s) 0 999 := by
  obtain ⟨q1, q2⟩ := q s
  obtain ⟨g1, g2⟩ := gGr_b h s
  have e : (g_l D s + gGr S s).toInt = (g_l D s).toInt + (gGr S s).toInt := iadd (by omega) (by omega) (by omega) (by omega)
  unfold iR gDc
  split
  · rw [i999]
    omega
  · rename_i hl
    rw [Int32.lt_iff_toInt_lt, i999] at hl
    omega
theorem gDy_b {S : gS} {D : gD} (h : gB S) (q : gBd D) : gBd (gDy S D) := by
  intro j
  show iR (if j < g_n S then gDc S D j else g_l D j) 0 1200
  split
  · obtain ⟨a, b⟩ := gDc_b h q j
    exact ⟨a, by omega⟩
  · exact q j
/-! what was cut off, together -/
theorem gSd_self (f : Nat → Int32) : ∀ n : Nat, gSd f f n = 0
  | 0 => rfl
  | n + 1 => by
    show gSd f f n + (f n - f n) = 0
    rw [gSd_self f n, Int32.sub_self]
    rfl
theorem gSd_up {f g : Nat → Int32} {s : Nat} {T : Int32} : ∀ n : Nat, gSd (fun j => if j = s then f s + T else f j) g n = if s < n then gSd f g n + T else gSd f g n
  | 0 => by
    rw [if_neg (by omega)]
    rfl
  | n + 1 => by
    show gSd (fun j => if j = s then f s + T else f j) g n + ((if n = s then f s + T else f n) - g n) = _
    rw [gSd_up n]
    by_cases h1 : n = s
    · subst h1
      rw [if_neg (by omega), if_pos rfl, if_pos (by omega)]
      show _ = gSd f g n + (f n - g n) + T
      rw [Int32.add_assoc, Int32.sub_eq_add_neg, Int32.sub_eq_add_neg, Int32.add_assoc, Int32.add_assoc, Int32.add_comm T]
    · rw [if_neg h1]
      by_cases h2 : s < n
      · rw [if_pos h2, if_pos (by omega)]
        show _ = gSd f g n + (f n - g n) + T
        rw [Int32.add_assoc, Int32.add_comm T, ← Int32.add_assoc]
      · rw [if_neg h2, if_neg (by omega)]
        rfl
theorem gCf_no {M T : Int32} {s : Nat} {f : Nat → Int32} (h : (f s).toInt + T.toInt ≤ M.toInt) (h1 : iR (f s) 0 900000000) (h2 : iR T 0 1200) : gCf M T s f = fun j => if j = s then f s + T else f j := by
  funext j
  obtain ⟨a, b⟩ := h1
  obtain ⟨c, e⟩ := h2
  unfold gCf
  by_cases hj : j = s
  · rw [if_pos hj, if_pos hj, if_neg]
    rw [Int32.lt_iff_toInt_lt, iadd (by omega) (by omega) (by omega) (by omega)]
    omega
  · rw [if_neg hj, if_neg hj]
theorem gOf_sum {S : gS} (h : gB S) {g : Nat → Int32} : ∀ (k : Nat) (D : gD) (f : Nat → Int32) (B : Int), gBd D → (∀ s, iR (f s) 0 B) → B + 1200 * k ≤ 800000000 → gSd (gOf 2000000000 S k D f) g (g_n S) = gSd f g (g_n S) + gMr S k D ∧ ∀ s, iR (gOf 2000000000 S k D f s) 0 (B + 1200 * k)
  | 0, D, f, B, q, hf, hB => ⟨by show gSd f g (g_n S) = gSd f g (g_n S) + 0; rw [q_add0], fun s => ⟨(hf s).1, by have := (hf s).2; show (f s).toInt ≤ _; omega⟩⟩
  | k + 1, D, f, B, q, hf, hB => by
    by_cases hd : gGap S D ≤ g_le S
    · have g2 : gOf 2000000000 S (k + 1) D f = f := if_pos hd
      rw [g2, gMr_d hd, q_add0]
      exact ⟨rfl, fun s => ⟨(hf s).1, by have := (hf s).2; omega⟩⟩
    · have g2 : gOf 2000000000 S (k + 1) D f = gOf 2000000000 S k (gNx S D) (gCf 2000000000 (gTl S D) (gLo S D) f) := if_neg hd
      obtain ⟨t1, t2⟩ := gTk_b (s := gLo S D) h q (gAm_b h q hd)
      obtain ⟨l1, l2⟩ := q (gLo S D)
      obtain ⟨f1, f2⟩ := hf (gLo S D)
      have hT : iR (gTl S D) 0 1200 := ⟨t1, by unfold gTl; omega⟩
      have hT2 := hT.2
      have hT1 := hT.1
      have e := gCf_no (M := 2000000000) (T := gTl S D) (s := gLo S D) (f := f) (by rw [i2g]; omega) ⟨f1, by omega⟩ hT
      have y := gOf_sum h (g := g) k (gNx S D) (gCf 2000000000 (gTl S D) (gLo S D) f) (B + 1200) (gNx_b h q hd) (fun s => by
        rw [e]
        show iR (if s = gLo S D then f (gLo S D) + gTl S D else f s) 0 (B + 1200)
        split
        · unfold iR
          rw [iadd (by omega) (by omega) (by omega) (by omega)]
          omega
        · exact ⟨(hf s).1, by have := (hf s).2; omega⟩) (by omega)
      rw [g2, gMr_s hd]
      refine ⟨?_, fun s => ⟨(y.2 s).1, by have := (y.2 s).2; omega⟩⟩
      rw [y.1, e, gSd_up, if_pos (gLo_lt (gB_le h) hd), Int32.add_assoc]
