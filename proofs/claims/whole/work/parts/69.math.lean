/-! ===== sides, snips, days, as numbers: what is fixed (how many, kinds, numbers, rows, GIVE, LEAVE, HALF, what is misjudged), what goes on (lengths, snips, days) ===== -/
abbrev gS : Type := Nat × (Nat → Int32) × (Nat → Int32) × (Nat → Int32) × Int32 × Int32 × Int32 × ((Nat → Int32) → Int32)
abbrev gD : Type := (Nat → Int32) × Nat × Int32
def g_n (S : gS) : Nat := S.1
def g_q (S : gS) : Nat → Int32 := S.2.1
def g_v (S : gS) : Nat → Int32 := S.2.2.1
def g_r (S : gS) : Nat → Int32 := S.2.2.2.1
def g_ge (S : gS) : Int32 := S.2.2.2.2.1
def g_le (S : gS) : Int32 := S.2.2.2.2.2.1
def g_ha (S : gS) : Int32 := S.2.2.2.2.2.2.1
def g_mi (S : gS) : (Nat → Int32) → Int32 := S.2.2.2.2.2.2.2
def g_l (D : gD) : Nat → Int32 := D.1
def g_m (D : gD) : Nat := D.2.1
def g_d (D : gD) : Int32 := D.2.2
def gLt (S : gS) (D : gD) (s : Nat) : Nat → Int32 := fun j => if j = 0 then nI s else if j = 1 then g_q S s else if j = 2 then g_v S s else if j = 3 then g_l D s / 10 else if j = 4 then nI (g_m D) - nI (g_m D) / 10 * 10 else g_d D - g_d D / 10 * 10
def gLk (S : gS) (D : gD) (s : Nat) : Int32 := g_l D s + g_mi S (gLt S D s)
/-- what would be taken, were it long enough -/
def gMu (S : gS) (D : gD) (s : Nat) (c : Int32) : Int32 :=
  if g_q S s = 1 then c + g_ge S + g_v S s / 2
  else if g_q S s = 2 then (c + g_ge S) / 2
  else if g_q S s = 4 then (c + g_ge S + g_v S s / 2) * (if 50 < g_l D s then 2 else 1)
  else if g_q S s = 5 then (c + g_ge S) / 2 + g_v S s
  else if g_q S s = 6 then c + g_ge S + g_r S (4 * s + g_m D % 4)
  else c + g_ge S
def gTk (S : gS) (D : gD) (s : Nat) (c : Int32) : Int32 := if g_l D s < gMu S D s c then g_l D s else gMu S D s c
def gGr (S : gS) (s : Nat) : Int32 := if g_q S s = 3 ∨ g_q S s = 6 then g_v S s else if g_q S s = 4 then g_v S s / 2 else 0
/-- the first s sides: the most, the least it looks, which looks longest -/
def gSc (S : gS) (D : gD) : Nat → Int32 × Int32 × Nat
  | 0 => (0, 0, 0)
  | s + 1 => (if s = 0 ∨ (gSc S D s).1 < gLk S D s then gLk S D s else (gSc S D s).1, if s = 0 ∨ gLk S D s < (gSc S D s).2.1 then gLk S D s else (gSc S D s).2.1, if s = 0 ∨ (gSc S D s).1 < gLk S D s then s else (gSc S D s).2.2)
def gGap (S : gS) (D : gD) : Int32 := (gSc S D (g_n S)).1 - (gSc S D (g_n S)).2.1
def gLo (S : gS) (D : gD) : Nat := (gSc S D (g_n S)).2.2
def gDn (S : gS) (D : gD) : Prop := gGap S D ≤ g_le S
def gAm (S : gS) (D : gD) : Int32 := if g_ha S = 0 then gGap S D else (gGap S D + 1) / 2
def gCu (S : gS) (D : gD) (s : Nat) (c : Int32) : gD := (fun j => if j = s then g_l D s - gTk S D s c else g_l D j, g_m D + 1, g_d D)
def gNx (S : gS) (D : gD) : gD := gCu S D (gLo S D) (gAm S D)
def gTl (S : gS) (D : gD) : Int32 := gTk S D (gLo S D) (gAm S D)
def gCf (M T : Int32) (s : Nat) (f : Nat → Int32) : Nat → Int32 := fun j => if j = s then (if M < f s + T then M else f s + T) else f j
def gDc (S : gS) (D : gD) (z : Nat) : Int32 := if 999 < g_l D z + gGr S z then 999 else g_l D z + gGr S z
def gDf (S : gS) (D : gD) (s : Nat) : Nat → Int32 := fun z => if z < s then gDc S D z else g_l D z
theorem gDf_0 {S : gS} {D : gD} : gDf S D 0 = g_l D := by
  funext z
  exact if_neg (by omega)
theorem gDf_at {S : gS} {D : gD} {s : Nat} : gDf S D s s = g_l D s := if_neg (by omega)
theorem gDf_s {S : gS} {D : gD} {s : Nat} : (fun b => if b = s then gDc S D s else gDf S D s b) = gDf S D (s + 1) := by
  funext y
  unfold gDf
  by_cases h1 : y = s
  · rw [if_pos h1, if_pos (by omega), h1]
  · rw [if_neg h1]
    by_cases h2 : y < s
    · rw [if_pos h2, if_pos (by omega)]
    · rw [if_neg h2, if_neg (by omega)]
def gDy (S : gS) (D : gD) : gD := (gDf S D (g_n S), g_m D, g_d D + 1)
/-- k snips, or fewer -/
def gWk (S : gS) : Nat → gD → gD
  | 0, D => D
  | k + 1, D => if gGap S D ≤ g_le S then D else gWk S k (gNx S D)
/-- what they take, together -/
def gMr (S : gS) : Nat → gD → Int32
  | 0, _ => 0
  | k + 1, D => if gGap S D ≤ g_le S then 0 else gTl S D + gMr S k (gNx S D)
/-- how many go -/
def gHo (S : gS) : Nat → gD → Nat
  | 0, _ => 0
  | k + 1, D => if gGap S D ≤ g_le S then 0 else gHo S k (gNx S D) + 1
/-- which are cut, as bits -/
def gBt (S : gS) : Nat → gD → Int32 → Int32
  | 0, _, b => b
  | k + 1, D, b => if gGap S D ≤ g_le S then b else gBt S k (gNx S D) (b ||| (1 <<< (nI (gLo S D) &&& 31)))
def gDs (S : gS) : Nat → gD → gD
  | 0, D => D
  | k + 1, D => gDs S k (gDy S D)
/-- the most, the least of the first s lengths -/
def gMx (l : Nat → Int32) : Nat → Int32
  | 0 => 0
  | s + 1 => if gMx l s < l s then l s else gMx l s
def gMn (l : Nat → Int32) : Nat → Int32
  | 0 => 0
  | s + 1 => if s = 0 ∨ l s < gMn l s then l s else gMn l s
def gSu (l : Nat → Int32) : Nat → Int32
  | 0 => 0
  | s + 1 => gSu l s + l s
def gSp (S : gS) (D : gD) : Int32 := gMx (g_l D) (g_n S) - gMn (g_l D) (g_n S)
theorem gSc_lo {S : gS} {D : gD} : ∀ s : Nat, 0 < s → (gSc S D s).2.2 < s
  | 0, h => absurd h (by omega)
  | 1, _ => by simp [gSc]
  | s + 2, _ => by
    have h := gSc_lo (S := S) (D := D) (s + 1) (by omega)
    show (if s + 1 = 0 ∨ (gSc S D (s + 1)).1 < gLk S D (s + 1) then s + 1 else (gSc S D (s + 1)).2.2) < s + 2
    split <;> omega
theorem gLo_lt {S : gS} {D : gD} (h0 : 0 ≤ g_le S) (h : ¬ gGap S D ≤ g_le S) : gLo S D < g_n S := by
  unfold gLo
  rcases Nat.eq_zero_or_pos (g_n S) with e | e
  · exact absurd (show gGap S D ≤ g_le S by unfold gGap; rw [e]; exact (show (0 : Int32) - 0 = 0 from rfl) ▸ h0) h
  · exact gSc_lo _ e
theorem gRun_congr {co L L' : Nat → Int32} (h : ∀ p, p < 6 → L p = L' p) : ∀ (n a : Nat) (k : List Bool), gRun co L a n k = gRun co L' a n k
  | 0, _, _ => rfl
  | n + 1, a, k => by
    have e : gTok L (co a) k = gTok L' (co a) k := by
      unfold gTok gTs
      rw [h _ (Nat.mod_lt _ (by omega))]
    show gRun co L (a + 1) n (gTok L (co a) k) = gRun co L' (a + 1) n (gTok L' (co a) k)
    rw [e]
    exact gRun_congr h n _ _
theorem gMs_congr {ch en co L L' : Nat → Int32} (h : ∀ p, p < 6 → L p = L' p) : ∀ i : Nat, gMs ch en co L i = gMs ch en co L' i
  | 0 => rfl
  | i + 1 => by
    have e : gSo co L (gFr en i) (gFr en (i + 1)) = gSo co L' (gFr en i) (gFr en (i + 1)) := by
      unfold gSo
      rw [gRun_congr h]
    show (if gSo co L (gFr en i) (gFr en (i + 1)) then gMs ch en co L i + ch i else gMs ch en co L i) = _
    rw [e, gMs_congr h i]
    rfl
