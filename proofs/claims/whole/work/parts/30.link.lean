/-! ===== what ties the pure world to the heap ===== -/
/-- classes and slots; array classes by sort; where cell 0 lies; where Strings and static arrays lie -/
abbrev zG : Type := va_G × (Nat → ClassId) × Nat × (Nat → Nat)
def zad (G : zG) (k : Nat) : Nat := if k < 1000 then G.2.2.1 + k else G.2.2.2 k
def ztr (G : zG) : Value → Value
  | .ref k => .ref (zad G k)
  | v => v
def zA0 (G : zG) : Nat → Prop := fun q => G.2.2.1 ≤ q
def ztys (G : zG) : List (ClassId × FieldType) := [(G.2.1 1, .int), (G.2.1 2, .byte), (G.2.1 3, .boolean), (G.2.1 4, .long), (G.2.1 5, .object "BitOff$Kitchen"), (G.2.1 6, .array .long)]
/-- is place j of class ci a reference -/
def zfr (ci j : Nat) : Bool := match zcls[ci]? with
  | some q => match parseFieldDescriptor (q.2.1 j).2.2.1 with
    | some (.object _) => true
    | some (.array _) => true
    | _ => false
  | none => false
def zfv (G : zG) (ci : Nat) (i : Nat → Int32) (r : Nat → Option Nat) (j : Nat) : Value := if zfr ci j = true then va_rf ((r j).map (zad G)) else .int (i j)
/-- what lies in cell k -/
def zce (G : zG) (k : Nat) (i : Nat → Int32) (j : Nat → Int64) (r : Nat → Option Nat) : va_E :=
  if (zsh k).1 = 0 then .inr ((zsh k).2.1, (List.range (zsh k).2.2).map (zfv G (zsh k).2.1 i r))
  else if (zsh k).1 ≤ 3 then .inl (G.2.1 (zsh k).1, (zsh k).2.2, .inl i)
  else if (zsh k).1 = 4 then .inl (G.2.1 4, (zsh k).2.2, .inr (.inl j))
  else .inl (G.2.1 (zsh k).1, (zsh k).2.2, .inr (.inr (.inr (.inr (fun x => (r x).map (zad G))))))
def zws (G : zG) (w : zW) : va_W := (List.range w.2.2.2).map (fun k => (G.2.2.1 + k, zce G k (w.1 k) (w.2.1 k) (w.2.2.1 k)))
theorem zws_get {G : zG} {w : zW} {k : Nat} (h : k < w.2.2.2) : (zws G w)[k]? = some (G.2.2.1 + k, zce G k (w.1 k) (w.2.1 k) (w.2.2.1 k)) := by
  simp [zws, List.getElem?_map, List.getElem?_range h]
theorem zws_len {G : zG} {w : zW} : (zws G w).length = w.2.2.2 := by simp [zws]
theorem zws_set {G : zG} {w w' : zW} {k : Nat} (hn : w'.2.2.2 = w.2.2.2) (h : ∀ a, a ≠ k → w'.1 a = w.1 a ∧ w'.2.1 a = w.2.1 a ∧ w'.2.2.1 a = w.2.2.1 a) : (zws G w).set k (G.2.2.1 + k, zce G k (w'.1 k) (w'.2.1 k) (w'.2.2.1 k)) = zws G w' := by
  apply List.ext_getElem?
  intro i
  by_cases e : i = k
  · subst e
    by_cases hl : i < w.2.2.2
    · rw [List.getElem?_set_self (by rw [zws_len]; exact hl), zws_get (by rw [hn]; exact hl)]
    · rw [List.getElem?_eq_none (by rw [List.length_set, zws_len]; omega), List.getElem?_eq_none (by rw [zws_len]; omega)]
  · rw [List.getElem?_set_ne (Ne.symm e)]
    by_cases hl : i < w.2.2.2
    · obtain ⟨h1, h2, h3⟩ := h i e
      rw [zws_get hl, zws_get (by rw [hn]; exact hl), h1, h2, h3]
    · rw [List.getElem?_eq_none (by rw [zws_len]; omega), List.getElem?_eq_none (by rw [zws_len]; omega)]
theorem zws_D {G : zG} {w : zW} : va_D (zA0 G) (zws G w) := by
  have key : ∀ (k : Nat) (q : Nat × va_E), (zws G w)[k]? = some q → q.1 = G.2.2.1 + k := by
    intro k q h
    have hl : k < w.2.2.2 := by
      have := (List.getElem?_eq_some_iff.mp h).1
      rwa [zws_len] at this
    rw [zws_get hl] at h
    cases h
    rfl
  refine ⟨fun i j p q hp hq h => ?_, fun k q h => ?_⟩
  · have h1 := key i p hp
    have h2 := key j q hq
    omega
  · have h1 := key k q h
    show G.2.2.1 ≤ q.1
    omega
/-- words that may be used at every place -/
def zGw : List Cond := lw_tbl.filter goodWord
theorem zmem {w : Cond} (i : Nat) (h : lw_tbl[i]? = some w) (hg : goodWord w = true) : w ∈ zGw := List.mem_filter.mpr ⟨List.mem_of_getElem? h, hg⟩
theorem zGw_good {ws : List Cond} (h : ∀ w ∈ ws, w ∈ zGw) : GoodIn zGw ws := fun w hw => ⟨h w hw, good_of_word (List.mem_filter.mp (h w hw)).2⟩
/-- links to members of nest mates -/
def zNq (w : Cond) : Bool := match w with
  | .fieldLinkNest .. => true
  | .methodLinkNest .. => true
  | _ => false
def zNst : List Cond := lw_tbl.filter zNq
theorem znmem {w : Cond} (i : Nat) (h : lw_tbl[i]? = some w) (hg : zNq w = true) : w ∈ zNst := List.mem_filter.mpr ⟨List.mem_of_getElem? h, hg⟩
theorem zNst_warm {w : Cond} {s U : State} (hw : w ∈ zNst) (hW : s.WarmedH U.vm) (h : va_Nw w s) : va_Nw w U := by
  have h2 := (List.mem_filter.mp hw).2
  cases w <;> first | exact va_Nw.warmF hW h | exact va_Nw.warmM hW h | exact Bool.noConfusion h2
theorem zNst_same {w : Cond} {u U : State} (hw : w ∈ zNst) (hv : u.vm = U.vm) (h : va_Nw w u) : va_Nw w U := by
  have h2 := (List.mem_filter.mp hw).2
  cases w <;> first | exact Bool.noConfusion h2 | exact va_Nw.same rfl hv h
/-- the String constants: place in the pool, text -/
def zstr : Nat → Nat × String := fun j => match j with
  | 0 => (37, "over ")
  | 1 => (47, "under ")
  | 2 => (49, "give ")
  | 3 => (58, "leave ")
  | 4 => (67, "half")
  | 5 => (68, "all")
  | 6 => (83, "skvlnd")
  | _ => (89, "<=>")
def zAOA (U : State) : Prop := (Cond.arrayOver (.array .long)).before #[] U = true
theorem zAOA_moved {s U : State} (hvm : s.vm.Alike U.vm) (h : zAOA s) : zAOA U := by
  have e : (Cond.arrayOver (.array .long)).before #[] (s.setVm U.vm) = (Cond.arrayOver (.array .long)).before #[] s := Cond.arrayOver_setVmC hvm _
  have h1 : (Cond.arrayOver (.array .long)).before #[] (s.setVm U.vm) = true := e.trans h
  simp only [Cond.before, Cond.holds, Cond.value, State.vm_setVm] at h1
  unfold zAOA
  simp only [Cond.before, Cond.holds, Cond.value]
  exact h1
/-- what stands in the state beside our own cells: links, String constants, static arrays, the script (of length L at 1021, with xs) -/
def zE (G : zG) (L : Nat) (xs : Nat → Int32) (U : State) : Prop :=
  va_K G.1 zcls (ztys G) U ∧ (∀ w ∈ zNst, va_Nw w U) ∧ (∀ j, j < 8 → vk_R "BitOff$Reader" (zstr j).1 (zstr j).2 (zad G (1000 + j)) U) ∧ va_AO "BitOff$Kitchen" U ∧ zAOA U ∧
  (∀ j, j < 8 → va_O "java/lang/String" (zad G (1000 + j)) (zA0 G) U U.heap ∧ va_OF "java/lang/String" "coder" "B" (.int 0) (zad G (1000 + j)) (zA0 G) U U.heap ∧ va_OF "java/lang/String" "value" "[B" (.ref (zad G (1010 + j))) (zad G (1000 + j)) (zA0 G) U U.heap ∧ va_T .byte (zad G (1010 + j)) (zsh (1010 + j)).2.2 (fun i => .int ((zstt (1010 + j)).getD i 0)) (zA0 G) U U.heap) ∧
  va_T .int (zad G 1020) 7 (fun i => .int ((zstt 1020).getD i 0)) (zA0 G) U U.heap ∧
  va_T .int (zad G 1021) L (fun i => .int (xs i)) (zA0 G) U U.heap ∧
  va_Z "BitOff$Table" "KIND_ABOVE" "[I" (.ref (zad G 1020)) (zA0 G) U U.heap ∧ va_Z "java/lang/String" "COMPACT_STRINGS" "Z" (.int 1) (zA0 G) U U.heap ∧ L < 2 ^ 31 ∧ va_Zq "jdk/internal/util/Preconditions" "SIOOBE_FORMATTER" "Ljava/util/function/BiFunction;" (zA0 G) U U.heap
/-- the heap holds the world -/
def zRl (G : zG) (L : Nat) (xs : Nat → Int32) (w : zW) (H : Heap) : Prop := H.size = G.2.2.1 + w.2.2.2 ∧ va_P G.1 zcls (zws G w) H ∧ w.2.2.2 ≤ 1000 ∧ w.1 1021 = xs ∧ w.1 1022 0 = Int32.ofNat L
/-- it holds in every state like this one, whose heap is the same beside our own cells -/
theorem zE_warm {G : zG} {L : Nat} {xs : Nat → Int32} {s U : State} (hW : s.WarmedH U.vm) (hq : ∀ a : Nat, a < s.heap.size → ¬ zA0 G a → U.heap[a]? = s.heap[a]?) (h : zE G L xs s) : zE G L xs U := by
  obtain ⟨h1, h2, h3, h4, h5, h6, h7, h8, h9, h10, h11, h12⟩ := h
  have hv := hW.alike
  refine ⟨h1.moved hv, fun w hw => zNst_warm hw hW (h2 w hw), fun j hj => (h3 j hj).warm hW, h4.moved hv, zAOA_moved hv h5, fun j hj => ?_, (h7.kept hq).moved hv, (h8.kept hq).moved hv, (h9.kept hq).moved hv, (h10.kept hq).moved hv, h11, (h12.kept hq).moved hv⟩
  obtain ⟨a, b, c, d⟩ := h6 j hj
  exact ⟨(a.kept hq).moved hv, (b.kept hq).moved hv, (c.kept hq).moved hv, (d.kept hq).moved hv⟩
theorem zE_same {G : zG} {L : Nat} {xs : Nat → Int32} {s U : State} (hv0 : s.vm = U.vm) (hh : s.heap = U.heap) (h : zE G L xs s) : zE G L xs U := by
  obtain ⟨h1, h2, h3, h4, h5, h6, h7, h8, h9, h10, h11, h12⟩ := h
  have hv : s.vm.Alike U.vm := by rw [hv0]; exact Vm.Alike.refl _
  rw [hh] at h6 h7 h8 h9 h10 h12
  exact ⟨h1.moved hv, fun w hw => zNst_same hw hv0 (h2 w hw), fun j hj => (h3 j hj).same hv0.symm, h4.moved hv, zAOA_moved hv h5, fun j hj => ⟨(h6 j hj).1.moved hv, (h6 j hj).2.1.moved hv, (h6 j hj).2.2.1.moved hv, (h6 j hj).2.2.2.moved hv⟩, h7.moved hv, h8.moved hv, h9.moved hv, h10.moved hv, h11, h12.moved hv⟩
-- locals
def zLr (G : zG) (nL : Nat) (ls : zL) (lsm : Array Slot) : Prop := lsm.size = nL ∧ lv_wf lsm ∧ ls.length = nL ∧ ∀ (i : Nat) (v : Value), ls[i]? = some (some v) → lsm[i]? = some (.val (ztr G v))
theorem ztr_cat (G : zG) (v : Value) : (ztr G v).category = v.category := by cases v <;> rfl
/-- as the kit lists them -/
def zpl (G : zG) (ls : zL) : List (Nat × Value) := (List.range ls.length).filterMap (fun j => match ls[j]? with
  | some (some v) => some (j, ztr G v)
  | _ => none)
theorem zpl_mem {G : zG} {ls : zL} {q : Nat × Value} : q ∈ zpl G ls ↔ ∃ v, ls[q.1]? = some (some v) ∧ q.2 = ztr G v := by
  unfold zpl
  rw [List.mem_filterMap]
  constructor
  · rintro ⟨j, -, hj⟩
    split at hj
    · rename_i v hv
      cases hj
      exact ⟨v, hv, rfl⟩
    · cases hj
  · rintro ⟨v, hv, e⟩
    refine ⟨q.1, List.mem_range.mpr (List.getElem?_eq_some_iff.mp hv).1, ?_⟩
    rw [hv]
    simp [← e]
theorem zLr_has {G : zG} {nL : Nat} {ls : zL} {lsm : Array Slot} (h : zLr G nL ls lsm) : lv_has lsm nL (zpl G ls) := ⟨h.1, h.2.1, fun q hq => by
  obtain ⟨v, h1, h2⟩ := zpl_mem.mp hq
  rw [h2]
  exact h.2.2.2 _ _ h1⟩
theorem zLr_place {G : zG} {nL : Nat} {ls : zL} {lsm : Array Slot} {i : Nat} {v : Value} (h : zLr G nL ls lsm) (hi : ls[i]? = some (some v)) : ∃ k : Nat, (zpl G ls)[k]? = some (i, ztr G v) := List.getElem?_of_mem (zpl_mem.mpr ⟨v, hi, rfl⟩)
theorem zLr_set1 {G : zG} {nL i : Nat} {ls : zL} {v : Value} {ls' : Array Slot} (hlen : ls.length = nL) (hg : zlg ls i = true)
    (h : lv_has ls' nL ((i, ztr G v) :: (zpl G ls).filter (fun q => !(q.1 == i) && !(q.1 + 1 == i && q.2.category == 2)))) : zLr G nL (ls.set i (some v)) ls' := by
  refine ⟨h.1, h.2.1, by rw [List.length_set]; exact hlen, fun j u hj => ?_⟩
  by_cases e : j = i
  · subst e
    have hl : j < ls.length := by
      have := (List.getElem?_eq_some_iff.mp hj).1
      rwa [List.length_set] at this
    rw [List.getElem?_set_self hl] at hj
    have e := Option.some.inj (Option.some.inj hj)
    rw [← e]
    exact h.2.2 (j, ztr G v) List.mem_cons_self
  · rw [List.getElem?_set_ne (Ne.symm e)] at hj
    refine h.2.2 (j, ztr G u) (List.mem_cons_of_mem _ (List.mem_filter.mpr ⟨zpl_mem.mpr ⟨u, hj, rfl⟩, ?_⟩))
    have h1 : (j == i) = false := by simpa using e
    simp only [h1, Bool.not_false, Bool.true_and, Bool.not_eq_true', Bool.and_eq_false_iff, beq_eq_false_iff_ne, ne_eq]
    by_cases e2 : j + 1 = i
    · right
      rw [ztr_cat]
      have e3 : i - 1 = j := by omega
      unfold zlg at hg
      rw [e3, hj] at hg
      cases u <;> simp_all [Value.category]
    · exact Or.inl e2
theorem zLr_set2 {G : zG} {nL i : Nat} {ls : zL} {v : Value} {ls' : Array Slot} (hlen : ls.length = nL) (hg : zlg ls i = true)
    (h : lv_has ls' nL ((i, ztr G v) :: (zpl G ls).filter (fun q => !(q.1 == i) && (!(q.1 == i + 1) && !(q.1 + 1 == i && q.2.category == 2))))) : zLr G nL ((ls.set i (some v)).set (i + 1) none) ls' := by
  refine ⟨h.1, h.2.1, by rw [List.length_set, List.length_set]; exact hlen, fun j u hj => ?_⟩
  by_cases e1 : j = i + 1
  · subst e1
    have hl : i + 1 < (ls.set i (some v)).length := by
      have := (List.getElem?_eq_some_iff.mp hj).1
      rwa [List.length_set] at this
    rw [List.getElem?_set_self hl] at hj
    cases hj
  rw [List.getElem?_set_ne (Ne.symm e1)] at hj
  by_cases e : j = i
  · subst e
    have hl : j < ls.length := by
      have := (List.getElem?_eq_some_iff.mp hj).1
      rwa [List.length_set] at this
    rw [List.getElem?_set_self hl] at hj
    have e := Option.some.inj (Option.some.inj hj)
    rw [← e]
    exact h.2.2 (j, ztr G v) List.mem_cons_self
  · rw [List.getElem?_set_ne (Ne.symm e)] at hj
    refine h.2.2 (j, ztr G u) (List.mem_cons_of_mem _ (List.mem_filter.mpr ⟨zpl_mem.mpr ⟨u, hj, rfl⟩, ?_⟩))
    have h1 : (j == i) = false := by simpa using e
    have h2 : (j == i + 1) = false := by simpa using e1
    simp only [h1, h2, Bool.not_false, Bool.true_and, Bool.not_eq_true', Bool.and_eq_false_iff, beq_eq_false_iff_ne, ne_eq]
    by_cases e2 : j + 1 = i
    · right
      rw [ztr_cat]
      have e3 : i - 1 = j := by omega
      unfold zlg at hg
      rw [e3, hj] at hg
      cases u <;> simp_all [Value.category]
    · exact Or.inl e2
theorem zmk_get : ∀ (m : List Bool) (ls : zL) (i : Nat) (v : Value), (zmk m ls)[i]? = some (some v) → ls[i]? = some (some v)
  | [], _, _, _, h => h
  | _ :: _, [], _, _, h => h
  | b :: bs, x :: xs, 0, v, h => by
    cases b
    · simp [zmk] at h
    · simpa [zmk] using h
  | b :: bs, x :: xs, i + 1, v, h => zmk_get bs xs i v (by simpa [zmk] using h)
theorem zmk_len : ∀ (m : List Bool) (ls : zL), (zmk m ls).length = ls.length
  | [], _ => rfl
  | _ :: _, [] => rfl
  | b :: bs, x :: xs => by simp [zmk, zmk_len bs xs]
theorem zLr_mk {G : zG} {nL : Nat} {ls : zL} {lsm : Array Slot} (m : List Bool) (h : zLr G nL ls lsm) : zLr G nL (zmk m ls) lsm := ⟨h.1, h.2.1, by rw [zmk_len]; exact h.2.2.1, fun i v hi => h.2.2.2 i v (zmk_get m ls i v hi)⟩
