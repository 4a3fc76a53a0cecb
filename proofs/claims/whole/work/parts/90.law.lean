/-! ===== the law, out of the pure machine's answer ===== -/
def zlen : List Nat := [5, 6, 5, 6, 4, 3, 6, 3]
def zbyt : List (List Int32) := [zstt 1010, zstt 1011, zstt 1012, zstt 1013, zstt 1014, zstt 1015, zstt 1016, zstt 1017]
def ztm (i : Nat) : Term := Term.string "BitOff$Reader" (zstr i).1
theorem zh_len : ∀ i, i < 8 → zlen.getD i 0 = (zsh (1010 + i)).2.2 := by decide +kernel
theorem zh_byt : ∀ i, i < 8 → zbyt.getD i [] = zstt (1010 + i) := by
  intro i hi
  rcases (by omega : i = 0 ∨ i = 1 ∨ i = 2 ∨ i = 3 ∨ i = 4 ∨ i = 5 ∨ i = 6 ∨ i = 7) with h | h | h | h | h | h | h | h <;> subst h <;> rfl
theorem zh_ex : ∀ i, i < 8 → Cond.exactly (ztm i) "java/lang/String" ∈ flatC (Jvm.Cond.and given_1 narrow_1) := by decide +kernel
theorem zh_co : ∀ i, i < 8 → Cond.eq (.field (ztm i) "java/lang/String" "coder" "B") (.int 0) ∈ flatC (Jvm.Cond.and given_1 narrow_1) := by decide +kernel
theorem zh_ar : ∀ i, i < 8 → Cond.arrayOf (.field (ztm i) "java/lang/String" "value" "[B") .byte ∈ flatC (Jvm.Cond.and given_1 narrow_1) := by decide +kernel
theorem zh_le : ∀ i, i < 8 → Cond.eq (.length (.field (ztm i) "java/lang/String" "value" "[B")) (.int (Int32.ofNat (zlen.getD i 0))) ∈ flatC (Jvm.Cond.and given_1 narrow_1) := by decide +kernel
theorem zh_el : ∀ i, i < 8 → ∀ j, j < zlen.getD i 0 → Cond.eq (.elem (.field (ztm i) "java/lang/String" "value" "[B") (.int (Int32.ofNat j))) (.int ((zbyt.getD i []).getD j 0)) ∈ flatC (Jvm.Cond.and given_1 narrow_1) := by decide +kernel
theorem zh_ne : ∀ i, i < 8 → ∀ j, j < 8 → i ≠ j → Cond.not (Cond.eq (ztm i) (ztm j)) ∈ flatC (Jvm.Cond.and given_1 narrow_1) ∨ Cond.not (Cond.eq (ztm j) (ztm i)) ∈ flatC (Jvm.Cond.and given_1 narrow_1) := by decide +kernel
theorem zh_sr : ∀ i, i < 8 → Cond.stringRef "BitOff$Reader" (zstr i).1 (zstr i).2 ∈ lw_tbl := by decide +kernel
theorem zh_k1 : Cond.arrayOf (.static "BitOff$Table" "KIND_ABOVE" "[I") .int ∈ flatC (Jvm.Cond.and given_1 narrow_1) := by decide +kernel
theorem zh_k2 : Cond.eq (.length (.static "BitOff$Table" "KIND_ABOVE" "[I")) (.int (Int32.ofNat 7)) ∈ flatC (Jvm.Cond.and given_1 narrow_1) := by decide +kernel
theorem zh_k3 : ∀ j, j < 7 → Cond.eq (.elem (.static "BitOff$Table" "KIND_ABOVE" "[I") (.int (Int32.ofNat j))) (.int ((zstt 1020).getD j 0)) ∈ flatC (Jvm.Cond.and given_1 narrow_1) := by decide +kernel
theorem zh_cs : Cond.eq (.static "java/lang/String" "COMPACT_STRINGS" "Z") (.int 1) ∈ flatC (Jvm.Cond.and given_1 narrow_1) := by decide +kernel
theorem zh_t1 : Cond.laysStatic "BitOff$Table" "KIND_ABOVE" "[I" ∈ lw_tbl := by decide +kernel
theorem zh_t2 : Cond.laysStatic "java/lang/String" "COMPACT_STRINGS" "Z" ∈ lw_tbl := by decide +kernel
theorem zh_t3 : Cond.initialized "BitOff$Table" ∈ lw_tbl ∧ Cond.initialized "java/lang/String" ∈ lw_tbl := by decide +kernel
theorem zh_ao : Cond.arrayOver (.object "BitOff$Kitchen") ∈ lw_tbl ∧ Cond.arrayOver (.array .long) ∈ lw_tbl := by decide +kernel
theorem zh_ac : Cond.arrayClass .int ∈ lw_tbl ∧ Cond.arrayClass .byte ∈ lw_tbl ∧ Cond.arrayClass .boolean ∈ lw_tbl ∧ Cond.arrayClass .long ∈ lw_tbl := by decide +kernel
theorem zh_in : (Cond.instantiable RX0 5 ∈ lw_tbl ∧ Cond.instantiable RX1 8 ∈ lw_tbl ∧ Cond.instantiable RX2 7 ∈ lw_tbl ∧ Cond.instantiable RX3 4 ∈ lw_tbl) ∧ Cond.instantiable RX4 16 ∈ lw_tbl ∧ Cond.instantiable RX5 3 ∈ lw_tbl ∧ Cond.instantiable RX6 11 ∈ lw_tbl ∧ Cond.instantiable RX7 65 ∈ lw_tbl := by decide +kernel
theorem zh_t4 : Cond.laysStatic "jdk/internal/util/Preconditions" "SIOOBE_FORMATTER" "Ljava/util/function/BiFunction;" ∈ lw_tbl ∧ Cond.initialized "jdk/internal/util/Preconditions" ∈ lw_tbl := by decide +kernel
theorem zh_sf : Cond.isRef (.static "jdk/internal/util/Preconditions" "SIOOBE_FORMATTER" "Ljava/util/function/BiFunction;") ∈ flatC (Jvm.Cond.and given_1 narrow_1) := by decide +kernel
theorem zGw_tbl {w : Cond} (h : w ∈ zGw) : w ∈ lw_tbl := (List.mem_filter.mp h).1
theorem zrow {s : State} {A : Array Value} {ty : FieldType} (h : (Cond.arrayClass ty).before A s = true) (ho : ∀ C, ty ≠ .object C) : ∃ cA : ClassId, ArrOfT s cA ty ∧ va_RA s cA ty := by
  obtain ⟨cA, k, comp, h1, h2, h3⟩ := Cond.arrayClass_spec h
  refine ⟨cA, fun N z => ⟨(fun q hq => by cases hq), k, h2, comp, h3⟩, ?_⟩
  cases ty <;> first | exact h1 | exact absurd rfl (ho _)
theorem zKtys {s : State} {c1 c2 c3 c4 c5 c6 : ClassId} (a1 : ArrOfT s c1 .int ∧ va_RA s c1 .int) (a2 : ArrOfT s c2 .byte ∧ va_RA s c2 .byte) (a3 : ArrOfT s c3 .boolean ∧ va_RA s c3 .boolean) (a4 : ArrOfT s c4 .long ∧ va_RA s c4 .long) (a5 : ArrOfT s c5 (.object "BitOff$Kitchen") ∧ va_RA s c5 (.object "BitOff$Kitchen")) (a6 : ArrOfT s c6 (.array .long) ∧ va_RA s c6 (.array .long)) : ∀ (k : Nat) (q : ClassId × FieldType), ([(c1, .int), (c2, .byte), (c3, .boolean), (c4, .long), (c5, .object "BitOff$Kitchen"), (c6, .array .long)] : List (ClassId × FieldType))[k]? = some q → ArrOfT s q.1 q.2 ∧ va_RA s q.1 q.2
  | 0, _, h => by cases h; exact a1
  | 1, _, h => by cases h; exact a2
  | 2, _, h => by cases h; exact a3
  | 3, _, h => by cases h; exact a4
  | 4, _, h => by cases h; exact a5
  | 5, _, h => by cases h; exact a6
  | k + 6, _, h => by simp at h
theorem zstart {s : State} {b L : Nat} {xs : Nat → Int32} (hL : L ≤ 3072) (hts : ∀ w ∈ lw_tbl, w.before #[Value.ref b] s = true) (hX : va_X b L xs s s.heap) (hbl : b < s.heap.size) (hgv : (Jvm.Cond.and given_1 narrow_1).before #[Value.ref b] s = true) : ∃ G : zG, G.2.2.1 = s.heap.size ∧ zad G 1021 = b ∧ zE G L xs s := by
  have hfl := flat_of_before _ hgv
  have hA : ∀ a : Nat, a < s.heap.size → ¬ (fun q => s.heap.size ≤ q) a := fun a ha h => absurd h (Nat.not_le.mpr ha)
  obtain ⟨adK, adV, hS, hev⟩ := vk_Sof (N := 8) (tm := ztm) (len := zlen) (byt := zbyt) (A := fun q => s.heap.size ≤ q) (args := #[Value.ref b]) (s := s) (by decide) (fun i hi => hfl _ (zh_ex i hi)) (fun i hi => hfl _ (zh_co i hi)) (fun i hi => hfl _ (zh_ar i hi)) (fun i hi => hfl _ (zh_le i hi)) (fun i hi j hj => hfl _ (zh_el i hi j hj)) (fun i j hi hj hij => (zh_ne i hi j hj hij).imp (hfl _) (hfl _)) hA
  obtain ⟨tK, hK1, hK2⟩ := va_Tof (A := fun q => s.heap.size ≤ q) (N := 7) (f := fun i => .int ((zstt 1020).getD i 0)) (by decide) (hfl _ zh_k1) (va_eqt (hfl _ zh_k2)) (fun j hj => va_eqt (hfl _ (zh_k3 j hj))) hA
  have hcls : ∀ k : Nat, ∃ q : ClassId × (Nat → Nat), ∀ r : vw_C, zcls[k]? = some r → u_Kn s r.1 r.2.1 r.2.2 q.1 q.2 := by
    have one : ∀ {C : String} {T : u_T} {N : Nat}, (∀ w ∈ u_ws C T N, w ∈ zGw) → Cond.instantiable C N ∈ lw_tbl → ∃ q : ClassId × (Nat → Nat), u_Kn s C T N q.1 q.2 := by
      intro C T N h1 h2
      obtain ⟨cC, iS, h⟩ := u_known (C := C) (T := T) (N := N) (n := N) hts (fun w hw => zGw_tbl (h1 w hw)) (hts _ h2)
      exact ⟨(cC, iS), h⟩
    obtain ⟨⟨i0, i1, i2, i3⟩, i4, i5, i6, i7⟩ := zh_in
    intro k
    match k with
    | 0 => obtain ⟨q, hq⟩ := one zin0 i0; exact ⟨q, fun r hr => by cases hr; exact hq⟩
    | 1 => obtain ⟨q, hq⟩ := one zin1 i1; exact ⟨q, fun r hr => by cases hr; exact hq⟩
    | 2 => obtain ⟨q, hq⟩ := one zin2 i2; exact ⟨q, fun r hr => by cases hr; exact hq⟩
    | 3 => obtain ⟨q, hq⟩ := one zin3 i3; exact ⟨q, fun r hr => by cases hr; exact hq⟩
    | 4 => obtain ⟨q, hq⟩ := one zin4 i4; exact ⟨q, fun r hr => by cases hr; exact hq⟩
    | 5 => obtain ⟨q, hq⟩ := one zin5 i5; exact ⟨q, fun r hr => by cases hr; exact hq⟩
    | 6 => obtain ⟨q, hq⟩ := one zin6 i6; exact ⟨q, fun r hr => by cases hr; exact hq⟩
    | 7 => obtain ⟨q, hq⟩ := one zin7 i7; exact ⟨q, fun r hr => by cases hr; exact hq⟩
    | k + 8 => exact ⟨(0, fun _ => 0), fun r hr => by simp [zcls] at hr⟩
  obtain ⟨cl, hcl⟩ := Classical.axiomOfChoice hcls
  obtain ⟨c1, a1⟩ := zrow (hts _ zh_ac.1) (fun C h => by cases h)
  obtain ⟨c2, a2⟩ := zrow (hts _ zh_ac.2.1) (fun C h => by cases h)
  obtain ⟨c3, a3⟩ := zrow (hts _ zh_ac.2.2.1) (fun C h => by cases h)
  obtain ⟨c4, a4⟩ := zrow (hts _ zh_ac.2.2.2) (fun C h => by cases h)
  have ho1 := hts _ zh_ao.1
  have ho2 := hts _ zh_ao.2
  obtain ⟨p5, c5, k5, r1, r2, r3, r4, r5⟩ := Cond.arrayOver_spec ho1
  obtain ⟨p6, c6, k6, v1, v3, v4, v5⟩ := Cond.arrayOver_specA ho2
  have a5 : ArrOfT s c5 (.object "BitOff$Kitchen") ∧ va_RA s c5 (.object "BitOff$Kitchen") := ⟨fun N z => ⟨(fun q hq => by cases hq), k5, r3, p5, r4⟩, k5, p5, r3, r4, r1, r5⟩
  have a6 : ArrOfT s c6 (.array .long) ∧ va_RA s c6 (.array .long) := ⟨fun N z => ⟨(fun q hq => by cases hq), k6, v3, p6, v4⟩, v5⟩
  let sa : Nat → Nat := fun k => if k < 1008 then adK (k - 1000) else if k < 1018 then adV (k - 1010) else if k = 1020 then tK else b
  let cA : Nat → ClassId := fun k => if k = 1 then c1 else if k = 2 then c2 else if k = 3 then c3 else if k = 4 then c4 else if k = 5 then c5 else c6
  let G : zG := ((fun k => (cl k).1, fun k => (cl k).2), cA, s.heap.size, sa)
  have z1 : ∀ j, j < 8 → zad G (1000 + j) = adK j := fun j hj => by
    show (if 1000 + j < 1000 then _ else sa (1000 + j)) = _
    rw [if_neg (by omega)]
    show (if 1000 + j < 1008 then adK (1000 + j - 1000) else _) = _
    rw [if_pos (by omega), Nat.add_sub_cancel_left]
  have z2 : ∀ j, j < 8 → zad G (1010 + j) = adV j := fun j hj => by
    show (if 1010 + j < 1000 then _ else sa (1010 + j)) = _
    rw [if_neg (by omega)]
    show (if 1010 + j < 1008 then _ else if 1010 + j < 1018 then adV (1010 + j - 1010) else _) = _
    rw [if_neg (by omega), if_pos (by omega), Nat.add_sub_cancel_left]
  refine ⟨G, rfl, rfl, ⟨fun k r hr => hcl k r hr, fun k q hq => ?_⟩, fun w hw => ?_, fun j hj => ?_, va_AO.of ho1, ho2, fun j hj => ?_, hK2, ?_, ?_, ?_, by omega, va_Zqof (hts _ zh_t4.1) (hts _ zh_t4.2) (hfl _ zh_sf) hA⟩
  · exact zKtys a1 a2 a3 a4 a5 a6 k q hq
  · have h1 := hts _ (List.mem_filter.mp hw).1
    have h2 := (List.mem_filter.mp hw).2
    cases w <;> first | exact Bool.noConfusion h2 | exact va_Nw.of rfl h1
  · rw [z1 j hj]
    have h1 := hts _ (zh_sr j hj)
    have h2 := hev j hj
    exact vk_R.of (A := #[Value.ref b]) h1 h2
  · obtain ⟨q1, q2, q3, q4⟩ := hS.1 j hj
    rw [z1 j hj, z2 j hj]
    rw [zh_len j hj, zh_byt j hj] at q4
    exact ⟨q1, q2, q3, q4⟩
  · obtain ⟨scr, h1, h2, h3, h4, h5⟩ := hX
    exact ⟨scr, h1, h2, h3, Nat.le_of_eq h4.symm, by rw [h4], h5, hA b hbl⟩
  · exact va_Zof (hts _ zh_t1) (hts _ zh_t3.1) hK1 hA
  · exact va_Zof (hts _ zh_t2) (hts _ zh_t3.2) (va_eqi (hfl _ zh_cs)) hA
theorem zsl111 : zsl 111 ≤ 7302250 := Nat.le_of_ble_eq_true (by decide +kernel)
theorem whole_of (HP : zPure) {p : Program} {e : Env} {s : State} {m : MethodId} {below : List Frame} {meth : Method} {c : Code} (l : Launch) {b L : Nat} {xs : Nat → Int32} (hL : L ≤ 3072) (C0 : p.tables.exec = Jvm.exec ∧ c.code = code ∧ meth.sig.returnType = ret ∧ c.maxLocals = 4 ∧ s.vm.findClass "BitOffLaw" = some m.cls ∧ (∀ w ∈ lw_tbl, w.before #[Value.ref b] s = true) ∧ va_X b L xs s s.heap ∧ b < s.heap.size ∧ meth.locks = false ∧ (Jvm.Cond.and given_1 narrow_1).before #[Value.ref b] s = true)
    {Q : State → Prop} (hret : ∀ (pc : Nat) (H : Heap) (ls : Array Slot), decode code pc = .ok (.ireturn, 1) → W p l e room_1 s m #[Value.ref b] below meth c H [] 600000 7302250 Q (F0 m pc ls [.int 1])) : W p l e room_1 s m #[Value.ref b] below meth c s.heap [] 0 0 Q (entryFrame m ([Value.ref b] : List Value).toArray 4) := by
  obtain ⟨hx, hb, hr, hml, hown, hts, hX, hbl, hlocks, hgv⟩ := C0
  obtain ⟨G, g1, g2, hE⟩ := zstart hL hts hX hbl hgv
  obtain ⟨n, hn⟩ := HP L xs hL
  have IH := zMet 60
  have hcl : ∀ y' as w r w', zcl 60 y' as w = some (r, w') → w.2.2.2 ≤ w'.2.2.2 := fun y' as w r w' h => (IH y' as w r w' h).1
  have C : zCx zmt p l e room_1 s m #[Value.ref b] below meth c G L xs code "BitOffLaw" ret (zcl 60) 60 0 111 Q (fun r w => r = some (.int 1) ∧ w.2.2.2 ≤ 111) := by
    refine ⟨hx, hb, hown, fun w hw => hts w (zGw_tbl hw), hE, Nat.le_of_eq g1, ⟨Nat.le_of_ble_eq_true rfl, Nat.le_of_ble_eq_true rfl, Nat.le_of_ble_eq_true rfl, Nat.le_trans (Nat.sub_le _ _) zsl111⟩, ?_, IH⟩
    intro pc ls v w1 hq hk lsm H locs h1 h2 h3 h4
    obtain ⟨rfl, hw⟩ := hq
    rcases hk with ⟨x, ty, e1, e2, e3, D⟩ | ⟨x, e1, e2, D⟩ | ⟨e1, e2, D⟩
    · refine va_forget (fun q hq => by have := h3.2.2 q hq; rw [← g1]; exact this) ?_
      refine W.widen (k := 600000) (n := 7302250) (Nat.le_trans (Nat.sub_le _ _) (Nat.le_trans hw (Nat.le_of_ble_eq_true rfl))) (Nat.le_trans (Nat.sub_le _ _) (Nat.le_trans (zsl_le hw) zsl111)) ?_
      exact hret pc H lsm D
    · cases e1
    · cases e1
  have run := zgo_run (y := 213) (zs_213 C hml) hcl (zmo_213) (fun r w q => q.2) n _ hn
  have hl := zLr_ent (G := G) (n := 4) (as := [.ref 1021]) (Nat.le_of_ble_eq_true rfl)
  have ea : ([.ref 1021] : List Value).map (ztr G) = [.ref b] := by
    show [Value.ref (zad G 1021)] = _
    rw [g2]
  rw [ea] at hl
  rw [lg_entry_eq]
  have h9 := run _ s.heap [] (by rw [hml]; exact hl) ⟨by rw [g1]; rfl, fun k q h => by simp [zent, zws, zw0] at h, Nat.zero_le 1000, rfl, rfl⟩ va_S.rf (Nat.le_refl _)
  exact h9
