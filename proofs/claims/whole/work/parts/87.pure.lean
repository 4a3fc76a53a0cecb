/-! ===== what is left to the pure side ===== -/
def zw0 (L : Nat) (xs : Nat → Int32) : zW := (fun k => if k = 1021 then xs else if k = 1022 then (fun _ => Int32.ofNat L) else zzf, fun _ => zzl, fun _ => zzr, 0)
def zPure : Prop := ∀ (L : Nat) (xs : Nat → Int32), L ≤ 3072 → zWP (zcl 60) 213 (zent 213 [.ref 1021] (zw0 L xs)) (fun r w => r = some (.int 1) ∧ w.2.2.2 ≤ 111)
