theorem zz_probe (a b : Nat) (h : a < b) : a ≤ b := by omega
