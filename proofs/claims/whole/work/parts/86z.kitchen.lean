set_option maxRecDepth 40000 in
theorem pr_60 {L : Nat} {xs : Nat → Int32} : qPr (Inv L xs) 60 124 [] := sorry
