/-! ===== THE PURE MACHINE: a world of cells by number, one step of an instruction, a method's answer ===== -/
abbrev zI : Type := Nat → Nat → Int32
abbrev zJ : Type := Nat → Nat → Int64
abbrev zR : Type := Nat → Nat → Option Nat
/-- ints, longs, references of each cell; how many cells there are -/
abbrev zW : Type := zI × zJ × zR × Nat
abbrev zL : Type := List (Option Value)
/-- where it is, locals, stack, world -/
abbrev zC : Type := Nat × zL × List Value × zW
/-- goes on; a branch; a test that must hold; a call; an end; stuck -/
abbrev zO : Type := zC ⊕ ((Bool × zC × zC) ⊕ ((Bool × zC) ⊕ ((Bool × Nat × List Value × zC) ⊕ ((Bool × Option Value × zW) ⊕ ((Int32 × List (Int32 × Nat) × Nat × zC) ⊕ Unit)))))
abbrev zNx (c : zC) : zO := .inl c
abbrev zBr (b : Bool) (c1 c2 : zC) : zO := .inr (.inl (b, c1, c2))
abbrev zGd (b : Bool) (c : zC) : zO := .inr (.inr (.inl (b, c)))
abbrev zCl (b : Bool) (y : Nat) (as : List Value) (c : zC) : zO := .inr (.inr (.inr (.inl (b, y, as, c))))
abbrev zRt (b : Bool) (v : Option Value) (w : zW) : zO := .inr (.inr (.inr (.inr (.inl (b, v, w)))))
abbrev zSw (x : Int32) (r : List (Int32 × Nat)) (d : Nat) (c : zC) : zO := .inr (.inr (.inr (.inr (.inr (.inl (x, r, d, c))))))
abbrev zSt : zO := .inr (.inr (.inr (.inr (.inr (.inr ())))))
/-- one place of one cell anew -/
def zup {α : Type} (f : Nat → Nat → α) (k j : Nat) (x : α) : Nat → Nat → α := fun a => if a = k then va_up (f k) j x else f a
/-- a whole cell anew -/
def zup1 {α : Type} (f : Nat → α) (k : Nat) (g : α) : Nat → α := fun a => if a = k then g else f a
def zin (i : Int32) (n : Nat) : Bool := decide (0 ≤ i.toInt ∧ i.toInt < n)
def zzf : Nat → Int32 := fun _ => 0
def zzl : Nat → Int64 := fun _ => 0
def zzr : Nat → Option Nat := fun _ => none
/-- a fresh cell -/
def zal (w : zW) : zW := (zup1 w.1 w.2.2.2 zzf, zup1 w.2.1 w.2.2.2 zzl, zup1 w.2.2.1 w.2.2.2 zzr, w.2.2.2 + 1)
-- instructions
def o_bad (_ : zC) : zO := zSt
def o_push (v : Value) (n : Nat) (c : zC) : zO := zNx (c.1 + n, c.2.1, v :: c.2.2.1, c.2.2.2)
def o_iload (i n : Nat) (c : zC) : zO := match c.2.1[i]? with
  | some (some (.int x)) => zNx (c.1 + n, c.2.1, .int x :: c.2.2.1, c.2.2.2)
  | _ => zSt
def o_lload (i n : Nat) (c : zC) : zO := match c.2.1[i]? with
  | some (some (.long x)) => zNx (c.1 + n, c.2.1, .long x :: c.2.2.1, c.2.2.2)
  | _ => zSt
def o_aload (i n : Nat) (c : zC) : zO := match c.2.1[i]? with
  | some (some (.ref x)) => zNx (c.1 + n, c.2.1, .ref x :: c.2.2.1, c.2.2.2)
  | _ => zSt
/-- no long ends at place i -/
def zlg (ls : zL) (i : Nat) : Bool := match ls[i - 1]? with
  | some (some (.long _)) => false
  | some (some (.double _)) => false
  | _ => true
def o_istore (i n : Nat) (c : zC) : zO := match c.2.2.1 with
  | .int x :: t => zGd (zlg c.2.1 i) (c.1 + n, c.2.1.set i (some (.int x)), t, c.2.2.2)
  | _ => zSt
def o_astore (i n : Nat) (c : zC) : zO := match c.2.2.1 with
  | .ref x :: t => zGd (zlg c.2.1 i) (c.1 + n, c.2.1.set i (some (.ref x)), t, c.2.2.2)
  | _ => zSt
def o_lstore (i n : Nat) (c : zC) : zO := match c.2.2.1 with
  | .long x :: t => zGd (zlg c.2.1 i) (c.1 + n, (c.2.1.set i (some (.long x))).set (i + 1) none, t, c.2.2.2)
  | _ => zSt
def o_iinc (i : Nat) (x : Int32) (c : zC) : zO := match c.2.1[i]? with
  | some (some (.int y)) => zGd (zlg c.2.1 i) (c.1 + 3, c.2.1.set i (some (.int (y + x))), c.2.2.1, c.2.2.2)
  | _ => zSt
/-- an instruction of two ints -/
def o_ii (f : Int32 → Int32 → Int32) (c : zC) : zO := match c.2.2.1 with
  | .int y :: .int x :: t => zNx (c.1 + 1, c.2.1, .int (f x y) :: t, c.2.2.2)
  | _ => zSt
/-- a division -/
def o_dv (f : Int32 → Int32 → Int32) (c : zC) : zO := match c.2.2.1 with
  | .int y :: .int x :: t => zGd (decide (¬ y = 0)) (c.1 + 1, c.2.1, .int (f x y) :: t, c.2.2.2)
  | _ => zSt
def o_i (f : Int32 → Int32) (c : zC) : zO := match c.2.2.1 with
  | .int x :: t => zNx (c.1 + 1, c.2.1, .int (f x) :: t, c.2.2.2)
  | _ => zSt
def o_ll (f : Int64 → Int64 → Int64) (c : zC) : zO := match c.2.2.1 with
  | .long y :: .long x :: t => zNx (c.1 + 1, c.2.1, .long (f x y) :: t, c.2.2.2)
  | _ => zSt
def o_lshl (c : zC) : zO := match c.2.2.1 with
  | .int y :: .long x :: t => zNx (c.1 + 1, c.2.1, .long (x <<< (y.toInt64 &&& 63)) :: t, c.2.2.2)
  | _ => zSt
def o_lcmp (c : zC) : zO := match c.2.2.1 with
  | .long y :: .long x :: t => zNx (c.1 + 1, c.2.1, .int (lg_cmp x y) :: t, c.2.2.2)
  | _ => zSt
def o_i2l (c : zC) : zO := match c.2.2.1 with
  | .int x :: t => zNx (c.1 + 1, c.2.1, .long x.toInt64 :: t, c.2.2.2)
  | _ => zSt
def o_l2i (c : zC) : zO := match c.2.2.1 with
  | .long x :: t => zNx (c.1 + 1, c.2.1, .int x.toInt32 :: t, c.2.2.2)
  | _ => zSt
def zc1 (v : Value) : Bool := match v with
  | .int _ => true
  | .ref _ => true
  | _ => false
def o_dup (c : zC) : zO := match c.2.2.1 with
  | v :: t => zGd (zc1 v) (c.1 + 1, c.2.1, v :: v :: t, c.2.2.2)
  | _ => zSt
def o_dup2 (c : zC) : zO := match c.2.2.1 with
  | v :: u :: t => zGd (zc1 v && zc1 u) (c.1 + 1, c.2.1, v :: u :: v :: u :: t, c.2.2.2)
  | _ => zSt
def o_pop (c : zC) : zO := match c.2.2.1 with
  | v :: t => zGd (zc1 v) (c.1 + 1, c.2.1, t, c.2.2.2)
  | _ => zSt
def o_goto (t : Nat) (c : zC) : zO := zNx (t, c.2.1, c.2.2.1, c.2.2.2)
def o_if (f : Int32 → Bool) (tg : Nat) (c : zC) : zO := match c.2.2.1 with
  | .int x :: t => zBr (f x) (tg, c.2.1, t, c.2.2.2) (c.1 + 3, c.2.1, t, c.2.2.2)
  | _ => zSt
def o_ic (f : Int32 → Int32 → Bool) (tg : Nat) (c : zC) : zO := match c.2.2.1 with
  | .int y :: .int x :: t => zBr (f x y) (tg, c.2.1, t, c.2.2.2) (c.1 + 3, c.2.1, t, c.2.2.2)
  | _ => zSt
def z_eq (x : Int32) : Bool := decide (x = 0)
def z_ne (x : Int32) : Bool := decide (¬ x = 0)
def z_lt (x : Int32) : Bool := decide (x < 0)
def z_ge (x : Int32) : Bool := decide (0 ≤ x)
def z_gt (x : Int32) : Bool := decide (0 < x)
def z_le (x : Int32) : Bool := decide (x ≤ 0)
def z_ceq (x y : Int32) : Bool := decide (x = y)
def z_cne (x y : Int32) : Bool := decide (¬ x = y)
def z_clt (x y : Int32) : Bool := decide (x < y)
def z_cge (x y : Int32) : Bool := decide (y ≤ x)
def z_cgt (x y : Int32) : Bool := decide (y < x)
def z_cle (x y : Int32) : Bool := decide (x ≤ y)
/-- a switch: the rows are gone through one by one -/
def zsws (x : Int32) (P : Nat → Prop) : List (Int32 × Nat) → Nat → Prop
  | [], d => P d
  | (k, t) :: r, d => (x = k → P t) ∧ (¬ x = k → zsws x P r d)
def o_sw (r : List (Int32 × Nat)) (d : Nat) (c : zC) : zO := match c.2.2.1 with
  | .int x :: t => zSw x r d (c.1, c.2.1, t, c.2.2.2)
  | _ => zSt
-- returns
def o_ireturn (c : zC) : zO := match c.2.2.1 with
  | [.int x] => zRt true (some (.int x)) c.2.2.2
  | _ => zSt
/-- of a boolean, a byte, a char: the number as such a one has it -/
def z_rz (x : Int32) : Bool := decide (x = 0 ∨ x = 1)
def z_rb (x : Int32) : Bool := decide (x = 0)
def z_rc (x : Int32) : Bool := decide (0 ≤ x.toInt ∧ x.toInt < 128)
def o_nreturn (f : Int32 → Bool) (c : zC) : zO := match c.2.2.1 with
  | [.int x] => zRt (f x) (some (.int x)) c.2.2.2
  | _ => zSt
def o_lreturn (c : zC) : zO := match c.2.2.1 with
  | [.long x] => zRt true (some (.long x)) c.2.2.2
  | _ => zSt
def o_return (c : zC) : zO := match c.2.2.1 with
  | [] => zRt true none c.2.2.2
  | _ => zSt
def o_min (c : zC) : zO := match c.2.2.1 with
  | .int y :: .int x :: t => zGd (decide (t.length ≤ 4)) (c.1 + 3, c.2.1, .int (if y < x then y else x) :: t, c.2.2.2)
  | _ => zSt
def o_max (c : zC) : zO := match c.2.2.1 with
  | .int y :: .int x :: t => zGd (decide (t.length ≤ 4)) (c.1 + 3, c.2.1, .int (if x < y then y else x) :: t, c.2.2.2)
  | _ => zSt
-- fields: class ci, place j
def zob (ci k : Nat) (w : zW) : Bool := decide (k < w.2.2.2 ∧ (zsh k).1 = 0 ∧ (zsh k).2.1 = ci)
def o_geti (ci j : Nat) (c : zC) : zO := match c.2.2.1 with
  | .ref k :: t => zGd (zob ci k c.2.2.2) (c.1 + 3, c.2.1, .int (c.2.2.2.1 k j) :: t, c.2.2.2)
  | _ => zSt
def o_getr (ci j : Nat) (c : zC) : zO := match c.2.2.1 with
  | .ref k :: t => match c.2.2.2.2.2.1 k j with
    | some q => zGd (zob ci k c.2.2.2) (c.1 + 3, c.2.1, .ref q :: t, c.2.2.2)
    | none => zSt
  | _ => zSt
def o_puti (ci j : Nat) (c : zC) : zO := match c.2.2.1 with
  | .int x :: .ref k :: t => zGd (zob ci k c.2.2.2) (c.1 + 3, c.2.1, t, zup c.2.2.2.1 k j x, c.2.2.2.2)
  | _ => zSt
def o_putz (ci j : Nat) (c : zC) : zO := match c.2.2.1 with
  | .int x :: .ref k :: t => zGd (zob ci k c.2.2.2 && z_rz x) (c.1 + 3, c.2.1, t, zup c.2.2.2.1 k j x, c.2.2.2.2)
  | _ => zSt
def o_putr (ci j : Nat) (c : zC) : zO := match c.2.2.1 with
  | .ref q :: .ref k :: t => zGd (zob ci k c.2.2.2) (c.1 + 3, c.2.1, t, c.2.2.2.1, c.2.2.2.2.1, zup c.2.2.2.2.2.1 k j (some q), c.2.2.2.2.2.2)
  | _ => zSt
/-- of a String constant: its bytes, its coder -/
def o_gets (j : Nat) (c : zC) : zO := match c.2.2.1 with
  | .ref k :: t => zGd (decide (1000 ≤ k ∧ k < 1008)) (c.1 + 3, c.2.1, (if j = 0 then .ref (k + 10) else .int 0) :: t, c.2.2.2)
  | _ => zSt
-- arrays: sort tg of shapes (1 int, 2 byte, 3 boolean, 4 long, 5 kitchens, 6 rows of longs); 1010 .. 1017 bytes of the String constants, 1020 the kinds above, 1021 the script
def zln (k : Nat) (w : zW) : Nat := if k = 1021 then (w.1 1022 0).toNatClampNeg else (zsh k).2.2
def zld (k : Nat) (w : zW) (j : Nat) : Int32 := if k < 1000 ∨ k = 1021 then w.1 k j else (zstt k).getD j 0
def zar (tg k : Nat) (w : zW) : Bool := decide ((k < w.2.2.2 ∨ (1010 ≤ k ∧ k < 1030)) ∧ (zsh k).1 = tg)
def zaw (tg k : Nat) (w : zW) : Bool := decide (k < w.2.2.2 ∧ (zsh k).1 = tg)
def o_iald (tg : Nat) (c : zC) : zO := match c.2.2.1 with
  | .int i :: .ref k :: t => zGd (zar tg k c.2.2.2 && zin i (zln k c.2.2.2)) (c.1 + 1, c.2.1, .int (zld k c.2.2.2 i.toNatClampNeg) :: t, c.2.2.2)
  | _ => zSt
def o_lald (c : zC) : zO := match c.2.2.1 with
  | .int i :: .ref k :: t => zGd (zaw 4 k c.2.2.2 && zin i (zsh k).2.2) (c.1 + 1, c.2.1, .long (c.2.2.2.2.1 k i.toNatClampNeg) :: t, c.2.2.2)
  | _ => zSt
def o_aald (tg : Nat) (c : zC) : zO := match c.2.2.1 with
  | .int i :: .ref k :: t => match c.2.2.2.2.2.1 k i.toNatClampNeg with
    | some q => zGd (zaw tg k c.2.2.2 && zin i (zsh k).2.2) (c.1 + 1, c.2.1, .ref q :: t, c.2.2.2)
    | none => zSt
  | _ => zSt
/-- an int, a byte, a boolean as its place holds it -/
def znr (tg : Nat) (x : Int32) : Int32 := if tg = 2 then vp_nar .byte x else if tg = 3 then vp_nar .boolean x else x
def o_iast (tg : Nat) (c : zC) : zO := match c.2.2.1 with
  | .int x :: .int i :: .ref k :: t => zGd (zaw tg k c.2.2.2 && zin i (zsh k).2.2) (c.1 + 1, c.2.1, t, zup c.2.2.2.1 k i.toNatClampNeg (znr tg x), c.2.2.2.2)
  | _ => zSt
def o_last (c : zC) : zO := match c.2.2.1 with
  | .long x :: .int i :: .ref k :: t => zGd (zaw 4 k c.2.2.2 && zin i (zsh k).2.2) (c.1 + 1, c.2.1, t, c.2.2.2.1, zup c.2.2.2.2.1 k i.toNatClampNeg x, c.2.2.2.2.2)
  | _ => zSt
def o_aast (c : zC) : zO := match c.2.2.1 with
  | .ref q :: .int i :: .ref k :: t => zGd (zaw 5 k c.2.2.2 && (zob 1 q c.2.2.2 && zin i (zsh k).2.2)) (c.1 + 1, c.2.1, t, c.2.2.2.1, c.2.2.2.2.1, zup c.2.2.2.2.2.1 k i.toNatClampNeg (some q), c.2.2.2.2.2.2)
  | _ => zSt
def o_alen (c : zC) : zO := match c.2.2.1 with
  | .ref k :: t => zGd (decide ((k < c.2.2.2.2.2.2 ∧ 1 ≤ (zsh k).1 ∧ (zsh k).1 ≤ 6) ∨ (1010 ≤ k ∧ k ≤ 1017) ∨ k = 1021)) (c.1 + 1, c.2.1, .int (if k = 1021 then c.2.2.2.1 1022 0 else Int32.ofNat (zsh k).2.2) :: t, c.2.2.2)
  | _ => zSt
-- making cells
def o_new (ci : Nat) (c : zC) : zO := zGd (decide (c.2.2.2.2.2.2 < 1000 ∧ (zsh c.2.2.2.2.2.2).1 = 0 ∧ (zsh c.2.2.2.2.2.2).2.1 = ci)) (c.1 + 3, c.2.1, .ref c.2.2.2.2.2.2 :: c.2.2.1, zal c.2.2.2)
def o_newa (tg n : Nat) (c : zC) : zO := match c.2.2.1 with
  | .int x :: t => zGd (decide (c.2.2.2.2.2.2 < 1000 ∧ (zsh c.2.2.2.2.2.2).1 = tg ∧ (zsh c.2.2.2.2.2.2).2.2 < 10000 ∧ x.toInt = (zsh c.2.2.2.2.2.2).2.2)) (c.1 + n, c.2.1, .ref c.2.2.2.2.2.2 :: t, zal c.2.2.2)
  | _ => zSt
/-- six rows of sixty longs, and what holds them -/
def zmu (w : zW) : zW := (fun a => if w.2.2.2 ≤ a ∧ a < w.2.2.2 + 7 then zzf else w.1 a, fun a => if w.2.2.2 ≤ a ∧ a < w.2.2.2 + 7 then zzl else w.2.1 a, fun a => if a = w.2.2.2 then (fun j => if j < 6 then some (a + 1 + j) else none) else if w.2.2.2 ≤ a ∧ a < w.2.2.2 + 7 then zzr else w.2.2.1 a, w.2.2.2 + 7)
def o_multi (c : zC) : zO := match c.2.2.1 with
  | .int k :: .int n :: t => zGd (decide (c.2.2.2.2.2.2 < 900 ∧ k = 60 ∧ n = 6 ∧ zsh c.2.2.2.2.2.2 = (6, 0, 6)) && (List.range 6).all (fun j => decide (zsh (c.2.2.2.2.2.2 + 1 + j) = (4, 0, 60)))) (c.1 + 4, c.2.1, .ref c.2.2.2.2.2.2 :: t, zmu c.2.2.2)
  | _ => zSt
-- calls: n things are taken off the stack, the last of them first
def zpop : Nat → List Value → List Value → Option (List Value × List Value)
  | 0, st, acc => some (acc, st)
  | n + 1, v :: st, acc => zpop n st (v :: acc)
  | _ + 1, [], _ => none
/-- an object of class ci (8: a String constant) is the first -/
def zrv (ci : Nat) (as : List Value) (w : zW) : Bool := match as with
  | .ref k :: _ => if ci = 8 then decide (1000 ≤ k ∧ k < 1008) else zob ci k w
  | _ => false
def o_call (y n ci : Nat) (c : zC) : zO := match zpop n c.2.2.1 [] with
  | some (as, t) => zCl (zrv ci as c.2.2.2 && decide (t.length ≤ 4)) y as (c.1 + 3, c.2.1, t, c.2.2.2)
  | none => zSt
def o_scall (y n : Nat) (c : zC) : zO := match zpop n c.2.2.1 [] with
  | some (as, t) => zCl (decide (t.length ≤ 4)) y as (c.1 + 3, c.2.1, t, c.2.2.2)
  | none => zSt
/-- a place is within; it is said again (a static field of the JDK is read, a method of the JDK is called) -/
def o_chk (c : zC) : zO := match c.2.2.1 with
  | .int n :: .int i :: t => zGd (decide (0 ≤ i ∧ i < n) && decide (t.length ≤ 4)) (c.1 + 6, c.2.1, .int i :: t, c.2.2.2)
  | _ => zSt
/-- Object.<init> -/
def o_oinit (c : zC) : zO := match c.2.2.1 with
  | .ref _ :: t => zGd (decide (t.length ≤ 4)) (c.1 + 3, c.2.1, t, c.2.2.2)
  | _ => zSt
def zcp {α : Type} (f : Nat → Nat → α) (k1 p1 k2 p2 n : Nat) : Nat → Nat → α := fun a => if a = k2 then va_cpy (f k1) (f k2) p1 p2 n else f a
def zcpg (tg : Nat) (sp dp n : Int32) (k1 k2 : Nat) (w : zW) : Bool := zaw tg k1 w && (zaw tg k2 w && decide (0 ≤ sp.toInt ∧ 0 ≤ dp.toInt ∧ 0 ≤ n.toInt ∧ sp.toInt + n.toInt ≤ (zsh k1).2.2 ∧ dp.toInt + n.toInt ≤ (zsh k2).2.2))
def o_copyi (c : zC) : zO := match c.2.2.1 with
  | .int n :: .int dp :: .ref k2 :: .int sp :: .ref k1 :: t => zGd (zcpg 1 sp dp n k1 k2 c.2.2.2 && decide (t.length ≤ 4)) (c.1 + 3, c.2.1, t, zcp c.2.2.2.1 k1 sp.toNatClampNeg k2 dp.toNatClampNeg n.toNatClampNeg, c.2.2.2.2)
  | _ => zSt
def o_copyl (c : zC) : zO := match c.2.2.1 with
  | .int n :: .int dp :: .ref k2 :: .int sp :: .ref k1 :: t => zGd (zcpg 4 sp dp n k1 k2 c.2.2.2 && decide (t.length ≤ 4)) (c.1 + 3, c.2.1, t, c.2.2.2.1, zcp c.2.2.2.2.1 k1 sp.toNatClampNeg k2 dp.toNatClampNeg n.toNatClampNeg, c.2.2.2.2.2)
  | _ => zSt
/-! one instruction, as what must hold for a wish K of the next state and Q of an end; cl: what calls answer -/
abbrev zA : Type := Nat → List Value → zW → Option (Option Value × zW)
def zwp1 (cl : zA) (K : zC → Prop) (Q : Option Value → zW → Prop) : zO → Prop
  | .inl c => K c
  | .inr (.inl (b, c1, c2)) => (b = true → K c1) ∧ (b = false → K c2)
  | .inr (.inr (.inl (b, c))) => b = true ∧ K c
  | .inr (.inr (.inr (.inl (b, y, as, c)))) => b = true ∧ match cl y as c.2.2.2 with
    | some (r, w1) => K (c.1, c.2.1, r.toList ++ c.2.2.1, w1)
    | none => False
  | .inr (.inr (.inr (.inr (.inl (b, v, w))))) => b = true ∧ Q v w
  | .inr (.inr (.inr (.inr (.inr (.inl (x, r, d, c)))))) => zsws x (fun t => K (t, c.2)) r d
  | .inr (.inr (.inr (.inr (.inr (.inr _))))) => False
/-- at the head of a loop dead locals are forgotten -/
def zmk : List Bool → zL → zL
  | b :: bs, x :: xs => (if b then x else none) :: zmk bs xs
  | _, xs => xs
