/-! ===== the model takes what an over or under is about ===== -/
section KM
variable {d : Nat} {I : zI} {J : zJ} {R : zR} {a b c N at' o q : Nat} {i : Option Nat} {nm tv : Int32} {cs : List kSy} {tp : List Int32} {row : Nat → Int32} {Q : Option Value → zW → Prop}
/-- the pile: an and, an or, what is below -/
def kPi (A O : Bool) (B : List Int32) : List Int32 := match A, O with
  | true, true => 38 :: 124 :: B
  | true, false => 38 :: B
  | false, true => 124 :: B
  | false, false => B
theorem kPi_l (A O : Bool) (B : List Int32) : (kPi A O B).length = A.toNat + O.toNat + B.length := by
  cases A <;> cases O <;> simp [kPi] <;> omega
theorem kPi_o (A O : Bool) (B : List Int32) : kOn (kPi A O B) = kOn B := by
  cases A <;> cases O
  · rfl
  · exact if_neg (by decide)
  · exact if_neg (by decide)
  · exact (if_neg (by decide)).trans (if_neg (by decide))
theorem kPi_w (A O : Bool) {B : List Int32} (hB : B = [] ∨ ∃ t, B = 40 :: t) (cs : List kSy) : kW (kPi A O B) cs = (kPi A O B, cs) := by
  cases A <;> cases O
  · rcases hB with rfl | ⟨t, rfl⟩
    · rfl
    · exact kW_n (by decide)
  · exact kW_n (by decide)
  · exact kW_n (by decide)
  · exact kW_n (by decide)
theorem kSt_y {x : Int32} (cs : List kSy) : kSt' x (38 :: tp) cs = kSt' x tp (cs ++ [(-2, -38)]) := if_pos rfl
theorem kSt_o (cs : List kSy) : kSt' 124 (124 :: tp) cs = kSt' 124 tp (cs ++ [(-3, -124)]) := (if_neg (by decide)).trans (if_pos (by decide))
theorem kSt_k (cs : List kSy) : kSt' 38 (124 :: tp) cs = (124 :: tp, cs) := (if_neg (by decide)).trans (if_neg (by decide))
theorem kSt_n {x : Int32} {B : List Int32} (hB : B = [] ∨ ∃ t, B = 40 :: t) (cs : List kSy) : kSt' x B cs = (B, cs) := by
  rcases hB with rfl | ⟨t, rfl⟩
  · rfl
  · exact (if_neg (by decide)).trans (if_neg (fun z => absurd z.1 (by decide)))
theorem kPi_38 (A O : Bool) {B : List Int32} (hB : B = [] ∨ ∃ t, B = 40 :: t) (cs : List kSy) : kSt' 38 (kPi A O B) cs = (kPi false O B, kA A cs) := by
  cases A <;> cases O
  · exact kSt_n hB cs
  · exact kSt_k cs
  · exact (kSt_y cs).trans (kSt_n hB _)
  · exact (kSt_y cs).trans (kSt_k _)
theorem kPi_124 (A O : Bool) {B : List Int32} (hB : B = [] ∨ ∃ t, B = 40 :: t) (cs : List kSy) : kSt' 124 (kPi A O B) cs = (B, kO O (kA A cs)) := by
  cases A <;> cases O
  · exact kSt_n hB cs
  · exact (kSt_o cs).trans (kSt_n hB _)
  · exact (kSt_y cs).trans (kSt_n hB _)
  · exact (kSt_y cs).trans ((kSt_o _).trans (kSt_n hB _))
/-- a fault: the answer is 0, where it stands is told -/
def mFa (I : zI) (J : zJ) (R : zR) (o q : Nat) (Q : Option Value → zW → Prop) (at' : Nat) : Prop := ∀ nm cs tp tv row, cs.length ≤ 100 → Q (some (.int 0)) (mE I o q at' nm cs tp tv row, J, R, 111)
theorem kTe_t {x : Int32} (hx : x = 33 ∨ x = 40) (h : kNx (I 81) N at' = x) : kTe (I 81) N at' cs = (false, at', cs) := by
  unfold kTe
  rw [h]
  rcases hx with rfl | rfl
  · exact if_pos (by decide)
  · exact if_pos (by decide)
theorem sm_120 (hH : mTx R I a b c N i) (ho : o ≤ 500) (hq : q < 60) : ∀ n : Nat,
    (∀ (at' : Nat) (nm : Int32) (cs : List kSy) (tp : List Int32) (tv : Int32) (row : Nat → Int32) (Q : Option Value → zW → Prop), at' ≤ N → 2 * (N - at') + 1 ≤ n → cs.length + tp.length ≤ at' → mP row tp → kOn tp ≤ 4 →
      ((kR (I 81) N n none (kOn tp) at' cs).1 = false → mFa I J R o q Q (kR (I 81) N n none (kOn tp) at' cs).2.1) →
      ((kR (I 81) N n none (kOn tp) at' cs).1 = true → ∀ nm' tv' row', mP row' (kW tp (kR (I 81) N n none (kOn tp) at' cs).2.2).1 → mHd d I J R o q Q 0 (kR (I 81) N n none (kOn tp) at' cs).2.1 nm' (kW tp (kR (I 81) N n none (kOn tp) at' cs).2.2).2 (kW tp (kR (I 81) N n none (kOn tp) at' cs).2.2).1 tv' row') →
      mHd d I J R o q Q 1 at' nm cs tp tv row) ∧
    (∀ (A O : Bool) (B : List Int32) (at' : Nat) (nm : Int32) (cs : List kSy) (tv : Int32) (row : Nat → Int32) (Q : Option Value → zW → Prop), (B = [] ∨ ∃ t, B = 40 :: t) → at' ≤ N → 2 * (N - at') + 2 ≤ n → cs.length + (kPi A O B).length ≤ at' → mP row (kPi A O B) → kOn B ≤ 4 →
      ((kR (I 81) N n (some (A, O)) (kOn B) at' cs).1 = false → mFa I J R o q Q (kR (I 81) N n (some (A, O)) (kOn B) at' cs).2.1) →
      ((kR (I 81) N n (some (A, O)) (kOn B) at' cs).1 = true → ∀ A' O' cs' nm' tv' row', kO O' (kA A' cs') = (kR (I 81) N n (some (A, O)) (kOn B) at' cs).2.2 → ¬ kNx (I 81) N (kR (I 81) N n (some (A, O)) (kOn B) at' cs).2.1 = 38 → ¬ kNx (I 81) N (kR (I 81) N n (some (A, O)) (kOn B) at' cs).2.1 = 124 → cs'.length + (kPi A' O' B).length ≤ (kR (I 81) N n (some (A, O)) (kOn B) at' cs).2.1 → mP row' (kPi A' O' B) → mHd d I J R o q Q 0 (kR (I 81) N n (some (A, O)) (kOn B) at' cs).2.1 nm' cs' (kPi A' O' B) tv' row') →
      mHd d I J R o q Q 1 at' nm cs (kPi A O B) tv row)
  | 0 => ⟨fun _ _ _ _ _ _ _ _ q => absurd q (by omega), fun _ _ _ _ _ _ _ _ _ _ _ q => absurd q (by omega)⟩
  | n + 1 => by
    obtain ⟨ih1, ih2⟩ := sm_120 hH ho hq n
    have h100 := hH.2.2.1
    refine ⟨?_, ?_⟩
    · intro at' nm cs tp tv row Q ha hn hl hp h4 hf ht
      by_cases h33 : kNx (I 81) N at' = 33
      · have hl1 := kNx_lt h33 (by decide)
        by_cases hd : kOn tp < 4
        · have ek := kR_n1 (T := I 81) (N := N) (n := n) (cs := cs) ⟨hd, h33⟩
          have eo : kOn (33 :: tp) = kOn tp + 1 := if_pos (.inl rfl)
          have en := kR_n0 (T := I 81) (N := N) (n := n) (cs := cs) ⟨hd, h33⟩
          refine mH_2 hH hl (.inl rfl) h33 hd (ih1 (at' + 1) nm cs (33 :: tp) tv _ Q (by omega) (by omega) (by show cs.length + (tp.length + 1) ≤ _; omega) (mP_push hp) (by omega) (fun hr => ?_) (fun hr => ?_))
          · rw [eo] at hr ⊢
            rw [en (by rw [hr]; decide)] at hf
            exact hf hr
          · rw [eo] at hr ⊢
            rw [ek hr] at ht
            rw [kW_y]
            exact ht rfl
        · have e4 : kOn tp = 4 := by omega
          have ek : kR (I 81) N (n + 1) none (kOn tp) at' cs = (false, at', cs) := (kR_t (fun z => hd z.1) (fun z => hd z.1)).trans (kTe_t (.inl rfl) h33)
          rw [ek] at hf
          exact mH_1 hH ha (.inl rfl) h33 e4 (hf rfl nm cs tp tv row (by omega))
      by_cases h40 : kNx (I 81) N at' = 40
      · have hl1 := kNx_lt h40 (by decide)
        by_cases hd : kOn tp < 4
        · have eo : kOn (40 :: tp) = kOn tp + 1 := if_pos (.inr rfl)
          have e0 := kR_b0 (T := I 81) (N := N) (n := n) (cs := cs) ⟨hd, h40⟩
          have e1 := kR_b1 (T := I 81) (N := N) (n := n) (cs := cs) ⟨hd, h40⟩
          have e2 := kR_b2 (T := I 81) (N := N) (n := n) (cs := cs) ⟨hd, h40⟩
          obtain ⟨⟨a1, a2, a3⟩, nw, a4, a5⟩ := kR_b (T := I 81) (N := N) n (some (false, false)) (kOn tp + 1) (at' + 1) cs (by omega)
          have a6 : nw.length + (at' + 1) ≤ 0 + (kR (I 81) N n (some (false, false)) (kOn tp + 1) (at' + 1) cs).2.1 := a5
          refine mH_2 hH hl (.inr rfl) h40 hd (ih2 false false (40 :: tp) (at' + 1) nm cs tv _ Q (.inr ⟨tp, rfl⟩) (by omega) (by omega) (by show cs.length + (tp.length + 1) ≤ _; omega) (mP_push hp) (by omega) (fun hr => ?_) (fun hr => ?_))
          · rw [eo] at hr ⊢
            rw [e0 (by rw [hr]; decide)] at hf
            exact hf hr
          · rw [eo] at hr ⊢
            intro A' O' cs' nm' tv' row' k1 k2 k3 k4 k5
            have kX := (kPi_124 A' O' (.inr ⟨tp, rfl⟩) cs').trans (congrArg (fun z => ((40 : Int32) :: tp, z)) k1)
            by_cases h41 : kNx (I 81) N (kR (I 81) N n (some (false, false)) (kOn tp + 1) (at' + 1) cs).2.1 = 41
            · rw [e1 hr h41] at ht
              refine mH_7 hH ho hq k4 k5 h41 kX ?_
              have q1 := (kSt_b (x := 124) _ cs' k5).1
              rw [kX] at q1
              exact ht rfl nm' _ row' (kW_b _ _ q1.2).1
            · rw [e2 hr h41] at hf
              exact mH_6 hH ho hq a2 k4 k5 k2 k3 h41 kX (hf rfl nm' _ _ _ row' (by rw [a4, List.length_append]; omega))
        · have e4 : kOn tp = 4 := by omega
          have ek : kR (I 81) N (n + 1) none (kOn tp) at' cs = (false, at', cs) := (kR_t (fun z => hd z.1) (fun z => hd z.1)).trans (kTe_t (.inr rfl) h40)
          rw [ek] at hf
          exact mH_1 hH ha (.inr rfl) h40 e4 (hf rfl nm cs tp tv row (by omega))
      · have ek : kR (I 81) N (n + 1) none (kOn tp) at' cs = kTe (I 81) N at' cs := by
          rw [kR, if_neg (fun z => h33 z.2), if_neg (fun z => h40 z.2)]
        rw [ek] at hf ht
        exact mH_3 hH ho ha hl hp h33 h40 (fun e nm' => hf e nm' cs tp tv row (by omega)) (fun e nm' => ht e nm' tv row (kW_b tp _ hp).1)
    · intro A O B at' nm cs tv row Q hB ha hn hl hp h4 hf ht
      have eo := kPi_o A O B
      have el := kPi_l A O B
      obtain ⟨⟨a1, a2, a3⟩, nw, a4, a5⟩ := kR_b (T := I 81) (N := N) n none (kOn B) at' cs ha
      have a6 : nw.length + at' ≤ 0 + (kR (I 81) N n none (kOn B) at' cs).2.1 := a5
      have e0 := kR_e0 (T := I 81) (N := N) (n := n) (d := kOn B) (at' := at') (cs := cs) (A := A) (O := O)
      have e1 := kR_e1 (T := I 81) (N := N) (n := n) (d := kOn B) (at' := at') (cs := cs) (A := A) (O := O)
      have e2 := kR_e2 (T := I 81) (N := N) (n := n) (d := kOn B) (at' := at') (cs := cs) (A := A) (O := O)
      have e3 := kR_e3 (T := I 81) (N := N) (n := n) (d := kOn B) (at' := at') (cs := cs) (A := A) (O := O)
      have g := ih1 at' nm cs (kPi A O B) tv row Q ha (by omega) hl hp (by omega)
      rw [eo] at g
      have ln : (kR (I 81) N n none (kOn B) at' cs).2.2.length = cs.length + nw.length := by rw [a4, List.length_append]
      have kl := kA_l (A := A) (cs := (kR (I 81) N n none (kOn B) at' cs).2.2)
      have kl2 := kO_l (O := O) (cs := kA A (kR (I 81) N n none (kOn B) at' cs).2.2)
      refine g (fun hr => ?_) (fun hr nm' tv' row' kp => ?_)
      · rw [e0 (by rw [hr]; decide)] at hf
        exact hf hr
      · have a7 := a3 hr
        rw [kPi_w A O hB] at kp ⊢
        dsimp only at kp ⊢
        by_cases h1 : kNx (I 81) N (kR (I 81) N n none (kOn B) at' cs).2.1 = 38
        · have hl2 := kNx_lt h1 (by decide)
          rw [e1 hr h1] at hf ht
          refine mH_4 hH ho (by omega) kp (.inl rfl) h1 (kPi_38 A O hB _) (fun row' kq => ?_)
          have eP : (38 : Int32) :: kPi false O B = kPi true O B := by cases O <;> rfl
          rw [eP] at kq ⊢
          have el2 := kPi_l true O B
          exact ih2 true O B _ nm' _ tv' row' Q hB (by omega) (by omega) (by simp only [Bool.toNat_true] at el2; omega) kq h4 hf ht
        by_cases h2 : kNx (I 81) N (kR (I 81) N n none (kOn B) at' cs).2.1 = 124
        · have hl2 := kNx_lt h2 (by decide)
          rw [e2 hr h2] at hf ht
          refine mH_4 hH ho (by omega) kp (.inr rfl) h2 (kPi_124 A O hB _) (fun row' kq => ?_)
          exact ih2 false true B _ nm' _ tv' row' Q hB (by omega) (by omega) (by show _ + (B.length + 1) ≤ _; omega) kq h4 hf ht
        rw [e3 hr h1 h2] at hf ht
        exact ht rfl A O _ nm' tv' row' rfl h1 h2 (by dsimp only; omega) kp
end KM
