/-! ===== the whole page is read ===== -/
theorem wh9_s {A1 A2 A3 A4 A5 A6 A7 A8 A9 R : Type} (body : (A1 → A2 → A3 → A4 → A5 → A6 → A7 → A8 → A9 → Option R) → A1 → A2 → A3 → A4 → A5 → A6 → A7 → A8 → A9 → Option R) (n : Nat) (a1 : A1) (a2 : A2) (a3 : A3) (a4 : A4) (a5 : A5) (a6 : A6) (a7 : A7) (a8 : A8) (a9 : A9) : wh9 body (n + 1) a1 a2 a3 a4 a5 a6 a7 a8 a9 = body (wh9 body n) a1 a2 a3 a4 a5 a6 a7 a8 a9 := rfl
theorem wh10_s {A1 A2 A3 A4 A5 A6 A7 A8 A9 A10 R : Type} (body : (A1 → A2 → A3 → A4 → A5 → A6 → A7 → A8 → A9 → A10 → Option R) → A1 → A2 → A3 → A4 → A5 → A6 → A7 → A8 → A9 → A10 → Option R) (n : Nat) (a1 : A1) (a2 : A2) (a3 : A3) (a4 : A4) (a5 : A5) (a6 : A6) (a7 : A7) (a8 : A8) (a9 : A9) (a10 : A10) : wh10 body (n + 1) a1 a2 a3 a4 a5 a6 a7 a8 a9 a10 = body (wh10 body n) a1 a2 a3 a4 a5 a6 a7 a8 a9 a10 := rfl
abbrev RdO : Type := Int32 × Int32 × Int32 × Int32 × Int32 × Int32 × (Nat → Int32) × Int32 × (Nat → Int32)
abbrev GoO : Type := Int32 × Int32 × Int32 × Int32 × Int32 × (Nat → Int32) × Int32 × (Nat → Int32) × Int32 × Int32
def rdB (gx2 : Nat → Int32) (p1 : Int32) (self : Int32 → Int32 → Int32 → Int32 → Int32 → Int32 → (Nat → Int32) → Int32 → (Nat → Int32) → Option RdO) (x pl ln ou im n1 : Int32) (f1 : Nat → Int32) (n2 : Int32) (f2 : Nat → Int32) : Option RdO :=
  if p1 ≤ x then some (p1, pl, ln, ou, im, n1, f1, n2, f2) else if (40 : Int32) ≤ x then some (p1, pl, ln, ou, im, n1, f1, n2, f2) else chk (inB x 40) (ob9 (X1_goesOnWith pl ln ou im n1 f1 n2 f2 (gx2 (Int32.toNatClampNeg x))) fun r opl oln oou oim on1 of1 on2 of2 => if r = 0 then some (x, opl, oln, oou, oim, on1, of1, on2, of2) else self (x + 1) opl oln oou oim on1 of1 on2 of2)
def goB (I : Nat → Int32) (A : Nat → Nat → Int32) (F : Nat → Int64) (L : Nat → Nat → Int64) (self : Int32 → Int32 → Int32 → Int32 → Int32 → (Nat → Int32) → Int32 → (Nat → Int32) → Int32 → Int32 → Option GoO) (x i14 i15 i16 i17 : Int32) (a18 : Nat → Int32) (i19 : Int32) (a20 : Nat → Int32) (i21 i22 : Int32) : Option GoO :=
  if (I 0) ≤ x then some (x, i14, i15, i16, i17, a18, i19, a20, i21, i22) else (chk (inB x 40) (ob10 (X6_takes (up (up (up (up (up (up (up I 14 i14) 21 i21) 22 i22) 15 i15) 16 i16) 17 i17) 19 i19) (up (up A 18 a18) 20 a20) F L ((A 1) (Int32.toNatClampNeg x))) fun r o14 o15 o16 o17 o18 o19 o20 o21 o22 => if r = 0 then some (x, o14, o15, o16, o17, o18, o19, o20, o21, o22) else self (x + 1) o14 o15 o16 o17 o18 o19 o20 o21 o22))
theorem read_eq (pl ln ou im n1 : Int32) (f1 : Nat → Int32) (n2 : Int32) (f2 gx2 : Nat → Int32) (p1 : Int32) : X1_read pl ln ou im n1 f1 n2 f2 gx2 p1 = wh9 (rdB gx2 p1) 200 0 0 1 0 0 0 f1 0 f2 := by
  unfold X1_read X1_begin
  simp only [X2_clear, ob1_eq]
  rw [ob6_eq]
  generalize 200 = k
  rfl
theorem goAlong_eq (I : Nat → Int32) (A : Nat → Nat → Int32) (F : Nat → Int64) (L : Nat → Nat → Int64) : X6_goAlong I A F L = wh10 (goB I A F L) 200 0 0 (I 15) (I 16) (I 17) (A 18) (I 19) (A 20) 0 0 := by
  unfold X6_goAlong X6_goesTo
  rw [ob4_eq]
  generalize 200 = k
  rfl
def Kro (n : Nat) (o : Option RdO) (o' : Option GoO) : Prop := ∃ (r : Int32) (pl ln ou im n1 : Int32) (f1 : Nat → Int32) (n2 : Int32) (f2 : Nat → Int32) (i14 i15 i16 i17 : Int32) (a18 : Nat → Int32) (i19 : Int32) (a20 : Nat → Int32) (i21 i22 : Int32), o = some (r, pl, ln, ou, im, n1, f1, n2, f2) ∧ o' = some (r, i14, i15, i16, i17, a18, i19, a20, i21, i22) ∧ ((∃ i, i < n ∧ r = nI i) ∨ (r = nI n ∧ KRd pl ln ou im n1 f1 n2 f2 i14 i15 i16 i17 a18 i19 a20 i21 i22))
theorem read_sim {I : Nat → Int32} {A : Nat → Nat → Int32} {F : Nat → Int64} {L : Nat → Nat → Int64} {pg : Nat → Int32} {n : Nat} (hn : n ≤ 40) (hI : I 0 = nI n) (hp : ∀ j, j < n → pg j = A 1 j) : ∀ (j i : Nat) (m m' : Nat), i + j = n → j < m → j < m' → ∀ pl ln ou im n1 f1 n2 f2 i14 i15 i16 i17 a18 i19 a20 i21 i22, KRd pl ln ou im n1 f1 n2 f2 i14 i15 i16 i17 a18 i19 a20 i21 i22 → Kro n (wh9 (rdB pg (nI n)) m (nI i) pl ln ou im n1 f1 n2 f2) (wh10 (goB I A F L) m' (nI i) i14 i15 i16 i17 a18 i19 a20 i21 i22) := by
  intro j
  induction j with
  | zero =>
    intro i m m' hij hm hm' pl ln ou im n1 f1 n2 f2 i14 i15 i16 i17 a18 i19 a20 i21 i22 hK
    obtain ⟨m, rfl⟩ : ∃ k, m = k + 1 := ⟨m - 1, by omega⟩
    obtain ⟨m', rfl⟩ : ∃ k, m' = k + 1 := ⟨m' - 1, by omega⟩
    have hi : i = n := by omega
    subst hi
    rw [wh9_s, wh10_s]
    unfold rdB goB
    rw [if_pos (nI_le (Nat.le_refl _) (by omega)), if_pos (by rw [hI]; exact nI_le (Nat.le_refl _) (by omega))]
    exact ⟨_, _, _, _, _, _, _, _, _, _, _, _, _, _, _, _, _, _, rfl, rfl, Or.inr ⟨rfl, hK⟩⟩
  | succ j ih =>
    intro i m m' hij hm hm' pl ln ou im n1 f1 n2 f2 i14 i15 i16 i17 a18 i19 a20 i21 i22 hK
    obtain ⟨m, rfl⟩ : ∃ k, m = k + 1 := ⟨m - 1, by omega⟩
    obtain ⟨m', rfl⟩ : ∃ k, m' = k + 1 := ⟨m' - 1, by omega⟩
    have hi : i < n := by omega
    rw [wh9_s, wh10_s]
    unfold rdB goB
    rw [if_neg (nI_ge hi (by omega)), if_neg (show ¬ (40 : Int32) ≤ nI i from nI_ge (show i < 40 by omega) (by decide)), if_neg (by rw [hI]; exact nI_ge hi (by omega)), chk_of (inB_nI (show i < 40 by omega) (by decide)), chk_of (inB_nI (show i < 40 by omega) (by decide)), cl_nI (by omega), hp i hi]
    have hs := step_e (I := up (up (up (up (up (up (up I 14 i14) 21 i21) 22 i22) 15 i15) 16 i16) 17 i17) 19 i19) (A := up (up A 18 a18) 20 a20) (F := F) (L := L) (pl := pl) (ln := ln) (ou := ou) (im := im) (n1 := n1) (n2 := n2) (f1 := f1) (f2 := f2) hK (A 1 i)
    rcases hs with ⟨o, o', h1, h2⟩ | ⟨pl', ln', ou', im', n1', f1', n2', f2', j14, j15, j16, j17, b18, j19, b20, j21, j22, h1, h2, h3⟩
    · rw [h1, h2]
      obtain ⟨o1, o2, o3, o4, o5, o6, o7, o8⟩ := o
      obtain ⟨q1, q2, q3, q4, q5, q6, q7, q8, q9⟩ := o'
      rw [ob9_eq, ob10_eq, if_pos rfl, if_pos rfl]
      exact ⟨_, _, _, _, _, _, _, _, _, _, _, _, _, _, _, _, _, _, rfl, rfl, Or.inl ⟨i, hi, rfl⟩⟩
    · rw [h1, h2, ob9_eq, ob10_eq, if_neg (show ¬ (1 : Int32) = 0 by decide), if_neg (show ¬ (1 : Int32) = 0 by decide), nI_1]
      exact ih (i + 1) m m' (by omega) (by omega) (by omega) _ _ _ _ _ _ _ _ _ _ _ _ _ _ _ _ _ h3
theorem read_both {I : Nat → Int32} {A : Nat → Nat → Int32} {F : Nat → Int64} {L : Nat → Nat → Int64} {pg : Nat → Int32} {n : Nat} (hn : n ≤ 40) (hI : I 0 = nI n) (hp : ∀ j, j < n → pg j = A 1 j) (pl ln ou im n1 : Int32) (f1 : Nat → Int32) (n2 : Int32) (f2 : Nat → Int32) : Kro n (X1_read pl ln ou im n1 f1 n2 f2 pg (nI n)) (X6_goAlong I A F L) := by
  rw [read_eq, goAlong_eq]
  exact read_sim hn hI hp n 0 200 200 (by omega) (by omega) (by omega) _ _ _ _ _ _ _ _ _ _ _ _ _ _ _ _ _ (Or.inl ⟨rfl, rfl, rfl, rfl, rfl, rfl, rfl⟩)
section FA
variable {a : Nat → Nat} {q pg : Nat → Int32} {gS gU : Nat → Option Nat} {rd : RdT} {ft : FtT} {S : Nat → StT} {U : Nat → UnT} {I : Nat → Int32} {A : Nat → Nat → Int32} {F : Nat → Int64} {L : Nat → Nat → Int64} {g : Sg}
theorem sim_fault (hC : CRep a q pg gS gU S U g) (hM : MRep I A g) (hw : WF g) : ∃ r o o', X5_fault a q pg gS gU rd ft S U = some (r, o) ∧ X6_fault I A F L = some (r, o') := by
  unfold X5_fault X6_fault
  rw [hC.1.1]
  obtain ⟨r, pl, ln, ou, im, n1, f1, n2, f2, i14, i15, i16, i17, a18, i19, a20, i21, i22, h1, h2, -⟩ := read_both (I := I) (A := A) (F := F) (L := L) (pg := pg) hw.1 hM.1.1 (fun j hj => (hC.2.1 j hj).trans (hM.2.1 j hj).symm) rd.1 rd.2.1 rd.2.2.1 rd.2.2.2.1 rd.2.2.2.2.1 rd.2.2.2.2.2.1 rd.2.2.2.2.2.2.1 rd.2.2.2.2.2.2.2
  rw [h1, h2, ob9_eq, ob10_eq]
  exact ⟨_, _, _, rfl, rfl⟩
end FA
