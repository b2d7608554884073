/-! ===== calls that read alone: class and model answer alike ===== -/
section SR
variable {a : Nat → Nat} {q pg : Nat → Int32} {gS gU : Nat → Option Nat} {rd : RdT} {ft : FtT} {S : Nat → StT} {U : Nat → UnT} {I : Nat → Int32} {A : Nat → Nat → Int32} {F : Nat → Int64} {L : Nat → Nat → Int64} {g : Sg}
theorem l0 : (0 : Int32).toInt = 0 := rfl
theorem l1 : (1 : Int32).toInt = 1 := rfl
theorem l2 : (2 : Int32).toInt = 2 := rfl
theorem l3 : (3 : Int32).toInt = 3 := rfl
theorem l4 : (4 : Int32).toInt = 4 := rfl
theorem l5 : (5 : Int32).toInt = 5 := rfl
theorem l7 : (7 : Int32).toInt = 7 := rfl
theorem l8 : (8 : Int32).toInt = 8 := rfl
theorem l10 : (10 : Int32).toInt = 10 := rfl
theorem l12 : (12 : Int32).toInt = 12 := rfl
theorem l13 : (13 : Int32).toInt = 13 := rfl
theorem l17 : (17 : Int32).toInt = 17 := rfl
theorem l18 : (18 : Int32).toInt = 18 := rfl
theorem l20 : (20 : Int32).toInt = 20 := rfl
theorem l27 : (27 : Int32).toInt = 27 := rfl
theorem l28 : (28 : Int32).toInt = 28 := rfl
theorem sim_count (hC : CRep a q pg gS gU S U g) (hM : MRep I A g) (p0 : Int32) : ∃ r, X5_count a q pg gS gU rd ft S U p0 = some r ∧ X6_count I A F L p0 = some r := by
  obtain ⟨⟨c1, c2, c3, c4, c5, c6⟩, -⟩ := hC
  obtain ⟨⟨m1, m2, m3, m4, m5, m6⟩, -⟩ := hM
  unfold X5_count X6_count X6_howMany
  rw [c1, c2, c3, c4, c5, c6, m1, m2, m3, m4, m5, m6]
  repeat' split
  all_goals exact ⟨_, rfl, rfl⟩
theorem hasStorm_e (hC : CRep a q pg gS gU S U g) (hw : WF g) (p0 : Int32) : X5_hasStorm a q pg gS gU rd ft S U p0 = some (if 0 ≤ p0.toInt ∧ p0.toInt < (g.2.1.1 : Int) then 1 else 0) := by
  have e : (nI g.2.1.1).toInt = (g.2.1.1 : Int) := nI_toInt (by have := hw.2.2.1; omega)
  unfold X5_hasStorm
  rw [hC.1.2.1]
  simp only [lt_iff, le_iff, e, l0]
  repeat' split
  all_goals first | rfl | (exfalso; omega)
theorem hasUnit_e (hC : CRep a q pg gS gU S U g) (hw : WF g) (p0 : Int32) : X5_hasUnit a q pg gS gU rd ft S U p0 = some (if 0 ≤ p0.toInt ∧ p0.toInt < (g.2.2.1.1 : Int) then 1 else 0) := by
  have e : (nI g.2.2.1.1).toInt = (g.2.2.1.1 : Int) := nI_toInt (by have := hw.2.2.2.2.1; omega)
  unfold X5_hasUnit
  rw [hC.1.2.2.1]
  simp only [lt_iff, le_iff, e, l0]
  repeat' split
  all_goals first | rfl | (exfalso; omega)
theorem isB_ite {c : Prop} [Decidable c] : isB (if c then (1 : Int32) else 0) = true := by split <;> rfl
theorem isStorm_e (hM : MRep I A g) (hw : WF g) (p0 : Int32) : X6_isStorm I A F L p0 = some (if 0 ≤ p0.toInt ∧ p0.toInt < (g.2.1.1 : Int) then 1 else 0) := by
  have hs := hw.2.2.1
  have e : (nI g.2.1.1).toInt = (g.2.1.1 : Int) := nI_toInt (by omega)
  have e2 : (nI g.2.1.1 - 1).toInt = (g.2.1.1 : Int) - 1 := by rw [sub_t (by rw [e, l1]; omega) (by rw [e, l1]; omega), e, l1]
  unfold X6_isStorm
  rw [hM.1.2.1, within_e, ob1_eq, chk_of isB_ite, e2, l0]
  congr 1
  split <;> split <;> first | rfl | (exfalso; omega)
theorem isUnit_e (hM : MRep I A g) (hw : WF g) (p0 : Int32) : X6_isUnitThere I A F L p0 = some (if 0 ≤ p0.toInt ∧ p0.toInt < (g.2.2.1.1 : Int) then 1 else 0) := by
  have hs := hw.2.2.2.2.1
  have e : (nI g.2.2.1.1).toInt = (g.2.2.1.1 : Int) := nI_toInt (by omega)
  have e2 : (nI g.2.2.1.1 - 1).toInt = (g.2.2.1.1 : Int) - 1 := by rw [sub_t (by rw [e, l1]; omega) (by rw [e, l1]; omega), e, l1]
  unfold X6_isUnitThere
  rw [hM.1.2.2.1, within_e, ob1_eq, chk_of isB_ite, e2, l0]
  congr 1
  split <;> split <;> first | rfl | (exfalso; omega)
theorem nat_of {x : Int32} {n : Nat} (h : 0 ≤ x.toInt ∧ x.toInt < (n : Int)) : ∃ i, i < n ∧ x = nI i := ⟨x.toNatClampNeg, by have := cl_pos h.1; omega, i32_of h.1⟩
theorem disp3 {α : Type} {ps : Nat → Nat} (hd : Dist a) (hp : PmS a gS ps) {i : Nat} (hi : i < 3) (x0 x1 x2 : Option α) : (if gS i = some (a 15) then x0 else if gS i = some (a 22) then x1 else if gS i = some (a 29) then x2 else none) = if ps i = 0 then x0 else if ps i = 1 then x1 else x2 := by
  obtain ⟨h1, h2⟩ := hp.1 i hi
  obtain ⟨d1, d2, d3⟩ := hd.1
  rw [h2]
  have : ps i = 0 ∨ ps i = 1 ∨ ps i = 2 := by omega
  rcases this with e | e | e <;> rw [e] <;> simp [d1, d1.symm, d2.symm, d3.symm]
theorem disp4 {α : Type} {pu : Nat → Nat} (hd : Dist a) (hp : PmU a gU pu) {i : Nat} (hi : i < 4) (x0 x1 x2 x3 : Option α) : (if gU i = some (a 36) then x0 else if gU i = some (a 39) then x1 else if gU i = some (a 42) then x2 else if gU i = some (a 45) then x3 else none) = if pu i = 0 then x0 else if pu i = 1 then x1 else if pu i = 2 then x2 else x3 := by
  obtain ⟨h1, h2⟩ := hp.1 i hi
  obtain ⟨d1, d2, d3, d4, d5, d6⟩ := hd.2
  rw [h2]
  have : pu i = 0 ∨ pu i = 1 ∨ pu i = 2 ∨ pu i = 3 := by omega
  rcases this with e | e | e | e <;> rw [e] <;> simp [d1.symm, d2.symm, d3.symm, d4.symm, d5.symm, d6.symm]
theorem lt3 {n : Nat} (h : n < 3) : n = 0 ∨ n = 1 ∨ n = 2 := by omega
theorem lt4' {n : Nat} (h : n < 4) : n = 0 ∨ n = 1 ∨ n = 2 ∨ n = 3 := by omega
theorem sim_storm (hC : CRep a q pg gS gU S U g) (hM : MRep I A g) (hw : WF g) (p0 p1 : Int32) : ∃ r, X5_storm a q pg gS gU rd ft S U p0 p1 = some r ∧ X6_storm I A F L p0 p1 = some r := by
  unfold X5_storm X6_storm
  rw [hasStorm_e hC hw, isStorm_e hM hw, ob1_eq, ob1_eq, ite10, ite10]
  by_cases c : 0 ≤ p0.toInt ∧ p0.toInt < (g.2.1.1 : Int)
  · rw [if_pos c, if_pos c]
    obtain ⟨i, hi, rfl⟩ := nat_of c
    have hs := hw.2.2.1
    obtain ⟨-, -, hd, ps, pu, hps, hpu, hst, hun⟩ := hC
    have hK := hst i hi
    have hMS := hM.2.2.1 i hi
    have hW := hw.2.2.2.1 i hi
    rw [chk_of (inB_nI (show i < 3 by omega) (by decide)), cl_nI (by omega), disp3 hd hps (by omega)]
    simp only [within_e, ob1_eq, ite10, jn0, jn1, X6_stormNow, X2_size, rainAll_e (show i < 3 by omega) hMS hW, runoffAll_e (show i < 3 by omega) hMS, rainAt_e (show i < 3 by omega) hMS hW, runoffAt_e (show i < 3 by omega) hMS, chk_of (inB_nI (show i < 3 by omega) (by decide)), cl_nI (show i < 2 ^ 31 by omega), hMS.1, hMS.2.2.1]
    have hp1 : p1.toInt = 0 ∨ p1.toInt = 1 ∨ p1.toInt = 2 ∨ p1.toInt = 3 ∨ (10 ≤ p1.toInt ∧ p1.toInt ≤ 12) ∨ (20 ≤ p1.toInt ∧ p1.toInt ≤ 27) ∨ ¬ (0 ≤ p1.toInt ∧ p1.toInt ≤ 3) ∧ ¬ (10 ≤ p1.toInt ∧ p1.toInt ≤ 12) ∧ ¬ (20 ≤ p1.toInt ∧ p1.toInt ≤ 27) := by omega
    have hpi := lt3 (hps.1 i (by omega)).1
    rcases hpi with e | e | e <;> rw [e] at hK <;> obtain ⟨k1, k2, -⟩ := hK <;>
      simp only [e, X2_at_e k1, X2_at_e k2, X2_total_e k1, X2_total_e k2, ob1_eq, lt_iff, le_iff, eq_iff p1, l0, l1, l2, l3, l10, l12, l13, l20, l27, l28, reduceIte, Nat.reduceEqDiff, Nat.one_ne_zero] <;>
      simp only [k1.1, k2.1] <;>
      rcases hp1 with h | h | h | h | h | h | h <;>
      simp (disch := omega) only [if_pos, if_neg] <;>
      first | exact ⟨_, rfl, rfl⟩ | (repeat' split) <;> exact ⟨_, rfl, rfl⟩
  · rw [if_neg c, if_neg c]
    exact ⟨_, rfl, rfl⟩
end SR
