section SR2
variable {a : Nat → Nat} {q pg : Nat → Int32} {gS gU : Nat → Option Nat} {rd : RdT} {ft : FtT} {S : Nat → StT} {U : Nat → UnT} {I : Nat → Int32} {A : Nat → Nat → Int32} {F : Nat → Int64} {L : Nat → Nat → Int64} {g : Sg}
theorem isTick_e (p : Int32) : X5_isTick p = some (if 0 ≤ p.toInt ∧ p.toInt ≤ 20 then 1 else 0) := by
  unfold X5_isTick
  simp only [lt_iff, l0, l20]
  repeat' split
  all_goals first | rfl | (exfalso; omega)
theorem isLength_e (p : Int32) : X5_isLength p = some (if 1 ≤ p.toInt ∧ p.toInt ≤ 4 then 1 else 0) := by
  unfold X5_isLength
  simp only [lt_iff, l1, l4]
  repeat' split
  all_goals first | rfl | (exfalso; omega)
theorem isPart_e (p : Int32) : X5_isPartOfFraction p = some (if 0 ≤ p.toInt ∧ p.toInt ≤ 1 then 1 else 0) := by
  unfold X5_isPartOfFraction
  simp only [eq_iff, l0, l1]
  repeat' split
  all_goals first | rfl | (exfalso; omega)
theorem sim_unit (hC : CRep a q pg gS gU S U g) (hM : MRep I A g) (hw : WF g) (p0 p1 : Int32) : ∃ r, X5_unit a q pg gS gU rd ft S U p0 p1 = some r ∧ X6_unit I A F L p0 p1 = some r := by
  unfold X5_unit X6_unit
  rw [hasUnit_e hC hw, isUnit_e hM hw, ob1_eq, ob1_eq, ite10, ite10]
  by_cases c : 0 ≤ p0.toInt ∧ p0.toInt < (g.2.2.1.1 : Int)
  · rw [if_pos c, if_pos c]
    obtain ⟨i, hi, rfl⟩ := nat_of c
    have hs := hw.2.2.2.2.1
    obtain ⟨-, -, hd, ps, pu, hps, hpu, hst, hun⟩ := hC
    have hK := hun i hi
    have hMS := hM.2.2.2 i hi
    have hW := hw.2.2.2.2.2 i hi
    rw [chk_of (inB_nI (show i < 4 by omega) (by decide)), cl_nI (by omega), disp4 hd hpu (by omega)]
    simp only [within_e, ob1_eq, ite10, jn0, jn1, X6_unitNow, X2_size, partAll_e (show i < 4 by omega) hMS, partAt_e (show i < 4 by omega) hMS, chk_of (inB_nI (show i < 4 by omega) (by decide)), cl_nI (show i < 2 ^ 31 by omega), hMS.1, hMS.2.1]
    have hp1 : p1.toInt = 0 ∨ p1.toInt = 1 ∨ p1.toInt = 2 ∨ (10 ≤ p1.toInt ∧ p1.toInt ≤ 17) ∨ ¬ (0 ≤ p1.toInt ∧ p1.toInt ≤ 2) ∧ ¬ (10 ≤ p1.toInt ∧ p1.toInt ≤ 17) := by omega
    have hpi := lt4' (hpu.1 i (by omega)).1
    rcases hpi with e | e | e | e <;> rw [e] at hK <;> obtain ⟨k0, k1⟩ := hK <;>
      simp only [e, X2_at_e k1, X2_total_e k1, ob1_eq, lt_iff, le_iff, eq_iff p1, l0, l1, l2, l10, l17, l18, reduceIte, Nat.reduceEqDiff, Nat.one_ne_zero] <;>
      simp only [k1.1, k0] <;>
      rcases hp1 with h | h | h | h | h <;>
      simp (disch := omega) only [if_pos, if_neg] <;>
      first | exact ⟨_, rfl, rfl⟩ | (repeat' split) <;> exact ⟨_, rfl, rfl⟩
  · rw [if_neg c, if_neg c]
    exact ⟨_, rfl, rfl⟩
theorem sim_sum (hC : CRep a q pg gS gU S U g) (hM : MRep I A g) (hw : WF g) (p0 p1 : Int32) : ∃ r, X5_sum a q pg gS gU rd ft S U p0 p1 = some r ∧ X6_sum I A F L p0 p1 = some r := by
  unfold X5_sum X6_sum
  rw [hasUnit_e hC hw, isUnit_e hM hw, ob1_eq, ob1_eq, ite10, ite10]
  by_cases c : 0 ≤ p0.toInt ∧ p0.toInt < (g.2.2.1.1 : Int)
  · rw [if_pos c, if_pos c]
    obtain ⟨i, hi, rfl⟩ := nat_of c
    have hs := hw.2.2.2.2.1
    obtain ⟨-, -, hd, ps, pu, hps, hpu, hst, hun⟩ := hC
    have hK := hun i hi
    have hMS := hM.2.2.2 i hi
    have hW := hw.2.2.2.2.2 i hi
    rw [chk_of (inB_nI (show i < 4 by omega) (by decide)), cl_nI (by omega), disp4 hd hpu (by omega)]
    simp only [within_e, isTick_e, ob1_eq, ite10, l0, l20]
    by_cases ct : 0 ≤ p1.toInt ∧ p1.toInt ≤ 20
    · rw [if_pos ct, if_pos ct, sumAt_e (show i < 4 by omega) hMS hW p1 (by omega) ct.2, ob1_eq]
      have hpi := lt4' (hpu.1 i (by omega)).1
      rcases hpi with e | e | e | e <;> rw [e] at hK <;>
        simp only [e, X4_summedAt_e hK, ob1_eq, reduceIte, Nat.reduceEqDiff, Nat.one_ne_zero] <;>
        exact ⟨_, rfl, rfl⟩
    · rw [if_neg ct, if_neg ct]
      exact ⟨_, rfl, rfl⟩
  · rw [if_neg c, if_neg c]
    exact ⟨_, rfl, rfl⟩
theorem sim_made (hC : CRep a q pg gS gU S U g) (hM : MRep I A g) (hw : WF g) (p0 p1 p2 : Int32) : ∃ r, X5_made a q pg gS gU rd ft S U p0 p1 p2 = some r ∧ X6_made I A F L p0 p1 p2 = some r := by
  unfold X5_made X6_made
  rw [hasUnit_e hC hw, isUnit_e hM hw, hasStorm_e hC hw, isStorm_e hM hw, ob1_eq, ob1_eq, ob1_eq, ob1_eq, ite10, ite10, ite10, ite10, isTick_e, within_e, ob1_eq, ob1_eq, ite10, ite10, l0, l20]
  by_cases c : 0 ≤ p0.toInt ∧ p0.toInt < (g.2.2.1.1 : Int)
  · rw [if_pos c, if_pos c]
    by_cases c2 : 0 ≤ p1.toInt ∧ p1.toInt < (g.2.1.1 : Int)
    · rw [if_pos c2, if_pos c2]
      by_cases ct : 0 ≤ p2.toInt ∧ p2.toInt ≤ 20
      · rw [if_pos ct, if_pos ct]
        obtain ⟨u, hu, rfl⟩ := nat_of c
        obtain ⟨i, hi, rfl⟩ := nat_of c2
        have hs := hw.2.2.2.2.1
        have hs2 := hw.2.2.1
        obtain ⟨-, -, hd, ps, pu, hps, hpu, hst, hun⟩ := hC
        have hK := hst i hi
        have hKu := hun u hu
        rw [madeAt_e (show i < 3 by omega) (hM.2.2.1 i hi) (hw.2.2.2.1 i hi) (show u < 4 by omega) (hM.2.2.2 u hu), ob1_eq]
        rw [chk_of (inB_nI (show i < 3 by omega) (by decide)), cl_nI (show i < 2 ^ 31 by omega), cl_nI (show u < 2 ^ 31 by omega), chk_of (inB_nI (show u < 4 by omega) (by decide)), disp3 hd hps (by omega)]
        simp only [disp4 hd hpu (show u < 4 by omega), chk_of (inB_nI (show u < 4 by omega) (by decide))]
        have hpi := lt3 (hps.1 i (by omega)).1
        have hpj := lt4' (hpu.1 u (by omega)).1
        rcases hpi with e | e | e <;> rcases hpj with e2 | e2 | e2 | e2 <;> rw [e] at hK <;> rw [e2] at hKu <;>
          simp only [e, e2, X3_rainTimes_e hK.1 hKu.2, ob1_eq, reduceIte, Nat.reduceEqDiff, Nat.one_ne_zero] <;>
          exact ⟨_, rfl, rfl⟩
      · rw [if_neg ct, if_neg ct]
        exact ⟨_, rfl, rfl⟩
    · rw [if_neg c2, if_neg c2]
      exact ⟨_, rfl, rfl⟩
  · rw [if_neg c, if_neg c]
    exact ⟨_, rfl, rfl⟩
theorem sim_missed (hC : CRep a q pg gS gU S U g) (hM : MRep I A g) (hw : WF g) (p0 p1 : Int32) : ∃ r, X5_missed a q pg gS gU rd ft S U p0 p1 = some r ∧ X6_missed I A F L p0 p1 = some r := by
  unfold X5_missed X6_missed
  rw [hasUnit_e hC hw, isUnit_e hM hw, hasStorm_e hC hw, isStorm_e hM hw, ob1_eq, ob1_eq, ob1_eq, ob1_eq, ite10, ite10, ite10, ite10]
  by_cases c : 0 ≤ p0.toInt ∧ p0.toInt < (g.2.2.1.1 : Int)
  · rw [if_pos c, if_pos c]
    by_cases c2 : 0 ≤ p1.toInt ∧ p1.toInt < (g.2.1.1 : Int)
    · rw [if_pos c2, if_pos c2]
      obtain ⟨u, hu, rfl⟩ := nat_of c
      obtain ⟨i, hi, rfl⟩ := nat_of c2
      have hs := hw.2.2.2.2.1
      have hs2 := hw.2.2.1
      obtain ⟨-, -, hd, ps, pu, hps, hpu, hst, hun⟩ := hC
      have hK := hst i hi
      have hKu := hun u hu
      rw [missedNow_e (show i < 3 by omega) (hM.2.2.1 i hi) (hw.2.2.2.1 i hi) (show u < 4 by omega) (hM.2.2.2 u hu), ob1_eq]
      rw [chk_of (inB_nI (show i < 3 by omega) (by decide)), cl_nI (show i < 2 ^ 31 by omega), cl_nI (show u < 2 ^ 31 by omega), chk_of (inB_nI (show u < 4 by omega) (by decide)), disp3 hd hps (by omega)]
      simp only [disp4 hd hpu (show u < 4 by omega), chk_of (inB_nI (show u < 4 by omega) (by decide))]
      have hpi := lt3 (hps.1 i (by omega)).1
      have hpj := lt4' (hpu.1 u (by omega)).1
      rcases hpi with e | e | e <;> rcases hpj with e2 | e2 | e2 | e2 <;> rw [e] at hK <;> rw [e2] at hKu <;>
        simp only [e, e2, X3_squaresMissed_e hK.1 hKu.2 hK.2.1, ob1_eq, reduceIte, Nat.reduceEqDiff, Nat.one_ne_zero] <;>
        exact ⟨_, rfl, rfl⟩
    · rw [if_neg c2, if_neg c2]
      exact ⟨_, rfl, rfl⟩
  · rw [if_neg c, if_neg c]
    exact ⟨_, rfl, rfl⟩
end SR2
