theorem sumE_bound {g : Nat → Int32} {M : Nat} : ∀ N : Nat, N * M < 2147483648 → (∀ b, b < N → 0 ≤ (g b).toInt ∧ (g b).toInt ≤ (M : Int)) → 0 ≤ (sumE g N).toInt ∧ (sumE g N).toInt ≤ ((N * M : Nat) : Int) := by
  intro N
  induction N with
  | zero => intro _ _; exact ⟨by show 0 ≤ (0 : Int32).toInt; decide, by show (0 : Int32).toInt ≤ _; rw [l0]; omega⟩
  | succ N ih =>
    intro hm hb
    have e : (N + 1) * M = N * M + M := by rw [Nat.add_mul, Nat.one_mul]
    rw [e] at hm ⊢
    obtain ⟨h1, h2⟩ := ih (by omega) (fun b h => hb b (by omega))
    obtain ⟨h3, h4⟩ := hb N (by omega)
    show 0 ≤ (sumE g N + g N).toInt ∧ (sumE g N + g N).toInt ≤ _
    rw [add_t (by omega) (by omega)]
    omega
theorem atE_bound {p : Nat → Int32} {M : Int} (hM : 0 ≤ M) (h : ∀ j, 0 ≤ (p j).toInt ∧ (p j).toInt ≤ M) (t : Int32) : 0 ≤ (atE p t).toInt ∧ (atE p t).toInt ≤ M := by
  unfold atE
  split
  · exact h _
  · rw [l0]; omega
theorem toI64 (x : Int32) : Int32.toInt64 x = Int64.ofInt x.toInt := by
  rw [eq64, Int64.toInt_ofInt_of_le (by have := (i32_range x).1; omega) (by have := (i32_range x).2; omega)]
  exact Int32.toInt_toInt64 x
theorem smE_bound {d : UD} (hw : UnW d) (t : Int32) : 0 ≤ (smE d.2.2 d.1 t).toInt ∧ (smE d.2.2 d.1 t).toInt ≤ 2079 := by
  have := sumE_bound (g := fun b => atE d.2.2 (t - nI b * nI d.1)) (M := 99) 21 (by decide) (fun b _ => atE_bound (by decide) hw.2.2.2.2.2 _)
  exact this
section SO
variable {a : Nat → Nat} {q pg : Nat → Int32} {gS gU : Nat → Option Nat} {rd : RdT} {ft : FtT} {S : Nat → StT} {U : Nat → UnT} {I : Nat → Int32} {A : Nat → Nat → Int32} {F : Nat → Int64} {L : Nat → Nat → Int64} {g : Sg}
theorem sim_other (hC : CRep a q pg gS gU S U g) (hM : MRep I A g) (hw : WF g) (p0 p1 p2 p3 : Int32) : ∃ r, X5_other a q pg gS gU rd ft S U p0 p1 p2 p3 = some r ∧ X6_other I A F L p0 p1 p2 p3 = some r := by
  unfold X5_other X6_other
  simp only [hasUnit_e hC hw, isUnit_e hM hw, isLength_e, isTick_e, isPart_e, within_e, ob1_eq, ite10, l0, l1, l4, l20]
  by_cases c : 0 ≤ p0.toInt ∧ p0.toInt < (g.2.2.1.1 : Int)
  · rw [if_pos c, if_pos c]
    by_cases c1 : 1 ≤ p1.toInt ∧ p1.toInt ≤ 4
    · rw [if_pos c1, if_pos c1]
      by_cases c2 : 0 ≤ p2.toInt ∧ p2.toInt ≤ 20
      · rw [if_pos c2, if_pos c2]
        by_cases c3 : 0 ≤ p3.toInt ∧ p3.toInt ≤ 1
        · rw [if_pos c3, if_pos c3]
          obtain ⟨i, hi, rfl⟩ := nat_of c
          have hs := hw.2.2.2.2.1
          obtain ⟨-, -, hd, ps, pu, hps, hpu, hst, hun⟩ := hC
          have hK := hun i hi
          have hMS := hM.2.2.2 i hi
          have hW := hw.2.2.2.2.2 i hi
          have e21 : (p2 - p1).toInt = p2.toInt - p1.toInt := sub_t (by omega) (by omega)
          rw [chk_of (inB_nI (show i < 4 by omega) (by decide)), cl_nI (by omega), disp4 hd hpu (by omega)]
          rw [sumAt_e (show i < 4 by omega) hMS hW p2 (by omega) c2.2, sumAt_e (show i < 4 by omega) hMS hW (p2 - p1) (by omega) (by omega), ob1_eq, ob1_eq, chk_of (inB_nI (show i < 4 by omega) (by decide)), hMS.1]
          have b1 := smE_bound hW p2
          have b2 := smE_bound hW (p2 - p1)
          have hl1 := hW.1
          have hl4 := hW.2.1
          have el : (nI (g.2.2.1.2 i).1).toInt = ((g.2.2.1.2 i).1 : Int) := nI_toInt (by omega)
          have hpi := lt4' (hpu.1 i (by omega)).1
          have main : ∀ s : UnT, UnK s (g.2.2.1.2 i) → (ob1 (X4_summedAt s.1 s.2.1 s.2.2 p2) fun r47 => ob1 (X4_summedAt s.1 s.2.1 s.2.2 (p2 - p1)) fun r55 => ob1 (X5_inLowestTerms (Int32.toInt64 ((r47 - r55) * s.1)) (Int32.toInt64 p1) p3) fun r74 => some (Int64.toInt32 r74)) = ob1 (X6_lowest (Int32.toInt64 (smE (g.2.2.1.2 i).2.2 (g.2.2.1.2 i).1 p2 - smE (g.2.2.1.2 i).2.2 (g.2.2.1.2 i).1 (p2 - p1)) * Int32.toInt64 (nI (g.2.2.1.2 i).1)) (Int32.toInt64 p1) p3) fun r71 => some (Int64.toInt32 r71) := by
            intro s hs
            rw [X4_summedAt_e hs, X4_summedAt_e hs, ob1_eq, ob1_eq, hs.1]
            generalize smE (g.2.2.1.2 i).2.2 (g.2.2.1.2 i).1 p2 = u at *
            generalize smE (g.2.2.1.2 i).2.2 (g.2.2.1.2 i).1 (p2 - p1) = v at *
            have euv : (u - v).toInt = u.toInt - v.toInt := sub_t (by omega) (by omega)
            have hz1 : ((g.2.2.1.2 i).1 : Int) ≤ 4 := by omega
            have hz0 : 0 ≤ ((g.2.2.1.2 i).1 : Int) := by omega
            generalize ((g.2.2.1.2 i).1 : Int) = z at *
            have hm1 : (u.toInt - v.toInt) * z ≤ 2079 * 4 := Int.le_trans (Int.mul_le_mul_of_nonneg_right (show u.toInt - v.toInt ≤ 2079 by omega) hz0) (by omega)
            have hm2 : -(2079 * 4) ≤ (u.toInt - v.toInt) * z := by
              have := Int.mul_le_mul_of_nonneg_right (show -2079 ≤ u.toInt - v.toInt by omega) hz0
              omega
            have emul : ((u - v) * nI (g.2.2.1.2 i).1).toInt = (u.toInt - v.toInt) * z := by rw [mul_t (by rw [euv, el]; omega) (by rw [euv, el]; omega), euv, el]
            rw [toI64, toI64, toI64, toI64, ← Int64.ofInt_mul, emul, euv, el]
            rw [lowTerms_e ⟨by omega, by omega⟩ (by omega) (by omega), lowest_e ⟨by omega, by omega⟩ (by omega) ⟨by omega, by omega⟩]
          have fin : ∃ r, (ob1 (X6_lowest (Int32.toInt64 (smE (g.2.2.1.2 i).2.2 (g.2.2.1.2 i).1 p2 - smE (g.2.2.1.2 i).2.2 (g.2.2.1.2 i).1 (p2 - p1)) * Int32.toInt64 (nI (g.2.2.1.2 i).1)) (Int32.toInt64 p1) p3) fun r71 => some (Int64.toInt32 r71)) = some r := by
            have euv : (smE (g.2.2.1.2 i).2.2 (g.2.2.1.2 i).1 p2 - smE (g.2.2.1.2 i).2.2 (g.2.2.1.2 i).1 (p2 - p1)).toInt = (smE (g.2.2.1.2 i).2.2 (g.2.2.1.2 i).1 p2).toInt - (smE (g.2.2.1.2 i).2.2 (g.2.2.1.2 i).1 (p2 - p1)).toInt := sub_t (by omega) (by omega)
            rw [toI64, toI64, toI64, ← Int64.ofInt_mul, euv, el]
            generalize (smE (g.2.2.1.2 i).2.2 (g.2.2.1.2 i).1 p2).toInt = u at *
            generalize (smE (g.2.2.1.2 i).2.2 (g.2.2.1.2 i).1 (p2 - p1)).toInt = v at *
            have hz1 : ((g.2.2.1.2 i).1 : Int) ≤ 4 := by omega
            have hz0 : 0 ≤ ((g.2.2.1.2 i).1 : Int) := by omega
            generalize ((g.2.2.1.2 i).1 : Int) = z at *
            have hm1 : (u - v) * z ≤ 2079 * 4 := Int.le_trans (Int.mul_le_mul_of_nonneg_right (show u - v ≤ 2079 by omega) hz0) (by omega)
            have hm2 : -(2079 * 4) ≤ (u - v) * z := by
              have := Int.mul_le_mul_of_nonneg_right (show -2079 ≤ u - v by omega) hz0
              omega
            rw [lowest_e ⟨by omega, by omega⟩ (by omega) ⟨by omega, by omega⟩]
            exact ⟨_, rfl⟩
          obtain ⟨r, hr⟩ := fin
          refine ⟨r, ?_, hr⟩
          rcases hpi with e | e | e | e <;> rw [e] at hK <;>
            simp only [e, reduceIte, Nat.reduceEqDiff, Nat.one_ne_zero] <;> rw [main _ hK] <;> exact hr
        · rw [if_neg c3, if_neg c3]
          exact ⟨_, rfl, rfl⟩
      · rw [if_neg c2, if_neg c2]
        exact ⟨_, rfl, rfl⟩
    · rw [if_neg c1, if_neg c1]
      exact ⟨_, rfl, rfl⟩
  · rw [if_neg c, if_neg c]
    exact ⟨_, rfl, rfl⟩
end SO
