section LP
variable {I : Nat → Int32} {A : Nat → Nat → Int32} {F : Nat → Int64} {L : Nat → Nat → Int64} {g : Sg}
theorem layProducts_e (hM : MRep I A g) (hw : WF g) (p0 : Int32) : ∃ u v : Nat → Int64, Prods u v p0 g g.2.1.1 ∧ X6_layProducts I A F L p0 = some (u, v, Int64.ofInt (totS p0 g.2.1.2 rD g.2.1.1)) := by
  unfold X6_layProducts
  simp only [jn2, jn3]
  have hs := hw.2.2.1
  refine wh3_for (P := fun o => ∃ u v : Nat → Int64, Prods u v p0 g g.2.1.1 ∧ o = some (u, v, Int64.ofInt (totS p0 g.2.1.2 rD g.2.1.1))) 4 (fun i c u v => c = nI i ∧ ∀ k, k < i → u k = 0 ∧ v k = 0) ?_ ?_ 200 0 _ _ _ (by omega) (by omega) ⟨rfl, fun k hk => by omega⟩
  · intro i c u v hi hI self hself
    obtain ⟨rfl, hz⟩ := hI
    rw [if_neg (show ¬ (4 : Int32) ≤ nI i from nI_ge hi (by decide)), chk_of (inB_nI hi (by decide)), chk_of (inB_nI hi (by decide)), cl_nI (by omega)]
    refine hself _ _ _ ⟨nI_1 i, fun k hk => ?_⟩
    by_cases hki : k = i
    · subst hki; exact ⟨updL_same, updL_same⟩
    · rw [updL_ne hki, updL_ne hki]; exact hz k (by omega)
  · intro c u v hI self
    obtain ⟨rfl, hz⟩ := hI
    rw [if_pos (show (4 : Int32) ≤ nI 4 from nI_le (Nat.le_refl 4) (by decide)), hM.1.2.1]
    refine wh4_for (P := fun o => ∃ u v : Nat → Int64, Prods u v p0 g g.2.1.1 ∧ o = some (u, v, Int64.ofInt (totS p0 g.2.1.2 rD g.2.1.1))) g.2.1.1 (fun s c u v w => c = nI s ∧ Prods u v p0 g s ∧ w = Int64.ofInt (totS p0 g.2.1.2 rD s)) ?_ ?_ 200 0 _ _ _ _ (by omega) (by omega) ⟨rfl, hz, rfl⟩
    · intro s c u v w hi hI self1 hself1
      obtain ⟨rfl, hp, rfl⟩ := hI
      rw [if_neg (nI_ge hi (by omega))]
      have hMS := hM.2.2.1 s hi
      have hW := hw.2.2.2.1 s hi
      have r5 : ∀ t, 0 ≤ (atE (g.2.1.2 s).2.1 t).toInt ∧ (atE (g.2.1.2 s).2.1 t).toInt ≤ 5 := fun t => atE_bound (by decide) hW.1.2.2.2.1 t
      have o9 : ∀ t, 0 ≤ (atE (g.2.1.2 s).2.2.2 t).toInt ∧ (atE (g.2.1.2 s).2.2.2 t).toInt ≤ 99 := fun t => atE_bound (by decide) hW.2.2.2.2 t
      simp only [rainAt_e (show s < 3 by omega) hMS hW, runoffAt_e (show s < 3 by omega) hMS, ob1_eq]
      cases hbit : bitB p0 s with
      | false =>
        rw [wh4_s]
        rw [if_neg (show ¬ (12 : Int32) ≤ 0 by decide), if_neg (bitB_f hbit)]
        refine hself1 _ _ _ _ ⟨nI_1 s, fun k hk => ?_, ?_⟩
        · have := hp k hk
          simp only [totS, hbit, cond, Int.add_zero]
          exact this
        · simp only [totS, hbit, cond, Int.add_zero]
      | true =>
        refine wh4_for (P := fun o => ∃ u v : Nat → Int64, Prods u v p0 g g.2.1.1 ∧ o = some (u, v, Int64.ofInt (totS p0 g.2.1.2 rD g.2.1.1))) 12 (fun t c u' v' w' => c = nI t ∧ (∀ k, k < 4 → u' k = Int64.ofInt (totS p0 g.2.1.2 (fun d => gD d k) s + sumI (fun t => (atE (g.2.1.2 s).2.1 (nI t)).toInt * (atE (g.2.1.2 s).2.1 (nI t - nI k)).toInt) t) ∧ v' k = Int64.ofInt (totS p0 g.2.1.2 (fun d => bD d k) s + sumI (fun t => (atE (g.2.1.2 s).2.2.2 (nI t)).toInt * (atE (g.2.1.2 s).2.1 (nI t - nI k)).toInt) t)) ∧ w' = Int64.ofInt (totS p0 g.2.1.2 rD s + sumI (fun t => (atE (g.2.1.2 s).2.2.2 (nI t)).toInt * (atE (g.2.1.2 s).2.2.2 (nI t)).toInt) t)) ?_ ?_ 200 0 _ _ _ _ (by omega) (by omega) ⟨rfl, fun k hk => by simp only [sumI, Int.add_zero]; exact hp k hk, by simp only [sumI, Int.add_zero]⟩
        · intro t c u' v' w' ht hI self2 hself2
          obtain ⟨rfl, hq, rfl⟩ := hI
          rw [if_neg (show ¬ (12 : Int32) ≤ nI t from nI_ge ht (by decide)), if_pos (bitB_t hbit)]
          refine wh3_for (P := fun o => ∃ u v : Nat → Int64, Prods u v p0 g g.2.1.1 ∧ o = some (u, v, Int64.ofInt (totS p0 g.2.1.2 rD g.2.1.1))) 4 (fun i c x y => c = nI i ∧ (∀ k, k < i → x k = u' k + Int64.ofInt ((atE (g.2.1.2 s).2.1 (nI t)).toInt * (atE (g.2.1.2 s).2.1 (nI t - nI k)).toInt) ∧ y k = v' k + Int64.ofInt ((atE (g.2.1.2 s).2.2.2 (nI t)).toInt * (atE (g.2.1.2 s).2.1 (nI t - nI k)).toInt)) ∧ ∀ k, i ≤ k → x k = u' k ∧ y k = v' k) ?_ ?_ 200 0 _ _ _ (by omega) (by omega) ⟨rfl, fun k hk => by omega, fun k _ => ⟨rfl, rfl⟩⟩
          · intro k c x y hk hI self3 hself3
            obtain ⟨rfl, h1, h2⟩ := hI
            rw [if_neg (show ¬ (4 : Int32) ≤ nI k from nI_ge hk (by decide))]
            simp only [chk_of (inB_nI hk (by decide)), cl_nI (show k < 2 ^ 31 by omega)]
            rw [mul64 (r5 _) (r5 _) (by decide), mul64 (o9 _) (r5 _) (by decide)]
            refine hself3 _ _ _ ⟨nI_1 k, fun j hj => ?_, fun j hj => ?_⟩
            · by_cases hjk : j = k
              · subst hjk
                rw [updL_same, updL_same, (h2 j (Nat.le_refl j)).1, (h2 j (Nat.le_refl j)).2]
                exact ⟨rfl, rfl⟩
              · rw [updL_ne hjk, updL_ne hjk]; exact h1 j (by omega)
            · rw [updL_ne (by omega), updL_ne (by omega)]; exact h2 j (by omega)
          · intro c x y hI self3
            obtain ⟨rfl, h1, h2⟩ := hI
            rw [if_pos (show (4 : Int32) ≤ nI 4 from nI_le (Nat.le_refl 4) (by decide)), mul64 (o9 _) (o9 _) (by decide)]
            refine hself2 _ _ _ _ ⟨nI_1 t, fun k hk => ?_, ?_⟩
            · obtain ⟨e1, e2⟩ := h1 k hk
              obtain ⟨e3, e4⟩ := hq k hk
              rw [e1, e2, e3, e4, ← Int64.ofInt_add, ← Int64.ofInt_add]
              simp only [sumI, Int.add_assoc, and_self]
            · rw [← Int64.ofInt_add]
              simp only [sumI, Int.add_assoc]
        · intro c u' v' w' hI self2
          obtain ⟨rfl, hq, rfl⟩ := hI
          rw [if_pos (show (12 : Int32) ≤ nI 12 from nI_le (Nat.le_refl 12) (by decide))]
          refine hself1 _ _ _ _ ⟨nI_1 s, fun k hk => ?_, ?_⟩
          · have e1 := gM_e hW k hk
            have e2 := bM_e hW k hk
            unfold gM at e1
            unfold bM at e2
            obtain ⟨e3, e4⟩ := hq k hk
            rw [e3, e4, e1, e2]
            simp only [totS, hbit, cond, and_self]
          · have e1 := rM_e (d := g.2.1.2 s)
            unfold rM at e1
            rw [e1]
            simp only [totS, hbit, cond]
    · intro c u v w hI self1
      obtain ⟨rfl, hp, rfl⟩ := hI
      rw [if_pos (nI_le (Nat.le_refl _) (by omega))]
      exact ⟨u, v, hp, rfl⟩
end LP
