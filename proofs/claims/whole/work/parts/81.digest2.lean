/-! ===== digest: units ===== -/
def unH (uv : Nat → Int32) (h : Int64) : Int64 := hf (fun k => uv (10 + k)) (hf uv h 3) 8
def fu (uv : Nat → Nat → Int32) (h : Int64) : Nat → Int64
  | 0 => h
  | u + 1 => unH (uv u) (fu uv h u)
def fm (mv : Nat → Nat → Int32) (ns : Nat) (h : Int64) : Nat → Int64
  | 0 => h
  | u + 1 => hf (mv u) (fm mv ns h u) ns
def mu (uv : Nat → Int32) (h : Int64) : Nat → Int64
  | 0 => h
  | x + 1 => if x < 3 ∨ 10 ≤ x then 31 * mu uv h x + Int32.toInt64 (uv x) else mu uv h x
theorem mu_18 (uv : Nat → Int32) (h : Int64) : mu uv h 18 = unH uv h := by
  simp [mu, hf, unH]
section DU
variable {a : Nat → Nat} {q pg : Nat → Int32} {gS gU : Nat → Option Nat} {rd : RdT} {ft : FtT} {S : Nat → StT} {U : Nat → UnT} {I : Nat → Int32} {A : Nat → Nat → Int32} {F : Nat → Int64} {L : Nat → Nat → Int64} {g : Sg}
theorem unitNow_of (hM : MRep I A g) (hw : WF g) {i : Nat} (hi : i < g.2.2.1.1) {c r : Int32} (hc : (0 ≤ c.toInt ∧ c.toInt ≤ 2) ∨ (10 ≤ c.toInt ∧ c.toInt ≤ 17)) (h : X6_unit I A F L (nI i) c = some r) : X6_unitNow I A F L (nI i) c = some r := by
  have h3 := hw.2.2.2.2.1
  unfold X6_unit at h
  rw [isUnit_e hM hw, ob1_eq, ite10, if_pos (by rw [nI_toInt (by omega)]; omega), within_e, ob1_eq, jn0_u, ite10, l0, l2] at h
  have fin : (ob1 (X6_unitNow I A F L (nI i) c) fun r55 => some r55) = some r := by
    rcases hc with hc | hc
    · rw [if_pos hc] at h
      exact h
    · rw [if_neg (by omega), within_e, ob1_eq, ite10, l10, l17, if_pos hc] at h
      exact h
  cases hx : X6_unitNow I A F L (nI i) c with
  | none => rw [hx] at fin; cases (show (none : Option Int32) = some r from fin)
  | some x => rw [hx, ob1_eq] at fin; exact fin
theorem missedNow_of (hM : MRep I A g) (hw : WF g) {u i : Nat} (hu : u < g.2.2.1.1) (hi : i < g.2.1.1) {r : Int32} (h : X6_missed I A F L (nI u) (nI i) = some r) : X6_missedNow I A F L (nI u) (nI i) = some r := by
  have h3 := hw.2.2.2.2.1
  have h4 := hw.2.2.1
  unfold X6_missed at h
  rw [isUnit_e hM hw, ob1_eq, ite10, if_pos (by rw [nI_toInt (by omega)]; omega), isStorm_e hM hw, ob1_eq, ite10, if_pos (by rw [nI_toInt (by omega)]; omega)] at h
  cases hx : X6_missedNow I A F L (nI u) (nI i) with
  | none => rw [hx] at h; cases (show (none : Option Int32) = some r from h)
  | some x => rw [hx, ob1_eq] at h; exact h
theorem withUnit_e {i : Nat} {uv : Nat → Int32} (hs : ∀ c, c < 18 → X5_unit a q pg gS gU rd ft S U (nI i) (nI c) = some (uv c)) (h : Int64) : X5_withUnit a q pg gS gU rd ft S U h (nI i) = some (unH uv h) := by
  unfold X5_withUnit
  rw [jn1_u, cl_loop' (B := 2) (N := 2) (v := uv) (f := fun x => X5_unit a q pg gS gU rd ft S U (nI i) x) rfl (by omega) (fun k hk => hs k (by omega))]
  rw [jn1_u, cl_loop (B := 8) (N := 8) (v := fun k => uv (10 + k)) (f := fun x => X5_unit a q pg gS gU rd ft S U (nI i) ((10 : Int32) + x)) rfl (by omega) (fun k hk => by
    rw [show (10 : Int32) + nI k = nI (10 + k) from nI_add 10 k]; exact hs _ (by omega))]
  rfl
theorem mixUnits_e {nu ns : Nat} (hnu : nu ≤ 4) (hns : ns ≤ 3) (h7 : I 7 = nI nu) (h2 : I 2 = nI ns) {uv mv : Nat → Nat → Int32} (hs : ∀ u, u < nu → ∀ (F' : Nat → Int64) c, c < 3 ∨ (10 ≤ c ∧ c ≤ 17) → X6_unitNow I A F' L (nI u) (nI c) = some (uv u c)) (hm : ∀ u, u < nu → ∀ (F' : Nat → Int64) i, i < ns → X6_missedNow I A F' L (nI u) (nI i) = some (mv u i)) : X6_mixUnits I A F L = some (fm mv ns (fu uv (F 32) nu) nu) := by
  unfold X6_mixUnits
  rw [jn1_u, h7, h2]
  refine wh2_for (P := fun o => o = some (fm mv ns (fu uv (F 32) nu) nu)) nu (fun u c h => c = nI u ∧ h = fu uv (F 32) u) ?_ ?_ 200 0 _ _ (by omega) (by omega) ⟨rfl, rfl⟩
  · intro u c h hu hI self hself
    obtain ⟨rfl, rfl⟩ := hI
    rw [if_neg (nI_ge hu (by omega)), jn1_u]
    refine wh2_for (P := fun o => o = some (fm mv ns (fu uv (F 32) nu) nu)) 18 (fun k c h => c = nI k ∧ h = mu (uv u) (fu uv (F 32) u) k) ?_ ?_ 200 0 _ _ (by omega) (by omega) ⟨rfl, rfl⟩
    · intro k c h hk hI self2 hself2
      obtain ⟨rfl, rfl⟩ := hI
      have ek : (nI k).toInt = (k : Int) := nI_toInt (by omega)
      have e3 : (nI k < (3 : Int32)) ↔ k < 3 := by rw [lt_iff, ek, l3]; omega
      have e9 : (nI k ≤ (9 : Int32)) ↔ k ≤ 9 := by rw [le_iff, ek, show (9 : Int32).toInt = 9 from rfl]; omega
      rw [if_neg (show ¬ (18 : Int32) ≤ nI k from nI_ge hk (by decide)), jn1_u, jn0_u]
      have yes : k < 3 ∨ 10 ≤ k → (ob1 (X6_unitNow I A (up F 32 (mu (uv u) (fu uv (F 32) u) k)) L (nI u) (nI k)) fun r33 => ob1 (X6_mix I A (up F 32 (mu (uv u) (fu uv (F 32) u) k)) L (Int32.toInt64 r33)) fun oF32_37 => self2 (nI k + 1) oF32_37) = some (fm mv ns (fu uv (F 32) nu) nu) := by
        intro hc
        rw [hs u hu _ k (by omega), ob1_eq]
        unfold X6_mix
        rw [ob1_eq]
        refine hself2 _ _ ⟨nI_1 k, ?_⟩
        show _ = if k < 3 ∨ 10 ≤ k then 31 * mu (uv u) (fu uv (F 32) u) k + Int32.toInt64 (uv u k) else mu (uv u) (fu uv (F 32) u) k
        rw [if_pos hc]
        rfl
      by_cases c1 : k < 3
      · rw [if_pos (e3.mpr c1)]
        exact yes (Or.inl c1)
      · rw [if_neg (mt e3.mp c1)]
        by_cases c3 : k ≤ 9
        · rw [if_pos (e9.mpr c3)]
          refine hself2 _ _ ⟨nI_1 k, ?_⟩
          show _ = if k < 3 ∨ 10 ≤ k then 31 * mu (uv u) (fu uv (F 32) u) k + Int32.toInt64 (uv u k) else mu (uv u) (fu uv (F 32) u) k
          rw [if_neg (by omega)]
        · rw [if_neg (mt e9.mp c3)]
          exact yes (Or.inr (by omega))
    · intro c h hI self2
      obtain ⟨rfl, rfl⟩ := hI
      rw [if_pos (show (18 : Int32) ≤ nI 18 from nI_le (Nat.le_refl 18) (by decide))]
      refine hself _ _ ⟨nI_1 u, mu_18 _ _⟩
  · intro c h hI self
    obtain ⟨rfl, rfl⟩ := hI
    rw [if_pos (nI_le (Nat.le_refl nu) (by omega))]
    refine wh2_for (P := fun o => o = some (fm mv ns (fu uv (F 32) nu) nu)) nu (fun u c h => c = nI u ∧ h = fm mv ns (fu uv (F 32) nu) u) ?_ ?_ 200 0 _ _ (by omega) (by omega) ⟨rfl, rfl⟩
    · intro u c h hu hI self2 hself2
      obtain ⟨rfl, rfl⟩ := hI
      rw [if_neg (nI_ge hu (by omega)), jn1_u]
      refine wh2_for (P := fun o => o = some (fm mv ns (fu uv (F 32) nu) nu)) ns (fun k c h => c = nI k ∧ h = hf (mv u) (fm mv ns (fu uv (F 32) nu) u) k) ?_ ?_ 200 0 _ _ (by omega) (by omega) ⟨rfl, rfl⟩
      · intro k c h hk hI self3 hself3
        obtain ⟨rfl, rfl⟩ := hI
        rw [if_neg (nI_ge hk (by omega)), hm u hu _ k hk, ob1_eq]
        unfold X6_mix
        rw [ob1_eq]
        exact hself3 _ _ ⟨nI_1 k, rfl⟩
      · intro c h hI self3
        obtain ⟨rfl, rfl⟩ := hI
        rw [if_pos (nI_le (Nat.le_refl ns) (by omega))]
        exact hself2 _ _ ⟨nI_1 u, rfl⟩
    · intro c h hI self2
      obtain ⟨rfl, rfl⟩ := hI
      rw [if_pos (nI_le (Nat.le_refl nu) (by omega))]
end DU
