/-! ===== digest: storms ===== -/
def hf (v : Nat → Int32) (h : Int64) : Nat → Int64
  | 0 => h
  | n + 1 => 31 * hf v h n + Int32.toInt64 (v n)
theorem cl_loop {R : Type} {J : Int64 → Option R} {f : Int32 → Option Int32} {v : Nat → Int32} {N : Nat} {B : Int32} (hB : B = nI N) (hN : N ≤ 100) (hv : ∀ k, k < N → f (nI k) = some (v k)) (h0 : Int64) : wh2 (fun self (h : Int64) (x : Int32) => if B ≤ x then J h else ob1 (f x) fun r => ob1 (X5_with h (Int32.toInt64 r)) fun r' => self r' (x + 1)) 200 h0 (0 : Int32) = J (hf v h0 N) := by
  subst hB
  refine wh2_for (P := fun o => o = J (hf v h0 N)) N (fun k h c => c = nI k ∧ h = hf v h0 k) ?_ ?_ 200 0 _ _ (by omega) (by omega) ⟨rfl, rfl⟩
  · intro k h c hk hI self hself
    obtain ⟨rfl, rfl⟩ := hI
    rw [if_neg (nI_ge hk (by omega)), hv k hk, ob1_eq]
    simp only [X5_with]
    rw [ob1_eq]
    exact hself _ _ ⟨nI_1 k, rfl⟩
  · intro h c hI self
    obtain ⟨rfl, rfl⟩ := hI
    rw [if_pos (nI_le (Nat.le_refl N) (by omega))]
theorem cl_loop' {R : Type} {J : Int64 → Option R} {f : Int32 → Option Int32} {v : Nat → Int32} {N : Nat} {B : Int32} (hB : B = nI N) (hN : N ≤ 100) (hv : ∀ k, k < N + 1 → f (nI k) = some (v k)) (h0 : Int64) : wh2 (fun self (h : Int64) (x : Int32) => if B < x then J h else ob1 (f x) fun r => ob1 (X5_with h (Int32.toInt64 r)) fun r' => self r' (x + 1)) 200 h0 (0 : Int32) = J (hf v h0 (N + 1)) := by
  subst hB
  refine wh2_for (P := fun o => o = J (hf v h0 (N + 1))) (N + 1) (fun k h c => c = nI k ∧ h = hf v h0 k) ?_ ?_ 200 0 _ _ (by omega) (by omega) ⟨rfl, rfl⟩
  · intro k h c hk hI self hself
    obtain ⟨rfl, rfl⟩ := hI
    rw [if_neg (nI_nlt (a := N) (b := k) (by omega) (by omega)), hv k hk, ob1_eq]
    simp only [X5_with]
    rw [ob1_eq]
    exact hself _ _ ⟨nI_1 k, rfl⟩
  · intro h c hI self
    obtain ⟨rfl, rfl⟩ := hI
    rw [if_pos (nI_lt (a := N) (b := N + 1) (by omega) (by omega))]
section DG
variable {a : Nat → Nat} {q pg : Nat → Int32} {gS gU : Nat → Option Nat} {rd : RdT} {ft : FtT} {S : Nat → StT} {U : Nat → UnT} {I : Nat → Int32} {A : Nat → Nat → Int32} {F : Nat → Int64} {L : Nat → Nat → Int64} {g : Sg}
theorem stormNow_of (hM : MRep I A g) (hw : WF g) {i : Nat} (hi : i < g.2.1.1) {c r : Int32} (hc : (0 ≤ c.toInt ∧ c.toInt ≤ 3) ∨ (10 ≤ c.toInt ∧ c.toInt ≤ 12) ∨ (20 ≤ c.toInt ∧ c.toInt ≤ 27)) (h : X6_storm I A F L (nI i) c = some r) : X6_stormNow I A F L (nI i) c = some r := by
  have h3 := hw.2.2.1
  unfold X6_storm at h
  rw [isStorm_e hM hw, ob1_eq, ite10, if_pos (by rw [nI_toInt (by omega)]; omega), within_e, ob1_eq, jn1_u, ite10, l0, l3] at h
  have fin : (ob1 (X6_stormNow I A F L (nI i) c) fun r55 => some r55) = some r := by
    have n10 : ¬ (1 : Int32) = 0 := by decide
    rcases hc with hc | hc | hc
    · rw [if_pos hc] at h
      dsimp only at h
      rw [if_neg n10] at h
      exact h
    · rw [if_neg (by omega), within_e, ob1_eq, ite10, l10, l12, if_pos hc] at h
      dsimp only at h
      rw [if_neg n10] at h
      exact h
    · rw [if_neg (by omega), within_e, ob1_eq, ite10, l10, l12, if_neg (by omega), within_e, ob1_eq, ite10, l20, l27, if_pos hc] at h
      dsimp only at h
      rw [if_neg n10] at h
      exact h
  cases hx : X6_stormNow I A F L (nI i) c with
  | none => rw [hx] at fin; cases (show (none : Option Int32) = some r from fin)
  | some x => rw [hx, ob1_eq] at fin; exact fin
def stH (sv dv : Nat → Int32) (h : Int64) : Int64 := hf (fun k => dv (10 + k)) (31 * hf (fun k => sv (20 + k)) (hf (fun k => sv (10 + k)) (hf sv h 4) 3) 8 + Int32.toInt64 (dv 0)) 8
theorem withStorm_e {i : Nat} {sv dv : Nat → Int32} (hs : ∀ c, c < 28 → X5_storm a q pg gS gU rd ft S U (nI i) (nI c) = some (sv c)) (hd : ∀ c, c = 0 ∨ (10 ≤ c ∧ c ≤ 17) → X5_divided a q pg gS gU rd ft S U (nI i) (nI c) = some (dv c)) (h : Int64) : X5_withStorm a q pg gS gU rd ft S U h (nI i) = some (stH sv dv h) := by
  unfold X5_withStorm
  rw [jn1_u, cl_loop' (B := 3) (N := 3) (v := sv) (f := fun x => X5_storm a q pg gS gU rd ft S U (nI i) x) rfl (by omega) (fun k hk => hs k (by omega))]
  rw [jn1_u, cl_loop (B := 3) (N := 3) (v := fun k => sv (10 + k)) (f := fun x => X5_storm a q pg gS gU rd ft S U (nI i) ((10 : Int32) + x)) rfl (by omega) (fun k hk => by
    rw [show (10 : Int32) + nI k = nI (10 + k) from nI_add 10 k]; exact hs _ (by omega))]
  rw [jn1_u, cl_loop (B := 8) (N := 8) (v := fun k => sv (20 + k)) (f := fun x => X5_storm a q pg gS gU rd ft S U (nI i) ((20 : Int32) + x)) rfl (by omega) (fun k hk => by
    rw [show (20 : Int32) + nI k = nI (20 + k) from nI_add 20 k]; exact hs _ (by omega))]
  rw [show (X5_divided a q pg gS gU rd ft S U (nI i) (0 : Int32)) = some (dv 0) from hd 0 (Or.inl rfl), ob1_eq]
  simp only [X5_with]
  rw [ob1_eq, jn1_u]
  have := cl_loop (J := fun x => some x) (B := 8) (N := 8) (v := fun k => dv (10 + k)) (f := fun x => X5_divided a q pg gS gU rd ft S U (nI i) ((10 : Int32) + x)) rfl (by omega) (fun k hk => by
    rw [show (10 : Int32) + nI k = nI (10 + k) from nI_add 10 k]; exact hd _ (Or.inr (by omega))) (31 * hf (fun k => sv (20 + k)) (hf (fun k => sv (10 + k)) (hf sv h 4) 3) 8 + Int32.toInt64 (dv 0))
  simp only [X5_with] at this
  exact this
def mh (sv : Nat → Int32) (h : Int64) : Nat → Int64
  | 0 => h
  | x + 1 => if x < 4 ∨ (10 ≤ x ∧ x ≤ 12) ∨ 20 ≤ x then 31 * mh sv h x + Int32.toInt64 (sv x) else mh sv h x
theorem mh_28 (sv : Nat → Int32) (h : Int64) : mh sv h 28 = hf (fun k => sv (20 + k)) (hf (fun k => sv (10 + k)) (hf sv h 4) 3) 8 := by
  simp [mh, hf]
theorem mixStorm_e {i : Nat} {sv dv : Nat → Int32} (hs : ∀ (F' : Nat → Int64) c, c < 4 ∨ (10 ≤ c ∧ c ≤ 12) ∨ (20 ≤ c ∧ c ≤ 27) → X6_stormNow I A F' L (nI i) (nI c) = some (sv c)) (hd : ∀ (x : Int32) (y : Nat → Int32) (F' : Nat → Int64) c, c = 0 ∨ (10 ≤ c ∧ c ≤ 17) → ∃ n w, X6_dividedNow (up I 23 x) (up A 24 y) F' L (nI i) (nI c) = some (dv c, n, w)) (hd0 : ∀ F' : Nat → Int64, ∃ n w, X6_dividedNow I A F' L (nI i) 0 = some (dv 0, n, w)) : ∃ n w, X6_mixStorm I A F L (nI i) = some (n, w, stH sv dv (F 32)) := by
  unfold X6_mixStorm
  rw [jn1_u]
  refine wh2_for (P := fun o => ∃ n w, o = some (n, w, stH sv dv (F 32))) 28 (fun k c h => c = nI k ∧ h = mh sv (F 32) k) ?_ ?_ 200 0 _ _ (by omega) (by omega) ⟨rfl, rfl⟩
  · intro k c h hk hI self hself
    obtain ⟨rfl, rfl⟩ := hI
    have ek : (nI k).toInt = (k : Int) := nI_toInt (by omega)
    have e4 : (nI k < (4 : Int32)) ↔ k < 4 := by rw [lt_iff, ek, l4]; omega
    have e19 : (nI k ≤ (19 : Int32)) ↔ k ≤ 19 := by rw [le_iff, ek, show (19 : Int32).toInt = 19 from rfl]; omega
    rw [if_neg (show ¬ (28 : Int32) ≤ nI k from nI_ge hk (by decide)), jn1_u, jn0_u]
    have yes : k < 4 ∨ (10 ≤ k ∧ k ≤ 12) ∨ 20 ≤ k → ∃ n w, (ob1 (X6_stormNow I A (up F 32 (mh sv (F 32) k)) L (nI i) (nI k)) fun r34 => ob1 (X6_mix I A (up F 32 (mh sv (F 32) k)) L (Int32.toInt64 r34)) fun oF32_38 => self (nI k + 1) oF32_38) = some (n, w, stH sv dv (F 32)) := by
      intro hc
      rw [hs _ k (by omega), ob1_eq]
      unfold X6_mix
      rw [ob1_eq]
      refine hself _ _ ⟨nI_1 k, ?_⟩
      show _ = if k < 4 ∨ (10 ≤ k ∧ k ≤ 12) ∨ 20 ≤ k then 31 * mh sv (F 32) k + Int32.toInt64 (sv k) else mh sv (F 32) k
      rw [if_pos hc]
      rfl
    by_cases c1 : k < 4
    · rw [if_pos (e4.mpr c1)]
      exact yes (Or.inl c1)
    · rw [if_neg (mt e4.mp c1), within_e, ob1_eq, ite10, ek, l10, l12]
      by_cases c2 : 10 ≤ (k : Int) ∧ (k : Int) ≤ 12
      · rw [if_pos c2]
        exact yes (Or.inr (Or.inl (by omega)))
      · rw [if_neg c2]
        by_cases c3 : k ≤ 19
        · rw [if_pos (e19.mpr c3)]
          refine hself _ _ ⟨nI_1 k, ?_⟩
          show _ = if k < 4 ∨ (10 ≤ k ∧ k ≤ 12) ∨ 20 ≤ k then 31 * mh sv (F 32) k + Int32.toInt64 (sv k) else mh sv (F 32) k
          rw [if_neg (by omega)]
        · rw [if_neg (mt e19.mp c3)]
          exact yes (Or.inr (Or.inr (by omega)))
  · intro c h hI self
    obtain ⟨rfl, rfl⟩ := hI
    rw [if_pos (show (28 : Int32) ≤ nI 28 from nI_le (Nat.le_refl 28) (by decide))]
    dsimp only
    obtain ⟨n0, w0, h0⟩ := hd0 (up F 32 (mh sv (F 32) 28))
    rw [h0, ob3_eq]
    simp only [X6_mix]
    rw [ob1_eq]
    refine wh4_for (P := fun o => ∃ n w, o = some (n, w, stH sv dv (F 32))) 18 (fun k c n w h => c = nI k ∧ 10 ≤ k ∧ h = hf (fun k => dv (10 + k)) (31 * mh sv (F 32) 28 + Int32.toInt64 (dv 0)) (k - 10)) ?_ ?_ 200 10 _ _ _ _ (by omega) (by omega) ⟨rfl, by omega, rfl⟩
    · intro k c n w h hk hI self
      obtain ⟨rfl, hk10, rfl⟩ := hI
      intro hself
      obtain ⟨n1, w1, h1⟩ := hd n w (up F 32 (hf (fun k => dv (10 + k)) (31 * mh sv (F 32) 28 + Int32.toInt64 (dv 0)) (k - 10))) k (Or.inr (by omega))
      rw [if_neg (show ¬ (18 : Int32) ≤ nI k from nI_ge hk (by decide)), h1, ob3_eq, ob1_eq]
      refine hself _ _ _ _ ⟨nI_1 k, by omega, ?_⟩
      rw [show k + 1 - 10 = (k - 10) + 1 by omega]
      simp only [hf]
      rw [show 10 + (k - 10) = k by omega]
      rfl
    · intro c n w h hI self
      obtain ⟨rfl, -, rfl⟩ := hI
      rw [if_pos (show (18 : Int32) ≤ nI 18 from nI_le (Nat.le_refl 18) (by decide)), mh_28]
      exact ⟨_, _, rfl⟩
end DG
