/-! ===== what the states stand for ===== -/
abbrev SD : Type := Nat × (Nat → Int32) × Nat × (Nat → Int32)
abbrev UD : Type := Nat × Nat × (Nat → Int32)
def StW (d : SD) : Prop := (1 ≤ d.1 ∧ d.1 ≤ 3 ∧ (∀ j, d.1 ≤ j → d.2.1 j = 0) ∧ (∀ j, 0 ≤ (d.2.1 j).toInt ∧ (d.2.1 j).toInt ≤ 5) ∧ 0 < (d.2.1 0).toInt) ∧ (1 ≤ d.2.2.1 ∧ d.2.2.1 ≤ 8 ∧ (∀ j, d.2.2.1 ≤ j → d.2.2.2 j = 0) ∧ ∀ j, 0 ≤ (d.2.2.2 j).toInt ∧ (d.2.2.2 j).toInt ≤ 99)
def UnW (d : UD) : Prop := 1 ≤ d.1 ∧ d.1 ≤ 4 ∧ 1 ≤ d.2.1 ∧ d.2.1 ≤ 8 ∧ (∀ j, d.2.1 ≤ j → d.2.2 j = 0) ∧ ∀ j, 0 ≤ (d.2.2 j).toInt ∧ (d.2.2 j).toInt ≤ 99
def StK (s : StT) (d : SD) : Prop := RowK s.1 s.2.1 d.1 d.2.1 ∧ RowK s.2.2.1 s.2.2.2.1 d.2.2.1 d.2.2.2 ∧ ∃ (n : Int32) (f : Nat → Int32) (e : Int32), X3_divide s.1 s.2.1 s.2.2.1 s.2.2.2.1 n f e = some (s.2.2.2.2.1, s.2.2.2.2.2.1, s.2.2.2.2.2.2)
def UnK (u : UnT) (d : UD) : Prop := u.1 = nI d.1 ∧ RowK u.2.1 u.2.2 d.2.1 d.2.2
def MSt (A : Nat → Nat → Int32) (i : Nat) (d : SD) : Prop := A 3 i = nI d.1 ∧ (∀ j, j < 3 → A 4 (3 * i + j) = d.2.1 j) ∧ A 5 i = nI d.2.2.1 ∧ ∀ j, j < 8 → A 6 (8 * i + j) = d.2.2.2 j
def MUn (A : Nat → Nat → Int32) (i : Nat) (d : UD) : Prop := A 8 i = nI d.1 ∧ A 9 i = nI d.2.1 ∧ ∀ j, j < 8 → A 10 (8 * i + j) = d.2.2 j
/-- what the office knows: letters, storms, units, three counts -/
abbrev Sg : Type := (Nat × (Nat → Int32)) × (Nat × (Nat → SD)) × (Nat × (Nat → UD)) × Int32 × Int32 × Int32
def WF (g : Sg) : Prop := g.1.1 ≤ 40 ∧ (∀ j, j < g.1.1 → 32 ≤ (g.1.2 j).toInt ∧ (g.1.2 j).toInt ≤ 126) ∧ g.2.1.1 ≤ 3 ∧ (∀ i, i < g.2.1.1 → StW (g.2.1.2 i)) ∧ g.2.2.1.1 ≤ 4 ∧ ∀ i, i < g.2.2.1.1 → UnW (g.2.2.1.2 i)
def Dist (a : Nat → Nat) : Prop := (a 15 ≠ a 22 ∧ a 15 ≠ a 29 ∧ a 22 ≠ a 29) ∧ (a 36 ≠ a 39 ∧ a 36 ≠ a 42 ∧ a 36 ≠ a 45 ∧ a 39 ≠ a 42 ∧ a 39 ≠ a 45 ∧ a 42 ≠ a 45)
def PmS (a : Nat → Nat) (gS : Nat → Option Nat) (ps : Nat → Nat) : Prop := (∀ i, i < 3 → ps i < 3 ∧ gS i = some (a (15 + 7 * ps i))) ∧ ∀ i j, i < 3 → j < 3 → ps i = ps j → i = j
def PmU (a : Nat → Nat) (gU : Nat → Option Nat) (pu : Nat → Nat) : Prop := (∀ i, i < 4 → pu i < 4 ∧ gU i = some (a (36 + 3 * pu i))) ∧ ∀ i j, i < 4 → j < 4 → pu i = pu j → i = j
def CRep (a : Nat → Nat) (q pg : Nat → Int32) (gS gU : Nat → Option Nat) (S : Nat → StT) (U : Nat → UnT) (g : Sg) : Prop :=
  (q 5 = nI g.1.1 ∧ q 6 = nI g.2.1.1 ∧ q 7 = nI g.2.2.1.1 ∧ q 8 = g.2.2.2.1 ∧ q 9 = g.2.2.2.2.1 ∧ q 10 = g.2.2.2.2.2) ∧ (∀ j, j < g.1.1 → pg j = g.1.2 j) ∧ Dist a ∧ ∃ ps pu : Nat → Nat, PmS a gS ps ∧ PmU a gU pu ∧ (∀ i, i < g.2.1.1 → StK (S (ps i)) (g.2.1.2 i)) ∧ ∀ i, i < g.2.2.1.1 → UnK (U (pu i)) (g.2.2.1.2 i)
def MRep (I : Nat → Int32) (A : Nat → Nat → Int32) (g : Sg) : Prop :=
  (I 0 = nI g.1.1 ∧ I 2 = nI g.2.1.1 ∧ I 7 = nI g.2.2.1.1 ∧ I 11 = g.2.2.2.1 ∧ I 12 = g.2.2.2.2.1 ∧ I 13 = g.2.2.2.2.2) ∧ (∀ j, j < g.1.1 → A 1 j = g.1.2 j) ∧ (∀ i, i < g.2.1.1 → MSt A i (g.2.1.2 i)) ∧ ∀ i, i < g.2.2.1.1 → MUn A i (g.2.2.1.2 i)
/-! ===== the model's small methods ===== -/
theorem within_e (x lo hi : Int32) : X6_within x lo hi = some (if lo.toInt ≤ x.toInt ∧ x.toInt ≤ hi.toInt then 1 else 0) := by
  unfold X6_within
  by_cases c1 : x < lo
  · have := (lt_iff _ _).mp c1
    rw [if_pos c1, if_neg (by omega)]
  · have h1 := mt (lt_iff _ _).mpr c1
    rw [if_neg c1]
    by_cases c2 : hi < x
    · have := (lt_iff _ _).mp c2
      rw [if_pos c2, if_neg (by omega)]
    · have h2 := mt (lt_iff _ _).mpr c2
      rw [if_neg c2, if_pos (by omega)]
theorem ite10 {α : Type} {c : Prop} [Decidable c] {x y : α} : (if (if c then (1 : Int32) else 0) = 0 then x else y) = if c then y else x := by
  by_cases h : c
  · rw [if_pos h, if_pos h, if_neg (by decide)]
  · rw [if_neg h, if_neg h, if_pos rfl]
theorem ixm {m i k : Nat} (c : Int32) (hc : c = nI m) : c * nI i + nI k = nI (m * i + k) := by rw [hc, pk_mul, nI_add]
theorem rainAt_e {I : Nat → Int32} {A : Nat → Nat → Int32} {F : Nat → Int64} {L : Nat → Nat → Int64} {i : Nat} {d : SD} (hi : i < 3) (h : MSt A i d) (hw : StW d) (t : Int32) : X6_rainAt I A F L (nI i) t = some (atE d.2.1 t) := by
  unfold X6_rainAt
  rw [within_e, ob1_eq, ite10]
  have e0 : (0 : Int32).toInt = 0 := rfl
  have e2 : (2 : Int32).toInt = 2 := rfl
  rw [e0, e2]
  unfold atE
  by_cases c : 0 ≤ t.toInt ∧ t.toInt ≤ 2
  · have hcl := cl_pos c.1
    rw [if_pos c, if_pos ⟨c.1, by omega⟩]
    have ht := i32_of c.1
    generalize t.toNatClampNeg = k at *
    subst ht
    rw [ixm (m := 3) 3 rfl, chk_of (inB_nI (by omega) (by decide)), cl_nI (by omega), h.2.1 k (by omega)]
  · rw [if_neg c]
    by_cases c2 : 0 ≤ t.toInt ∧ t.toInt < 8
    · have hcl := cl_pos c2.1
      have h3 := hw.1.2.1
      rw [if_pos c2, hw.1.2.2.1 _ (by omega)]
    · rw [if_neg c2]
theorem runoffAt_e {I : Nat → Int32} {A : Nat → Nat → Int32} {F : Nat → Int64} {L : Nat → Nat → Int64} {i : Nat} {d : SD} (hi : i < 3) (h : MSt A i d) (t : Int32) : X6_runoffAt I A F L (nI i) t = some (atE d.2.2.2 t) := by
  unfold X6_runoffAt
  rw [within_e, ob1_eq, ite10]
  have e0 : (0 : Int32).toInt = 0 := rfl
  have e2 : (7 : Int32).toInt = 7 := rfl
  rw [e0, e2]
  unfold atE
  by_cases c : 0 ≤ t.toInt ∧ t.toInt ≤ 7
  · have hcl := cl_pos c.1
    rw [if_pos c, if_pos ⟨c.1, by omega⟩]
    have ht := i32_of c.1
    generalize t.toNatClampNeg = k at *
    subst ht
    rw [ixm (m := 8) 8 rfl, chk_of (inB_nI (by omega) (by decide)), cl_nI (by omega), h.2.2.2 k (by omega)]
  · rw [if_neg c, if_neg (by omega)]
theorem partAt_e {I : Nat → Int32} {A : Nat → Nat → Int32} {F : Nat → Int64} {L : Nat → Nat → Int64} {i : Nat} {d : UD} (hi : i < 4) (h : MUn A i d) (t : Int32) : X6_partAt I A F L (nI i) t = some (atE d.2.2 t) := by
  unfold X6_partAt
  rw [within_e, ob1_eq, ite10]
  have e0 : (0 : Int32).toInt = 0 := rfl
  have e2 : (7 : Int32).toInt = 7 := rfl
  rw [e0, e2]
  unfold atE
  by_cases c : 0 ≤ t.toInt ∧ t.toInt ≤ 7
  · have hcl := cl_pos c.1
    rw [if_pos c, if_pos ⟨c.1, by omega⟩]
    have ht := i32_of c.1
    generalize t.toNatClampNeg = k at *
    subst ht
    rw [ixm (m := 8) 8 rfl, chk_of (inB_nI (by omega) (by decide)), cl_nI (by omega), h.2.2 k (by omega)]
  · rw [if_neg c, if_neg (by omega)]
theorem runoffAll_e {I : Nat → Int32} {A : Nat → Nat → Int32} {F : Nat → Int64} {L : Nat → Nat → Int64} {i : Nat} {d : SD} (hi : i < 3) (h : MSt A i d) : X6_runoffAll I A F L (nI i) = some (sumE d.2.2.2 8) := by
  unfold X6_runoffAll
  simp only [jn1]
  refine wh2_for (P := fun o => o = some (sumE d.2.2.2 8)) 8 (fun i a b => a = sumE d.2.2.2 i ∧ b = nI i) ?_ ?_ 200 0 _ _ (by omega) (by omega) ⟨rfl, rfl⟩
  · intro k a b hk hI self hself
    obtain ⟨rfl, rfl⟩ := hI
    rw [if_neg (show ¬ (8 : Int32) ≤ nI k from nI_ge hk (by decide)), runoffAt_e hi h, ob1_eq, atE_nI hk]
    exact hself _ _ ⟨rfl, nI_1 k⟩
  · intro a b hI self
    obtain ⟨rfl, rfl⟩ := hI
    exact if_pos (nI_le (Nat.le_refl 8) (by decide))
theorem partAll_e {I : Nat → Int32} {A : Nat → Nat → Int32} {F : Nat → Int64} {L : Nat → Nat → Int64} {i : Nat} {d : UD} (hi : i < 4) (h : MUn A i d) : X6_partAll I A F L (nI i) = some (sumE d.2.2 8) := by
  unfold X6_partAll
  simp only [jn1]
  refine wh2_for (P := fun o => o = some (sumE d.2.2 8)) 8 (fun i a b => a = sumE d.2.2 i ∧ b = nI i) ?_ ?_ 200 0 _ _ (by omega) (by omega) ⟨rfl, rfl⟩
  · intro k a b hk hI self hself
    obtain ⟨rfl, rfl⟩ := hI
    rw [if_neg (show ¬ (8 : Int32) ≤ nI k from nI_ge hk (by decide)), partAt_e hi h, ob1_eq, atE_nI hk]
    exact hself _ _ ⟨rfl, nI_1 k⟩
  · intro a b hI self
    obtain ⟨rfl, rfl⟩ := hI
    exact if_pos (nI_le (Nat.le_refl 8) (by decide))
theorem madeAt_e {I : Nat → Int32} {A : Nat → Nat → Int32} {F : Nat → Int64} {L : Nat → Nat → Int64} {i u : Nat} {d : SD} {e : UD} (hi : i < 3) (h : MSt A i d) (hw : StW d) (hu : u < 4) (hu2 : MUn A u e) (t : Int32) : X6_madeAt I A F L (nI u) (nI i) t = some (mkE d.2.1 e.2.2 t) := by
  unfold X6_madeAt
  simp only [jn1]
  refine wh2_for (P := fun o => o = some (mkE d.2.1 e.2.2 t)) 3 (fun i a b => a = sumE (fun i => d.2.1 i * atE e.2.2 (t - nI i)) i ∧ b = nI i) ?_ ?_ 200 0 _ _ (by omega) (by omega) ⟨rfl, rfl⟩
  · intro k a b hk hI self hself
    obtain ⟨rfl, rfl⟩ := hI
    rw [if_neg (show ¬ (3 : Int32) ≤ nI k from nI_ge hk (by decide)), rainAt_e hi h hw, ob1_eq, partAt_e hu hu2, ob1_eq, atE_nI (by omega)]
    exact hself _ _ ⟨rfl, nI_1 k⟩
  · intro a b hI self
    obtain ⟨rfl, rfl⟩ := hI
    exact if_pos (nI_le (Nat.le_refl 3) (by decide))
theorem missedNow_e {I : Nat → Int32} {A : Nat → Nat → Int32} {F : Nat → Int64} {L : Nat → Nat → Int64} {i u : Nat} {d : SD} {e : UD} (hi : i < 3) (h : MSt A i d) (hw : StW d) (hu : u < 4) (hu2 : MUn A u e) : X6_missedNow I A F L (nI u) (nI i) = some (msE d.2.1 e.2.2 d.2.2.2) := by
  unfold X6_missedNow
  simp only [jn1]
  refine wh2_for (P := fun o => o = some (msE d.2.1 e.2.2 d.2.2.2)) 21 (fun i a b => a = sumE (fun i => (mkE d.2.1 e.2.2 (nI i) - atE d.2.2.2 (nI i)) * (mkE d.2.1 e.2.2 (nI i) - atE d.2.2.2 (nI i))) i ∧ b = nI i) ?_ ?_ 200 0 _ _ (by omega) (by omega) ⟨rfl, rfl⟩
  · intro k a b hk hI self hself
    obtain ⟨rfl, rfl⟩ := hI
    rw [if_neg (show ¬ (20 : Int32) < nI k from nI_nlt (a := 20) (b := k) (by omega) (by decide)), madeAt_e hi h hw hu hu2, ob1_eq, runoffAt_e hi h, ob1_eq]
    exact hself _ _ ⟨rfl, nI_1 k⟩
  · intro a b hI self
    obtain ⟨rfl, rfl⟩ := hI
    exact if_pos (nI_lt (a := 20) (b := 21) (by omega) (by decide))
theorem rainAll_e {I : Nat → Int32} {A : Nat → Nat → Int32} {F : Nat → Int64} {L : Nat → Nat → Int64} {i : Nat} {d : SD} (hi : i < 3) (h : MSt A i d) (hw : StW d) : X6_rainAll I A F L (nI i) = some (sumE d.2.1 8) := by
  unfold X6_rainAll
  rw [rainAt_e hi h hw, ob1_eq, rainAt_e hi h hw, ob1_eq, rainAt_e hi h hw, ob1_eq]
  have z := hw.1.2.2.1
  have h3 := hw.1.2.1
  have e : sumE d.2.1 8 = ((((((((0 + d.2.1 0) + d.2.1 1) + d.2.1 2) + d.2.1 3) + d.2.1 4) + d.2.1 5) + d.2.1 6) + d.2.1 7) := rfl
  rw [e, z 3 (by omega), z 4 (by omega), z 5 (by omega), z 6 (by omega), z 7 (by omega)]
  rw [show (0 : Int32) = nI 0 from rfl, show (1 : Int32) = nI 1 from rfl, show (2 : Int32) = nI 2 from rfl, atE_nI (by omega), atE_nI (by omega), atE_nI (by omega), show nI 0 = (0 : Int32) from rfl]
  simp
/-! sums -/
def smE (p : Nat → Int32) (l : Nat) (t : Int32) : Int32 := sumE (fun b => atE p (t - nI b * nI l)) 21
theorem back_t {t : Int32} {b l : Nat} (h1 : -4 ≤ t.toInt) (h2 : t.toInt ≤ 20) (hb : b ≤ 21) (hl : l ≤ 4) : (t - nI b * nI l).toInt = t.toInt - (b * l : Nat) := by
  have hbl : b * l ≤ 21 * 4 := Nat.mul_le_mul hb hl
  rw [pk_mul]
  have e : (nI (b * l)).toInt = ((b * l : Nat) : Int) := nI_toInt (by omega)
  rw [sub_t (by rw [e]; omega) (by rw [e]; omega), e]
theorem X4_summedAt_e {ln n : Int32} {f : Nat → Int32} {d : UD} (h : UnK (ln, n, f) d) (t : Int32) : X4_summedAt ln n f t = some (smE d.2.2 d.1 t) := by
  obtain ⟨h1, h2⟩ := h
  have h1 : ln = nI d.1 := h1
  subst h1
  unfold X4_summedAt
  simp only [jn1]
  refine wh2_for (P := fun o => o = some (smE d.2.2 d.1 t)) 21 (fun i a b => a = sumE (fun b => atE d.2.2 (t - nI b * nI d.1)) i ∧ b = nI i) ?_ ?_ 200 0 _ _ (by omega) (by omega) ⟨rfl, rfl⟩
  · intro k a b hk hI self hself
    obtain ⟨rfl, rfl⟩ := hI
    rw [if_neg (show ¬ (20 : Int32) < nI k from nI_nlt (a := 20) (b := k) (by omega) (by decide)), X2_at_e h2, ob1_eq]
    exact hself _ _ ⟨rfl, nI_1 k⟩
  · intro a b hI self
    obtain ⟨rfl, rfl⟩ := hI
    exact if_pos (nI_lt (a := 20) (b := 21) (by omega) (by decide))
theorem sumE_tail {g : Nat → Int32} {k N : Nat} (hk : k ≤ N) (hz : ∀ b, k ≤ b → b < N → g b = 0) : sumE g N = sumE g k := by
  induction N with
  | zero => have : k = 0 := by omega
            subst this; rfl
  | succ N ih =>
    rcases Nat.lt_or_ge k (N + 1) with h | h
    · show sumE g N + g N = sumE g k
      rw [hz N (by omega) (by omega), ih (by omega) (fun b h1 h2 => hz b h1 (by omega))]
      simp
    · have : k = N + 1 := by omega
      subst this; rfl
theorem sumAt_e {I : Nat → Int32} {A : Nat → Nat → Int32} {F : Nat → Int64} {L : Nat → Nat → Int64} {u : Nat} {d : UD} (hu : u < 4) (h : MUn A u d) (hw : UnW d) (t : Int32) (t1 : -4 ≤ t.toInt) (t2 : t.toInt ≤ 20) : X6_sumAt I A F L (nI u) t = some (smE d.2.2 d.1 t) := by
  unfold X6_sumAt
  simp only [jn1]
  refine wh2_wp (P := fun o => o = some (smE d.2.2 d.1 t)) (fun i a b => ∃ k, k + i = 21 ∧ a = sumE (fun b => atE d.2.2 (t - nI b * nI d.1)) k ∧ b = t - nI k * nI d.1) ?_ 200 21 _ _ (by omega) ⟨0, rfl, rfl, by rw [show nI 0 = (0 : Int32) from rfl]; simp⟩
  intro i a b hI self hself
  obtain ⟨k, hk, rfl, rfl⟩ := hI
  have hl1 := hw.1
  have hl4 := hw.2.1
  have ht := back_t (b := k) (l := d.1) t1 t2 (by omega) hl4
  have e0 : (0 : Int32).toInt = 0 := rfl
  by_cases c : t - nI k * nI d.1 < 0
  · rw [if_pos c]
    have c' := (lt_iff _ _).mp c
    rw [ht, e0] at c'
    refine congrArg some (sumE_tail (k := k) (N := 21) (by omega) ?_).symm
    intro b hb1 hb2
    have hb := back_t (b := b) (l := d.1) t1 t2 (by omega) hl4
    have hm : k * d.1 ≤ b * d.1 := Nat.mul_le_mul_right _ hb1
    show atE d.2.2 (t - nI b * nI d.1) = 0
    unfold atE
    rw [hb, if_neg (by omega)]
  · rw [if_neg c]
    have c' := mt (lt_iff _ _).mpr c
    rw [ht, e0] at c'
    have hk21 : k < 21 := by
      rcases Nat.lt_or_ge k 21 with h | h
      · exact h
      · have : k = 21 := by omega
        subst this
        have : 21 * 1 ≤ 21 * d.1 := Nat.mul_le_mul_left _ hl1
        omega
    rw [partAt_e hu h, ob1_eq, chk_of (inB_nI hu (by decide)), cl_nI (by omega), h.1]
    refine hself (i - 1) _ _ (by omega) ⟨k + 1, by omega, rfl, ?_⟩
    rw [← nI_1]
    rw [Int32.add_mul]
    simp only [Int32.one_mul]
    rw [← Int32.sub_sub]
