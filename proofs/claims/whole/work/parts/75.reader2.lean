theorem nI_inj {a b : Nat} (ha : a < 2 ^ 31) (hb : b < 2 ^ 31) (h : nI a = nI b) : a = b := by
  have := congrArg Int32.toInt h
  rw [nI_toInt ha, nI_toInt hb] at this
  omega
theorem l44 : (44 : Int32).toInt = 44 := rfl
theorem l58 : (58 : Int32).toInt = 58 := rfl
theorem d48 {p : Int32} (h : 48 ≤ p.toInt ∧ p.toInt ≤ 57) : (p - 48).toInt = p.toInt - 48 := by
  rw [sub_t (by rw [l48]; omega) (by rw [l48]; omega), l48]
theorem krow_num {im n fig num cnt : Int32} {f av : Nat → Int32} {mx : Nat} {top : Int} {z : Bool} (h : KRow im n f cnt av fig num mx top z) (htop : top ≤ 99) : 0 ≤ num.toInt ∧ num.toInt ≤ 99 := by
  obtain ⟨k, hk, rfl, hj, hz0, hc⟩ := h
  rcases hc with ⟨-, -, -, rfl⟩ | ⟨-, -, -, -, h1, h2, -⟩
  · rw [l0]; omega
  · omega
/-- the numbers after a comma or a colon -/
theorem krow_next {n fig num : Int32} {f av : Nat → Int32} {k mx : Nat} {top : Int} {z : Bool} (h : KRow 1 n f (nI k) av fig num mx top z) (hmx : mx ≤ 8) (hk : k < mx) : n = nI (k + 1) ∧ fig ≠ 0 ∧ (∀ j, j < k + 1 → f j = upd av k num j ∧ 0 ≤ (upd av k num j).toInt ∧ (upd av k num j).toInt ≤ top) ∧ (z = true → 0 < (upd av k num 0).toInt) := by
  obtain ⟨k', hk', hkk, hj, hz0, hc⟩ := h
  have e : k = k' := by
    have := congrArg Int32.toInt hkk
    rw [nI_toInt (by omega), nI_toInt (by omega)] at this
    omega
  subst e
  rcases hc with ⟨h0, -⟩ | ⟨-, hn, hf, hfk, h1, h2, h3⟩
  · exact absurd h0 (by decide)
  · refine ⟨hn, ?_, fun j hjk => ?_, fun hz => ?_⟩
    · rcases hf with rfl | ⟨rfl, -⟩ <;> decide
    · by_cases c : j = k
      · subst c; rw [pk_us]; exact ⟨hfk, h1, h2⟩
      · rw [pk_un c]; exact hj j (by omega)
    · by_cases c : k = 0
      · subst c; rw [pk_us]; exact h3 hz rfl
      · rw [pk_un (fun z => c z.symm)]; exact hz0 hz (by omega)
section RD
variable {I : Nat → Int32} {A : Nat → Nat → Int32} {F : Nat → Int64} {L : Nat → Nat → Int64}
theorem goOn_bad {pl ln ou im n1 n2 : Int32} {f1 f2 : Nat → Int32} {p b t : Int32} (hd : ¬ (48 ≤ p.toInt ∧ p.toInt ≤ 57)) (h : p ≠ 44 ∨ im = 0 ∨ b ≤ n2) : ∃ o, X1_numbersGoOnWith_row pl ln ou im n1 f1 n2 f2 p b t = some (0, o) := by
  unfold X1_numbersGoOnWith_row
  by_cases c : p = 44
  · rw [if_pos c, jn1_u]
    by_cases c0 : im = 0
    · rw [if_pos c0]; exact ⟨_, rfl⟩
    · have hb : b ≤ n2 := by
        rcases h with h | h | h
        · exact absurd c h
        · exact absurd h c0
        · exact h
      rw [if_neg c0]
      simp only [X2_size]
      rw [ob1_eq, if_pos hb]
      exact ⟨_, rfl⟩
  · rw [if_neg c]
    by_cases c1 : p < 48
    · rw [if_pos c1]; exact ⟨_, rfl⟩
    · have := mt (lt_iff _ _).mpr c1
      rw [l48] at this
      rw [if_neg c1, if_neg (fun z => by have := (le_iff _ _).mp z; rw [l57] at this; omega)]
      exact ⟨_, rfl⟩
theorem goOn_comma {pl ln ou n1 n2 : Int32} {f1 f2 : Nat → Int32} {b t : Int32} (h : ¬ b ≤ n2) : X1_numbersGoOnWith_row pl ln ou 1 n1 f1 n2 f2 44 b t = some (1, 0, n2, f2) := by
  unfold X1_numbersGoOnWith_row
  rw [if_pos rfl, jn1_u, if_neg (by decide)]
  simp only [X2_size]
  rw [ob1_eq, if_neg h]
  rfl
theorem inRow_bad {p : Int32} (hd : ¬ (48 ≤ p.toInt ∧ p.toInt ≤ 57)) (h : I 21 = 0 ∨ (p ≠ 44 ∧ ¬ (p = 58 ∧ I 14 = 1)) ∨ (p = 44 ∧ I 14 = 1 ∧ 3 ≤ I 17 + 1) ∨ (p = 44 ∧ ¬ I 14 = 1 ∧ 8 ≤ I 19 + 1)) : ∃ o, X6_takesInRow I A F L p = some (0, o) := by
  unfold X6_takesInRow
  rw [within_e, ob1_eq, ite10, l48, l57, if_neg hd]
  simp only [jn1, jn2, jn0]
  have n45 : ¬ (44 : Int32) = 58 := by decide
  rcases h with h | ⟨h1, h2⟩ | ⟨rfl, h1, h2⟩ | ⟨rfl, h1, h2⟩
  · by_cases c14 : I 14 = 1 <;> by_cases c44 : p = 44 <;> by_cases c58 : p = 58 <;> simp only [h, c14, c44, c58, if_true, if_false] <;> first | exact ⟨_, rfl⟩ | (repeat' split) <;> exact ⟨_, rfl⟩
  · by_cases c21 : I 21 = 0 <;> by_cases c14 : I 14 = 1
    · have c58 : ¬ p = 58 := fun z => h2 ⟨z, c14⟩
      simp only [c14, c21, if_neg h1, if_neg c58, if_true]; exact ⟨_, rfl⟩
    · simp only [c14, c21, if_neg h1, if_true, if_false]; split <;> exact ⟨_, rfl⟩
    · have c58 : ¬ p = 58 := fun z => h2 ⟨z, c14⟩
      simp only [c14, c21, if_neg h1, if_neg c58, if_true, if_false]; exact ⟨_, rfl⟩
    · simp only [c14, c21, if_neg h1, if_true, if_false]; split <;> exact ⟨_, rfl⟩
  · simp only [h1, if_pos h2, if_neg n45, if_true]; split <;> exact ⟨_, rfl⟩
  · simp only [h1, if_pos h2, if_neg n45, if_true, if_false]; split <;> exact ⟨_, rfl⟩
theorem nd44 : ¬ (48 ≤ (44 : Int32).toInt ∧ (44 : Int32).toInt ≤ 57) := by decide
theorem nd58 : ¬ (48 ≤ (58 : Int32).toInt ∧ (58 : Int32).toInt ≤ 57) := by decide
theorem inRow_comma4 {k : Nat} (h14 : I 14 = 4) (h21 : ¬ I 21 = 0) (h19 : I 19 = nI k) (hk : k < 8) (hr : ¬ 8 ≤ I 19 + 1) : X6_takesInRow I A F L 44 = some (1, 4, I 17, A 18, nI (k + 1), upd (A 20) k (I 22), 0, 0) := by
  have n41 : ¬ (4 : Int32) = 1 := by decide
  have n45 : ¬ (44 : Int32) = 58 := by decide
  have n10 : ¬ (1 : Int32) = 0 := by decide
  unfold X6_takesInRow
  rw [within_e, ob1_eq, ite10, l48, l57, if_neg nd44]
  simp only [jn1, jn2, jn0, h14, if_neg n41, if_neg hr, if_neg n45, if_neg h21, if_neg n10, if_true, X6_keepNumber, X6_goesTo]
  rw [h19, chk_of (inB_nI hk (by decide)), ob4_eq, ob4_eq, cl_nI (by omega), nI_1]
  rfl
theorem inRow_comma1 {k : Nat} (h14 : I 14 = 1) (h21 : ¬ I 21 = 0) (h17 : I 17 = nI k) (hk : k < 3) (hr : ¬ 3 ≤ I 17 + 1) : X6_takesInRow I A F L 44 = some (1, 1, nI (k + 1), upd (A 18) k (I 22), I 19, A 20, 0, 0) := by
  have n45 : ¬ (44 : Int32) = 58 := by decide
  have n10 : ¬ (1 : Int32) = 0 := by decide
  unfold X6_takesInRow
  rw [within_e, ob1_eq, ite10, l48, l57, if_neg nd44]
  simp only [jn1, jn2, jn0, h14, if_neg hr, if_neg n45, if_neg h21, if_neg n10, if_true, X6_keepNumber, X6_goesTo]
  rw [h17, chk_of (inB_nI hk (by decide)), ob4_eq, ob4_eq, cl_nI (by omega), nI_1]
  rfl
theorem inRow_colon {k : Nat} (h14 : I 14 = 1) (h21 : ¬ I 21 = 0) (h17 : I 17 = nI k) (hk : k < 3) : X6_takesInRow I A F L 58 = some (1, 4, nI (k + 1), upd (A 18) k (I 22), I 19, A 20, 0, 0) := by
  have n45 : ¬ (58 : Int32) = 44 := by decide
  have n10 : ¬ (1 : Int32) = 0 := by decide
  unfold X6_takesInRow
  rw [within_e, ob1_eq, ite10, l48, l57, if_neg nd58]
  simp only [jn1, jn2, jn0, h14, if_neg n45, if_neg h21, if_neg n10, if_true, X6_keepNumber, X6_goesTo]
  rw [h17, chk_of (inB_nI hk (by decide)), ob4_eq, ob4_eq, cl_nI (by omega), nI_1]
  rfl
theorem row_step {pl ln ou im n1 n2 : Int32} {f1 f2 : Nat → Int32} (h14 : I 14 = 4) (hK : KRow im n2 f2 (I 19) (A 20) (I 21) (I 22) 8 99 false) (p : Int32) :
    (∃ o o', X1_numbersGoOnWith_row pl ln ou im n1 f1 n2 f2 p 8 99 = some (0, o) ∧ X6_takesInRow I A F L p = some (0, o')) ∨ ∃ im' n' f' i19 a20 i21 i22, X1_numbersGoOnWith_row pl ln ou im n1 f1 n2 f2 p 8 99 = some (1, im', n', f') ∧ X6_takesInRow I A F L p = some (1, 4, I 17, A 18, i19, a20, i21, i22) ∧ KRow im' n' f' i19 a20 i21 i22 8 99 false := by
  have n41 : ¬ (4 : Int32) = 1 := by decide
  have h14' : ¬ I 14 = 1 := by rw [h14]; exact n41
  by_cases cd : 48 ≤ p.toInt ∧ p.toInt ≤ 57
  · have e := d48 cd
    unfold X1_numbersGoOnWith_row X6_takesInRow
    rw [within_e, ob1_eq, ite10, l48, l57, if_pos cd, if_neg (fun z => by have := congrArg Int32.toInt z; rw [l44] at this; omega), if_neg (fun z => by have := (lt_iff _ _).mp z; rw [l48] at this; omega), if_pos ((le_iff _ _).mpr (by rw [l57]; omega))]
    obtain ⟨c1, c2⟩ := figRow_e (pl := pl) (ln := ln) (ou := ou) (n1 := n1) (f1 := f1) hK (Nat.le_refl 8) (by decide) (d := p - 48) (t := 99) (by omega) rfl
    obtain ⟨m1, m2⟩ := figM_e (A := A) (F := F) (L := L) (top := 99) (d := p - 48) (krow_num hK (by decide)) (by omega) (Or.inr ⟨h14', rfl⟩)
    by_cases ha : Acc (I 22) (p - 48) 99 (I 21)
    · obtain ⟨k, hkl, hk, c3⟩ := c1 ha
      obtain ⟨k', hk', hlt, hK'⟩ := krow_add hK (Nat.le_refl 8) (by decide) (d := p - 48) (by omega) ha (fun z => absurd z (by decide))
      have m3 := m1 ha (fun z => absurd z h14')
      have hkk : k = k' := nI_inj (by omega) (by omega) (hk.symm.trans hk')
      subst hkk
      rw [c3, m3, ob4_eq, ob3_eq, h14]
      exact Or.inr ⟨1, nI (k + 1), upd f2 k (I 22 * 10 + (p - 48)), I 19, A 20, I 21 + 1, I 22 * 10 + (p - 48), rfl, rfl, hK'⟩
    · obtain ⟨o, c3⟩ := c2 ha
      obtain ⟨o', m3⟩ := m2 (fun z => ha z.1)
      rw [c3, m3]
      exact Or.inl ⟨_, _, rfl, rfl⟩
  · obtain ⟨k, hk, hcnt, hj, hz0, hc⟩ := id hK
    by_cases c44 : p = 44
    · subst c44
      rcases hc with ⟨him, hn, hf, hnum⟩ | ⟨rfl, hn, hf, hfk, h1, h2, h3⟩
      · obtain ⟨o, h1⟩ := goOn_bad (pl := pl) (ln := ln) (ou := ou) (n1 := n1) (n2 := n2) (f1 := f1) (f2 := f2) (b := 8) (t := 99) cd (Or.inr (Or.inl him))
        obtain ⟨o', h2⟩ := inRow_bad (A := A) (F := F) (L := L) cd (Or.inl hf)
        exact Or.inl ⟨o, o', h1, h2⟩
      · by_cases c8 : k + 1 < 8
        · rw [hcnt] at hK
          obtain ⟨g1, g2, g3, g4⟩ := krow_next hK (Nat.le_refl 8) hk
          refine Or.inr ⟨0, n2, f2, nI (k + 1), upd (A 20) k (I 22), 0, 0, goOn_comma ?_, inRow_comma4 h14 g2 hcnt hk ?_, k + 1, c8, rfl, g3, fun z => absurd z (by decide), Or.inl ⟨rfl, g1, rfl, rfl⟩⟩
          · rw [hn]; exact nI_ge c8 (by decide)
          · rw [hcnt, nI_1]; exact nI_ge c8 (by decide)
        · have hf0 : (8 : Int32) ≤ nI (k + 1) := nI_le (a := 8) (by omega) (by omega)
          obtain ⟨o, h1⟩ := goOn_bad (pl := pl) (ln := ln) (ou := ou) (im := 1) (n1 := n1) (n2 := n2) (f1 := f1) (f2 := f2) (b := 8) (t := 99) cd (Or.inr (Or.inr (by rw [hn]; exact hf0)))
          obtain ⟨o', h2⟩ := inRow_bad (A := A) (F := F) (L := L) cd (Or.inr (Or.inr (Or.inr ⟨rfl, h14', by rw [hcnt, nI_1]; exact hf0⟩)))
          exact Or.inl ⟨o, o', h1, h2⟩
    · obtain ⟨o, h1⟩ := goOn_bad (pl := pl) (ln := ln) (ou := ou) (im := im) (n1 := n1) (n2 := n2) (f1 := f1) (f2 := f2) (b := 8) (t := 99) cd (Or.inl c44)
      obtain ⟨o', h2⟩ := inRow_bad (A := A) (F := F) (L := L) cd (Or.inr (Or.inl ⟨c44, fun z => h14' z.2⟩))
      exact Or.inl ⟨o, o', h1, h2⟩
end RD
