section RD3
variable {I : Nat → Int32} {A : Nat → Nat → Int32} {F : Nat → Int64} {L : Nat → Nat → Int64}
theorem rain_step {pl ln ou im n1 n2 : Int32} {f1 f2 : Nat → Int32} (h14 : I 14 = 1) (hK : KRow im n1 f1 (I 17) (A 18) (I 21) (I 22) 3 5 true) (p : Int32) :
    (∃ o o', X1_rainGoesOnWith pl ln ou im n1 f1 n2 f2 p = some (0, o) ∧ X6_takesInRow I A F L p = some (0, o')) ∨ (∃ im' n' f' i17 a18 i21 i22, X1_rainGoesOnWith pl ln ou im n1 f1 n2 f2 p = some (1, pl, im', n', f') ∧ X6_takesInRow I A F L p = some (1, 1, i17, a18, I 19, A 20, i21, i22) ∧ KRow im' n' f' i17 a18 i21 i22 3 5 true) ∨ ∃ i17 a18, X1_rainGoesOnWith pl ln ou im n1 f1 n2 f2 p = some (1, 4, 0, n1, f1) ∧ X6_takesInRow I A F L p = some (1, 4, i17, a18, I 19, A 20, 0, 0) ∧ RainOk n1 f1 i17 a18 := by
  by_cases cd : 48 ≤ p.toInt ∧ p.toInt ≤ 57
  · have e := d48 cd
    unfold X1_rainGoesOnWith
    rw [if_neg (fun z => by have := congrArg Int32.toInt z; rw [l58] at this; omega), jn0_u, goOn_row]
    obtain ⟨c1, c2⟩ := figRow_e (pl := pl) (ln := ln) (ou := ou) (n1 := n2) (f1 := f2) hK (show 3 ≤ 8 by omega) (by decide) (d := p - 48) (t := 5) (by omega) rfl
    obtain ⟨m1, m2⟩ := figM_e (A := A) (F := F) (L := L) (top := 5) (d := p - 48) (krow_num hK (by decide)) (by omega) (Or.inl ⟨h14, rfl⟩)
    have hmod : ∀ o : Int32 × Int32 × Int32, X6_takesFigure I A F L (p - 48) = some o → isB o.1 = true → X6_takesInRow I A F L p = some (o.1, I 14, I 17, A 18, I 19, A 20, o.2.1, o.2.2) := by
      intro o ho hb
      unfold X6_takesInRow
      rw [within_e, ob1_eq, ite10, l48, l57, if_pos cd, ho]
      obtain ⟨o1, o2, o3⟩ := o
      rw [ob3_eq, chk_of hb]
    have hcls : ∀ o : Int32 × Int32 × Int32 × (Nat → Int32), X1_takesFigure_row pl ln ou im n2 f2 n1 f1 (p - 48) 5 = some o → isB o.1 = true → X1_numbersGoOnWith_row pl ln ou im n2 f2 n1 f1 p 3 5 = some o := by
      intro o ho hb
      unfold X1_numbersGoOnWith_row
      rw [if_neg (fun z => by have := congrArg Int32.toInt z; rw [l44] at this; omega), if_neg (fun z => by have := (lt_iff _ _).mp z; rw [l48] at this; omega), if_pos ((le_iff _ _).mpr (by rw [l57]; omega)), ho]
      obtain ⟨o1, o2, o3, o4⟩ := o
      rw [ob4_eq, chk_of hb]
    obtain ⟨k, hk, hcnt, hj, hz0, hc⟩ := id hK
    simp only [X2_size, ob1_eq]
    by_cases cz : p = 48 ∧ n1 = 0
    · rw [if_pos cz.1, if_pos cz.2]
      have him : I 21 = 0 ∧ k = 0 := by
        rcases hc with ⟨-, hn, hf, -⟩ | ⟨-, hn, -⟩
        · refine ⟨hf, nI_inj (by omega) (by omega) (hn.symm.trans cz.2)⟩
        · have := nI_inj (a := k + 1) (b := 0) (by omega) (by omega) (hn.symm.trans cz.2)
          omega
      have hp : (p - 48).toInt = 0 := by rw [cz.1]; rfl
      obtain ⟨o', m3⟩ := m2 (fun z => by
        have := z.2 h14 (by rw [hcnt, him.2]; rfl) him.1
        omega)
      exact Or.inl ⟨_, _, rfl, hmod _ m3 rfl⟩
    · have hfin : (if p = 48 then (if n1 = 0 then some (0, pl, im, n1, f1) else (ob4 (X1_numbersGoOnWith_row pl ln ou im n2 f2 n1 f1 p 3 5) fun r53 oim_53 on1_53 of1_53 => chk (isB r53) (some (r53, pl, oim_53, on1_53, of1_53)))) else (ob4 (X1_numbersGoOnWith_row pl ln ou im n2 f2 n1 f1 p 3 5) fun r53 oim_53 on1_53 of1_53 => chk (isB r53) (some (r53, pl, oim_53, on1_53, of1_53)))) = (ob4 (X1_numbersGoOnWith_row pl ln ou im n2 f2 n1 f1 p 3 5) fun r53 oim_53 on1_53 of1_53 => chk (isB r53) (some (r53, pl, oim_53, on1_53, of1_53))) := by
        by_cases c : p = 48
        · rw [if_pos c, if_neg (fun z => cz ⟨c, z⟩)]
        · rw [if_neg c]
      rw [hfin]
      have hz : I 14 = 1 → I 17 = 0 → I 21 = 0 → 0 < (p - 48).toInt := by
        intro _ h17 h21
        have hk0 : k = 0 := nI_inj (by omega) (by omega) (hcnt.symm.trans h17)
        rcases hc with ⟨-, hn, -, -⟩ | ⟨-, -, hf, -⟩
        · have : ¬ p = 48 := fun z => cz ⟨z, by rw [hn, hk0]; rfl⟩
          have : p.toInt ≠ 48 := fun z => this ((eq_iff _ _).mpr (by rw [z, l48]))
          omega
        · rcases hf with hf | ⟨hf, -⟩ <;> rw [hf] at h21 <;> exact absurd h21 (by decide)
      by_cases ha : Acc (I 22) (p - 48) 5 (I 21)
      · obtain ⟨k1, hkl, hk1, c3⟩ := c1 ha
        obtain ⟨k', hk', hlt, hK'⟩ := krow_add hK (show 3 ≤ 8 by omega) (by decide) (d := p - 48) (by omega) ha (fun _ => hz h14)
        have hkk : k1 = k' := nI_inj (by omega) (by omega) (hk1.symm.trans hk')
        subst hkk
        rw [hcls _ c3 rfl, hmod _ (m1 ha hz) rfl, ob4_eq, h14]
        exact Or.inr (Or.inl ⟨1, nI (k1 + 1), upd f1 k1 (I 22 * 10 + (p - 48)), I 17, A 18, I 21 + 1, I 22 * 10 + (p - 48), rfl, rfl, hK'⟩)
      · obtain ⟨o, c3⟩ := c2 ha
        obtain ⟨o', m3⟩ := m2 (fun z => ha z.1)
        rw [hcls _ c3 rfl, hmod _ m3 rfl]
        exact Or.inl ⟨_, _, rfl, rfl⟩
  · obtain ⟨k, hk, hcnt, hj, hz0, hc⟩ := id hK
    have h48 : ¬ p = 48 := fun z => cd (by rw [z, l48]; omega)
    by_cases c58 : p = 58
    · subst c58
      rcases hc with ⟨him, hn, hf, hnum⟩ | ⟨rfl, hn, hf, hfk, h1, h2, h3⟩
      · obtain ⟨o', h2⟩ := inRow_bad (A := A) (F := F) (L := L) cd (Or.inl hf)
        refine Or.inl ⟨(pl, im, n1, f1), o', ?_, h2⟩
        unfold X1_rainGoesOnWith
        rw [if_pos rfl, if_pos him]
      · rw [hcnt] at hK
        obtain ⟨g1, g2, g3, g4⟩ := krow_next hK (show 3 ≤ 8 by omega) hk
        refine Or.inr (Or.inr ⟨nI (k + 1), upd (A 18) k (I 22), ?_, inRow_colon h14 g2 hcnt hk, k + 1, by omega, by omega, g1, rfl, g3, g4 rfl⟩)
        unfold X1_rainGoesOnWith X1_takesColon
        rw [if_pos rfl, if_neg (by decide), if_pos rfl, ob3_eq, if_neg (by decide)]
    · have hcl : ∀ o : Int32 × Int32 × Int32 × (Nat → Int32), X1_numbersGoOnWith_row pl ln ou im n2 f2 n1 f1 p 3 5 = some o → isB o.1 = true → X1_rainGoesOnWith pl ln ou im n1 f1 n2 f2 p = some (o.1, pl, o.2.1, o.2.2.1, o.2.2.2) := by
        intro o ho hb
        unfold X1_rainGoesOnWith
        rw [if_neg c58, jn0_u, if_neg h48, goOn_row, ho]
        obtain ⟨o1, o2, o3, o4⟩ := o
        rw [ob4_eq, chk_of hb]
      by_cases c44 : p = 44
      · subst c44
        rcases hc with ⟨him, hn, hf, hnum⟩ | ⟨rfl, hn, hf, hfk, h1, h2, h3⟩
        · obtain ⟨o, h1⟩ := goOn_bad (pl := pl) (ln := ln) (ou := ou) (n1 := n2) (n2 := n1) (f1 := f2) (f2 := f1) (b := 3) (t := 5) cd (Or.inr (Or.inl him))
          obtain ⟨o', h2⟩ := inRow_bad (A := A) (F := F) (L := L) cd (Or.inl hf)
          exact Or.inl ⟨_, o', hcl _ h1 rfl, h2⟩
        · by_cases c8 : k + 1 < 3
          · rw [hcnt] at hK
            obtain ⟨g1, g2, g3, g4⟩ := krow_next hK (show 3 ≤ 8 by omega) hk
            refine Or.inr (Or.inl ⟨0, n1, f1, nI (k + 1), upd (A 18) k (I 22), 0, 0, hcl _ (goOn_comma ?_) rfl, inRow_comma1 h14 g2 hcnt hk ?_, k + 1, c8, rfl, g3, fun z _ => g4 z, Or.inl ⟨rfl, g1, rfl, rfl⟩⟩)
            · rw [hn]; exact nI_ge c8 (by decide)
            · rw [hcnt, nI_1]; exact nI_ge c8 (by decide)
          · have hf0 : (3 : Int32) ≤ nI (k + 1) := nI_le (a := 3) (by omega) (by omega)
            obtain ⟨o, h1⟩ := goOn_bad (pl := pl) (ln := ln) (ou := ou) (im := 1) (n1 := n2) (n2 := n1) (f1 := f2) (f2 := f1) (b := 3) (t := 5) cd (Or.inr (Or.inr (by rw [hn]; exact hf0)))
            obtain ⟨o', h2⟩ := inRow_bad (A := A) (F := F) (L := L) cd (Or.inr (Or.inr (Or.inl ⟨rfl, h14, by rw [hcnt, nI_1]; exact hf0⟩)))
            exact Or.inl ⟨_, o', hcl _ h1 rfl, h2⟩
      · obtain ⟨o, h1⟩ := goOn_bad (pl := pl) (ln := ln) (ou := ou) (im := im) (n1 := n2) (n2 := n1) (f1 := f2) (f2 := f1) (b := 3) (t := 5) cd (Or.inl c44)
        obtain ⟨o', h2⟩ := inRow_bad (A := A) (F := F) (L := L) cd (Or.inr (Or.inl ⟨c44, fun z => c58 z.1⟩))
        exact Or.inl ⟨_, o', hcl _ h1 rfl, h2⟩
theorem l114 : ¬ (114 : Int32) = 117 := by decide
theorem step_e {pl ln ou im n1 n2 : Int32} {f1 f2 : Nat → Int32} (h : KRd pl ln ou im n1 f1 n2 f2 (I 14) (I 15) (I 16) (I 17) (A 18) (I 19) (A 20) (I 21) (I 22)) (p : Int32) :
    (∃ o o', X1_goesOnWith pl ln ou im n1 f1 n2 f2 p = some (0, o) ∧ X6_takes I A F L p = some (0, o')) ∨ ∃ pl' ln' ou' im' n1' f1' n2' f2' i14 i15 i16 i17 a18 i19 a20 i21 i22, X1_goesOnWith pl ln ou im n1 f1 n2 f2 p = some (1, pl', ln', ou', im', n1', f1', n2', f2') ∧ X6_takes I A F L p = some (1, i14, i15, i16, i17, a18, i19, a20, i21, i22) ∧ KRd pl' ln' ou' im' n1' f1' n2' f2' i14 i15 i16 i17 a18 i19 a20 i21 i22 := by
  have b1 : isB 1 = true := rfl
  have b0 : isB 0 = true := rfl
  have n10 : ¬ (1 : Int32) = 0 := by decide
  unfold X1_goesOnWith X6_takes
  rcases h with ⟨rfl, h14, rfl, rfl, rfl, h21, h22⟩ | ⟨rfl, h14, rfl, h15, rfl, h19, hK⟩ | ⟨rfl, h14, rfl, h15, rfl, rfl, h19, h21, h22⟩ | ⟨rfl, h14, rfl, h15, hl, rfl, rfl, h19, h21, h22⟩ | ⟨rfl, h14, hside, hK⟩
  · rw [if_pos rfl, if_pos h14]
    unfold X1_startsWith X6_begins X6_goesTo
    simp only [jn1, jn0, ob4_eq, if_neg n10, if_true]
    by_cases c1 : p = 117
    · subst c1
      refine Or.inr ⟨2, ln, 1, 0, 0, f1, 0, f2, 2, 1, I 16, 0, A 18, 0, A 20, 0, 0, ?_, ?_, ?_⟩
      · rfl
      · rfl
      · exact Or.inr (Or.inr (Or.inl ⟨rfl, rfl, rfl, rfl, rfl, rfl, rfl, rfl, rfl⟩))
    · by_cases c2 : p = 114
      · subst c2
        refine Or.inr ⟨1, ln, 0, 0, 0, f1, 0, f2, 1, 0, I 16, 0, A 18, 0, A 20, 0, 0, ?_, ?_, ?_⟩
        · rfl
        · rfl
        · exact Or.inr (Or.inl ⟨rfl, rfl, rfl, rfl, rfl, rfl, 0, by omega, rfl, fun j hj => by omega, fun _ z => by omega, Or.inl ⟨rfl, rfl, rfl, rfl⟩⟩)
      · simp only [if_neg c1, if_neg c2, if_true, chk_of b0, ob3_eq, ob7_eq]
        exact Or.inl ⟨_, _, rfl, rfl⟩
  · rw [if_neg (by decide), if_pos rfl, if_neg (by rw [h14]; decide), if_neg (by rw [h14]; decide), if_neg (by rw [h14]; decide)]
    rcases rain_step (F := F) (L := L) (pl := 1) (ln := ln) (ou := 0) (n2 := 0) (f2 := f2) h14 hK p with ⟨o, o', h1, h2⟩ | ⟨im', n', f', i17, a18, i21, i22, h1, h2, h3⟩ | ⟨i17, a18, h1, h2, h3⟩
    · rw [h1, h2]
      exact Or.inl ⟨_, _, rfl, rfl⟩
    · rw [h1, h2, ob5_eq, ob8_eq, chk_of b1, chk_of b1]
      exact Or.inr ⟨_, _, _, _, _, _, _, _, _, _, _, _, _, _, _, _, _, rfl, rfl, Or.inr (Or.inl ⟨rfl, rfl, rfl, h15, rfl, h19, h3⟩)⟩
    · rw [h1, h2, ob5_eq, ob8_eq, chk_of b1, chk_of b1]
      exact Or.inr ⟨_, _, _, _, _, _, _, _, _, _, _, _, _, _, _, _, _, rfl, rfl, Or.inr (Or.inr (Or.inr (Or.inr ⟨rfl, rfl, Or.inl ⟨rfl, h15, h3⟩, 0, by omega, h19, fun j hj => by omega, fun z => absurd z (by decide), Or.inl ⟨rfl, rfl, rfl, rfl⟩⟩)))⟩
  · rw [if_neg (by decide), if_neg (by decide), if_pos rfl, if_neg (by rw [h14]; decide), if_pos h14]
    unfold X1_takesLength X6_goesTo
    rw [isLength_e, within_e, ob1_eq, ob1_eq, ite10, l1, l4]
    by_cases c : 1 ≤ (p - 48).toInt ∧ (p - 48).toInt ≤ 4
    · rw [if_pos c, if_pos c, chk_of b1, ob3_eq, chk_of b1, ob4_eq, if_neg n10]
      exact Or.inr ⟨_, _, _, _, _, _, _, _, _, _, _, _, _, _, _, _, _, rfl, rfl, Or.inr (Or.inr (Or.inr (Or.inl ⟨rfl, rfl, rfl, h15, ⟨rfl, c.1, c.2⟩, rfl, rfl, h19, rfl, rfl⟩)))⟩
    · rw [if_neg c, if_neg c, chk_of b0, ob3_eq, chk_of b0]
      exact Or.inl ⟨_, _, rfl, rfl⟩
  · rw [if_neg (by decide), if_neg (by decide), if_neg (by decide), if_pos rfl, if_neg (by rw [h14]; decide), if_neg (by rw [h14]; decide), if_pos h14]
    unfold X1_takesColon X6_goesTo
    by_cases c : p = 58
    · rw [if_pos c, if_pos c, ob3_eq, chk_of b1, ob4_eq, if_neg n10]
      exact Or.inr ⟨_, _, _, _, _, _, _, _, _, _, _, _, _, _, _, _, _, rfl, rfl, Or.inr (Or.inr (Or.inr (Or.inr ⟨rfl, rfl, Or.inr ⟨rfl, h15, hl⟩, 0, by omega, h19, fun j hj => by omega, fun z => absurd z (by decide), Or.inl ⟨rfl, rfl, rfl, rfl⟩⟩)))⟩
    · rw [if_neg c, if_neg c, ob3_eq, chk_of b0]
      exact Or.inl ⟨_, _, rfl, rfl⟩
  · rw [if_neg (by decide), if_neg (by decide), if_neg (by decide), if_neg (by decide), if_neg (by rw [h14]; decide), if_neg (by rw [h14]; decide), if_neg (by rw [h14]; decide)]
    rcases row_step (F := F) (L := L) (pl := 4) (ln := ln) (ou := ou) (n1 := n1) (f1 := f1) h14 hK p with ⟨o, o', h1, h2⟩ | ⟨im', n', f', i19, a20, i21, i22, h1, h2, h3⟩
    · rw [h1, h2]
      exact Or.inl ⟨_, _, rfl, rfl⟩
    · rw [h1, h2, ob4_eq, ob8_eq, chk_of b1, chk_of b1]
      exact Or.inr ⟨_, _, _, _, _, _, _, _, _, _, _, _, _, _, _, _, _, rfl, rfl, Or.inr (Or.inr (Or.inr (Or.inr ⟨rfl, rfl, hside, h3⟩)))⟩
end RD3
