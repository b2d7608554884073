theorem Es_NF {g bb : Nat → Int} : ∀ f, f < 16 → ∀ i, i < (fk f 4).length → Es (Mf g bb f) (fk f 4).length i (fk f 4).length = NF g bb f.testBit ((fk f 4).getD i 0) := by
  intro f hf i hi
  have h4 := fk_len f hf
  have hi4 : i = 0 ∨ i = 1 ∨ i = 2 ∨ i = 3 := by omega
  have : f = 0 ∨ f = 1 ∨ f = 2 ∨ f = 3 ∨ f = 4 ∨ f = 5 ∨ f = 6 ∨ f = 7 ∨ f = 8 ∨ f = 9 ∨ f = 10 ∨ f = 11 ∨ f = 12 ∨ f = 13 ∨ f = 14 ∨ f = 15 := by omega
  rcases this with rfl | rfl | rfl | rfl | rfl | rfl | rfl | rfl | rfl | rfl | rfl | rfl | rfl | rfl | rfl | rfl <;>
    rcases hi4 with rfl | rfl | rfl | rfl <;>
    first
    | exact absurd hi (by decide)
    | (simp [Es, c2, c3, c4, Mf, fk, NF, det4, ent, ds, Nat.testBit, List.range, List.range.loop] <;> grind)
theorem getD_app_lt {l r : List Nat} {i : Nat} (h : i < l.length) : (l ++ r).getD i 0 = l.getD i 0 := by
  simp [List.getD, List.getElem?_append_left h]
theorem getD_app_eq {l : List Nat} {x : Nat} : (l ++ [x]).getD l.length 0 = x := by simp [List.getD]
theorem apart_e (x y : Nat) (hx : x < 4) (hy : y < 4) : X6_apart (nI x) (nI y) = some (nI (ds x y)) := by
  unfold X6_apart
  by_cases c : y ≤ x
  · rw [if_pos (nI_le c (by omega)), pk_sub c]
    congr 2
    unfold ds; split <;> omega
  · rw [if_neg (nI_ge (by omega) (by omega)), pk_sub (by omega)]
    congr 2
    unfold ds; rw [if_pos (by omega)]
theorem fk_le (f k : Nat) : (fk f k).length ≤ k := by
  unfold fk
  have := List.length_filter_le (fun i => f.testBit i) (List.range k)
  rw [List.length_range] at this
  exact this
theorem solve_e {I : Nat → Int32} {A : Nat → Nat → Int32} {F : Nat → Int64} {L : Nat → Nat → Int64} {g bb : Nat → Int} {n f : Nat} (hG : GB g bb) (hg : Vec (L 25) g) (hb : Vec (L 26) bb) (h4 : n ≤ 4) (hf : f < 2 ^ n) : ∃ (sq : Nat → Int64) (fa : Nat → Int32) (ab : Nat → Int64), X6_solve I A F L (nI f) (nI n) = some (sq, fa, Int64.ofInt (DF g bb f.testBit), ab) ∧ ∀ k, k < n → ab k = Int64.ofInt (NF g bb f.testBit k) := by
  have hf16 : f < 16 := Nat.lt_of_lt_of_le hf (pow_le h4)
  have hlen := fk_len f hf16
  have hfn := fk_n n (by omega) f hf16 hf
  have hle := fk_le f n
  rw [hfn] at hle
  unfold X6_solve
  refine jn3_wp (P := fun o => ∃ (sq : Nat → Int64) (fa : Nat → Int32) (ab : Nat → Int64), o = some (sq, fa, Int64.ofInt (DF g bb f.testBit), ab) ∧ ∀ k, k < n → ab k = Int64.ofInt (NF g bb f.testBit k)) (fun x fa ab => x = nI (fk f 4).length ∧ (∀ i, i < (fk f 4).length → fa i = nI ((fk f 4).getD i 0)) ∧ ∀ k, k < n → ab k = 0) ?_ ?_
  · intro x fa ab hx
    obtain ⟨rfl, hfa, hab⟩ := hx
    refine jn1_wp (P := fun o => ∃ (sq : Nat → Int64) (fa : Nat → Int32) (ab : Nat → Int64), o = some (sq, fa, Int64.ofInt (DF g bb f.testBit), ab) ∧ ∀ k, k < n → ab k = Int64.ofInt (NF g bb f.testBit k)) (fun q => ∀ i j, i < (fk f 4).length → j ≤ (fk f 4).length → q (5 * i + j) = Int64.ofInt (Mf g bb f i j)) ?_ ?_
    · intro q hq
      refine jn2_wp (P := fun o => ∃ (sq : Nat → Int64) (fa : Nat → Int32) (ab : Nat → Int64), o = some (sq, fa, Int64.ofInt (DF g bb f.testBit), ab) ∧ ∀ k, k < n → ab k = Int64.ofInt (NF g bb f.testBit k)) (fun q be => be = Int64.ofInt (DF g bb f.testBit) ∧ ∀ i j, i < (fk f 4).length → j ≤ (fk f 4).length → q (5 * i + j) = Int64.ofInt (Es (Mf g bb f) (fk f 4).length i j)) ?_ ?_
      · intro q2 be hq2
        obtain ⟨rfl, hq2⟩ := hq2
        refine wh2_for (P := fun o => ∃ (sq : Nat → Int64) (fa : Nat → Int32) (ab : Nat → Int64), o = some (sq, fa, Int64.ofInt (DF g bb f.testBit), ab) ∧ ∀ k, k < n → ab k = Int64.ofInt (NF g bb f.testBit k)) (fk f 4).length (fun i c b => c = nI i ∧ ∀ k, k < n → b k = if ∃ i', i' < i ∧ (fk f 4).getD i' 0 = k then Int64.ofInt (NF g bb f.testBit k) else 0) ?_ ?_ 200 0 _ _ (by omega) (by omega) ⟨rfl, fun k hk => by rw [if_neg (by intro ⟨i', h, _⟩; omega)]; exact hab k hk⟩
        · intro i c b hi hI self hself
          obtain ⟨rfl, hbk⟩ := hI
          have hfi := fk_at f hf16 i hi
          rw [if_neg (nI_ge hi (by omega)), chk_of (inB_nI (show i < 4 by omega) (by decide)), ix5, chk_of (inB_nI (show 5 * i + (fk f 4).length < 20 by omega) (by decide)), cl_nI (show i < 2 ^ 31 by omega), cl_nI (show 5 * i + (fk f 4).length < 2 ^ 31 by omega), hfa i hi, chk_of (inB_nI hfi.1 (by decide)), cl_nI (show (fk f 4).getD i 0 < 2 ^ 31 by omega), hq2 i _ hi (Nat.le_refl _), Es_NF f hf16 i hi]
          refine hself _ _ ⟨nI_1 i, fun k hk => ?_⟩
          by_cases hki : k = (fk f 4).getD i 0
          · rw [hki, updL_same, if_pos ⟨i, by omega, rfl⟩]
          · rw [updL_ne hki, hbk k hk]
            by_cases c : ∃ i', i' < i ∧ (fk f 4).getD i' 0 = k
            · rw [if_pos c, if_pos (by obtain ⟨i', h, e⟩ := c; exact ⟨i', by omega, e⟩)]
            · rw [if_neg c, if_neg]
              intro ⟨i', h, e⟩
              by_cases h2 : i' = i
              · subst h2; exact hki e.symm
              · exact c ⟨i', by omega, e⟩
        · intro c b hI self
          obtain ⟨rfl, hbk⟩ := hI
          rw [if_pos (nI_le (Nat.le_refl _) (by omega))]
          refine ⟨_, _, b, rfl, fun k hk => ?_⟩
          rw [hbk k hk]
          by_cases c : f.testBit k = true
          · obtain ⟨i, h1, h2, h3⟩ := fk_all f hf16 k (by omega) c
            rw [if_pos ⟨i, h2, h3⟩]
          · rw [if_neg]
            · unfold NF; rw [if_neg c]; rfl
            · intro ⟨i, h1, h2⟩
              have := (fk_at f hf16 i h1).2
              rw [h2] at this
              exact c this
      · intro J hJ
        refine wh3_for (P := fun o => ∃ (sq : Nat → Int64) (fa : Nat → Int32) (ab : Nat → Int64), o = some (sq, fa, Int64.ofInt (DF g bb f.testBit), ab) ∧ ∀ k, k < n → ab k = Int64.ofInt (NF g bb f.testBit k)) (fk f 4).length (fun s c (q' : Nat → Int64) be => c = nI s ∧ be = Int64.ofInt (ps (Mf g bb f) s) ∧ ∀ i j, i < (fk f 4).length → j ≤ (fk f 4).length → q' (5 * i + j) = Int64.ofInt (Es (Mf g bb f) s i j)) ?_ ?_ 200 0 _ _ _ (by omega) (by omega) ⟨rfl, rfl, hq⟩
        · intro s c q' be hs hI self hself
          obtain ⟨rfl, rfl, hq'⟩ := hI
          rw [if_neg (nI_ge hs (by omega))]
          obtain ⟨hp1, hp2⟩ := ps_pos hG hf16 hs
          obtain ⟨sq', he, hsq⟩ := clear_e (I := I) (A := up A 29 fa) (F := up F 30 (Int64.ofInt (ps (Mf g bb f) s))) (L := up (up L 31 ab) 28 q') (k := s) (m := (fk f 4).length) hs hlen (E := Es (Mf g bb f) s) (E' := Es (Mf g bb f) (s + 1)) hp1 ⟨by omega, by omega⟩ rfl hq' (fun j _ => Es_piv (Mf g bb f) j s (by omega)) (fun i j hi hj hne => by
            refine ⟨Es_step (Mf g bb f) s (by omega) i j (by omega) hne, ?_⟩
            have b := bEs (m := (fk f 4).length) (M := Mf g bb f) (fun i j hi hj => Mf_in hG hf16 hi hj) (fun i j hi => Mf_le hG hf16 hi) (s := s) (i := i) (j := j) hs hlen hi
            have := nab_mul hp2 b
            exact ⟨by omega, by omega⟩)
          rw [he, ob2_eq, ps_Es (Mf g bb f) s (by omega)]
          exact hself _ _ _ ⟨nI_1 s, rfl, hsq⟩
        · intro c q' be hI self
          obtain ⟨rfl, rfl, hq'⟩ := hI
          rw [if_pos (nI_le (Nat.le_refl _) (by omega))]
          exact hJ _ _ ⟨by rw [ps_DF f hf16], hq'⟩
    · intro J hJ
      refine wh2_for (P := fun o => ∃ (sq : Nat → Int64) (fa : Nat → Int32) (ab : Nat → Int64), o = some (sq, fa, Int64.ofInt (DF g bb f.testBit), ab) ∧ ∀ k, k < n → ab k = Int64.ofInt (NF g bb f.testBit k)) (fk f 4).length (fun s c (q' : Nat → Int64) => c = nI s ∧ ∀ i j, i < s → j ≤ (fk f 4).length → q' (5 * i + j) = Int64.ofInt (Mf g bb f i j)) ?_ ?_ 200 0 _ _ (by omega) (by omega) ⟨rfl, fun i j hi => by omega⟩
      · intro s c q' hs hI self hself
        obtain ⟨rfl, hq'⟩ := hI
        have hfs := fk_at f hf16 s hs
        rw [if_neg (nI_ge hs (by omega)), jn1_u]
        refine wh2_for (P := fun o => ∃ (sq : Nat → Int64) (fa : Nat → Int32) (ab : Nat → Int64), o = some (sq, fa, Int64.ofInt (DF g bb f.testBit), ab) ∧ ∀ k, k < n → ab k = Int64.ofInt (NF g bb f.testBit k)) (fk f 4).length (fun t c (q2 : Nat → Int64) => c = nI t ∧ (∀ i j, i < s → j ≤ (fk f 4).length → q2 (5 * i + j) = Int64.ofInt (Mf g bb f i j)) ∧ ∀ j, j < t → q2 (5 * s + j) = Int64.ofInt (Mf g bb f s j)) ?_ ?_ 200 0 _ _ (by omega) (by omega) ⟨rfl, hq', fun j hj => by omega⟩
        · intro t c q2 ht hI self2 hself2
          obtain ⟨rfl, hq2, hq3⟩ := hI
          have hft := fk_at f hf16 t ht
          rw [if_neg (nI_ge ht (by omega)), chk_of (inB_nI (show s < 4 by omega) (by decide)), chk_of (inB_nI (show t < 4 by omega) (by decide)), cl_nI (show s < 2 ^ 31 by omega), cl_nI (show t < 2 ^ 31 by omega), hfa s hs, hfa t ht, apart_e _ _ hfs.1 hft.1, ob1_eq, chk_of (inB_nI (ds_lt _ hfs.1 _ hft.1) (by decide)), ix5, chk_of (inB_nI (show 5 * s + t < 20 by omega) (by decide)), cl_nI (show 5 * s + t < 2 ^ 31 by omega), cl_nI (show ds ((fk f 4).getD s 0) ((fk f 4).getD t 0) < 2 ^ 31 by have := ds_lt _ hfs.1 _ hft.1; omega), hg _ (ds_lt _ hfs.1 _ hft.1)]
          refine hself2 _ _ ⟨nI_1 t, fun i j hi hj => ?_, fun j hj => ?_⟩
          · rw [updL_ne (by omega)]; exact hq2 i j hi hj
          · by_cases hjt : j = t
            · subst hjt
              rw [updL_same]
              unfold Mf; rw [if_pos ht]
            · rw [updL_ne (by omega)]; exact hq3 j (by omega)
        · intro c q2 hI self2
          obtain ⟨rfl, hq2, hq3⟩ := hI
          rw [if_pos (nI_le (Nat.le_refl _) (by omega))]
          dsimp only
          rw [chk_of (inB_nI (show s < 4 by omega) (by decide)), cl_nI (show s < 2 ^ 31 by omega), hfa s hs, chk_of (inB_nI hfs.1 (by decide)), ix5, chk_of (inB_nI (show 5 * s + (fk f 4).length < 20 by omega) (by decide)), cl_nI (show 5 * s + (fk f 4).length < 2 ^ 31 by omega), cl_nI (show (fk f 4).getD s 0 < 2 ^ 31 by omega), hb _ hfs.1]
          refine hself _ _ ⟨nI_1 s, fun i j hi hj => ?_⟩
          by_cases his : i = s
          · subst his
            by_cases hjl : j = (fk f 4).length
            · subst hjl
              rw [updL_same]
              unfold Mf; rw [if_neg (by omega)]
            · rw [updL_ne (by omega)]; exact hq3 j (by omega)
          · rw [updL_ne (by omega)]; exact hq2 i j (by omega) hj
      · intro c q' hI self
        obtain ⟨rfl, hq'⟩ := hI
        rw [if_pos (nI_le (Nat.le_refl _) (by omega))]
        exact hJ _ hq'
  · intro J hJ
    refine wh4_for (P := fun o => ∃ (sq : Nat → Int64) (fa : Nat → Int32) (ab : Nat → Int64), o = some (sq, fa, Int64.ofInt (DF g bb f.testBit), ab) ∧ ∀ k, k < n → ab k = Int64.ofInt (NF g bb f.testBit k)) n (fun k x c fa ab => c = nI k ∧ x = nI (fk f k).length ∧ (∀ i, i < (fk f k).length → fa i = nI ((fk f k).getD i 0)) ∧ ∀ j, j < k → ab j = 0) ?_ ?_ 200 0 _ _ _ _ (by omega) (by omega) ⟨rfl, rfl, fun i hi => by simp [fk] at hi, fun j hj => by omega⟩
    · intro k x c fa ab hk hI self hself
      obtain ⟨rfl, rfl, hfa, hab⟩ := hI
      have hl := fk_le f k
      rw [if_neg (nI_ge hk (by omega)), chk_of (inB_nI (show k < 4 by omega) (by decide)), jn2_u]
      have hbit := free_bit f hf16 k (by omega)
      cases hb2 : f.testBit k with
      | true =>
        rw [hb2] at hbit
        rw [if_pos (by simpa using hbit), chk_of (inB_nI (show (fk f k).length < 4 by omega) (by decide)), cl_nI (show k < 2 ^ 31 by omega), cl_nI (show (fk f k).length < 2 ^ 31 by omega)]
        have e := fk_succ f k
        rw [if_pos hb2] at e
        refine hself _ _ _ _ ⟨nI_1 k, ?_, fun i hi => ?_, fun j hj => ?_⟩
        · rw [e, List.length_append, nI_1]; rfl
        · rw [e] at hi ⊢
          rw [List.length_append, List.length_singleton] at hi
          by_cases hil : i = (fk f k).length
          · subst hil
            rw [getD_app_eq]
            exact pk_us
          · rw [getD_app_lt (by omega), pk_un hil]; exact hfa i (by omega)
        · by_cases hjk : j = k
          · subst hjk; exact updL_same
          · rw [updL_ne hjk]; exact hab j (by omega)
      | false =>
        rw [hb2] at hbit
        rw [if_neg (by simpa using hbit), cl_nI (show k < 2 ^ 31 by omega)]
        have e := fk_succ f k
        rw [if_neg (by rw [hb2]; decide), List.append_nil] at e
        refine hself _ _ _ _ ⟨nI_1 k, by rw [e], by rw [e]; exact hfa, fun j hj => ?_⟩
        by_cases hjk : j = k
        · subst hjk; exact updL_same
        · rw [updL_ne hjk]; exact hab j (by omega)
    · intro x c fa ab hI self
      obtain ⟨rfl, rfl, hfa, hab⟩ := hI
      rw [if_pos (nI_le (Nat.le_refl _) (by omega))]
      rw [hfn] at hfa ⊢
      exact hJ _ _ _ ⟨rfl, hfa, hab⟩
