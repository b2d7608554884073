/-! ===== the class's search ===== -/
def GB (g bb : Nat → Int) : Prop := (0 ≤ g 0 ∧ g 0 ≤ 225) ∧ (0 ≤ g 1 ∧ g 1 ≤ 150) ∧ (0 ≤ g 2 ∧ g 2 ≤ 75) ∧ g 3 = 0 ∧ (∀ k, k < 4 → 0 ≤ bb k ∧ bb k ≤ 4455) ∧ PD (g 0) (g 1) (g 2) ∧ PSDr (g 0) (g 1) (g 2)
theorem g_bound {g bb : Nat → Int} (h : GB g bb) : ∀ k, k < 4 → 0 ≤ g k ∧ g k ≤ 225 := by
  obtain ⟨h0, h1, h2, h3, -⟩ := h
  exact lt4 h0 (by omega) (by omega) (by omega)
theorem ent_bound {g bb : Nat → Int} (h : GB g bb) (fr : Nat → Bool) (w : Nat) : ∀ r c, r < 4 → c < 4 → 0 ≤ ent g bb fr w r c ∧ ent g bb fr w r c ≤ (((fun c => if c = w then 4455 else 225) c : Nat) : Int) := by
  intro r c hr hc
  have hb := h.2.2.2.2.1 r hr
  have hg := g_bound h (ds r c) (ds_lt r hr c hc)
  unfold ent
  by_cases cw : c = w
  · simp only [cw, if_true]
    split <;> omega
  · simp only [cw, if_false]
    repeat' split
    all_goals omega
theorem DF_bound {g bb : Nat → Int} (h : GB g bb) (fr : Nat → Bool) : (DF g bb fr).natAbs ≤ 15377343750 := by
  have := det4_bound (ent_bound h fr 4)
  unfold DF
  simpa using this
theorem NF_bound {g bb : Nat → Int} (h : GB g bb) (fr : Nat → Bool) (k : Nat) (hk : k < 4) : (NF g bb fr k).natAbs ≤ 304471406250 := by
  unfold NF
  split
  · have := det4_bound (ent_bound h fr k)
    revert this
    revert k
    exact lt4 (by simp) (by simp) (by simp) (by simp)
  · simp
theorem pr_bound {g bb N : Nat → Int} {D : Int} (h : GB g bb) (hN : ∀ k, k < 4 → (N k).natAbs ≤ 304471406250) (hD : D.natAbs ≤ 15377343750) : ∀ k, k < 4 → (pressI g bb N D k).natAbs ≤ 400000000000000 := by
  intro k hk
  have b0 := g_bound h (ds k 0) (ds_lt k hk 0 (by omega))
  have b1 := g_bound h (ds k 1) (ds_lt k hk 1 (by omega))
  have b2 := g_bound h (ds k 2) (ds_lt k hk 2 (by omega))
  have b3 := g_bound h (ds k 3) (ds_lt k hk 3 (by omega))
  have bb' := h.2.2.2.2.1 k hk
  have m0 := nab_mul (x := g (ds k 0)) (X := 225) (by omega) (hN 0 (by omega))
  have m1 := nab_mul (x := g (ds k 1)) (X := 225) (by omega) (hN 1 (by omega))
  have m2 := nab_mul (x := g (ds k 2)) (X := 225) (by omega) (hN 2 (by omega))
  have m3 := nab_mul (x := g (ds k 3)) (X := 225) (by omega) (hN 3 (by omega))
  have m4 := nab_mul (x := bb k) (X := 4455) (by omega) hD
  unfold pressI
  omega
theorem ds_comm (i j : Nat) : ds i j = ds j i := by
  unfold ds
  split <;> split <;> omega
theorem ofneg (x : Int) : -(Int64.ofInt x) = Int64.ofInt (-x) := (Int64.ofInt_neg x).symm
theorem press_sum {g bb N : Nat → Int} {D : Int} {n : Nat} (h1 : 1 ≤ n) (h4 : n ≤ 4) (hz : ∀ j, n ≤ j → j < 4 → N j = 0) (k : Nat) : -bb k * D + sumI (fun j => g (ds j k) * N j) n = pressI g bb N D k := by
  have : n = 1 ∨ n = 2 ∨ n = 3 ∨ n = 4 := by omega
  unfold pressI
  rw [ds_comm k 0, ds_comm k 1, ds_comm k 2, ds_comm k 3]
  rcases this with rfl | rfl | rfl | rfl
  · rw [hz 1 (by omega) (by omega), hz 2 (by omega) (by omega), hz 3 (by omega) (by omega)]; simp only [sumI]; grind
  · rw [hz 2 (by omega) (by omega), hz 3 (by omega) (by omega)]; simp only [sumI]; grind
  · rw [hz 3 (by omega) (by omega)]; simp only [sumI]; grind
  · simp only [sumI]; grind
theorem pressOn_e {rd rr mx ab pr : Nat → Int64} {be rs : Int64} {g bb N : Nat → Int} {D : Int} {n k : Nat} (hg : Vec rd g) (hb : Vec rr bb) (h1 : 1 ≤ n) (h4 : n ≤ 4) (ha : ∀ j, j < n → ab j = Int64.ofInt (N j)) (hz : ∀ j, n ≤ j → j < 4 → N j = 0) (hk : k < n) (hbe : be = Int64.ofInt D) : X0_pressOn rd rr mx ab pr be rs (nI n) (nI k) = some (Int64.ofInt (pressI g bb N D k)) := by
  unfold X0_pressOn
  rw [chk_of (inB_nI (show k < 4 by omega) (by decide)), jn1_u, cl_nI (by omega), hb k (by omega), hbe, ofneg, ← Int64.ofInt_mul]
  refine wh2_for (P := fun o => o = some (Int64.ofInt (pressI g bb N D k))) n (fun j x c => c = nI j ∧ x = Int64.ofInt (-bb k * D + sumI (fun j => g (ds j k) * N j) j)) ?_ ?_ 200 0 _ _ (by omega) (by omega) ⟨rfl, by simp only [sumI, Int.add_zero]⟩
  · intro j x c hj hI self hself
    obtain ⟨rfl, rfl⟩ := hI
    rw [if_neg (nI_ge hj (by omega)), ds_e j (by omega) k (by omega), chk_of (inB_nI (ds_lt j (by omega) k (by omega)) (by decide)), chk_of (inB_nI (show j < 4 by omega) (by decide)), cl_nI (show ds j k < 2 ^ 31 by have := ds_lt j (by omega) k (by omega); omega), cl_nI (show j < 2 ^ 31 by omega), hg _ (ds_lt j (by omega) k (by omega)), ha j hj, ← Int64.ofInt_mul, ← Int64.ofInt_add]
    refine hself _ _ ⟨nI_1 j, ?_⟩
    simp only [sumI, Int.add_assoc]
  · intro x c hI self
    obtain ⟨rfl, rfl⟩ := hI
    rw [if_pos (nI_le (Nat.le_refl n) (by omega)), press_sum h1 h4 hz k]
def Best (g bb : Nat → Int) (n f : Nat) : Prop := (∀ k, k < n → 0 ≤ NF g bb f.testBit k) ∧ ∀ k, k < n → 0 ≤ pressI g bb (NF g bb f.testBit) (DF g bb f.testBit) k
theorem tb_hi0 : ∀ n, n < 5 → ∀ f, f < 16 → f < 2 ^ n → ∀ j, j < 4 → n ≤ j → f.testBit j = false := by decide
theorem pow_le {n : Nat} (h : n ≤ 4) : 2 ^ n ≤ 16 := by
  have : n = 0 ∨ n = 1 ∨ n = 2 ∨ n = 3 ∨ n = 4 := by omega
  rcases this with rfl | rfl | rfl | rfl | rfl <;> decide
theorem tb_hi (n : Nat) (hn : n ≤ 4) (f : Nat) (hf : f < 2 ^ n) (j : Nat) (h1 : n ≤ j) (h2 : j < 4) : f.testBit j = false := tb_hi0 n (by omega) f (Nat.lt_of_lt_of_le hf (pow_le hn)) hf j h2 h1
theorem lt64_0 {x : Int} (h : R64 x) : Int64.ofInt x < 0 ↔ x < 0 := by rw [lt64, of_t h, k0]
theorem fitsWith_e {rd rr mx ab pr : Nat → Int64} {be rs : Int64} {g bb : Nat → Int} {n f : Nat} (hG : GB g bb) (hg : Vec rd g) (hb : Vec rr bb) (h1 : 1 ≤ n) (h4 : n ≤ 4) (hf : f < 2 ^ n) : ∃ (fl : Int32) (mx' ab' pr' : Nat → Int64), X0_fitsWith rd rr mx ab pr be rs (nI n) (nI f) = some (fl, mx', ab', pr', Int64.ofInt (DF g bb f.testBit)) ∧ ((fl = 1 ∧ Best g bb n f ∧ (∀ k, k < n → ab' k = Int64.ofInt (NF g bb f.testBit k)) ∧ ∀ k, k < n → pr' k = Int64.ofInt (pressI g bb (NF g bb f.testBit) (DF g bb f.testBit) k)) ∨ (fl = 0 ∧ ¬ Best g bb n f)) := by
  have hf16 : f < 16 := Nat.lt_of_lt_of_le hf (pow_le h4)
  have hDp := DF_pos (bb := bb) hG.2.2.2.2.2.1 hG.2.2.2.1 f.testBit
  have hDb := DF_bound hG f.testBit
  have hNb := NF_bound hG f.testBit
  have hPb := pr_bound hG hNb hDb
  have hNr : ∀ k, k < 4 → R64 (NF g bb f.testBit k) := fun k hk => by have := hNb k hk; exact ⟨by omega, by omega⟩
  have hPr : ∀ k, k < 4 → R64 (pressI g bb (NF g bb f.testBit) (DF g bb f.testBit) k) := fun k hk => by have := hPb k hk; exact ⟨by omega, by omega⟩
  have hz : ∀ j, n ≤ j → j < 4 → NF g bb f.testBit j = 0 := fun j h5 h6 => by unfold NF; rw [if_neg]; rw [tb_hi n h4 f hf j h5 h6]; decide
  unfold X0_fitsWith
  obtain ⟨mx1, hd⟩ := determinant_e (rd := rd) (rr := rr) (mx := mx) (ab := ab) (pr := pr) (be := be) (rs := rs) (sz := nI n) hg hb hf16 (w := 4) (by omega)
  rw [show (4 : Int32) = nI 4 from rfl, hd, ob2_eq]
  have hDe : Int64.ofInt (det4 (ent g bb f.testBit 4)) = Int64.ofInt (DF g bb f.testBit) := rfl
  rw [hDe]
  refine jn1_wp (P := fun o => ∃ (fl : Int32) (mx' ab' pr' : Nat → Int64), o = some (fl, mx', ab', pr', Int64.ofInt (DF g bb f.testBit)) ∧ ((fl = 1 ∧ Best g bb n f ∧ (∀ k, k < n → ab' k = Int64.ofInt (NF g bb f.testBit k)) ∧ ∀ k, k < n → pr' k = Int64.ofInt (pressI g bb (NF g bb f.testBit) (DF g bb f.testBit) k)) ∨ (fl = 0 ∧ ¬ Best g bb n f))) (fun s => s = 1) ?_ ?_
  · intro s hs
    subst hs
    refine jn3_wp (P := fun o => ∃ (fl : Int32) (mx' ab' pr' : Nat → Int64), o = some (fl, mx', ab', pr', Int64.ofInt (DF g bb f.testBit)) ∧ ((fl = 1 ∧ Best g bb n f ∧ (∀ k, k < n → ab' k = Int64.ofInt (NF g bb f.testBit k)) ∧ ∀ k, k < n → pr' k = Int64.ofInt (pressI g bb (NF g bb f.testBit) (DF g bb f.testBit) k)) ∨ (fl = 0 ∧ ¬ Best g bb n f))) (fun x m b => (x = 1 ∧ (∀ i, i < n → b i = Int64.ofInt (NF g bb f.testBit i)) ∧ ∀ i, i < n → 0 ≤ NF g bb f.testBit i) ∨ (x = 0 ∧ ∃ i, i < n ∧ NF g bb f.testBit i < 0)) ?_ ?_
    · intro x m b hx
      refine jn2_wp (P := fun o => ∃ (fl : Int32) (mx' ab' pr' : Nat → Int64), o = some (fl, mx', ab', pr', Int64.ofInt (DF g bb f.testBit)) ∧ ((fl = 1 ∧ Best g bb n f ∧ (∀ k, k < n → ab' k = Int64.ofInt (NF g bb f.testBit k)) ∧ ∀ k, k < n → pr' k = Int64.ofInt (pressI g bb (NF g bb f.testBit) (DF g bb f.testBit) k)) ∨ (fl = 0 ∧ ¬ Best g bb n f))) (fun y p => (y = 1 ∧ x = 1 ∧ (∀ i, i < n → p i = Int64.ofInt (pressI g bb (NF g bb f.testBit) (DF g bb f.testBit) i)) ∧ ∀ i, i < n → 0 ≤ pressI g bb (NF g bb f.testBit) (DF g bb f.testBit) i) ∨ (y = 0 ∧ ¬ Best g bb n f)) ?_ ?_
      · intro y p hy
        rcases hy with ⟨rfl, hx1, hp1, hp2⟩ | ⟨rfl, hnb⟩
        · rcases hx with ⟨rfl, hb1, hb2⟩ | ⟨rfl, -⟩
          · rw [chk_of (by decide)]
            exact ⟨1, m, b, p, rfl, Or.inl ⟨rfl, ⟨hb2, hp2⟩, hb1, hp1⟩⟩
          · exact absurd hx1 (by decide)
        · rw [chk_of (by decide)]
          exact ⟨0, m, b, p, rfl, Or.inr ⟨rfl, hnb⟩⟩
      · intro J hJ
        refine wh3_wp (P := fun o => ∃ (fl : Int32) (mx' ab' pr' : Nat → Int64), o = some (fl, mx', ab', pr', Int64.ofInt (DF g bb f.testBit)) ∧ ((fl = 1 ∧ Best g bb n f ∧ (∀ k, k < n → ab' k = Int64.ofInt (NF g bb f.testBit k)) ∧ ∀ k, k < n → pr' k = Int64.ofInt (pressI g bb (NF g bb f.testBit) (DF g bb f.testBit) k)) ∨ (fl = 0 ∧ ¬ Best g bb n f))) (fun mm y c p => ∃ j, j + mm = n ∧ c = nI j ∧ ((y = 1 ∧ x = 1 ∧ (∀ i, i < j → p i = Int64.ofInt (pressI g bb (NF g bb f.testBit) (DF g bb f.testBit) i)) ∧ ∀ i, i < j → 0 ≤ pressI g bb (NF g bb f.testBit) (DF g bb f.testBit) i) ∨ (y = 0 ∧ ¬ Best g bb n f))) ?_ 200 n _ _ _ (by omega) ⟨0, by omega, rfl, by
          rcases hx with ⟨rfl, -, -⟩ | ⟨rfl, i, hi, hi2⟩
          · exact Or.inl ⟨rfl, rfl, fun i hi => by omega, fun i hi => by omega⟩
          · exact Or.inr ⟨rfl, fun hB => by have := hB.1 i hi; omega⟩⟩
        intro mm y c p hI self hself
        obtain ⟨j, hj, rfl, hy⟩ := hI
        rcases Nat.lt_or_ge j n with hjn | hjn
        · rw [if_neg (nI_ge hjn (by omega))]
          rcases hy with ⟨rfl, hx1, hp1, hp2⟩ | ⟨rfl, hnb⟩
          · rcases hx with ⟨-, hb1, hb2⟩ | ⟨hx0, -⟩
            · rw [if_neg (by decide), pressOn_e hg hb h1 h4 hb1 hz hjn rfl, ob1_eq, chk_of (inB_nI (show j < 4 by omega) (by decide)), chk_of (inB_nI (show j < 4 by omega) (by decide)), jn1_u, cl_nI (by omega), updL_same]
              by_cases hneg : pressI g bb (NF g bb f.testBit) (DF g bb f.testBit) j < 0
              · rw [if_pos ((lt64_0 (hPr j (by omega))).mpr hneg)]
                exact hself (mm - 1) _ _ _ (by omega) ⟨j + 1, by omega, nI_1 j, Or.inr ⟨rfl, fun hB => by have := hB.2 j hjn; omega⟩⟩
              · rw [if_neg (fun z => hneg ((lt64_0 (hPr j (by omega))).mp z))]
                refine hself (mm - 1) _ _ _ (by omega) ⟨j + 1, by omega, nI_1 j, Or.inl ⟨rfl, hx1, fun i hi => ?_, fun i hi => ?_⟩⟩
                · by_cases hij : i = j
                  · subst hij; exact updL_same
                  · rw [updL_ne hij]; exact hp1 i (by omega)
                · by_cases hij : i = j
                  · subst hij; omega
                  · exact hp2 i (by omega)
            · rw [hx0] at hx1; exact absurd hx1 (by decide)
          · rw [if_pos rfl]
            exact hJ _ _ (Or.inr ⟨rfl, hnb⟩)
        · rw [if_pos (nI_le hjn (by omega))]
          rcases hy with ⟨rfl, hx1, hp1, hp2⟩ | ⟨rfl, hnb⟩
          · exact hJ _ _ (Or.inl ⟨rfl, hx1, fun i hi => hp1 i (by omega), fun i hi => hp2 i (by omega)⟩)
          · exact hJ _ _ (Or.inr ⟨rfl, hnb⟩)
    · intro J hJ
      refine wh4_wp (P := fun o => ∃ (fl : Int32) (mx' ab' pr' : Nat → Int64), o = some (fl, mx', ab', pr', Int64.ofInt (DF g bb f.testBit)) ∧ ((fl = 1 ∧ Best g bb n f ∧ (∀ k, k < n → ab' k = Int64.ofInt (NF g bb f.testBit k)) ∧ ∀ k, k < n → pr' k = Int64.ofInt (pressI g bb (NF g bb f.testBit) (DF g bb f.testBit) k)) ∨ (fl = 0 ∧ ¬ Best g bb n f))) (fun mm y c _ b => ∃ j, j + mm = n ∧ c = nI j ∧ ((y = 1 ∧ (∀ i, i < j → b i = Int64.ofInt (NF g bb f.testBit i)) ∧ ∀ i, i < j → 0 ≤ NF g bb f.testBit i) ∨ (y = 0 ∧ ∃ i, i < n ∧ NF g bb f.testBit i < 0))) ?_ 200 n _ _ _ _ (by omega) ⟨0, by omega, rfl, Or.inl ⟨rfl, fun i hi => by omega, fun i hi => by omega⟩⟩
      intro mm y c m b hI self hself
      obtain ⟨j, hj, rfl, hy⟩ := hI
      rcases Nat.lt_or_ge j n with hjn | hjn
      · rw [if_neg (nI_ge hjn (by omega))]
        rcases hy with ⟨rfl, hb1, hb2⟩ | ⟨rfl, hneg⟩
        · rw [if_neg (by decide), free_e hf16 (show j < 4 by omega), ob1_eq]
          refine jn3_wp (P := fun o => ∃ (fl : Int32) (mx' ab' pr' : Nat → Int64), o = some (fl, mx', ab', pr', Int64.ofInt (DF g bb f.testBit)) ∧ ((fl = 1 ∧ Best g bb n f ∧ (∀ k, k < n → ab' k = Int64.ofInt (NF g bb f.testBit k)) ∧ ∀ k, k < n → pr' k = Int64.ofInt (pressI g bb (NF g bb f.testBit) (DF g bb f.testBit) k)) ∨ (fl = 0 ∧ ¬ Best g bb n f))) (fun s1 s2 _ => s1 = nI j ∧ s2 = Int64.ofInt (NF g bb f.testBit j)) ?_ ?_
          · intro s1 s2 m2 hs
            obtain ⟨rfl, rfl⟩ := hs
            rw [chk_of (inB_nI (show j < 4 by omega) (by decide)), chk_of (inB_nI (show j < 4 by omega) (by decide)), jn1_u, cl_nI (by omega), updL_same]
            by_cases hneg : NF g bb f.testBit j < 0
            · rw [if_pos ((lt64_0 (hNr j (by omega))).mpr hneg)]
              exact hself (mm - 1) _ _ _ _ (by omega) ⟨j + 1, by omega, nI_1 j, Or.inr ⟨rfl, j, hjn, hneg⟩⟩
            · rw [if_neg (fun z => hneg ((lt64_0 (hNr j (by omega))).mp z))]
              refine hself (mm - 1) _ _ _ _ (by omega) ⟨j + 1, by omega, nI_1 j, Or.inl ⟨rfl, fun i hi => ?_, fun i hi => ?_⟩⟩
              · by_cases hij : i = j
                · subst hij; exact updL_same
                · rw [updL_ne hij]; exact hb1 i (by omega)
              · by_cases hij : i = j
                · subst hij; omega
                · exact hb2 i (by omega)
          · intro J2 hJ2
            rw [ite10]
            by_cases hfr : f.testBit j = true
            · rw [if_pos hfr]
              obtain ⟨mx2, hd2⟩ := determinant_e (rd := rd) (rr := rr) (mx := m) (ab := b) (pr := pr) (be := Int64.ofInt (DF g bb f.testBit)) (rs := rs) (sz := nI n) hg hb hf16 (w := j) (by omega)
              rw [hd2, ob2_eq]
              exact hJ2 _ _ _ ⟨rfl, by unfold NF; rw [if_pos hfr]⟩
            · rw [if_neg hfr]
              exact hJ2 _ _ _ ⟨rfl, by unfold NF; rw [if_neg hfr]; rfl⟩
        · rw [if_pos rfl]
          exact hJ _ _ _ (Or.inr ⟨rfl, hneg⟩)
      · rw [if_pos (nI_le hjn (by omega))]
        rcases hy with ⟨rfl, hb1, hb2⟩ | ⟨rfl, hneg⟩
        · exact hJ _ _ _ (Or.inl ⟨rfl, fun i hi => hb1 i (by omega), fun i hi => hb2 i (by omega)⟩)
        · exact hJ _ _ _ (Or.inr ⟨rfl, hneg⟩)
  · intro J hJ
    have hr : R64 (DF g bb f.testBit) := ⟨by omega, by omega⟩
    rw [if_neg (fun z => by rw [le64, of_t hr, k0] at z; omega)]
    exact hJ _ rfl
