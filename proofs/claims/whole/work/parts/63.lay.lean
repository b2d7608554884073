theorem pressAbove_e {I : Nat → Int32} {A : Nat → Nat → Int32} {F : Nat → Int64} {L : Nat → Nat → Int64} {g bb N : Nat → Int} {D : Int} {n k : Nat} (hg : Vec (L 25) g) (hb : Vec (L 26) bb) (h1 : 1 ≤ n) (h4 : n ≤ 4) (ha : ∀ j, j < n → L 31 j = Int64.ofInt (N j)) (hz : ∀ j, n ≤ j → j < 4 → N j = 0) (hk : k < n) (hbe : F 30 = Int64.ofInt D) : X6_pressAbove I A F L (nI k) (nI n) = some (Int64.ofInt (pressI g bb N D k)) := by
  unfold X6_pressAbove
  rw [chk_of (inB_nI (show k < 4 by omega) (by decide)), jn1_u, cl_nI (by omega), hb k (by omega), hbe, ofneg, ← Int64.ofInt_mul]
  refine wh2_for (P := fun o => o = some (Int64.ofInt (pressI g bb N D k))) n (fun j x c => c = nI j ∧ x = Int64.ofInt (-bb k * D + sumI (fun j => g (ds j k) * N j) j)) ?_ ?_ 200 0 _ _ (by omega) (by omega) ⟨rfl, by simp only [sumI, Int.add_zero]⟩
  · intro j x c hj hI self hself
    obtain ⟨rfl, rfl⟩ := hI
    rw [if_neg (nI_ge hj (by omega)), apart_e k j (by omega) (by omega), ob1_eq, ds_comm k j, chk_of (inB_nI (ds_lt j (by omega) k (by omega)) (by decide)), chk_of (inB_nI (show j < 4 by omega) (by decide)), cl_nI (show ds j k < 2 ^ 31 by have := ds_lt j (by omega) k (by omega); omega), cl_nI (show j < 2 ^ 31 by omega), hg _ (ds_lt j (by omega) k (by omega)), ha j hj, ← Int64.ofInt_mul, ← Int64.ofInt_add]
    refine hself _ _ ⟨nI_1 j, ?_⟩
    simp only [sumI, Int.add_assoc]
  · intro x c hI self
    obtain ⟨rfl, rfl⟩ := hI
    rw [if_pos (nI_le (Nat.le_refl n) (by omega)), press_sum h1 h4 hz k]
theorem isBest_e {I : Nat → Int32} {A : Nat → Nat → Int32} {F : Nat → Int64} {L : Nat → Nat → Int64} {g bb : Nat → Int} {n f : Nat} (hG : GB g bb) (hg : Vec (L 25) g) (hb : Vec (L 26) bb) (h1 : 1 ≤ n) (h4 : n ≤ 4) (hf : f < 2 ^ n) (ha : ∀ j, j < n → L 31 j = Int64.ofInt (NF g bb f.testBit j)) (hbe : F 30 = Int64.ofInt (DF g bb f.testBit)) : ∃ fl : Int32, X6_isBest I A F L (nI n) = some fl ∧ ((fl = 1 ∧ Best g bb n f) ∨ (fl = 0 ∧ ¬ Best g bb n f)) := by
  have hf16 : f < 16 := Nat.lt_of_lt_of_le hf (pow_le h4)
  have hDb := DF_bound hG f.testBit
  have hNb := NF_bound hG f.testBit
  have hPb := pr_bound hG hNb hDb
  have hNr : ∀ k, k < 4 → R64 (NF g bb f.testBit k) := fun k hk => by have := hNb k hk; exact ⟨by omega, by omega⟩
  have hPr : ∀ k, k < 4 → R64 (pressI g bb (NF g bb f.testBit) (DF g bb f.testBit) k) := fun k hk => by have := hPb k hk; exact ⟨by omega, by omega⟩
  have hz : ∀ j, n ≤ j → j < 4 → NF g bb f.testBit j = 0 := fun j h5 h6 => by unfold NF; rw [if_neg]; rw [tb_hi n h4 f hf j h5 h6]; decide
  unfold X6_isBest
  refine jn1_wp (P := fun o => ∃ fl : Int32, o = some fl ∧ ((fl = 1 ∧ Best g bb n f) ∨ (fl = 0 ∧ ¬ Best g bb n f))) (fun x => (x = 1 ∧ Best g bb n f) ∨ (x = 0 ∧ ¬ Best g bb n f)) ?_ ?_
  · intro x hx
    refine ⟨x, ?_, hx⟩
    rcases hx with ⟨rfl, -⟩ | ⟨rfl, -⟩ <;> rfl
  · intro J hJ
    refine wh2_for (P := fun o => ∃ fl : Int32, o = some fl ∧ ((fl = 1 ∧ Best g bb n f) ∨ (fl = 0 ∧ ¬ Best g bb n f))) n (fun k x c => c = nI k ∧ ((x = 1 ∧ (∀ j, j < k → 0 ≤ NF g bb f.testBit j) ∧ ∀ j, j < k → 0 ≤ pressI g bb (NF g bb f.testBit) (DF g bb f.testBit) j) ∨ (x = 0 ∧ ¬ Best g bb n f))) ?_ ?_ 200 0 _ _ (by omega) (by omega) ⟨rfl, Or.inl ⟨rfl, fun j hj => by omega, fun j hj => by omega⟩⟩
    · intro k x c hk hI self hself
      obtain ⟨rfl, hx⟩ := hI
      rw [if_neg (nI_ge hk (by omega)), jn1_u]
      rcases hx with ⟨rfl, hn, hp⟩ | ⟨rfl, hnb⟩
      · rw [if_neg (by decide), chk_of (inB_nI (show k < 4 by omega) (by decide)), cl_nI (by omega), ha k hk]
        by_cases c1 : NF g bb f.testBit k < 0
        · rw [if_pos ((lt64_0 (hNr k (by omega))).mpr c1)]
          exact hself _ _ ⟨nI_1 k, Or.inr ⟨rfl, fun hB => by have := hB.1 k hk; omega⟩⟩
        · rw [if_neg (fun z => c1 ((lt64_0 (hNr k (by omega))).mp z)), pressAbove_e hg hb h1 h4 ha hz hk hbe, ob1_eq]
          by_cases c2 : pressI g bb (NF g bb f.testBit) (DF g bb f.testBit) k < 0
          · rw [if_pos ((lt64_0 (hPr k (by omega))).mpr c2)]
            exact hself _ _ ⟨nI_1 k, Or.inr ⟨rfl, fun hB => by have := hB.2 k hk; omega⟩⟩
          · rw [if_neg (fun z => c2 ((lt64_0 (hPr k (by omega))).mp z))]
            refine hself _ _ ⟨nI_1 k, Or.inl ⟨rfl, fun j hj => ?_, fun j hj => ?_⟩⟩
            · by_cases hjk : j = k
              · subst hjk; omega
              · exact hn j (by omega)
            · by_cases hjk : j = k
              · subst hjk; omega
              · exact hp j (by omega)
      · rw [if_pos rfl]
        exact hself _ _ ⟨nI_1 k, Or.inr ⟨rfl, hnb⟩⟩
    · intro x c hI self
      obtain ⟨rfl, hx⟩ := hI
      rw [if_pos (nI_le (Nat.le_refl n) (by omega))]
      refine hJ _ ?_
      rcases hx with ⟨rfl, hn, hp⟩ | ⟨rfl, hnb⟩
      · exact Or.inl ⟨rfl, hn, hp⟩
      · exact Or.inr ⟨rfl, hnb⟩
def FitM (g bb : Nat → Int) (n : Nat) (ab : Nat → Int64) (be : Int64) : Prop := ∃ f, f < 2 ^ n ∧ Best g bb n f ∧ be = Int64.ofInt (DF g bb f.testBit) ∧ ∀ k, k < n → ab k = Int64.ofInt (NF g bb f.testBit k)
def gT (p : Int32) (g : Sg) (k : Nat) : Int := totS p g.2.1.2 (fun d => gD d k) g.2.1.1
def bT (p : Int32) (g : Sg) (k : Nat) : Int := totS p g.2.1.2 (fun d => bD d k) g.2.1.1
theorem layBest_e {I : Nat → Int32} {A : Nat → Nat → Int32} {F : Nat → Int64} {L : Nat → Nat → Int64} {g : Sg} (hM : MRep I A g) (hw : WF g) (p0 : Int32) (hG : GB (gT p0 g) (bT p0 g)) {n : Nat} (h1 : 1 ≤ n) (h4 : n ≤ 4) : ∃ (u v : Nat → Int64) (sq : Nat → Int64) (fa : Nat → Int32) (be : Int64) (ab : Nat → Int64), X6_layBest I A F L p0 (nI n) = some (u, v, Int64.ofInt (totS p0 g.2.1.2 rD g.2.1.1), sq, fa, be, ab) ∧ Vec u (gT p0 g) ∧ Vec v (bT p0 g) ∧ FitM (gT p0 g) (bT p0 g) n ab be := by
  obtain ⟨f0, hf0, hB0⟩ := best_ex hG h4
  have h16 := pow_le h4
  obtain ⟨u, v, hp, hl⟩ := layProducts_e (F := F) (L := L) hM hw p0
  have hu : Vec u (gT p0 g) := fun k hk => (hp k hk).1
  have hv : Vec v (bT p0 g) := fun k hk => (hp k hk).2
  unfold X6_layBest
  rw [hl, ob3_eq]
  obtain ⟨sq, fa, ab, hs, hab⟩ := solve_e (I := I) (A := A) (F := up F 27 (Int64.ofInt (totS p0 g.2.1.2 rD g.2.1.1))) (L := up (up L 25 u) 26 v) (f := 0) hG hu hv h4 (Nat.pow_pos (by omega))
  rw [show (0 : Int32) = nI 0 from rfl, hs, ob4_eq]
  refine wh5_wp (P := fun o => ∃ (u v : Nat → Int64) (sq : Nat → Int64) (fa : Nat → Int32) (be : Int64) (ab : Nat → Int64), o = some (u, v, Int64.ofInt (totS p0 g.2.1.2 rD g.2.1.1), sq, fa, be, ab) ∧ Vec u (gT p0 g) ∧ Vec v (bT p0 g) ∧ FitM (gT p0 g) (bT p0 g) n ab be) (fun i c _ _ be ab => ∃ f, f + i = 16 ∧ f ≤ f0 ∧ c = nI f ∧ be = Int64.ofInt (DF (gT p0 g) (bT p0 g) f.testBit) ∧ ∀ k, k < n → ab k = Int64.ofInt (NF (gT p0 g) (bT p0 g) f.testBit k)) ?_ 200 16 _ _ _ _ _ (by omega) ⟨0, by omega, by omega, rfl, rfl, hab⟩
  intro i c sq' fa' be ab' hI self hself
  obtain ⟨f, hfi, hle, rfl, rfl, hab'⟩ := hI
  have hf : f < 2 ^ n := by omega
  obtain ⟨fl, he, hcase⟩ := isBest_e (I := I) (A := up A 29 fa') (F := up (up F 27 (Int64.ofInt (totS p0 g.2.1.2 rD g.2.1.1))) 30 (Int64.ofInt (DF (gT p0 g) (bT p0 g) f.testBit))) (L := up (up (up (up L 25 u) 26 v) 28 sq') 31 ab') hG hu hv h1 h4 hf hab' rfl
  rw [he, ob1_eq]
  rcases hcase with ⟨rfl, hB⟩ | ⟨rfl, hnb⟩
  · rw [if_neg (by decide)]
    exact ⟨u, v, sq', fa', _, ab', rfl, hu, hv, f, hf, hB, rfl, hab'⟩
  · rw [if_pos (show (0 : Int32) = nI 0 from rfl)]
    have hne : f ≠ f0 := fun z => hnb (z ▸ hB0)
    obtain ⟨sq2, fa2, ab2, hs2, hab2⟩ := solve_e (I := I) (A := up A 29 fa') (F := up (up F 27 (Int64.ofInt (totS p0 g.2.1.2 rD g.2.1.1))) 30 (Int64.ofInt (DF (gT p0 g) (bT p0 g) f.testBit))) (L := up (up (up (up L 25 u) 26 v) 28 sq') 31 ab') (f := f + 1) hG hu hv h4 (by omega)
    rw [nI_1, hs2, ob4_eq]
    exact hself (i - 1) _ _ _ _ _ (by omega) ⟨f + 1, by omega, by omega, rfl, rfl, hab2⟩
