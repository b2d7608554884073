/-! ===== digest: fits ===== -/
def lowI (x d : Int) (p : Int32) : Int64 := Int64.ofInt (if p = 0 then x / Int.gcd x d else d / Int.gcd x d)
theorem lowI_same {x d y e : Int} (hd : 0 < d) (he : 0 < e) (h : x * e = y * d) (p : Int32) : lowI x d p = lowI y e p := by
  obtain ⟨h1, h2⟩ := low_same hd he h
  unfold lowI
  rw [h1, h2]
section DF3
variable {a : Nat → Nat} {q pg : Nat → Int32} {gS gU : Nat → Option Nat} {rd : RdT} {ft : FtT} {S : Nat → StT} {U : Nat → UnT} {I : Nat → Int32} {A : Nat → Nat → Int32} {F : Nat → Int64} {L : Nat → Nat → Int64} {g : Sg}
theorem bestNow_e (hM : MRep I A g) (hw : WF g) {p0 : Int32} (hG : GB (gT p0 g) (bT p0 g)) {n f k : Nat} (h1 : 1 ≤ n) (h4 : n ≤ 4) (hf : f < 2 ^ n) (hB : Best (gT p0 g) (bT p0 g) n f) (hk : k < n) (p : Int32) : ∃ o, X6_bestNow I A F L p0 (nI n) (nI k) p = some (lowI (NF (gT p0 g) (bT p0 g) f.testBit k) (DF (gT p0 g) (bT p0 g) f.testBit) p, o) := by
  obtain ⟨u, v, sq, fa, be, ab, hl, hu, hv, e, he1, he2, rfl, he4⟩ := layBest_e (F := F) (L := L) hM hw p0 hG (n := n) h1 h4
  have hN := NF_bound hG e.testBit k (by omega)
  unfold X6_bestNow
  rw [hl, ob7_eq, chk_of (inB_nI (show k < 4 by omega) (by decide)), cl_nI (by omega), he4 k hk, lowest_e ⟨by omega, by omega⟩ (D_b hG e).1 ⟨by have := (D_b hG e).1; omega, by have := (D_b hG e).2; omega⟩, ob1_eq]
  refine ⟨(u, v, Int64.ofInt (totS p0 g.2.1.2 rD g.2.1.1), sq, fa, Int64.ofInt (DF (gT p0 g) (bT p0 g) e.testBit), ab), ?_⟩
  rw [lowI_same (D_b hG f).1 (D_b hG e).1 (best_same hG h4 hf he1 hB he2 k (by omega))]
  rfl
theorem lossNow_e (hM : MRep I A g) (hw : WF g) {p0 : Int32} (hG : GB (gT p0 g) (bT p0 g)) {n f : Nat} (h1 : 1 ≤ n) (h4 : n ≤ 4) (hf : f < 2 ^ n) (hB : Best (gT p0 g) (bT p0 g) n f) (p : Int32) : ∃ o, X6_lossNow I A F L p0 (nI n) p = some (lowI (lossI (bT p0 g) (NF (gT p0 g) (bT p0 g) f.testBit) (DF (gT p0 g) (bT p0 g) f.testBit) (RT p0 g)) (DF (gT p0 g) (bT p0 g) f.testBit) p, o) := by
  obtain ⟨u, v, sq, fa, be, ab, hl, hu, hv, e, he1, he2, rfl, he4⟩ := layBest_e (F := F) (L := L) hM hw p0 hG (n := n) h1 h4
  have hL' := loss_b hG (NF_bound hG e.testBit) (DF_bound hG e.testBit) (rT_b hw p0)
  rw [lowI_same (D_b hG f).1 (D_b hG e).1 (loss_same (bb := bT p0 g) (r := RT p0 g) (best_same hG h4 hf he1 hB he2))]
  unfold X6_lossNow
  rw [hl, ob7_eq, jn1_u, ← Int64.ofInt_mul]
  refine wh2_for (P := fun o => ∃ o', o = some (lowI (lossI (bT p0 g) (NF (gT p0 g) (bT p0 g) e.testBit) (DF (gT p0 g) (bT p0 g) e.testBit) (RT p0 g)) (DF (gT p0 g) (bT p0 g) e.testBit) p, o')) n (fun j x c => c = nI j ∧ x = Int64.ofInt (RT p0 g * DF (gT p0 g) (bT p0 g) e.testBit - sumI (fun j => bT p0 g j * NF (gT p0 g) (bT p0 g) e.testBit j) j)) ?_ ?_ 200 0 _ _ (by omega) (by omega) ⟨rfl, by simp only [sumI, Int.sub_zero]; rfl⟩
  · intro j x c hj hI self hself
    obtain ⟨rfl, rfl⟩ := hI
    rw [if_neg (nI_ge hj (by omega)), chk_of (inB_nI (show j < 4 by omega) (by decide)), chk_of (inB_nI (show j < 4 by omega) (by decide)), cl_nI (by omega), hv j (by omega), he4 j hj, ← Int64.ofInt_mul, ← Int64.ofInt_sub]
    refine hself _ _ ⟨nI_1 j, ?_⟩
    simp only [sumI, Int.sub_sub, Int.mul_comm (NF (gT p0 g) (bT p0 g) e.testBit j) (bT p0 g j)]
  · intro x c hI self
    obtain ⟨rfl, rfl⟩ := hI
    rw [if_pos (nI_le (Nat.le_refl n) (by omega)), loss_sum h1 h4 (fun j h5 h6 => (best_N h4 he1 he2 j h6).2 h5)]
    dsimp only
    rw [lowest_e hL' (D_b hG e).1 ⟨by have := (D_b hG e).1; omega, by have := (D_b hG e).2; omega⟩, ob1_eq]
    exact ⟨_, rfl⟩
def frH (x d : Int) (h : Int64) : Int64 := 31 * (31 * h + lowI x d 0) + lowI x d 1
theorem fraction_e {x d : Int} (hx : R64 x) (hd : 0 < d) (hd2 : d < 562949953421312) (h : Int64) : X5_withFraction h (Int64.ofInt x) (Int64.ofInt d) = some (frH x d h) := by
  unfold X5_withFraction X5_with
  rw [lowTerms_e hx hd hd2, ob1_eq, ob1_eq, lowTerms_e hx hd hd2, ob1_eq, ob1_eq]
  rfl
def frF (N : Nat → Int) (D : Int) (h : Int64) : Nat → Int64
  | 0 => h
  | k + 1 => frH (N k) D (frF N D h k)
def fitH (bb N : Nat → Int) (D r : Int) (n : Nat) (h : Int64) : Int64 := frH (lossI bb N D r) D (frF N D h n)
theorem withFit_e {u v mx ab pr : Nat → Int64} {bb N : Nat → Int} {D r : Int} {n : Nat} (hb : Vec v bb) (h1 : 1 ≤ n) (h4 : n ≤ 4) (ha : ∀ j, j < n → ab j = Int64.ofInt (N j)) (hz : ∀ j, n ≤ j → j < 4 → N j = 0) (hN : ∀ k, k < n → R64 (N k)) (hL : R64 (lossI bb N D r)) (hd : 0 < D) (hd2 : D < 562949953421312) (h : Int64) : X5_withFit a q pg gS gU rd (u, v, mx, ab, pr, Int64.ofInt D, Int64.ofInt r, nI n) S U h (nI n) = some (fitH bb N D r n h) := by
  unfold X5_withFit
  rw [jn1_u]
  refine wh2_for (P := fun o => o = some (fitH bb N D r n h)) n (fun k h' c => c = nI k ∧ h' = frF N D h k) ?_ ?_ 200 0 _ _ (by omega) (by omega) ⟨rfl, rfl⟩
  · intro k h' c hk hI self hself
    obtain ⟨rfl, rfl⟩ := hI
    rw [if_neg (nI_ge hk (by omega)), partAbove_e (by omega), ob1_eq]
    simp only [X0_below]
    rw [ob1_eq, ha k hk, fraction_e (hN k hk) hd hd2, ob1_eq]
    exact hself _ _ ⟨nI_1 k, rfl⟩
  · intro h' c hI self
    obtain ⟨rfl, rfl⟩ := hI
    rw [if_pos (nI_le (Nat.le_refl n) (by omega))]
    dsimp only
    rw [lossAbove_e (be := 0) hb h1 h4 ha hz, ob1_eq]
    simp only [X0_below]
    rw [ob1_eq, fraction_e hL hd hd2, ob1_eq]
    rfl
end DF3
