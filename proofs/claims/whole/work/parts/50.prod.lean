/-! ===== the products of a storm ===== -/
def sumI (g : Nat → Int) : Nat → Int
  | 0 => 0
  | n + 1 => sumI g n + g n
def gD (d : SD) (k : Nat) : Int := sumI (fun i => (d.2.1 i).toInt * (d.2.1 (i + k)).toInt) 3
def bD (d : SD) (k : Nat) : Int := sumI (fun i => (d.2.1 i).toInt * (d.2.2.2 (i + k)).toInt) 3
def rD (d : SD) : Int := sumI (fun t => (d.2.2.2 t).toInt * (d.2.2.2 t).toInt) 8
theorem mul64 {x y : Int32} {M N : Int} (hx : 0 ≤ x.toInt ∧ x.toInt ≤ M) (hy : 0 ≤ y.toInt ∧ y.toInt ≤ N) (hMN : M * N ≤ 2147483647) : Int32.toInt64 (x * y) = Int64.ofInt (x.toInt * y.toInt) := by
  have h0 : 0 ≤ x.toInt * y.toInt := Int.mul_nonneg hx.1 hy.1
  have h1 : x.toInt * y.toInt ≤ M * N := Int.mul_le_mul hx.2 hy.2 hy.1 (by omega)
  rw [toI64, mul_t (by omega) (by omega)]
theorem updL_same {f : Nat → Int64} {k : Nat} {x : Int64} : vp_updL f k x k = x := pk_uLs
theorem updL_ne {f : Nat → Int64} {k j : Nat} {x : Int64} (h : j ≠ k) : vp_updL f k x j = f j := pk_uLn h
theorem begin_e {rd rr mx ab pr : Nat → Int64} {be rs : Int64} {sz : Int32} {n : Nat} (h1 : 1 ≤ n) (h4 : n ≤ 4) : ∃ rd' rr' : Nat → Int64, X0_begin rd rr mx ab pr be rs sz (nI n) = some (rd', rr', 0, nI n) ∧ ∀ k, k < 4 → rd' k = 0 ∧ rr' k = 0 := by
  unfold X0_begin
  have e1 : (if (4 : Int32) < nI n then (4 : Int32) else nI n) = nI n := if_neg (show ¬ (4 : Int32) < nI n from nI_nlt (a := 4) (b := n) h4 (by decide))
  have e2 : (if (0 : Int32) < nI n then nI n else 0) = nI n := if_pos (show (0 : Int32) < nI n from nI_lt (a := 0) (b := n) (by omega) (by omega))
  rw [e1, e2]
  refine wh3_for (P := fun o => ∃ rd' rr' : Nat → Int64, o = some (rd', rr', 0, nI n) ∧ ∀ k, k < 4 → rd' k = 0 ∧ rr' k = 0) 4 (fun i c u v => c = nI i ∧ ∀ k, k < i → u k = 0 ∧ v k = 0) ?_ ?_ 200 0 _ _ _ (by omega) (by omega) ⟨rfl, fun k hk => by omega⟩
  · intro i c u v hi hI self hself
    obtain ⟨rfl, hz⟩ := hI
    rw [if_neg (show ¬ (4 : Int32) ≤ nI i from nI_ge hi (by decide)), chk_of (inB_nI hi (by decide)), chk_of (inB_nI hi (by decide)), cl_nI (by omega)]
    refine hself _ _ _ ⟨nI_1 i, fun k hk => ?_⟩
    by_cases hki : k = i
    · subst hki; exact ⟨updL_same, updL_same⟩
    · rw [updL_ne hki, updL_ne hki]; exact hz k (by omega)
  · intro c u v hI self
    obtain ⟨rfl, hz⟩ := hI
    rw [if_pos (show (4 : Int32) ≤ nI 4 from nI_le (Nat.le_refl 4) (by decide))]
    exact ⟨u, v, rfl, hz⟩
theorem add_e {rd rr mx ab pr : Nat → Int64} {be rs : Int64} {sz : Int32} {s : StT} {d : SD} (hK : StK s d) (hw : StW d) : ∃ rd' rr' : Nat → Int64, X0_add rd rr mx ab pr be rs sz s.1 s.2.1 s.2.2.1 s.2.2.2.1 s.2.2.2.2.1 s.2.2.2.2.2.1 s.2.2.2.2.2.2 = some (rd', rr', rs + Int64.ofInt (rD d)) ∧ ∀ k, k < 4 → rd' k = rd k + Int64.ofInt (gD d k) ∧ rr' k = rr k + Int64.ofInt (bD d k) := by
  obtain ⟨k1, k2, -⟩ := hK
  have r5 := hw.1.2.2.2.1
  have o9 := hw.2.2.2.2
  unfold X0_add
  simp only [jn1, jn2, X2_at_e k1, X2_at_e k2, ob1_eq]
  refine wh2_for (P := fun o => ∃ rd' rr' : Nat → Int64, o = some (rd', rr', rs + Int64.ofInt (rD d)) ∧ ∀ k, k < 4 → rd' k = rd k + Int64.ofInt (gD d k) ∧ rr' k = rr k + Int64.ofInt (bD d k)) 8 (fun i c u => c = nI i ∧ u = rs + Int64.ofInt (sumI (fun t => (d.2.2.2 t).toInt * (d.2.2.2 t).toInt) i)) ?_ ?_ 200 0 _ _ (by omega) (by omega) ⟨rfl, by show rs = rs + Int64.ofInt 0; simp⟩
  · intro i c u hi hI self hself
    obtain ⟨rfl, rfl⟩ := hI
    rw [if_neg (show ¬ (8 : Int32) ≤ nI i from nI_ge hi (by decide)), atE_nI hi, mul64 (o9 i) (o9 i) (by decide)]
    refine hself _ _ ⟨nI_1 i, ?_⟩
    rw [Int64.add_assoc, ← Int64.ofInt_add]
    rfl
  · intro c u hI self
    obtain ⟨rfl, rfl⟩ := hI
    rw [if_pos (show (8 : Int32) ≤ nI 8 from nI_le (Nat.le_refl 8) (by decide))]
    refine wh3_for (P := fun o => ∃ rd' rr' : Nat → Int64, o = some (rd', rr', rs + Int64.ofInt (rD d)) ∧ ∀ k, k < 4 → rd' k = rd k + Int64.ofInt (gD d k) ∧ rr' k = rr k + Int64.ofInt (bD d k)) 4 (fun i c u v => c = nI i ∧ (∀ k, k < i → u k = rd k + Int64.ofInt (gD d k) ∧ v k = rr k + Int64.ofInt (bD d k)) ∧ ∀ k, i ≤ k → k < 4 → u k = rd k ∧ v k = rr k) ?_ ?_ 200 0 _ _ _ (by omega) (by omega) ⟨rfl, fun k hk => by omega, fun k _ _ => ⟨rfl, rfl⟩⟩
    · intro k c u v hk hI self hself
      obtain ⟨rfl, h1, h2⟩ := hI
      rw [if_neg (show ¬ (4 : Int32) ≤ nI k from nI_ge hk (by decide))]
      refine wh3_for (P := fun o => ∃ rd' rr' : Nat → Int64, o = some (rd', rr', rs + Int64.ofInt (rD d)) ∧ ∀ k, k < 4 → rd' k = rd k + Int64.ofInt (gD d k) ∧ rr' k = rr k + Int64.ofInt (bD d k)) 3 (fun i c u' v' => c = nI i ∧ u' k = rd k + Int64.ofInt (sumI (fun i => (d.2.1 i).toInt * (d.2.1 (i + k)).toInt) i) ∧ v' k = rr k + Int64.ofInt (sumI (fun i => (d.2.1 i).toInt * (d.2.2.2 (i + k)).toInt) i) ∧ ∀ j, j ≠ k → u' j = u j ∧ v' j = v j) ?_ ?_ 200 0 _ _ _ (by omega) (by omega) ⟨rfl, by rw [(h2 k (Nat.le_refl k) hk).1]; show rd k = rd k + Int64.ofInt 0; simp, by rw [(h2 k (Nat.le_refl k) hk).2]; show rr k = rr k + Int64.ofInt 0; simp, fun j _ => ⟨rfl, rfl⟩⟩
      · intro i c u' v' hi hI self2 hself2
        obtain ⟨rfl, h3, h4, h5⟩ := hI
        rw [if_neg (show ¬ (3 : Int32) ≤ nI i from nI_ge hi (by decide))]
        simp only [chk_of (inB_nI hk (by decide)), cl_nI (show k < 2 ^ 31 by omega), nI_add, atE_nI (show i < 8 by omega), atE_nI (show i + k < 8 by omega)]
        rw [mul64 (r5 i) (r5 (i + k)) (by decide), mul64 (r5 i) (o9 (i + k)) (by decide)]
        refine hself2 _ _ _ ⟨nI_1 i, ?_, ?_, fun j hj => ?_⟩
        · rw [updL_same, h3, Int64.add_assoc, ← Int64.ofInt_add]; rfl
        · rw [updL_same, h4, Int64.add_assoc, ← Int64.ofInt_add]; rfl
        · rw [updL_ne hj, updL_ne hj]; exact h5 j hj
      · intro c u' v' hI self2
        obtain ⟨rfl, h3, h4, h5⟩ := hI
        rw [if_pos (show (3 : Int32) ≤ nI 3 from nI_le (Nat.le_refl 3) (by decide))]
        refine hself _ _ _ ⟨nI_1 k, fun j hj => ?_, fun j hj hj4 => ?_⟩
        · by_cases hjk : j = k
          · subst hjk; exact ⟨h3, h4⟩
          · rw [(h5 j hjk).1, (h5 j hjk).2]; exact h1 j (by omega)
        · rw [(h5 j (by omega)).1, (h5 j (by omega)).2]; exact h2 j (by omega) hj4
    · intro c u v hI self
      obtain ⟨rfl, h1, h2⟩ := hI
      rw [if_pos (show (4 : Int32) ≤ nI 4 from nI_le (Nat.le_refl 4) (by decide))]
      exact ⟨u, v, rfl, h1⟩
/-- a storm's bit -/
def bitS (p : Int32) (s : Nat) : Prop := ((p >>> (nI s &&& 31)) &&& (1 : Int32)) = (1 : Int32)
def bitB (p : Int32) (s : Nat) : Bool := ((p >>> (nI s &&& 31)) &&& (1 : Int32)) == (1 : Int32)
def totS (p : Int32) (st : Nat → SD) (f : SD → Int) : Nat → Int
  | 0 => 0
  | s + 1 => totS p st f s + cond (bitB p s) (f (st s)) 0
