/-! ===== the class's determinants ===== -/
theorem free_bit : ∀ f, f < 16 → ∀ k, k < 4 → (((nI f >>> (nI k &&& 31)) &&& (1 : Int32)) == (1 : Int32)) = f.testBit k := by decide +kernel
theorem free_e {f k : Nat} (hf : f < 16) (hk : k < 4) : X0_isFree (nI f) (nI k) = some (if f.testBit k = true then 1 else 0) := by
  have h := free_bit f hf k hk
  unfold X0_isFree
  cases hb : f.testBit k with
  | true => rw [hb] at h; rw [if_pos (by simpa using h)]; rfl
  | false => rw [hb] at h; rw [if_neg (by simpa using h)]; rfl
theorem ds_e : ∀ r, r < 4 → ∀ c, c < 4 → (if 0 ≤ (nI r - nI c) then (nI r - nI c) else 0 - (nI r - nI c)) = nI (ds r c) := by decide +kernel
theorem ds_lt : ∀ r, r < 4 → ∀ c, c < 4 → ds r c < 4 := by decide
def Vec (u : Nat → Int64) (x : Nat → Int) : Prop := ∀ k, k < 4 → u k = Int64.ofInt (x k)
theorem entry_e {rd rr mx ab pr : Nat → Int64} {be rs : Int64} {sz : Int32} {g bb : Nat → Int} (hg : Vec rd g) (hb : Vec rr bb) {f r c w : Nat} (hf : f < 16) (hr : r < 4) (hc : c < 4) (hw : w ≤ 4) : X0_entry rd rr mx ab pr be rs sz (nI f) (nI r) (nI c) (nI w) = some (Int64.ofInt (ent g bb f.testBit w r c)) := by
  unfold X0_entry ent
  rw [free_e hf hr, free_e hf hc, ob1_eq]
  simp only [ob1_eq, ite10, jn0, ds_e r hr c hc, nI_eq (show c < 2 ^ 31 by omega) (show w < 2 ^ 31 by omega), nI_eq (show r < 2 ^ 31 by omega) (show c < 2 ^ 31 by omega), chk_of (inB_nI hr (by decide)), chk_of (inB_nI (ds_lt r hr c hc) (by decide)), cl_nI (show r < 2 ^ 31 by omega), cl_nI (show ds r c < 2 ^ 31 by have := ds_lt r hr c hc; omega), hb r hr, hg _ (ds_lt r hr c hc)]
  by_cases c1 : c = w
  · rw [if_pos c1, if_pos c1]
    cases f.testBit r <;> rfl
  · rw [if_neg c1, if_neg c1]
    cases f.testBit r <;> cases f.testBit c <;> by_cases c2 : r = c <;> simp [c2]
theorem minor_e {rd rr mx ab pr : Nat → Int64} {be rs : Int64} {sz : Int32} (s l r : Nat) (hl : s + 4 + l < 16) (hr : s + 4 + r < 16) : X0_minor rd rr mx ab pr be rs sz (nI s) (nI l) (nI r) = some (mx (s + l) * mx (s + 4 + r) - mx (s + r) * mx (s + 4 + l)) := by
  unfold X0_minor
  rw [show (4 : Int32) = nI 4 from rfl]
  simp only [nI_add, chk_of (inB_nI (show s + l < 16 by omega) (by decide)), chk_of (inB_nI (show s + r < 16 by omega) (by decide)), chk_of (inB_nI hl (by decide)), chk_of (inB_nI hr (by decide)), cl_nI (show s + l < 2 ^ 31 by omega), cl_nI (show s + r < 2 ^ 31 by omega), cl_nI (show s + 4 + l < 2 ^ 31 by omega), cl_nI (show s + 4 + r < 2 ^ 31 by omega)]
/-! bounds -/
theorem nab_mul {x y : Int} {X Y : Nat} (hx : x.natAbs ≤ X) (hy : y.natAbs ≤ Y) : (x * y).natAbs ≤ X * Y := by
  rw [Int.natAbs_mul]; exact Nat.mul_le_mul hx hy
theorem nab_minor {a b c d : Int} {X Y : Nat} (ha : 0 ≤ a ∧ a ≤ X) (hb : 0 ≤ b ∧ b ≤ Y) (hc : 0 ≤ c ∧ c ≤ Y) (hd : 0 ≤ d ∧ d ≤ X) : (a * b - c * d).natAbs ≤ X * Y := by
  have h1 : a * b ≤ (X : Int) * Y := Int.mul_le_mul ha.2 hb.2 hb.1 (by omega)
  have h2 : c * d ≤ (Y : Int) * X := Int.mul_le_mul hc.2 hd.2 hd.1 (by omega)
  have h3 : 0 ≤ a * b := Int.mul_nonneg ha.1 hb.1
  have h4 : 0 ≤ c * d := Int.mul_nonneg hc.1 hd.1
  have h5 : (Y : Int) * X = X * Y := Int.mul_comm _ _
  have h6 : ((X * Y : Nat) : Int) = (X : Int) * Y := Int.natCast_mul _ _
  omega
theorem det4_bound {m : Nat → Nat → Int} {M : Nat → Nat} (h : ∀ r c, r < 4 → c < 4 → 0 ≤ m r c ∧ m r c ≤ (M c : Int)) : (det4 m).natAbs ≤ (M 0 * M 1) * (M 2 * M 3) + (M 0 * M 2) * (M 1 * M 3) + (M 0 * M 3) * (M 1 * M 2) + (M 1 * M 2) * (M 0 * M 3) + (M 1 * M 3) * (M 0 * M 2) + (M 2 * M 3) * (M 0 * M 1) := by
  have k1 := nab_mul (nab_minor (h 0 0 (by omega) (by omega)) (h 1 1 (by omega) (by omega)) (h 0 1 (by omega) (by omega)) (h 1 0 (by omega) (by omega))) (nab_minor (h 2 2 (by omega) (by omega)) (h 3 3 (by omega) (by omega)) (h 2 3 (by omega) (by omega)) (h 3 2 (by omega) (by omega)))
  have k2 := nab_mul (nab_minor (h 0 0 (by omega) (by omega)) (h 1 2 (by omega) (by omega)) (h 0 2 (by omega) (by omega)) (h 1 0 (by omega) (by omega))) (nab_minor (h 2 1 (by omega) (by omega)) (h 3 3 (by omega) (by omega)) (h 2 3 (by omega) (by omega)) (h 3 1 (by omega) (by omega)))
  have k3 := nab_mul (nab_minor (h 0 0 (by omega) (by omega)) (h 1 3 (by omega) (by omega)) (h 0 3 (by omega) (by omega)) (h 1 0 (by omega) (by omega))) (nab_minor (h 2 1 (by omega) (by omega)) (h 3 2 (by omega) (by omega)) (h 2 2 (by omega) (by omega)) (h 3 1 (by omega) (by omega)))
  have k4 := nab_mul (nab_minor (h 0 1 (by omega) (by omega)) (h 1 2 (by omega) (by omega)) (h 0 2 (by omega) (by omega)) (h 1 1 (by omega) (by omega))) (nab_minor (h 2 0 (by omega) (by omega)) (h 3 3 (by omega) (by omega)) (h 2 3 (by omega) (by omega)) (h 3 0 (by omega) (by omega)))
  have k5 := nab_mul (nab_minor (h 0 1 (by omega) (by omega)) (h 1 3 (by omega) (by omega)) (h 0 3 (by omega) (by omega)) (h 1 1 (by omega) (by omega))) (nab_minor (h 2 0 (by omega) (by omega)) (h 3 2 (by omega) (by omega)) (h 2 2 (by omega) (by omega)) (h 3 0 (by omega) (by omega)))
  have k6 := nab_mul (nab_minor (h 0 2 (by omega) (by omega)) (h 1 3 (by omega) (by omega)) (h 0 3 (by omega) (by omega)) (h 1 2 (by omega) (by omega))) (nab_minor (h 2 0 (by omega) (by omega)) (h 3 1 (by omega) (by omega)) (h 2 1 (by omega) (by omega)) (h 3 0 (by omega) (by omega)))
  unfold det4
  omega
