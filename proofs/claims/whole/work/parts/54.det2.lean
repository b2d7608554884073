theorem det64 (m : Nat → Int64) (E : Nat → Nat → Int) (h1 : ∀ r k, r < 4 → k < 4 → m (4 * r + k) = Int64.ofInt (E r k)) : 0 + (m (0 + 0) * m (0 + 4 + 1) - m (0 + 1) * m (0 + 4 + 0)) * (m (8 + 2) * m (8 + 4 + 3) - m (8 + 3) * m (8 + 4 + 2)) - (m (0 + 0) * m (0 + 4 + 2) - m (0 + 2) * m (0 + 4 + 0)) * (m (8 + 1) * m (8 + 4 + 3) - m (8 + 3) * m (8 + 4 + 1)) + (m (0 + 0) * m (0 + 4 + 3) - m (0 + 3) * m (0 + 4 + 0)) * (m (8 + 1) * m (8 + 4 + 2) - m (8 + 2) * m (8 + 4 + 1)) + (m (0 + 1) * m (0 + 4 + 2) - m (0 + 2) * m (0 + 4 + 1)) * (m (8 + 0) * m (8 + 4 + 3) - m (8 + 3) * m (8 + 4 + 0)) - (m (0 + 1) * m (0 + 4 + 3) - m (0 + 3) * m (0 + 4 + 1)) * (m (8 + 0) * m (8 + 4 + 2) - m (8 + 2) * m (8 + 4 + 0)) + (m (0 + 2) * m (0 + 4 + 3) - m (0 + 3) * m (0 + 4 + 2)) * (m (8 + 0) * m (8 + 4 + 1) - m (8 + 1) * m (8 + 4 + 0)) = Int64.ofInt (det4 E) := by
  have e00 := h1 0 0 (by omega) (by omega)
  have e01 := h1 0 1 (by omega) (by omega)
  have e02 := h1 0 2 (by omega) (by omega)
  have e03 := h1 0 3 (by omega) (by omega)
  have e10 := h1 1 0 (by omega) (by omega)
  have e11 := h1 1 1 (by omega) (by omega)
  have e12 := h1 1 2 (by omega) (by omega)
  have e13 := h1 1 3 (by omega) (by omega)
  have e20 := h1 2 0 (by omega) (by omega)
  have e21 := h1 2 1 (by omega) (by omega)
  have e22 := h1 2 2 (by omega) (by omega)
  have e23 := h1 2 3 (by omega) (by omega)
  have e30 := h1 3 0 (by omega) (by omega)
  have e31 := h1 3 1 (by omega) (by omega)
  have e32 := h1 3 2 (by omega) (by omega)
  have e33 := h1 3 3 (by omega) (by omega)
  simp only [Nat.mul_zero, Nat.zero_add, Nat.reduceMul, Nat.reduceAdd, Nat.mul_one, Nat.add_zero] at e00 e01 e02 e03 e10 e11 e12 e13 e20 e21 e22 e23 e30 e31 e32 e33 ⊢
  simp only [det4, Int64.ofInt_add, Int64.ofInt_sub, Int64.ofInt_mul, ← e00, ← e01, ← e02, ← e03, ← e10, ← e11, ← e12, ← e13, ← e20, ← e21, ← e22, ← e23, ← e30, ← e31, ← e32, ← e33, Int64.zero_add]
