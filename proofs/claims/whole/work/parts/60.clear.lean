theorem div64' {d x : Int} (hd : 0 < d) (hd2 : R64 d) (h : R64 (d * x)) : Int64.ofInt (d * x) / Int64.ofInt d = Int64.ofInt x := by
  have e : d = ((d.toNat : Nat) : Int) := by omega
  have h2 := hd2.2
  have e2 : Int64.ofInt d = lN d.toNat := by rw [eq64, of_t hd2, pk_lT (by omega)]; exact e
  rw [e2, div64 h (by omega) (by omega) ⟨x, by rw [← e]⟩, ← e, Int.mul_ediv_cancel_left _ (by omega)]
theorem ix5 (i j : Nat) : (5 : Int32) * nI i + nI j = nI (5 * i + j) := ixm (m := 5) 5 rfl
theorem nI_neI {a b : Nat} (h : a ≠ b) (ha : a < 2 ^ 31) (hb : b < 2 ^ 31) : ¬ nI a = nI b := fun z => h ((nI_eq ha hb).mp z)
theorem clear_e {I : Nat → Int32} {A : Nat → Nat → Int32} {F : Nat → Int64} {L : Nat → Nat → Int64} {k m : Nat} (hk : k < m) (hm : m ≤ 4) {E E' : Nat → Nat → Int} {d : Int} (hd : 0 < d) (hd2 : R64 d) (hF : F 30 = Int64.ofInt d) (hE : ∀ i j, i < m → j ≤ m → L 28 (5 * i + j) = Int64.ofInt (E i j)) (hp : ∀ j, j ≤ m → E' k j = E k j) (hs : ∀ i j, i < m → j ≤ m → i ≠ k → d * E' i j = E k k * E i j - E i k * E k j ∧ R64 (d * E' i j)) :
    ∃ sq', X6_clear I A F L (nI k) (nI m) = some (sq', Int64.ofInt (E k k)) ∧ ∀ i j, i < m → j ≤ m → sq' (5 * i + j) = Int64.ofInt (E' i j) := by
  unfold X6_clear
  rw [ix5, chk_of (inB_nI (show 5 * k + k < 20 by omega) (by decide)), cl_nI (show 5 * k + k < 2 ^ 31 by omega), hE k k hk (by omega), jn1_u]
  refine wh2_for (P := fun o => ∃ sq' : Nat → Int64, o = some (sq', Int64.ofInt (E k k)) ∧ ∀ i j, i < m → j ≤ m → sq' (5 * i + j) = Int64.ofInt (E' i j)) m (fun i c (q : Nat → Int64) => c = nI i ∧ ∀ i' j, i' < m → j ≤ m → q (5 * i' + j) = Int64.ofInt (if i' < i then E' i' j else E i' j)) ?_ ?_ 200 0 _ _ (by omega) (by omega) ⟨rfl, fun i' j h1 h2 => by rw [if_neg (by omega)]; exact hE i' j h1 h2⟩
  · intro i c q hi hI self hself
    obtain ⟨rfl, hq⟩ := hI
    rw [if_neg (nI_ge hi (by omega)), ix5, chk_of (inB_nI (show 5 * i + k < 20 by omega) (by decide)), cl_nI (show 5 * i + k < 2 ^ 31 by omega), jn1_u]
    rw [hq i k hi (by omega), if_neg (by omega)]
    by_cases hik : i = k
    · subst hik
      rw [wh2_s]
      rw [if_neg (show ¬ nI m < 0 from nI_pos (by omega)), if_pos rfl]
      refine hself _ _ ⟨nI_1 i, fun i' j h1 h2 => ?_⟩
      rw [hq i' j h1 h2]
      by_cases h3 : i' = i
      · subst h3
        rw [if_neg (by omega), if_pos (by omega), hp j h2]
      · by_cases h4 : i' < i
        · rw [if_pos h4, if_pos (by omega)]
        · rw [if_neg h4, if_neg (by omega)]
    · refine wh2_for (P := fun o => ∃ sq' : Nat → Int64, o = some (sq', Int64.ofInt (E k k)) ∧ ∀ i j, i < m → j ≤ m → sq' (5 * i + j) = Int64.ofInt (E' i j)) (m + 1) (fun j c (q' : Nat → Int64) => c = nI j ∧ ∀ i' j', i' < m → j' ≤ m → q' (5 * i' + j') = Int64.ofInt (if i' < i ∨ (i' = i ∧ j' < j) then E' i' j' else E i' j')) ?_ ?_ 200 0 _ _ (by omega) (by omega) ⟨rfl, fun i' j' h1 h2 => by
          rw [hq i' j' h1 h2]
          by_cases h3 : i' < i
          · rw [if_pos h3, if_pos (Or.inl h3)]
          · rw [if_neg h3, if_neg (by omega)]⟩
      · intro j c q' hj hI self2 hself2
        obtain ⟨rfl, hq'⟩ := hI
        rw [if_neg (show ¬ nI m < nI j from nI_nlt (by omega) (by omega)), if_neg (nI_neI hik (by omega) (by omega)), ix5, ix5, chk_of (inB_nI (show 5 * i + j < 20 by omega) (by decide)), chk_of (inB_nI (show 5 * k + j < 20 by omega) (by decide)), hF]
        have hne : ¬ Int64.ofInt d = 0 := fun z => by rw [eq64, of_t hd2, k0] at z; omega
        rw [chk_of (show ne0l (Int64.ofInt d) = true by simp [ne0l, hne]), chk_of (inB_nI (show 5 * i + j < 20 by omega) (by decide)), cl_nI (show 5 * i + j < 2 ^ 31 by omega), cl_nI (show 5 * k + j < 2 ^ 31 by omega)]
        rw [hq' i j hi (by omega), if_neg (by omega), hq' k j hk (by omega)]
        have hkj : (if k < i ∨ (k = i ∧ j < j) then E' k j else E k j) = E k j := by
          split
          · exact hp j (by omega)
          · rfl
        rw [hkj, ← Int64.ofInt_mul, ← Int64.ofInt_mul, ← Int64.ofInt_sub, ← (hs i j hi (by omega) hik).1, div64' hd hd2 (hs i j hi (by omega) hik).2]
        refine hself2 _ _ ⟨nI_1 j, fun i' j' h1 h2 => ?_⟩
        by_cases h3 : i' = i ∧ j' = j
        · obtain ⟨rfl, rfl⟩ := h3
          rw [updL_same, if_pos (by omega)]
        · rw [updL_ne (by omega), hq' i' j' h1 h2]
          by_cases h4 : i' < i ∨ (i' = i ∧ j' < j)
          · rw [if_pos h4, if_pos (by omega)]
          · rw [if_neg h4, if_neg (by omega)]
      · intro c q' hI self2
        obtain ⟨rfl, hq'⟩ := hI
        rw [if_pos (show nI m < nI (m + 1) from nI_lt (by omega) (by omega))]
        refine hself _ _ ⟨nI_1 i, fun i' j' h1 h2 => ?_⟩
        rw [hq' i' j' h1 h2]
        by_cases h4 : i' < i ∨ (i' = i ∧ j' < m + 1)
        · rw [if_pos h4, if_pos (by omega)]
        · rw [if_neg h4, if_neg (by omega)]
  · intro c q hI self
    obtain ⟨rfl, hq⟩ := hI
    rw [if_pos (nI_le (Nat.le_refl m) (by omega))]
    exact ⟨q, rfl, fun i j h1 h2 => by rw [hq i j h1 h2, if_pos h1]⟩
