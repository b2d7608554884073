theorem jn1_u {A1 R : Type} (K : A1 → Option R) (f : (A1 → Option R) → Option R) : jn1 K f = f K := rfl
theorem jn2_u {A1 A2 R : Type} (K : A1 → A2 → Option R) (f : (A1 → A2 → Option R) → Option R) : jn2 K f = f K := rfl
theorem jn3_u {A1 A2 A3 R : Type} (K : A1 → A2 → A3 → Option R) (f : (A1 → A2 → A3 → Option R) → Option R) : jn3 K f = f K := rfl
theorem jn0_u {R : Type} (K : Option R) (f : (Option R) → Option R) : jn0 K f = f K := rfl
theorem determinant_e {rd rr mx ab pr : Nat → Int64} {be rs : Int64} {sz : Int32} {g bb : Nat → Int} (hg : Vec rd g) (hb : Vec rr bb) {f w : Nat} (hf : f < 16) (hw : w ≤ 4) : ∃ mx', X0_determinant rd rr mx ab pr be rs sz (nI f) (nI w) = some (Int64.ofInt (det4 (ent g bb f.testBit w)), mx') := by
  unfold X0_determinant
  rw [jn1_u]
  refine wh2_for (P := fun o => ∃ mx', o = some (Int64.ofInt (det4 (ent g bb f.testBit w)), mx')) 4 (fun i c m => c = nI i ∧ ∀ r k, r < i → k < 4 → m (4 * r + k) = Int64.ofInt (ent g bb f.testBit w r k)) ?_ ?_ 200 0 _ _ (by omega) (by omega) ⟨rfl, fun r k hr => by omega⟩
  · intro i c m hi hI self hself
    obtain ⟨rfl, h1⟩ := hI
    rw [if_neg (show ¬ (4 : Int32) ≤ nI i from nI_ge hi (by decide)), jn1_u]
    refine wh2_for (P := fun o => ∃ mx', o = some (Int64.ofInt (det4 (ent g bb f.testBit w)), mx')) 4 (fun j c m' => c = nI j ∧ (∀ r k, r < i → k < 4 → m' (4 * r + k) = Int64.ofInt (ent g bb f.testBit w r k)) ∧ ∀ k, k < j → m' (4 * i + k) = Int64.ofInt (ent g bb f.testBit w i k)) ?_ ?_ 200 0 _ _ (by omega) (by omega) ⟨rfl, h1, fun k hk => by omega⟩
    · intro j c m' hj hI self2 hself2
      obtain ⟨rfl, h2, h3⟩ := hI
      rw [if_neg (show ¬ (4 : Int32) ≤ nI j from nI_ge hj (by decide)), entry_e hg hb hf hi hj hw, ob1_eq]
      have e : nI i * (4 : Int32) + nI j = nI (4 * i + j) := by rw [show (4 : Int32) = nI 4 from rfl, pk_mul, nI_add, Nat.mul_comm]
      rw [e, chk_of (inB_nI (show 4 * i + j < 16 by omega) (by decide)), cl_nI (by omega)]
      refine hself2 _ _ ⟨nI_1 j, fun r k hr hk => ?_, fun k hk => ?_⟩
      · rw [updL_ne (by omega)]; exact h2 r k hr hk
      · by_cases hkj : k = j
        · subst hkj; exact updL_same
        · rw [updL_ne (by omega)]; exact h3 k (by omega)
    · intro c m' hI self2
      obtain ⟨rfl, h2, h3⟩ := hI
      rw [if_pos (show (4 : Int32) ≤ nI 4 from nI_le (Nat.le_refl 4) (by decide))]
      refine hself _ _ ⟨nI_1 i, fun r k hr hk => ?_⟩
      by_cases hri : r = i
      · subst hri; exact h3 k hk
      · exact h2 r k (by omega) hk
  · intro c m hI self
    obtain ⟨rfl, h1⟩ := hI
    rw [if_pos (show (4 : Int32) ≤ nI 4 from nI_le (Nat.le_refl 4) (by decide))]
    dsimp only
    rw [show (0 : Int32) = nI 0 from rfl, show (1 : Int32) = nI 1 from rfl, show (2 : Int32) = nI 2 from rfl, show (3 : Int32) = nI 3 from rfl, show (8 : Int32) = nI 8 from rfl]
    rw [minor_e 0 0 1 (by decide) (by decide), ob1_eq, minor_e 8 2 3 (by decide) (by decide), ob1_eq, minor_e 0 0 2 (by decide) (by decide), ob1_eq, minor_e 8 1 3 (by decide) (by decide), ob1_eq, minor_e 0 0 3 (by decide) (by decide), ob1_eq, minor_e 8 1 2 (by decide) (by decide), ob1_eq, minor_e 0 1 2 (by decide) (by decide), ob1_eq, minor_e 8 0 3 (by decide) (by decide), ob1_eq, minor_e 0 1 3 (by decide) (by decide), ob1_eq, minor_e 8 0 2 (by decide) (by decide), ob1_eq, minor_e 0 2 3 (by decide) (by decide), ob1_eq, minor_e 8 0 1 (by decide) (by decide), ob1_eq]
    exact ⟨m, congrArg (fun z => some (z, m)) (det64 m _ h1)⟩
