/-! ===== rows of whole numbers ===== -/
def okI (x d : Int) : Prop := x - x / d * d = 0 ∧ x / d ≤ 99
theorem ok_same {x y d e : Int} (hd : 0 < d) (he : 0 < e) (h : x * e = y * d) : x / d = y / e ∧ (okI x d ↔ okI y e) := by
  have q : x / d = y / e := by
    rw [← Int.mul_ediv_mul_of_pos_left x d he, h, Int.mul_comm d e, Int.mul_ediv_mul_of_pos_left y e hd]
  refine ⟨q, ?_⟩
  unfold okI
  rw [q]
  have k : (x - y / e * d) * e = (y - y / e * e) * d := by
    rw [Int.sub_mul, Int.sub_mul, h, Int.mul_assoc, Int.mul_assoc, Int.mul_comm d e]
  have := zero_same hd he k
  constructor
  · intro ⟨a, b⟩; exact ⟨this.mp a, b⟩
  · intro ⟨a, b⟩; exact ⟨this.mpr a, b⟩
theorem div64p {x d : Int} (hx : R64 x) (hx0 : 0 ≤ x) (hd : R64 d) (hd0 : 0 < d) : Int64.ofInt x / Int64.ofInt d = Int64.ofInt (x / d) := by
  have b1 : 0 ≤ x / d := Int.ediv_nonneg hx0 (by omega)
  have b2 : x / d ≤ x := Int.ediv_le_self d hx0
  rw [eq64, of_t ⟨by omega, by have := hx.2; omega⟩, Int64.toInt_div_of_ne_left _ _ (fun z => by
    have := congrArg Int64.toInt z
    rw [of_t hx] at this
    have e : Int64.minValue.toInt = -9223372036854775808 := rfl
    omega), of_t hx, of_t hd, Int.tdiv_eq_ediv_of_nonneg hx0]
theorem ne0l_of {d : Int} (hd : R64 d) (hd0 : 0 < d) : ne0l (Int64.ofInt d) = true := by
  have : Int64.ofInt d ≠ 0 := fun z => by have := (of0 hd).mp z; omega
  simp [ne0l, this]
theorem le64_0 {d : Int} (hd : R64 d) (hd0 : 0 < d) : ¬ Int64.ofInt d ≤ 0 := fun z => by
  have := Int64.le_iff_toInt_le.mp z
  rw [of_t hd, k0] at this
  omega
def vI (x d : Int) : Int32 := Int64.toInt32 (Int64.ofInt (x / d))
theorem vI_b {x d : Int} (hx0 : 0 ≤ x) (hd0 : 0 < d) (h : x / d ≤ 99) : 0 ≤ (vI x d).toInt ∧ (vI x d).toInt ≤ 99 := by
  have b1 : 0 ≤ x / d := Int.ediv_nonneg hx0 (by omega)
  unfold vI
  generalize x / d = c at *
  have : ∃ n : Nat, c = n ∧ n < 100 := ⟨c.toNat, by omega, by omega⟩
  obtain ⟨n, rfl, hn⟩ := this
  have D : ∀ n : Nat, n < 100 → 0 ≤ (Int64.toInt32 (Int64.ofInt (n : Int))).toInt ∧ (Int64.toInt32 (Int64.ofInt (n : Int))).toInt ≤ 99 := by decide +kernel
  exact D n hn
/-- the test of one number -/
theorem tst {α : Type} {x d : Int} (hx : R64 x) (hx0 : 0 ≤ x) (hd : R64 d) (hd0 : 0 < d) {P : α → Prop} {y z : α} (h1 : okI x d → P y) (h2 : ¬ okI x d → P z) : P (if (Int64.ofInt x - Int64.ofInt x / Int64.ofInt d * Int64.ofInt d) = (0 : Int64) then (if (99 : Int64) < (Int64.ofInt x / Int64.ofInt d) then z else y) else z) := by
  have b1 : 0 ≤ x / d := Int.ediv_nonneg hx0 (by omega)
  have b2 : x / d ≤ x := Int.ediv_le_self d hx0
  have b3 := Int.emod_nonneg x (show d ≠ 0 by omega)
  have b4 := Int.emod_lt_of_pos x hd0
  have b5 := Int.emod_add_mul_ediv x d
  have b6 : x - x / d * d = x % d := by rw [Int.mul_comm (x / d) d]; omega
  rw [div64p hx hx0 hd hd0, ← Int64.ofInt_mul, ← Int64.ofInt_sub]
  have r1 : R64 (x - x / d * d) := by rw [b6]; exact ⟨by omega, by have := hd.2; omega⟩
  have r2 : R64 (x / d) := ⟨by omega, by have := hx.2; omega⟩
  by_cases c1 : x - x / d * d = 0
  · rw [if_pos ((of0 r1).mpr c1)]
    have e99 : (99 : Int64).toInt = 99 := rfl
    by_cases c2 : 99 < x / d
    · rw [if_pos ((lt64 _ _).mpr (by rw [of_t r2, e99]; exact c2))]
      exact h2 (fun z => by have := z.2; omega)
    · rw [if_neg (fun z => c2 (by have := (lt64 _ _).mp z; rw [of_t r2, e99] at this; exact this))]
      exact h1 ⟨c1, by omega⟩
  · rw [if_neg (fun z => c1 ((of0 r1).mp z))]
    exact h2 (fun z => c1 z.1)
def AllOk (N : Nat → Int) (D : Int) (n : Nat) : Prop := ∀ k, k < n → okI (N k) D
theorem unitNumbers_e {rd rr mx ab pr : Nat → Int64} {rs : Int64} {N : Nat → Int} {D : Int} {n : Nat} (h4 : n ≤ 4) (hN : ∀ k, k < n → R64 (N k) ∧ 0 ≤ N k) (hD : R64 D) (hD0 : 0 < D) (ha : ∀ j, j < n → ab j = Int64.ofInt (N j)) : ∃ fl : Int32, X0_isOfUnitNumbers rd rr mx ab pr (Int64.ofInt D) rs (nI n) = some fl ∧ ((fl = 1 ∧ AllOk N D n) ∨ (fl = 0 ∧ ¬ AllOk N D n)) := by
  unfold X0_isOfUnitNumbers
  rw [jn1_u, if_neg (le64_0 hD hD0)]
  dsimp only
  refine jn1_wp (P := fun o => ∃ fl : Int32, o = some fl ∧ ((fl = 1 ∧ AllOk N D n) ∨ (fl = 0 ∧ ¬ AllOk N D n))) (fun x => (x = 1 ∧ AllOk N D n) ∨ (x = 0 ∧ ¬ AllOk N D n)) ?_ ?_
  · intro x hx
    refine ⟨x, ?_, hx⟩
    rcases hx with ⟨rfl, -⟩ | ⟨rfl, -⟩ <;> rfl
  · intro J hJ
    refine wh2_for (P := fun o => ∃ fl : Int32, o = some fl ∧ ((fl = 1 ∧ AllOk N D n) ∨ (fl = 0 ∧ ¬ AllOk N D n))) n (fun k x c => c = nI k ∧ ((x = 1 ∧ AllOk N D k) ∨ (x = 0 ∧ ¬ AllOk N D n))) ?_ ?_ 200 0 _ _ (by omega) (by omega) ⟨rfl, Or.inl ⟨rfl, fun k hk => by omega⟩⟩
    · intro k x c hk hI self hself
      obtain ⟨rfl, hx⟩ := hI
      rw [if_neg (nI_ge hk (by omega))]
      rcases hx with ⟨rfl, hok⟩ | ⟨rfl, hno⟩
      · rw [if_neg (by decide), jn1_u, if_neg (le64_0 hD hD0), chk_of (inB_nI (show k < 4 by omega) (by decide)), chk_of (ne0l_of hD hD0), cl_nI (by omega), ha k hk, chk_of (inB_nI (show k < 4 by omega) (by decide)), chk_of (ne0l_of hD hD0)]
        refine tst (hN k hk).1 (hN k hk).2 hD hD0 (P := fun o => ∃ fl : Int32, o = some fl ∧ ((fl = 1 ∧ AllOk N D n) ∨ (fl = 0 ∧ ¬ AllOk N D n))) ?_ ?_
        · intro hk1
          refine hself _ _ ⟨nI_1 k, Or.inl ⟨rfl, fun j hj => ?_⟩⟩
          by_cases c : j = k
          · subst c; exact hk1
          · exact hok j (by omega)
        · intro hk1
          exact hself _ _ ⟨nI_1 k, Or.inr ⟨rfl, fun z => hk1 (z k hk)⟩⟩
      · rw [if_pos rfl]
        exact hJ _ (Or.inr ⟨rfl, hno⟩)
    · intro x c hI self
      obtain ⟨rfl, hx⟩ := hI
      rw [if_pos (nI_le (Nat.le_refl n) (by omega))]
      exact hJ _ hx
theorem isWhole_e {I : Nat → Int32} {A : Nat → Nat → Int32} {F : Nat → Int64} {L : Nat → Nat → Int64} {N : Nat → Int} {D : Int} {n : Nat} (h4 : n ≤ 4) (hN : ∀ k, k < n → R64 (N k) ∧ 0 ≤ N k) (hD : R64 D) (hD0 : 0 < D) (ha : ∀ j, j < n → L 31 j = Int64.ofInt (N j)) (hb : F 30 = Int64.ofInt D) : ∃ fl : Int32, X6_isWhole I A F L (nI n) = some fl ∧ ((fl = 1 ∧ AllOk N D n) ∨ (fl = 0 ∧ ¬ AllOk N D n)) := by
  unfold X6_isWhole
  rw [hb]
  refine jn1_wp (P := fun o => ∃ fl : Int32, o = some fl ∧ ((fl = 1 ∧ AllOk N D n) ∨ (fl = 0 ∧ ¬ AllOk N D n))) (fun x => (x = 1 ∧ AllOk N D n) ∨ (x = 0 ∧ ¬ AllOk N D n)) ?_ ?_
  · intro x hx
    refine ⟨x, ?_, hx⟩
    rcases hx with ⟨rfl, -⟩ | ⟨rfl, -⟩ <;> rfl
  · intro J hJ
    refine wh2_for (P := fun o => ∃ fl : Int32, o = some fl ∧ ((fl = 1 ∧ AllOk N D n) ∨ (fl = 0 ∧ ¬ AllOk N D n))) n (fun k x c => c = nI k ∧ ((x = 1 ∧ AllOk N D k) ∨ (x = 0 ∧ ¬ AllOk N D n))) ?_ ?_ 200 0 _ _ (by omega) (by omega) ⟨rfl, Or.inl ⟨rfl, fun k hk => by omega⟩⟩
    · intro k x c hk hI self hself
      obtain ⟨rfl, hx⟩ := hI
      rw [if_neg (nI_ge hk (by omega)), jn1_u]
      rcases hx with ⟨rfl, hok⟩ | ⟨rfl, hno⟩
      · rw [if_neg (by decide), chk_of (inB_nI (show k < 4 by omega) (by decide)), chk_of (ne0l_of hD hD0), cl_nI (by omega), ha k hk, chk_of (inB_nI (show k < 4 by omega) (by decide)), chk_of (ne0l_of hD hD0)]
        refine tst (hN k hk).1 (hN k hk).2 hD hD0 (P := fun o => ∃ fl : Int32, o = some fl ∧ ((fl = 1 ∧ AllOk N D n) ∨ (fl = 0 ∧ ¬ AllOk N D n))) ?_ ?_
        · intro hk1
          refine hself _ _ ⟨nI_1 k, Or.inl ⟨rfl, fun j hj => ?_⟩⟩
          by_cases c : j = k
          · subst c; exact hk1
          · exact hok j (by omega)
        · intro hk1
          exact hself _ _ ⟨nI_1 k, Or.inr ⟨rfl, fun z => hk1 (z k hk)⟩⟩
      · rw [if_pos rfl]
        exact hself _ _ ⟨nI_1 k, Or.inr ⟨rfl, hno⟩⟩
    · intro x c hI self
      obtain ⟨rfl, hx⟩ := hI
      rw [if_pos (nI_le (Nat.le_refl n) (by omega))]
      exact hJ _ hx
def padE (n : Nat) (v : Nat → Int32) (j : Nat) : Int32 := if j < n then v j else 0
theorem writeInto_e {rd rr mx ab pr : Nat → Int64} {rs : Int64} {N : Nat → Int} {D : Int} {n : Nat} (h4 : n ≤ 4) (hN : ∀ k, k < n → R64 (N k) ∧ 0 ≤ N k) (hD : R64 D) (hD0 : 0 < D) (ha : ∀ j, j < n → ab j = Int64.ofInt (N j)) (nx : Int32) (fx : Nat → Int32) : ∃ n' f', X0_writeInto rd rr mx ab pr (Int64.ofInt D) rs (nI n) nx fx = some (n', f') ∧ RowK n' f' n (padE n (fun k => vI (N k) D)) := by
  unfold X0_writeInto
  simp only [X2_clear]
  rw [ob1_eq]
  refine wh3_for (P := fun o => ∃ n' f', o = some (n', f') ∧ RowK n' f' n (padE n (fun k => vI (N k) D))) n (fun k c m f => c = nI k ∧ m = nI k ∧ ∀ j, j < k → f j = vI (N j) D) ?_ ?_ 200 0 _ _ _ (by omega) (by omega) ⟨rfl, rfl, fun j hj => by omega⟩
  · intro k c m f hk hI self hself
    obtain ⟨rfl, rfl, hf⟩ := hI
    rw [if_neg (nI_ge hk (by omega)), if_neg (le64_0 hD hD0), chk_of (inB_nI (show k < 4 by omega) (by decide)), chk_of (ne0l_of hD hD0), cl_nI (by omega), ha k hk, div64p (hN k hk).1 (hN k hk).2 hD hD0]
    unfold X2_add
    rw [if_neg (show ¬ (8 : Int32) ≤ nI k from nI_ge (show k < 8 by omega) (by decide)), chk_of (inB_nI (show k < 8 by omega) (by decide)), cl_nI (by omega), ob2_eq]
    refine hself _ _ _ ⟨nI_1 k, nI_1 k, fun j hj => ?_⟩
    by_cases c : j = k
    · subst c; rw [pk_us]; rfl
    · rw [pk_un c]; exact hf j (by omega)
  · intro c m f hI self
    obtain ⟨rfl, rfl, hf⟩ := hI
    rw [if_pos (nI_le (Nat.le_refl n) (by omega))]
    refine ⟨_, _, rfl, rfl, by omega, fun j hj => ?_, fun j h1 h2 => ?_⟩
    · unfold padE; rw [if_pos hj]; exact hf j hj
    · unfold padE; rw [if_neg (by omega)]
