/-! ===== numbers ===== -/
theorem inB_nI {k n : Nat} (h : k < n) (hn : n < 2 ^ 31) : inB (nI k) n = true := by
  have e : (nI k).toInt = (k : Int) := nI_toInt (by omega)
  simp only [inB, e, decide_eq_true_eq]
  omega
theorem cl_nI {k : Nat} (h : k < 2 ^ 31) : (nI k).toNatClampNeg = k := nI_clamp h
theorem nI_z : (0 : Int32) = nI 0 := rfl
theorem chk_t {α : Type} {o : Option α} : chk true o = o := rfl
theorem chk_of {α : Type} {b : Bool} {o : Option α} (h : b = true) : chk b o = o := by rw [h]; rfl
theorem inB_iff {x : Int32} {n : Nat} : inB x n = true ↔ 0 ≤ x.toInt ∧ x.toInt < n := by simp [inB]
theorem le_iff (x y : Int32) : x ≤ y ↔ x.toInt ≤ y.toInt := Int32.le_iff_toInt_le
theorem lt_iff (x y : Int32) : x < y ↔ x.toInt < y.toInt := Int32.lt_iff_toInt_lt
theorem eq_iff (x y : Int32) : x = y ↔ x.toInt = y.toInt := Int32.toInt_inj.symm
theorem cl_pos {x : Int32} (h : 0 ≤ x.toInt) : (x.toNatClampNeg : Int) = x.toInt := by
  have : x.toNatClampNeg = x.toInt.toNat := rfl
  rw [this]; omega
theorem i32_range (x : Int32) : -2147483648 ≤ x.toInt ∧ x.toInt ≤ 2147483647 := ⟨Int32.le_toInt x, Int32.toInt_le x⟩
theorem i32_of {x : Int32} (h : 0 ≤ x.toInt) : x = nI x.toNatClampNeg := by
  have h1 := cl_pos h
  have h2 := (i32_range x).2
  rw [eq_iff, nI_toInt (by omega)]
  exact h1.symm
theorem bmod32 {z : Int} (h1 : -2147483648 ≤ z) (h2 : z ≤ 2147483647) : z.bmod 4294967296 = z := by
  rw [Int.bmod_eq_of_le] <;> omega
theorem add_t {x y : Int32} (h1 : -2147483648 ≤ x.toInt + y.toInt) (h2 : x.toInt + y.toInt ≤ 2147483647) : (x + y).toInt = x.toInt + y.toInt := by
  rw [Int32.toInt_add]; exact bmod32 h1 h2
theorem sub_t {x y : Int32} (h1 : -2147483648 ≤ x.toInt - y.toInt) (h2 : x.toInt - y.toInt ≤ 2147483647) : (x - y).toInt = x.toInt - y.toInt := by
  rw [Int32.toInt_sub]; exact bmod32 h1 h2
theorem mul_t {x y : Int32} (h1 : -2147483648 ≤ x.toInt * y.toInt) (h2 : x.toInt * y.toInt ≤ 2147483647) : (x * y).toInt = x.toInt * y.toInt := by
  rw [Int32.toInt_mul]; exact bmod32 h1 h2
/-- a row's number at a tick -/
def atE (f : Nat → Int32) (t : Int32) : Int32 := if 0 ≤ t.toInt ∧ t.toInt < 8 then f t.toNatClampNeg else 0
theorem atE_nI {f : Nat → Int32} {k : Nat} (h : k < 8) : atE f (nI k) = f k := by
  unfold atE
  rw [nI_toInt (by omega), if_pos (by omega), cl_nI (by omega)]
theorem atE_out {f : Nat → Int32} {k : Nat} (h : 8 ≤ k) (h2 : k < 2 ^ 31) : atE f (nI k) = 0 := by
  unfold atE
  rw [nI_toInt (by omega), if_neg (by omega)]
/-- a row of the class: its numbers, and 0 behind them -/
def RowK (n : Int32) (f : Nat → Int32) (N : Nat) (h : Nat → Int32) : Prop := n = nI N ∧ N ≤ 8 ∧ (∀ j, j < N → f j = h j) ∧ ∀ j, N ≤ j → j < 8 → h j = 0
theorem X2_at_e {n : Int32} {f : Nat → Int32} {N : Nat} {h : Nat → Int32} (hr : RowK n f N h) (t : Int32) : X2_at n f t = some (atE h t) := by
  obtain ⟨rfl, h8, hf, hz⟩ := hr
  have hN : (nI N).toInt = N := nI_toInt (by omega)
  have t8 : (8 : Int32).toInt = 8 := rfl
  unfold X2_at atE
  by_cases c1 : t < 0
  · have c1' := (lt_iff _ _).mp c1
    rw [show (0 : Int32).toInt = 0 from rfl] at c1'
    rw [if_pos c1, if_neg (by omega)]
  · have c1' : 0 ≤ t.toInt := by
      have := mt (lt_iff _ _).mpr c1
      rw [show (0 : Int32).toInt = 0 from rfl] at this
      omega
    have hcl := cl_pos c1'
    rw [if_neg c1]
    by_cases c2 : nI N ≤ t
    · have c2' := (le_iff _ _).mp c2
      rw [hN] at c2'
      rw [if_pos c2]
      by_cases c3 : t.toInt < 8
      · rw [if_pos ⟨c1', c3⟩, hz _ (by omega) (by omega)]
      · rw [if_neg (by omega)]
    · have c2' : t.toInt < N := by
        have := mt (le_iff _ _).mpr c2
        rw [hN] at this
        omega
      rw [if_neg c2, if_neg (fun z => by have := (le_iff _ _).mp z; rw [t8] at this; omega), chk_of (inB_iff.mpr ⟨c1', by omega⟩), if_pos (by omega), hf _ (by omega)]
def sumE (g : Nat → Int32) : Nat → Int32
  | 0 => 0
  | n + 1 => sumE g n + g n
theorem X2_total_e {n : Int32} {f : Nat → Int32} {N : Nat} {h : Nat → Int32} (hr : RowK n f N h) : X2_total n f = some (sumE h 8) := by
  unfold X2_total
  simp only [jn1]
  refine wh2_for (P := fun o => o = some (sumE h 8)) 8 (fun i a b => a = sumE h i ∧ b = nI i) ?_ ?_ 200 0 _ _ (by omega) (by omega) ⟨rfl, rfl⟩
  · intro i a b hi hI self hself
    obtain ⟨rfl, rfl⟩ := hI
    rw [if_neg (show ¬ (8 : Int32) ≤ nI i from nI_ge hi (by decide)), X2_at_e hr, ob1_eq, atE_nI hi]
    exact hself _ _ ⟨rfl, nI_1 i⟩
  · intro a b hI self
    obtain ⟨rfl, rfl⟩ := hI
    exact if_pos (nI_le (Nat.le_refl 8) (by decide))
def mkE (r p : Nat → Int32) (t : Int32) : Int32 := sumE (fun i => r i * atE p (t - nI i)) 3
theorem X3_rainTimes_e {n1 : Int32} {f1 : Nat → Int32} {n2 : Int32} {f2 : Nat → Int32} {n3 : Int32} {f3 : Nat → Int32} {ev nx : Int32} {fx : Nat → Int32} {N M : Nat} {r p : Nat → Int32} (h1 : RowK n1 f1 N r) (h2 : RowK nx fx M p) (t : Int32) : X3_rainTimes n1 f1 n2 f2 n3 f3 ev nx fx t = some (mkE r p t) := by
  unfold X3_rainTimes
  simp only [jn1]
  refine wh2_for (P := fun o => o = some (mkE r p t)) 3 (fun i a b => a = sumE (fun i => r i * atE p (t - nI i)) i ∧ b = nI i) ?_ ?_ 200 0 _ _ (by omega) (by omega) ⟨rfl, rfl⟩
  · intro i a b hi hI self hself
    obtain ⟨rfl, rfl⟩ := hI
    rw [if_neg (show ¬ (3 : Int32) ≤ nI i from nI_ge hi (by decide)), X2_at_e h1, ob1_eq, X2_at_e h2, ob1_eq, atE_nI (by omega)]
    exact hself _ _ ⟨rfl, nI_1 i⟩
  · intro a b hI self
    obtain ⟨rfl, rfl⟩ := hI
    exact if_pos (nI_le (Nat.le_refl 3) (by decide))
def msE (r p ro : Nat → Int32) : Int32 := sumE (fun i => (mkE r p (nI i) - atE ro (nI i)) * (mkE r p (nI i) - atE ro (nI i))) 21
theorem X3_squaresMissed_e {n1 : Int32} {f1 : Nat → Int32} {n2 : Int32} {f2 : Nat → Int32} {n3 : Int32} {f3 : Nat → Int32} {ev nx : Int32} {fx : Nat → Int32} {N M O : Nat} {r p ro : Nat → Int32} (h1 : RowK n1 f1 N r) (h2 : RowK nx fx M p) (h3 : RowK n2 f2 O ro) : X3_squaresMissed n1 f1 n2 f2 n3 f3 ev nx fx = some (msE r p ro) := by
  unfold X3_squaresMissed
  simp only [jn1]
  refine wh2_for (P := fun o => o = some (msE r p ro)) 21 (fun i a b => a = sumE (fun i => (mkE r p (nI i) - atE ro (nI i)) * (mkE r p (nI i) - atE ro (nI i))) i ∧ b = nI i) ?_ ?_ 200 0 _ _ (by omega) (by omega) ⟨rfl, rfl⟩
  · intro i a b hi hI self hself
    obtain ⟨rfl, rfl⟩ := hI
    rw [if_neg (show ¬ (20 : Int32) < nI i from nI_nlt (a := 20) (b := i) (by omega) (by decide)), X3_rainTimes_e h1 h2, ob1_eq, X2_at_e h3, ob1_eq]
    exact hself _ _ ⟨rfl, nI_1 i⟩
  · intro a b hI self
    obtain ⟨rfl, rfl⟩ := hI
    exact if_pos (nI_lt (a := 20) (b := 21) (by omega) (by decide))
