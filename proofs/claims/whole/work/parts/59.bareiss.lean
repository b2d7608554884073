def c2 (M : Nat → Nat → Int) (r s c d : Nat) : Int := M r c * M s d - M r d * M s c
def c3 (M : Nat → Nat → Int) (r s t c d e : Nat) : Int := M r c * c2 M s t d e - M r d * c2 M s t c e + M r e * c2 M s t c d
def c4 (M : Nat → Nat → Int) (r s t u c d e f : Nat) : Int := M r c * c3 M s t u d e f - M r d * c3 M s t u c e f + M r e * c3 M s t u c d f - M r f * c3 M s t u c d e
def Es (M : Nat → Nat → Int) : Nat → Nat → Nat → Int
  | 0, i, j => M i j
  | 1, i, j => if i = 0 then M 0 j else c2 M 0 i 0 j
  | 2, i, j => if i = 0 then c2 M 0 1 j 1 else if i = 1 then c2 M 0 1 0 j else c3 M 0 1 i 0 1 j
  | 3, i, j => if i = 0 then c3 M 0 1 2 j 1 2 else if i = 1 then c3 M 0 1 2 0 j 2 else if i = 2 then c3 M 0 1 2 0 1 j else c4 M 0 1 2 i 0 1 2 j
  | _, i, j => if i = 0 then c4 M 0 1 2 3 j 1 2 3 else if i = 1 then c4 M 0 1 2 3 0 j 2 3 else if i = 2 then c4 M 0 1 2 3 0 1 j 3 else c4 M 0 1 2 3 0 1 2 j
def ps (M : Nat → Nat → Int) : Nat → Int
  | 0 => 1
  | 1 => M 0 0
  | 2 => c2 M 0 1 0 1
  | 3 => c3 M 0 1 2 0 1 2
  | _ => c4 M 0 1 2 3 0 1 2 3
theorem ps_Es (M : Nat → Nat → Int) : ∀ s, s < 4 → Es M s s s = ps M (s + 1) := lt4 rfl rfl rfl rfl
theorem Es_piv (M : Nat → Nat → Int) (j : Nat) : ∀ s, s < 4 → Es M (s + 1) s j = Es M s s j := by
  refine lt4 ?_ ?_ ?_ ?_ <;> simp [Es]
theorem Es_0 (M : Nat → Nat → Int) (j : Nat) : ∀ i, i < 4 → i ≠ 0 → ps M 0 * Es M 1 i j = Es M 0 0 0 * Es M 0 i j - Es M 0 i 0 * Es M 0 0 j := by
  refine lt4 ?_ ?_ ?_ ?_ <;> intro h <;> first | exact absurd rfl h | (simp [Es, ps, c2, c3, c4] <;> grind)
theorem Es_1 (M : Nat → Nat → Int) (j : Nat) : ∀ i, i < 4 → i ≠ 1 → ps M 1 * Es M 2 i j = Es M 1 1 1 * Es M 1 i j - Es M 1 i 1 * Es M 1 1 j := by
  refine lt4 ?_ ?_ ?_ ?_ <;> intro h <;> first | exact absurd rfl h | (simp [Es, ps, c2, c3, c4] <;> grind)
theorem Es_2 (M : Nat → Nat → Int) (j : Nat) : ∀ i, i < 4 → i ≠ 2 → ps M 2 * Es M 3 i j = Es M 2 2 2 * Es M 2 i j - Es M 2 i 2 * Es M 2 2 j := by
  refine lt4 ?_ ?_ ?_ ?_ <;> intro h <;> first | exact absurd rfl h | (simp [Es, ps, c2, c3, c4] <;> grind)
theorem Es_3 (M : Nat → Nat → Int) (j : Nat) : ∀ i, i < 4 → i ≠ 3 → ps M 3 * Es M 4 i j = Es M 3 3 3 * Es M 3 i j - Es M 3 i 3 * Es M 3 3 j := by
  refine lt4 ?_ ?_ ?_ ?_ <;> intro h <;> first | exact absurd rfl h | (simp [Es, ps, c2, c3, c4] <;> grind)
theorem Es_step (M : Nat → Nat → Int) : ∀ s, s < 4 → ∀ i j, i < 4 → i ≠ s → ps M s * Es M (s + 1) i j = Es M s s s * Es M s i j - Es M s i s * Es M s s j :=
  lt4 (fun i j hi h => Es_0 M j i hi h) (fun i j hi h => Es_1 M j i hi h) (fun i j hi h => Es_2 M j i hi h) (fun i j hi h => Es_3 M j i hi h)
