def fk (f k : Nat) : List Nat := (List.range k).filter (fun i => f.testBit i)
theorem fk_succ (f k : Nat) : fk f (k + 1) = fk f k ++ (if f.testBit k = true then [k] else []) := by
  unfold fk
  rw [List.range_succ, List.filter_append]
  congr 1
  cases h : f.testBit k <;> simp [h]
theorem fk_n : ∀ n, n < 5 → ∀ f, f < 16 → f < 2 ^ n → fk f n = fk f 4 := by decide
theorem fk_len : ∀ f, f < 16 → (fk f 4).length ≤ 4 := by decide
theorem fk_at : ∀ f, f < 16 → ∀ i, i < (fk f 4).length → (fk f 4).getD i 0 < 4 ∧ f.testBit ((fk f 4).getD i 0) = true := by decide
theorem fk_inj : ∀ f, f < 16 → ∀ i, i < (fk f 4).length → ∀ j, j < (fk f 4).length → (fk f 4).getD i 0 = (fk f 4).getD j 0 → i = j := by decide
theorem fk_all : ∀ f, f < 16 → ∀ k, k < 4 → f.testBit k = true → ∃ i, i < 4 ∧ i < (fk f 4).length ∧ (fk f 4).getD i 0 = k := by decide
theorem fk_full : ∀ f, f < 16 → (fk f 4).length = 4 → f = 15 := by decide
/-- the numbers that are solved for a set -/
def Mf (g bb : Nat → Int) (f : Nat) (i j : Nat) : Int := if j < (fk f 4).length then g (ds ((fk f 4).getD i 0) ((fk f 4).getD j 0)) else bb ((fk f 4).getD i 0)
theorem Mf_in {g bb : Nat → Int} (hG : GB g bb) {f : Nat} (hf : f < 16) {i j : Nat} (hi : i < (fk f 4).length) (hj : j < (fk f 4).length) : 0 ≤ Mf g bb f i j ∧ Mf g bb f i j ≤ ((225 : Nat) : Int) := by
  unfold Mf
  rw [if_pos hj]
  exact g_bound hG _ (ds_lt _ (fk_at f hf i hi).1 _ (fk_at f hf j hj).1)
theorem Mf_le {g bb : Nat → Int} (hG : GB g bb) {f : Nat} (hf : f < 16) {i j : Nat} (hi : i < (fk f 4).length) : 0 ≤ Mf g bb f i j ∧ Mf g bb f i j ≤ ((4455 : Nat) : Int) := by
  by_cases hj : j < (fk f 4).length
  · have := Mf_in hG hf hi hj
    omega
  · unfold Mf
    rw [if_neg hj]
    exact hG.2.2.2.2.1 _ (fk_at f hf i hi).1
section BD
variable {M : Nat → Nat → Int} {m : Nat} (h1 : ∀ i j, i < m → j < m → 0 ≤ M i j ∧ M i j ≤ ((225 : Nat) : Int)) (h2 : ∀ i j, i < m → 0 ≤ M i j ∧ M i j ≤ ((4455 : Nat) : Int))
theorem bc2n (h1 : ∀ i j, i < m → j < m → 0 ≤ M i j ∧ M i j ≤ ((225 : Nat) : Int)) {r s c d : Nat} (hr : r < m) (hs : s < m) (hc : c < m) (hd : d < m) : (c2 M r s c d).natAbs ≤ 50625 := nab_minor (h1 r c hr hc) (h1 s d hs hd) (h1 r d hr hd) (h1 s c hs hc)
theorem bc2r (h1 : ∀ i j, i < m → j < m → 0 ≤ M i j ∧ M i j ≤ ((225 : Nat) : Int)) (h2 : ∀ i j, i < m → 0 ≤ M i j ∧ M i j ≤ ((4455 : Nat) : Int)) {r s c j : Nat} (hr : r < m) (hs : s < m) (hc : c < m) : (c2 M r s c j).natAbs ≤ 1002375 := nab_minor (h1 r c hr hc) (h2 s j hs) (h2 r j hr) (h1 s c hs hc)
theorem bc2l (h1 : ∀ i j, i < m → j < m → 0 ≤ M i j ∧ M i j ≤ ((225 : Nat) : Int)) (h2 : ∀ i j, i < m → 0 ≤ M i j ∧ M i j ≤ ((4455 : Nat) : Int)) {r s c j : Nat} (hr : r < m) (hs : s < m) (hc : c < m) : (c2 M r s j c).natAbs ≤ 1002375 := by
  have := nab_minor (X := 4455) (Y := 225) (h2 r j hr) (h1 s c hs hc) (h1 r c hr hc) (h2 s j hs)
  exact this
theorem bM1 (h1 : ∀ i j, i < m → j < m → 0 ≤ M i j ∧ M i j ≤ ((225 : Nat) : Int)) {r c : Nat} (hr : r < m) (hc : c < m) : (M r c).natAbs ≤ 225 := by have := h1 r c hr hc; omega
theorem bM2 (h2 : ∀ i j, i < m → 0 ≤ M i j ∧ M i j ≤ ((4455 : Nat) : Int)) {r j : Nat} (hr : r < m) : (M r j).natAbs ≤ 4455 := by have := h2 r j hr; omega
theorem bc3n (h1 : ∀ i j, i < m → j < m → 0 ≤ M i j ∧ M i j ≤ ((225 : Nat) : Int)) {r s t c d e : Nat} (hr : r < m) (hs : s < m) (ht : t < m) (hc : c < m) (hd : d < m) (he : e < m) : (c3 M r s t c d e).natAbs ≤ 34171875 := by
  have k1 := nab_mul (bM1 h1 hr hc) (bc2n h1 hs ht hd he)
  have k2 := nab_mul (bM1 h1 hr hd) (bc2n h1 hs ht hc he)
  have k3 := nab_mul (bM1 h1 hr he) (bc2n h1 hs ht hc hd)
  unfold c3; omega
theorem bc3a (h1 : ∀ i j, i < m → j < m → 0 ≤ M i j ∧ M i j ≤ ((225 : Nat) : Int)) (h2 : ∀ i j, i < m → 0 ≤ M i j ∧ M i j ≤ ((4455 : Nat) : Int)) {r s t j d e : Nat} (hr : r < m) (hs : s < m) (ht : t < m) (hd : d < m) (he : e < m) : (c3 M r s t j d e).natAbs ≤ 676603125 := by
  have k1 := nab_mul (bM2 h2 (j := j) hr) (bc2n h1 hs ht hd he)
  have k2 := nab_mul (bM1 h1 hr hd) (bc2l h1 h2 (j := j) hs ht he)
  have k3 := nab_mul (bM1 h1 hr he) (bc2l h1 h2 (j := j) hs ht hd)
  unfold c3; omega
theorem bc3b (h1 : ∀ i j, i < m → j < m → 0 ≤ M i j ∧ M i j ≤ ((225 : Nat) : Int)) (h2 : ∀ i j, i < m → 0 ≤ M i j ∧ M i j ≤ ((4455 : Nat) : Int)) {r s t c j e : Nat} (hr : r < m) (hs : s < m) (ht : t < m) (hc : c < m) (he : e < m) : (c3 M r s t c j e).natAbs ≤ 676603125 := by
  have k1 := nab_mul (bM1 h1 hr hc) (bc2l h1 h2 (j := j) hs ht he)
  have k2 := nab_mul (bM2 h2 (j := j) hr) (bc2n h1 hs ht hc he)
  have k3 := nab_mul (bM1 h1 hr he) (bc2r h1 h2 (j := j) hs ht hc)
  unfold c3; omega
theorem bc3c (h1 : ∀ i j, i < m → j < m → 0 ≤ M i j ∧ M i j ≤ ((225 : Nat) : Int)) (h2 : ∀ i j, i < m → 0 ≤ M i j ∧ M i j ≤ ((4455 : Nat) : Int)) {r s t c d j : Nat} (hr : r < m) (hs : s < m) (ht : t < m) (hc : c < m) (hd : d < m) : (c3 M r s t c d j).natAbs ≤ 676603125 := by
  have k1 := nab_mul (bM1 h1 hr hc) (bc2r h1 h2 (j := j) hs ht hd)
  have k2 := nab_mul (bM1 h1 hr hd) (bc2r h1 h2 (j := j) hs ht hc)
  have k3 := nab_mul (bM2 h2 (j := j) hr) (bc2n h1 hs ht hc hd)
  unfold c3; omega
theorem bc4a (h1 : ∀ i j, i < m → j < m → 0 ≤ M i j ∧ M i j ≤ ((225 : Nat) : Int)) (h2 : ∀ i j, i < m → 0 ≤ M i j ∧ M i j ≤ ((4455 : Nat) : Int)) {r s t u j d e f : Nat} (hr : r < m) (hs : s < m) (ht : t < m) (hu : u < m) (hd : d < m) (he : e < m) (hf : f < m) : (c4 M r s t u j d e f).natAbs ≤ 608942812500 := by
  have k1 := nab_mul (bM2 h2 (j := j) hr) (bc3n h1 hs ht hu hd he hf)
  have k2 := nab_mul (bM1 h1 hr hd) (bc3a h1 h2 (j := j) hs ht hu he hf)
  have k3 := nab_mul (bM1 h1 hr he) (bc3a h1 h2 (j := j) hs ht hu hd hf)
  have k4 := nab_mul (bM1 h1 hr hf) (bc3a h1 h2 (j := j) hs ht hu hd he)
  unfold c4; omega
theorem bc4b (h1 : ∀ i j, i < m → j < m → 0 ≤ M i j ∧ M i j ≤ ((225 : Nat) : Int)) (h2 : ∀ i j, i < m → 0 ≤ M i j ∧ M i j ≤ ((4455 : Nat) : Int)) {r s t u c j e f : Nat} (hr : r < m) (hs : s < m) (ht : t < m) (hu : u < m) (hc : c < m) (he : e < m) (hf : f < m) : (c4 M r s t u c j e f).natAbs ≤ 608942812500 := by
  have k1 := nab_mul (bM1 h1 hr hc) (bc3a h1 h2 (j := j) hs ht hu he hf)
  have k2 := nab_mul (bM2 h2 (j := j) hr) (bc3n h1 hs ht hu hc he hf)
  have k3 := nab_mul (bM1 h1 hr he) (bc3b h1 h2 (j := j) hs ht hu hc hf)
  have k4 := nab_mul (bM1 h1 hr hf) (bc3b h1 h2 (j := j) hs ht hu hc he)
  unfold c4; omega
theorem bc4c (h1 : ∀ i j, i < m → j < m → 0 ≤ M i j ∧ M i j ≤ ((225 : Nat) : Int)) (h2 : ∀ i j, i < m → 0 ≤ M i j ∧ M i j ≤ ((4455 : Nat) : Int)) {r s t u c d j f : Nat} (hr : r < m) (hs : s < m) (ht : t < m) (hu : u < m) (hc : c < m) (hd : d < m) (hf : f < m) : (c4 M r s t u c d j f).natAbs ≤ 608942812500 := by
  have k1 := nab_mul (bM1 h1 hr hc) (bc3b h1 h2 (j := j) hs ht hu hd hf)
  have k2 := nab_mul (bM1 h1 hr hd) (bc3b h1 h2 (j := j) hs ht hu hc hf)
  have k3 := nab_mul (bM2 h2 (j := j) hr) (bc3n h1 hs ht hu hc hd hf)
  have k4 := nab_mul (bM1 h1 hr hf) (bc3c h1 h2 (j := j) hs ht hu hc hd)
  unfold c4; omega
theorem bc4d (h1 : ∀ i j, i < m → j < m → 0 ≤ M i j ∧ M i j ≤ ((225 : Nat) : Int)) (h2 : ∀ i j, i < m → 0 ≤ M i j ∧ M i j ≤ ((4455 : Nat) : Int)) {r s t u c d e j : Nat} (hr : r < m) (hs : s < m) (ht : t < m) (hu : u < m) (hc : c < m) (hd : d < m) (he : e < m) : (c4 M r s t u c d e j).natAbs ≤ 608942812500 := by
  have k1 := nab_mul (bM1 h1 hr hc) (bc3c h1 h2 (j := j) hs ht hu hd he)
  have k2 := nab_mul (bM1 h1 hr hd) (bc3c h1 h2 (j := j) hs ht hu hc he)
  have k3 := nab_mul (bM1 h1 hr he) (bc3c h1 h2 (j := j) hs ht hu hc hd)
  have k4 := nab_mul (bM2 h2 (j := j) hr) (bc3n h1 hs ht hu hc hd he)
  unfold c4; omega
theorem bEs (h1 : ∀ i j, i < m → j < m → 0 ≤ M i j ∧ M i j ≤ ((225 : Nat) : Int)) (h2 : ∀ i j, i < m → 0 ≤ M i j ∧ M i j ≤ ((4455 : Nat) : Int)) {s i j : Nat} (hs : s < m) (hm : m ≤ 4) (hi : i < m) : (Es M (s + 1) i j).natAbs ≤ 608942812500 := by
  have : s = 0 ∨ s = 1 ∨ s = 2 ∨ s = 3 := by omega
  rcases this with rfl | rfl | rfl | rfl
  · by_cases c : i = 0
    · simp only [Es, c, if_true]
      have := bM2 h2 (r := 0) (j := j) (by omega); omega
    · simp only [Es, c, if_false]
      have := bc2r h1 h2 (r := 0) (s := i) (c := 0) (j := j) (by omega) hi (by omega); omega
  · by_cases c : i = 0
    · simp only [Es, c, if_true]
      have := bc2l h1 h2 (r := 0) (s := 1) (c := 1) (j := j) (by omega) hs (by omega); omega
    · by_cases c' : i = 1
      · simp only [Es, c', if_true, if_false, Nat.one_ne_zero]
        have := bc2r h1 h2 (r := 0) (s := 1) (c := 0) (j := j) (by omega) hs (by omega); omega
      · simp only [Es, c, c', if_false]
        have := bc3c h1 h2 (r := 0) (s := 1) (t := i) (c := 0) (d := 1) (j := j) (by omega) hs hi (by omega) hs; omega
  · by_cases c : i = 0
    · simp only [Es, c, if_true]
      have := bc3a h1 h2 (r := 0) (s := 1) (t := 2) (d := 1) (e := 2) (j := j) (by omega) (by omega) hs (by omega) hs; omega
    · by_cases c' : i = 1
      · simp only [Es, c', if_true, if_false, Nat.one_ne_zero]
        have := bc3b h1 h2 (r := 0) (s := 1) (t := 2) (c := 0) (e := 2) (j := j) (by omega) (by omega) hs (by omega) hs; omega
      · by_cases c'' : i = 2
        · subst c''
          have := bc3c h1 h2 (r := 0) (s := 1) (t := 2) (c := 0) (d := 1) (j := j) (by omega) (by omega) hs (by omega) (by omega)
          simp only [Es, c, c', if_false, if_true]; omega
        · simp only [Es, c, c', c'', if_false]
          exact bc4d h1 h2 (by omega) (by omega) hs hi (by omega) (by omega) hs
  · by_cases c : i = 0
    · simp only [Es, c, if_true]
      exact bc4a h1 h2 (by omega) (by omega) (by omega) hs (by omega) (by omega) hs
    · by_cases c' : i = 1
      · simp only [Es, c', if_true, if_false, Nat.one_ne_zero]
        exact bc4b h1 h2 (by omega) (by omega) (by omega) hs (by omega) (by omega) hs
      · by_cases c'' : i = 2
        · subst c''
          have := bc4c h1 h2 (r := 0) (s := 1) (t := 2) (u := 3) (c := 0) (d := 1) (f := 3) (j := j) (by omega) (by omega) (by omega) hs (by omega) (by omega) hs
          simp only [Es, c, c', if_false, if_true]; exact this
        · simp only [Es, c, c', c'', if_false]
          exact bc4d h1 h2 (by omega) (by omega) (by omega) hs (by omega) (by omega) (by omega)
end BD
theorem ps_pos {g bb : Nat → Int} (hG : GB g bb) {f s : Nat} (hf : f < 16) (hs : s < (fk f 4).length) : 0 < ps (Mf g bb f) s ∧ (ps (Mf g bb f) s).natAbs ≤ 14765625 := by
  have hl := fk_len f hf
  have hPD := hG.2.2.2.2.2.1
  have h3 := hG.2.2.2.1
  have ga := pd_a hPD
  have : s = 0 ∨ s = 1 ∨ s = 2 ∨ s = 3 := by omega
  rcases this with rfl | rfl | rfl | rfl
  · exact ⟨by show (0 : Int) < 1; decide, by show (1 : Int).natAbs ≤ 14765625; decide⟩
  · have e : Mf g bb f 0 0 = g 0 := by unfold Mf; rw [if_pos (by omega)]; simp [ds]
    show 0 < Mf g bb f 0 0 ∧ (Mf g bb f 0 0).natAbs ≤ _
    rw [e]
    have := hG.1
    omega
  · have b := bc2n (m := (fk f 4).length) (M := Mf g bb f) (fun i j hi hj => Mf_in hG hf hi hj) (r := 0) (s := 1) (c := 0) (d := 1) (by omega) (by omega) (by omega) (by omega)
    refine ⟨?_, by show (c2 (Mf g bb f) 0 1 0 1).natAbs ≤ _; omega⟩
    show 0 < c2 (Mf g bb f) 0 1 0 1
    have l0' := fk_at f hf 0 (by omega)
    have l1' := fk_at f hf 1 (by omega)
    have hne : (fk f 4).getD 0 0 ≠ (fk f 4).getD 1 0 := fun z => by have := fk_inj f hf 0 (by omega) 1 (by omega) z; omega
    unfold c2 Mf
    rw [if_pos (show 0 < (fk f 4).length by omega), if_pos (show 1 < (fk f 4).length by omega), if_pos (show 0 < (fk f 4).length by omega), if_pos (show 1 < (fk f 4).length by omega)]
    generalize (fk f 4).getD 0 0 = x at *
    generalize (fk f 4).getD 1 0 = y at *
    rw [show ds x x = 0 by simp [ds], show ds y y = 0 by simp [ds], ds_comm y x]
    have h7 : ds x y = 1 ∨ ds x y = 2 ∨ ds x y = 3 := by
      have := ds_lt x l0'.1 y l1'.1
      have : ds x y ≠ 0 := by unfold ds; split <;> omega
      omega
    rcases h7 with e | e | e <;> rw [e]
    · exact pd_ab hPD
    · exact pd_ac hPD
    · rw [h3]
      have := Int.mul_pos ga ga
      omega
  · have hfull : f = 15 := fk_full f hf (by omega)
    subst hfull
    have e : ps (Mf g bb 15) 3 = g 0*(g 0*g 0-g 1*g 1) - g 1*(g 1*g 0-g 1*g 2) + g 2*(g 1*g 1-g 0*g 2) := by
      show c3 (Mf g bb 15) 0 1 2 0 1 2 = _
      simp only [c3, c2, Mf, show (fk 15 4) = [0, 1, 2, 3] from by decide, List.length_cons, List.length_nil, Nat.reduceAdd, Nat.reduceLT, if_true, List.getD_cons_zero, List.getD_cons_succ, ds, Nat.reduceLeDiff, Nat.reduceSub, Nat.sub_self, Nat.le_refl, Nat.zero_le, Nat.sub_zero, reduceIte]
    rw [e]
    refine ⟨pd_012 hPD, ?_⟩
    have hp := pd_012 hPD
    obtain ⟨a0, b0, c0, -⟩ := hG
    have q1 : g 0 * g 0 ≤ 225 * 225 := Int.mul_le_mul a0.2 a0.2 a0.1 (by omega)
    have q2 : g 0 * g 0 * g 0 ≤ 225 * 225 * 225 := Int.mul_le_mul q1 a0.2 a0.1 (by omega)
    have q3 : g 1 * g 1 ≤ 150 * 150 := Int.mul_le_mul b0.2 b0.2 b0.1 (by omega)
    have q4 : g 1 * g 1 * g 2 ≤ 150 * 150 * 75 := Int.mul_le_mul q3 c0.2 c0.1 (by omega)
    have q5 : 0 ≤ g 0 * (g 1 * g 1) := Int.mul_nonneg a0.1 (Int.mul_nonneg b0.1 b0.1)
    have q6 : 0 ≤ g 0 * (g 2 * g 2) := Int.mul_nonneg a0.1 (Int.mul_nonneg c0.1 c0.1)
    have e2 : g 0*(g 0*g 0-g 1*g 1) - g 1*(g 1*g 0-g 1*g 2) + g 2*(g 1*g 1-g 0*g 2) = g 0 * g 0 * g 0 + 2 * (g 1 * g 1 * g 2) - 2 * (g 0 * (g 1 * g 1)) - g 0 * (g 2 * g 2) := by grind
    rw [e2] at hp ⊢
    omega
/-- what is solved for is the class's row -/
theorem ps_DF {g bb : Nat → Int} : ∀ f, f < 16 → ps (Mf g bb f) (fk f 4).length = DF g bb f.testBit := by
  intro f hf
  have : f = 0 ∨ f = 1 ∨ f = 2 ∨ f = 3 ∨ f = 4 ∨ f = 5 ∨ f = 6 ∨ f = 7 ∨ f = 8 ∨ f = 9 ∨ f = 10 ∨ f = 11 ∨ f = 12 ∨ f = 13 ∨ f = 14 ∨ f = 15 := by omega
  rcases this with rfl | rfl | rfl | rfl | rfl | rfl | rfl | rfl | rfl | rfl | rfl | rfl | rfl | rfl | rfl | rfl <;>
    simp [ps, c2, c3, c4, Mf, fk, DF, det4, ent, ds, Nat.testBit, List.range, List.range.loop] <;> grind
