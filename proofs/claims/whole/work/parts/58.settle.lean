theorem om_bits : ∀ n, n < 5 → ∀ k, k < 4 → (2 ^ n - 1).testBit k = decide (k < n) := by decide
theorem sub_lt : ∀ n, n < 5 → ∀ m, m < 16 → (∀ k, k < 4 → m.testBit k = true → k < n) → m < 2 ^ n := by decide
theorem best_ex {g bb : Nat → Int} (hG : GB g bb) {n : Nat} (h4 : n ≤ 4) : ∃ f, f < 2 ^ n ∧ Best g bb n f := by
  obtain ⟨a0, a1, a2, h3, hbb, hPD, hPS⟩ := hG
  have hD := DF_pos (bb := bb) hPD h3
  have hDr : ∀ m : Nat, (0 : Rat) < ((DF g bb m.testBit : Int) : Rat) := fun m => by
    have := hD m.testBit
    exact Rat.intCast_pos.mpr this
  have ga := pd_a hPD
  obtain ⟨m, hm, hsub, hpos, hpr⟩ := fq_best (g := fun i j => ((g (ds i j) : Int) : Rat)) (b := fun k => ((bb k : Int) : Rat)) (x := fun m k => ((NF g bb m.testBit k : Int) : Rat) / ((DF g bb m.testBit : Int) : Rat))
    ⟨rfl, rfl, rfl, rfl, rfl, rfl⟩
    (fun y => by
      have h := hPS (y 0) (y 1) (y 2) (y 3)
      have e : qf (fun i j => ((g (ds i j) : Int) : Rat)) y = qr (g 0) (g 1) (g 2) (y 0) (y 1) (y 2) (y 3) := by
        simp only [qf, gx, qr, ds, Nat.reduceLeDiff, Nat.reduceSub, Nat.sub_self, Nat.sub_zero, Nat.le_refl, Nat.zero_le, if_true, if_false, reduceIte, h3]
        rw [show ((0 : Int) : Rat) = 0 from rfl]
        grind
      rw [e]; exact h)
    (fun k hk => by
      show (0 : Rat) < ((g (ds k k) : Int) : Rat)
      rw [show ds k k = 0 by simp [ds]]
      exact Rat.intCast_pos.mpr ga)
    (fun m hm k hk hb => by
      show ((NF g bb m.testBit k : Int) : Rat) / _ = 0
      have : NF g bb m.testBit k = 0 := by unfold NF; rw [if_neg]; rw [hb]; decide
      rw [this]
      rw [show ((0 : Int) : Rat) = 0 from rfl]
      grind)
    (fun m hm k hk hb => by
      have h := sysF g bb m.testBit k hk hb
      unfold pressI at h
      have h2 := congrArg (fun z : Int => (z : Rat)) h
      simp only [Rat.intCast_add, Rat.intCast_mul, Rat.intCast_sub] at h2
      rw [show ((0 : Int) : Rat) = 0 from rfl] at h2
      have hd := hDr m
      show ((g (ds k 0) : Int) : Rat) * (((NF g bb m.testBit 0 : Int) : Rat) / ((DF g bb m.testBit : Int) : Rat)) + ((g (ds k 1) : Int) : Rat) * (((NF g bb m.testBit 1 : Int) : Rat) / ((DF g bb m.testBit : Int) : Rat)) + ((g (ds k 2) : Int) : Rat) * (((NF g bb m.testBit 2 : Int) : Rat) / ((DF g bb m.testBit : Int) : Rat)) + ((g (ds k 3) : Int) : Rat) * (((NF g bb m.testBit 3 : Int) : Rat) / ((DF g bb m.testBit : Int) : Rat)) = ((bb k : Int) : Rat)
      generalize ((DF g bb m.testBit : Int) : Rat) = D at *
      generalize ((NF g bb m.testBit 0 : Int) : Rat) = N0 at *
      generalize ((NF g bb m.testBit 1 : Int) : Rat) = N1 at *
      generalize ((NF g bb m.testBit 2 : Int) : Rat) = N2 at *
      generalize ((NF g bb m.testBit 3 : Int) : Rat) = N3 at *
      generalize ((g (ds k 0) : Int) : Rat) = g0 at *
      generalize ((g (ds k 1) : Int) : Rat) = g1 at *
      generalize ((g (ds k 2) : Int) : Rat) = g2 at *
      generalize ((g (ds k 3) : Int) : Rat) = g3 at *
      generalize ((bb k : Int) : Rat) = B at *
      have hne : D ≠ 0 := by grind
      grind) (2 ^ n - 1) (by have := pow_le h4; have : 0 < 2 ^ n := Nat.pow_pos (by omega); omega)
  refine ⟨m, sub_lt n (by omega) m hm (fun k hk hb => ?_), fun k hk => ?_, fun k hk => ?_⟩
  · have := hsub k hk hb
    rw [om_bits n (by omega) k hk] at this
    simpa using this
  · have h := hpos k (by omega)
    have h2 := (r_le_div (hDr m)).mp h
    rw [Rat.zero_mul] at h2
    exact Rat.intCast_nonneg.mp h2
  · have h := hpr k (by omega) (by rw [om_bits n (by omega) k (by omega)]; simpa using hk)
    have hd := hDr m
    have h5 : (0 : Rat) ≤ ((pressI g bb (NF g bb m.testBit) (DF g bb m.testBit) k : Int) : Rat) := by
      unfold pressI
      simp only [Rat.intCast_add, Rat.intCast_mul, Rat.intCast_sub]
      have h' : (0 : Rat) ≤ ((g (ds k 0) : Int) : Rat) * (((NF g bb m.testBit 0 : Int) : Rat) / ((DF g bb m.testBit : Int) : Rat)) + ((g (ds k 1) : Int) : Rat) * (((NF g bb m.testBit 1 : Int) : Rat) / ((DF g bb m.testBit : Int) : Rat)) + ((g (ds k 2) : Int) : Rat) * (((NF g bb m.testBit 2 : Int) : Rat) / ((DF g bb m.testBit : Int) : Rat)) + ((g (ds k 3) : Int) : Rat) * (((NF g bb m.testBit 3 : Int) : Rat) / ((DF g bb m.testBit : Int) : Rat)) - ((bb k : Int) : Rat) := h
      generalize ((DF g bb m.testBit : Int) : Rat) = D at *
      generalize ((NF g bb m.testBit 0 : Int) : Rat) = N0 at *
      generalize ((NF g bb m.testBit 1 : Int) : Rat) = N1 at *
      generalize ((NF g bb m.testBit 2 : Int) : Rat) = N2 at *
      generalize ((NF g bb m.testBit 3 : Int) : Rat) = N3 at *
      generalize ((g (ds k 0) : Int) : Rat) = g0 at *
      generalize ((g (ds k 1) : Int) : Rat) = g1 at *
      generalize ((g (ds k 2) : Int) : Rat) = g2 at *
      generalize ((g (ds k 3) : Int) : Rat) = g3 at *
      generalize ((bb k : Int) : Rat) = B at *
      have h6 := Rat.mul_nonneg h' (show 0 ≤ D by grind)
      have hne : D ≠ 0 := by grind
      have e : (g0 * (N0 / D) + g1 * (N1 / D) + g2 * (N2 / D) + g3 * (N3 / D) - B) * D = g0 * N0 + g1 * N1 + g2 * N2 + g3 * N3 - B * D := by grind
      rw [e] at h6
      exact h6
    exact Rat.intCast_nonneg.mp h5
/-- the class's search ends at a best row -/
def FitR (g bb : Nat → Int) (n : Nat) (ab pr : Nat → Int64) (be : Int64) : Prop := ∃ f, f < 2 ^ n ∧ Best g bb n f ∧ be = Int64.ofInt (DF g bb f.testBit) ∧ (∀ k, k < n → ab k = Int64.ofInt (NF g bb f.testBit k)) ∧ ∀ k, k < n → pr k = Int64.ofInt (pressI g bb (NF g bb f.testBit) (DF g bb f.testBit) k)
theorem start_e : ∀ n, n < 5 → ((1 : Int32) <<< (nI n &&& 31)) - (1 : Int32) = nI (2 ^ n - 1) := by decide +kernel
theorem settle_e {rd rr mx ab pr : Nat → Int64} {be rs : Int64} {g bb : Nat → Int} {n : Nat} (hG : GB g bb) (hg : Vec rd g) (hb : Vec rr bb) (h1 : 1 ≤ n) (h4 : n ≤ 4) : ∃ (mx' ab' pr' : Nat → Int64) (be' : Int64), X0_settle rd rr mx ab pr be rs (nI n) = some (mx', ab', pr', be') ∧ FitR g bb n ab' pr' be' := by
  obtain ⟨f0, hf0, hB0⟩ := best_ex hG h4
  have h16 := pow_le h4
  unfold X0_settle
  rw [start_e n (by omega)]
  refine wh6_wp (P := fun o => ∃ (mx' ab' pr' : Nat → Int64) (be' : Int64), o = some (mx', ab', pr', be') ∧ FitR g bb n ab' pr' be') (fun i x c _ a p b => (x = 0 ∧ ∃ f, i = f + 1 ∧ f < 2 ^ n ∧ c = nI f ∧ f0 ≤ f) ∨ (x = 1 ∧ FitR g bb n a p b)) ?_ 200 (2 ^ n) _ _ _ _ _ _ (by omega) (Or.inl ⟨rfl, 2 ^ n - 1, by have : 0 < 2 ^ n := Nat.pow_pos (by omega); omega, by omega, rfl, by omega⟩)
  intro i x c m a p b hI self hself
  rcases hI with ⟨rfl, f, rfl, hf, rfl, hle⟩ | ⟨rfl, hR⟩
  · rw [if_neg (nI_pos (by omega)), if_pos rfl]
    obtain ⟨fl, mx', ab', pr', he, hcase⟩ := fitsWith_e (rd := rd) (rr := rr) (mx := m) (ab := a) (pr := p) (be := b) (rs := rs) hG hg hb h1 h4 hf
    rw [he, ob5_eq]
    rcases hcase with ⟨rfl, hB, hab, hpr⟩ | ⟨rfl, hnb⟩
    · refine hself f _ _ _ _ _ _ (by omega) (Or.inr ⟨rfl, f, hf, hB, rfl, hab, hpr⟩)
    · have hne : f ≠ f0 := fun z => hnb (z ▸ hB0)
      refine hself f _ _ _ _ _ _ (by omega) (Or.inl ⟨rfl, f - 1, by omega, by omega, sb_m1 (by omega), by omega⟩)
  · by_cases c0 : c < 0
    · rw [if_pos c0]
      exact ⟨m, a, p, b, rfl, hR⟩
    · rw [if_neg c0, if_neg (by decide)]
      exact ⟨m, a, p, b, rfl, hR⟩
