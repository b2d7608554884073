/-! ===== what the storms' products keep to ===== -/
theorem gD_0 (d : SD) : gD d 0 = (d.2.1 0).toInt * (d.2.1 0).toInt + (d.2.1 1).toInt * (d.2.1 1).toInt + (d.2.1 2).toInt * (d.2.1 2).toInt := by
  simp only [gD, sumI, Int.zero_add, Nat.add_zero]
theorem gD_1 {d : SD} (hw : StW d) : gD d 1 = (d.2.1 0).toInt * (d.2.1 1).toInt + (d.2.1 1).toInt * (d.2.1 2).toInt := by
  have z3 : (d.2.1 3).toInt = 0 := by rw [hw.1.2.2.1 3 hw.1.2.1]; rfl
  simp only [gD, sumI, Int.zero_add, Nat.reduceAdd, z3, Int.mul_zero, Int.add_zero]
theorem gD_2 {d : SD} (hw : StW d) : gD d 2 = (d.2.1 0).toInt * (d.2.1 2).toInt := by
  have z3 : (d.2.1 3).toInt = 0 := by rw [hw.1.2.2.1 3 hw.1.2.1]; rfl
  have z4 : (d.2.1 4).toInt = 0 := by rw [hw.1.2.2.1 4 (by have := hw.1.2.1; omega)]; rfl
  simp only [gD, sumI, Int.zero_add, Nat.reduceAdd, z3, z4, Int.mul_zero, Int.add_zero]
theorem gD_3 {d : SD} (hw : StW d) : gD d 3 = 0 := by
  have z3 : (d.2.1 3).toInt = 0 := by rw [hw.1.2.2.1 3 hw.1.2.1]; rfl
  have z4 : (d.2.1 4).toInt = 0 := by rw [hw.1.2.2.1 4 (by have := hw.1.2.1; omega)]; rfl
  have z5 : (d.2.1 5).toInt = 0 := by rw [hw.1.2.2.1 5 (by have := hw.1.2.1; omega)]; rfl
  simp only [gD, sumI, Int.zero_add, Nat.reduceAdd, z3, z4, z5, Int.mul_zero, Int.add_zero]
theorem mulb {x y M N : Int} (hx : 0 ≤ x ∧ x ≤ M) (hy : 0 ≤ y ∧ y ≤ N) : 0 ≤ x * y ∧ x * y ≤ M * N :=
  ⟨Int.mul_nonneg hx.1 hy.1, Int.mul_le_mul hx.2 hy.2 hy.1 (by omega)⟩
theorem gD_b {d : SD} (hw : StW d) : (0 ≤ gD d 0 ∧ gD d 0 ≤ 75) ∧ (0 ≤ gD d 1 ∧ gD d 1 ≤ 50) ∧ (0 ≤ gD d 2 ∧ gD d 2 ≤ 25) := by
  have h := hw.1.2.2.2.1
  rw [gD_0, gD_1 hw, gD_2 hw]
  have a := mulb (h 0) (h 0)
  have b := mulb (h 1) (h 1)
  have c := mulb (h 2) (h 2)
  have e := mulb (h 0) (h 1)
  have f := mulb (h 1) (h 2)
  have i := mulb (h 0) (h 2)
  omega
theorem bD_b {d : SD} (hw : StW d) (k : Nat) : 0 ≤ bD d k ∧ bD d k ≤ 1485 := by
  have h := hw.1.2.2.2.1
  have h' := hw.2.2.2.2
  simp only [bD, sumI, Int.zero_add]
  have a := mulb (h 0) (h' (0 + k))
  have b := mulb (h 1) (h' (1 + k))
  have c := mulb (h 2) (h' (2 + k))
  simp only [Nat.zero_add] at *
  omega
theorem rD_b {d : SD} (hw : StW d) : 0 ≤ rD d ∧ rD d ≤ 78408 := by
  have h' := hw.2.2.2.2
  simp only [rD, sumI, Int.zero_add]
  have a0 := mulb (h' 0) (h' 0)
  have a1 := mulb (h' 1) (h' 1)
  have a2 := mulb (h' 2) (h' 2)
  have a3 := mulb (h' 3) (h' 3)
  have a4 := mulb (h' 4) (h' 4)
  have a5 := mulb (h' 5) (h' 5)
  have a6 := mulb (h' 6) (h' 6)
  have a7 := mulb (h' 7) (h' 7)
  omega
theorem tot_b {p : Int32} {st : Nat → SD} {f : SD → Int} {M : Int} (hM : 0 ≤ M) : ∀ s, (∀ i, i < s → 0 ≤ f (st i) ∧ f (st i) ≤ M) → 0 ≤ totS p st f s ∧ totS p st f s ≤ s * M := by
  intro s
  induction s with
  | zero => intro _; simp [totS]
  | succ s ih =>
    intro h
    have a := ih (fun i hi => h i (by omega))
    have b := h s (by omega)
    have e : ((s + 1 : Nat) : Int) * M = s * M + M := by rw [Int.natCast_succ, Int.add_mul, Int.one_mul]
    rw [e]
    simp only [totS]
    cases bitB p s <;> simp only [cond] <;> omega
theorem tot_3 {p : Int32} {st : Nat → SD} {f : SD → Int} {M : Int} (hM : 0 ≤ M) {s : Nat} (hs : s ≤ 3) (h : ∀ i, i < s → 0 ≤ f (st i) ∧ f (st i) ≤ M) : 0 ≤ totS p st f s ∧ totS p st f s ≤ 3 * M := by
  have a := tot_b (p := p) hM s h
  have b : (s : Int) * M ≤ 3 * M := Int.mul_le_mul_of_nonneg_right (by omega) hM
  omega
theorem psd_0 : PSD 0 0 0 := fun x0 x1 x2 x3 => by unfold qd; simp
theorem psdr_0 : PSDr 0 0 0 := fun x0 x1 x2 x3 => by unfold qr; simp <;> grind
theorem tot_psd {p : Int32} {st : Nat → SD} : ∀ s, (∀ i, i < s → StW (st i)) → PSD (totS p st (fun d => gD d 0) s) (totS p st (fun d => gD d 1) s) (totS p st (fun d => gD d 2) s) ∧ PSDr (totS p st (fun d => gD d 0) s) (totS p st (fun d => gD d 1) s) (totS p st (fun d => gD d 2) s) ∧ ((∃ i, i < s ∧ bitB p i = true) → PD (totS p st (fun d => gD d 0) s) (totS p st (fun d => gD d 1) s) (totS p st (fun d => gD d 2) s)) := by
  intro s
  induction s with
  | zero => intro _; exact ⟨psd_0, psdr_0, fun ⟨i, hi, _⟩ => by omega⟩
  | succ s ih =>
    intro h
    obtain ⟨a, b, c⟩ := ih (fun i hi => h i (by omega))
    have hs := h s (by omega)
    simp only [totS]
    cases hb : bitB p s with
    | false =>
      simp only [cond, Int.add_zero]
      refine ⟨a, b, fun ⟨i, hi, hi2⟩ => c ⟨i, ?_, hi2⟩⟩
      rcases Nat.lt_or_ge i s with h1 | h1
      · exact h1
      · have : i = s := by omega
        subst this
        rw [hb] at hi2
        exact absurd hi2 (by decide)
    | true =>
      simp only [cond]
      rw [gD_0, gD_1 hs, gD_2 hs]
      refine ⟨psd_add a (psd_storm _ _ _), psdr_add b (psdr_storm _ _ _), fun _ => pd_add a (pd_storm _ _ _ ?_)⟩
      have := hs.1.2.2.2.2
      omega
abbrev Ask (g : Sg) (p0 p1 : Int32) : Prop := (1 ≤ p0.toInt ∧ p0.toInt < ((2 ^ g.2.1.1 : Nat) : Int)) ∧ 1 ≤ p1.toInt ∧ p1.toInt ≤ 4
theorem bit_ex : ∀ n, n < 4 → ∀ P, P < 8 → 1 ≤ P → P < 2 ^ n → ∃ i, i < n ∧ bitB (nI P) i = true := by decide +kernel
theorem pow3 {n : Nat} (h : n ≤ 3) : 2 ^ n ≤ 8 := by
  have : n = 0 ∨ n = 1 ∨ n = 2 ∨ n = 3 := by omega
  rcases this with rfl | rfl | rfl | rfl <;> decide
theorem gb_of {g : Sg} (hw : WF g) {p0 p1 : Int32} (ha : Ask g p0 p1) : GB (gT p0 g) (bT p0 g) := by
  have h3 := hw.2.2.1
  have h8 := pow3 h3
  have hst := hw.2.2.2.1
  have hp := i32_of (x := p0) (by have := ha.1.1; omega)
  have hc := cl_pos (x := p0) (by have := ha.1.1; omega)
  have hex : ∃ i, i < g.2.1.1 ∧ bitB p0 i = true := by
    have := bit_ex g.2.1.1 (by omega) p0.toNatClampNeg (by have := ha.1.2; omega) (by have := ha.1.1; omega) (by have := ha.1.2; omega)
    rw [← hp] at this
    exact this
  obtain ⟨-, hr, hpd⟩ := tot_psd (p := p0) g.2.1.1 hst
  have b0 := tot_3 (p := p0) (f := fun d => gD d 0) (M := 75) (by decide) h3 (fun i hi => (gD_b (hst i hi)).1)
  have b1 := tot_3 (p := p0) (f := fun d => gD d 1) (M := 50) (by decide) h3 (fun i hi => (gD_b (hst i hi)).2.1)
  have b2 := tot_3 (p := p0) (f := fun d => gD d 2) (M := 25) (by decide) h3 (fun i hi => (gD_b (hst i hi)).2.2)
  have b3 := tot_3 (p := p0) (f := fun d => gD d 3) (M := 0) (by decide) h3 (fun i hi => (show 0 ≤ gD (g.2.1.2 i) 3 ∧ gD (g.2.1.2 i) 3 ≤ 0 by have := gD_3 (hst i hi); omega))
  refine ⟨?_, ?_, ?_, ?_, fun k _ => ?_, hpd hex, hr⟩
  · unfold gT; omega
  · unfold gT; omega
  · unfold gT; omega
  · unfold gT; omega
  · have b := tot_3 (p := p0) (f := fun d => bD d k) (M := 1485) (by decide) h3 (fun i hi => bD_b (hst i hi) k)
    unfold bT; omega
theorem pw_e : ∀ n, n < 4 → ((1 : Int32) <<< (nI n &&& 31)).toInt = ((2 ^ n : Nat) : Int) := by decide +kernel
theorem pw_e1 : ∀ n, n < 4 → (((1 : Int32) <<< (nI n &&& 31)) - 1).toInt = ((2 ^ n : Nat) : Int) - 1 := by decide +kernel
section BF
variable {a : Nat → Nat} {q pg : Nat → Int32} {gS gU : Nat → Option Nat} {rd : RdT} {ft : FtT} {S : Nat → StT} {U : Nat → UnT} {I : Nat → Int32} {A : Nat → Nat → Int32} {F : Nat → Int64} {L : Nat → Nat → Int64} {g : Sg}
theorem canFit_e (hC : CRep a q pg gS gU S U g) (hw : WF g) (p0 p1 : Int32) : X5_canFit a q pg gS gU rd ft S U p0 p1 = some (if Ask g p0 p1 then 1 else 0) := by
  have h3 := hw.2.2.1
  unfold X5_canFit
  rw [hC.1.2.1]
  simp only [lt_iff, le_iff, pw_e _ (show g.2.1.1 < 4 by omega), l1, l4]
  repeat' split
  all_goals first | rfl | (exfalso; omega)
theorem isAsk_e (hM : MRep I A g) (hw : WF g) (p0 p1 : Int32) : X6_isAsk I A F L p0 p1 = some (if Ask g p0 p1 then 1 else 0) := by
  have h3 := hw.2.2.1
  unfold X6_isAsk
  rw [hM.1.2.1]
  simp only [within_e, ob1_eq, ite10, pw_e1 _ (show g.2.1.1 < 4 by omega), l1, l4]
  repeat' split
  all_goals first | rfl | (exfalso; omega)
end BF
theorem best_N {g bb : Nat → Int} {n f : Nat} (h4 : n ≤ 4) (hf : f < 2 ^ n) (hB : Best g bb n f) : ∀ k, k < 4 → 0 ≤ NF g bb f.testBit k ∧ (n ≤ k → NF g bb f.testBit k = 0) := by
  intro k hk
  rcases Nat.lt_or_ge k n with h | h
  · exact ⟨hB.1 k h, fun z => by omega⟩
  · have : NF g bb f.testBit k = 0 := by unfold NF; rw [if_neg]; rw [tb_hi n h4 f hf k h hk]; decide
    exact ⟨by omega, fun _ => this⟩
theorem best_c {g bb : Nat → Int} (f : Nat) : ∀ k, k < 4 → NF g bb f.testBit k * pressI g bb (NF g bb f.testBit) (DF g bb f.testBit) k = 0 := by
  intro k hk
  by_cases c : f.testBit k = true
  · rw [sysF g bb f.testBit k hk c, Int.mul_zero]
  · have : NF g bb f.testBit k = 0 := by unfold NF; rw [if_neg c]
    rw [this, Int.zero_mul]
theorem best_p {g bb : Nat → Int} {n f e : Nat} (h4 : n ≤ 4) (hf : f < 2 ^ n) (hB : Best g bb n f) (hE : Best g bb n e) : ∀ k, k < 4 → 0 ≤ NF g bb f.testBit k * pressI g bb (NF g bb e.testBit) (DF g bb e.testBit) k := by
  intro k hk
  have h := best_N h4 hf hB k hk
  rcases Nat.lt_or_ge k n with c | c
  · exact Int.mul_nonneg h.1 (hE.2 k c)
  · rw [h.2 c, Int.zero_mul]; decide
theorem best_same {g bb : Nat → Int} (hG : GB g bb) {n f e : Nat} (h4 : n ≤ 4) (hf : f < 2 ^ n) (he : e < 2 ^ n) (hB : Best g bb n f) (hE : Best g bb n e) : ∀ k, k < 4 → NF g bb f.testBit k * DF g bb e.testBit = NF g bb e.testBit k * DF g bb f.testBit :=
  best_one hG.2.2.2.2.2.1 hG.2.2.2.1 (DF_pos hG.2.2.2.2.2.1 hG.2.2.2.1 _) (DF_pos hG.2.2.2.2.2.1 hG.2.2.2.1 _) (best_c f) (best_c e) (best_p h4 hf hB hE) (best_p h4 he hE hB)
theorem press_same {g bb N M : Nat → Int} {D E : Int} (h : ∀ k, k < 4 → N k * E = M k * D) (k : Nat) : pressI g bb N D k * E = pressI g bb M E k * D := by
  have h0 := h 0 (by omega)
  have h1 := h 1 (by omega)
  have h2 := h 2 (by omega)
  have h3 := h 3 (by omega)
  unfold pressI
  generalize g (ds k 0) = a
  generalize g (ds k 1) = b
  generalize g (ds k 2) = c
  generalize g (ds k 3) = d
  generalize bb k = z
  grind
def lossI (bb N : Nat → Int) (D r : Int) : Int := r * D - (bb 0 * N 0 + bb 1 * N 1 + bb 2 * N 2 + bb 3 * N 3)
theorem loss_same {bb N M : Nat → Int} {D E r : Int} (h : ∀ k, k < 4 → N k * E = M k * D) : lossI bb N D r * E = lossI bb M E r * D := by
  have h0 := h 0 (by omega)
  have h1 := h 1 (by omega)
  have h2 := h 2 (by omega)
  have h3 := h 3 (by omega)
  unfold lossI
  grind
theorem loss_b {g bb N : Nat → Int} {D r : Int} (h : GB g bb) (hN : ∀ k, k < 4 → (N k).natAbs ≤ 304471406250) (hD : D.natAbs ≤ 15377343750) (hr : 0 ≤ r ∧ r ≤ 235224) : R64 (lossI bb N D r) := by
  have bb' := h.2.2.2.2.1
  have c0 := bb' 0 (by omega)
  have c1 := bb' 1 (by omega)
  have c2 := bb' 2 (by omega)
  have c3 := bb' 3 (by omega)
  have m0 := nab_mul (x := bb 0) (X := 4455) (by omega) (hN 0 (by omega))
  have m1 := nab_mul (x := bb 1) (X := 4455) (by omega) (hN 1 (by omega))
  have m2 := nab_mul (x := bb 2) (X := 4455) (by omega) (hN 2 (by omega))
  have m3 := nab_mul (x := bb 3) (X := 4455) (by omega) (hN 3 (by omega))
  have m4 := nab_mul (x := r) (X := 235224) (by omega) hD
  unfold lossI R64
  omega
