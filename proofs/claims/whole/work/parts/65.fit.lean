/-! ===== best, loss, press, nothing ===== -/
theorem low_eq {x d y e : Int} (hx : R64 x) (hy : R64 y) (hd : 0 < d) (he : 0 < e) (hd2 : d < 562949953421312) (he2 : e < 562949953421312) (h : x * e = y * d) (p : Int32) : ∃ r, X5_inLowestTerms (Int64.ofInt x) (Int64.ofInt d) p = some r ∧ X6_lowest (Int64.ofInt y) (Int64.ofInt e) p = some r := by
  obtain ⟨h1, h2⟩ := low_same hd he h
  rw [lowTerms_e hx hd hd2, lowest_e hy he ⟨by omega, by omega⟩, h1, h2]
  exact ⟨_, rfl, rfl⟩
theorem n1_e : ∀ n, n < 5 → 1 ≤ n → (nI n - 1).toInt = (n : Int) - 1 := by decide +kernel
theorem isFitted_e {n : Nat} (h4 : n ≤ 4) (p : Int32) : X5_isFitted p (nI n) = some (if 0 ≤ p.toInt ∧ p.toInt ≤ (n : Int) - 1 then 1 else 0) := by
  have e : (nI n).toInt = (n : Int) := nI_toInt (by omega)
  unfold X5_isFitted
  simp only [lt_iff, le_iff, l0, e]
  repeat' split
  all_goals first | rfl | (exfalso; omega)
def RT (p0 : Int32) (g : Sg) : Int := totS p0 g.2.1.2 rD g.2.1.1
section BF2
variable {a : Nat → Nat} {q pg : Nat → Int32} {gS gU : Nat → Option Nat} {rd : RdT} {ft : FtT} {S : Nat → StT} {U : Nat → UnT} {I : Nat → Int32} {A : Nat → Nat → Int32} {F : Nat → Int64} {L : Nat → Nat → Int64} {g : Sg}
theorem rT_b (hw : WF g) (p0 : Int32) : 0 ≤ RT p0 g ∧ RT p0 g ≤ 235224 := by
  have := tot_3 (p := p0) (f := rD) (M := 78408) (by decide) hw.2.2.1 (fun i hi => rD_b (hw.2.2.2.1 i hi))
  unfold RT
  omega
theorem fit_both (hC : CRep a q pg gS gU S U g) (hM : MRep I A g) (hw : WF g) {p0 p1 : Int32} (ha : Ask g p0 p1) : ∃ n, 1 ≤ n ∧ n ≤ 4 ∧ p1 = nI n ∧ ∃ (u v mx ab pr : Nat → Int64) (be : Int64) (u' v' sq : Nat → Int64) (fa : Nat → Int32) (be' : Int64) (ab' : Nat → Int64), X5_fitStorms a q pg gS gU rd ft S U p0 p1 = some (u, v, mx, ab, pr, be, Int64.ofInt (RT p0 g), nI n) ∧ X6_layBest I A F L p0 p1 = some (u', v', Int64.ofInt (RT p0 g), sq, fa, be', ab') ∧ Vec v (bT p0 g) ∧ Vec u' (gT p0 g) ∧ Vec v' (bT p0 g) ∧ ∃ f e, f < 2 ^ n ∧ e < 2 ^ n ∧ Best (gT p0 g) (bT p0 g) n f ∧ Best (gT p0 g) (bT p0 g) n e ∧ be = Int64.ofInt (DF (gT p0 g) (bT p0 g) f.testBit) ∧ be' = Int64.ofInt (DF (gT p0 g) (bT p0 g) e.testBit) ∧ (∀ k, k < n → ab k = Int64.ofInt (NF (gT p0 g) (bT p0 g) f.testBit k)) ∧ (∀ k, k < n → ab' k = Int64.ofInt (NF (gT p0 g) (bT p0 g) e.testBit k)) ∧ ∀ k, k < n → pr k = Int64.ofInt (pressI (gT p0 g) (bT p0 g) (NF (gT p0 g) (bT p0 g) f.testBit) (DF (gT p0 g) (bT p0 g) f.testBit) k) := by
  have hG := gb_of hw ha
  obtain ⟨-, h1, h2⟩ := ha
  have hp := i32_of (x := p1) (by omega)
  have hc := cl_pos (x := p1) (by omega)
  generalize p1.toNatClampNeg = n at *
  subst hp
  obtain ⟨u, v, hP, hf⟩ := fitStorms_e (rd := rd) (ft := ft) hC hw p0 (n := n) (by omega) (by omega)
  obtain ⟨mx, ab, pr, be, hs, f, hf1, hf2, hf3, hf4, hf5⟩ := settle_e (rd := u) (rr := v) (mx := ft.2.2.1) (ab := ft.2.2.2.1) (pr := ft.2.2.2.2.1) (be := ft.2.2.2.2.2.1) (rs := Int64.ofInt (totS p0 g.2.1.2 rD g.2.1.1)) (n := n) hG (fun k hk => (hP k hk).1) (fun k hk => (hP k hk).2) (by omega) (by omega)
  rw [hs, ob4_eq] at hf
  obtain ⟨u', v', sq, fa, be', ab', hl, hu', hv', e, he1, he2, he3, he4⟩ := layBest_e (F := F) (L := L) hM hw p0 hG (n := n) (by omega) (by omega)
  exact ⟨n, by omega, by omega, rfl, u, v, mx, ab, pr, be, u', v', sq, fa, be', ab', hf, hl, fun k hk => (hP k hk).2, hu', hv', f, e, hf1, he1, hf2, he2, hf3, he3, hf4, he4, hf5⟩
theorem partAbove_e {rd rr mx ab pr : Nat → Int64} {be rs : Int64} {sz : Int32} {k : Nat} (hk : k < 4) : X0_partAbove rd rr mx ab pr be rs sz (nI k) = some (ab k) := by
  unfold X0_partAbove
  rw [if_neg (show ¬ nI k < 0 from nI_nlt (a := k) (b := 0) (by omega) (by omega)), if_neg (show ¬ (4 : Int32) ≤ nI k from nI_ge hk (by decide)), chk_of (inB_nI hk (by decide)), cl_nI (by omega)]
theorem pressAb_e {rd rr mx ab pr : Nat → Int64} {be rs : Int64} {sz : Int32} {k : Nat} (hk : k < 4) : X0_pressAbove rd rr mx ab pr be rs sz (nI k) = some (pr k) := by
  unfold X0_pressAbove
  rw [if_neg (show ¬ nI k < 0 from nI_nlt (a := k) (b := 0) (by omega) (by omega)), if_neg (show ¬ (4 : Int32) ≤ nI k from nI_ge hk (by decide)), chk_of (inB_nI hk (by decide)), cl_nI (by omega)]
theorem D_b {gg bb : Nat → Int} (hG : GB gg bb) (f : Nat) : 0 < DF gg bb f.testBit ∧ DF gg bb f.testBit < 562949953421312 := by
  have h1 := DF_bound hG f.testBit
  have h2 := DF_pos (bb := bb) hG.2.2.2.2.2.1 hG.2.2.2.1 f.testBit
  omega
theorem sim_best (hC : CRep a q pg gS gU S U g) (hM : MRep I A g) (hw : WF g) (p0 p1 p2 p3 : Int32) : ∃ r ft' o, X5_best a q pg gS gU rd ft S U p0 p1 p2 p3 = some (r, ft') ∧ X6_best I A F L p0 p1 p2 p3 = some (r, o) := by
  unfold X5_best X6_best
  rw [canFit_e hC hw, isAsk_e hM hw, ob1_eq, ob1_eq]
  simp only [jn0]
  rw [ite10, ite10]
  by_cases ha : Ask g p0 p1
  · rw [if_pos ha, if_pos ha]
    have hG := gb_of hw ha
    obtain ⟨n, h1, h4, rfl, u, v, mx, ab, pr, be, u', v', sq, fa, be', ab', hf, hl, hv, hu', hv', f, e, hf1, he1, hf2, he2, rfl, rfl, hf4, he4, hf5⟩ := fit_both (rd := rd) (ft := ft) (F := F) (L := L) hC hM hw ha
    rw [isFitted_e h4, within_e, ob1_eq, ob1_eq, ite10, ite10, n1_e n (by omega) h1, l0]
    by_cases c : 0 ≤ p2.toInt ∧ p2.toInt ≤ (n : Int) - 1
    · rw [if_pos c, if_pos c, isPart_e, within_e, ob1_eq, ob1_eq, ite10, ite10, l0, l1]
      by_cases c3 : 0 ≤ p3.toInt ∧ p3.toInt ≤ 1
      · rw [if_pos c3, if_pos c3, hf]
        have hp := i32_of c.1
        have hcl := cl_pos c.1
        generalize p2.toNatClampNeg = k at *
        subst hp
        have hk : k < n := by omega
        unfold X6_bestNow
        rw [hl, ob1_eq, ob7_eq, partAbove_e (by omega), chk_of (inB_nI (show k < 4 by omega) (by decide)), cl_nI (by omega), ob1_eq]
        simp only [X0_below]
        rw [ob1_eq, hf4 k hk, he4 k hk]
        have hN := NF_bound hG f.testBit k (by omega)
        have hN' := NF_bound hG e.testBit k (by omega)
        obtain ⟨r, e1, e2⟩ := low_eq ⟨by omega, by omega⟩ ⟨by omega, by omega⟩ (D_b hG f).1 (D_b hG e).1 (D_b hG f).2 (D_b hG e).2 (best_same hG h4 hf1 he1 hf2 he2 k (by omega)) p3
        rw [e1, e2, ob1_eq, ob1_eq, ob8_eq]
        exact ⟨r, _, _, rfl, rfl⟩
      · rw [if_neg c3, if_neg c3]
        exact ⟨_, _, _, rfl, rfl⟩
    · rw [if_neg c, if_neg c]
      exact ⟨_, _, _, rfl, rfl⟩
  · rw [if_neg ha, if_neg ha]
    exact ⟨_, _, _, rfl, rfl⟩
theorem sim_press (hC : CRep a q pg gS gU S U g) (hM : MRep I A g) (hw : WF g) (p0 p1 p2 p3 : Int32) : ∃ r ft' o, X5_press a q pg gS gU rd ft S U p0 p1 p2 p3 = some (r, ft') ∧ X6_press I A F L p0 p1 p2 p3 = some (r, o) := by
  unfold X5_press X6_press
  rw [canFit_e hC hw, isAsk_e hM hw, ob1_eq, ob1_eq]
  simp only [jn0]
  rw [ite10, ite10]
  by_cases ha : Ask g p0 p1
  · rw [if_pos ha, if_pos ha]
    have hG := gb_of hw ha
    obtain ⟨n, h1, h4, rfl, u, v, mx, ab, pr, be, u', v', sq, fa, be', ab', hf, hl, hv, hu', hv', f, e, hf1, he1, hf2, he2, rfl, rfl, hf4, he4, hf5⟩ := fit_both (rd := rd) (ft := ft) (F := F) (L := L) hC hM hw ha
    rw [isFitted_e h4, within_e, ob1_eq, ob1_eq, ite10, ite10, n1_e n (by omega) h1, l0]
    by_cases c : 0 ≤ p2.toInt ∧ p2.toInt ≤ (n : Int) - 1
    · rw [if_pos c, if_pos c, isPart_e, within_e, ob1_eq, ob1_eq, ite10, ite10, l0, l1]
      by_cases c3 : 0 ≤ p3.toInt ∧ p3.toInt ≤ 1
      · rw [if_pos c3, if_pos c3, hf]
        have hp := i32_of c.1
        have hcl := cl_pos c.1
        generalize p2.toNatClampNeg = k at *
        subst hp
        have hk : k < n := by omega
        unfold X6_pressNow
        rw [hl, ob1_eq, ob7_eq, pressAb_e (by omega), ob1_eq]
        rw [pressAbove_e (g := gT p0 g) (bb := bT p0 g) (N := NF (gT p0 g) (bT p0 g) e.testBit) (D := DF (gT p0 g) (bT p0 g) e.testBit) (n := n) (k := k) hu' hv' h1 h4 he4 (fun j h5 h6 => (best_N h4 he1 he2 j h6).2 h5) hk rfl]
        simp only [X0_below]
        rw [ob1_eq, ob1_eq, hf5 k hk]
        have hP := pr_bound hG (NF_bound hG f.testBit) (DF_bound hG f.testBit) k (by omega)
        have hP' := pr_bound hG (NF_bound hG e.testBit) (DF_bound hG e.testBit) k (by omega)
        obtain ⟨r, e1, e2⟩ := low_eq ⟨by omega, by omega⟩ ⟨by omega, by omega⟩ (D_b hG f).1 (D_b hG e).1 (D_b hG f).2 (D_b hG e).2 (press_same (g := gT p0 g) (bb := bT p0 g) (best_same hG h4 hf1 he1 hf2 he2) k) p3
        rw [e1, e2, ob1_eq, ob1_eq, ob8_eq]
        exact ⟨r, _, _, rfl, rfl⟩
      · rw [if_neg c3, if_neg c3]
        exact ⟨_, _, _, rfl, rfl⟩
    · rw [if_neg c, if_neg c]
      exact ⟨_, _, _, rfl, rfl⟩
  · rw [if_neg ha, if_neg ha]
    exact ⟨_, _, _, rfl, rfl⟩
theorem loss_sum {bb N : Nat → Int} {D r : Int} {n : Nat} (h1 : 1 ≤ n) (h4 : n ≤ 4) (hz : ∀ j, n ≤ j → j < 4 → N j = 0) : r * D - sumI (fun j => bb j * N j) n = lossI bb N D r := by
  have : n = 1 ∨ n = 2 ∨ n = 3 ∨ n = 4 := by omega
  unfold lossI
  rcases this with rfl | rfl | rfl | rfl
  · rw [hz 1 (by omega) (by omega), hz 2 (by omega) (by omega), hz 3 (by omega) (by omega)]; simp only [sumI]; grind
  · rw [hz 2 (by omega) (by omega), hz 3 (by omega) (by omega)]; simp only [sumI]; grind
  · rw [hz 3 (by omega) (by omega)]; simp only [sumI]; grind
  · simp only [sumI]; grind
theorem lossAbove_e {rd rr mx ab pr : Nat → Int64} {be : Int64} {bb N : Nat → Int} {D r : Int} {n : Nat} (hb : Vec rr bb) (h1 : 1 ≤ n) (h4 : n ≤ 4) (ha : ∀ j, j < n → ab j = Int64.ofInt (N j)) (hz : ∀ j, n ≤ j → j < 4 → N j = 0) : X0_lossAbove rd rr mx ab pr (Int64.ofInt D) (Int64.ofInt r) (nI n) = some (Int64.ofInt (lossI bb N D r)) := by
  unfold X0_lossAbove
  rw [jn1_u, ← Int64.ofInt_mul]
  refine wh2_for (P := fun o => o = some (Int64.ofInt (lossI bb N D r))) n (fun j x c => c = nI j ∧ x = Int64.ofInt (r * D - sumI (fun j => bb j * N j) j)) ?_ ?_ 200 0 _ _ (by omega) (by omega) ⟨rfl, by simp only [sumI, Int.sub_zero]⟩
  · intro j x c hj hI self hself
    obtain ⟨rfl, rfl⟩ := hI
    rw [if_neg (nI_ge hj (by omega)), chk_of (inB_nI (show j < 4 by omega) (by decide)), chk_of (inB_nI (show j < 4 by omega) (by decide)), cl_nI (by omega), hb j (by omega), ha j hj, ← Int64.ofInt_mul, ← Int64.ofInt_sub]
    refine hself _ _ ⟨nI_1 j, ?_⟩
    simp only [sumI, Int.sub_sub]
  · intro x c hI self
    obtain ⟨rfl, rfl⟩ := hI
    rw [if_pos (nI_le (Nat.le_refl n) (by omega)), loss_sum h1 h4 hz]
theorem sim_loss (hC : CRep a q pg gS gU S U g) (hM : MRep I A g) (hw : WF g) (p0 p1 p2 : Int32) : ∃ r ft' o, X5_loss a q pg gS gU rd ft S U p0 p1 p2 = some (r, ft') ∧ X6_loss I A F L p0 p1 p2 = some (r, o) := by
  unfold X5_loss X6_loss
  rw [canFit_e hC hw, isAsk_e hM hw, ob1_eq, ob1_eq]
  simp only [jn0]
  rw [ite10, ite10]
  by_cases ha : Ask g p0 p1
  · rw [if_pos ha, if_pos ha]
    have hG := gb_of hw ha
    obtain ⟨n, h1, h4, rfl, u, v, mx, ab, pr, be, u', v', sq, fa, be', ab', hf, hl, hv, hu', hv', f, e, hf1, he1, hf2, he2, rfl, rfl, hf4, he4, hf5⟩ := fit_both (rd := rd) (ft := ft) (F := F) (L := L) hC hM hw ha
    rw [isPart_e, within_e, ob1_eq, ob1_eq, ite10, ite10, l0, l1]
    by_cases c3 : 0 ≤ p2.toInt ∧ p2.toInt ≤ 1
    · rw [if_pos c3, if_pos c3, hf]
      unfold X6_lossNow
      rw [hl, ob1_eq, ob7_eq]
      rw [lossAbove_e (be := 0) (bb := bT p0 g) (N := NF (gT p0 g) (bT p0 g) f.testBit) hv h1 h4 hf4 (fun j h5 h6 => (best_N h4 hf1 hf2 j h6).2 h5)]
      simp only [X0_below]
      rw [ob1_eq, ob1_eq]
      have hL := loss_b hG (NF_bound hG f.testBit) (DF_bound hG f.testBit) (rT_b hw p0)
      have hL' := loss_b hG (NF_bound hG e.testBit) (DF_bound hG e.testBit) (rT_b hw p0)
      obtain ⟨r, e1, e2⟩ := low_eq hL hL' (D_b hG f).1 (D_b hG e).1 (D_b hG f).2 (D_b hG e).2 (loss_same (bb := bT p0 g) (r := RT p0 g) (best_same hG h4 hf1 he1 hf2 he2)) p2
      rw [e1, ob1_eq, jn1_u, ← Int64.ofInt_mul]
      suffices h : ∃ o, (wh2 (fun self20 (x4_20 : Int64) (x6_20 : Int32) => if nI n ≤ x6_20 then _ else _) 200 (Int64.ofInt (RT p0 g * DF (gT p0 g) (bT p0 g) e.testBit)) (0 : Int32)) = some (r, o) by
        obtain ⟨o, ho⟩ := h
        rw [ho, ob8_eq]
        exact ⟨r, _, _, rfl, rfl⟩
      refine wh2_for (P := fun o => ∃ o', o = some (r, o')) n (fun j x c => c = nI j ∧ x = Int64.ofInt (RT p0 g * DF (gT p0 g) (bT p0 g) e.testBit - sumI (fun j => bT p0 g j * NF (gT p0 g) (bT p0 g) e.testBit j) j)) ?_ ?_ 200 0 _ _ (by omega) (by omega) ⟨rfl, by simp only [sumI, Int.sub_zero]⟩
      · intro j x c hj hI self hself
        obtain ⟨rfl, rfl⟩ := hI
        rw [if_neg (nI_ge hj (by omega)), chk_of (inB_nI (show j < 4 by omega) (by decide)), chk_of (inB_nI (show j < 4 by omega) (by decide)), cl_nI (by omega), hv' j (by omega), he4 j hj, ← Int64.ofInt_mul, ← Int64.ofInt_sub]
        refine hself _ _ ⟨nI_1 j, ?_⟩
        simp only [sumI, Int.sub_sub, Int.mul_comm (NF (gT p0 g) (bT p0 g) e.testBit j) (bT p0 g j)]
      · intro x c hI self
        obtain ⟨rfl, rfl⟩ := hI
        rw [if_pos (nI_le (Nat.le_refl n) (by omega)), loss_sum h1 h4 (fun j h5 h6 => (best_N h4 he1 he2 j h6).2 h5)]
        dsimp only
        rw [e2, ob1_eq]
        exact ⟨_, rfl⟩
    · rw [if_neg c3, if_neg c3]
      exact ⟨_, _, _, rfl, rfl⟩
  · rw [if_neg ha, if_neg ha]
    exact ⟨_, _, _, rfl, rfl⟩
def mskE (N : Nat → Int) : Nat → Int32
  | 0 => 0
  | j + 1 => if N j = 0 then mskE N j ||| ((1 : Int32) <<< (nI j &&& 31)) else mskE N j
theorem mskE_c {N M : Nat → Int} : ∀ n, (∀ k, k < n → (N k = 0 ↔ M k = 0)) → mskE N n = mskE M n := by
  intro n
  induction n with
  | zero => intro _; rfl
  | succ n ih =>
    intro h
    simp only [mskE]
    rw [ih (fun k hk => h k (by omega))]
    by_cases c : N n = 0
    · rw [if_pos c, if_pos ((h n (by omega)).mp c)]
    · rw [if_neg c, if_neg (mt (h n (by omega)).mpr c)]
theorem of0 {x : Int} (h : R64 x) : Int64.ofInt x = 0 ↔ x = 0 := by
  constructor
  · intro e
    have := congrArg Int64.toInt e
    rw [of_t h] at this
    exact this
  · intro e
    subst e
    rfl
theorem zero_same {x y D E : Int} (hD : 0 < D) (hE : 0 < E) (h : x * E = y * D) : x = 0 ↔ y = 0 := by
  constructor
  · intro e
    subst e
    rw [Int.zero_mul] at h
    rcases Int.mul_eq_zero.mp h.symm with h | h
    · exact h
    · omega
  · intro e
    subst e
    rw [Int.zero_mul] at h
    rcases Int.mul_eq_zero.mp h with h | h
    · exact h
    · omega
theorem sim_nothing (hC : CRep a q pg gS gU S U g) (hM : MRep I A g) (hw : WF g) (p0 p1 : Int32) : ∃ r ft' o, X5_nothing a q pg gS gU rd ft S U p0 p1 = some (r, ft') ∧ X6_nothing I A F L p0 p1 = some (r, o) := by
  unfold X5_nothing X6_nothing
  rw [canFit_e hC hw, isAsk_e hM hw, ob1_eq, ob1_eq]
  rw [ite10, ite10]
  by_cases ha : Ask g p0 p1
  · rw [if_pos ha, if_pos ha]
    have hG := gb_of hw ha
    obtain ⟨n, h1, h4, rfl, u, v, mx, ab, pr, be, u', v', sq, fa, be', ab', hf, hl, hv, hu', hv', f, e, hf1, he1, hf2, he2, rfl, rfl, hf4, he4, hf5⟩ := fit_both (rd := rd) (ft := ft) (F := F) (L := L) hC hM hw ha
    have hR : ∀ f j, j < n → R64 (NF (gT p0 g) (bT p0 g) f j) := fun f j hj => by have := NF_bound hG f j (by omega); exact ⟨by omega, by omega⟩
    have hs := mskE_c n (fun k hk => zero_same (D_b hG f).1 (D_b hG e).1 (best_same hG h4 hf1 he1 hf2 he2 k (by omega)))
    unfold X6_nothingNow
    rw [hf, hl, ob1_eq, ob7_eq, jn1_u, jn1_u]
    refine ⟨mskE (NF (gT p0 g) (bT p0 g) f.testBit) n, (u, v, mx, ab, pr, Int64.ofInt (DF (gT p0 g) (bT p0 g) f.testBit), Int64.ofInt (RT p0 g), nI n), (u', v', Int64.ofInt (RT p0 g), sq, fa, Int64.ofInt (DF (gT p0 g) (bT p0 g) e.testBit), ab'), ?_, ?_⟩
    · refine wh2_for (P := fun o => o = some (mskE (NF (gT p0 g) (bT p0 g) f.testBit) n, (u, v, mx, ab, pr, Int64.ofInt (DF (gT p0 g) (bT p0 g) f.testBit), Int64.ofInt (RT p0 g), nI n))) n (fun j x c => c = nI j ∧ x = mskE (NF (gT p0 g) (bT p0 g) f.testBit) j) ?_ ?_ 200 0 _ _ (by omega) (by omega) ⟨rfl, rfl⟩
      · intro j x c hj hI self hself
        obtain ⟨rfl, rfl⟩ := hI
        rw [if_neg (nI_ge hj (by omega)), partAbove_e (by omega), ob1_eq, jn1_u]
        dsimp only
        have e0 := hf4 j hj
        by_cases c : ab j = 0
        · rw [if_pos c]
          refine hself _ _ ⟨nI_1 j, ?_⟩
          simp only [mskE]
          rw [if_pos ((of0 (hR _ j hj)).mp (e0 ▸ c))]
        · rw [if_neg c]
          refine hself _ _ ⟨nI_1 j, ?_⟩
          simp only [mskE]
          rw [if_neg (fun z => c (e0.trans ((of0 (hR _ j hj)).mpr z)))]
      · intro x c hI self
        obtain ⟨rfl, rfl⟩ := hI
        rw [if_pos (nI_le (Nat.le_refl n) (by omega))]
    · rw [hs]
      suffices h : (wh2 (fun self (x4_20 : Int32) (x6_20 : Int32) => if nI n ≤ x6_20 then _ else _) 200 (0 : Int32) (0 : Int32)) = some (mskE (NF (gT p0 g) (bT p0 g) e.testBit) n, (u', v', Int64.ofInt (RT p0 g), sq, fa, Int64.ofInt (DF (gT p0 g) (bT p0 g) e.testBit), ab')) by
        rw [h, ob8_eq]
      refine wh2_for (P := fun o => o = some (mskE (NF (gT p0 g) (bT p0 g) e.testBit) n, (u', v', Int64.ofInt (RT p0 g), sq, fa, Int64.ofInt (DF (gT p0 g) (bT p0 g) e.testBit), ab'))) n (fun j x c => c = nI j ∧ x = mskE (NF (gT p0 g) (bT p0 g) e.testBit) j) ?_ ?_ 200 0 _ _ (by omega) (by omega) ⟨rfl, rfl⟩
      · intro j x c hj hI self hself
        obtain ⟨rfl, rfl⟩ := hI
        rw [if_neg (nI_ge hj (by omega)), chk_of (inB_nI (show j < 4 by omega) (by decide)), cl_nI (by omega), he4 j hj]
        simp only [jn2]
        by_cases c : Int64.ofInt (NF (gT p0 g) (bT p0 g) e.testBit j) = 0
        · rw [if_pos c]
          refine hself _ _ ⟨nI_1 j, ?_⟩
          simp only [mskE]
          rw [if_pos ((of0 (hR _ j hj)).mp c)]
        · rw [if_neg c]
          refine hself _ _ ⟨nI_1 j, ?_⟩
          simp only [mskE]
          rw [if_neg (mt (of0 (hR _ j hj)).mpr c), Int32.or_zero]
      · intro x c hI self
        obtain ⟨rfl, rfl⟩ := hI
        rw [if_pos (nI_le (Nat.le_refl n) (by omega))]
  · rw [if_neg ha, if_neg ha]
    exact ⟨_, _, _, rfl, rfl⟩
end BF2
