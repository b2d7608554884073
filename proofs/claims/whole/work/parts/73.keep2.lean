section KP2
variable {a : Nat → Nat} {q pg : Nat → Int32} {gS gU : Nat → Option Nat} {rd : RdT} {ft : FtT} {S : Nat → StT} {U : Nat → UnT} {I : Nat → Int32} {A : Nat → Nat → Int32} {F : Nat → Int64} {L : Nat → Nat → Int64} {g : Sg}
theorem disp4k {α : Type} {a : Nat → Nat} (hd : Dist a) {m : Option Nat} {k : Nat} (hk : k < 4) (h : m = some (a (36 + 3 * k))) (x : Nat → Option α) : (if m = some (a 36) then x 0 else if m = some (a 39) then x 1 else if m = some (a 42) then x 2 else if m = some (a 45) then x 3 else none) = x k := by
  obtain ⟨d1, d2, d3, d4, d5, d6⟩ := hd.2
  have : k = 0 ∨ k = 1 ∨ k = 2 ∨ k = 3 := by omega
  rw [h]
  rcases this with rfl | rfl | rfl | rfl <;> simp [d1, d1.symm, d2.symm, d3.symm, d4.symm, d5.symm, d6.symm]
theorem disp3k {α : Type} {a : Nat → Nat} (hd : Dist a) {m : Option Nat} {k : Nat} (hk : k < 3) (h : m = some (a (15 + 7 * k))) (x : Nat → Option α) : (if m = some (a 15) then x 0 else if m = some (a 22) then x 1 else if m = some (a 29) then x 2 else none) = x k := by
  obtain ⟨d1, d2, d3⟩ := hd.1
  have : k = 0 ∨ k = 1 ∨ k = 2 := by omega
  rw [h]
  rcases this with rfl | rfl | rfl <;> simp [d1, d1.symm, d2.symm, d3.symm]
theorem unW_pad {l n : Nat} {v : Nat → Int32} (h1 : 1 ≤ l) (h2 : l ≤ 4) (h3 : 1 ≤ n) (h4 : n ≤ 8) (h : ∀ j, j < n → 0 ≤ (v j).toInt ∧ (v j).toInt ≤ 99) : UnW (l, n, padE n v) := by
  refine ⟨h1, h2, h3, h4, fun j hj => ?_, fun j => ?_⟩
  · show padE n v j = 0
    have hj : n ≤ j := hj
    unfold padE; rw [if_neg (by omega)]
  · show 0 ≤ (padE n v j).toInt ∧ (padE n v j).toInt ≤ 99
    unfold padE
    by_cases c : j < n
    · rw [if_pos c]; exact h j c
    · rw [if_neg c]; decide
def KeepR (a : Nat → Nat) (q pg : Nat → Int32) (gS gU : Nat → Option Nat) (S : Nat → StT) (I : Nat → Int32) (A : Nat → Nat → Int32) (o : Option (Int32 × Int32 × Int32 × FtT × (Nat → UnT))) (o' : Option (Int32 × Int32 × (Nat → Int32) × (Nat → Int32) × (Nat → Int32) × Int32 × Int32 × Int32 × (Nat → Int32) × (Nat → Int64) × (Nat → Int64) × Int64 × (Nat → Int64) × (Nat → Int32) × Int64 × (Nat → Int64))) : Prop :=
  ∃ r o7 o10 ft' U' i7 a8 a9 a10 i13 i16 i19 a20 x1 x2 x3 x4 a29 x6 x7, o = some (r, o7, o10, ft', U') ∧ o' = some (r, i7, a8, a9, a10, i13, i16, i19, a20, x1, x2, x3, x4, a29, x6, x7) ∧ Rel a (up (up q 7 o7) 10 o10) pg gS gU S U' (up (up (up (up I 7 i7) 13 i13) 16 i16) 19 i19) (up (up (up (up (up A 8 a8) 9 a9) 10 a10) 20 a20) 29 a29)
theorem keep_same (hw : WF g) (hC : CRep a q pg gS gU S U g) (hM : MRep I A g) (r : Int32) (ft' : FtT) (x1 x2 : Nat → Int64) (x3 : Int64) (x4 : Nat → Int64) (a29 : Nat → Int32) (x6 : Int64) (x7 : Nat → Int64) : KeepR a q pg gS gU S I A (some (r, q 7, q 10, ft', U)) (some (r, I 7, A 8, A 9, A 10, I 13, I 16, I 19, A 20, x1, x2, x3, x4, a29, x6, x7)) :=
  ⟨_, _, _, _, _, _, _, _, _, _, _, _, _, _, _, _, _, _, _, _, rfl, rfl, g, hw, hC, hM⟩
theorem sim_keep (hR : Rel a q pg gS gU S U I A) (p0 p1 p2 : Int32) : KeepR a q pg gS gU S I A (X5_keep a q pg gS gU rd ft S U p0 p1 p2) (X6_keep I A F L p0 p1 p2) := by
  obtain ⟨g, hw, hC, hM⟩ := hR
  unfold X5_keep X6_keep
  rw [canFit_e hC hw, isAsk_e hM hw, ob1_eq, ob1_eq, ite10, ite10]
  by_cases ha : Ask g p0 p1
  · rw [if_pos ha, if_pos ha, isLength_e, within_e, ob1_eq, ob1_eq, ite10, ite10, l1, l4]
    by_cases hl : 1 ≤ p2.toInt ∧ p2.toInt ≤ 4
    · rw [if_pos hl, if_pos hl]
      have hG := gb_of hw ha
      obtain ⟨n, h1, h4, rfl, u, v, mx, ab, pr, be, u', v', sq, fa, be', ab', hf, hly, hv, hu', hv', f, e, hf1, he1, hf2, he2, rfl, rfl, hf4, he4, hf5⟩ := fit_both (rd := rd) (ft := ft) (F := F) (L := L) hC hM hw ha
      have hDf := D_b hG f
      have hDe := D_b hG e
      have rDf : R64 (DF (gT p0 g) (bT p0 g) f.testBit) := ⟨by omega, by omega⟩
      have rDe : R64 (DF (gT p0 g) (bT p0 g) e.testBit) := ⟨by omega, by omega⟩
      have hNf : ∀ k, k < n → R64 (NF (gT p0 g) (bT p0 g) f.testBit k) ∧ 0 ≤ NF (gT p0 g) (bT p0 g) f.testBit k := fun k hk => by
        have := NF_bound hG f.testBit k (by omega)
        exact ⟨⟨by omega, by omega⟩, hf2.1 k hk⟩
      have hNe : ∀ k, k < n → R64 (NF (gT p0 g) (bT p0 g) e.testBit k) ∧ 0 ≤ NF (gT p0 g) (bT p0 g) e.testBit k := fun k hk => by
        have := NF_bound hG e.testBit k (by omega)
        exact ⟨⟨by omega, by omega⟩, he2.1 k hk⟩
      have hs := fun k (hk : k < n) => ok_same hDf.1 hDe.1 (best_same hG h4 hf1 he1 hf2 he2 k (by omega))
      rw [hf, hly, ob1_eq, ob7_eq]
      obtain ⟨fl, hc1, hc2⟩ := unitNumbers_e (rd := u) (rr := v) (mx := mx) (pr := pr) (rs := Int64.ofInt (RT p0 g)) h4 hNf rDf hDf.1 hf4
      obtain ⟨fm, hm1, hm2⟩ := isWhole_e (I := I) (A := up A 29 fa) (F := up (up F 27 (Int64.ofInt (RT p0 g))) 30 (Int64.ofInt (DF (gT p0 g) (bT p0 g) e.testBit))) (L := up (up (up (up L 25 u') 26 v') 28 sq) 31 ab') h4 hNe rDe hDe.1 he4 rfl
      rw [hc1, hm1, ob1_eq, ob1_eq]
      have hall : AllOk (NF (gT p0 g) (bT p0 g) f.testBit) (DF (gT p0 g) (bT p0 g) f.testBit) n ↔ AllOk (NF (gT p0 g) (bT p0 g) e.testBit) (DF (gT p0 g) (bT p0 g) e.testBit) n :=
        ⟨fun h k hk => (hs k hk).2.mp (h k hk), fun h k hk => (hs k hk).2.mpr (h k hk)⟩
      by_cases hA : AllOk (NF (gT p0 g) (bT p0 g) f.testBit) (DF (gT p0 g) (bT p0 g) f.testBit) n
      · have ef : fl = 1 := by rcases hc2 with ⟨h, -⟩ | ⟨-, h⟩; exact h; exact absurd hA h
        have em : fm = 1 := by rcases hm2 with ⟨h, -⟩ | ⟨-, h⟩; exact h; exact absurd (hall.mp hA) h
        rw [ef, em, if_neg (show ¬ (1 : Int32) = 0 by decide), if_neg (show ¬ (1 : Int32) = 0 by decide)]
        have hn4 := hw.2.2.2.2.1
        by_cases hm : g.2.2.1.1 < 4
        · rw [hC.1.2.2.1, hM.1.2.2.1, if_pos (show nI g.2.2.1.1 < (4 : Int32) from nI_lt (a := g.2.2.1.1) (b := 4) hm (by decide)), if_neg (show ¬ nI g.2.2.1.1 = (4 : Int32) from fun z => by have := congrArg Int32.toInt z; rw [nI_toInt (by omega), l4] at this; omega), chk_of (inB_nI hm (by decide)), cl_nI (by omega)]
          obtain ⟨k, hk, hgk, hcr⟩ := crep_u hC hm
          have hp2 := i32_of (x := p2) (by omega)
          have hcl := cl_pos (x := p2) (by omega)
          generalize p2.toNatClampNeg = l at *
          subst hp2
          obtain ⟨n', f', hwi, hrow⟩ := writeInto_e (rd := u) (rr := v) (mx := mx) (pr := pr) (rs := Int64.ofInt (RT p0 g)) h4 hNf rDf hDf.1 hf4 (U k).2.1 (U k).2.2
          have hcls := disp4k hC.2.2.1 hk hgk (fun k => ob2 (X0_writeInto u v mx ab pr (Int64.ofInt (DF (gT p0 g) (bT p0 g) f.testBit)) (Int64.ofInt (RT p0 g)) (nI n) ((U k).2.1) ((U k).2.2)) fun onx2 ofx2 => some (((nI g.2.2.1.1 + (1 : Int32)) - (1 : Int32)), (nI g.2.2.1.1 + (1 : Int32)), (q 10 + (1 : Int32)), (u, v, mx, ab, pr, Int64.ofInt (DF (gT p0 g) (bT p0 g) f.testBit), Int64.ofInt (RT p0 g), nI n), (up U k (nI l, onx2, ofx2))))
          dsimp only
          rw [hcls, hwi, ob2_eq, pm1, nI_1]
          have hd : UnW (l, n, padE n (fun k => vI (NF (gT p0 g) (bT p0 g) f.testBit k) (DF (gT p0 g) (bT p0 g) f.testBit))) := by
            have e : (nI l).toInt = (l : Int) := nI_toInt (by omega)
            exact unW_pad (by omega) (by omega) h1 (by omega) (fun j c => vI_b (hNf j c).2 hDf.1 (hA j c).2)
          have hcr' := hcr (nI l, n', f') (l, n, padE n (fun k => vI (NF (gT p0 g) (bT p0 g) f.testBit k) (DF (gT p0 g) (bT p0 g) f.testBit))) ⟨rfl, hrow⟩
          rw [jn1_u]
          refine wh2_for (P := fun o => KeepR a q pg gS gU S I A _ o) n (fun k c w => c = nI k ∧ ∀ j, j < k → w j = vI (NF (gT p0 g) (bT p0 g) e.testBit j) (DF (gT p0 g) (bT p0 g) e.testBit)) ?_ ?_ 200 0 _ _ (by omega) (by omega) ⟨rfl, fun j hj => by omega⟩
          · intro k c w hk hI self hself
            obtain ⟨rfl, hwk⟩ := hI
            rw [if_neg (nI_ge hk (by omega)), chk_of (inB_nI (show k < 4 by omega) (by decide)), chk_of (ne0l_of rDe hDe.1), chk_of (inB_nI (show k < 8 by omega) (by decide)), cl_nI (by omega), he4 k hk, div64p (hNe k hk).1 (hNe k hk).2 rDe hDe.1]
            refine hself _ _ ⟨nI_1 k, fun j hj => ?_⟩
            by_cases c : j = k
            · subst c; rw [pk_us]; rfl
            · rw [pk_un c]; exact hwk j (by omega)
          · intro c w hI self
            obtain ⟨rfl, hwk⟩ := hI
            rw [if_pos (nI_le (Nat.le_refl n) (by omega))]
            dsimp only
            obtain ⟨a10, ht1, ht2, ht3⟩ := takeUnit_m (I := up (up (up I 16 (nI l)) 19 (nI n)) 13 (I 13 + 1)) (A := up (up A 29 fa) 20 w) (F := up (up F 27 (Int64.ofInt (RT p0 g))) 30 (Int64.ofInt (DF (gT p0 g) (bT p0 g) e.testBit))) (L := up (up (up (up L 25 u') 26 v') 28 sq) 31 ab') (m := g.2.2.1.1) (n := n) hM.1.2.2.1 hm rfl (by omega)
            rw [ht1, ob5_eq]
            refine ⟨_, _, _, _, _, _, _, _, _, _, _, _, _, _, _, _, _, _, _, _, rfl, rfl, (addU g (l, n, padE n (fun k => vI (NF (gT p0 g) (bT p0 g) f.testBit k) (DF (gT p0 g) (bT p0 g) f.testBit)))|> fun g' => (g'.1, g'.2.1, g'.2.2.1, g'.2.2.2.1, g'.2.2.2.2.1, g'.2.2.2.2.2 + 1)), ?_, ?_, ?_⟩
            · exact wf_u hw hm hd
            · exact ⟨⟨hcr'.1.1, hcr'.1.2.1, hcr'.1.2.2.1, hcr'.1.2.2.2.1, hcr'.1.2.2.2.2.1, congrArg (· + 1) hcr'.1.2.2.2.2.2⟩, hcr'.2⟩
            · have hmr := mrep_u (v := w) (d := (l, n, padE n (fun k => vI (NF (gT p0 g) (bT p0 g) f.testBit k) (DF (gT p0 g) (bT p0 g) f.testBit)))) hM (l := nI l) (n := n) (a10 := a10) rfl rfl (fun k hk => (ht2 k hk).trans ?_) ht3
              · exact ⟨⟨hmr.1.1, hmr.1.2.1, hmr.1.2.2.1, hmr.1.2.2.2.1, hmr.1.2.2.2.2.1, congrArg (· + 1) hmr.1.2.2.2.2.2⟩, hmr.2⟩
              · show padE n w k = padE n (fun k => vI (NF (gT p0 g) (bT p0 g) f.testBit k) (DF (gT p0 g) (bT p0 g) f.testBit)) k
                unfold padE
                by_cases c : k < n
                · rw [if_pos c, if_pos c, hwk k c]
                  show vI (NF (gT p0 g) (bT p0 g) e.testBit k) (DF (gT p0 g) (bT p0 g) e.testBit) = vI (NF (gT p0 g) (bT p0 g) f.testBit k) (DF (gT p0 g) (bT p0 g) f.testBit)
                  unfold vI
                  rw [(hs k c).1]
                · rw [if_neg c, if_neg c]
        · have h4' : g.2.2.1.1 = 4 := by omega
          have e4 : nI g.2.2.1.1 = 4 := by rw [h4']; rfl
          rw [if_neg (show ¬ q 7 < 4 by rw [hC.1.2.2.1, e4]; decide), if_pos (show I 7 = 4 by rw [hM.1.2.2.1, e4])]
          exact keep_same hw hC hM _ _ _ _ _ _ _ _ _
      · have ef : fl = 0 := by rcases hc2 with ⟨-, h⟩ | ⟨h, -⟩; exact absurd h hA; exact h
        have em : fm = 0 := by rcases hm2 with ⟨-, h⟩ | ⟨h, -⟩; exact absurd (hall.mpr h) hA; exact h
        rw [ef, em, if_pos rfl, if_pos rfl]
        exact keep_same hw hC hM _ _ _ _ _ _ _ _ _
    · rw [if_neg hl, if_neg hl]
      exact keep_same hw hC hM _ _ _ _ _ _ _ _ _
  · rw [if_neg ha, if_neg ha]
    exact keep_same hw hC hM _ _ _ _ _ _ _ _ _
end KP2
