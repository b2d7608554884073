section DG8
variable {a : Nat → Nat} {q pg : Nat → Int32} {gS gU : Nat → Option Nat} {rd : RdT} {ft : FtT} {S : Nat → StT} {U : Nat → UnT} {I : Nat → Int32} {A : Nat → Nat → Int32} {F : Nat → Int64} {L : Nat → Nat → Int64} {g : Sg}
theorem sim_digest (hC : CRep a q pg gS gU S U g) (hM : MRep I A g) (hw : WF g) : ∃ r ft' o, X5_digest a q pg gS gU rd ft S U = some (r, ft') ∧ X6_digest I A F L = some (r, o) := by
  have h3 := hw.2.2.1
  have h4 := hw.2.2.2.2.1
  have hM' : ∀ x y, MRep (up I 23 x) (up A 24 y) g := fun _ _ => hM
  have get : ∀ {o : Option Int32} {r : Int32}, o = some r → o = some (o.getD 0) := fun h => by rw [h]; rfl
  have nT : ∀ c, c < 28 → (nI c).toInt = (c : Int) := fun c hc => nI_toInt (by omega)
  have s1 : ∀ i c, X5_storm a q pg gS gU rd ft S U (nI i) (nI c) = some ((X5_storm a q pg gS gU rd ft S U (nI i) (nI c)).getD 0) := fun i c => by
    obtain ⟨r, e, -⟩ := sim_storm (rd := rd) (ft := ft) (F := F) (L := L) hC hM hw (nI i) (nI c)
    exact get e
  have s2 : ∀ i, i < g.2.1.1 → ∀ x y (F' : Nat → Int64) c, c < 4 ∨ (10 ≤ c ∧ c ≤ 12) ∨ (20 ≤ c ∧ c ≤ 27) → X6_stormNow (up I 23 x) (up A 24 y) F' L (nI i) (nI c) = some ((X5_storm a q pg gS gU rd ft S U (nI i) (nI c)).getD 0) := fun i hi x y F' c hc => by
    obtain ⟨r, e, e2⟩ := sim_storm (rd := rd) (ft := ft) (F := F') (L := L) hC (hM' x y) hw (nI i) (nI c)
    have := nT c (by omega)
    rw [e]
    exact stormNow_of (hM' x y) hw hi (by omega) e2
  have cd : ∀ c : Nat, c = 0 ∨ (10 ≤ c ∧ c ≤ 17) → nI c = 0 ∨ (10 ≤ (nI c).toInt ∧ (nI c).toInt ≤ 17) := fun c hc => by
    rcases hc with rfl | hc
    · exact Or.inl rfl
    · have := nT c (by omega)
      exact Or.inr (by omega)
  have d1 : ∀ i, i < g.2.1.1 → ∀ c, c = 0 ∨ (10 ≤ c ∧ c ≤ 17) → X5_divided a q pg gS gU rd ft S U (nI i) (nI c) = some ((X5_divided a q pg gS gU rd ft S U (nI i) (nI c)).getD 0) := fun i hi c hc => by
    obtain ⟨r, m, w, e, -⟩ := sim_divNow (rd := rd) (ft := ft) (F := F) (L := L) hC hM hw hi (nI c) (cd c hc)
    exact get e
  have d2 : ∀ i, i < g.2.1.1 → ∀ (I' : Nat → Int32) (A' : Nat → Nat → Int32) (F' : Nat → Int64) c, MRep I' A' g → c = 0 ∨ (10 ≤ c ∧ c ≤ 17) → ∃ m w, X6_dividedNow I' A' F' L (nI i) (nI c) = some ((X5_divided a q pg gS gU rd ft S U (nI i) (nI c)).getD 0, m, w) := fun i hi I' A' F' c hMM hc => by
    obtain ⟨r, m, w, e, e2⟩ := sim_divNow (rd := rd) (ft := ft) (F := F') (L := L) hC hMM hw hi (nI c) (cd c hc)
    rw [e]
    exact ⟨m, w, e2⟩
  have u1 : ∀ i c, X5_unit a q pg gS gU rd ft S U (nI i) (nI c) = some ((X5_unit a q pg gS gU rd ft S U (nI i) (nI c)).getD 0) := fun i c => by
    obtain ⟨r, e, -⟩ := sim_unit (rd := rd) (ft := ft) (F := F) (L := L) hC hM hw (nI i) (nI c)
    exact get e
  have u2 : ∀ x y, ∀ i, i < g.2.2.1.1 → ∀ (F' : Nat → Int64) c, c < 3 ∨ (10 ≤ c ∧ c ≤ 17) → X6_unitNow (up I 23 x) (up A 24 y) F' L (nI i) (nI c) = some ((X5_unit a q pg gS gU rd ft S U (nI i) (nI c)).getD 0) := fun x y i hi F' c hc => by
    obtain ⟨r, e, e2⟩ := sim_unit (rd := rd) (ft := ft) (F := F') (L := L) hC (hM' x y) hw (nI i) (nI c)
    have := nT c (by omega)
    rw [e]
    exact unitNow_of (hM' x y) hw hi (by omega) e2
  have m1 : ∀ u i, X5_missed a q pg gS gU rd ft S U (nI u) (nI i) = some ((X5_missed a q pg gS gU rd ft S U (nI u) (nI i)).getD 0) := fun u i => by
    obtain ⟨r, e, -⟩ := sim_missed (rd := rd) (ft := ft) (F := F) (L := L) hC hM hw (nI u) (nI i)
    exact get e
  have m2 : ∀ x y, ∀ u, u < g.2.2.1.1 → ∀ (F' : Nat → Int64) i, i < g.2.1.1 → X6_missedNow (up I 23 x) (up A 24 y) F' L (nI u) (nI i) = some ((X5_missed a q pg gS gU rd ft S U (nI u) (nI i)).getD 0) := fun x y u hu F' i hi => by
    obtain ⟨r, e, e2⟩ := sim_missed (rd := rd) (ft := ft) (F := F') (L := L) hC (hM' x y) hw (nI u) (nI i)
    rw [e]
    exact missedNow_of (hM' x y) hw hu hi e2
  have c1 : ∀ ft' k, X5_count a q pg gS gU rd ft' S U (nI k) = some ((X5_count a q pg gS gU rd ft S U (nI k)).getD 0) := fun ft' k => by
    obtain ⟨r, e, -⟩ := sim_count (rd := rd) (ft := ft) (F := F) (L := L) hC hM (nI k)
    exact get e
  have c2 : ∀ x (y : Nat → Nat → Int32) (F' : Nat → Int64) L' k, k < 6 → X6_howMany (up I 23 x) y F' L' (nI k) = some ((X5_count a q pg gS gU rd ft S U (nI k)).getD 0) := fun x y F' L' k _ => by
    obtain ⟨r, e, e2⟩ := sim_count (rd := rd) (ft := ft) (F := F') (L := L') hC (hM' x (A 24)) (nI k)
    rw [e]
    unfold X6_count at e2
    cases hx : X6_howMany (up I 23 x) (up A 24 (A 24)) F' L' (nI k) with
    | none => rw [hx] at e2; cases (show (none : Option Int32) = some r from e2)
    | some z => rw [hx, ob1_eq] at e2; exact hx.trans e2
  have hsC := fun i (hi : i < g.2.1.1) (h : Int64) => withStorm_e (rd := rd) (ft := ft) (fun c _ => s1 i c) (fun c hc => d1 i hi c hc) h
  have huC := fun i (_ : i < g.2.2.1.1) (h : Int64) => withUnit_e (rd := rd) (ft := ft) (fun c _ => u1 i c) h
  have hsM := fun i (hi : i < g.2.1.1) x y (F' : Nat → Int64) => mixStorm_e (I := up I 23 x) (A := up A 24 y) (F := F') (L := L) (fun F'' c hc => s2 i hi x y F'' c hc) (fun x' y' F'' c hc => d2 i hi _ _ F'' c (show MRep (up (up I 23 x) 23 x') (up (up A 24 y) 24 y') g from hM) hc) (fun F'' => d2 i hi _ _ F'' 0 (hM' x y) (Or.inl rfl))
  have huM := fun x y (F' : Nat → Int64) => mixUnits_e (I := up I 23 x) (A := up A 24 y) (F := F') (L := L) h4 h3 hM.1.2.2.1 hM.1.2.1 (u2 x y) (m2 x y)
  by_cases h0 : g.2.1.1 = 0
  · obtain ⟨ft', e1⟩ := digest_c hC.1.1 hC.1.2.1 hC.1.2.2.1 hw.1 h3 h4 hC.2.1 hsC huC (fun u _ i _ => m1 u i) (fun ft' k _ => c1 ft' k) (fun J => ⟨ft, by
      rw [wh3_s, if_neg (by decide), if_pos (show nI g.2.1.1 ≤ 0 by rw [h0]; decide)]⟩)
    obtain ⟨o, e2⟩ := digest_m hM.1.1 hM.1.2.1 hw.1 h3 hM.2.1 hsM huM (fun z => by omega) (fun _ => rfl) c2
    exact ⟨_, ft', o, e1, e2⟩
  · have hask : Ask g (((1 : Int32) <<< (nI g.2.1.1 &&& 31)) - 1) 1 := by
      have e := pw_e1 g.2.1.1 (by omega)
      have p2 : 2 ≤ 2 ^ g.2.1.1 := by
        have : g.2.1.1 = 1 ∨ g.2.1.1 = 2 ∨ g.2.1.1 = 3 := by omega
        rcases this with h | h | h <;> rw [h] <;> decide
      refine ⟨⟨?_, ?_⟩, by decide, by decide⟩
      · rw [e]; omega
      · rw [e]; omega
    have hG := gb_of hw hask
    have hex : ∀ n, ∃ f, n ≤ 4 → f < 2 ^ n ∧ Best (gT (((1 : Int32) <<< (nI g.2.1.1 &&& 31)) - 1) g) (bT (((1 : Int32) <<< (nI g.2.1.1 &&& 31)) - 1) g) n f := fun n => by
      by_cases c : n ≤ 4
      · obtain ⟨f, h⟩ := best_ex hG c
        exact ⟨f, fun _ => h⟩
      · exact ⟨0, fun z => absurd z c⟩
    obtain ⟨f, hf⟩ := Classical.axiomOfChoice hex
    have hf' := fun n (_ : 1 ≤ n) (h : n ≤ 4) => hf n h
    have hle : ¬ nI g.2.1.1 ≤ 0 := fun z => by have := (le_iff _ _).mp z; rw [nI_toInt (by omega), l0] at this; omega
    obtain ⟨ft', e1⟩ := digest_c hC.1.1 hC.1.2.1 hC.1.2.2.1 hw.1 h3 h4 hC.2.1 hsC huC (fun u _ i _ => m1 u i) (fun ft' k _ => c1 ft' k) (fun J => fitLoop_e (rd := rd) (ft := ft) hC hw hG hle hf' J _)
    obtain ⟨o, e2⟩ := digest_m (F := F) hM.1.1 hM.1.2.1 hw.1 h3 hM.2.1 hsM huM (fun _ x y => mixBest_e (hM' x y) hw hG hf') (fun z => absurd z h0) c2
    exact ⟨_, ft', o, e1, e2⟩
end DG8
