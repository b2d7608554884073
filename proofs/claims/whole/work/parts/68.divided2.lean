def dvAns (ev n : Int32) (f : Nat → Int32) (p : Int32) : Int32 := if ev = 0 then -1000001 else if p = 0 then n else if n ≤ p - 10 then -1000001 else f (p - 10).toNatClampNeg
theorem dvAns_same {d : SD} {n n' ev ev' : Int32} {f f' : Nat → Int32} (hw : StW d) (h : DivR d n f ev) (h' : DivR d n' f' ev') (p : Int32) (hp : p = 0 ∨ (10 ≤ p.toInt ∧ p.toInt ≤ 17)) : dvAns ev n f p = dvAns ev' n' f' p := by
  have hk1 := hw.1.1
  have hm8 := hw.2.2.1
  rcases h with ⟨rfl, hE, rfl, hf⟩ | ⟨rfl, hE⟩
  · rcases h' with ⟨rfl, hE', rfl, hf'⟩ | ⟨rfl, hE'⟩
    · unfold dvAns
      rw [if_neg (show ¬ (1 : Int32) = 0 by decide), if_neg (show ¬ (1 : Int32) = 0 by decide)]
      by_cases c : p = 0
      · rw [if_pos c, if_pos c]
      · rw [if_neg c, if_neg c]
        have hp : 10 ≤ p.toInt ∧ p.toInt ≤ 17 := by
          rcases hp with hp | hp
          · exact absurd hp c
          · exact hp
        have hb := dv_b (k := 0) (Nat.le_refl 8) p hp
        have hcl := cl_pos (x := p - 10) (by omega)
        by_cases c2 : nI (d.2.2.1 + 1 - d.1) ≤ p - 10
        · rw [if_pos c2, if_pos c2]
        · rw [if_neg c2, if_neg c2]
          have := mt (le_iff _ _).mpr c2
          rw [nI_toInt (by omega)] at this
          rw [hf _ (by omega), hf' _ (by omega)]
    · exact absurd hE hE'
  · rcases h' with ⟨rfl, hE', rfl, hf'⟩ | ⟨rfl, hE'⟩
    · exact absurd hE' hE
    · unfold dvAns
      rw [if_pos rfl, if_pos rfl]
theorem divR_b {d : SD} {n ev : Int32} {f : Nat → Int32} (h : DivR d n f ev) : isB ev = true := by
  rcases h with ⟨rfl, -⟩ | ⟨rfl, -⟩ <;> rfl
theorem atD_e {n : Int32} {f : Nat → Int32} {p : Int32} (hp : 10 ≤ p.toInt ∧ p.toInt ≤ 17) (h : ¬ n ≤ p - 10) : X2_at n f (p - 10) = some (f (p - 10).toNatClampNeg) := by
  have hb := dv_b (k := 0) (Nat.le_refl 8) p hp
  unfold X2_at
  rw [if_neg (fun z => by have := (lt_iff _ _).mp z; rw [hb, l0] at this; omega), if_neg h, if_neg (fun z => by have := (le_iff _ _).mp z; rw [hb] at this; have e : (8 : Int32).toInt = 8 := rfl; omega), chk_of (inB_iff.mpr (by omega))]
section DV2
variable {a : Nat → Nat} {q pg : Nat → Int32} {gS gU : Nat → Option Nat} {rd : RdT} {ft : FtT} {S : Nat → StT} {U : Nat → UnT} {I : Nat → Int32} {A : Nat → Nat → Int32} {F : Nat → Int64} {L : Nat → Nat → Int64} {g : Sg}
theorem stK_div {s : StT} {d : SD} (h : StK s d) (hw : StW d) : DivR d s.2.2.2.2.1 s.2.2.2.2.2.1 s.2.2.2.2.2.2 := by
  obtain ⟨h1, h2, n, f, e, h3⟩ := h
  obtain ⟨n', f', e', h4, h5⟩ := divide_e (n3 := n) (f3 := f) (ev := e) h1 h2 hw
  rw [h3] at h4
  simp only [Option.some.injEq, Prod.mk.injEq] at h4
  obtain ⟨e1, e2, e3⟩ := h4
  rw [e1, e2, e3]
  exact h5
theorem dividedNow_e {i : Nat} {d : SD} (hi : i < 3) (h : MSt A i d) (hw : StW d) (p : Int32) (hp : p = 0 ∨ (10 ≤ p.toInt ∧ p.toInt ≤ 17)) : ∃ fl n w, DivR d n w fl ∧ X6_dividedNow I A F L (nI i) p = some (dvAns fl n w p, n, w) := by
  obtain ⟨fl, n, w, h1, h2⟩ := isDivided_e (I := I) (F := F) (L := L) hi h hw
  refine ⟨fl, n, w, h2, ?_⟩
  unfold X6_dividedNow dvAns
  rw [h1, ob3_eq]
  by_cases c0 : fl = 0
  · rw [if_pos c0, if_pos c0]
  · rw [if_neg c0, if_neg c0]
    by_cases c : p = 0
    · rw [if_pos c, if_pos c]
    · rw [if_neg c, if_neg c]
      have hp : 10 ≤ p.toInt ∧ p.toInt ≤ 17 := by
        rcases hp with hp | hp
        · exact absurd hp c
        · exact hp
      have hb := dv_b (k := 0) (Nat.le_refl 8) p hp
      by_cases c2 : n ≤ p - 10
      · rw [if_pos c2, if_pos c2]
      · rw [if_neg c2, if_neg c2, chk_of (inB_iff.mpr (by omega))]
theorem sim_divNow (hC : CRep a q pg gS gU S U g) (hM : MRep I A g) (hw : WF g) {i : Nat} (hi : i < g.2.1.1) (p : Int32) (hp : p = 0 ∨ (10 ≤ p.toInt ∧ p.toInt ≤ 17)) : ∃ r n w, X5_divided a q pg gS gU rd ft S U (nI i) p = some r ∧ X6_dividedNow I A F L (nI i) p = some (r, n, w) := by
  have hs := hw.2.2.1
  have hW := hw.2.2.2.1 i hi
  obtain ⟨fl, n, w, h1, h2⟩ := dividedNow_e (I := I) (F := F) (L := L) (show i < 3 by omega) (hM.2.2.1 i hi) hW p hp
  refine ⟨_, n, w, ?_, h2⟩
  unfold X5_divided
  rw [hasStorm_e hC hw, ob1_eq, ite10, if_pos (by rw [nI_toInt (by omega)]; omega)]
  obtain ⟨-, -, hd, ps, pu, hps, hpu, hst, hun⟩ := hC
  have hK := stK_div (hst i hi) hW
  have hB := divR_b hK
  have hA := dvAns_same hW hK h1 p hp
  rw [chk_of (inB_nI (show i < 3 by omega) (by decide)), cl_nI (by omega), disp3 hd hps (by omega)]
  have hcore : ∀ s : StT, isB s.2.2.2.2.2.2 = true → dvAns s.2.2.2.2.2.2 s.2.2.2.2.1 s.2.2.2.2.2.1 p = dvAns fl n w p → (ob1 (X3_goesEvenly s.1 s.2.1 s.2.2.1 s.2.2.2.1 s.2.2.2.2.1 s.2.2.2.2.2.1 s.2.2.2.2.2.2) fun r57 => if r57 = 0 then (some (-1000001 : Int32)) else (if p = 0 then (ob1 (X2_size s.2.2.2.2.1 s.2.2.2.2.2.1) fun r75 => some r75) else (ob1 (X2_size s.2.2.2.2.1 s.2.2.2.2.2.1) fun r85 => if r85 ≤ (p - (10 : Int32)) then (some (-1000001 : Int32)) else (ob1 (X2_at s.2.2.2.2.1 s.2.2.2.2.2.1 (p - (10 : Int32))) fun r97 => some r97)))) = some (dvAns fl n w p) := by
    intro s hB hA
    rw [← hA]
    unfold X3_goesEvenly X2_size dvAns
    rw [chk_of hB, ob1_eq]
    by_cases c0 : s.2.2.2.2.2.2 = 0
    · rw [if_pos c0, if_pos c0]
    · rw [if_neg c0, if_neg c0]
      by_cases c : p = 0
      · rw [if_pos c, if_pos c, ob1_eq]
      · rw [if_neg c, if_neg c, ob1_eq]
        have hp : 10 ≤ p.toInt ∧ p.toInt ≤ 17 := by
          rcases hp with hp | hp
          · exact absurd hp c
          · exact hp
        by_cases c2 : s.2.2.2.2.1 ≤ p - 10
        · rw [if_pos c2, if_pos c2]
        · rw [if_neg c2, if_neg c2, atD_e hp c2, ob1_eq]
  have hc := hcore _ hB hA
  have hpi := lt3 (hps.1 i (by omega)).1
  have hj : (p = 0) ∨ ((10 : Int32) ≤ p ∧ ¬ (18 : Int32) ≤ p ∧ ¬ p < (10 : Int32)) := by
    rcases hp with hp | hp
    · exact Or.inl hp
    · refine Or.inr ⟨(le_iff _ _).mpr ?_, fun z => ?_, fun z => ?_⟩
      · rw [l10]; omega
      · have := (le_iff _ _).mp z; rw [l18] at this; omega
      · have := (lt_iff _ _).mp z; rw [l10] at this; omega
  rcases hpi with e | e | e <;> rw [e] at hc <;> simp only [e, reduceIte, Nat.reduceEqDiff, Nat.one_ne_zero, jn0, jn1] <;>
    (rcases hj with rfl | ⟨j1, j2, j3⟩
     · simpa using hc
     · rw [if_neg j3, if_neg j2]
       by_cases c : p = 0
       · rw [if_pos c]; exact hc
       · rw [if_neg c]; exact hc)
theorem sim_divided (hC : CRep a q pg gS gU S U g) (hM : MRep I A g) (hw : WF g) (p0 p1 : Int32) : ∃ r n w, X5_divided a q pg gS gU rd ft S U p0 p1 = some r ∧ X6_divided I A F L p0 p1 = some (r, n, w) := by
  by_cases c : 0 ≤ p0.toInt ∧ p0.toInt < (g.2.1.1 : Int)
  · obtain ⟨i, hi, rfl⟩ := nat_of c
    by_cases hp : p1 = 0 ∨ (10 ≤ p1.toInt ∧ p1.toInt ≤ 17)
    · obtain ⟨r, n, w, h1, h2⟩ := sim_divNow (rd := rd) (ft := ft) (F := F) (L := L) hC hM hw hi p1 hp
      refine ⟨r, n, w, h1, ?_⟩
      unfold X6_divided
      rw [isStorm_e hM hw, ob1_eq, ite10, if_pos c, jn0_u, h2, ob3_eq]
      by_cases c0 : p1 = 0
      · rw [if_pos c0]
      · rw [if_neg c0, within_e, ob1_eq, ite10, l10, l17, if_pos]
        rcases hp with hp | hp
        · exact absurd hp c0
        · exact hp
    · refine ⟨-1000003, I 23, A 24, ?_, ?_⟩
      · unfold X5_divided
        rw [hasStorm_e hC hw, ob1_eq, ite10, if_pos c, jn1_u]
        by_cases c1 : p1 < 10
        · rw [if_pos c1]
          dsimp only
          rw [jn0_u, if_neg (fun z => hp (Or.inl z)), if_pos rfl]
        · rw [if_neg c1]
          have := mt (lt_iff _ _).mpr c1
          rw [l10] at this
          rw [if_pos ((le_iff _ _).mpr (by rw [l18]; omega))]
          dsimp only
          rw [jn0_u, if_neg (fun z => hp (Or.inl z)), if_pos rfl]
      · unfold X6_divided
        rw [isStorm_e hM hw, ob1_eq, ite10, if_pos c, jn0_u, if_neg (fun z => hp (Or.inl z)), within_e, ob1_eq, ite10, l10, l17, if_neg (fun z => hp (Or.inr z))]
  · refine ⟨-1000002, I 23, A 24, ?_, ?_⟩
    · unfold X5_divided
      rw [hasStorm_e hC hw, ob1_eq, ite10, if_neg c]
    · unfold X6_divided
      rw [isStorm_e hM hw, ob1_eq, ite10, if_neg c]
def Rel (a : Nat → Nat) (q pg : Nat → Int32) (gS gU : Nat → Option Nat) (S : Nat → StT) (U : Nat → UnT) (I : Nat → Int32) (A : Nat → Nat → Int32) : Prop := ∃ g, WF g ∧ CRep a q pg gS gU S U g ∧ MRep I A g
theorem sim_blank (hR : Rel a q pg gS gU S U I A) : ∃ r o o', X5_blank a q pg gS gU rd ft S U = some (r, o) ∧ X6_blank I A F L = some (r, o') ∧ Rel a (up q 5 o) pg gS gU S U (up I 0 o') A := by
  obtain ⟨g, hw, hC, hM⟩ := hR
  refine ⟨nI g.1.1, 0, 0, ?_, ?_, ((0, g.1.2), g.2), ?_, ?_, ?_⟩
  · unfold X5_blank; rw [hC.1.1]
  · unfold X6_blank; rw [hM.1.1]
  · exact ⟨Nat.zero_le _, fun j hj => absurd hj (Nat.not_lt_zero j), hw.2.2⟩
  · exact ⟨⟨rfl, hC.1.2⟩, fun j hj => absurd hj (Nat.not_lt_zero j), hC.2.2⟩
  · exact ⟨⟨rfl, hM.1.2⟩, fun j hj => absurd hj (Nat.not_lt_zero j), hM.2.2⟩
theorem sim_letter (hR : Rel a q pg gS gU S U I A) (p0 : Int32) : ∃ r o1 o2 o1' o2', X5_letter a q pg gS gU rd ft S U p0 = some (r, o1, o2) ∧ X6_letter I A F L p0 = some (r, o1', o2') ∧ Rel a (up q 5 o1) o2 gS gU S U (up I 0 o1') (up A 1 o2') := by
  obtain ⟨g, hw, hC, hM⟩ := hR
  have hn := hw.1
  unfold X5_letter X6_letter
  rw [hC.1.1, hM.1.1, within_e, ob1_eq, ite10]
  have e1 : (32 : Int32).toInt = 32 := rfl
  have e2 : (126 : Int32).toInt = 126 := rfl
  have same : Rel a (up q 5 (nI g.1.1)) pg gS gU S U (up I 0 (nI g.1.1)) (up A 1 (A 1)) := ⟨g, hw, ⟨⟨rfl, hC.1.2⟩, hC.2⟩, ⟨⟨rfl, hM.1.2⟩, hM.2⟩⟩
  rw [e1, e2]
  by_cases c : 32 ≤ p0.toInt ∧ p0.toInt ≤ 126
  · rw [if_pos c, if_neg (fun z => by have := (lt_iff _ _).mp z; omega), if_pos ((le_iff _ _).mpr (by omega))]
    by_cases h40 : g.1.1 < 40
    · rw [if_pos (show nI g.1.1 < (40 : Int32) from nI_lt (a := g.1.1) (b := 40) h40 (by decide)), if_neg (fun z => by have := congrArg Int32.toInt z; rw [nI_toInt (by omega)] at this; have e : (40 : Int32).toInt = 40 := rfl; omega), chk_of (inB_nI h40 (by decide)), chk_of (inB_nI h40 (by decide)), cl_nI (by omega)]
      refine ⟨_, _, _, _, _, rfl, rfl, ((g.1.1 + 1, upd g.1.2 g.1.1 p0), g.2), ⟨by show g.1.1 + 1 ≤ 40; omega, fun j hj => ?_, hw.2.2⟩, ⟨⟨nI_1 _, hC.1.2⟩, fun j hj => ?_, hC.2.2⟩, ⟨⟨nI_1 _, hM.1.2⟩, fun j hj => ?_, hM.2.2⟩⟩
      · show 32 ≤ (upd g.1.2 g.1.1 p0 j).toInt ∧ (upd g.1.2 g.1.1 p0 j).toInt ≤ 126
        have hj : j < g.1.1 + 1 := hj
        by_cases cj : j = g.1.1
        · subst cj; rw [pk_us]; exact c
        · rw [pk_un cj]; exact hw.2.1 j (by omega)
      · show upd pg g.1.1 p0 j = upd g.1.2 g.1.1 p0 j
        have hj : j < g.1.1 + 1 := hj
        by_cases cj : j = g.1.1
        · subst cj; rw [pk_us, pk_us]
        · rw [pk_un cj, pk_un cj]; exact hC.2.1 j (by omega)
      · show upd (A 1) g.1.1 p0 j = upd g.1.2 g.1.1 p0 j
        have hj : j < g.1.1 + 1 := hj
        by_cases cj : j = g.1.1
        · subst cj; rw [pk_us, pk_us]
        · rw [pk_un cj, pk_un cj]; exact hM.2.1 j (by omega)
    · have h40 : g.1.1 = 40 := by omega
      have e : nI g.1.1 = 40 := by rw [h40]; rfl
      rw [if_neg (by rw [e]; decide), if_pos e]
      exact ⟨_, _, _, _, _, rfl, rfl, same⟩
  · rw [if_neg c]
    by_cases c1 : p0 < 32
    · rw [if_pos c1]
      exact ⟨_, _, _, _, _, rfl, rfl, same⟩
    · rw [if_neg c1, if_neg (fun z => by have := (le_iff _ _).mp z; have := mt (lt_iff _ _).mpr c1; omega)]
      exact ⟨_, _, _, _, _, rfl, rfl, same⟩
end DV2
