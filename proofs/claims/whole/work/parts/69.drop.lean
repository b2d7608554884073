/-! ===== drop ===== -/
def sg (n i j : Nat) : Nat := if j = n - 1 then i else if i ≤ j ∧ j < n - 1 then j + 1 else j
theorem sg_inj {n i j k N : Nat} (hn : n ≤ N) (hi : i < n) (hj : j < N) (hk : k < N) (h : sg n i j = sg n i k) : j = k := by
  unfold sg at h
  repeat' split at h
  all_goals omega
theorem sg_lt {n i j N : Nat} (hn : n ≤ N) (hi : i < n) (hj : j < N) : sg n i j < N := by
  unfold sg
  repeat' split
  all_goals omega
theorem sg_in {n i j : Nat} (hi : i < n) (hj : j < n - 1) : sg n i j < n ∧ sg n i j = if i ≤ j then j + 1 else j := by
  unfold sg
  rw [if_neg (by omega)]
  by_cases c : i ≤ j
  · rw [if_pos ⟨c, hj⟩, if_pos c]; exact ⟨by omega, rfl⟩
  · rw [if_neg (by omega), if_neg c]; exact ⟨by omega, rfl⟩
theorem nI_pd : ∀ n, n < 5 → 1 ≤ n → nI n - 1 = nI (n - 1) := by decide +kernel
theorem up_at {f : Nat → Option Nat} {k : Nat} {v : Option Nat} (j : Nat) : va_up f k v j = if j = k then v else f j := rfl
theorem disp3w {α : Type} {a : Nat → Nat} (hd : Dist a) {m : Option Nat} {k : Nat} (hk : k < 3) (h : m = some (a (15 + 7 * k))) (x : Option Nat → Option α) : (if m = some (a 15) then x (some (a 15)) else if m = some (a 22) then x (some (a 22)) else if m = some (a 29) then x (some (a 29)) else none) = x m := by
  obtain ⟨d1, d2, d3⟩ := hd.1
  have : k = 0 ∨ k = 1 ∨ k = 2 := by omega
  rw [h]
  rcases this with rfl | rfl | rfl <;> simp [d1, d1.symm, d2.symm, d3.symm]
theorem disp4w {α : Type} {a : Nat → Nat} (hd : Dist a) {m : Option Nat} {k : Nat} (hk : k < 4) (h : m = some (a (36 + 3 * k))) (x : Option Nat → Option α) : (if m = some (a 36) then x (some (a 36)) else if m = some (a 39) then x (some (a 39)) else if m = some (a 42) then x (some (a 42)) else if m = some (a 45) then x (some (a 45)) else none) = x m := by
  obtain ⟨d1, d2, d3, d4, d5, d6⟩ := hd.2
  have : k = 0 ∨ k = 1 ∨ k = 2 ∨ k = 3 := by omega
  rw [h]
  rcases this with rfl | rfl | rfl | rfl <;> simp [d1, d1.symm, d2.symm, d3.symm, d4.symm, d5.symm, d6.symm]
theorem dropStorm_c {a : Nat → Nat} {q pg : Nat → Int32} {gS gU : Nat → Option Nat} {rd : RdT} {ft : FtT} {S : Nat → StT} {U : Nat → UnT} {g : Sg} (hC : CRep a q pg gS gU S U g) (hw : WF g) {ps : Nat → Nat} (hps : PmS a gS ps) {i : Nat} (hi : i < g.2.1.1) : ∃ gg, X5_dropStorm a q pg gS gU rd ft S U (nI i) = some (nI (g.2.1.1 - 1), nI (g.2.1.1 - 1), q 9 + 1, gg) ∧ PmS a gg (fun j => ps (sg g.2.1.1 i j)) := by
  have hn : g.2.1.1 ≤ 3 := hw.2.2.1
  have hd := hC.2.2.1
  unfold X5_dropStorm
  rw [hasStorm_e hC hw, ob1_eq, ite10, if_pos (by rw [nI_toInt (by omega)]; omega), chk_of (inB_nI (show i < 3 by omega) (by decide)), cl_nI (by omega), hC.1.2.1, nI_pd _ (by omega) (by omega)]
  refine (congrArg (fun o => ∃ gg, o = some (nI (g.2.1.1 - 1), nI (g.2.1.1 - 1), q 9 + 1, gg) ∧ PmS a gg (fun j => ps (sg g.2.1.1 i j))) (disp3w hd (hps.1 i (by omega)).1 (hps.1 i (by omega)).2 (fun v => jn1 (fun (mg : Nat → Option Nat) => chk (inB (nI (g.2.1.1 - 1)) 3) (some (nI (g.2.1.1 - 1), nI (g.2.1.1 - 1), q 9 + 1, va_up mg (Int32.toNatClampNeg (nI (g.2.1.1 - 1))) v))) fun J50 =>
    wh2 (fun self20 (x3 : Int32) (mg : Nat → Option Nat) =>
    if nI (g.2.1.1 - 1) ≤ x3 then (J50 mg) else (chk (inB (x3 + (1 : Int32)) 3) (if mg (Int32.toNatClampNeg (x3 + (1 : Int32))) = some (a 15) then (chk (inB x3 3) (self20 (x3 + 1) (va_up mg (Int32.toNatClampNeg x3) (some (a 15))))) else (if mg (Int32.toNatClampNeg (x3 + (1 : Int32))) = some (a 22) then (chk (inB x3 3) (self20 (x3 + 1) (va_up mg (Int32.toNatClampNeg x3) (some (a 22))))) else (if mg (Int32.toNatClampNeg (x3 + (1 : Int32))) = some (a 29) then (chk (inB x3 3) (self20 (x3 + 1) (va_up mg (Int32.toNatClampNeg x3) (some (a 29))))) else (none)))))) 200 (nI i) gS))).mpr ?_
  rw [jn1_u]
  refine wh2_for (P := fun o => ∃ gg, o = some (nI (g.2.1.1 - 1), nI (g.2.1.1 - 1), q 9 + 1, gg) ∧ PmS a gg (fun j => ps (sg g.2.1.1 i j))) (g.2.1.1 - 1) (fun t c mg => c = nI t ∧ i ≤ t ∧ ∀ j, j < 3 → mg j = if i ≤ j ∧ j < t then gS (j + 1) else gS j) ?_ ?_ 200 i _ _ (by omega) (by omega) ⟨rfl, Nat.le_refl i, fun j hj => by rw [if_neg (by omega)]⟩
  · intro t c mg ht hI self hself
    obtain ⟨rfl, hit, hmg⟩ := hI
    rw [if_neg (nI_ge ht (by omega)), nI_1, chk_of (inB_nI (show t + 1 < 3 by omega) (by decide)), cl_nI (by omega)]
    have e1 : mg (t + 1) = gS (t + 1) := by rw [hmg (t + 1) (by omega), if_neg (by omega)]
    have e2 := (hps.1 (t + 1) (by omega))
    refine (congrArg (fun o => ∃ gg, o = some (nI (g.2.1.1 - 1), nI (g.2.1.1 - 1), q 9 + 1, gg) ∧ PmS a gg (fun j => ps (sg g.2.1.1 i j))) (disp3w hd e2.1 (e1.trans e2.2) (fun v => chk (inB (nI t) 3) (self (nI (t + 1)) (va_up mg (Int32.toNatClampNeg (nI t)) v))))).mpr ?_
    rw [chk_of (inB_nI (show t < 3 by omega) (by decide)), cl_nI (by omega)]
    refine hself _ _ ⟨rfl, by omega, fun j hj => ?_⟩
    rw [up_at]
    by_cases c : j = t
    · subst c
      rw [if_pos rfl, if_pos ⟨by omega, by omega⟩, e1]
    · rw [if_neg c, hmg j hj]
      by_cases c2 : i ≤ j ∧ j < t
      · rw [if_pos c2, if_pos ⟨by omega, by omega⟩]
      · rw [if_neg c2, if_neg (by omega)]
  · intro c mg hI self
    obtain ⟨rfl, hit, hmg⟩ := hI
    rw [if_pos (nI_le (Nat.le_refl _) (by omega))]
    dsimp only
    rw [chk_of (inB_nI (show g.2.1.1 - 1 < 3 by omega) (by decide)), cl_nI (by omega)]
    refine ⟨_, rfl, fun j hj => ?_, fun j k hj hk h => sg_inj hn hi hj hk (hps.2 _ _ (sg_lt hn hi hj) (sg_lt hn hi hk) h)⟩
    refine ⟨(hps.1 _ (sg_lt hn hi hj)).1, ?_⟩
    rw [up_at]
    dsimp only
    unfold sg
    by_cases c : j = g.2.1.1 - 1
    · rw [if_pos c, if_pos c]
      exact (hps.1 i (by omega)).2
    · rw [if_neg c, if_neg c, hmg j hj]
      by_cases c2 : i ≤ j ∧ j < g.2.1.1 - 1
      · rw [if_pos c2, if_pos c2]
        exact (hps.1 (j + 1) (by omega)).2
      · rw [if_neg c2, if_neg c2]
        exact (hps.1 j hj).2
theorem dropUnit_c {a : Nat → Nat} {q pg : Nat → Int32} {gS gU : Nat → Option Nat} {rd : RdT} {ft : FtT} {S : Nat → StT} {U : Nat → UnT} {g : Sg} (hC : CRep a q pg gS gU S U g) (hw : WF g) {ps : Nat → Nat} (hps : PmU a gU ps) {i : Nat} (hi : i < g.2.2.1.1) : ∃ gg, X5_dropUnit a q pg gS gU rd ft S U (nI i) = some (nI (g.2.2.1.1 - 1), nI (g.2.2.1.1 - 1), q 9 + 1, gg) ∧ PmU a gg (fun j => ps (sg g.2.2.1.1 i j)) := by
  have hn : g.2.2.1.1 ≤ 4 := hw.2.2.2.2.1
  have hd := hC.2.2.1
  unfold X5_dropUnit
  rw [hasUnit_e hC hw, ob1_eq, ite10, if_pos (by rw [nI_toInt (by omega)]; omega), chk_of (inB_nI (show i < 4 by omega) (by decide)), cl_nI (by omega), hC.1.2.2.1, nI_pd _ (by omega) (by omega)]
  refine (congrArg (fun o => ∃ gg, o = some (nI (g.2.2.1.1 - 1), nI (g.2.2.1.1 - 1), q 9 + 1, gg) ∧ PmU a gg (fun j => ps (sg g.2.2.1.1 i j))) (disp4w hd (hps.1 i (by omega)).1 (hps.1 i (by omega)).2 (fun v => jn1 (fun (mg : Nat → Option Nat) => chk (inB (nI (g.2.2.1.1 - 1)) 4) (some (nI (g.2.2.1.1 - 1), nI (g.2.2.1.1 - 1), q 9 + 1, va_up mg (Int32.toNatClampNeg (nI (g.2.2.1.1 - 1))) v))) fun J50 =>
    wh2 (fun self20 (x3 : Int32) (mg : Nat → Option Nat) =>
    if nI (g.2.2.1.1 - 1) ≤ x3 then (J50 mg) else (chk (inB (x3 + (1 : Int32)) 4) (if mg (Int32.toNatClampNeg (x3 + (1 : Int32))) = some (a 36) then (chk (inB x3 4) (self20 (x3 + 1) (va_up mg (Int32.toNatClampNeg x3) (some (a 36))))) else (if mg (Int32.toNatClampNeg (x3 + (1 : Int32))) = some (a 39) then (chk (inB x3 4) (self20 (x3 + 1) (va_up mg (Int32.toNatClampNeg x3) (some (a 39))))) else (if mg (Int32.toNatClampNeg (x3 + (1 : Int32))) = some (a 42) then (chk (inB x3 4) (self20 (x3 + 1) (va_up mg (Int32.toNatClampNeg x3) (some (a 42))))) else (if mg (Int32.toNatClampNeg (x3 + (1 : Int32))) = some (a 45) then (chk (inB x3 4) (self20 (x3 + 1) (va_up mg (Int32.toNatClampNeg x3) (some (a 45))))) else (none))))))) 200 (nI i) gU))).mpr ?_
  rw [jn1_u]
  refine wh2_for (P := fun o => ∃ gg, o = some (nI (g.2.2.1.1 - 1), nI (g.2.2.1.1 - 1), q 9 + 1, gg) ∧ PmU a gg (fun j => ps (sg g.2.2.1.1 i j))) (g.2.2.1.1 - 1) (fun t c mg => c = nI t ∧ i ≤ t ∧ ∀ j, j < 4 → mg j = if i ≤ j ∧ j < t then gU (j + 1) else gU j) ?_ ?_ 200 i _ _ (by omega) (by omega) ⟨rfl, Nat.le_refl i, fun j hj => by rw [if_neg (by omega)]⟩
  · intro t c mg ht hI self hself
    obtain ⟨rfl, hit, hmg⟩ := hI
    rw [if_neg (nI_ge ht (by omega)), nI_1, chk_of (inB_nI (show t + 1 < 4 by omega) (by decide)), cl_nI (by omega)]
    have e1 : mg (t + 1) = gU (t + 1) := by rw [hmg (t + 1) (by omega), if_neg (by omega)]
    have e2 := (hps.1 (t + 1) (by omega))
    refine (congrArg (fun o => ∃ gg, o = some (nI (g.2.2.1.1 - 1), nI (g.2.2.1.1 - 1), q 9 + 1, gg) ∧ PmU a gg (fun j => ps (sg g.2.2.1.1 i j))) (disp4w hd e2.1 (e1.trans e2.2) (fun v => chk (inB (nI t) 4) (self (nI (t + 1)) (va_up mg (Int32.toNatClampNeg (nI t)) v))))).mpr ?_
    rw [chk_of (inB_nI (show t < 4 by omega) (by decide)), cl_nI (by omega)]
    refine hself _ _ ⟨rfl, by omega, fun j hj => ?_⟩
    rw [up_at]
    by_cases c : j = t
    · subst c
      rw [if_pos rfl, if_pos ⟨by omega, by omega⟩, e1]
    · rw [if_neg c, hmg j hj]
      by_cases c2 : i ≤ j ∧ j < t
      · rw [if_pos c2, if_pos ⟨by omega, by omega⟩]
      · rw [if_neg c2, if_neg (by omega)]
  · intro c mg hI self
    obtain ⟨rfl, hit, hmg⟩ := hI
    rw [if_pos (nI_le (Nat.le_refl _) (by omega))]
    dsimp only
    rw [chk_of (inB_nI (show g.2.2.1.1 - 1 < 4 by omega) (by decide)), cl_nI (by omega)]
    refine ⟨_, rfl, fun j hj => ?_, fun j k hj hk h => sg_inj hn hi hj hk (hps.2 _ _ (sg_lt hn hi hj) (sg_lt hn hi hk) h)⟩
    refine ⟨(hps.1 _ (sg_lt hn hi hj)).1, ?_⟩
    rw [up_at]
    dsimp only
    unfold sg
    by_cases c : j = g.2.2.1.1 - 1
    · rw [if_pos c, if_pos c]
      exact (hps.1 i (by omega)).2
    · rw [if_neg c, if_neg c, hmg j hj]
      by_cases c2 : i ≤ j ∧ j < g.2.2.1.1 - 1
      · rw [if_pos c2, if_pos c2]
        exact (hps.1 (j + 1) (by omega)).2
      · rw [if_neg c2, if_neg c2]
        exact (hps.1 j hj).2
