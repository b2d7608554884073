/-! ===== the law, from its entry ===== -/
/-- a new office and a new model are alike -/
theorem rel_0 {Y : Nat → ClassId} {AA : Nat → Prop} {a : Nat → Nat} {gS gU : Nat → Option Nat} (hD : va_D AA (wOff Y a (fun _ => 0) (fun _ => 0) gS gU rd0 ft0 (fun _ => st0) (fun _ => un0))) (h1 : gS 0 = some (a 15) ∧ gS 1 = some (a 22) ∧ gS 2 = some (a 29)) (h2 : gU 0 = some (a 36) ∧ gU 1 = some (a 39) ∧ gU 2 = some (a 42) ∧ gU 3 = some (a 45)) : Rel a (fun _ => 0) (fun _ => 0) gS gU (fun _ => st0) (fun _ => un0) (fun _ => 0) (fun _ _ => 0) := by
  have key : ∀ (i j : Nat) (x y : Nat × va_E), i ≠ j → (wOff Y a (fun _ => 0) (fun _ => 0) gS gU rd0 ft0 (fun _ => st0) (fun _ => un0))[i]? = some x → (wOff Y a (fun _ => 0) (fun _ => 0) gS gU rd0 ft0 (fun _ => st0) (fun _ => un0))[j]? = some y → x.1 ≠ y.1 := fun i j x y hn hi hj e => hn (hD.1 i j x y hi hj e)
  refine ⟨((0, fun _ => 0), (0, fun _ => (0, fun _ => 0, 0, fun _ => 0)), (0, fun _ => (0, 0, fun _ => 0)), 0, 0, 0), ?_, ?_, ?_⟩
  · exact ⟨Nat.zero_le _, fun j h => absurd h (Nat.not_lt_zero j), Nat.zero_le _, fun j h => absurd h (Nat.not_lt_zero j), Nat.zero_le _, fun j h => absurd h (Nat.not_lt_zero j)⟩
  · refine ⟨⟨nI_z, nI_z, nI_z, rfl, rfl, rfl⟩, fun j h => absurd h (Nat.not_lt_zero j), ⟨⟨key 15 22 _ _ (by decide) rfl rfl, key 15 29 _ _ (by decide) rfl rfl, key 22 29 _ _ (by decide) rfl rfl⟩, key 36 39 _ _ (by decide) rfl rfl, key 36 42 _ _ (by decide) rfl rfl, key 36 45 _ _ (by decide) rfl rfl, key 39 42 _ _ (by decide) rfl rfl, key 39 45 _ _ (by decide) rfl rfl, key 42 45 _ _ (by decide) rfl rfl⟩, fun i => i, fun i => i, ⟨fun i hi => ⟨hi, ?_⟩, fun i j _ _ e => e⟩, ⟨fun i hi => ⟨hi, ?_⟩, fun i j _ _ e => e⟩, fun j h => absurd h (Nat.not_lt_zero j), fun j h => absurd h (Nat.not_lt_zero j)⟩
    · rcases (show i = 0 ∨ i = 1 ∨ i = 2 by omega) with rfl | rfl | rfl
      · exact h1.1
      · exact h1.2.1
      · exact h1.2.2
    · rcases (show i = 0 ∨ i = 1 ∨ i = 2 ∨ i = 3 by omega) with rfl | rfl | rfl | rfl
      · exact h2.1
      · exact h2.2.1
      · exact h2.2.2.1
      · exact h2.2.2.2
  · exact ⟨⟨nI_z, nI_z, nI_z, rfl, rfl, rfl⟩, fun j h => absurd h (Nat.not_lt_zero j), fun j h => absurd h (Nat.not_lt_zero j), fun j h => absurd h (Nat.not_lt_zero j)⟩
/-- what the tables know at the start -/
theorem kn_start {s : State} {A : Array Value} (hts : ∀ w ∈ lw_tbl, w.before A s = true) : ∃ (D : va_G) (Y : Nat → ClassId), KN D Y s := by
  obtain ⟨c0, j0, k0⟩ := u_known (C := RX0) (T := TX0) (N := 8) (n := 8) hts (fun w h => (glX00 w h).1) (hts _ wL_inst0)
  obtain ⟨c1, j1, k1⟩ := u_known (C := RX1) (T := TX1) (N := 6) (n := 6) hts (fun w h => (glX10 w h).1) (hts _ wL_inst1)
  obtain ⟨c2, j2, k2⟩ := u_known (C := RX2) (T := TX2) (N := 2) (n := 2) hts (fun w h => (glX20 w h).1) (hts _ wL_inst2)
  obtain ⟨c3, j3, k3⟩ := u_known (C := RX3) (T := TX3) (N := 4) (n := 4) hts (fun w h => (glX30 w h).1) (hts _ wL_inst3)
  obtain ⟨c4, j4, k4⟩ := u_known (C := RX4) (T := TX4) (N := 2) (n := 2) hts (fun w h => (glX40 w h).1) (hts _ wL_inst4)
  obtain ⟨c5, j5, k5⟩ := u_known (C := RX5) (T := TX5) (N := 11) (n := 11) hts (fun w h => (glX50 w h).1) (hts _ wL_inst5)
  obtain ⟨c6, j6, k6⟩ := u_known (C := RX6) (T := TX6) (N := 33) (n := 33) hts (fun w h => (glX60 w h).1) (hts _ wL_inst6)
  obtain ⟨cI, kI, pI, fI, gI, eI⟩ := Cond.arrayClass_spec (hts _ wL_arrI)
  obtain ⟨cL, kL, pL, fL, gL, eL⟩ := Cond.arrayClass_spec (hts _ wL_arrL)
  obtain ⟨pS, cS, kS, fS, -, gS, eS, nS⟩ := Cond.arrayOver_spec (hts _ wL_over3)
  obtain ⟨pU, cU, kU, fU, -, gU, eU, nU⟩ := Cond.arrayOver_spec (hts _ wL_over4)
  refine ⟨(fun k => match k with | 0 => c0 | 1 => c1 | 2 => c2 | 3 => c3 | 4 => c4 | 5 => c5 | _ => c6, fun k => match k with | 0 => j0 | 1 => j1 | 2 => j2 | 3 => j3 | 4 => j4 | 5 => j5 | _ => j6), fun k => match k with | 0 => cI | 1 => cL | 2 => cS | _ => cU, ⟨?_, ?_⟩, ?_⟩
  · intro k q hq
    match k, hq with
    | 0, hq => cases hq; exact k0
    | 1, hq => cases hq; exact k1
    | 2, hq => cases hq; exact k2
    | 3, hq => cases hq; exact k3
    | 4, hq => cases hq; exact k4
    | 5, hq => cases hq; exact k5
    | 6, hq => cases hq; exact k6
    | k + 7, hq => simp [vwCl] at hq
  · intro k q hq
    match k, hq with
    | 0, hq => cases hq; exact ⟨fun n z => ⟨fun k h => (by cases h), kI, gI, pI, eI⟩, fI⟩
    | 1, hq => cases hq; exact ⟨fun n z => ⟨fun k h => (by cases h), kL, gL, pL, eL⟩, fL⟩
    | 2, hq => cases hq; exact ⟨fun n z => ⟨fun k h => (by cases h), kS, gS, pS, eS⟩, kS, pS, gS, eS, fS, nS⟩
    | 3, hq => cases hq; exact ⟨fun n z => ⟨fun k h => (by cases h), kU, gU, pU, eU⟩, kU, pU, gU, eU, fU, nU⟩
    | k + 4, hq => simp [vY] at hq
  · exact ⟨va_Nw.of rfl (hts _ wL_nest0), va_Nw.of rfl (hts _ wL_nest1), va_Nw.of rfl (hts _ wL_nest2), va_Nw.of rfl (hts _ wL_nest3), va_Nw.of rfl (hts _ wL_nest4), va_Nw.of rfl (hts _ wL_nest5), va_Nw.of rfl (hts _ wL_nest6), va_Nw.of rfl (hts _ wL_nest7)⟩
