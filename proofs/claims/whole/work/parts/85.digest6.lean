theorem jn8_wp {A1 A2 A3 A4 A5 A6 A7 A8 R : Type} {K : A1 → A2 → A3 → A4 → A5 → A6 → A7 → A8 → Option R} {f : (A1 → A2 → A3 → A4 → A5 → A6 → A7 → A8 → Option R) → Option R} {P : Option R → Prop} (Cn : A1 → A2 → A3 → A4 → A5 → A6 → A7 → A8 → Prop) (hK : ∀ a1 a2 a3 a4 a5 a6 a7 a8, Cn a1 a2 a3 a4 a5 a6 a7 a8 → P (K a1 a2 a3 a4 a5 a6 a7 a8)) (hf : ∀ J : A1 → A2 → A3 → A4 → A5 → A6 → A7 → A8 → Option R, (∀ a1 a2 a3 a4 a5 a6 a7 a8, Cn a1 a2 a3 a4 a5 a6 a7 a8 → P (J a1 a2 a3 a4 a5 a6 a7 a8)) → P (f J)) : P (jn8 K f) := hf K hK
section DG6
variable {I : Nat → Int32} {A : Nat → Nat → Int32} {F : Nat → Int64} {L : Nat → Nat → Int64}
theorem digest_m {n ns nu : Nat} (h0 : I 0 = nI n) (h2 : I 2 = nI ns) (hn : n ≤ 40) (hns : ns ≤ 3) {sv dv uv mv : Nat → Nat → Int32} {lv cv : Nat → Int32} {H : Int64} (hl : ∀ j, j < n → A 1 j = lv j)
    (hs : ∀ i, i < ns → ∀ x y (F' : Nat → Int64), ∃ m w, X6_mixStorm (up I 23 x) (up A 24 y) F' L (nI i) = some (m, w, stH (sv i) (dv i) (F' 32)))
    (hu : ∀ x y (F' : Nat → Int64), X6_mixUnits (up I 23 x) (up A 24 y) F' L = some (fm mv ns (fu uv (F' 32) nu) nu))
    (hb : 0 < ns → ∀ x y, ∃ x1 x2 x3 x4 x5 x6 x7, X6_mixBest (up I 23 x) (up A 24 y) (up F 32 (dgT sv dv uv mv ns nu)) L (((1 : Int32) <<< (nI ns &&& 31)) - (1 : Int32)) = some (x1, x2, x3, x4, x5, x6, x7, H)) (hb0 : ns = 0 → H = dgT sv dv uv mv ns nu)
    (hc : ∀ x y (F' : Nat → Int64) L' k, k < 6 → X6_howMany (up I 23 x) y F' L' (nI k) = some (cv k)) : ∃ o, X6_digest I A F L = some (dgE lv cv n H, o) := by
  unfold X6_digest
  rw [h0, h2]
  refine jn3_wp (P := fun o => ∃ o', o = some (dgE lv cv n H, o')) (fun _ _ h => h = fs sv dv 1619 ns) ?_ ?_
  · intro i23 a24 h hh
    subst hh
    rw [hu, ob1_eq]
    refine jn8_wp (P := fun o => ∃ o', o = some (dgE lv cv n H, o')) (fun _ _ _ _ _ _ _ h => h = H) ?_ ?_
    · intro x1 x2 x3 x4 x5 x6 x7 h hh
      subst hh
      rw [jn1_u]
      refine wh2_for (P := fun o => ∃ o', o = some (dgE lv cv n h, o')) n (fun k c h' => c = nI k ∧ h' = hf lv h k) ?_ ?_ 200 0 _ _ (by omega) (by omega) ⟨rfl, rfl⟩
      · intro k c h' hk hI self hself
        obtain ⟨rfl, rfl⟩ := hI
        rw [if_neg (nI_ge hk (by omega)), chk_of (inB_nI (show k < 40 by omega) (by decide)), cl_nI (by omega), hl k hk]
        simp only [X6_mix]
        rw [ob1_eq]
        exact hself _ _ ⟨nI_1 k, rfl⟩
      · intro c h' hI self
        obtain ⟨rfl, rfl⟩ := hI
        rw [if_pos (nI_le (Nat.le_refl n) (by omega))]
        dsimp only
        rw [jn1_u]
        refine wh2_for (P := fun o => ∃ o', o = some (dgE lv cv n h, o')) 6 (fun k c h' => c = nI k ∧ h' = hf cv (hf lv h n) k) ?_ ?_ 200 0 _ _ (by omega) (by omega) ⟨rfl, rfl⟩
        · intro k c h' hk hI self hself
          obtain ⟨rfl, rfl⟩ := hI
          rw [if_neg (show ¬ (6 : Int32) ≤ nI k from nI_ge hk (by decide)), hc _ _ _ _ k hk, ob1_eq]
          simp only [X6_mix]
          rw [ob1_eq]
          exact hself _ _ ⟨nI_1 k, rfl⟩
        · intro c h' hI self
          obtain ⟨rfl, rfl⟩ := hI
          rw [if_pos (show (6 : Int32) ≤ nI 6 from nI_le (Nat.le_refl 6) (by decide))]
          exact ⟨_, rfl⟩
    · intro J hJ
      by_cases c : ns = 0
      · rw [if_pos (show nI ns ≤ 0 by rw [c]; decide)]
        exact hJ _ _ _ _ _ _ _ _ (hb0 c).symm
      · rw [if_neg (fun z => by have := (le_iff _ _).mp z; rw [nI_toInt (by omega), l0] at this; omega)]
        obtain ⟨x1, x2, x3, x4, x5, x6, x7, e⟩ := hb (by omega) i23 a24
        have e' : X6_mixBest (up I 23 i23) (up A 24 a24) (up F 32 (fm mv ns (fu uv (up F 32 (fs sv dv 1619 ns) 32) nu) nu)) L (((1 : Int32) <<< (nI ns &&& 31)) - (1 : Int32)) = _ := e
        rw [e', ob8_eq]
        exact hJ _ _ _ _ _ _ _ _ rfl
  · intro J hJ
    refine wh4_for (P := fun o => ∃ o', o = some (dgE lv cv n H, o')) ns (fun k c _ _ h => c = nI k ∧ h = fs sv dv 1619 k) ?_ ?_ 200 0 _ _ _ _ (by omega) (by omega) ⟨rfl, rfl⟩
    · intro k c x y h hk hI self hself
      obtain ⟨rfl, rfl⟩ := hI
      obtain ⟨m, w, e⟩ := hs k hk x y (up F 32 (fs sv dv 1619 k))
      rw [if_neg (nI_ge hk (by omega)), e, ob3_eq]
      exact hself _ _ _ _ ⟨nI_1 k, rfl⟩
    · intro c x y h hI self
      obtain ⟨rfl, rfl⟩ := hI
      rw [if_pos (nI_le (Nat.le_refl ns) (by omega))]
      exact hJ _ _ _ rfl
end DG6
