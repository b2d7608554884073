/-! ===== digest ===== -/
def fs (sv dv : Nat → Nat → Int32) (h : Int64) : Nat → Int64
  | 0 => h
  | i + 1 => stH (sv i) (dv i) (fs sv dv h i)
def dgT (sv dv uv mv : Nat → Nat → Int32) (ns nu : Nat) : Int64 := fm mv ns (fu uv (fs sv dv 1619 ns) nu) nu
def dgE (lv cv : Nat → Int32) (n : Nat) (h : Int64) : Int64 := hf cv (hf lv h n) 6
section DG5
variable {a : Nat → Nat} {q pg : Nat → Int32} {gS gU : Nat → Option Nat} {rd : RdT} {ft : FtT} {S : Nat → StT} {U : Nat → UnT} {I : Nat → Int32} {A : Nat → Nat → Int32} {F : Nat → Int64} {L : Nat → Nat → Int64} {g : Sg}
theorem digest_c {n ns nu : Nat} (h5 : q 5 = nI n) (h6 : q 6 = nI ns) (h7 : q 7 = nI nu) (hn : n ≤ 40) (hns : ns ≤ 3) (hnu : nu ≤ 4) {sv dv uv mv : Nat → Nat → Int32} {lv cv : Nat → Int32} {H : Int64} (hl : ∀ j, j < n → pg j = lv j)
    (hs : ∀ i, i < ns → ∀ h, X5_withStorm a q pg gS gU rd ft S U h (nI i) = some (stH (sv i) (dv i) h)) (hu : ∀ i, i < nu → ∀ h, X5_withUnit a q pg gS gU rd ft S U h (nI i) = some (unH (uv i) h)) (hm : ∀ u, u < nu → ∀ i, i < ns → X5_missed a q pg gS gU rd ft S U (nI u) (nI i) = some (mv u i)) (hc : ∀ ft' k, k < 6 → X5_count a q pg gS gU rd ft' S U (nI k) = some (cv k))
    (hfit : ∀ {R : Type} (J : Int64 → FtT → Option R), ∃ ft', wh3 (fun self99 (x1_99 : Int64) (x3_99 : Int32) (mft_99 : FtT) => if (4 : Int32) < x3_99 then (J x1_99 mft_99) else (if nI ns ≤ 0 then (J x1_99 mft_99) else (ob1 (X5_fitStorms a q pg gS gU rd mft_99 S U (((1 : Int32) <<< (nI ns &&& 31)) - (1 : Int32)) x3_99) fun oft_121 => ob1 (X5_withFit a q pg gS gU rd oft_121 S U x1_99 x3_99) fun r127 => self99 r127 (x3_99 + 1) oft_121))) 200 (dgT sv dv uv mv ns nu) (1 : Int32) ft = J H ft') : ∃ ft', X5_digest a q pg gS gU rd ft S U = some (dgE lv cv n H, ft') := by
  unfold X5_digest
  rw [h5, h6, h7, jn1_u]
  refine wh2_for (P := fun o => ∃ ft', o = some (dgE lv cv n H, ft')) ns (fun k h c => c = nI k ∧ h = fs sv dv 1619 k) ?_ ?_ 200 0 _ _ (by omega) (by omega) ⟨rfl, rfl⟩
  · intro k h c hk hI self hself
    obtain ⟨rfl, rfl⟩ := hI
    rw [if_neg (nI_ge hk (by omega)), hs k hk, ob1_eq]
    exact hself _ _ ⟨nI_1 k, rfl⟩
  · intro h c hI self
    obtain ⟨rfl, rfl⟩ := hI
    rw [if_pos (nI_le (Nat.le_refl ns) (by omega))]
    dsimp only
    rw [jn1_u]
    refine wh2_for (P := fun o => ∃ ft', o = some (dgE lv cv n H, ft')) nu (fun k h c => c = nI k ∧ h = fu uv (fs sv dv 1619 ns) k) ?_ ?_ 200 0 _ _ (by omega) (by omega) ⟨rfl, rfl⟩
    · intro k h c hk hI self hself
      obtain ⟨rfl, rfl⟩ := hI
      rw [if_neg (nI_ge hk (by omega)), hu k hk, ob1_eq]
      exact hself _ _ ⟨nI_1 k, rfl⟩
    · intro h c hI self
      obtain ⟨rfl, rfl⟩ := hI
      rw [if_pos (nI_le (Nat.le_refl nu) (by omega))]
      dsimp only
      rw [jn1_u]
      refine wh2_for (P := fun o => ∃ ft', o = some (dgE lv cv n H, ft')) nu (fun k h c => c = nI k ∧ h = fm mv ns (fu uv (fs sv dv 1619 ns) nu) k) ?_ ?_ 200 0 _ _ (by omega) (by omega) ⟨rfl, rfl⟩
      · intro u h c hk hI self hself
        obtain ⟨rfl, rfl⟩ := hI
        rw [if_neg (nI_ge hk (by omega)), jn1_u, cl_loop (N := ns) (v := mv u) (f := fun x => X5_missed a q pg gS gU rd ft S U (nI u) x) rfl (by omega) (fun k hk2 => hm u hk k hk2)]
        exact hself _ _ ⟨nI_1 u, rfl⟩
      · intro h c hI self
        obtain ⟨rfl, rfl⟩ := hI
        rw [if_pos (nI_le (Nat.le_refl nu) (by omega))]
        dsimp only
        rw [jn2_u]
        obtain ⟨ft', e⟩ := hfit (fun (x1_137 : Int64) (mft_137 : FtT) => jn1 (fun (x1_165 : Int64) => jn1 (fun (x1_190 : Int64) => some (x1_190, mft_137)) fun J190 =>
  wh2 (fun self167 (x1_167 : Int64) (x3_167 : Int32) =>
  if (6 : Int32) ≤ x3_167 then (J190 x1_167) else (ob1 (X5_count a q pg gS gU rd mft_137 S U x3_167) fun r176 =>
  ob1 (X5_with x1_167 (Int32.toInt64 r176)) fun r180 =>
  self167 r180 (x3_167 + 1))) 200 x1_165 (0 : Int32)) fun J165 =>
  wh2 (fun self139 (x1_139 : Int64) (x3_139 : Int32) =>
  if nI n ≤ x3_139 then (J165 x1_139) else (chk (inB x3_139 40) (ob1 (X5_with x1_139 (Int32.toInt64 (pg (Int32.toNatClampNeg x3_139)))) fun r155 =>
  self139 r155 (x3_139 + 1)))) 200 x1_137 (0 : Int32))
        refine ⟨ft', ?_⟩
        refine Eq.trans e ?_
        rw [jn1_u]
        refine wh2_for (P := fun o => o = some (dgE lv cv n H, ft')) n (fun k h c => c = nI k ∧ h = hf lv H k) ?_ ?_ 200 0 _ _ (by omega) (by omega) ⟨rfl, rfl⟩
        · intro k h c hk hI self hself
          obtain ⟨rfl, rfl⟩ := hI
          rw [if_neg (nI_ge hk (by omega)), chk_of (inB_nI (show k < 40 by omega) (by decide)), cl_nI (by omega), hl k hk]
          simp only [X5_with]
          rw [ob1_eq]
          exact hself _ _ ⟨nI_1 k, rfl⟩
        · intro h c hI self
          obtain ⟨rfl, rfl⟩ := hI
          rw [if_pos (nI_le (Nat.le_refl n) (by omega))]
          dsimp only
          rw [jn1_u, cl_loop (B := 6) (N := 6) (v := cv) (f := fun x => X5_count a q pg gS gU rd ft' S U x) rfl (by omega) (fun k hk => hc ft' k hk)]
          rfl
end DG5
