/-! ===== the division ===== -/
def dvT (d : SD) (t : Nat) (p : Int32 × Int32) : Int32 := d.2.2.2 t - d.2.1 1 * p.1 - d.2.1 2 * p.2
def dvP (d : SD) : Nat → Int32 × Int32
  | 0 => (0, 0)
  | t + 1 => (if t + d.1 ≤ d.2.2.1 then dvT d t (dvP d t) / d.2.1 0 else 0, (dvP d t).1)
def dvC (d : SD) (t : Nat) : Int32 := (dvP d (t + 1)).1
def dvR (d : SD) (t : Nat) : Int32 := dvT d t (dvP d t)
def dok (d : SD) (t : Nat) : Prop := if t + d.1 ≤ d.2.2.1 then dvR d t - dvR d t / d.2.1 0 * d.2.1 0 = 0 else dvR d t = 0
def Even (d : SD) : Prop := d.1 ≤ d.2.2.1 ∧ ∀ t, t < 8 → dok d t
def dvF (d : SD) (t : Nat) (j : Nat) : Int32 := if j < t ∧ j + d.1 ≤ d.2.2.1 then dvC d j else 0
theorem dvC_in {d : SD} {t : Nat} (h : t + d.1 ≤ d.2.2.1) : dvC d t = dvR d t / d.2.1 0 := by
  show (if t + d.1 ≤ d.2.2.1 then dvT d t (dvP d t) / d.2.1 0 else 0) = _
  rw [if_pos h]; rfl
theorem dvC_out {d : SD} {t : Nat} (h : ¬ t + d.1 ≤ d.2.2.1) : dvC d t = 0 := by
  show (if t + d.1 ≤ d.2.2.1 then dvT d t (dvP d t) / d.2.1 0 else 0) = _
  rw [if_neg h]
theorem dvF_1 (d : SD) (t : Nat) : (if 1 ≤ t ∧ t - 1 < 8 then dvF d t (t - 1) else 0) = if t ≤ 8 then (dvP d t).1 else 0 := by
  cases t with
  | zero => rfl
  | succ s =>
    show _ = if s + 1 ≤ 8 then dvC d s else 0
    rw [show s + 1 - 1 = s from rfl]
    by_cases h : s + 1 ≤ 8
    · rw [if_pos ⟨by omega, by omega⟩, if_pos h]
      unfold dvF
      by_cases c : s + d.1 ≤ d.2.2.1
      · rw [if_pos ⟨by omega, c⟩]
      · rw [if_neg (fun z => c z.2), dvC_out c]
    · rw [if_neg (by omega), if_neg h]
theorem dvF_2 (d : SD) (t : Nat) (h9 : t < 9) : (if 2 ≤ t ∧ t - 2 < 8 then dvF d t (t - 2) else 0) = (dvP d t).2 := by
  cases t with
  | zero => rfl
  | succ s =>
    cases s with
    | zero => rfl
    | succ s =>
      show _ = dvC d s
      rw [show s + 1 + 1 - 2 = s from rfl, if_pos ⟨by omega, by omega⟩]
      unfold dvF
      by_cases c : s + d.1 ≤ d.2.2.1
      · rw [if_pos ⟨by omega, c⟩]
      · rw [if_neg (fun z => c z.2), dvC_out c]
theorem rest_e (d : SD) {t : Nat} (ht : t < 8) : d.2.2.2 t - mkE d.2.1 (dvF d t) (nI t) = dvR d t := by
  have e : mkE d.2.1 (dvF d t) (nI t) = ((0 + d.2.1 0 * atE (dvF d t) (nI t - nI 0)) + d.2.1 1 * atE (dvF d t) (nI t - nI 1)) + d.2.1 2 * atE (dvF d t) (nI t - nI 2) := rfl
  rw [e, atE_sub (by omega) (by omega), atE_sub (by omega) (by omega), atE_sub (by omega) (by omega), dvF_1, dvF_2 d t (by omega), if_pos (show 0 ≤ t ∧ t - 0 < 8 by omega), if_pos (show t ≤ 8 by omega)]
  have z : dvF d t (t - 0) = 0 := by
    unfold dvF
    rw [if_neg (by omega)]
  rw [z]
  unfold dvR dvT
  rw [Int32.mul_zero, Int32.add_zero, Int32.zero_add, Int32.sub_sub]
theorem q_e : ∀ m, m < 9 → ∀ k, k < 4 → (nI m - nI k + 1).toInt = (m : Int) - k + 1 := by decide +kernel
theorem ne0_of {x : Int32} (h : x ≠ 0) : ne0 x = true := by simp [ne0, h]
theorem rowF {d : SD} {t : Nat} {n : Int32} {f : Nat → Int32} (ht : t < 8) (hc : t + d.1 ≤ d.2.2.1) (h : RowK n f (min t (d.2.2.1 + 1 - d.1)) (dvF d t)) : ∃ n' f', X2_add n f (dvC d t) = some (n', f') ∧ RowK n' f' (min (t + 1) (d.2.2.1 + 1 - d.1)) (dvF d (t + 1)) := by
  have e : min t (d.2.2.1 + 1 - d.1) = t := by omega
  rw [e] at h
  obtain ⟨rfl, h8, hf, hz⟩ := h
  unfold X2_add
  rw [if_neg (show ¬ (8 : Int32) ≤ nI t from nI_ge ht (by decide)), chk_of (inB_nI ht (by decide)), cl_nI (by omega)]
  refine ⟨_, _, rfl, ?_, by omega, ?_, ?_⟩
  · rw [show min (t + 1) (d.2.2.1 + 1 - d.1) = t + 1 by omega]
    exact nI_1 t
  · intro j hj
    by_cases c : j = t
    · subst c
      rw [pk_us]
      unfold dvF
      rw [if_pos ⟨by omega, hc⟩]
    · rw [pk_un c, hf j (by omega)]
      unfold dvF
      rw [if_pos ⟨by omega, by omega⟩, if_pos ⟨by omega, by omega⟩]
  · intro j h1 h2
    unfold dvF
    rw [if_neg (by omega)]
theorem rowO {d : SD} {t : Nat} {n : Int32} {f : Nat → Int32} (hc : ¬ t + d.1 ≤ d.2.2.1) (h : RowK n f (min t (d.2.2.1 + 1 - d.1)) (dvF d t)) : RowK n f (min (t + 1) (d.2.2.1 + 1 - d.1)) (dvF d (t + 1)) := by
  have e : min (t + 1) (d.2.2.1 + 1 - d.1) = min t (d.2.2.1 + 1 - d.1) := by omega
  have e2 : dvF d (t + 1) = dvF d t := by
    funext j
    unfold dvF
    by_cases c : j + d.1 ≤ d.2.2.1
    · by_cases c2 : j < t
      · rw [if_pos ⟨by omega, c⟩, if_pos ⟨c2, c⟩]
      · rw [if_neg (by omega), if_neg (by omega)]
    · rw [if_neg (by omega), if_neg (by omega)]
  rw [e, e2]
  exact h
def DivR (d : SD) (n : Int32) (f : Nat → Int32) (ev : Int32) : Prop := (ev = 1 ∧ Even d ∧ n = nI (d.2.2.1 + 1 - d.1) ∧ ∀ j, j < d.2.2.1 + 1 - d.1 → f j = dvC d j) ∨ (ev = 0 ∧ ¬ Even d)
theorem divide_e {n1 n2 n3 ev : Int32} {f1 f2 f3 : Nat → Int32} {d : SD} (h1 : RowK n1 f1 d.1 d.2.1) (h2 : RowK n2 f2 d.2.2.1 d.2.2.2) (hw : StW d) : ∃ n f e, X3_divide n1 f1 n2 f2 n3 f3 ev = some (n, f, e) ∧ DivR d n f e := by
  have hk3 := hw.1.2.1
  have hk1 := hw.1.1
  have hm8 := hw.2.2.1
  have hm1 := hw.2.1
  have hr0 := hw.1.2.2.2.2
  have hne : d.2.1 0 ≠ 0 := fun z => by rw [z] at hr0; exact absurd hr0 (by decide)
  have hq := q_e d.2.2.1 (by omega) d.1 (by omega)
  unfold X3_divide
  simp only [X2_clear, X2_size, ob1_eq]
  rw [X2_at_e h1, ob1_eq, show (0 : Int32) = nI 0 from rfl, atE_nI (by omega), h1.1, h2.1]
  have hle : ¬ d.2.1 0 ≤ nI 0 := fun z => by have := (le_iff _ _).mp z; rw [show (nI 0).toInt = 0 from rfl] at this; omega
  refine jn1_wp (P := fun o => ∃ n f e, o = some (n, f, e) ∧ DivR d n f e) (fun s => (s = 1 ∧ d.1 ≤ d.2.2.1) ∨ (s = 0 ∧ ¬ d.1 ≤ d.2.2.1)) ?_ ?_
  · have h1' := h1
    have h2' := h2
    rw [h1.1] at h1'
    rw [h2.1] at h2'
    intro s hs
    have hB : isB s = true := by rcases hs with ⟨rfl, -⟩ | ⟨rfl, -⟩ <;> rfl
    rw [chk_of hB]
    refine wh4_for (P := fun o => ∃ n f e, o = some (n, f, e) ∧ DivR d n f e) 8 (fun t c n f e => c = nI t ∧ ((e = 1 ∧ d.1 ≤ d.2.2.1 ∧ RowK n f (min t (d.2.2.1 + 1 - d.1)) (dvF d t) ∧ ∀ s, s < t → dok d s) ∨ (e = 0 ∧ ¬ Even d))) ?_ ?_ 200 0 _ _ _ _ (by omega) (by omega) ⟨rfl, ?_⟩
    · intro t c n f e ht hI self hself
      obtain ⟨rfl, hI⟩ := hI
      rw [if_neg (show ¬ (8 : Int32) ≤ nI t from nI_ge ht (by decide))]
      rcases hI with ⟨rfl, hkm, hR, hok⟩ | ⟨rfl, hE⟩
      · rw [if_neg (by decide), X2_at_e h2', ob1_eq, X3_rainTimes_e h1' hR, ob1_eq, atE_nI ht, rest_e d ht]
        refine jn3_wp (P := fun o => ∃ n f e, o = some (n, f, e) ∧ DivR d n f e) (fun n f e => (e = 1 ∧ RowK n f (min (t + 1) (d.2.2.1 + 1 - d.1)) (dvF d (t + 1)) ∧ dok d t) ∨ (e = 0 ∧ ¬ Even d)) ?_ ?_
        · intro n' f' e' h
          refine hself _ _ _ _ ⟨nI_1 t, ?_⟩
          rcases h with ⟨rfl, hR', hd⟩ | ⟨rfl, hE⟩
          · refine Or.inl ⟨rfl, hkm, hR', fun s hs => ?_⟩
            by_cases c : s = t
            · subst c; exact hd
            · exact hok s (by omega)
          · exact Or.inr ⟨rfl, hE⟩
        · intro J hJ
          by_cases hc : t + d.1 ≤ d.2.2.1
          · rw [if_pos ((lt_iff _ _).mpr (by rw [hq, nI_toInt (by omega)]; omega)), jn0_u, if_neg hle, chk_of (ne0_of hne)]
            by_cases hv : dvR d t - dvR d t / d.2.1 0 * d.2.1 0 = nI 0
            · rw [if_pos hv, chk_of (ne0_of hne), ← dvC_in hc]
              obtain ⟨n', f', ha, hR'⟩ := rowF ht hc hR
              rw [ha, ob2_eq]
              refine hJ _ _ _ (Or.inl ⟨rfl, hR', ?_⟩)
              unfold dok
              rw [if_pos hc]
              exact hv
            · rw [if_neg hv]
              refine hJ _ _ _ (Or.inr ⟨rfl, fun hE => hv ?_⟩)
              have := hE.2 t ht
              unfold dok at this
              rw [if_pos hc] at this
              exact this
          · rw [if_neg (fun z => by have := (lt_iff _ _).mp z; rw [hq, nI_toInt (by omega)] at this; omega), jn1_u]
            by_cases hv : dvR d t = nI 0
            · rw [if_pos hv]
              dsimp only
              rw [chk_of (show isB 1 = true from rfl)]
              refine hJ _ _ _ (Or.inl ⟨rfl, rowO hc hR, ?_⟩)
              unfold dok
              rw [if_neg hc]
              exact hv
            · rw [if_neg hv]
              dsimp only
              rw [chk_of (show isB (nI 0) = true from rfl)]
              refine hJ _ _ _ (Or.inr ⟨rfl, fun hE => hv ?_⟩)
              have := hE.2 t ht
              unfold dok at this
              rw [if_neg hc] at this
              exact this
      · rw [if_pos (show (0 : Int32) = nI 0 from rfl)]
        exact ⟨_, _, _, rfl, Or.inr ⟨rfl, hE⟩⟩
    · intro c n f e hI self
      obtain ⟨rfl, hI⟩ := hI
      rw [if_pos (show (8 : Int32) ≤ nI 8 from nI_le (Nat.le_refl 8) (by decide))]
      refine ⟨_, _, _, rfl, ?_⟩
      rcases hI with ⟨rfl, hkm, hR, hok⟩ | ⟨rfl, hE⟩
      · refine Or.inl ⟨rfl, ⟨hkm, hok⟩, ?_, fun j hj => ?_⟩
        · rw [hR.1, show min 8 (d.2.2.1 + 1 - d.1) = d.2.2.1 + 1 - d.1 by omega]
        · rw [hR.2.2.1 j (by omega)]
          unfold dvF
          rw [if_pos ⟨by omega, by omega⟩]
      · exact Or.inr ⟨rfl, hE⟩
    · rcases hs with ⟨rfl, hkm⟩ | ⟨rfl, hkm⟩
      · refine Or.inl ⟨rfl, hkm, ⟨?_, by omega, fun j hj => by omega, fun j _ _ => ?_⟩, fun s hs => by omega⟩
        · rw [show min 0 (d.2.2.1 + 1 - d.1) = 0 by omega]
        · unfold dvF
          rw [if_neg (by omega)]
      · exact Or.inr ⟨rfl, fun hE => hkm hE.1⟩
  · intro J hJ
    by_cases hc : d.1 ≤ d.2.2.1
    · rw [if_neg (fun z => by have := (le_iff _ _).mp z; rw [hq, nI_toInt (by omega)] at this; omega), if_neg hle]
      exact hJ _ (Or.inl ⟨rfl, hc⟩)
    · rw [if_pos ((le_iff _ _).mpr (by rw [hq, nI_toInt (by omega)]; omega))]
      exact hJ _ (Or.inr ⟨rfl, hc⟩)
