theorem dvP_1 (d : SD) (t : Nat) : (dvP d t).1 = if 1 ≤ t then dvC d (t - 1) else 0 := by
  cases t with
  | zero => rfl
  | succ s => rw [if_pos (by omega)]; rfl
theorem dvP_2 (d : SD) (t : Nat) : (dvP d t).2 = if 2 ≤ t then dvC d (t - 2) else 0 := by
  cases t with
  | zero => rfl
  | succ s =>
    cases s with
    | zero => rfl
    | succ s => rw [if_pos (by omega)]; rfl
theorem dok_hi {d : SD} (hw : StW d) {s : Nat} (hs : d.2.2.1 ≤ s) : dok d s := by
  have hk1 := hw.1.1
  have hk3 := hw.1.2.1
  have hz := hw.1.2.2.1
  unfold dok
  rw [if_neg (by omega)]
  unfold dvR dvT
  rw [hw.2.2.2.1 s hs, dvP_1, dvP_2]
  have e1 : d.2.1 1 * (if 1 ≤ s then dvC d (s - 1) else 0) = 0 := by
    by_cases c : d.1 ≤ 1
    · rw [hz 1 c, Int32.zero_mul]
    · by_cases c1 : 1 ≤ s
      · rw [if_pos c1, dvC_out (by omega), Int32.mul_zero]
      · rw [if_neg c1, Int32.mul_zero]
  have e2 : d.2.1 2 * (if 2 ≤ s then dvC d (s - 2) else 0) = 0 := by
    by_cases c : d.1 ≤ 2
    · rw [hz 2 c, Int32.zero_mul]
    · by_cases c1 : 2 ≤ s
      · rw [if_pos c1, dvC_out (by omega), Int32.mul_zero]
      · rw [if_neg c1, Int32.mul_zero]
  rw [e1, e2]
  rfl
def dvQ (d : SD) (t i : Nat) : Int32 := if i ≤ 1 then d.2.2.2 t else if i ≤ 2 then d.2.2.2 t - d.2.1 1 * (dvP d t).1 else dvR d t
theorem dvQ_k {d : SD} (hw : StW d) (t : Nat) : dvQ d t d.1 = dvR d t := by
  have hk1 := hw.1.1
  have hz := hw.1.2.2.1
  unfold dvQ dvR dvT
  by_cases c : d.1 ≤ 1
  · rw [if_pos c, hz 1 c, hz 2 (by omega), Int32.zero_mul, Int32.zero_mul, Int32.sub_zero, Int32.sub_zero]
  · rw [if_neg c]
    by_cases c2 : d.1 ≤ 2
    · rw [if_pos c2, hz 2 c2, Int32.zero_mul, Int32.sub_zero]
    · rw [if_neg c2]
theorem q1_e : ∀ m, m < 9 → ∀ k, k < 4 → (nI m - nI k + 1 - 1).toInt = (m : Int) - k := by decide +kernel
theorem ti_e : ∀ t, t < 8 → ∀ i, i < 4 → (nI t - nI i).toInt = (t : Int) - i := by decide +kernel
theorem ti_n : ∀ t, t < 8 → ∀ i, i < 4 → i ≤ t → nI t - nI i = nI (t - i) := by decide +kernel
theorem dvQ_s {d : SD} {t i : Nat} (h1 : 1 ≤ i) (h3 : i < 3) : dvQ d t (i + 1) = dvQ d t i - d.2.1 i * (if i ≤ t then dvC d (t - i) else 0) := by
  have : i = 1 ∨ i = 2 := by omega
  rcases this with rfl | rfl
  · rw [← dvP_1]; rfl
  · rw [← dvP_2]; rfl
section DV
variable {a : Nat → Nat} {q pg : Nat → Int32} {gS gU : Nat → Option Nat} {rd : RdT} {ft : FtT} {S : Nat → StT} {U : Nat → UnT} {I : Nat → Int32} {A : Nat → Nat → Int32} {F : Nat → Int64} {L : Nat → Nat → Int64} {g : Sg}
theorem isDivided_e {i : Nat} {d : SD} (hi : i < 3) (h : MSt A i d) (hw : StW d) : ∃ fl n w, X6_isDivided I A F L (nI i) = some (fl, n, w) ∧ DivR d n w fl := by
  have hk3 := hw.1.2.1
  have hk1 := hw.1.1
  have hm8 := hw.2.2.1
  have hm1 := hw.2.1
  have hr0 := hw.1.2.2.2.2
  have hne : d.2.1 0 ≠ 0 := fun z => by rw [z] at hr0; exact absurd hr0 (by decide)
  have hq := q_e d.2.2.1 (by omega) d.1 (by omega)
  have hq1 := q1_e d.2.2.1 (by omega) d.1 (by omega)
  unfold X6_isDivided
  rw [chk_of (inB_nI hi (by decide)), chk_of (inB_nI hi (by decide)), cl_nI (by omega), h.1, h.2.2.1]
  by_cases hkm : d.1 ≤ d.2.2.1
  · rw [if_pos ((le_iff _ _).mpr (by rw [hq, l1]; omega))]
    refine wh2_for (P := fun o => ∃ fl n w, o = some (fl, n, w) ∧ DivR d n w fl) d.2.2.1 (fun t c w => c = nI t ∧ (∀ j, j < t → j + d.1 ≤ d.2.2.1 → w j = dvC d j) ∧ ∀ s, s < t → dok d s) ?_ ?_ 200 0 _ _ (by omega) (by omega) ⟨rfl, fun j hj => by omega, fun s hs => by omega⟩
    · intro t c w ht hI self hself
      obtain ⟨rfl, hwj, hok⟩ := hI
      have ht8 : t < 8 := by omega
      have hS : ∀ {x}, MSt (up A 24 x) i d := fun {x} => h
      rw [chk_of (inB_nI hi (by decide)), if_neg (nI_ge ht (by omega)), runoffAt_e hi hS, ob1_eq, atE_nI ht8]
      refine jn1_wp (P := fun o => ∃ fl n w, o = some (fl, n, w) ∧ DivR d n w fl) (fun x => x = dvR d t) ?_ ?_
      · intro x hx
        subst hx
        refine jn0_wp (P := fun o => ∃ fl n w, o = some (fl, n, w) ∧ DivR d n w fl) (dok d t) ?_ ?_
        · intro hd
          rw [jn2_u]
          by_cases hc : t + d.1 ≤ d.2.2.1
          · rw [if_neg (fun z => by have := (le_iff _ _).mp z; rw [hq, nI_toInt (by omega)] at this; omega), rainAt_e hi hS hw, ob1_eq, show (0 : Int32) = nI 0 from rfl, atE_nI (by omega), chk_of (ne0_of hne)]
            dsimp only
            rw [chk_of (inB_nI ht8 (by decide)), cl_nI (by omega)]
            refine hself _ _ ⟨nI_1 t, fun j hj hjk => ?_, fun s hs => ?_⟩
            · by_cases c : j = t
              · subst c
                rw [pk_us, dvC_in hc]
              · rw [pk_un c]; exact hwj j (by omega) hjk
            · by_cases c : s = t
              · subst c; exact hd
              · exact hok s (by omega)
          · rw [if_pos ((le_iff _ _).mpr (by rw [hq, nI_toInt (by omega)]; omega))]
            dsimp only
            rw [chk_of (inB_nI ht8 (by decide)), cl_nI (by omega)]
            refine hself _ _ ⟨nI_1 t, fun j hj hjk => ?_, fun s hs => ?_⟩
            · by_cases c : j = t
              · subst c; exact absurd hjk hc
              · rw [pk_un c]; exact hwj j (by omega) hjk
            · by_cases c : s = t
              · subst c; exact hd
              · exact hok s (by omega)
        · intro J hJ
          by_cases hc : t + d.1 ≤ d.2.2.1
          · rw [if_neg (fun z => by have := (le_iff _ _).mp z; rw [hq, nI_toInt (by omega)] at this; omega), rainAt_e hi hS hw, ob1_eq, show (0 : Int32) = nI 0 from rfl, atE_nI (by omega), chk_of (ne0_of hne)]
            by_cases hv : dvR d t - dvR d t / d.2.1 0 * d.2.1 0 = nI 0
            · rw [if_pos hv]
              refine hJ ?_
              unfold dok
              rw [if_pos hc]
              exact hv
            · rw [if_neg hv]
              refine ⟨_, _, _, rfl, Or.inr ⟨rfl, fun hE => hv ?_⟩⟩
              have := hE.2 t ht8
              unfold dok at this
              rw [if_pos hc] at this
              exact this
          · rw [if_pos ((le_iff _ _).mpr (by rw [hq, nI_toInt (by omega)]; omega))]
            by_cases hv : dvR d t = 0
            · rw [if_pos hv]
              refine hJ ?_
              unfold dok
              rw [if_neg hc]
              exact hv
            · rw [if_neg hv]
              refine ⟨_, _, _, rfl, Or.inr ⟨rfl, fun hE => hv ?_⟩⟩
              have := hE.2 t ht8
              unfold dok at this
              rw [if_neg hc] at this
              exact this
      · intro J hJ
        refine wh2_for (P := fun o => ∃ fl n w, o = some (fl, n, w) ∧ DivR d n w fl) d.1 (fun k x c => c = nI k ∧ 1 ≤ k ∧ x = dvQ d t k) ?_ ?_ 200 1 _ _ (by omega) (by omega) ⟨rfl, by omega, rfl⟩
        · intro k x c hk hI self2 hself2
          obtain ⟨rfl, hk1', rfl⟩ := hI
          rw [chk_of (inB_nI hi (by decide)), if_neg (nI_ge hk (by omega)), within_e, ob1_eq, jn2_u, ite10, ti_e t ht8 k (by omega), hq1, l0]
          by_cases hc : 0 ≤ (t : Int) - k ∧ (t : Int) - k ≤ (d.2.2.1 : Int) - d.1
          · rw [if_pos hc, rainAt_e hi hS hw, ob1_eq, atE_nI (by omega), ti_n t ht8 k (by omega) (by omega), chk_of (inB_nI (show t - k < 8 by omega) (by decide)), cl_nI (by omega), hwj (t - k) (by omega) (by omega)]
            refine hself2 _ _ ⟨nI_1 k, by omega, ?_⟩
            rw [dvQ_s hk1' (by omega), if_pos (by omega)]
          · rw [if_neg hc]
            refine hself2 _ _ ⟨nI_1 k, by omega, ?_⟩
            rw [dvQ_s hk1' (by omega)]
            by_cases c : k ≤ t
            · rw [if_pos c, dvC_out (by omega), Int32.mul_zero]
            · rw [if_neg c, Int32.mul_zero]
        · intro x c hI self2
          obtain ⟨rfl, -, rfl⟩ := hI
          rw [chk_of (inB_nI hi (by decide)), if_pos (nI_le (Nat.le_refl _) (by omega))]
          exact hJ _ (dvQ_k hw t)
    · intro c w hI self
      obtain ⟨rfl, hwj, hok⟩ := hI
      rw [chk_of (inB_nI hi (by decide)), if_pos (nI_le (Nat.le_refl _) (by omega))]
      refine ⟨_, _, _, rfl, Or.inl ⟨rfl, ⟨hkm, fun s hs => ?_⟩, ?_, fun j hj => hwj j (by omega) (by omega)⟩⟩
      · rcases Nat.lt_or_ge s d.2.2.1 with c | c
        · exact hok s c
        · exact dok_hi hw c
      · rw [eq_iff, hq, nI_toInt (by omega)]
        omega
  · rw [if_neg (fun z => by have := (le_iff _ _).mp z; rw [hq, l1] at this; omega)]
    exact ⟨_, _, _, rfl, Or.inr ⟨rfl, fun hE => hkm hE.1⟩⟩
/-- what divided answers -/
theorem dv_b {m k : Nat} (hm : m ≤ 8) (p : Int32) (h : 10 ≤ p.toInt ∧ p.toInt ≤ 17) : (p - 10).toInt = p.toInt - 10 := by
  have e : (10 : Int32).toInt = 10 := rfl
  rw [sub_t (by rw [e]; omega) (by rw [e]; omega), e]
end DV
