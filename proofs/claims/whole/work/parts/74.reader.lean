/-! ===== reading ===== -/
def KRow (im n : Int32) (f : Nat → Int32) (cnt : Int32) (av : Nat → Int32) (fig num : Int32) (mx : Nat) (top : Int) (z : Bool) : Prop :=
  ∃ k, k < mx ∧ cnt = nI k ∧ (∀ j, j < k → f j = av j ∧ 0 ≤ (av j).toInt ∧ (av j).toInt ≤ top) ∧ (z = true → 0 < k → 0 < (av 0).toInt) ∧
    ((im = 0 ∧ n = nI k ∧ fig = 0 ∧ num = 0) ∨ (im = 1 ∧ n = nI (k + 1) ∧ (fig = 1 ∨ (fig = 2 ∧ 10 ≤ num.toInt)) ∧ f k = num ∧ 0 ≤ num.toInt ∧ num.toInt ≤ top ∧ (z = true → k = 0 → 0 < num.toInt)))
def LenOk (ln i16 : Int32) : Prop := ln = i16 ∧ 1 ≤ ln.toInt ∧ ln.toInt ≤ 4
def RainOk (n1 : Int32) (f1 : Nat → Int32) (i17 : Int32) (a18 : Nat → Int32) : Prop := ∃ k, 1 ≤ k ∧ k ≤ 3 ∧ n1 = nI k ∧ i17 = nI k ∧ (∀ j, j < k → f1 j = a18 j ∧ 0 ≤ (a18 j).toInt ∧ (a18 j).toInt ≤ 5) ∧ 0 < (a18 0).toInt
def KRd (pl ln ou im n1 : Int32) (f1 : Nat → Int32) (n2 : Int32) (f2 : Nat → Int32) (i14 i15 i16 i17 : Int32) (a18 : Nat → Int32) (i19 : Int32) (a20 : Nat → Int32) (i21 i22 : Int32) : Prop :=
  (pl = 0 ∧ i14 = 0 ∧ im = 0 ∧ n1 = 0 ∧ n2 = 0 ∧ i21 = 0 ∧ i22 = 0) ∨
  (pl = 1 ∧ i14 = 1 ∧ ou = 0 ∧ i15 = 0 ∧ n2 = 0 ∧ i19 = 0 ∧ KRow im n1 f1 i17 a18 i21 i22 3 5 true) ∨
  (pl = 2 ∧ i14 = 2 ∧ ou = 1 ∧ i15 = 1 ∧ im = 0 ∧ n2 = 0 ∧ i19 = 0 ∧ i21 = 0 ∧ i22 = 0) ∨
  (pl = 3 ∧ i14 = 3 ∧ ou = 1 ∧ i15 = 1 ∧ LenOk ln i16 ∧ im = 0 ∧ n2 = 0 ∧ i19 = 0 ∧ i21 = 0 ∧ i22 = 0) ∨
  (pl = 4 ∧ i14 = 4 ∧ ((ou = 0 ∧ i15 = 0 ∧ RainOk n1 f1 i17 a18) ∨ (ou = 1 ∧ i15 = 1 ∧ LenOk ln i16)) ∧ KRow im n2 f2 i19 a20 i21 i22 8 99 false)
theorem l48 : (48 : Int32).toInt = 48 := rfl
theorem l57 : (57 : Int32).toInt = 57 := rfl
theorem l99 : (99 : Int32).toInt = 99 := rfl
theorem l5' : (5 : Int32).toInt = 5 := rfl
theorem l8' : (8 : Int32).toInt = 8 := rfl
theorem num_t {x d : Int32} (hx : 0 ≤ x.toInt ∧ x.toInt ≤ 99) (hd : 0 ≤ d.toInt ∧ d.toInt ≤ 9) : (x * 10 + d).toInt = 10 * x.toInt + d.toInt := by
  have e : (10 : Int32).toInt = 10 := rfl
  have e1 : (x * 10).toInt = x.toInt * 10 := by rw [mul_t (by rw [e]; omega) (by rw [e]; omega), e]
  rw [add_t (by rw [e1]; omega) (by rw [e1]; omega), e1]
  omega
theorem sub1_e : ∀ n, n < 9 → nI (n + 1) - 1 = nI n := by decide +kernel
theorem last_e {k : Nat} {f : Nat → Int32} (hk : k < 8) : X2_last (nI (k + 1)) f = some (f k) := by
  unfold X2_last
  rw [if_neg (fun z => by have := (le_iff _ _).mp z; rw [nI_toInt (by omega), l0] at this; omega), if_neg (fun z => by have := (lt_iff _ _).mp z; rw [nI_toInt (by omega), l8'] at this; omega), sub1_e k (by omega), chk_of (inB_nI hk (by decide)), cl_nI (by omega)]
theorem setLast_e {k : Nat} {f : Nat → Int32} {p : Int32} (hk : k < 8) : X2_setLast (nI (k + 1)) f p = some (upd f k p) := by
  unfold X2_setLast
  rw [if_neg (fun z => by have := (le_iff _ _).mp z; rw [nI_toInt (by omega), l0] at this; omega), if_neg (fun z => by have := (lt_iff _ _).mp z; rw [nI_toInt (by omega), l8'] at this; omega), sub1_e k (by omega), chk_of (inB_nI hk (by decide)), cl_nI (by omega)]
/-- a figure is taken or not -/
def Acc (num d : Int32) (top : Int) (fig : Int32) : Prop := (fig = 0 ∨ 0 < num.toInt) ∧ 10 * num.toInt + d.toInt ≤ top
theorem krow_add {im n fig num cnt : Int32} {f av : Nat → Int32} {mx : Nat} {top : Int} {z : Bool} (h : KRow im n f cnt av fig num mx top z) (hmx : mx ≤ 8) (htop : top ≤ 99) {d : Int32} (hd : 0 ≤ d.toInt ∧ d.toInt ≤ 9) (ha : Acc num d top fig) (hz : z = true → cnt = 0 → fig = 0 → 0 < d.toInt) : ∃ k, cnt = nI k ∧ k < mx ∧ KRow 1 (nI (k + 1)) (upd f k (num * 10 + d)) cnt av (fig + 1) (num * 10 + d) mx top z := by
  obtain ⟨k, hk, rfl, hj, hz0, hc⟩ := h
  have hn : 0 ≤ num.toInt ∧ num.toInt ≤ 99 := by
    rcases hc with ⟨-, -, -, rfl⟩ | ⟨-, -, -, -, h1, h2, -⟩
    · rw [l0]; omega
    · omega
  have hv := num_t hn hd
  have ha2 := ha.2
  refine ⟨k, rfl, hk, k, hk, rfl, fun j hjk => ?_, hz0, Or.inr ⟨rfl, rfl, ?_, pk_us, by omega, by omega, fun hz1 hk0 => ?_⟩⟩
  · rw [pk_un (by omega)]; exact hj j hjk
  · rcases hc with ⟨-, -, rfl, rfl⟩ | ⟨-, -, h1, -, -, -, -⟩
    · exact Or.inl rfl
    · rcases h1 with rfl | ⟨rfl, h1⟩
      · refine Or.inr ⟨rfl, ?_⟩
        have := ha.1
        rcases this with h | h
        · exact absurd h (by decide)
        · omega
      · omega
  · rcases hc with ⟨-, -, rfl, rfl⟩ | ⟨-, -, -, -, -, -, h3⟩
    · have := hz hz1 (by rw [hk0]; rfl) rfl
      rw [hv, l0]; omega
    · have := h3 hz1 hk0
      rw [hv]; omega
theorem figRow_e {pl ln ou im n1 n2 : Int32} {f1 f2 : Nat → Int32} {cnt fig num : Int32} {av : Nat → Int32} {mx : Nat} {top : Int} {z : Bool} (h : KRow im n2 f2 cnt av fig num mx top z) (hmx : mx ≤ 8) (htop : top ≤ 99) {d t : Int32} (hd : 0 ≤ d.toInt ∧ d.toInt ≤ 9) (ht : t.toInt = top) : (Acc num d top fig → ∃ k, k < mx ∧ cnt = nI k ∧ X1_takesFigure_row pl ln ou im n1 f1 n2 f2 d t = some (1, 1, nI (k + 1), upd f2 k (num * 10 + d))) ∧ (¬ Acc num d top fig → ∃ o, X1_takesFigure_row pl ln ou im n1 f1 n2 f2 d t = some (0, o)) := by
  obtain ⟨k, hk, rfl, hj, hz0, hc⟩ := h
  have hn : 0 ≤ num.toInt ∧ num.toInt ≤ 99 := by
    rcases hc with ⟨-, -, -, rfl⟩ | ⟨-, -, -, -, h1, h2, -⟩
    · rw [l0]; omega
    · omega
  have hv := num_t hn hd
  unfold X1_takesFigure_row Acc
  rw [jn1_u]
  rcases hc with ⟨rfl, rfl, rfl, rfl⟩ | ⟨rfl, rfl, h1, h2, h3, h4, h5⟩
  · rw [if_pos rfl]
    dsimp only
    rw [jn1_u, if_pos rfl]
    dsimp only
    rw [if_pos rfl]
    constructor
    · intro ha
      refine ⟨k, hk, rfl, ?_⟩
      rw [if_pos ((le_iff _ _).mpr (by rw [hv, ht]; exact ha.2)), jn2_u, if_pos rfl]
      unfold X2_add
      rw [if_neg (show ¬ (8 : Int32) ≤ nI k from nI_ge (show k < 8 by omega) (by decide)), chk_of (inB_nI (show k < 8 by omega) (by decide)), cl_nI (by omega), ob2_eq, nI_1]
    · intro ha
      rw [if_neg (fun z => ha ⟨Or.inl rfl, by have := (le_iff _ _).mp z; rw [hv, ht] at this; exact this⟩)]
      exact ⟨_, rfl⟩
  · have hf0 : fig ≠ 0 := by rcases h1 with rfl | ⟨rfl, -⟩ <;> decide
    rw [if_neg (by decide), last_e (by omega), ob1_eq, h2]
    dsimp only
    rw [jn1_u, if_neg (by decide)]
    by_cases c0 : num = 0
    · rw [if_pos c0]
      dsimp only
      rw [if_neg (by decide)]
      constructor
      · intro ha
        rcases ha.1 with h | h
        · exact absurd h hf0
        · rw [c0, l0] at h; omega
      · intro _; exact ⟨_, rfl⟩
    · have hp : 0 < num.toInt := by
        have : num.toInt ≠ 0 := fun z => c0 ((eq_iff _ _).mpr (by rw [z, l0]))
        omega
      rw [if_neg c0]
      dsimp only
      rw [if_pos rfl]
      constructor
      · intro ha
        refine ⟨k, hk, rfl, ?_⟩
        rw [if_pos ((le_iff _ _).mpr (by rw [hv, ht]; exact ha.2)), jn2_u, if_neg (by decide), setLast_e (by omega), ob1_eq]
      · intro ha
        rw [if_neg (fun z => ha ⟨Or.inr hp, by have := (le_iff _ _).mp z; rw [hv, ht] at this; exact this⟩)]
        exact ⟨_, rfl⟩
theorem figRain_row {pl ln ou im n1 n2 : Int32} {f1 f2 : Nat → Int32} {d t : Int32} : X1_takesFigure_rain pl ln ou im n1 f1 n2 f2 d t = X1_takesFigure_row pl ln ou im n2 f2 n1 f1 d t := rfl
theorem goOn_row {pl ln ou im n1 n2 : Int32} {f1 f2 : Nat → Int32} {p b t : Int32} : X1_numbersGoOnWith_rain pl ln ou im n1 f1 n2 f2 p b t = X1_numbersGoOnWith_row pl ln ou im n2 f2 n1 f1 p b t := rfl
theorem figM_e {I : Nat → Int32} {A : Nat → Nat → Int32} {F : Nat → Int64} {L : Nat → Nat → Int64} {top : Int} {d : Int32} (hn : 0 ≤ (I 22).toInt ∧ (I 22).toInt ≤ 99) (hd : 0 ≤ d.toInt ∧ d.toInt ≤ 9) (htop : (I 14 = 1 ∧ top = 5) ∨ (¬ I 14 = 1 ∧ top = 99)) : (Acc (I 22) d top (I 21) → (I 14 = 1 → I 17 = 0 → I 21 = 0 → 0 < d.toInt) → X6_takesFigure I A F L d = some (1, I 21 + 1, I 22 * 10 + d)) ∧ (¬ (Acc (I 22) d top (I 21) ∧ (I 14 = 1 → I 17 = 0 → I 21 = 0 → 0 < d.toInt)) → ∃ o, X6_takesFigure I A F L d = some (0, o)) := by
  have hv := num_t hn hd
  have e10 : (10 : Int32) * I 22 + d = I 22 * 10 + d := by rw [Int32.mul_comm]
  unfold X6_takesFigure
  simp only [jn1, jn2, e10]
  have hlt : ∀ t : Int32, t.toInt = top → (t < I 22 * 10 + d ↔ ¬ 10 * (I 22).toInt + d.toInt ≤ top) := fun t ht => by rw [lt_iff, ht, hv]; omega
  have hd0 : (0 : Int32) < d ↔ 0 < d.toInt := by rw [lt_iff, l0]
  have h22 : I 22 ≤ 0 ↔ ¬ 0 < (I 22).toInt := by rw [le_iff, l0]; omega
  unfold Acc
  rcases htop with ⟨h14, rfl⟩ | ⟨h14, rfl⟩
  · have h5 := hlt 5 rfl
    simp only [h14, reduceIte, hd0, h22, h5]
    by_cases c21 : I 21 = 0 <;> by_cases c17 : I 17 = 0 <;> by_cases cd : 0 < d.toInt <;> by_cases cn : 0 < (I 22).toInt <;> by_cases ct : 10 * (I 22).toInt + d.toInt ≤ 5 <;> simp [c21, c17, cd, cn, ct, isB, chk]
  · have h5 := hlt 99 rfl
    simp only [h14, reduceIte, hd0, h22, h5]
    by_cases c21 : I 21 = 0 <;> by_cases cd : 0 < d.toInt <;> by_cases cn : 0 < (I 22).toInt <;> by_cases ct : 10 * (I 22).toInt + d.toInt ≤ 99 <;> simp [c21, cd, cn, ct, isB, chk]
