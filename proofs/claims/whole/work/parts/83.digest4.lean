theorem wh9_for {A1 A2 A3 A4 A5 A6 A7 A8 A9 R : Type} {body : (A1 → A2 → A3 → A4 → A5 → A6 → A7 → A8 → A9 → Option R) → A1 → A2 → A3 → A4 → A5 → A6 → A7 → A8 → A9 → Option R} {P : Option R → Prop} (N : Nat) (Inv : Nat → A1 → A2 → A3 → A4 → A5 → A6 → A7 → A8 → A9 → Prop) (hs : ∀ (i : Nat) (a1 : A1) (a2 : A2) (a3 : A3) (a4 : A4) (a5 : A5) (a6 : A6) (a7 : A7) (a8 : A8) (a9 : A9), i < N → Inv i a1 a2 a3 a4 a5 a6 a7 a8 a9 → ∀ self : A1 → A2 → A3 → A4 → A5 → A6 → A7 → A8 → A9 → Option R, (∀ b1 b2 b3 b4 b5 b6 b7 b8 b9, Inv (i + 1) b1 b2 b3 b4 b5 b6 b7 b8 b9 → P (self b1 b2 b3 b4 b5 b6 b7 b8 b9)) → P (body self a1 a2 a3 a4 a5 a6 a7 a8 a9)) (hx : ∀ (a1 : A1) (a2 : A2) (a3 : A3) (a4 : A4) (a5 : A5) (a6 : A6) (a7 : A7) (a8 : A8) (a9 : A9), Inv N a1 a2 a3 a4 a5 a6 a7 a8 a9 → ∀ self : A1 → A2 → A3 → A4 → A5 → A6 → A7 → A8 → A9 → Option R, P (body self a1 a2 a3 a4 a5 a6 a7 a8 a9)) : ∀ (n i : Nat) (a1 : A1) (a2 : A2) (a3 : A3) (a4 : A4) (a5 : A5) (a6 : A6) (a7 : A7) (a8 : A8) (a9 : A9), i ≤ N → N < i + n → Inv i a1 a2 a3 a4 a5 a6 a7 a8 a9 → P (wh9 body n a1 a2 a3 a4 a5 a6 a7 a8 a9) := by
  intro n
  induction n with
  | zero => intro i a1 a2 a3 a4 a5 a6 a7 a8 a9 h1 h2; omega
  | succ n ih =>
    intro i a1 a2 a3 a4 a5 a6 a7 a8 a9 h1 h2 hI
    rcases Nat.lt_or_ge i N with h | h
    · exact hs i a1 a2 a3 a4 a5 a6 a7 a8 a9 h hI _ (fun b1 b2 b3 b4 b5 b6 b7 b8 b9 hb => ih (i + 1) b1 b2 b3 b4 b5 b6 b7 b8 b9 (by omega) (by omega) hb)
    · have e : i = N := by omega
      subst e
      exact hx a1 a2 a3 a4 a5 a6 a7 a8 a9 hI _
def ffH (f : Nat → Nat) (p0 : Int32) (g : Sg) (h : Int64) : Nat → Int64
  | 0 => h
  | m + 1 => fitH (bT p0 g) (NF (gT p0 g) (bT p0 g) (f (m + 1)).testBit) (DF (gT p0 g) (bT p0 g) (f (m + 1)).testBit) (RT p0 g) (m + 1) (ffH f p0 g h m)
theorem mixBest_e {I : Nat → Int32} {A : Nat → Nat → Int32} {F : Nat → Int64} {L : Nat → Nat → Int64} {g : Sg} (hM : MRep I A g) (hw : WF g) {p0 : Int32} (hG : GB (gT p0 g) (bT p0 g)) {f : Nat → Nat} (hf : ∀ n, 1 ≤ n → n ≤ 4 → f n < 2 ^ n ∧ Best (gT p0 g) (bT p0 g) n (f n)) : ∃ x1 x2 x3 x4 x5 x6 x7, X6_mixBest I A F L p0 = some (x1, x2, x3, x4, x5, x6, x7, ffH f p0 g (F 32) 4) := by
  unfold X6_mixBest
  refine wh9_for (P := fun o => ∃ x1 x2 x3 x4 x5 x6 x7, o = some (x1, x2, x3, x4, x5, x6, x7, ffH f p0 g (F 32) 4)) 5 (fun n c _ _ _ _ _ _ _ h => c = nI n ∧ 1 ≤ n ∧ h = ffH f p0 g (F 32) (n - 1)) ?_ ?_ 200 1 _ _ _ _ _ _ _ _ _ (by omega) (by omega) ⟨rfl, by omega, rfl⟩
  · intro n c y1 y2 y3 y4 y5 y6 y7 h hn hI self hself
    obtain ⟨rfl, hn1, rfl⟩ := hI
    obtain ⟨hf1, hf2⟩ := hf n hn1 (by omega)
    rw [if_neg (show ¬ (4 : Int32) < nI n from nI_nlt (a := 4) (b := n) (by omega) (by decide))]
    rw [show ∀ K fK, jn8 (R := (Nat → Int64) × (Nat → Int64) × Int64 × (Nat → Int64) × (Nat → Int32) × Int64 × (Nat → Int64) × Int64) (A1 := Nat → Int64) (A2 := Nat → Int64) (A3 := Int64) (A4 := Nat → Int64) (A5 := Nat → Int32) (A6 := Int64) (A7 := Nat → Int64) (A8 := Int64) K fK = fK K from fun _ _ => rfl]
    refine wh9_for (P := fun o => ∃ x1 x2 x3 x4 x5 x6 x7, o = some (x1, x2, x3, x4, x5, x6, x7, ffH f p0 g (F 32) 4)) n (fun k c _ _ _ _ _ _ _ h => c = nI k ∧ h = frF (NF (gT p0 g) (bT p0 g) (f n).testBit) (DF (gT p0 g) (bT p0 g) (f n).testBit) (ffH f p0 g (F 32) (n - 1)) k) ?_ ?_ 200 0 _ _ _ _ _ _ _ _ _ (by omega) (by omega) ⟨rfl, rfl⟩
    · intro k c z1 z2 z3 z4 z5 z6 z7 h hk hI self2 hself2
      obtain ⟨rfl, rfl⟩ := hI
      rw [if_neg (nI_ge hk (by omega))]
      obtain ⟨⟨o1, o2, o3, o4, o5, o6, o7⟩, e1⟩ := bestNow_e (I := I) (A := up A 29 z5) (F := up (up (up F 27 z3) 30 z6) 32 (frF (NF (gT p0 g) (bT p0 g) (f n).testBit) (DF (gT p0 g) (bT p0 g) (f n).testBit) (ffH f p0 g (F 32) (n - 1)) k)) (L := up (up (up (up L 25 z1) 26 z2) 28 z4) 31 z7) hM hw hG hn1 (by omega) hf1 hf2 hk 0
      rw [e1, ob8_eq]
      simp only [X6_mix]
      rw [ob1_eq]
      obtain ⟨⟨w1, w2, w3, w4, w5, w6, w7⟩, e2⟩ := bestNow_e (I := I) (A := up A 29 o5) (F := up (up (up F 27 o3) 30 o6) 32 (31 * up (up (up F 27 o3) 30 o6) 32 (frF (NF (gT p0 g) (bT p0 g) (f n).testBit) (DF (gT p0 g) (bT p0 g) (f n).testBit) (ffH f p0 g (F 32) (n - 1)) k) 32 + lowI (NF (gT p0 g) (bT p0 g) (f n).testBit k) (DF (gT p0 g) (bT p0 g) (f n).testBit) 0)) (L := up (up (up (up L 25 o1) 26 o2) 28 o4) 31 o7) hM hw hG hn1 (by omega) hf1 hf2 hk 1
      rw [e2, ob8_eq, ob1_eq]
      exact hself2 _ _ _ _ _ _ _ _ _ ⟨nI_1 k, rfl⟩
    · intro c z1 z2 z3 z4 z5 z6 z7 h hI self2
      obtain ⟨rfl, rfl⟩ := hI
      rw [if_pos (nI_le (Nat.le_refl n) (by omega))]
      dsimp only
      obtain ⟨⟨o1, o2, o3, o4, o5, o6, o7⟩, e1⟩ := lossNow_e (I := I) (A := up A 29 z5) (F := up (up (up F 27 z3) 30 z6) 32 (frF (NF (gT p0 g) (bT p0 g) (f n).testBit) (DF (gT p0 g) (bT p0 g) (f n).testBit) (ffH f p0 g (F 32) (n - 1)) n)) (L := up (up (up (up L 25 z1) 26 z2) 28 z4) 31 z7) hM hw hG hn1 (by omega) hf1 hf2 0
      rw [e1, ob8_eq]
      simp only [X6_mix]
      rw [ob1_eq]
      obtain ⟨⟨w1, w2, w3, w4, w5, w6, w7⟩, e2⟩ := lossNow_e (I := I) (A := up A 29 o5) (F := up (up (up F 27 o3) 30 o6) 32 (31 * up (up (up F 27 o3) 30 o6) 32 (frF (NF (gT p0 g) (bT p0 g) (f n).testBit) (DF (gT p0 g) (bT p0 g) (f n).testBit) (ffH f p0 g (F 32) (n - 1)) n) 32 + lowI (lossI (bT p0 g) (NF (gT p0 g) (bT p0 g) (f n).testBit) (DF (gT p0 g) (bT p0 g) (f n).testBit) (RT p0 g)) (DF (gT p0 g) (bT p0 g) (f n).testBit) 0)) (L := up (up (up (up L 25 o1) 26 o2) 28 o4) 31 o7) hM hw hG hn1 (by omega) hf1 hf2 1
      rw [e2, ob8_eq, ob1_eq]
      refine hself _ _ _ _ _ _ _ _ _ ⟨nI_1 n, by omega, ?_⟩
      obtain ⟨m, rfl⟩ : ∃ m, n = m + 1 := ⟨n - 1, by omega⟩
      rfl
  · intro c y1 y2 y3 y4 y5 y6 y7 h hI self
    obtain ⟨rfl, -, rfl⟩ := hI
    rw [if_pos (show (4 : Int32) < nI 5 from nI_lt (a := 4) (b := 5) (by omega) (by decide))]
    exact ⟨_, _, _, _, _, _, _, rfl⟩
