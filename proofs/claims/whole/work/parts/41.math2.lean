theorem DF_pos {g bb : Nat → Int} (h : PD (g 0) (g 1) (g 2)) (h3 : g 3 = 0) (fr : Nat → Bool) : 0 < DF g bb fr := by
  have e0 := pd_a h
  have e1 := pd_ab h
  have e2 := pd_ac h
  have e3 := pd_012 h
  have e4 := pd_013 h
  have e5 := pd_023 h
  have e6 := pd_0123 h
  have e7 : 0 < g 0 * g 0 := Int.mul_pos e0 e0
  unfold d4 at e6
  cases f0 : fr 0 <;> cases f1 : fr 1 <;> cases f2 : fr 2 <;> cases f3 : fr 3 <;> simp [DF, det4, ent, ds, f0, f1, f2, f3, h3] <;> grind
/-- one best row: two rows that are best are the same, as fractions -/
theorem best_one {g bb : Nat → Int} (h : PD (g 0) (g 1) (g 2)) (h3 : g 3 = 0) {N M : Nat → Int} {D E : Int} (hD : 0 < D) (hE : 0 < E)
    (c1 : ∀ k, k < 4 → N k * pressI g bb N D k = 0) (c2 : ∀ k, k < 4 → M k * pressI g bb M E k = 0)
    (p1 : ∀ k, k < 4 → 0 ≤ N k * pressI g bb M E k) (p2 : ∀ k, k < 4 → 0 ≤ M k * pressI g bb N D k) : ∀ k, k < 4 → N k * E = M k * D := by
  have key : qd (g 0) (g 1) (g 2) (N 0 * E - M 0 * D) (N 1 * E - M 1 * D) (N 2 * E - M 2 * D) (N 3 * E - M 3 * D) =
      E*E*(N 0 * pressI g bb N D 0 + N 1 * pressI g bb N D 1 + N 2 * pressI g bb N D 2 + N 3 * pressI g bb N D 3)
      + D*D*(M 0 * pressI g bb M E 0 + M 1 * pressI g bb M E 1 + M 2 * pressI g bb M E 2 + M 3 * pressI g bb M E 3)
      - D*E*((N 0 * pressI g bb M E 0 + N 1 * pressI g bb M E 1 + N 2 * pressI g bb M E 2 + N 3 * pressI g bb M E 3) + (M 0 * pressI g bb N D 0 + M 1 * pressI g bb N D 1 + M 2 * pressI g bb N D 2 + M 3 * pressI g bb N D 3)) := by
    simp only [pressI, ds, h3]
    unfold qd
    grind
  have q : qd (g 0) (g 1) (g 2) (N 0 * E - M 0 * D) (N 1 * E - M 1 * D) (N 2 * E - M 2 * D) (N 3 * E - M 3 * D) ≤ 0 := by
    rw [key, c1 0 (by decide), c1 1 (by decide), c1 2 (by decide), c1 3 (by decide), c2 0 (by decide), c2 1 (by decide), c2 2 (by decide), c2 3 (by decide)]
    have a0 := p1 0 (by decide)
    have a1 := p1 1 (by decide)
    have a2 := p1 2 (by decide)
    have a3 := p1 3 (by decide)
    have b0 := p2 0 (by decide)
    have b1 := p2 1 (by decide)
    have b2 := p2 2 (by decide)
    have b3 := p2 3 (by decide)
    generalize N 0 * pressI g bb M E 0 = y0 at *
    generalize N 1 * pressI g bb M E 1 = y1 at *
    generalize N 2 * pressI g bb M E 2 = y2 at *
    generalize N 3 * pressI g bb M E 3 = y3 at *
    generalize M 0 * pressI g bb N D 0 = z0 at *
    generalize M 1 * pressI g bb N D 1 = z1 at *
    generalize M 2 * pressI g bb N D 2 = z2 at *
    generalize M 3 * pressI g bb N D 3 = z3 at *
    have hs : 0 ≤ D * E * ((y0 + y1 + y2 + y3) + (z0 + z1 + z2 + z3)) := Int.mul_nonneg (Int.le_of_lt (Int.mul_pos hD hE)) (by omega)
    simp only [Int.add_zero, Int.mul_zero]
    omega
  obtain ⟨z0, z1, z2, z3⟩ := h _ _ _ _ q
  exact lt4 (by omega) (by omega) (by omega) (by omega)
/-! at least one best row, over fractions -/
section Ex
variable (g : Nat → Nat → Rat) (b : Nat → Rat) (x : Nat → Nat → Rat)
def gx (y : Nat → Rat) (i : Nat) : Rat := g i 0 * y 0 + g i 1 * y 1 + g i 2 * y 2 + g i 3 * y 3
def fq (y : Nat → Rat) : Rat := y 0 * gx g y 0 + y 1 * gx g y 1 + y 2 * gx g y 2 + y 3 * gx g y 3 - 2 * (b 0 * y 0 + b 1 * y 1 + b 2 * y 2 + b 3 * y 3)
def qf (y : Nat → Rat) : Rat := y 0 * gx g y 0 + y 1 * gx g y 1 + y 2 * gx g y 2 + y 3 * gx g y 3
end Ex
theorem fq_diff {g : Nat → Nat → Rat} {b : Nat → Rat} (hs : g 0 1 = g 1 0 ∧ g 0 2 = g 2 0 ∧ g 0 3 = g 3 0 ∧ g 1 2 = g 2 1 ∧ g 1 3 = g 3 1 ∧ g 2 3 = g 3 2) (x y : Nat → Rat) (hz : ∀ k, k < 4 → (y k - x k) * (gx g x k - b k) = 0) : fq g b y - fq g b x = qf g (fun k => y k - x k) := by
  have h0 := hz 0 (by decide)
  have h1 := hz 1 (by decide)
  have h2 := hz 2 (by decide)
  have h3 := hz 3 (by decide)
  obtain ⟨s1, s2, s3, s4, s5, s6⟩ := hs
  simp only [fq, qf, gx] at *
  grind
theorem qf_scale {g : Nat → Nat → Rat} (t : Rat) (y : Nat → Rat) : qf g (fun k => t * y k) = t * t * qf g y := by
  simp only [qf, gx]
  grind
/-- among finitely many, one with the least value -/
theorem argmin (p : Nat → Prop) (r : Nat → Rat) : ∀ n, (∃ i, i < n ∧ p i) → ∃ i, i < n ∧ p i ∧ ∀ j, j < n → p j → r i ≤ r j := by
  intro n
  induction n with
  | zero => intro h; obtain ⟨i, h, _⟩ := h; omega
  | succ n ih =>
    intro h
    by_cases hn : ∃ i, i < n ∧ p i
    · obtain ⟨i, hi, hp, hm⟩ := ih hn
      by_cases hpn : p n
      · rcases Rat.le_total (a := r i) (b := r n) with hle | hle
        · refine ⟨i, by omega, hp, fun j hj hpj => ?_⟩
          rcases Nat.lt_or_ge j n with h1 | h1
          · exact hm j h1 hpj
          · have : j = n := by omega
            subst this; exact hle
        · refine ⟨n, by omega, hpn, fun j hj hpj => ?_⟩
          rcases Nat.lt_or_ge j n with h1 | h1
          · exact Rat.le_trans hle (hm j h1 hpj)
          · have : j = n := by omega
            subst this; exact Rat.le_refl
      · refine ⟨i, by omega, hp, fun j hj hpj => ?_⟩
        rcases Nat.lt_or_ge j n with h1 | h1
        · exact hm j h1 hpj
        · have : j = n := by omega
          subst this; exact absurd hpj hpn
    · obtain ⟨i, hi, hp⟩ := h
      have e : i = n := by
        rcases Nat.lt_or_ge i n with h1 | h1
        · exact absurd ⟨i, h1, hp⟩ hn
        · omega
      subst e
      refine ⟨i, by omega, hp, fun j hj hpj => ?_⟩
      rcases Nat.lt_or_ge j i with h1 | h1
      · exact absurd ⟨j, h1, hpj⟩ hn
      · have : j = i := by omega
        subst this; exact Rat.le_refl
theorem r_le_div {a b c : Rat} (hc : 0 < c) : a ≤ b / c ↔ a * c ≤ b := by
  have e : b / c * c = b := Rat.div_mul_cancel (by grind)
  constructor
  · intro h
    have h2 := Rat.mul_nonneg (show 0 ≤ b / c - a by grind) (show 0 ≤ c by grind)
    grind
  · intro h
    rcases Rat.le_total (a := a) (b := b / c) with h1 | h1
    · exact h1
    · by_cases h3 : b / c < a
      · have h2 := Rat.mul_pos (show 0 < a - b / c by grind) hc
        grind
      · grind
theorem r_div_le {a b c : Rat} (hc : 0 < c) : b / c ≤ a ↔ b ≤ a * c := by
  have e : b / c * c = b := Rat.div_mul_cancel (by grind)
  constructor
  · intro h
    have h2 := Rat.mul_nonneg (show 0 ≤ a - b / c by grind) (show 0 ≤ c by grind)
    grind
  · intro h
    rcases Rat.le_total (a := b / c) (b := a) with h1 | h1
    · exact h1
    · by_cases h3 : a < b / c
      · have h2 := Rat.mul_pos (show 0 < b / c - a by grind) hc
        grind
      · grind
theorem bit_del : ∀ m, m < 16 → ∀ i, i < 4 → m.testBit i = true → (m - 2 ^ i < m ∧ m - 2 ^ i < 16 ∧ ∀ k, k < 4 → (m - 2 ^ i).testBit k = (m.testBit k && !(k == i))) := by decide
theorem bit_add : ∀ m, m < 16 → ∀ i, i < 4 → m.testBit i = false → (m + 2 ^ i < 16 ∧ ∀ k, k < 4 → (m + 2 ^ i).testBit k = (m.testBit k || (k == i))) := by decide
/-- a row that is nowhere below 0, on a set of places, is no better than one of the solved rows on a part of them that is nowhere below 0 -/
theorem fq_part {g : Nat → Nat → Rat} {b : Nat → Rat} {x : Nat → Nat → Rat} (hs : g 0 1 = g 1 0 ∧ g 0 2 = g 2 0 ∧ g 0 3 = g 3 0 ∧ g 1 2 = g 2 1 ∧ g 1 3 = g 3 1 ∧ g 2 3 = g 3 2) (hp : ∀ y : Nat → Rat, 0 ≤ qf g y)
    (hx0 : ∀ m, m < 16 → ∀ k, k < 4 → m.testBit k = false → x m k = 0) (hxs : ∀ m, m < 16 → ∀ k, k < 4 → m.testBit k = true → gx g (x m) k = b k) :
    ∀ m, m < 16 → ∀ y : Nat → Rat, (∀ k, k < 4 → 0 ≤ y k) → (∀ k, k < 4 → m.testBit k = false → y k = 0) → ∃ m', m' < 16 ∧ (∀ k, k < 4 → m'.testBit k = true → m.testBit k = true) ∧ (∀ k, k < 4 → 0 ≤ x m' k) ∧ fq g b (x m') ≤ fq g b y := by
  intro m
  induction m using Nat.strongRecOn with
  | _ m ih =>
    intro hm y hy0 hys
    have hz : ∀ k, k < 4 → (y k - x m k) * (gx g (x m) k - b k) = 0 := by
      intro k hk
      cases hb : m.testBit k with
      | false => rw [hys k hk hb, hx0 m hm k hk hb]; grind
      | true => rw [hxs m hm k hk hb]; grind
    have hd := fq_diff hs (x m) y hz
    have hq := hp (fun k => y k - x m k)
    by_cases hn : ∃ i, i < 4 ∧ x m i < 0
    · obtain ⟨i, hi, hxi, hmin⟩ := argmin (fun i => x m i < 0) (fun i => y i / (y i - x m i)) 4 hn
      have hyi := hy0 i hi
      have hden : 0 < y i - x m i := by grind
      obtain ⟨t, ht⟩ : ∃ t, t = y i / (y i - x m i) := ⟨_, rfl⟩
      have htm : t * (y i - x m i) = y i := by rw [ht]; exact Rat.div_mul_cancel (by grind)
      have ht0 : 0 ≤ t := by rw [ht]; exact (r_le_div hden).mpr (by grind)
      have ht1 : t ≤ 1 := by rw [ht]; exact (r_div_le hden).mpr (by grind)
      have hbi : m.testBit i = true := by
        cases hb : m.testBit i with
        | true => rfl
        | false => rw [hx0 m hm i hi hb] at hxi; grind
      obtain ⟨d1, d2, d3⟩ := bit_del m hm i hi hbi
      have hw0 : ∀ k, k < 4 → 0 ≤ y k + t * (x m k - y k) := by
        intro k hk
        have hyk := hy0 k hk
        by_cases hxk : x m k < 0
        · have hdk : 0 < y k - x m k := by grind
          have h1 := hmin k hk hxk
          have h2 : t ≤ y k / (y k - x m k) := by rw [ht]; exact h1
          have h3 := (r_le_div hdk).mp h2
          grind
        · have hxk' : 0 ≤ x m k := by grind
          have h1 : 0 ≤ (1 - t) * y k := Rat.mul_nonneg (by grind) hyk
          have h2 : 0 ≤ t * x m k := Rat.mul_nonneg ht0 hxk'
          grind
      obtain ⟨m', e1, e2, e3, e4⟩ := ih (m - 2 ^ i) d1 d2 (fun k => y k + t * (x m k - y k)) hw0 (by
        intro k hk hb
        rw [d3 k hk] at hb
        by_cases hki : k = i
        · subst hki; grind
        · have : m.testBit k = false := by
            cases hh : m.testBit k with
            | false => rfl
            | true => rw [hh] at hb; simp [hki] at hb
          show y k + t * (x m k - y k) = 0
          rw [hys k hk this, hx0 m hm k hk this]; grind)
      refine ⟨m', e1, fun k hk hb => ?_, e3, ?_⟩
      · have := e2 k hk hb
        rw [d3 k hk] at this
        cases hh : m.testBit k with
        | true => rfl
        | false => rw [hh] at this; simp at this
      · refine Rat.le_trans e4 ?_
        have hz2 : ∀ k, k < 4 → ((y k + t * (x m k - y k)) - x m k) * (gx g (x m) k - b k) = 0 := by
          intro k hk
          have := hz k hk
          grind
        have hd2 := fq_diff hs (x m) (fun k => y k + t * (x m k - y k)) hz2
        have e : (fun k => (y k + t * (x m k - y k)) - x m k) = fun k => (1 - t) * (y k - x m k) := by
          funext k; grind
        rw [e, qf_scale (1 - t) (fun k => y k - x m k)] at hd2
        have h1 : 0 ≤ (1 - (1 - t) * (1 - t)) * qf g (fun k => y k - x m k) := Rat.mul_nonneg (by
          have a1 : 0 ≤ t * (1 - t) := Rat.mul_nonneg ht0 (by grind)
          grind) hq
        grind
    · refine ⟨m, hm, fun _ _ h => h, fun k hk => ?_, ?_⟩
      · rcases Rat.le_total (a := 0) (b := x m k) with h | h
        · exact h
        · by_cases hz0 : x m k < 0
          · exact absurd ⟨k, hk, hz0⟩ hn
          · grind
      · grind
/-- at least one best row on the first n places -/
theorem fq_best {g : Nat → Nat → Rat} {b : Nat → Rat} {x : Nat → Nat → Rat} (hs : g 0 1 = g 1 0 ∧ g 0 2 = g 2 0 ∧ g 0 3 = g 3 0 ∧ g 1 2 = g 2 1 ∧ g 1 3 = g 3 1 ∧ g 2 3 = g 3 2) (hp : ∀ y : Nat → Rat, 0 ≤ qf g y) (hg : ∀ k, k < 4 → 0 < g k k)
    (hx0 : ∀ m, m < 16 → ∀ k, k < 4 → m.testBit k = false → x m k = 0) (hxs : ∀ m, m < 16 → ∀ k, k < 4 → m.testBit k = true → gx g (x m) k = b k) (om : Nat) (hom : om < 16) :
    ∃ m, m < 16 ∧ (∀ k, k < 4 → m.testBit k = true → om.testBit k = true) ∧ (∀ k, k < 4 → 0 ≤ x m k) ∧ ∀ k, k < 4 → om.testBit k = true → 0 ≤ gx g (x m) k - b k := by
  obtain ⟨m, hm, ⟨hsub, hpos⟩, hmin⟩ := argmin (fun m => (∀ k, k < 4 → m.testBit k = true → om.testBit k = true) ∧ ∀ k, k < 4 → 0 ≤ x m k) (fun m => fq g b (x m)) 16 ⟨0, by decide, fun k _ h => by simp at h, fun k hk => by rw [hx0 0 (by decide) k hk (by simp)]; exact Rat.le_refl⟩
  refine ⟨m, hm, hsub, hpos, fun k hk hok => ?_⟩
  rcases Rat.le_total (a := 0) (b := gx g (x m) k - b k) with h | h
  · exact h
  · by_cases hlt : gx g (x m) k - b k < 0
    · exfalso
      have hb : m.testBit k = false := by
        cases hb : m.testBit k with
        | false => rfl
        | true => rw [hxs m hm k hk hb] at hlt; grind
      obtain ⟨a1, a2⟩ := bit_add m hm k hk hb
      have hgk := hg k hk
      obtain ⟨t, ht⟩ : ∃ t, t = (b k - gx g (x m) k) / g k k := ⟨_, rfl⟩
      have htm : t * g k k = b k - gx g (x m) k := by rw [ht]; exact Rat.div_mul_cancel (by grind)
      have ht0 : 0 < t := by rw [ht]; exact (Rat.lt_div_iff hgk).mpr (by grind)
      obtain ⟨m', e1, e2, e3, e4⟩ := fq_part hs hp hx0 hxs (m + 2 ^ k) a1 (fun j => x m j + (if j = k then t else 0)) (fun j hj => by
        have := hpos j hj
        show 0 ≤ x m j + (if j = k then t else 0)
        split <;> grind) (fun j hj hbj => by
        rw [a2 j hj] at hbj
        have h1 : m.testBit j = false := by
          cases hh : m.testBit j with
          | false => rfl
          | true => rw [hh] at hbj; simp at hbj
        have h2 : ¬ j = k := by
          intro e; subst e; simp at hbj
        show x m j + (if j = k then t else 0) = 0
        rw [hx0 m hm j hj h1, if_neg h2]; grind)
      have hle := hmin m' e1 ⟨fun j hj hbj => by
        have := e2 j hj hbj
        rw [a2 j hj] at this
        by_cases hjk : j = k
        · subst hjk; exact hok
        · cases hh : m.testBit j with
          | true => exact hsub j hj hh
          | false => rw [hh] at this; simp [hjk] at this, e3⟩
      have hf : fq g b (fun j => x m j + (if j = k then t else 0)) = fq g b (x m) + 2 * t * (gx g (x m) k - b k) + t * t * g k k := by
        obtain ⟨s1, s2, s3, s4, s5, s6⟩ := hs
        match k, hk with
        | 0, _ => simp [fq, gx]; grind
        | 1, _ => simp [fq, gx]; grind
        | 2, _ => simp [fq, gx]; grind
        | 3, _ => simp [fq, gx]; grind
      have h9 : 0 < t * (b k - gx g (x m) k) := Rat.mul_pos ht0 (by grind)
      have h10 : t * t * g k k = t * (b k - gx g (x m) k) := by rw [Rat.mul_assoc, htm]
      grind
    · grind
