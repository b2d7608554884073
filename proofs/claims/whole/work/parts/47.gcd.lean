/-! ===== fractions in lowest terms ===== -/
def eu : Nat → Nat → Nat → Prop
  | 0, _, b => b = 0
  | i + 1, a, b => b = 0 ∨ eu i b (a % b)
theorem eu_bound : ∀ k a b : Nat, b < 2 ^ k → eu (2 * k) a b := by
  intro k
  induction k with
  | zero => intro a b h; show b = 0; omega
  | succ k ih =>
    intro a b h
    show eu (2 * k + 2) a b
    rcases Nat.eq_zero_or_pos b with hb | hb
    · exact Or.inl hb
    · right
      show eu (2 * k + 1) b (a % b)
      rcases Nat.eq_zero_or_pos (a % b) with hw | hw
      · exact Or.inl hw
      · right
        refine ih _ _ ?_
        have h1 : a % b < b := Nat.mod_lt _ hb
        generalize a % b = w at *
        have h2 : 2 ^ (k + 1) = 2 * 2 ^ k := by rw [Nat.pow_succ]; omega
        rcases Nat.lt_or_ge (2 * w) (b + 1) with h3 | h3
        · have := Nat.mod_lt b hw; omega
        · have h4 : b % w = b - w := by
            rw [Nat.mod_eq_sub_mod (by omega), Nat.mod_eq_of_lt (by omega)]
          omega
theorem lN_ne0 {b : Nat} (h : ¬ b = 0) (hb : b < 2 ^ 63) : ¬ lN b = 0 := fun z => h ((pk_lEQ hb (by decide)).mp (show lN b = lN 0 from z))
theorem gcd_stepN (a b : Nat) : Nat.gcd b (a % b) = Nat.gcd a b := by rw [Nat.gcd_comm a b, Nat.gcd_rec b a, Nat.gcd_comm]
theorem common_e (x y : Int64) (X Y : Nat) (hx : (if (0 : Int64) ≤ x then x else -x) = lN X) (hy : (if (0 : Int64) ≤ y then y else -y) = lN Y) (hX : X < 2 ^ 63) (hY : Y < 2 ^ 63) : X6_common x y = some (lN (Nat.gcd X Y)) := by
  have main : X6_common x y = wh2 (fun self28 (x4_28 : Int64) (x6_28 : Int64) => if x6_28 = (0 : Int64) then some x4_28 else (chk (ne0l x6_28) (self28 x6_28 (x4_28 - x4_28 / x6_28 * x6_28)))) 200 (if (0 : Int64) ≤ x then x else -x) (if (0 : Int64) ≤ y then y else -y) := by
    unfold X6_common
    simp only [jn1]
    by_cases c : (0 : Int64) ≤ x <;> by_cases c2 : (0 : Int64) ≤ y <;> simp only [c, c2, if_true, if_false, reduceIte]
  rw [main, hx, hy]
  refine wh2_wp (P := fun o => o = some (lN (Nat.gcd X Y))) (fun i u v => ∃ a b, u = lN a ∧ v = lN b ∧ Nat.gcd a b = Nat.gcd X Y ∧ a < 2 ^ 63 ∧ b < 2 ^ 63 ∧ eu i a b) ?_ 200 (2 * 63) _ _ (by omega) ⟨X, Y, rfl, rfl, rfl, hX, hY, eu_bound 63 X Y hY⟩
  intro i u v hI self hself
  obtain ⟨a, b, rfl, rfl, hg, ha, hb, he⟩ := hI
  by_cases hz : b = 0
  · subst hz
    rw [if_pos (show lN 0 = 0 from rfl), ← hg, Nat.gcd_zero_right]
  · rw [if_neg (lN_ne0 hz hb), chk_of (by simp [ne0l, lN_ne0 hz hb]), pk_lRem ha (by omega) hb]
    cases i with
    | zero => exact absurd he hz
    | succ i =>
      have hm := Nat.mod_lt a (show 0 < b by omega)
      exact hself i _ _ (by omega) ⟨b, a % b, rfl, rfl, by rw [gcd_stepN, hg], hb, by omega, he.resolve_left hz⟩
theorem shared_e (x y : Int64) (X Y : Nat) (hx : (if (0 : Int64) < x then x else -x) = lN X) (hy : (if (0 : Int64) < y then y else -y) = lN Y) (hX : X < 2 ^ 63) (hY : Y < 2 ^ 49) : X5_sharedDivisor x y = some (lN (Nat.gcd X Y)) := by
  unfold X5_sharedDivisor
  simp only [jn1]
  rw [hx, hy]
  refine wh3_wp (P := fun o => o = some (lN (Nat.gcd X Y))) (fun i u v s => ∃ a b t, u = lN a ∧ v = lN b ∧ s = nI t ∧ t + i ≤ 98 ∧ Nat.gcd a b = Nat.gcd X Y ∧ a < 2 ^ 63 ∧ b < 2 ^ 63 ∧ eu i a b) ?_ 200 (2 * 49) _ _ _ (by omega) ⟨X, Y, 0, rfl, rfl, rfl, by omega, rfl, hX, by omega, eu_bound 49 X Y hY⟩
  intro i u v s hI self hself
  obtain ⟨a, b, t, rfl, rfl, rfl, ht, hg, ha, hb, he⟩ := hI
  rw [if_neg (show ¬ (100 : Int32) ≤ nI t from nI_ge (show t < 100 by omega) (by decide))]
  by_cases hz : b = 0
  · subst hz
    rw [if_pos (show lN 0 = 0 from rfl), ← hg, Nat.gcd_zero_right]
  · rw [if_neg (lN_ne0 hz hb), chk_of (by simp [ne0l, lN_ne0 hz hb]), pk_lRem ha (by omega) hb]
    cases i with
    | zero => exact absurd he hz
    | succ i =>
      have hm := Nat.mod_lt a (show 0 < b by omega)
      exact hself i _ _ _ (by omega) ⟨b, a % b, t + 1, rfl, rfl, nI_1 t, by omega, by rw [gcd_stepN, hg], hb, by omega, he.resolve_left hz⟩
/-- in range for a long -/
def R64 (x : Int) : Prop := -9223372036854775808 < x ∧ x < 9223372036854775808
theorem of_t {x : Int} (h : R64 x) : (Int64.ofInt x).toInt = x := Int64.toInt_ofInt_of_le (by have := h.1; omega) (by have := h.2; omega)
theorem eq64 (x y : Int64) : x = y ↔ x.toInt = y.toInt := Int64.toInt_inj.symm
theorem le64 (x y : Int64) : x ≤ y ↔ x.toInt ≤ y.toInt := Int64.le_iff_toInt_le
theorem lt64 (x y : Int64) : x < y ↔ x.toInt < y.toInt := Int64.lt_iff_toInt_lt
theorem k0 : (0 : Int64).toInt = 0 := rfl
theorem bmod64 {z : Int} (h1 : -9223372036854775808 ≤ z) (h2 : z ≤ 9223372036854775807) : z.bmod (2 ^ 64) = z := by
  rw [Int.bmod_eq_of_le] <;> omega
theorem neg_t {x : Int64} (h : R64 x.toInt) : (-x).toInt = -x.toInt := by
  rw [Int64.toInt_neg]; exact bmod64 (by have := h.2; omega) (by have := h.1; omega)
theorem abs_m {x : Int} (h : R64 x) : (if (0 : Int64) ≤ Int64.ofInt x then Int64.ofInt x else -(Int64.ofInt x)) = lN x.natAbs := by
  have e := of_t h
  have h1 := h.1
  have h2 := h.2
  have en := neg_t (x := Int64.ofInt x) (by rw [e]; exact h)
  rw [eq64, pk_lT (by omega)]
  split
  · rename_i c
    rw [le64, e, k0] at c
    rw [e]; omega
  · rename_i c
    rw [le64, e, k0] at c
    rw [en, e]; omega
theorem abs_c {x : Int} (h : R64 x) : (if (0 : Int64) < Int64.ofInt x then Int64.ofInt x else -(Int64.ofInt x)) = lN x.natAbs := by
  have e := of_t h
  have h1 := h.1
  have h2 := h.2
  have en := neg_t (x := Int64.ofInt x) (by rw [e]; exact h)
  rw [eq64, pk_lT (by omega)]
  split
  · rename_i c
    rw [lt64, e, k0] at c
    rw [e]; omega
  · rename_i c
    rw [lt64, e, k0] at c
    rw [en, e]; omega
theorem div64 {x : Int} {n : Nat} (h : R64 x) (hn : 0 < n) (hn2 : n < 2 ^ 63) (hd : (n : Int) ∣ x) : Int64.ofInt x / lN n = Int64.ofInt (x / n) := by
  obtain ⟨y, rfl⟩ := hd
  have e : (n : Int) * y / n = y := Int.mul_ediv_cancel_left _ (by omega)
  have hy : R64 y := by
    have h1 := h.1
    have h2 := h.2
    have hn1 : (1 : Int) ≤ n := by omega
    rcases Int.le_total 0 y with c | c
    · have := Int.mul_le_mul_of_nonneg_right hn1 c
      exact ⟨by omega, by omega⟩
    · have h3 : (n : Int) * (-y) = -(n * y) := Int.mul_neg ..
      have := Int.mul_le_mul_of_nonneg_right hn1 (show 0 ≤ -y by omega)
      exact ⟨by omega, by omega⟩
  rw [e, eq64, Int64.toInt_div_of_ne_right _ _ (fun z => by
    have h1 := congrArg Int64.toInt z
    rw [pk_lT hn2] at h1
    have : (-1 : Int64).toInt = -1 := rfl
    omega), of_t h, pk_lT hn2, of_t hy]
  exact Int.mul_tdiv_cancel_left _ (by omega)
theorem gcd_pos' {x d : Int} (hd : 0 < d) : 0 < Int.gcd x d := Nat.gcd_pos_of_pos_right _ (by omega)
theorem gcd_le' {x d : Int} (hd : 0 < d) : (Int.gcd x d : Int) ≤ d := by
  have : Int.gcd x d ≤ d.natAbs := Nat.le_of_dvd (by omega) (Nat.gcd_dvd_right _ _)
  omega
theorem lowest_e {x d : Int} (hx : R64 x) (hd : 0 < d) (hd2 : R64 d) (p : Int32) : X6_lowest (Int64.ofInt x) (Int64.ofInt d) p = some (Int64.ofInt (if p = 0 then x / Int.gcd x d else d / Int.gcd x d)) := by
  have hp := gcd_pos' (x := x) hd
  have hl := gcd_le' (x := x) hd
  have h2 := hd2.2
  unfold X6_lowest
  rw [common_e _ _ _ _ (abs_m hx) (abs_m hd2) (by have := hx.1; have := hx.2; omega) (by omega), ob1_eq]
  have hne : ¬ lN (Nat.gcd x.natAbs d.natAbs) = 0 := lN_ne0 (by have : Nat.gcd x.natAbs d.natAbs = Int.gcd x d := rfl; omega) (by have : Nat.gcd x.natAbs d.natAbs = Int.gcd x d := rfl; omega)
  rw [chk_of (by simp [ne0l, hne]), chk_of (by simp [ne0l, hne])]
  show (if p = 0 then some (Int64.ofInt x / lN (Int.gcd x d)) else some (Int64.ofInt d / lN (Int.gcd x d))) = _
  rw [div64 hx hp (by omega) (Int.gcd_dvd_left ..), div64 hd2 hp (by omega) (Int.gcd_dvd_right ..)]
  split <;> rfl
theorem lowTerms_e {x d : Int} (hx : R64 x) (hd : 0 < d) (hd2 : d < 562949953421312) (p : Int32) : X5_inLowestTerms (Int64.ofInt x) (Int64.ofInt d) p = some (Int64.ofInt (if p = 0 then x / Int.gcd x d else d / Int.gcd x d)) := by
  have hp := gcd_pos' (x := x) hd
  have hl := gcd_le' (x := x) hd
  have hd3 : R64 d := ⟨by omega, by omega⟩
  unfold X5_inLowestTerms
  rw [shared_e _ _ _ _ (abs_c hx) (abs_c hd3) (by have := hx.1; have := hx.2; omega) (by omega), ob1_eq]
  have hne : ¬ lN (Nat.gcd x.natAbs d.natAbs) = 0 := lN_ne0 (by have : Nat.gcd x.natAbs d.natAbs = Int.gcd x d := rfl; omega) (by have : Nat.gcd x.natAbs d.natAbs = Int.gcd x d := rfl; omega)
  rw [if_neg hne, chk_of (by simp [ne0l, hne]), chk_of (by simp [ne0l, hne])]
  show (if p = 0 then some (Int64.ofInt x / lN (Int.gcd x d)) else some (Int64.ofInt d / lN (Int.gcd x d))) = _
  rw [div64 hx hp (by omega) (Int.gcd_dvd_left ..), div64 hd3 hp (by omega) (Int.gcd_dvd_right ..)]
  split <;> rfl
/-- the same fraction has the same lowest terms -/
theorem low_same {x d y e : Int} (hd : 0 < d) (he : 0 < e) (h : x * e = y * d) : x / Int.gcd x d = y / Int.gcd y e ∧ d / Int.gcd x d = e / Int.gcd y e := by
  have h1 : Int.gcd (x * e) (d * e) = Int.gcd x d * e.natAbs := Int.gcd_mul_right ..
  have h2 : Int.gcd (y * d) (e * d) = Int.gcd y e * d.natAbs := Int.gcd_mul_right ..
  rw [h, Int.mul_comm d e, h2] at h1
  have hg1 := gcd_pos' (x := x) hd
  have hg2 := gcd_pos' (x := y) he
  obtain ⟨x', hx'⟩ := Int.gcd_dvd_left x d
  obtain ⟨d', hd'⟩ := Int.gcd_dvd_right x d
  obtain ⟨y', hy'⟩ := Int.gcd_dvd_left y e
  obtain ⟨e', he'⟩ := Int.gcd_dvd_right y e
  have h3 : (Int.gcd y e : Int) * d = Int.gcd x d * e := by
    have : ((Int.gcd y e * d.natAbs : Nat) : Int) = ((Int.gcd x d * e.natAbs : Nat) : Int) := by rw [h1]
    rw [Int.natCast_mul, Int.natCast_mul] at this
    rwa [Int.natAbs_of_nonneg (by omega), Int.natAbs_of_nonneg (by omega)] at this
  generalize hga : (Int.gcd x d : Int) = ga at *
  generalize hgb : (Int.gcd y e : Int) = gb at *
  have ga0 : ga ≠ 0 := by omega
  have gb0 : gb ≠ 0 := by omega
  have hde : d' = e' := by
    rw [hd', he'] at h3
    have h4 : (ga * gb) * d' = (ga * gb) * e' := by grind
    exact Int.eq_of_mul_eq_mul_left (by simp [ga0, gb0]) h4
  have hxy : x' = y' := by
    have he0 : e' ≠ 0 := by intro z; rw [z] at he'; omega
    rw [hx', hy', hd', he', hde] at h
    have h4 : (ga * gb * e') * x' = (ga * gb * e') * y' := by grind
    exact Int.eq_of_mul_eq_mul_left (by simp [ga0, gb0, he0]) h4
  have q1 : x / ga = x' := by rw [hx']; exact Int.mul_ediv_cancel_left _ ga0
  have q2 : y / gb = y' := by rw [hy']; exact Int.mul_ediv_cancel_left _ gb0
  have q3 : d / ga = d' := by rw [hd']; exact Int.mul_ediv_cancel_left _ ga0
  have q4 : e / gb = e' := by rw [he']; exact Int.mul_ediv_cancel_left _ gb0
  rw [q1, q2, q3, q4]
  exact ⟨hxy, hde⟩
