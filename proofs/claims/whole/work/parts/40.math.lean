/-! ===== the mathematics of the best fit: determinants, positive definite forms, one best row, at least one best row ===== -/
def qd (a b c x0 x1 x2 x3 : Int) : Int := a*(x0*x0+x1*x1+x2*x2+x3*x3) + 2*b*(x0*x1+x1*x2+x2*x3) + 2*c*(x0*x2+x1*x3)
def PD (a b c : Int) : Prop := ∀ x0 x1 x2 x3 : Int, qd a b c x0 x1 x2 x3 ≤ 0 → x0 = 0 ∧ x1 = 0 ∧ x2 = 0 ∧ x3 = 0
def PSD (a b c : Int) : Prop := ∀ x0 x1 x2 x3 : Int, 0 ≤ qd a b c x0 x1 x2 x3
def qr (a b c x0 x1 x2 x3 : Rat) : Rat := a*(x0*x0+x1*x1+x2*x2+x3*x3) + 2*b*(x0*x1+x1*x2+x2*x3) + 2*c*(x0*x2+x1*x3)
def PSDr (a b c : Int) : Prop := ∀ x0 x1 x2 x3 : Rat, 0 ≤ qr a b c x0 x1 x2 x3
theorem sq_i (x : Int) : 0 ≤ x * x := by
  rcases Int.le_total 0 x with h | h
  · exact Int.mul_nonneg h h
  · exact Int.mul_nonneg_of_nonpos_of_nonpos h h
theorem sq_i0 {x : Int} (h : x * x = 0) : x = 0 := by
  rcases Int.mul_eq_zero.mp h with h | h <;> exact h
theorem sq_r (x : Rat) : 0 ≤ x * x := by
  rcases Rat.le_total (a := 0) (b := x) with h | h
  · exact Rat.mul_nonneg h h
  · have h2 : 0 ≤ -x := by grind
    have h3 := Rat.mul_nonneg h2 h2
    grind
theorem qd_storm (r0 r1 r2 x0 x1 x2 x3 : Int) : qd (r0*r0+r1*r1+r2*r2) (r0*r1+r1*r2) (r0*r2) x0 x1 x2 x3 = (r0*x0)*(r0*x0) + (r0*x1+r1*x0)*(r0*x1+r1*x0) + (r0*x2+r1*x1+r2*x0)*(r0*x2+r1*x1+r2*x0) + (r0*x3+r1*x2+r2*x1)*(r0*x3+r1*x2+r2*x1) + (r1*x3+r2*x2)*(r1*x3+r2*x2) + (r2*x3)*(r2*x3) := by
  unfold qd; grind
theorem psd_storm (r0 r1 r2 : Int) : PSD (r0*r0+r1*r1+r2*r2) (r0*r1+r1*r2) (r0*r2) := by
  intro x0 x1 x2 x3
  rw [qd_storm]
  have h1 := sq_i (r0*x0)
  have h2 := sq_i (r0*x1+r1*x0)
  have h3 := sq_i (r0*x2+r1*x1+r2*x0)
  have h4 := sq_i (r0*x3+r1*x2+r2*x1)
  have h5 := sq_i (r1*x3+r2*x2)
  have h6 := sq_i (r2*x3)
  omega
theorem pd_storm (r0 r1 r2 : Int) (h0 : r0 ≠ 0) : PD (r0*r0+r1*r1+r2*r2) (r0*r1+r1*r2) (r0*r2) := by
  intro x0 x1 x2 x3 h
  rw [qd_storm] at h
  have h1 := sq_i (r0*x0)
  have h2 := sq_i (r0*x1+r1*x0)
  have h3 := sq_i (r0*x2+r1*x1+r2*x0)
  have h4 := sq_i (r0*x3+r1*x2+r2*x1)
  have h5 := sq_i (r1*x3+r2*x2)
  have h6 := sq_i (r2*x3)
  have e1 : r0*x0 = 0 := sq_i0 (by omega)
  have e2 : r0*x1+r1*x0 = 0 := sq_i0 (by omega)
  have e3 : r0*x2+r1*x1+r2*x0 = 0 := sq_i0 (by omega)
  have e4 : r0*x3+r1*x2+r2*x1 = 0 := sq_i0 (by omega)
  have z0 : x0 = 0 := (Int.mul_eq_zero.mp e1).resolve_left h0
  subst z0
  rw [Int.mul_zero, Int.add_zero] at e2
  have z1 : x1 = 0 := (Int.mul_eq_zero.mp e2).resolve_left h0
  subst z1
  rw [Int.mul_zero, Int.mul_zero, Int.add_zero, Int.add_zero] at e3
  have z2 : x2 = 0 := (Int.mul_eq_zero.mp e3).resolve_left h0
  subst z2
  rw [Int.mul_zero, Int.mul_zero, Int.add_zero, Int.add_zero] at e4
  exact ⟨rfl, rfl, rfl, (Int.mul_eq_zero.mp e4).resolve_left h0⟩
theorem qd_add (a b c a' b' c' x0 x1 x2 x3 : Int) : qd (a+a') (b+b') (c+c') x0 x1 x2 x3 = qd a b c x0 x1 x2 x3 + qd a' b' c' x0 x1 x2 x3 := by unfold qd; grind
theorem psd_add {a b c a' b' c' : Int} (h : PSD a b c) (h' : PSD a' b' c') : PSD (a+a') (b+b') (c+c') := fun x0 x1 x2 x3 => by
  rw [qd_add]; exact Int.add_nonneg (h x0 x1 x2 x3) (h' x0 x1 x2 x3)
theorem pd_add {a b c a' b' c' : Int} (h : PSD a b c) (h' : PD a' b' c') : PD (a+a') (b+b') (c+c') := fun x0 x1 x2 x3 hq => by
  rw [qd_add] at hq
  have := h x0 x1 x2 x3
  exact h' x0 x1 x2 x3 (by omega)
theorem pd_add' {a b c a' b' c' : Int} (h : PD a b c) (h' : PSD a' b' c') : PD (a+a') (b+b') (c+c') := fun x0 x1 x2 x3 hq => by
  rw [qd_add] at hq
  have := h' x0 x1 x2 x3
  exact h x0 x1 x2 x3 (by omega)
theorem psdr_storm (r0 r1 r2 : Int) : PSDr (r0*r0+r1*r1+r2*r2) (r0*r1+r1*r2) (r0*r2) := by
  intro x0 x1 x2 x3
  simp only [Rat.intCast_add, Rat.intCast_mul]
  generalize (r0 : Rat) = s0
  generalize (r1 : Rat) = s1
  generalize (r2 : Rat) = s2
  have e : qr (s0*s0+s1*s1+s2*s2) (s0*s1+s1*s2) (s0*s2) x0 x1 x2 x3 = (s0*x0)*(s0*x0) + (s0*x1+s1*x0)*(s0*x1+s1*x0) + (s0*x2+s1*x1+s2*x0)*(s0*x2+s1*x1+s2*x0) + (s0*x3+s1*x2+s2*x1)*(s0*x3+s1*x2+s2*x1) + (s1*x3+s2*x2)*(s1*x3+s2*x2) + (s2*x3)*(s2*x3) := by unfold qr; grind
  rw [e]
  have h1 := sq_r (s0*x0)
  have h2 := sq_r (s0*x1+s1*x0)
  have h3 := sq_r (s0*x2+s1*x1+s2*x0)
  have h4 := sq_r (s0*x3+s1*x2+s2*x1)
  have h5 := sq_r (s1*x3+s2*x2)
  have h6 := sq_r (s2*x3)
  generalize (s0*x0)*(s0*x0) = y1 at *
  generalize (s0*x1+s1*x0)*(s0*x1+s1*x0) = y2 at *
  generalize (s0*x2+s1*x1+s2*x0)*(s0*x2+s1*x1+s2*x0) = y3 at *
  generalize (s0*x3+s1*x2+s2*x1)*(s0*x3+s1*x2+s2*x1) = y4 at *
  generalize (s1*x3+s2*x2)*(s1*x3+s2*x2) = y5 at *
  generalize (s2*x3)*(s2*x3) = y6 at *
  grind
theorem psdr_add {a b c a' b' c' : Int} (h : PSDr a b c) (h' : PSDr a' b' c') : PSDr (a+a') (b+b') (c+c') := fun x0 x1 x2 x3 => by
  have e : qr ((a + a' : Int) : Rat) ((b + b' : Int) : Rat) ((c + c' : Int) : Rat) x0 x1 x2 x3 = qr a b c x0 x1 x2 x3 + qr a' b' c' x0 x1 x2 x3 := by
    simp only [Rat.intCast_add]; unfold qr; grind
  rw [e]
  have h1 := h x0 x1 x2 x3
  have h2 := h' x0 x1 x2 x3
  grind
/-- rows of four, by their free places -/
def ds (i j : Nat) : Nat := if i ≤ j then j - i else i - j
def ent (g bb : Nat → Int) (fr : Nat → Bool) (w r c : Nat) : Int := if c = w then (if fr r = true then bb r else 0) else if fr r = true ∧ fr c = true then g (ds r c) else if r = c then 1 else 0
def det4 (m : Nat → Nat → Int) : Int :=
  (m 0 0 * m 1 1 - m 0 1 * m 1 0) * (m 2 2 * m 3 3 - m 2 3 * m 3 2) - (m 0 0 * m 1 2 - m 0 2 * m 1 0) * (m 2 1 * m 3 3 - m 2 3 * m 3 1) + (m 0 0 * m 1 3 - m 0 3 * m 1 0) * (m 2 1 * m 3 2 - m 2 2 * m 3 1) + (m 0 1 * m 1 2 - m 0 2 * m 1 1) * (m 2 0 * m 3 3 - m 2 3 * m 3 0) - (m 0 1 * m 1 3 - m 0 3 * m 1 1) * (m 2 0 * m 3 2 - m 2 2 * m 3 0) + (m 0 2 * m 1 3 - m 0 3 * m 1 2) * (m 2 0 * m 3 1 - m 2 1 * m 3 0)
def DF (g bb : Nat → Int) (fr : Nat → Bool) : Int := det4 (ent g bb fr 4)
def NF (g bb : Nat → Int) (fr : Nat → Bool) (k : Nat) : Int := if fr k = true then det4 (ent g bb fr k) else 0
/-- what presses at k -/
def pressI (g bb N : Nat → Int) (D : Int) (k : Nat) : Int := g (ds k 0) * N 0 + g (ds k 1) * N 1 + g (ds k 2) * N 2 + g (ds k 3) * N 3 - bb k * D
theorem sys0 (g bb : Nat → Int) (fr : Nat → Bool) (h : fr 0 = true) : pressI g bb (NF g bb fr) (DF g bb fr) 0 = 0 := by
  cases h1 : fr 1 <;> cases h2 : fr 2 <;> cases h3 : fr 3 <;> simp [pressI, NF, DF, det4, ent, ds, h, h1, h2, h3] <;> grind
theorem sys1 (g bb : Nat → Int) (fr : Nat → Bool) (h : fr 1 = true) : pressI g bb (NF g bb fr) (DF g bb fr) 1 = 0 := by
  cases h1 : fr 0 <;> cases h2 : fr 2 <;> cases h3 : fr 3 <;> simp [pressI, NF, DF, det4, ent, ds, h, h1, h2, h3] <;> grind
theorem sys2 (g bb : Nat → Int) (fr : Nat → Bool) (h : fr 2 = true) : pressI g bb (NF g bb fr) (DF g bb fr) 2 = 0 := by
  cases h1 : fr 0 <;> cases h2 : fr 1 <;> cases h3 : fr 3 <;> simp [pressI, NF, DF, det4, ent, ds, h, h1, h2, h3] <;> grind
theorem sys3 (g bb : Nat → Int) (fr : Nat → Bool) (h : fr 3 = true) : pressI g bb (NF g bb fr) (DF g bb fr) 3 = 0 := by
  cases h1 : fr 0 <;> cases h2 : fr 1 <;> cases h3 : fr 2 <;> simp [pressI, NF, DF, det4, ent, ds, h, h1, h2, h3] <;> grind
theorem lt4 {P : Nat → Prop} (h0 : P 0) (h1 : P 1) (h2 : P 2) (h3 : P 3) : ∀ k, k < 4 → P k := by
  intro k hk
  match k, hk with
  | 0, _ => exact h0
  | 1, _ => exact h1
  | 2, _ => exact h2
  | 3, _ => exact h3
theorem sysF (g bb : Nat → Int) (fr : Nat → Bool) : ∀ k, k < 4 → fr k = true → pressI g bb (NF g bb fr) (DF g bb fr) k = 0 :=
  lt4 (sys0 g bb fr) (sys1 g bb fr) (sys2 g bb fr) (sys3 g bb fr)
/-- all principal determinants are above 0 -/
theorem pos_of {m d : Int} (hm : 0 < m) (h : 0 < m * d) : 0 < d := by
  rcases Int.lt_or_le 0 d with h2 | h2
  · exact h2
  · have := Int.mul_nonpos_of_nonneg_of_nonpos (Int.le_of_lt hm) h2
    omega
theorem pd_pos {a b c : Int} (h : PD a b c) (x0 x1 x2 x3 : Int) (hx : x0 ≠ 0 ∨ x1 ≠ 0 ∨ x2 ≠ 0 ∨ x3 ≠ 0) : 0 < qd a b c x0 x1 x2 x3 := by
  rcases Int.lt_or_le 0 (qd a b c x0 x1 x2 x3) with h2 | h2
  · exact h2
  · obtain ⟨e0, e1, e2, e3⟩ := h x0 x1 x2 x3 h2
    rcases hx with hx | hx | hx | hx <;> contradiction
theorem pd_a {a b c : Int} (h : PD a b c) : 0 < a := by
  have := pd_pos h 1 0 0 0 (Or.inl (by decide))
  unfold qd at this
  omega
theorem pd_ab {a b c : Int} (h : PD a b c) : 0 < a*a - b*b := by
  have ha := pd_a h
  refine pos_of ha ?_
  have := pd_pos h (-b) a 0 0 (Or.inr (Or.inl (by omega)))
  have e : qd a b c (-b) a 0 0 = a * (a*a - b*b) := by unfold qd; grind
  rwa [e] at this
theorem pd_ac {a b c : Int} (h : PD a b c) : 0 < a*a - c*c := by
  have ha := pd_a h
  refine pos_of ha ?_
  have := pd_pos h (-c) 0 a 0 (Or.inr (Or.inr (Or.inl (by omega))))
  have e : qd a b c (-c) 0 a 0 = a * (a*a - c*c) := by unfold qd; grind
  rwa [e] at this
theorem pd_012 {a b c : Int} (h : PD a b c) : 0 < a*(a*a-b*b) - b*(b*a-b*c) + c*(b*b-a*c) := by
  have ha := pd_ab h
  refine pos_of ha ?_
  have := pd_pos h (b*b-a*c) (b*c-a*b) (a*a-b*b) 0 (Or.inr (Or.inr (Or.inl (by omega))))
  have e : qd a b c (b*b-a*c) (b*c-a*b) (a*a-b*b) 0 = (a*a - b*b) * (a*(a*a-b*b) - b*(b*a-b*c) + c*(b*b-a*c)) := by unfold qd; grind
  rwa [e] at this
/-- places 0, 1, 3 -/
theorem pd_013 {a b c : Int} (h : PD a b c) : 0 < a*(a*a-c*c) - b*(b*a) := by
  have ha := pd_ab h
  refine pos_of ha ?_
  have := pd_pos h (b*c) (-(a*c)) 0 (a*a-b*b) (Or.inr (Or.inr (Or.inr (by omega))))
  have e : qd a b c (b*c) (-(a*c)) 0 (a*a-b*b) = (a*a - b*b) * (a*(a*a-c*c) - b*(b*a)) := by unfold qd; grind
  rwa [e] at this
/-- places 0, 2, 3 -/
theorem pd_023 {a b c : Int} (h : PD a b c) : 0 < a*(a*a-b*b) - c*(c*a) := by
  have ha := pd_ac h
  refine pos_of ha ?_
  have := pd_pos h (b*c) 0 (-(a*b)) (a*a-c*c) (Or.inr (Or.inr (Or.inr (by omega))))
  have e : qd a b c (b*c) 0 (-(a*b)) (a*a-c*c) = (a*a - c*c) * (a*(a*a-b*b) - c*(c*a)) := by unfold qd; grind
  rwa [e] at this
def d4 (a b c : Int) : Int := a*a*a*a - 3*a*a*b*b - 2*a*a*c*c + 4*a*b*b*c + b*b*b*b - 2*b*b*c*c + c*c*c*c
theorem pd_0123 {a b c : Int} (h : PD a b c) : 0 < d4 a b c := by
  have ha := pd_012 h
  refine pos_of ha ?_
  have := pd_pos h (-(b*(b*b-a*c) - c*(a*b-b*c))) (a*(b*b-a*c)-c*(b*b-c*c)+0) (-(a*(a*b-b*c)-b*(b*b-c*c)+0)) (a*(a*a-b*b) - b*(b*a-b*c) + c*(b*b-a*c)) (Or.inr (Or.inr (Or.inr (by omega))))
  have e : qd a b c (-(b*(b*b-a*c) - c*(a*b-b*c))) (a*(b*b-a*c)-c*(b*b-c*c)+0) (-(a*(a*b-b*c)-b*(b*b-c*c)+0)) (a*(a*a-b*b) - b*(b*a-b*c) + c*(b*b-a*c)) = (a*(a*a-b*b) - b*(b*a-b*c) + c*(b*b-a*c)) * d4 a b c := by unfold qd d4; grind
  rwa [e] at this
