theorem wh1_s {A1 R : Type} (body : (A1 → Option R) → A1 → Option R) (n : Nat) (a1 : A1) : wh1 body (n + 1) a1 = body (wh1 body n) a1 := rfl
theorem wh1_for {A1 R : Type} {body : (A1 → Option R) → A1 → Option R} {P : Option R → Prop} (N : Nat) (Inv : Nat → A1 → Prop) (hs : ∀ (i : Nat) (a1 : A1), i < N → Inv i a1 → ∀ self : A1 → Option R, (∀ b1, Inv (i + 1) b1 → P (self b1)) → P (body self a1)) (hx : ∀ (a1 : A1), Inv N a1 → ∀ self : A1 → Option R, P (body self a1)) : ∀ (n i : Nat) (a1 : A1), i ≤ N → N < i + n → Inv i a1 → P (wh1 body n a1) := by
  intro n
  induction n with
  | zero => intro i a1 h1 h2; omega
  | succ n ih =>
    intro i a1 h1 h2 hI
    show P (body (wh1 body n) a1)
    rcases Nat.lt_or_ge i N with hl | hl
    · exact hs i a1 hl hI _ (fun b1 hb => ih (i + 1) b1 hl (by omega) hb)
    · have e : i = N := Nat.le_antisymm h1 hl
      subst e; exact hx a1 hI _
theorem wh1_wp {A1 R : Type} {body : (A1 → Option R) → A1 → Option R} {P : Option R → Prop} (Inv : Nat → A1 → Prop) (hs : ∀ (i : Nat) (a1 : A1), Inv i a1 → ∀ self : A1 → Option R, (∀ (j : Nat) (b1 : A1), j < i → Inv j b1 → P (self b1)) → P (body self a1)) : ∀ (n i : Nat) (a1 : A1), i < n → Inv i a1 → P (wh1 body n a1) := by
  intro n
  induction n with
  | zero => intro i a1 h1; omega
  | succ n ih =>
    intro i a1 h1 hI
    exact hs i a1 hI _ (fun j b1 hj hb => ih j b1 (by omega) hb)
theorem wh2_s {A1 A2 R : Type} (body : (A1 → A2 → Option R) → A1 → A2 → Option R) (n : Nat) (a1 : A1) (a2 : A2) : wh2 body (n + 1) a1 a2 = body (wh2 body n) a1 a2 := rfl
theorem wh2_for {A1 A2 R : Type} {body : (A1 → A2 → Option R) → A1 → A2 → Option R} {P : Option R → Prop} (N : Nat) (Inv : Nat → A1 → A2 → Prop) (hs : ∀ (i : Nat) (a1 : A1) (a2 : A2), i < N → Inv i a1 a2 → ∀ self : A1 → A2 → Option R, (∀ b1 b2, Inv (i + 1) b1 b2 → P (self b1 b2)) → P (body self a1 a2)) (hx : ∀ (a1 : A1) (a2 : A2), Inv N a1 a2 → ∀ self : A1 → A2 → Option R, P (body self a1 a2)) : ∀ (n i : Nat) (a1 : A1) (a2 : A2), i ≤ N → N < i + n → Inv i a1 a2 → P (wh2 body n a1 a2) := by
  intro n
  induction n with
  | zero => intro i a1 a2 h1 h2; omega
  | succ n ih =>
    intro i a1 a2 h1 h2 hI
    show P (body (wh2 body n) a1 a2)
    rcases Nat.lt_or_ge i N with hl | hl
    · exact hs i a1 a2 hl hI _ (fun b1 b2 hb => ih (i + 1) b1 b2 hl (by omega) hb)
    · have e : i = N := Nat.le_antisymm h1 hl
      subst e; exact hx a1 a2 hI _
theorem wh2_wp {A1 A2 R : Type} {body : (A1 → A2 → Option R) → A1 → A2 → Option R} {P : Option R → Prop} (Inv : Nat → A1 → A2 → Prop) (hs : ∀ (i : Nat) (a1 : A1) (a2 : A2), Inv i a1 a2 → ∀ self : A1 → A2 → Option R, (∀ (j : Nat) (b1 : A1) (b2 : A2), j < i → Inv j b1 b2 → P (self b1 b2)) → P (body self a1 a2)) : ∀ (n i : Nat) (a1 : A1) (a2 : A2), i < n → Inv i a1 a2 → P (wh2 body n a1 a2) := by
  intro n
  induction n with
  | zero => intro i a1 a2 h1; omega
  | succ n ih =>
    intro i a1 a2 h1 hI
    exact hs i a1 a2 hI _ (fun j b1 b2 hj hb => ih j b1 b2 (by omega) hb)
theorem wh3_s {A1 A2 A3 R : Type} (body : (A1 → A2 → A3 → Option R) → A1 → A2 → A3 → Option R) (n : Nat) (a1 : A1) (a2 : A2) (a3 : A3) : wh3 body (n + 1) a1 a2 a3 = body (wh3 body n) a1 a2 a3 := rfl
theorem wh3_for {A1 A2 A3 R : Type} {body : (A1 → A2 → A3 → Option R) → A1 → A2 → A3 → Option R} {P : Option R → Prop} (N : Nat) (Inv : Nat → A1 → A2 → A3 → Prop) (hs : ∀ (i : Nat) (a1 : A1) (a2 : A2) (a3 : A3), i < N → Inv i a1 a2 a3 → ∀ self : A1 → A2 → A3 → Option R, (∀ b1 b2 b3, Inv (i + 1) b1 b2 b3 → P (self b1 b2 b3)) → P (body self a1 a2 a3)) (hx : ∀ (a1 : A1) (a2 : A2) (a3 : A3), Inv N a1 a2 a3 → ∀ self : A1 → A2 → A3 → Option R, P (body self a1 a2 a3)) : ∀ (n i : Nat) (a1 : A1) (a2 : A2) (a3 : A3), i ≤ N → N < i + n → Inv i a1 a2 a3 → P (wh3 body n a1 a2 a3) := by
  intro n
  induction n with
  | zero => intro i a1 a2 a3 h1 h2; omega
  | succ n ih =>
    intro i a1 a2 a3 h1 h2 hI
    show P (body (wh3 body n) a1 a2 a3)
    rcases Nat.lt_or_ge i N with hl | hl
    · exact hs i a1 a2 a3 hl hI _ (fun b1 b2 b3 hb => ih (i + 1) b1 b2 b3 hl (by omega) hb)
    · have e : i = N := Nat.le_antisymm h1 hl
      subst e; exact hx a1 a2 a3 hI _
theorem wh3_wp {A1 A2 A3 R : Type} {body : (A1 → A2 → A3 → Option R) → A1 → A2 → A3 → Option R} {P : Option R → Prop} (Inv : Nat → A1 → A2 → A3 → Prop) (hs : ∀ (i : Nat) (a1 : A1) (a2 : A2) (a3 : A3), Inv i a1 a2 a3 → ∀ self : A1 → A2 → A3 → Option R, (∀ (j : Nat) (b1 : A1) (b2 : A2) (b3 : A3), j < i → Inv j b1 b2 b3 → P (self b1 b2 b3)) → P (body self a1 a2 a3)) : ∀ (n i : Nat) (a1 : A1) (a2 : A2) (a3 : A3), i < n → Inv i a1 a2 a3 → P (wh3 body n a1 a2 a3) := by
  intro n
  induction n with
  | zero => intro i a1 a2 a3 h1; omega
  | succ n ih =>
    intro i a1 a2 a3 h1 hI
    exact hs i a1 a2 a3 hI _ (fun j b1 b2 b3 hj hb => ih j b1 b2 b3 (by omega) hb)
theorem wh4_s {A1 A2 A3 A4 R : Type} (body : (A1 → A2 → A3 → A4 → Option R) → A1 → A2 → A3 → A4 → Option R) (n : Nat) (a1 : A1) (a2 : A2) (a3 : A3) (a4 : A4) : wh4 body (n + 1) a1 a2 a3 a4 = body (wh4 body n) a1 a2 a3 a4 := rfl
theorem wh4_for {A1 A2 A3 A4 R : Type} {body : (A1 → A2 → A3 → A4 → Option R) → A1 → A2 → A3 → A4 → Option R} {P : Option R → Prop} (N : Nat) (Inv : Nat → A1 → A2 → A3 → A4 → Prop) (hs : ∀ (i : Nat) (a1 : A1) (a2 : A2) (a3 : A3) (a4 : A4), i < N → Inv i a1 a2 a3 a4 → ∀ self : A1 → A2 → A3 → A4 → Option R, (∀ b1 b2 b3 b4, Inv (i + 1) b1 b2 b3 b4 → P (self b1 b2 b3 b4)) → P (body self a1 a2 a3 a4)) (hx : ∀ (a1 : A1) (a2 : A2) (a3 : A3) (a4 : A4), Inv N a1 a2 a3 a4 → ∀ self : A1 → A2 → A3 → A4 → Option R, P (body self a1 a2 a3 a4)) : ∀ (n i : Nat) (a1 : A1) (a2 : A2) (a3 : A3) (a4 : A4), i ≤ N → N < i + n → Inv i a1 a2 a3 a4 → P (wh4 body n a1 a2 a3 a4) := by
  intro n
  induction n with
  | zero => intro i a1 a2 a3 a4 h1 h2; omega
  | succ n ih =>
    intro i a1 a2 a3 a4 h1 h2 hI
    show P (body (wh4 body n) a1 a2 a3 a4)
    rcases Nat.lt_or_ge i N with hl | hl
    · exact hs i a1 a2 a3 a4 hl hI _ (fun b1 b2 b3 b4 hb => ih (i + 1) b1 b2 b3 b4 hl (by omega) hb)
    · have e : i = N := Nat.le_antisymm h1 hl
      subst e; exact hx a1 a2 a3 a4 hI _
theorem wh4_wp {A1 A2 A3 A4 R : Type} {body : (A1 → A2 → A3 → A4 → Option R) → A1 → A2 → A3 → A4 → Option R} {P : Option R → Prop} (Inv : Nat → A1 → A2 → A3 → A4 → Prop) (hs : ∀ (i : Nat) (a1 : A1) (a2 : A2) (a3 : A3) (a4 : A4), Inv i a1 a2 a3 a4 → ∀ self : A1 → A2 → A3 → A4 → Option R, (∀ (j : Nat) (b1 : A1) (b2 : A2) (b3 : A3) (b4 : A4), j < i → Inv j b1 b2 b3 b4 → P (self b1 b2 b3 b4)) → P (body self a1 a2 a3 a4)) : ∀ (n i : Nat) (a1 : A1) (a2 : A2) (a3 : A3) (a4 : A4), i < n → Inv i a1 a2 a3 a4 → P (wh4 body n a1 a2 a3 a4) := by
  intro n
  induction n with
  | zero => intro i a1 a2 a3 a4 h1; omega
  | succ n ih =>
    intro i a1 a2 a3 a4 h1 hI
    exact hs i a1 a2 a3 a4 hI _ (fun j b1 b2 b3 b4 hj hb => ih j b1 b2 b3 b4 (by omega) hb)
theorem wh5_s {A1 A2 A3 A4 A5 R : Type} (body : (A1 → A2 → A3 → A4 → A5 → Option R) → A1 → A2 → A3 → A4 → A5 → Option R) (n : Nat) (a1 : A1) (a2 : A2) (a3 : A3) (a4 : A4) (a5 : A5) : wh5 body (n + 1) a1 a2 a3 a4 a5 = body (wh5 body n) a1 a2 a3 a4 a5 := rfl
theorem wh5_for {A1 A2 A3 A4 A5 R : Type} {body : (A1 → A2 → A3 → A4 → A5 → Option R) → A1 → A2 → A3 → A4 → A5 → Option R} {P : Option R → Prop} (N : Nat) (Inv : Nat → A1 → A2 → A3 → A4 → A5 → Prop) (hs : ∀ (i : Nat) (a1 : A1) (a2 : A2) (a3 : A3) (a4 : A4) (a5 : A5), i < N → Inv i a1 a2 a3 a4 a5 → ∀ self : A1 → A2 → A3 → A4 → A5 → Option R, (∀ b1 b2 b3 b4 b5, Inv (i + 1) b1 b2 b3 b4 b5 → P (self b1 b2 b3 b4 b5)) → P (body self a1 a2 a3 a4 a5)) (hx : ∀ (a1 : A1) (a2 : A2) (a3 : A3) (a4 : A4) (a5 : A5), Inv N a1 a2 a3 a4 a5 → ∀ self : A1 → A2 → A3 → A4 → A5 → Option R, P (body self a1 a2 a3 a4 a5)) : ∀ (n i : Nat) (a1 : A1) (a2 : A2) (a3 : A3) (a4 : A4) (a5 : A5), i ≤ N → N < i + n → Inv i a1 a2 a3 a4 a5 → P (wh5 body n a1 a2 a3 a4 a5) := by
  intro n
  induction n with
  | zero => intro i a1 a2 a3 a4 a5 h1 h2; omega
  | succ n ih =>
    intro i a1 a2 a3 a4 a5 h1 h2 hI
    show P (body (wh5 body n) a1 a2 a3 a4 a5)
    rcases Nat.lt_or_ge i N with hl | hl
    · exact hs i a1 a2 a3 a4 a5 hl hI _ (fun b1 b2 b3 b4 b5 hb => ih (i + 1) b1 b2 b3 b4 b5 hl (by omega) hb)
    · have e : i = N := Nat.le_antisymm h1 hl
      subst e; exact hx a1 a2 a3 a4 a5 hI _
theorem wh5_wp {A1 A2 A3 A4 A5 R : Type} {body : (A1 → A2 → A3 → A4 → A5 → Option R) → A1 → A2 → A3 → A4 → A5 → Option R} {P : Option R → Prop} (Inv : Nat → A1 → A2 → A3 → A4 → A5 → Prop) (hs : ∀ (i : Nat) (a1 : A1) (a2 : A2) (a3 : A3) (a4 : A4) (a5 : A5), Inv i a1 a2 a3 a4 a5 → ∀ self : A1 → A2 → A3 → A4 → A5 → Option R, (∀ (j : Nat) (b1 : A1) (b2 : A2) (b3 : A3) (b4 : A4) (b5 : A5), j < i → Inv j b1 b2 b3 b4 b5 → P (self b1 b2 b3 b4 b5)) → P (body self a1 a2 a3 a4 a5)) : ∀ (n i : Nat) (a1 : A1) (a2 : A2) (a3 : A3) (a4 : A4) (a5 : A5), i < n → Inv i a1 a2 a3 a4 a5 → P (wh5 body n a1 a2 a3 a4 a5) := by
  intro n
  induction n with
  | zero => intro i a1 a2 a3 a4 a5 h1; omega
  | succ n ih =>
    intro i a1 a2 a3 a4 a5 h1 hI
    exact hs i a1 a2 a3 a4 a5 hI _ (fun j b1 b2 b3 b4 b5 hj hb => ih j b1 b2 b3 b4 b5 (by omega) hb)
theorem wh6_s {A1 A2 A3 A4 A5 A6 R : Type} (body : (A1 → A2 → A3 → A4 → A5 → A6 → Option R) → A1 → A2 → A3 → A4 → A5 → A6 → Option R) (n : Nat) (a1 : A1) (a2 : A2) (a3 : A3) (a4 : A4) (a5 : A5) (a6 : A6) : wh6 body (n + 1) a1 a2 a3 a4 a5 a6 = body (wh6 body n) a1 a2 a3 a4 a5 a6 := rfl
theorem wh6_for {A1 A2 A3 A4 A5 A6 R : Type} {body : (A1 → A2 → A3 → A4 → A5 → A6 → Option R) → A1 → A2 → A3 → A4 → A5 → A6 → Option R} {P : Option R → Prop} (N : Nat) (Inv : Nat → A1 → A2 → A3 → A4 → A5 → A6 → Prop) (hs : ∀ (i : Nat) (a1 : A1) (a2 : A2) (a3 : A3) (a4 : A4) (a5 : A5) (a6 : A6), i < N → Inv i a1 a2 a3 a4 a5 a6 → ∀ self : A1 → A2 → A3 → A4 → A5 → A6 → Option R, (∀ b1 b2 b3 b4 b5 b6, Inv (i + 1) b1 b2 b3 b4 b5 b6 → P (self b1 b2 b3 b4 b5 b6)) → P (body self a1 a2 a3 a4 a5 a6)) (hx : ∀ (a1 : A1) (a2 : A2) (a3 : A3) (a4 : A4) (a5 : A5) (a6 : A6), Inv N a1 a2 a3 a4 a5 a6 → ∀ self : A1 → A2 → A3 → A4 → A5 → A6 → Option R, P (body self a1 a2 a3 a4 a5 a6)) : ∀ (n i : Nat) (a1 : A1) (a2 : A2) (a3 : A3) (a4 : A4) (a5 : A5) (a6 : A6), i ≤ N → N < i + n → Inv i a1 a2 a3 a4 a5 a6 → P (wh6 body n a1 a2 a3 a4 a5 a6) := by
  intro n
  induction n with
  | zero => intro i a1 a2 a3 a4 a5 a6 h1 h2; omega
  | succ n ih =>
    intro i a1 a2 a3 a4 a5 a6 h1 h2 hI
    show P (body (wh6 body n) a1 a2 a3 a4 a5 a6)
    rcases Nat.lt_or_ge i N with hl | hl
    · exact hs i a1 a2 a3 a4 a5 a6 hl hI _ (fun b1 b2 b3 b4 b5 b6 hb => ih (i + 1) b1 b2 b3 b4 b5 b6 hl (by omega) hb)
    · have e : i = N := Nat.le_antisymm h1 hl
      subst e; exact hx a1 a2 a3 a4 a5 a6 hI _
theorem wh6_wp {A1 A2 A3 A4 A5 A6 R : Type} {body : (A1 → A2 → A3 → A4 → A5 → A6 → Option R) → A1 → A2 → A3 → A4 → A5 → A6 → Option R} {P : Option R → Prop} (Inv : Nat → A1 → A2 → A3 → A4 → A5 → A6 → Prop) (hs : ∀ (i : Nat) (a1 : A1) (a2 : A2) (a3 : A3) (a4 : A4) (a5 : A5) (a6 : A6), Inv i a1 a2 a3 a4 a5 a6 → ∀ self : A1 → A2 → A3 → A4 → A5 → A6 → Option R, (∀ (j : Nat) (b1 : A1) (b2 : A2) (b3 : A3) (b4 : A4) (b5 : A5) (b6 : A6), j < i → Inv j b1 b2 b3 b4 b5 b6 → P (self b1 b2 b3 b4 b5 b6)) → P (body self a1 a2 a3 a4 a5 a6)) : ∀ (n i : Nat) (a1 : A1) (a2 : A2) (a3 : A3) (a4 : A4) (a5 : A5) (a6 : A6), i < n → Inv i a1 a2 a3 a4 a5 a6 → P (wh6 body n a1 a2 a3 a4 a5 a6) := by
  intro n
  induction n with
  | zero => intro i a1 a2 a3 a4 a5 a6 h1; omega
  | succ n ih =>
    intro i a1 a2 a3 a4 a5 a6 h1 hI
    exact hs i a1 a2 a3 a4 a5 a6 hI _ (fun j b1 b2 b3 b4 b5 b6 hj hb => ih j b1 b2 b3 b4 b5 b6 (by omega) hb)
theorem wh7_s {A1 A2 A3 A4 A5 A6 A7 R : Type} (body : (A1 → A2 → A3 → A4 → A5 → A6 → A7 → Option R) → A1 → A2 → A3 → A4 → A5 → A6 → A7 → Option R) (n : Nat) (a1 : A1) (a2 : A2) (a3 : A3) (a4 : A4) (a5 : A5) (a6 : A6) (a7 : A7) : wh7 body (n + 1) a1 a2 a3 a4 a5 a6 a7 = body (wh7 body n) a1 a2 a3 a4 a5 a6 a7 := rfl
theorem wh7_for {A1 A2 A3 A4 A5 A6 A7 R : Type} {body : (A1 → A2 → A3 → A4 → A5 → A6 → A7 → Option R) → A1 → A2 → A3 → A4 → A5 → A6 → A7 → Option R} {P : Option R → Prop} (N : Nat) (Inv : Nat → A1 → A2 → A3 → A4 → A5 → A6 → A7 → Prop) (hs : ∀ (i : Nat) (a1 : A1) (a2 : A2) (a3 : A3) (a4 : A4) (a5 : A5) (a6 : A6) (a7 : A7), i < N → Inv i a1 a2 a3 a4 a5 a6 a7 → ∀ self : A1 → A2 → A3 → A4 → A5 → A6 → A7 → Option R, (∀ b1 b2 b3 b4 b5 b6 b7, Inv (i + 1) b1 b2 b3 b4 b5 b6 b7 → P (self b1 b2 b3 b4 b5 b6 b7)) → P (body self a1 a2 a3 a4 a5 a6 a7)) (hx : ∀ (a1 : A1) (a2 : A2) (a3 : A3) (a4 : A4) (a5 : A5) (a6 : A6) (a7 : A7), Inv N a1 a2 a3 a4 a5 a6 a7 → ∀ self : A1 → A2 → A3 → A4 → A5 → A6 → A7 → Option R, P (body self a1 a2 a3 a4 a5 a6 a7)) : ∀ (n i : Nat) (a1 : A1) (a2 : A2) (a3 : A3) (a4 : A4) (a5 : A5) (a6 : A6) (a7 : A7), i ≤ N → N < i + n → Inv i a1 a2 a3 a4 a5 a6 a7 → P (wh7 body n a1 a2 a3 a4 a5 a6 a7) := by
  intro n
  induction n with
  | zero => intro i a1 a2 a3 a4 a5 a6 a7 h1 h2; omega
  | succ n ih =>
    intro i a1 a2 a3 a4 a5 a6 a7 h1 h2 hI
    show P (body (wh7 body n) a1 a2 a3 a4 a5 a6 a7)
    rcases Nat.lt_or_ge i N with hl | hl
    · exact hs i a1 a2 a3 a4 a5 a6 a7 hl hI _ (fun b1 b2 b3 b4 b5 b6 b7 hb => ih (i + 1) b1 b2 b3 b4 b5 b6 b7 hl (by omega) hb)
    · have e : i = N := Nat.le_antisymm h1 hl
      subst e; exact hx a1 a2 a3 a4 a5 a6 a7 hI _
theorem wh7_wp {A1 A2 A3 A4 A5 A6 A7 R : Type} {body : (A1 → A2 → A3 → A4 → A5 → A6 → A7 → Option R) → A1 → A2 → A3 → A4 → A5 → A6 → A7 → Option R} {P : Option R → Prop} (Inv : Nat → A1 → A2 → A3 → A4 → A5 → A6 → A7 → Prop) (hs : ∀ (i : Nat) (a1 : A1) (a2 : A2) (a3 : A3) (a4 : A4) (a5 : A5) (a6 : A6) (a7 : A7), Inv i a1 a2 a3 a4 a5 a6 a7 → ∀ self : A1 → A2 → A3 → A4 → A5 → A6 → A7 → Option R, (∀ (j : Nat) (b1 : A1) (b2 : A2) (b3 : A3) (b4 : A4) (b5 : A5) (b6 : A6) (b7 : A7), j < i → Inv j b1 b2 b3 b4 b5 b6 b7 → P (self b1 b2 b3 b4 b5 b6 b7)) → P (body self a1 a2 a3 a4 a5 a6 a7)) : ∀ (n i : Nat) (a1 : A1) (a2 : A2) (a3 : A3) (a4 : A4) (a5 : A5) (a6 : A6) (a7 : A7), i < n → Inv i a1 a2 a3 a4 a5 a6 a7 → P (wh7 body n a1 a2 a3 a4 a5 a6 a7) := by
  intro n
  induction n with
  | zero => intro i a1 a2 a3 a4 a5 a6 a7 h1; omega
  | succ n ih =>
    intro i a1 a2 a3 a4 a5 a6 a7 h1 hI
    exact hs i a1 a2 a3 a4 a5 a6 a7 hI _ (fun j b1 b2 b3 b4 b5 b6 b7 hj hb => ih j b1 b2 b3 b4 b5 b6 b7 (by omega) hb)
theorem wh8_s {A1 A2 A3 A4 A5 A6 A7 A8 R : Type} (body : (A1 → A2 → A3 → A4 → A5 → A6 → A7 → A8 → Option R) → A1 → A2 → A3 → A4 → A5 → A6 → A7 → A8 → Option R) (n : Nat) (a1 : A1) (a2 : A2) (a3 : A3) (a4 : A4) (a5 : A5) (a6 : A6) (a7 : A7) (a8 : A8) : wh8 body (n + 1) a1 a2 a3 a4 a5 a6 a7 a8 = body (wh8 body n) a1 a2 a3 a4 a5 a6 a7 a8 := rfl
theorem wh8_for {A1 A2 A3 A4 A5 A6 A7 A8 R : Type} {body : (A1 → A2 → A3 → A4 → A5 → A6 → A7 → A8 → Option R) → A1 → A2 → A3 → A4 → A5 → A6 → A7 → A8 → Option R} {P : Option R → Prop} (N : Nat) (Inv : Nat → A1 → A2 → A3 → A4 → A5 → A6 → A7 → A8 → Prop) (hs : ∀ (i : Nat) (a1 : A1) (a2 : A2) (a3 : A3) (a4 : A4) (a5 : A5) (a6 : A6) (a7 : A7) (a8 : A8), i < N → Inv i a1 a2 a3 a4 a5 a6 a7 a8 → ∀ self : A1 → A2 → A3 → A4 → A5 → A6 → A7 → A8 → Option R, (∀ b1 b2 b3 b4 b5 b6 b7 b8, Inv (i + 1) b1 b2 b3 b4 b5 b6 b7 b8 → P (self b1 b2 b3 b4 b5 b6 b7 b8)) → P (body self a1 a2 a3 a4 a5 a6 a7 a8)) (hx : ∀ (a1 : A1) (a2 : A2) (a3 : A3) (a4 : A4) (a5 : A5) (a6 : A6) (a7 : A7) (a8 : A8), Inv N a1 a2 a3 a4 a5 a6 a7 a8 → ∀ self : A1 → A2 → A3 → A4 → A5 → A6 → A7 → A8 → Option R, P (body self a1 a2 a3 a4 a5 a6 a7 a8)) : ∀ (n i : Nat) (a1 : A1) (a2 : A2) (a3 : A3) (a4 : A4) (a5 : A5) (a6 : A6) (a7 : A7) (a8 : A8), i ≤ N → N < i + n → Inv i a1 a2 a3 a4 a5 a6 a7 a8 → P (wh8 body n a1 a2 a3 a4 a5 a6 a7 a8) := by
  intro n
  induction n with
  | zero => intro i a1 a2 a3 a4 a5 a6 a7 a8 h1 h2; omega
  | succ n ih =>
    intro i a1 a2 a3 a4 a5 a6 a7 a8 h1 h2 hI
    show P (body (wh8 body n) a1 a2 a3 a4 a5 a6 a7 a8)
    rcases Nat.lt_or_ge i N with hl | hl
    · exact hs i a1 a2 a3 a4 a5 a6 a7 a8 hl hI _ (fun b1 b2 b3 b4 b5 b6 b7 b8 hb => ih (i + 1) b1 b2 b3 b4 b5 b6 b7 b8 hl (by omega) hb)
    · have e : i = N := Nat.le_antisymm h1 hl
      subst e; exact hx a1 a2 a3 a4 a5 a6 a7 a8 hI _
theorem wh8_wp {A1 A2 A3 A4 A5 A6 A7 A8 R : Type} {body : (A1 → A2 → A3 → A4 → A5 → A6 → A7 → A8 → Option R) → A1 → A2 → A3 → A4 → A5 → A6 → A7 → A8 → Option R} {P : Option R → Prop} (Inv : Nat → A1 → A2 → A3 → A4 → A5 → A6 → A7 → A8 → Prop) (hs : ∀ (i : Nat) (a1 : A1) (a2 : A2) (a3 : A3) (a4 : A4) (a5 : A5) (a6 : A6) (a7 : A7) (a8 : A8), Inv i a1 a2 a3 a4 a5 a6 a7 a8 → ∀ self : A1 → A2 → A3 → A4 → A5 → A6 → A7 → A8 → Option R, (∀ (j : Nat) (b1 : A1) (b2 : A2) (b3 : A3) (b4 : A4) (b5 : A5) (b6 : A6) (b7 : A7) (b8 : A8), j < i → Inv j b1 b2 b3 b4 b5 b6 b7 b8 → P (self b1 b2 b3 b4 b5 b6 b7 b8)) → P (body self a1 a2 a3 a4 a5 a6 a7 a8)) : ∀ (n i : Nat) (a1 : A1) (a2 : A2) (a3 : A3) (a4 : A4) (a5 : A5) (a6 : A6) (a7 : A7) (a8 : A8), i < n → Inv i a1 a2 a3 a4 a5 a6 a7 a8 → P (wh8 body n a1 a2 a3 a4 a5 a6 a7 a8) := by
  intro n
  induction n with
  | zero => intro i a1 a2 a3 a4 a5 a6 a7 a8 h1; omega
  | succ n ih =>
    intro i a1 a2 a3 a4 a5 a6 a7 a8 h1 hI
    exact hs i a1 a2 a3 a4 a5 a6 a7 a8 hI _ (fun j b1 b2 b3 b4 b5 b6 b7 b8 hj hb => ih j b1 b2 b3 b4 b5 b6 b7 b8 (by omega) hb)
