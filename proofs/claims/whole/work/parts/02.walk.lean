/-! ===== the walking judgement: X the machine's context, ws the world, lv the locals, st the operand stack ===== -/
abbrev VX := Program × Launch × Env × Room × State × MethodId × Array Value × List Frame × Method × Code
abbrev xP (X : VX) : Program := X.1
abbrev xL (X : VX) : Launch := X.2.1
abbrev xE (X : VX) : Env := X.2.2.1
abbrev xR (X : VX) : Room := X.2.2.2.1
abbrev xS (X : VX) : State := X.2.2.2.2.1
abbrev xM (X : VX) : MethodId := X.2.2.2.2.2.1
abbrev xA (X : VX) : Array Value := X.2.2.2.2.2.2.1
abbrev xB (X : VX) : List Frame := X.2.2.2.2.2.2.2.1
abbrev xMe (X : VX) : Method := X.2.2.2.2.2.2.2.2.1
abbrev xC (X : VX) : Code := X.2.2.2.2.2.2.2.2.2
abbrev WX (X : VX) (H : Heap) (locs : List Loc) (cs : Nat × Nat) (Q : State → Prop) (g : JFrame) : Prop := W (xP X) (xL X) (xE X) (xR X) (xS X) (xM X) (xA X) (xB X) (xMe X) (xC X) H locs cs.1 cs.2 Q g
def VW (X : VX) (D : va_G) (nL : Nat) (Q : State → Prop) (K : va_W → Heap → List Loc → Prop) (cs : Nat × Nat) (ws : va_W) (lv : List (Nat × Value)) (pc : Nat) (st : List Value) : Prop :=
  ∀ (H : Heap) (locs : List Loc) (ls : Array Slot), va_P D vwCl ws H → K ws H locs → lv_has ls nL lv → WX X H locs cs Q (F0 (xM X) pc ls st)
/-- the array classes: ints, longs, storms, units -/
def vY (Y : Nat → ClassId) : List (ClassId × FieldType) := [(Y 0, .int), (Y 1, .long), (Y 2, .object RX3), (Y 3, .object RX4)]
/-- the links between nest mates -/
def vNest (U : State) : Prop := va_Nw (.methodLinkNest RX5 27 yX1_init RX5) U ∧ va_Nw (.methodLinkNest RX1 11 yX2_init RX5) U ∧ va_Nw (.methodLinkNest RX5 34 yX0_init RX5) U ∧ va_Nw (.methodLinkNest RX5 39 yX3_init RX5) U ∧ va_Nw (.methodLinkNest RX3 11 yX2_init RX5) U ∧ va_Nw (.methodLinkNest RX5 40 yX4_init RX5) U ∧ va_Nw (.methodLinkNest RX4 11 yX2_init RX5) U ∧ va_Nw (.methodLinkNest RX1 65 yX5_isLength RX5) U
def KN (D : va_G) (Y : Nat → ClassId) (U : State) : Prop := va_K D vwCl (vY Y) U ∧ vNest U
theorem vNest_warm {s U : State} (hW : s.WarmedH U.vm) (h : vNest s) : vNest U := by
  obtain ⟨h1, h2, h3, h4, h5, h6, h7, h8⟩ := h
  exact ⟨va_Nw.warmM hW h1, va_Nw.warmM hW h2, va_Nw.warmM hW h3, va_Nw.warmM hW h4, va_Nw.warmM hW h5, va_Nw.warmM hW h6, va_Nw.warmM hW h7, va_Nw.warmM hW h8⟩
theorem vNest_same {s U : State} (hv : s.vm = U.vm) (h : vNest s) : vNest U := by
  obtain ⟨h1, h2, h3, h4, h5, h6, h7, h8⟩ := h
  exact ⟨va_Nw.same rfl hv h1, va_Nw.same rfl hv h2, va_Nw.same rfl hv h3, va_Nw.same rfl hv h4, va_Nw.same rfl hv h5, va_Nw.same rfl hv h6, va_Nw.same rfl hv h7, va_Nw.same rfl hv h8⟩
theorem KN_warm {D : va_G} {Y : Nat → ClassId} {s U : State} (hW : s.WarmedH U.vm) (h : KN D Y s) : KN D Y U := ⟨va_K.moved hW.alike h.1, vNest_warm hW h.2⟩
theorem KN_call {D : va_G} {Y : Nat → ClassId} {U : State} (g : JFrame) (mk : MethodId) (a : Array Value) (h : KN D Y U) : KN D Y (U.calling g mk a) := ⟨va_K.moved (u := U) (U := U.calling g mk a) (Vm.Alike.refl U.vm) h.1, vNest_same (s := U) (U := U.calling g mk a) rfl h.2⟩
def Cx (X : VX) (D : va_G) (Y : Nat → ClassId) (cc : ByteArray) (nL : Nat) (own : String) (Ts : List Cond) (ret : Option FieldType) (rm : Room) : Prop :=
  CallFix (xP X) (xM X) (xC X) cc nL (xS X) (xA X) Ts own ∧ KN D Y (xS X) ∧ (xMe X).sig.returnType = ret ∧ (xMe X).locks = false ∧ xR X = rm
def KR (X : VX) : va_W → Heap → List Loc → Prop := fun _ H locs => H = (xS X).heap ∧ locs = []
def KM (A : Nat → Prop) (X : VX) : va_W → Heap → List Loc → Prop := fun ws H locs => va_D A ws ∧ va_S A (xS X).heap H locs
/-- contracts: MR reads alone (no cell changes); MW may write its world -/
def QcR (r : Option Value) : Array Value → State → Outcome → State → Prop := fun _ st oc t => oc = .returned r ∧ t.heap = st.heap
def QcW (D : va_G) (w w' : va_W) (sz : Nat) (r : Option Value) : Array Value → State → Outcome → State → Prop := fun _ st oc t => (oc = .returned r ∧ va_P D vwCl w' t.heap) ∧ va_F (va_A w sz) st t
def MR (l : Launch) (y : MethodName) (wy : List Cond) (fr lo : Nat) (D : va_G) (Y : Nat → ClassId) (as : List Value) (w : va_W) (r : Option Value) : Prop :=
  Met l y wy { frames := fr, cells := 0, slots := 0, locals := lo } (va_Pc as (fun U => va_P D vwCl w U.heap ∧ KN D Y U)) (QcR r) 0 0 (fun _ => False)
def MW (l : Launch) (y : MethodName) (wy : List Cond) (fr lo : Nat) (D : va_G) (Y : Nat → ClassId) (as : List Value) (w w' : va_W) (r : Option Value) : Prop :=
  w'.map Prod.fst = w.map Prod.fst ∧ ∀ sz : Nat, Met l y wy { frames := fr, cells := 0, slots := 0, locals := lo } (va_Pc as (fun U => U.heap.size = sz ∧ va_P D vwCl w U.heap ∧ KN D Y U ∧ va_D (fun _ => True) w)) (QcW D w w' sz r) 0 0 (va_A w sz)
def QR (X : VX) (r : Option Value) : State → Prop := MQ (xB X) (QcR r) (xA X) (xS X) 0 0 (fun _ => False)
def QW (X : VX) (D : va_G) (w w' : va_W) (r : Option Value) : State → Prop := MQ (xB X) (QcW D w w' (xS X).heap.size r) (xA X) (xS X) 0 0 (va_A w (xS X).heap.size)
def inB (i : Int32) (n : Nat) : Bool := decide (0 ≤ i.toInt ∧ i.toInt < n)
theorem inB_in {i : Int32} {n : Nat} (h : inB i n = true) : vp_in i n := vp_in_iff.mpr (by simpa [inB] using h)
def isB (r : Int32) : Bool := r == 0 || r == 1
theorem isB_n {r : Int32} (h : isB r = true) : narrow .boolean (.int r) = .int r := by
  simp only [isB, Bool.or_eq_true, beq_iff_eq] at h
  rcases h with rfl | rfl <;> decide
theorem isB_f {r : Int32} (h : isB r = true) : fits .boolean (.int r) = true := h
def ne0 (y : Int32) : Bool := !(y == 0)
theorem ne0_n {y : Int32} (h : ne0 y = true) : ¬ y = 0 := by simpa [ne0] using h
def ne0l (y : Int64) : Bool := !(y == 0)
theorem ne0l_n {y : Int64} (h : ne0l y = true) : ¬ y = 0 := by simpa [ne0l] using h
def up {α : Type} (f : Nat → α) (k : Nat) (v : α) : Nat → α := fun j => cond (Nat.beq j k) v (f j)
/-! ===== combinators of the pure programs ===== -/
theorem t_pos {α : Type} {c : Prop} {i : Decidable c} {a b : Option α} {x : α} (hc : c) (h : (@ite _ c i a b) = some x) : a = some x := by rwa [if_pos hc] at h
theorem t_neg {α : Type} {c : Prop} {i : Decidable c} {a b : Option α} {x : α} (hc : ¬ c) (h : (@ite _ c i a b) = some x) : b = some x := by rwa [if_neg hc] at h
def chk {α : Type} (b : Bool) (o : Option α) : Option α := cond b o none
theorem chk_some {α : Type} {b : Bool} {o : Option α} {x : α} (h : chk b o = some x) : b = true ∧ o = some x := by
  cases b
  · cases h
  · exact ⟨rfl, h⟩

def ob1 {A1 R : Type} (o : Option (A1)) (k : A1 → Option R) : Option R := o.bind (fun q => k q)
theorem ob1_some {A1 R : Type} {o : Option (A1)} {k : A1 → Option R} {x : R} (h : ob1 o k = some x) : ∃ a1, o = some a1 ∧ k a1 = some x := by
  unfold ob1 at h
  cases ho : o with
  | none => rw [ho] at h; cases h
  | some q => rw [ho] at h; exact ⟨q, rfl, h⟩
theorem ob1_eq {A1 R : Type} (k : A1 → Option R) (a1 : A1) : ob1 (some a1) k = k a1 := rfl
def ob2 {A1 A2 R : Type} (o : Option (A1 × A2)) (k : A1 → A2 → Option R) : Option R := o.bind (fun q => k (q.1) (q.2))
theorem ob2_some {A1 A2 R : Type} {o : Option (A1 × A2)} {k : A1 → A2 → Option R} {x : R} (h : ob2 o k = some x) : ∃ a1 a2, o = some (a1, a2) ∧ k a1 a2 = some x := by
  unfold ob2 at h
  cases ho : o with
  | none => rw [ho] at h; cases h
  | some q => rw [ho] at h; exact ⟨q.1, q.2, rfl, h⟩
theorem ob2_eq {A1 A2 R : Type} (k : A1 → A2 → Option R) (a1 : A1) (a2 : A2) : ob2 (some (a1, a2)) k = k a1 a2 := rfl
def ob3 {A1 A2 A3 R : Type} (o : Option (A1 × A2 × A3)) (k : A1 → A2 → A3 → Option R) : Option R := o.bind (fun q => k (q.1) (q.2.1) (q.2.2))
theorem ob3_some {A1 A2 A3 R : Type} {o : Option (A1 × A2 × A3)} {k : A1 → A2 → A3 → Option R} {x : R} (h : ob3 o k = some x) : ∃ a1 a2 a3, o = some (a1, a2, a3) ∧ k a1 a2 a3 = some x := by
  unfold ob3 at h
  cases ho : o with
  | none => rw [ho] at h; cases h
  | some q => rw [ho] at h; exact ⟨q.1, q.2.1, q.2.2, rfl, h⟩
theorem ob3_eq {A1 A2 A3 R : Type} (k : A1 → A2 → A3 → Option R) (a1 : A1) (a2 : A2) (a3 : A3) : ob3 (some (a1, a2, a3)) k = k a1 a2 a3 := rfl
def ob4 {A1 A2 A3 A4 R : Type} (o : Option (A1 × A2 × A3 × A4)) (k : A1 → A2 → A3 → A4 → Option R) : Option R := o.bind (fun q => k (q.1) (q.2.1) (q.2.2.1) (q.2.2.2))
theorem ob4_some {A1 A2 A3 A4 R : Type} {o : Option (A1 × A2 × A3 × A4)} {k : A1 → A2 → A3 → A4 → Option R} {x : R} (h : ob4 o k = some x) : ∃ a1 a2 a3 a4, o = some (a1, a2, a3, a4) ∧ k a1 a2 a3 a4 = some x := by
  unfold ob4 at h
  cases ho : o with
  | none => rw [ho] at h; cases h
  | some q => rw [ho] at h; exact ⟨q.1, q.2.1, q.2.2.1, q.2.2.2, rfl, h⟩
theorem ob4_eq {A1 A2 A3 A4 R : Type} (k : A1 → A2 → A3 → A4 → Option R) (a1 : A1) (a2 : A2) (a3 : A3) (a4 : A4) : ob4 (some (a1, a2, a3, a4)) k = k a1 a2 a3 a4 := rfl
def ob5 {A1 A2 A3 A4 A5 R : Type} (o : Option (A1 × A2 × A3 × A4 × A5)) (k : A1 → A2 → A3 → A4 → A5 → Option R) : Option R := o.bind (fun q => k (q.1) (q.2.1) (q.2.2.1) (q.2.2.2.1) (q.2.2.2.2))
theorem ob5_some {A1 A2 A3 A4 A5 R : Type} {o : Option (A1 × A2 × A3 × A4 × A5)} {k : A1 → A2 → A3 → A4 → A5 → Option R} {x : R} (h : ob5 o k = some x) : ∃ a1 a2 a3 a4 a5, o = some (a1, a2, a3, a4, a5) ∧ k a1 a2 a3 a4 a5 = some x := by
  unfold ob5 at h
  cases ho : o with
  | none => rw [ho] at h; cases h
  | some q => rw [ho] at h; exact ⟨q.1, q.2.1, q.2.2.1, q.2.2.2.1, q.2.2.2.2, rfl, h⟩
theorem ob5_eq {A1 A2 A3 A4 A5 R : Type} (k : A1 → A2 → A3 → A4 → A5 → Option R) (a1 : A1) (a2 : A2) (a3 : A3) (a4 : A4) (a5 : A5) : ob5 (some (a1, a2, a3, a4, a5)) k = k a1 a2 a3 a4 a5 := rfl
def ob6 {A1 A2 A3 A4 A5 A6 R : Type} (o : Option (A1 × A2 × A3 × A4 × A5 × A6)) (k : A1 → A2 → A3 → A4 → A5 → A6 → Option R) : Option R := o.bind (fun q => k (q.1) (q.2.1) (q.2.2.1) (q.2.2.2.1) (q.2.2.2.2.1) (q.2.2.2.2.2))
theorem ob6_some {A1 A2 A3 A4 A5 A6 R : Type} {o : Option (A1 × A2 × A3 × A4 × A5 × A6)} {k : A1 → A2 → A3 → A4 → A5 → A6 → Option R} {x : R} (h : ob6 o k = some x) : ∃ a1 a2 a3 a4 a5 a6, o = some (a1, a2, a3, a4, a5, a6) ∧ k a1 a2 a3 a4 a5 a6 = some x := by
  unfold ob6 at h
  cases ho : o with
  | none => rw [ho] at h; cases h
  | some q => rw [ho] at h; exact ⟨q.1, q.2.1, q.2.2.1, q.2.2.2.1, q.2.2.2.2.1, q.2.2.2.2.2, rfl, h⟩
theorem ob6_eq {A1 A2 A3 A4 A5 A6 R : Type} (k : A1 → A2 → A3 → A4 → A5 → A6 → Option R) (a1 : A1) (a2 : A2) (a3 : A3) (a4 : A4) (a5 : A5) (a6 : A6) : ob6 (some (a1, a2, a3, a4, a5, a6)) k = k a1 a2 a3 a4 a5 a6 := rfl
def ob7 {A1 A2 A3 A4 A5 A6 A7 R : Type} (o : Option (A1 × A2 × A3 × A4 × A5 × A6 × A7)) (k : A1 → A2 → A3 → A4 → A5 → A6 → A7 → Option R) : Option R := o.bind (fun q => k (q.1) (q.2.1) (q.2.2.1) (q.2.2.2.1) (q.2.2.2.2.1) (q.2.2.2.2.2.1) (q.2.2.2.2.2.2))
theorem ob7_some {A1 A2 A3 A4 A5 A6 A7 R : Type} {o : Option (A1 × A2 × A3 × A4 × A5 × A6 × A7)} {k : A1 → A2 → A3 → A4 → A5 → A6 → A7 → Option R} {x : R} (h : ob7 o k = some x) : ∃ a1 a2 a3 a4 a5 a6 a7, o = some (a1, a2, a3, a4, a5, a6, a7) ∧ k a1 a2 a3 a4 a5 a6 a7 = some x := by
  unfold ob7 at h
  cases ho : o with
  | none => rw [ho] at h; cases h
  | some q => rw [ho] at h; exact ⟨q.1, q.2.1, q.2.2.1, q.2.2.2.1, q.2.2.2.2.1, q.2.2.2.2.2.1, q.2.2.2.2.2.2, rfl, h⟩
theorem ob7_eq {A1 A2 A3 A4 A5 A6 A7 R : Type} (k : A1 → A2 → A3 → A4 → A5 → A6 → A7 → Option R) (a1 : A1) (a2 : A2) (a3 : A3) (a4 : A4) (a5 : A5) (a6 : A6) (a7 : A7) : ob7 (some (a1, a2, a3, a4, a5, a6, a7)) k = k a1 a2 a3 a4 a5 a6 a7 := rfl
def ob8 {A1 A2 A3 A4 A5 A6 A7 A8 R : Type} (o : Option (A1 × A2 × A3 × A4 × A5 × A6 × A7 × A8)) (k : A1 → A2 → A3 → A4 → A5 → A6 → A7 → A8 → Option R) : Option R := o.bind (fun q => k (q.1) (q.2.1) (q.2.2.1) (q.2.2.2.1) (q.2.2.2.2.1) (q.2.2.2.2.2.1) (q.2.2.2.2.2.2.1) (q.2.2.2.2.2.2.2))
theorem ob8_some {A1 A2 A3 A4 A5 A6 A7 A8 R : Type} {o : Option (A1 × A2 × A3 × A4 × A5 × A6 × A7 × A8)} {k : A1 → A2 → A3 → A4 → A5 → A6 → A7 → A8 → Option R} {x : R} (h : ob8 o k = some x) : ∃ a1 a2 a3 a4 a5 a6 a7 a8, o = some (a1, a2, a3, a4, a5, a6, a7, a8) ∧ k a1 a2 a3 a4 a5 a6 a7 a8 = some x := by
  unfold ob8 at h
  cases ho : o with
  | none => rw [ho] at h; cases h
  | some q => rw [ho] at h; exact ⟨q.1, q.2.1, q.2.2.1, q.2.2.2.1, q.2.2.2.2.1, q.2.2.2.2.2.1, q.2.2.2.2.2.2.1, q.2.2.2.2.2.2.2, rfl, h⟩
theorem ob8_eq {A1 A2 A3 A4 A5 A6 A7 A8 R : Type} (k : A1 → A2 → A3 → A4 → A5 → A6 → A7 → A8 → Option R) (a1 : A1) (a2 : A2) (a3 : A3) (a4 : A4) (a5 : A5) (a6 : A6) (a7 : A7) (a8 : A8) : ob8 (some (a1, a2, a3, a4, a5, a6, a7, a8)) k = k a1 a2 a3 a4 a5 a6 a7 a8 := rfl
def ob9 {A1 A2 A3 A4 A5 A6 A7 A8 A9 R : Type} (o : Option (A1 × A2 × A3 × A4 × A5 × A6 × A7 × A8 × A9)) (k : A1 → A2 → A3 → A4 → A5 → A6 → A7 → A8 → A9 → Option R) : Option R := o.bind (fun q => k (q.1) (q.2.1) (q.2.2.1) (q.2.2.2.1) (q.2.2.2.2.1) (q.2.2.2.2.2.1) (q.2.2.2.2.2.2.1) (q.2.2.2.2.2.2.2.1) (q.2.2.2.2.2.2.2.2))
theorem ob9_some {A1 A2 A3 A4 A5 A6 A7 A8 A9 R : Type} {o : Option (A1 × A2 × A3 × A4 × A5 × A6 × A7 × A8 × A9)} {k : A1 → A2 → A3 → A4 → A5 → A6 → A7 → A8 → A9 → Option R} {x : R} (h : ob9 o k = some x) : ∃ a1 a2 a3 a4 a5 a6 a7 a8 a9, o = some (a1, a2, a3, a4, a5, a6, a7, a8, a9) ∧ k a1 a2 a3 a4 a5 a6 a7 a8 a9 = some x := by
  unfold ob9 at h
  cases ho : o with
  | none => rw [ho] at h; cases h
  | some q => rw [ho] at h; exact ⟨q.1, q.2.1, q.2.2.1, q.2.2.2.1, q.2.2.2.2.1, q.2.2.2.2.2.1, q.2.2.2.2.2.2.1, q.2.2.2.2.2.2.2.1, q.2.2.2.2.2.2.2.2, rfl, h⟩
theorem ob9_eq {A1 A2 A3 A4 A5 A6 A7 A8 A9 R : Type} (k : A1 → A2 → A3 → A4 → A5 → A6 → A7 → A8 → A9 → Option R) (a1 : A1) (a2 : A2) (a3 : A3) (a4 : A4) (a5 : A5) (a6 : A6) (a7 : A7) (a8 : A8) (a9 : A9) : ob9 (some (a1, a2, a3, a4, a5, a6, a7, a8, a9)) k = k a1 a2 a3 a4 a5 a6 a7 a8 a9 := rfl
def ob10 {A1 A2 A3 A4 A5 A6 A7 A8 A9 A10 R : Type} (o : Option (A1 × A2 × A3 × A4 × A5 × A6 × A7 × A8 × A9 × A10)) (k : A1 → A2 → A3 → A4 → A5 → A6 → A7 → A8 → A9 → A10 → Option R) : Option R := o.bind (fun q => k (q.1) (q.2.1) (q.2.2.1) (q.2.2.2.1) (q.2.2.2.2.1) (q.2.2.2.2.2.1) (q.2.2.2.2.2.2.1) (q.2.2.2.2.2.2.2.1) (q.2.2.2.2.2.2.2.2.1) (q.2.2.2.2.2.2.2.2.2))
theorem ob10_some {A1 A2 A3 A4 A5 A6 A7 A8 A9 A10 R : Type} {o : Option (A1 × A2 × A3 × A4 × A5 × A6 × A7 × A8 × A9 × A10)} {k : A1 → A2 → A3 → A4 → A5 → A6 → A7 → A8 → A9 → A10 → Option R} {x : R} (h : ob10 o k = some x) : ∃ a1 a2 a3 a4 a5 a6 a7 a8 a9 a10, o = some (a1, a2, a3, a4, a5, a6, a7, a8, a9, a10) ∧ k a1 a2 a3 a4 a5 a6 a7 a8 a9 a10 = some x := by
  unfold ob10 at h
  cases ho : o with
  | none => rw [ho] at h; cases h
  | some q => rw [ho] at h; exact ⟨q.1, q.2.1, q.2.2.1, q.2.2.2.1, q.2.2.2.2.1, q.2.2.2.2.2.1, q.2.2.2.2.2.2.1, q.2.2.2.2.2.2.2.1, q.2.2.2.2.2.2.2.2.1, q.2.2.2.2.2.2.2.2.2, rfl, h⟩
theorem ob10_eq {A1 A2 A3 A4 A5 A6 A7 A8 A9 A10 R : Type} (k : A1 → A2 → A3 → A4 → A5 → A6 → A7 → A8 → A9 → A10 → Option R) (a1 : A1) (a2 : A2) (a3 : A3) (a4 : A4) (a5 : A5) (a6 : A6) (a7 : A7) (a8 : A8) (a9 : A9) (a10 : A10) : ob10 (some (a1, a2, a3, a4, a5, a6, a7, a8, a9, a10)) k = k a1 a2 a3 a4 a5 a6 a7 a8 a9 a10 := rfl
def ob11 {A1 A2 A3 A4 A5 A6 A7 A8 A9 A10 A11 R : Type} (o : Option (A1 × A2 × A3 × A4 × A5 × A6 × A7 × A8 × A9 × A10 × A11)) (k : A1 → A2 → A3 → A4 → A5 → A6 → A7 → A8 → A9 → A10 → A11 → Option R) : Option R := o.bind (fun q => k (q.1) (q.2.1) (q.2.2.1) (q.2.2.2.1) (q.2.2.2.2.1) (q.2.2.2.2.2.1) (q.2.2.2.2.2.2.1) (q.2.2.2.2.2.2.2.1) (q.2.2.2.2.2.2.2.2.1) (q.2.2.2.2.2.2.2.2.2.1) (q.2.2.2.2.2.2.2.2.2.2))
theorem ob11_some {A1 A2 A3 A4 A5 A6 A7 A8 A9 A10 A11 R : Type} {o : Option (A1 × A2 × A3 × A4 × A5 × A6 × A7 × A8 × A9 × A10 × A11)} {k : A1 → A2 → A3 → A4 → A5 → A6 → A7 → A8 → A9 → A10 → A11 → Option R} {x : R} (h : ob11 o k = some x) : ∃ a1 a2 a3 a4 a5 a6 a7 a8 a9 a10 a11, o = some (a1, a2, a3, a4, a5, a6, a7, a8, a9, a10, a11) ∧ k a1 a2 a3 a4 a5 a6 a7 a8 a9 a10 a11 = some x := by
  unfold ob11 at h
  cases ho : o with
  | none => rw [ho] at h; cases h
  | some q => rw [ho] at h; exact ⟨q.1, q.2.1, q.2.2.1, q.2.2.2.1, q.2.2.2.2.1, q.2.2.2.2.2.1, q.2.2.2.2.2.2.1, q.2.2.2.2.2.2.2.1, q.2.2.2.2.2.2.2.2.1, q.2.2.2.2.2.2.2.2.2.1, q.2.2.2.2.2.2.2.2.2.2, rfl, h⟩
theorem ob11_eq {A1 A2 A3 A4 A5 A6 A7 A8 A9 A10 A11 R : Type} (k : A1 → A2 → A3 → A4 → A5 → A6 → A7 → A8 → A9 → A10 → A11 → Option R) (a1 : A1) (a2 : A2) (a3 : A3) (a4 : A4) (a5 : A5) (a6 : A6) (a7 : A7) (a8 : A8) (a9 : A9) (a10 : A10) (a11 : A11) : ob11 (some (a1, a2, a3, a4, a5, a6, a7, a8, a9, a10, a11)) k = k a1 a2 a3 a4 a5 a6 a7 a8 a9 a10 a11 := rfl
def jn0 {R : Type} (K : Option R) (f : (Option R) → Option R) : Option R := f K
theorem jn0_ok {R : Type} {K : Option R} {f : (Option R) → Option R} {x : R} {P : Prop} {G : Prop} (hK : K = some x → P) (hb : ∀ J : Option R, (J = some x → P) → f J = some x → G) (h : jn0 K f = some x) : G := hb K hK h
def jn1 {A1 R : Type} (K : A1 → Option R) (f : (A1 → Option R) → Option R) : Option R := f K
theorem jn1_ok {A1 R : Type} {K : A1 → Option R} {f : (A1 → Option R) → Option R} {x : R} {P : A1 → Prop} {G : Prop} (hK : ∀ a1, K a1 = some x → P a1) (hb : ∀ J : A1 → Option R, (∀ a1, J a1 = some x → P a1) → f J = some x → G) (h : jn1 K f = some x) : G := hb K hK h
def wh1 {A1 R : Type} (body : (A1 → Option R) → A1 → Option R) : Nat → A1 → Option R
  | 0 => fun _ => none
  | n + 1 => body (wh1 body n)
theorem wh1_ok {A1 R : Type} {body : (A1 → Option R) → A1 → Option R} {x : R} {P : A1 → Prop} (hs : ∀ self : A1 → Option R, (∀ a1, self a1 = some x → P a1) → ∀ a1, body self a1 = some x → P a1) : ∀ (n : Nat) (a1 : A1), wh1 body n a1 = some x → P a1 := by
  intro n
  induction n with
  | zero => intro a1 h; cases h
  | succ n ih => intro a1 h; exact hs _ ih a1 h
theorem wh1_run {A1 R : Type} {body : (A1 → Option R) → A1 → Option R} {x : Option R} (sa1 : Nat → A1) (N : Nat) (hs : ∀ i, i < N → ∀ self : A1 → Option R, body self (sa1 (i)) = self (sa1 (i + 1))) (hx : ∀ self : A1 → Option R, body self (sa1 (N)) = x) : ∀ (n i : Nat), i ≤ N → N < i + n → wh1 body n (sa1 (i)) = x := by
  intro n
  induction n with
  | zero => intro i h1 h2; omega
  | succ n ih =>
    intro i h1 h2
    show body (wh1 body n) (sa1 (i)) = x
    rcases Nat.lt_or_ge i N with hl | hl
    · rw [hs i hl]; exact ih (i + 1) hl (by omega)
    · have e : i = N := Nat.le_antisymm h1 hl
      rw [e]; exact hx _
def jn2 {A1 A2 R : Type} (K : A1 → A2 → Option R) (f : (A1 → A2 → Option R) → Option R) : Option R := f K
theorem jn2_ok {A1 A2 R : Type} {K : A1 → A2 → Option R} {f : (A1 → A2 → Option R) → Option R} {x : R} {P : A1 → A2 → Prop} {G : Prop} (hK : ∀ a1 a2, K a1 a2 = some x → P a1 a2) (hb : ∀ J : A1 → A2 → Option R, (∀ a1 a2, J a1 a2 = some x → P a1 a2) → f J = some x → G) (h : jn2 K f = some x) : G := hb K hK h
def wh2 {A1 A2 R : Type} (body : (A1 → A2 → Option R) → A1 → A2 → Option R) : Nat → A1 → A2 → Option R
  | 0 => fun _ _ => none
  | n + 1 => body (wh2 body n)
theorem wh2_ok {A1 A2 R : Type} {body : (A1 → A2 → Option R) → A1 → A2 → Option R} {x : R} {P : A1 → A2 → Prop} (hs : ∀ self : A1 → A2 → Option R, (∀ a1 a2, self a1 a2 = some x → P a1 a2) → ∀ a1 a2, body self a1 a2 = some x → P a1 a2) : ∀ (n : Nat) (a1 : A1) (a2 : A2), wh2 body n a1 a2 = some x → P a1 a2 := by
  intro n
  induction n with
  | zero => intro a1 a2 h; cases h
  | succ n ih => intro a1 a2 h; exact hs _ ih a1 a2 h
theorem wh2_run {A1 A2 R : Type} {body : (A1 → A2 → Option R) → A1 → A2 → Option R} {x : Option R} (sa1 : Nat → A1) (sa2 : Nat → A2) (N : Nat) (hs : ∀ i, i < N → ∀ self : A1 → A2 → Option R, body self (sa1 (i)) (sa2 (i)) = self (sa1 (i + 1)) (sa2 (i + 1))) (hx : ∀ self : A1 → A2 → Option R, body self (sa1 (N)) (sa2 (N)) = x) : ∀ (n i : Nat), i ≤ N → N < i + n → wh2 body n (sa1 (i)) (sa2 (i)) = x := by
  intro n
  induction n with
  | zero => intro i h1 h2; omega
  | succ n ih =>
    intro i h1 h2
    show body (wh2 body n) (sa1 (i)) (sa2 (i)) = x
    rcases Nat.lt_or_ge i N with hl | hl
    · rw [hs i hl]; exact ih (i + 1) hl (by omega)
    · have e : i = N := Nat.le_antisymm h1 hl
      rw [e]; exact hx _
def jn3 {A1 A2 A3 R : Type} (K : A1 → A2 → A3 → Option R) (f : (A1 → A2 → A3 → Option R) → Option R) : Option R := f K
theorem jn3_ok {A1 A2 A3 R : Type} {K : A1 → A2 → A3 → Option R} {f : (A1 → A2 → A3 → Option R) → Option R} {x : R} {P : A1 → A2 → A3 → Prop} {G : Prop} (hK : ∀ a1 a2 a3, K a1 a2 a3 = some x → P a1 a2 a3) (hb : ∀ J : A1 → A2 → A3 → Option R, (∀ a1 a2 a3, J a1 a2 a3 = some x → P a1 a2 a3) → f J = some x → G) (h : jn3 K f = some x) : G := hb K hK h
def wh3 {A1 A2 A3 R : Type} (body : (A1 → A2 → A3 → Option R) → A1 → A2 → A3 → Option R) : Nat → A1 → A2 → A3 → Option R
  | 0 => fun _ _ _ => none
  | n + 1 => body (wh3 body n)
theorem wh3_ok {A1 A2 A3 R : Type} {body : (A1 → A2 → A3 → Option R) → A1 → A2 → A3 → Option R} {x : R} {P : A1 → A2 → A3 → Prop} (hs : ∀ self : A1 → A2 → A3 → Option R, (∀ a1 a2 a3, self a1 a2 a3 = some x → P a1 a2 a3) → ∀ a1 a2 a3, body self a1 a2 a3 = some x → P a1 a2 a3) : ∀ (n : Nat) (a1 : A1) (a2 : A2) (a3 : A3), wh3 body n a1 a2 a3 = some x → P a1 a2 a3 := by
  intro n
  induction n with
  | zero => intro a1 a2 a3 h; cases h
  | succ n ih => intro a1 a2 a3 h; exact hs _ ih a1 a2 a3 h
theorem wh3_run {A1 A2 A3 R : Type} {body : (A1 → A2 → A3 → Option R) → A1 → A2 → A3 → Option R} {x : Option R} (sa1 : Nat → A1) (sa2 : Nat → A2) (sa3 : Nat → A3) (N : Nat) (hs : ∀ i, i < N → ∀ self : A1 → A2 → A3 → Option R, body self (sa1 (i)) (sa2 (i)) (sa3 (i)) = self (sa1 (i + 1)) (sa2 (i + 1)) (sa3 (i + 1))) (hx : ∀ self : A1 → A2 → A3 → Option R, body self (sa1 (N)) (sa2 (N)) (sa3 (N)) = x) : ∀ (n i : Nat), i ≤ N → N < i + n → wh3 body n (sa1 (i)) (sa2 (i)) (sa3 (i)) = x := by
  intro n
  induction n with
  | zero => intro i h1 h2; omega
  | succ n ih =>
    intro i h1 h2
    show body (wh3 body n) (sa1 (i)) (sa2 (i)) (sa3 (i)) = x
    rcases Nat.lt_or_ge i N with hl | hl
    · rw [hs i hl]; exact ih (i + 1) hl (by omega)
    · have e : i = N := Nat.le_antisymm h1 hl
      rw [e]; exact hx _
def jn4 {A1 A2 A3 A4 R : Type} (K : A1 → A2 → A3 → A4 → Option R) (f : (A1 → A2 → A3 → A4 → Option R) → Option R) : Option R := f K
theorem jn4_ok {A1 A2 A3 A4 R : Type} {K : A1 → A2 → A3 → A4 → Option R} {f : (A1 → A2 → A3 → A4 → Option R) → Option R} {x : R} {P : A1 → A2 → A3 → A4 → Prop} {G : Prop} (hK : ∀ a1 a2 a3 a4, K a1 a2 a3 a4 = some x → P a1 a2 a3 a4) (hb : ∀ J : A1 → A2 → A3 → A4 → Option R, (∀ a1 a2 a3 a4, J a1 a2 a3 a4 = some x → P a1 a2 a3 a4) → f J = some x → G) (h : jn4 K f = some x) : G := hb K hK h
def wh4 {A1 A2 A3 A4 R : Type} (body : (A1 → A2 → A3 → A4 → Option R) → A1 → A2 → A3 → A4 → Option R) : Nat → A1 → A2 → A3 → A4 → Option R
  | 0 => fun _ _ _ _ => none
  | n + 1 => body (wh4 body n)
theorem wh4_ok {A1 A2 A3 A4 R : Type} {body : (A1 → A2 → A3 → A4 → Option R) → A1 → A2 → A3 → A4 → Option R} {x : R} {P : A1 → A2 → A3 → A4 → Prop} (hs : ∀ self : A1 → A2 → A3 → A4 → Option R, (∀ a1 a2 a3 a4, self a1 a2 a3 a4 = some x → P a1 a2 a3 a4) → ∀ a1 a2 a3 a4, body self a1 a2 a3 a4 = some x → P a1 a2 a3 a4) : ∀ (n : Nat) (a1 : A1) (a2 : A2) (a3 : A3) (a4 : A4), wh4 body n a1 a2 a3 a4 = some x → P a1 a2 a3 a4 := by
  intro n
  induction n with
  | zero => intro a1 a2 a3 a4 h; cases h
  | succ n ih => intro a1 a2 a3 a4 h; exact hs _ ih a1 a2 a3 a4 h
theorem wh4_run {A1 A2 A3 A4 R : Type} {body : (A1 → A2 → A3 → A4 → Option R) → A1 → A2 → A3 → A4 → Option R} {x : Option R} (sa1 : Nat → A1) (sa2 : Nat → A2) (sa3 : Nat → A3) (sa4 : Nat → A4) (N : Nat) (hs : ∀ i, i < N → ∀ self : A1 → A2 → A3 → A4 → Option R, body self (sa1 (i)) (sa2 (i)) (sa3 (i)) (sa4 (i)) = self (sa1 (i + 1)) (sa2 (i + 1)) (sa3 (i + 1)) (sa4 (i + 1))) (hx : ∀ self : A1 → A2 → A3 → A4 → Option R, body self (sa1 (N)) (sa2 (N)) (sa3 (N)) (sa4 (N)) = x) : ∀ (n i : Nat), i ≤ N → N < i + n → wh4 body n (sa1 (i)) (sa2 (i)) (sa3 (i)) (sa4 (i)) = x := by
  intro n
  induction n with
  | zero => intro i h1 h2; omega
  | succ n ih =>
    intro i h1 h2
    show body (wh4 body n) (sa1 (i)) (sa2 (i)) (sa3 (i)) (sa4 (i)) = x
    rcases Nat.lt_or_ge i N with hl | hl
    · rw [hs i hl]; exact ih (i + 1) hl (by omega)
    · have e : i = N := Nat.le_antisymm h1 hl
      rw [e]; exact hx _
def jn5 {A1 A2 A3 A4 A5 R : Type} (K : A1 → A2 → A3 → A4 → A5 → Option R) (f : (A1 → A2 → A3 → A4 → A5 → Option R) → Option R) : Option R := f K
theorem jn5_ok {A1 A2 A3 A4 A5 R : Type} {K : A1 → A2 → A3 → A4 → A5 → Option R} {f : (A1 → A2 → A3 → A4 → A5 → Option R) → Option R} {x : R} {P : A1 → A2 → A3 → A4 → A5 → Prop} {G : Prop} (hK : ∀ a1 a2 a3 a4 a5, K a1 a2 a3 a4 a5 = some x → P a1 a2 a3 a4 a5) (hb : ∀ J : A1 → A2 → A3 → A4 → A5 → Option R, (∀ a1 a2 a3 a4 a5, J a1 a2 a3 a4 a5 = some x → P a1 a2 a3 a4 a5) → f J = some x → G) (h : jn5 K f = some x) : G := hb K hK h
def wh5 {A1 A2 A3 A4 A5 R : Type} (body : (A1 → A2 → A3 → A4 → A5 → Option R) → A1 → A2 → A3 → A4 → A5 → Option R) : Nat → A1 → A2 → A3 → A4 → A5 → Option R
  | 0 => fun _ _ _ _ _ => none
  | n + 1 => body (wh5 body n)
theorem wh5_ok {A1 A2 A3 A4 A5 R : Type} {body : (A1 → A2 → A3 → A4 → A5 → Option R) → A1 → A2 → A3 → A4 → A5 → Option R} {x : R} {P : A1 → A2 → A3 → A4 → A5 → Prop} (hs : ∀ self : A1 → A2 → A3 → A4 → A5 → Option R, (∀ a1 a2 a3 a4 a5, self a1 a2 a3 a4 a5 = some x → P a1 a2 a3 a4 a5) → ∀ a1 a2 a3 a4 a5, body self a1 a2 a3 a4 a5 = some x → P a1 a2 a3 a4 a5) : ∀ (n : Nat) (a1 : A1) (a2 : A2) (a3 : A3) (a4 : A4) (a5 : A5), wh5 body n a1 a2 a3 a4 a5 = some x → P a1 a2 a3 a4 a5 := by
  intro n
  induction n with
  | zero => intro a1 a2 a3 a4 a5 h; cases h
  | succ n ih => intro a1 a2 a3 a4 a5 h; exact hs _ ih a1 a2 a3 a4 a5 h
theorem wh5_run {A1 A2 A3 A4 A5 R : Type} {body : (A1 → A2 → A3 → A4 → A5 → Option R) → A1 → A2 → A3 → A4 → A5 → Option R} {x : Option R} (sa1 : Nat → A1) (sa2 : Nat → A2) (sa3 : Nat → A3) (sa4 : Nat → A4) (sa5 : Nat → A5) (N : Nat) (hs : ∀ i, i < N → ∀ self : A1 → A2 → A3 → A4 → A5 → Option R, body self (sa1 (i)) (sa2 (i)) (sa3 (i)) (sa4 (i)) (sa5 (i)) = self (sa1 (i + 1)) (sa2 (i + 1)) (sa3 (i + 1)) (sa4 (i + 1)) (sa5 (i + 1))) (hx : ∀ self : A1 → A2 → A3 → A4 → A5 → Option R, body self (sa1 (N)) (sa2 (N)) (sa3 (N)) (sa4 (N)) (sa5 (N)) = x) : ∀ (n i : Nat), i ≤ N → N < i + n → wh5 body n (sa1 (i)) (sa2 (i)) (sa3 (i)) (sa4 (i)) (sa5 (i)) = x := by
  intro n
  induction n with
  | zero => intro i h1 h2; omega
  | succ n ih =>
    intro i h1 h2
    show body (wh5 body n) (sa1 (i)) (sa2 (i)) (sa3 (i)) (sa4 (i)) (sa5 (i)) = x
    rcases Nat.lt_or_ge i N with hl | hl
    · rw [hs i hl]; exact ih (i + 1) hl (by omega)
    · have e : i = N := Nat.le_antisymm h1 hl
      rw [e]; exact hx _
def jn6 {A1 A2 A3 A4 A5 A6 R : Type} (K : A1 → A2 → A3 → A4 → A5 → A6 → Option R) (f : (A1 → A2 → A3 → A4 → A5 → A6 → Option R) → Option R) : Option R := f K
theorem jn6_ok {A1 A2 A3 A4 A5 A6 R : Type} {K : A1 → A2 → A3 → A4 → A5 → A6 → Option R} {f : (A1 → A2 → A3 → A4 → A5 → A6 → Option R) → Option R} {x : R} {P : A1 → A2 → A3 → A4 → A5 → A6 → Prop} {G : Prop} (hK : ∀ a1 a2 a3 a4 a5 a6, K a1 a2 a3 a4 a5 a6 = some x → P a1 a2 a3 a4 a5 a6) (hb : ∀ J : A1 → A2 → A3 → A4 → A5 → A6 → Option R, (∀ a1 a2 a3 a4 a5 a6, J a1 a2 a3 a4 a5 a6 = some x → P a1 a2 a3 a4 a5 a6) → f J = some x → G) (h : jn6 K f = some x) : G := hb K hK h
def wh6 {A1 A2 A3 A4 A5 A6 R : Type} (body : (A1 → A2 → A3 → A4 → A5 → A6 → Option R) → A1 → A2 → A3 → A4 → A5 → A6 → Option R) : Nat → A1 → A2 → A3 → A4 → A5 → A6 → Option R
  | 0 => fun _ _ _ _ _ _ => none
  | n + 1 => body (wh6 body n)
theorem wh6_ok {A1 A2 A3 A4 A5 A6 R : Type} {body : (A1 → A2 → A3 → A4 → A5 → A6 → Option R) → A1 → A2 → A3 → A4 → A5 → A6 → Option R} {x : R} {P : A1 → A2 → A3 → A4 → A5 → A6 → Prop} (hs : ∀ self : A1 → A2 → A3 → A4 → A5 → A6 → Option R, (∀ a1 a2 a3 a4 a5 a6, self a1 a2 a3 a4 a5 a6 = some x → P a1 a2 a3 a4 a5 a6) → ∀ a1 a2 a3 a4 a5 a6, body self a1 a2 a3 a4 a5 a6 = some x → P a1 a2 a3 a4 a5 a6) : ∀ (n : Nat) (a1 : A1) (a2 : A2) (a3 : A3) (a4 : A4) (a5 : A5) (a6 : A6), wh6 body n a1 a2 a3 a4 a5 a6 = some x → P a1 a2 a3 a4 a5 a6 := by
  intro n
  induction n with
  | zero => intro a1 a2 a3 a4 a5 a6 h; cases h
  | succ n ih => intro a1 a2 a3 a4 a5 a6 h; exact hs _ ih a1 a2 a3 a4 a5 a6 h
theorem wh6_run {A1 A2 A3 A4 A5 A6 R : Type} {body : (A1 → A2 → A3 → A4 → A5 → A6 → Option R) → A1 → A2 → A3 → A4 → A5 → A6 → Option R} {x : Option R} (sa1 : Nat → A1) (sa2 : Nat → A2) (sa3 : Nat → A3) (sa4 : Nat → A4) (sa5 : Nat → A5) (sa6 : Nat → A6) (N : Nat) (hs : ∀ i, i < N → ∀ self : A1 → A2 → A3 → A4 → A5 → A6 → Option R, body self (sa1 (i)) (sa2 (i)) (sa3 (i)) (sa4 (i)) (sa5 (i)) (sa6 (i)) = self (sa1 (i + 1)) (sa2 (i + 1)) (sa3 (i + 1)) (sa4 (i + 1)) (sa5 (i + 1)) (sa6 (i + 1))) (hx : ∀ self : A1 → A2 → A3 → A4 → A5 → A6 → Option R, body self (sa1 (N)) (sa2 (N)) (sa3 (N)) (sa4 (N)) (sa5 (N)) (sa6 (N)) = x) : ∀ (n i : Nat), i ≤ N → N < i + n → wh6 body n (sa1 (i)) (sa2 (i)) (sa3 (i)) (sa4 (i)) (sa5 (i)) (sa6 (i)) = x := by
  intro n
  induction n with
  | zero => intro i h1 h2; omega
  | succ n ih =>
    intro i h1 h2
    show body (wh6 body n) (sa1 (i)) (sa2 (i)) (sa3 (i)) (sa4 (i)) (sa5 (i)) (sa6 (i)) = x
    rcases Nat.lt_or_ge i N with hl | hl
    · rw [hs i hl]; exact ih (i + 1) hl (by omega)
    · have e : i = N := Nat.le_antisymm h1 hl
      rw [e]; exact hx _
def jn7 {A1 A2 A3 A4 A5 A6 A7 R : Type} (K : A1 → A2 → A3 → A4 → A5 → A6 → A7 → Option R) (f : (A1 → A2 → A3 → A4 → A5 → A6 → A7 → Option R) → Option R) : Option R := f K
theorem jn7_ok {A1 A2 A3 A4 A5 A6 A7 R : Type} {K : A1 → A2 → A3 → A4 → A5 → A6 → A7 → Option R} {f : (A1 → A2 → A3 → A4 → A5 → A6 → A7 → Option R) → Option R} {x : R} {P : A1 → A2 → A3 → A4 → A5 → A6 → A7 → Prop} {G : Prop} (hK : ∀ a1 a2 a3 a4 a5 a6 a7, K a1 a2 a3 a4 a5 a6 a7 = some x → P a1 a2 a3 a4 a5 a6 a7) (hb : ∀ J : A1 → A2 → A3 → A4 → A5 → A6 → A7 → Option R, (∀ a1 a2 a3 a4 a5 a6 a7, J a1 a2 a3 a4 a5 a6 a7 = some x → P a1 a2 a3 a4 a5 a6 a7) → f J = some x → G) (h : jn7 K f = some x) : G := hb K hK h
def wh7 {A1 A2 A3 A4 A5 A6 A7 R : Type} (body : (A1 → A2 → A3 → A4 → A5 → A6 → A7 → Option R) → A1 → A2 → A3 → A4 → A5 → A6 → A7 → Option R) : Nat → A1 → A2 → A3 → A4 → A5 → A6 → A7 → Option R
  | 0 => fun _ _ _ _ _ _ _ => none
  | n + 1 => body (wh7 body n)
theorem wh7_ok {A1 A2 A3 A4 A5 A6 A7 R : Type} {body : (A1 → A2 → A3 → A4 → A5 → A6 → A7 → Option R) → A1 → A2 → A3 → A4 → A5 → A6 → A7 → Option R} {x : R} {P : A1 → A2 → A3 → A4 → A5 → A6 → A7 → Prop} (hs : ∀ self : A1 → A2 → A3 → A4 → A5 → A6 → A7 → Option R, (∀ a1 a2 a3 a4 a5 a6 a7, self a1 a2 a3 a4 a5 a6 a7 = some x → P a1 a2 a3 a4 a5 a6 a7) → ∀ a1 a2 a3 a4 a5 a6 a7, body self a1 a2 a3 a4 a5 a6 a7 = some x → P a1 a2 a3 a4 a5 a6 a7) : ∀ (n : Nat) (a1 : A1) (a2 : A2) (a3 : A3) (a4 : A4) (a5 : A5) (a6 : A6) (a7 : A7), wh7 body n a1 a2 a3 a4 a5 a6 a7 = some x → P a1 a2 a3 a4 a5 a6 a7 := by
  intro n
  induction n with
  | zero => intro a1 a2 a3 a4 a5 a6 a7 h; cases h
  | succ n ih => intro a1 a2 a3 a4 a5 a6 a7 h; exact hs _ ih a1 a2 a3 a4 a5 a6 a7 h
theorem wh7_run {A1 A2 A3 A4 A5 A6 A7 R : Type} {body : (A1 → A2 → A3 → A4 → A5 → A6 → A7 → Option R) → A1 → A2 → A3 → A4 → A5 → A6 → A7 → Option R} {x : Option R} (sa1 : Nat → A1) (sa2 : Nat → A2) (sa3 : Nat → A3) (sa4 : Nat → A4) (sa5 : Nat → A5) (sa6 : Nat → A6) (sa7 : Nat → A7) (N : Nat) (hs : ∀ i, i < N → ∀ self : A1 → A2 → A3 → A4 → A5 → A6 → A7 → Option R, body self (sa1 (i)) (sa2 (i)) (sa3 (i)) (sa4 (i)) (sa5 (i)) (sa6 (i)) (sa7 (i)) = self (sa1 (i + 1)) (sa2 (i + 1)) (sa3 (i + 1)) (sa4 (i + 1)) (sa5 (i + 1)) (sa6 (i + 1)) (sa7 (i + 1))) (hx : ∀ self : A1 → A2 → A3 → A4 → A5 → A6 → A7 → Option R, body self (sa1 (N)) (sa2 (N)) (sa3 (N)) (sa4 (N)) (sa5 (N)) (sa6 (N)) (sa7 (N)) = x) : ∀ (n i : Nat), i ≤ N → N < i + n → wh7 body n (sa1 (i)) (sa2 (i)) (sa3 (i)) (sa4 (i)) (sa5 (i)) (sa6 (i)) (sa7 (i)) = x := by
  intro n
  induction n with
  | zero => intro i h1 h2; omega
  | succ n ih =>
    intro i h1 h2
    show body (wh7 body n) (sa1 (i)) (sa2 (i)) (sa3 (i)) (sa4 (i)) (sa5 (i)) (sa6 (i)) (sa7 (i)) = x
    rcases Nat.lt_or_ge i N with hl | hl
    · rw [hs i hl]; exact ih (i + 1) hl (by omega)
    · have e : i = N := Nat.le_antisymm h1 hl
      rw [e]; exact hx _
def jn8 {A1 A2 A3 A4 A5 A6 A7 A8 R : Type} (K : A1 → A2 → A3 → A4 → A5 → A6 → A7 → A8 → Option R) (f : (A1 → A2 → A3 → A4 → A5 → A6 → A7 → A8 → Option R) → Option R) : Option R := f K
theorem jn8_ok {A1 A2 A3 A4 A5 A6 A7 A8 R : Type} {K : A1 → A2 → A3 → A4 → A5 → A6 → A7 → A8 → Option R} {f : (A1 → A2 → A3 → A4 → A5 → A6 → A7 → A8 → Option R) → Option R} {x : R} {P : A1 → A2 → A3 → A4 → A5 → A6 → A7 → A8 → Prop} {G : Prop} (hK : ∀ a1 a2 a3 a4 a5 a6 a7 a8, K a1 a2 a3 a4 a5 a6 a7 a8 = some x → P a1 a2 a3 a4 a5 a6 a7 a8) (hb : ∀ J : A1 → A2 → A3 → A4 → A5 → A6 → A7 → A8 → Option R, (∀ a1 a2 a3 a4 a5 a6 a7 a8, J a1 a2 a3 a4 a5 a6 a7 a8 = some x → P a1 a2 a3 a4 a5 a6 a7 a8) → f J = some x → G) (h : jn8 K f = some x) : G := hb K hK h
def wh8 {A1 A2 A3 A4 A5 A6 A7 A8 R : Type} (body : (A1 → A2 → A3 → A4 → A5 → A6 → A7 → A8 → Option R) → A1 → A2 → A3 → A4 → A5 → A6 → A7 → A8 → Option R) : Nat → A1 → A2 → A3 → A4 → A5 → A6 → A7 → A8 → Option R
  | 0 => fun _ _ _ _ _ _ _ _ => none
  | n + 1 => body (wh8 body n)
theorem wh8_ok {A1 A2 A3 A4 A5 A6 A7 A8 R : Type} {body : (A1 → A2 → A3 → A4 → A5 → A6 → A7 → A8 → Option R) → A1 → A2 → A3 → A4 → A5 → A6 → A7 → A8 → Option R} {x : R} {P : A1 → A2 → A3 → A4 → A5 → A6 → A7 → A8 → Prop} (hs : ∀ self : A1 → A2 → A3 → A4 → A5 → A6 → A7 → A8 → Option R, (∀ a1 a2 a3 a4 a5 a6 a7 a8, self a1 a2 a3 a4 a5 a6 a7 a8 = some x → P a1 a2 a3 a4 a5 a6 a7 a8) → ∀ a1 a2 a3 a4 a5 a6 a7 a8, body self a1 a2 a3 a4 a5 a6 a7 a8 = some x → P a1 a2 a3 a4 a5 a6 a7 a8) : ∀ (n : Nat) (a1 : A1) (a2 : A2) (a3 : A3) (a4 : A4) (a5 : A5) (a6 : A6) (a7 : A7) (a8 : A8), wh8 body n a1 a2 a3 a4 a5 a6 a7 a8 = some x → P a1 a2 a3 a4 a5 a6 a7 a8 := by
  intro n
  induction n with
  | zero => intro a1 a2 a3 a4 a5 a6 a7 a8 h; cases h
  | succ n ih => intro a1 a2 a3 a4 a5 a6 a7 a8 h; exact hs _ ih a1 a2 a3 a4 a5 a6 a7 a8 h
theorem wh8_run {A1 A2 A3 A4 A5 A6 A7 A8 R : Type} {body : (A1 → A2 → A3 → A4 → A5 → A6 → A7 → A8 → Option R) → A1 → A2 → A3 → A4 → A5 → A6 → A7 → A8 → Option R} {x : Option R} (sa1 : Nat → A1) (sa2 : Nat → A2) (sa3 : Nat → A3) (sa4 : Nat → A4) (sa5 : Nat → A5) (sa6 : Nat → A6) (sa7 : Nat → A7) (sa8 : Nat → A8) (N : Nat) (hs : ∀ i, i < N → ∀ self : A1 → A2 → A3 → A4 → A5 → A6 → A7 → A8 → Option R, body self (sa1 (i)) (sa2 (i)) (sa3 (i)) (sa4 (i)) (sa5 (i)) (sa6 (i)) (sa7 (i)) (sa8 (i)) = self (sa1 (i + 1)) (sa2 (i + 1)) (sa3 (i + 1)) (sa4 (i + 1)) (sa5 (i + 1)) (sa6 (i + 1)) (sa7 (i + 1)) (sa8 (i + 1))) (hx : ∀ self : A1 → A2 → A3 → A4 → A5 → A6 → A7 → A8 → Option R, body self (sa1 (N)) (sa2 (N)) (sa3 (N)) (sa4 (N)) (sa5 (N)) (sa6 (N)) (sa7 (N)) (sa8 (N)) = x) : ∀ (n i : Nat), i ≤ N → N < i + n → wh8 body n (sa1 (i)) (sa2 (i)) (sa3 (i)) (sa4 (i)) (sa5 (i)) (sa6 (i)) (sa7 (i)) (sa8 (i)) = x := by
  intro n
  induction n with
  | zero => intro i h1 h2; omega
  | succ n ih =>
    intro i h1 h2
    show body (wh8 body n) (sa1 (i)) (sa2 (i)) (sa3 (i)) (sa4 (i)) (sa5 (i)) (sa6 (i)) (sa7 (i)) (sa8 (i)) = x
    rcases Nat.lt_or_ge i N with hl | hl
    · rw [hs i hl]; exact ih (i + 1) hl (by omega)
    · have e : i = N := Nat.le_antisymm h1 hl
      rw [e]; exact hx _
def jn9 {A1 A2 A3 A4 A5 A6 A7 A8 A9 R : Type} (K : A1 → A2 → A3 → A4 → A5 → A6 → A7 → A8 → A9 → Option R) (f : (A1 → A2 → A3 → A4 → A5 → A6 → A7 → A8 → A9 → Option R) → Option R) : Option R := f K
theorem jn9_ok {A1 A2 A3 A4 A5 A6 A7 A8 A9 R : Type} {K : A1 → A2 → A3 → A4 → A5 → A6 → A7 → A8 → A9 → Option R} {f : (A1 → A2 → A3 → A4 → A5 → A6 → A7 → A8 → A9 → Option R) → Option R} {x : R} {P : A1 → A2 → A3 → A4 → A5 → A6 → A7 → A8 → A9 → Prop} {G : Prop} (hK : ∀ a1 a2 a3 a4 a5 a6 a7 a8 a9, K a1 a2 a3 a4 a5 a6 a7 a8 a9 = some x → P a1 a2 a3 a4 a5 a6 a7 a8 a9) (hb : ∀ J : A1 → A2 → A3 → A4 → A5 → A6 → A7 → A8 → A9 → Option R, (∀ a1 a2 a3 a4 a5 a6 a7 a8 a9, J a1 a2 a3 a4 a5 a6 a7 a8 a9 = some x → P a1 a2 a3 a4 a5 a6 a7 a8 a9) → f J = some x → G) (h : jn9 K f = some x) : G := hb K hK h
def wh9 {A1 A2 A3 A4 A5 A6 A7 A8 A9 R : Type} (body : (A1 → A2 → A3 → A4 → A5 → A6 → A7 → A8 → A9 → Option R) → A1 → A2 → A3 → A4 → A5 → A6 → A7 → A8 → A9 → Option R) : Nat → A1 → A2 → A3 → A4 → A5 → A6 → A7 → A8 → A9 → Option R
  | 0 => fun _ _ _ _ _ _ _ _ _ => none
  | n + 1 => body (wh9 body n)
theorem wh9_ok {A1 A2 A3 A4 A5 A6 A7 A8 A9 R : Type} {body : (A1 → A2 → A3 → A4 → A5 → A6 → A7 → A8 → A9 → Option R) → A1 → A2 → A3 → A4 → A5 → A6 → A7 → A8 → A9 → Option R} {x : R} {P : A1 → A2 → A3 → A4 → A5 → A6 → A7 → A8 → A9 → Prop} (hs : ∀ self : A1 → A2 → A3 → A4 → A5 → A6 → A7 → A8 → A9 → Option R, (∀ a1 a2 a3 a4 a5 a6 a7 a8 a9, self a1 a2 a3 a4 a5 a6 a7 a8 a9 = some x → P a1 a2 a3 a4 a5 a6 a7 a8 a9) → ∀ a1 a2 a3 a4 a5 a6 a7 a8 a9, body self a1 a2 a3 a4 a5 a6 a7 a8 a9 = some x → P a1 a2 a3 a4 a5 a6 a7 a8 a9) : ∀ (n : Nat) (a1 : A1) (a2 : A2) (a3 : A3) (a4 : A4) (a5 : A5) (a6 : A6) (a7 : A7) (a8 : A8) (a9 : A9), wh9 body n a1 a2 a3 a4 a5 a6 a7 a8 a9 = some x → P a1 a2 a3 a4 a5 a6 a7 a8 a9 := by
  intro n
  induction n with
  | zero => intro a1 a2 a3 a4 a5 a6 a7 a8 a9 h; cases h
  | succ n ih => intro a1 a2 a3 a4 a5 a6 a7 a8 a9 h; exact hs _ ih a1 a2 a3 a4 a5 a6 a7 a8 a9 h
theorem wh9_run {A1 A2 A3 A4 A5 A6 A7 A8 A9 R : Type} {body : (A1 → A2 → A3 → A4 → A5 → A6 → A7 → A8 → A9 → Option R) → A1 → A2 → A3 → A4 → A5 → A6 → A7 → A8 → A9 → Option R} {x : Option R} (sa1 : Nat → A1) (sa2 : Nat → A2) (sa3 : Nat → A3) (sa4 : Nat → A4) (sa5 : Nat → A5) (sa6 : Nat → A6) (sa7 : Nat → A7) (sa8 : Nat → A8) (sa9 : Nat → A9) (N : Nat) (hs : ∀ i, i < N → ∀ self : A1 → A2 → A3 → A4 → A5 → A6 → A7 → A8 → A9 → Option R, body self (sa1 (i)) (sa2 (i)) (sa3 (i)) (sa4 (i)) (sa5 (i)) (sa6 (i)) (sa7 (i)) (sa8 (i)) (sa9 (i)) = self (sa1 (i + 1)) (sa2 (i + 1)) (sa3 (i + 1)) (sa4 (i + 1)) (sa5 (i + 1)) (sa6 (i + 1)) (sa7 (i + 1)) (sa8 (i + 1)) (sa9 (i + 1))) (hx : ∀ self : A1 → A2 → A3 → A4 → A5 → A6 → A7 → A8 → A9 → Option R, body self (sa1 (N)) (sa2 (N)) (sa3 (N)) (sa4 (N)) (sa5 (N)) (sa6 (N)) (sa7 (N)) (sa8 (N)) (sa9 (N)) = x) : ∀ (n i : Nat), i ≤ N → N < i + n → wh9 body n (sa1 (i)) (sa2 (i)) (sa3 (i)) (sa4 (i)) (sa5 (i)) (sa6 (i)) (sa7 (i)) (sa8 (i)) (sa9 (i)) = x := by
  intro n
  induction n with
  | zero => intro i h1 h2; omega
  | succ n ih =>
    intro i h1 h2
    show body (wh9 body n) (sa1 (i)) (sa2 (i)) (sa3 (i)) (sa4 (i)) (sa5 (i)) (sa6 (i)) (sa7 (i)) (sa8 (i)) (sa9 (i)) = x
    rcases Nat.lt_or_ge i N with hl | hl
    · rw [hs i hl]; exact ih (i + 1) hl (by omega)
    · have e : i = N := Nat.le_antisymm h1 hl
      rw [e]; exact hx _
def jn10 {A1 A2 A3 A4 A5 A6 A7 A8 A9 A10 R : Type} (K : A1 → A2 → A3 → A4 → A5 → A6 → A7 → A8 → A9 → A10 → Option R) (f : (A1 → A2 → A3 → A4 → A5 → A6 → A7 → A8 → A9 → A10 → Option R) → Option R) : Option R := f K
theorem jn10_ok {A1 A2 A3 A4 A5 A6 A7 A8 A9 A10 R : Type} {K : A1 → A2 → A3 → A4 → A5 → A6 → A7 → A8 → A9 → A10 → Option R} {f : (A1 → A2 → A3 → A4 → A5 → A6 → A7 → A8 → A9 → A10 → Option R) → Option R} {x : R} {P : A1 → A2 → A3 → A4 → A5 → A6 → A7 → A8 → A9 → A10 → Prop} {G : Prop} (hK : ∀ a1 a2 a3 a4 a5 a6 a7 a8 a9 a10, K a1 a2 a3 a4 a5 a6 a7 a8 a9 a10 = some x → P a1 a2 a3 a4 a5 a6 a7 a8 a9 a10) (hb : ∀ J : A1 → A2 → A3 → A4 → A5 → A6 → A7 → A8 → A9 → A10 → Option R, (∀ a1 a2 a3 a4 a5 a6 a7 a8 a9 a10, J a1 a2 a3 a4 a5 a6 a7 a8 a9 a10 = some x → P a1 a2 a3 a4 a5 a6 a7 a8 a9 a10) → f J = some x → G) (h : jn10 K f = some x) : G := hb K hK h
def wh10 {A1 A2 A3 A4 A5 A6 A7 A8 A9 A10 R : Type} (body : (A1 → A2 → A3 → A4 → A5 → A6 → A7 → A8 → A9 → A10 → Option R) → A1 → A2 → A3 → A4 → A5 → A6 → A7 → A8 → A9 → A10 → Option R) : Nat → A1 → A2 → A3 → A4 → A5 → A6 → A7 → A8 → A9 → A10 → Option R
  | 0 => fun _ _ _ _ _ _ _ _ _ _ => none
  | n + 1 => body (wh10 body n)
theorem wh10_ok {A1 A2 A3 A4 A5 A6 A7 A8 A9 A10 R : Type} {body : (A1 → A2 → A3 → A4 → A5 → A6 → A7 → A8 → A9 → A10 → Option R) → A1 → A2 → A3 → A4 → A5 → A6 → A7 → A8 → A9 → A10 → Option R} {x : R} {P : A1 → A2 → A3 → A4 → A5 → A6 → A7 → A8 → A9 → A10 → Prop} (hs : ∀ self : A1 → A2 → A3 → A4 → A5 → A6 → A7 → A8 → A9 → A10 → Option R, (∀ a1 a2 a3 a4 a5 a6 a7 a8 a9 a10, self a1 a2 a3 a4 a5 a6 a7 a8 a9 a10 = some x → P a1 a2 a3 a4 a5 a6 a7 a8 a9 a10) → ∀ a1 a2 a3 a4 a5 a6 a7 a8 a9 a10, body self a1 a2 a3 a4 a5 a6 a7 a8 a9 a10 = some x → P a1 a2 a3 a4 a5 a6 a7 a8 a9 a10) : ∀ (n : Nat) (a1 : A1) (a2 : A2) (a3 : A3) (a4 : A4) (a5 : A5) (a6 : A6) (a7 : A7) (a8 : A8) (a9 : A9) (a10 : A10), wh10 body n a1 a2 a3 a4 a5 a6 a7 a8 a9 a10 = some x → P a1 a2 a3 a4 a5 a6 a7 a8 a9 a10 := by
  intro n
  induction n with
  | zero => intro a1 a2 a3 a4 a5 a6 a7 a8 a9 a10 h; cases h
  | succ n ih => intro a1 a2 a3 a4 a5 a6 a7 a8 a9 a10 h; exact hs _ ih a1 a2 a3 a4 a5 a6 a7 a8 a9 a10 h
theorem wh10_run {A1 A2 A3 A4 A5 A6 A7 A8 A9 A10 R : Type} {body : (A1 → A2 → A3 → A4 → A5 → A6 → A7 → A8 → A9 → A10 → Option R) → A1 → A2 → A3 → A4 → A5 → A6 → A7 → A8 → A9 → A10 → Option R} {x : Option R} (sa1 : Nat → A1) (sa2 : Nat → A2) (sa3 : Nat → A3) (sa4 : Nat → A4) (sa5 : Nat → A5) (sa6 : Nat → A6) (sa7 : Nat → A7) (sa8 : Nat → A8) (sa9 : Nat → A9) (sa10 : Nat → A10) (N : Nat) (hs : ∀ i, i < N → ∀ self : A1 → A2 → A3 → A4 → A5 → A6 → A7 → A8 → A9 → A10 → Option R, body self (sa1 (i)) (sa2 (i)) (sa3 (i)) (sa4 (i)) (sa5 (i)) (sa6 (i)) (sa7 (i)) (sa8 (i)) (sa9 (i)) (sa10 (i)) = self (sa1 (i + 1)) (sa2 (i + 1)) (sa3 (i + 1)) (sa4 (i + 1)) (sa5 (i + 1)) (sa6 (i + 1)) (sa7 (i + 1)) (sa8 (i + 1)) (sa9 (i + 1)) (sa10 (i + 1))) (hx : ∀ self : A1 → A2 → A3 → A4 → A5 → A6 → A7 → A8 → A9 → A10 → Option R, body self (sa1 (N)) (sa2 (N)) (sa3 (N)) (sa4 (N)) (sa5 (N)) (sa6 (N)) (sa7 (N)) (sa8 (N)) (sa9 (N)) (sa10 (N)) = x) : ∀ (n i : Nat), i ≤ N → N < i + n → wh10 body n (sa1 (i)) (sa2 (i)) (sa3 (i)) (sa4 (i)) (sa5 (i)) (sa6 (i)) (sa7 (i)) (sa8 (i)) (sa9 (i)) (sa10 (i)) = x := by
  intro n
  induction n with
  | zero => intro i h1 h2; omega
  | succ n ih =>
    intro i h1 h2
    show body (wh10 body n) (sa1 (i)) (sa2 (i)) (sa3 (i)) (sa4 (i)) (sa5 (i)) (sa6 (i)) (sa7 (i)) (sa8 (i)) (sa9 (i)) (sa10 (i)) = x
    rcases Nat.lt_or_ge i N with hl | hl
    · rw [hs i hl]; exact ih (i + 1) hl (by omega)
    · have e : i = N := Nat.le_antisymm h1 hl
      rw [e]; exact hx _
def jn11 {A1 A2 A3 A4 A5 A6 A7 A8 A9 A10 A11 R : Type} (K : A1 → A2 → A3 → A4 → A5 → A6 → A7 → A8 → A9 → A10 → A11 → Option R) (f : (A1 → A2 → A3 → A4 → A5 → A6 → A7 → A8 → A9 → A10 → A11 → Option R) → Option R) : Option R := f K
theorem jn11_ok {A1 A2 A3 A4 A5 A6 A7 A8 A9 A10 A11 R : Type} {K : A1 → A2 → A3 → A4 → A5 → A6 → A7 → A8 → A9 → A10 → A11 → Option R} {f : (A1 → A2 → A3 → A4 → A5 → A6 → A7 → A8 → A9 → A10 → A11 → Option R) → Option R} {x : R} {P : A1 → A2 → A3 → A4 → A5 → A6 → A7 → A8 → A9 → A10 → A11 → Prop} {G : Prop} (hK : ∀ a1 a2 a3 a4 a5 a6 a7 a8 a9 a10 a11, K a1 a2 a3 a4 a5 a6 a7 a8 a9 a10 a11 = some x → P a1 a2 a3 a4 a5 a6 a7 a8 a9 a10 a11) (hb : ∀ J : A1 → A2 → A3 → A4 → A5 → A6 → A7 → A8 → A9 → A10 → A11 → Option R, (∀ a1 a2 a3 a4 a5 a6 a7 a8 a9 a10 a11, J a1 a2 a3 a4 a5 a6 a7 a8 a9 a10 a11 = some x → P a1 a2 a3 a4 a5 a6 a7 a8 a9 a10 a11) → f J = some x → G) (h : jn11 K f = some x) : G := hb K hK h
def wh11 {A1 A2 A3 A4 A5 A6 A7 A8 A9 A10 A11 R : Type} (body : (A1 → A2 → A3 → A4 → A5 → A6 → A7 → A8 → A9 → A10 → A11 → Option R) → A1 → A2 → A3 → A4 → A5 → A6 → A7 → A8 → A9 → A10 → A11 → Option R) : Nat → A1 → A2 → A3 → A4 → A5 → A6 → A7 → A8 → A9 → A10 → A11 → Option R
  | 0 => fun _ _ _ _ _ _ _ _ _ _ _ => none
  | n + 1 => body (wh11 body n)
theorem wh11_ok {A1 A2 A3 A4 A5 A6 A7 A8 A9 A10 A11 R : Type} {body : (A1 → A2 → A3 → A4 → A5 → A6 → A7 → A8 → A9 → A10 → A11 → Option R) → A1 → A2 → A3 → A4 → A5 → A6 → A7 → A8 → A9 → A10 → A11 → Option R} {x : R} {P : A1 → A2 → A3 → A4 → A5 → A6 → A7 → A8 → A9 → A10 → A11 → Prop} (hs : ∀ self : A1 → A2 → A3 → A4 → A5 → A6 → A7 → A8 → A9 → A10 → A11 → Option R, (∀ a1 a2 a3 a4 a5 a6 a7 a8 a9 a10 a11, self a1 a2 a3 a4 a5 a6 a7 a8 a9 a10 a11 = some x → P a1 a2 a3 a4 a5 a6 a7 a8 a9 a10 a11) → ∀ a1 a2 a3 a4 a5 a6 a7 a8 a9 a10 a11, body self a1 a2 a3 a4 a5 a6 a7 a8 a9 a10 a11 = some x → P a1 a2 a3 a4 a5 a6 a7 a8 a9 a10 a11) : ∀ (n : Nat) (a1 : A1) (a2 : A2) (a3 : A3) (a4 : A4) (a5 : A5) (a6 : A6) (a7 : A7) (a8 : A8) (a9 : A9) (a10 : A10) (a11 : A11), wh11 body n a1 a2 a3 a4 a5 a6 a7 a8 a9 a10 a11 = some x → P a1 a2 a3 a4 a5 a6 a7 a8 a9 a10 a11 := by
  intro n
  induction n with
  | zero => intro a1 a2 a3 a4 a5 a6 a7 a8 a9 a10 a11 h; cases h
  | succ n ih => intro a1 a2 a3 a4 a5 a6 a7 a8 a9 a10 a11 h; exact hs _ ih a1 a2 a3 a4 a5 a6 a7 a8 a9 a10 a11 h
theorem wh11_run {A1 A2 A3 A4 A5 A6 A7 A8 A9 A10 A11 R : Type} {body : (A1 → A2 → A3 → A4 → A5 → A6 → A7 → A8 → A9 → A10 → A11 → Option R) → A1 → A2 → A3 → A4 → A5 → A6 → A7 → A8 → A9 → A10 → A11 → Option R} {x : Option R} (sa1 : Nat → A1) (sa2 : Nat → A2) (sa3 : Nat → A3) (sa4 : Nat → A4) (sa5 : Nat → A5) (sa6 : Nat → A6) (sa7 : Nat → A7) (sa8 : Nat → A8) (sa9 : Nat → A9) (sa10 : Nat → A10) (sa11 : Nat → A11) (N : Nat) (hs : ∀ i, i < N → ∀ self : A1 → A2 → A3 → A4 → A5 → A6 → A7 → A8 → A9 → A10 → A11 → Option R, body self (sa1 (i)) (sa2 (i)) (sa3 (i)) (sa4 (i)) (sa5 (i)) (sa6 (i)) (sa7 (i)) (sa8 (i)) (sa9 (i)) (sa10 (i)) (sa11 (i)) = self (sa1 (i + 1)) (sa2 (i + 1)) (sa3 (i + 1)) (sa4 (i + 1)) (sa5 (i + 1)) (sa6 (i + 1)) (sa7 (i + 1)) (sa8 (i + 1)) (sa9 (i + 1)) (sa10 (i + 1)) (sa11 (i + 1))) (hx : ∀ self : A1 → A2 → A3 → A4 → A5 → A6 → A7 → A8 → A9 → A10 → A11 → Option R, body self (sa1 (N)) (sa2 (N)) (sa3 (N)) (sa4 (N)) (sa5 (N)) (sa6 (N)) (sa7 (N)) (sa8 (N)) (sa9 (N)) (sa10 (N)) (sa11 (N)) = x) : ∀ (n i : Nat), i ≤ N → N < i + n → wh11 body n (sa1 (i)) (sa2 (i)) (sa3 (i)) (sa4 (i)) (sa5 (i)) (sa6 (i)) (sa7 (i)) (sa8 (i)) (sa9 (i)) (sa10 (i)) (sa11 (i)) = x := by
  intro n
  induction n with
  | zero => intro i h1 h2; omega
  | succ n ih =>
    intro i h1 h2
    show body (wh11 body n) (sa1 (i)) (sa2 (i)) (sa3 (i)) (sa4 (i)) (sa5 (i)) (sa6 (i)) (sa7 (i)) (sa8 (i)) (sa9 (i)) (sa10 (i)) (sa11 (i)) = x
    rcases Nat.lt_or_ge i N with hl | hl
    · rw [hs i hl]; exact ih (i + 1) hl (by omega)
    · have e : i = N := Nat.le_antisymm h1 hl
      rw [e]; exact hx _
/-! ===== a row an instruction ===== -/
section VR
variable {X : VX} {D : va_G} {Y : Nat → ClassId} {cc : ByteArray} {nL : Nat} {own : String} {Ts : List Cond} {ret : Option FieldType} {rm : Room} {Q : State → Prop} {K : va_W → Heap → List Loc → Prop} {cs : Nat × Nat} {ws : va_W} {lv : List (Nat × Value)} {pc : Nat} {st : List Value}

theorem V_iadd (C : Cx X D Y cc nL own Ts ret rm) {x y : Int32} (d : decode cc pc = .ok (.iadd, 1))  (k : VW X D nL Q K cs ws lv (pc + 1) (.int (x + y) :: st)) : VW X D nL Q K cs ws lv (pc) (.int y :: .int x :: st) := fun H locs ls hP hK hl => lv_iadd C.1.1 C.1.2.1 d (k H locs ls hP hK hl)
theorem V_isub (C : Cx X D Y cc nL own Ts ret rm) {x y : Int32} (d : decode cc pc = .ok (.isub, 1))  (k : VW X D nL Q K cs ws lv (pc + 1) (.int (x - y) :: st)) : VW X D nL Q K cs ws lv (pc) (.int y :: .int x :: st) := fun H locs ls hP hK hl => lv_isub C.1.1 C.1.2.1 d (k H locs ls hP hK hl)
theorem V_imul (C : Cx X D Y cc nL own Ts ret rm) {x y : Int32} (d : decode cc pc = .ok (.imul, 1))  (k : VW X D nL Q K cs ws lv (pc + 1) (.int (x * y) :: st)) : VW X D nL Q K cs ws lv (pc) (.int y :: .int x :: st) := fun H locs ls hP hK hl => lv_imul C.1.1 C.1.2.1 d (k H locs ls hP hK hl)
theorem V_iand (C : Cx X D Y cc nL own Ts ret rm) {x y : Int32} (d : decode cc pc = .ok (.iand, 1))  (k : VW X D nL Q K cs ws lv (pc + 1) (.int (x &&& y) :: st)) : VW X D nL Q K cs ws lv (pc) (.int y :: .int x :: st) := fun H locs ls hP hK hl => lv_iand C.1.1 C.1.2.1 d (k H locs ls hP hK hl)
theorem V_ior (C : Cx X D Y cc nL own Ts ret rm) {x y : Int32} (d : decode cc pc = .ok (.ior, 1))  (k : VW X D nL Q K cs ws lv (pc + 1) (.int (x ||| y) :: st)) : VW X D nL Q K cs ws lv (pc) (.int y :: .int x :: st) := fun H locs ls hP hK hl => lv_ior C.1.1 C.1.2.1 d (k H locs ls hP hK hl)
theorem V_ladd (C : Cx X D Y cc nL own Ts ret rm) {x y : Int64} (d : decode cc pc = .ok (.ladd, 1))  (k : VW X D nL Q K cs ws lv (pc + 1) (.long (x + y) :: st)) : VW X D nL Q K cs ws lv (pc) (.long y :: .long x :: st) := fun H locs ls hP hK hl => lv_ladd C.1.1 C.1.2.1 d (k H locs ls hP hK hl)
theorem V_lsub (C : Cx X D Y cc nL own Ts ret rm) {x y : Int64} (d : decode cc pc = .ok (.lsub, 1))  (k : VW X D nL Q K cs ws lv (pc + 1) (.long (x - y) :: st)) : VW X D nL Q K cs ws lv (pc) (.long y :: .long x :: st) := fun H locs ls hP hK hl => lv_lsub C.1.1 C.1.2.1 d (k H locs ls hP hK hl)
theorem V_lmul (C : Cx X D Y cc nL own Ts ret rm) {x y : Int64} (d : decode cc pc = .ok (.lmul, 1))  (k : VW X D nL Q K cs ws lv (pc + 1) (.long (x * y) :: st)) : VW X D nL Q K cs ws lv (pc) (.long y :: .long x :: st) := fun H locs ls hP hK hl => lv_lmul C.1.1 C.1.2.1 d (k H locs ls hP hK hl)
theorem V_idiv (C : Cx X D Y cc nL own Ts ret rm) {x y : Int32} (d : decode cc pc = .ok (.idiv, 1)) (hne : ¬ y = 0) (k : VW X D nL Q K cs ws lv (pc + 1) (.int (x / y) :: st)) : VW X D nL Q K cs ws lv (pc) (.int y :: .int x :: st) := fun H locs ls hP hK hl => lv_idiv C.1.1 C.1.2.1 d hne (k H locs ls hP hK hl)
theorem V_irem (C : Cx X D Y cc nL own Ts ret rm) {x y : Int32} (d : decode cc pc = .ok (.irem, 1)) (hne : ¬ y = 0) (k : VW X D nL Q K cs ws lv (pc + 1) (.int (x - x / y * y) :: st)) : VW X D nL Q K cs ws lv (pc) (.int y :: .int x :: st) := fun H locs ls hP hK hl => lv_irem C.1.1 C.1.2.1 d hne (k H locs ls hP hK hl)
theorem V_ldiv (C : Cx X D Y cc nL own Ts ret rm) {x y : Int64} (d : decode cc pc = .ok (.ldiv, 1)) (hne : ¬ y = 0) (k : VW X D nL Q K cs ws lv (pc + 1) (.long (x / y) :: st)) : VW X D nL Q K cs ws lv (pc) (.long y :: .long x :: st) := fun H locs ls hP hK hl => lv_ldiv C.1.1 C.1.2.1 d hne (k H locs ls hP hK hl)
theorem V_lrem (C : Cx X D Y cc nL own Ts ret rm) {x y : Int64} (d : decode cc pc = .ok (.lrem, 1)) (hne : ¬ y = 0) (k : VW X D nL Q K cs ws lv (pc + 1) (.long (x - x / y * y) :: st)) : VW X D nL Q K cs ws lv (pc) (.long y :: .long x :: st) := fun H locs ls hP hK hl => lv_lrem C.1.1 C.1.2.1 d hne (k H locs ls hP hK hl)
theorem V_lneg (C : Cx X D Y cc nL own Ts ret rm) {x : Int64} (d : decode cc pc = .ok (.lneg, 1))  (k : VW X D nL Q K cs ws lv (pc + 1) (.long (-x) :: st)) : VW X D nL Q K cs ws lv (pc) (.long x :: st) := fun H locs ls hP hK hl => lv_lneg C.1.1 C.1.2.1 d (k H locs ls hP hK hl)
theorem V_ishl (C : Cx X D Y cc nL own Ts ret rm) {x y : Int32} (d : decode cc pc = .ok (.ishl, 1))  (k : VW X D nL Q K cs ws lv (pc + 1) (.int (x <<< (y &&& 31)) :: st)) : VW X D nL Q K cs ws lv (pc) (.int y :: .int x :: st) := fun H locs ls hP hK hl => lv_ishl C.1.1 C.1.2.1 d (k H locs ls hP hK hl)
theorem V_ishr (C : Cx X D Y cc nL own Ts ret rm) {x y : Int32} (d : decode cc pc = .ok (.ishr, 1))  (k : VW X D nL Q K cs ws lv (pc + 1) (.int (x >>> (y &&& 31)) :: st)) : VW X D nL Q K cs ws lv (pc) (.int y :: .int x :: st) := fun H locs ls hP hK hl => lv_ishr C.1.1 C.1.2.1 d (k H locs ls hP hK hl)
theorem V_i2l (C : Cx X D Y cc nL own Ts ret rm) {x : Int32} (d : decode cc pc = .ok (.i2l, 1))  (k : VW X D nL Q K cs ws lv (pc + 1) (.long x.toInt64 :: st)) : VW X D nL Q K cs ws lv (pc) (.int x :: st) := fun H locs ls hP hK hl => lv_i2l C.1.1 C.1.2.1 d rfl (k H locs ls hP hK hl)
theorem V_l2i (C : Cx X D Y cc nL own Ts ret rm) {x : Int64} (d : decode cc pc = .ok (.l2i, 1))  (k : VW X D nL Q K cs ws lv (pc + 1) (.int x.toInt32 :: st)) : VW X D nL Q K cs ws lv (pc) (.long x :: st) := fun H locs ls hP hK hl => lv_l2i C.1.1 C.1.2.1 d rfl (k H locs ls hP hK hl)
theorem V_lcmp (C : Cx X D Y cc nL own Ts ret rm) {x y : Int64} (d : decode cc pc = .ok (.lcmp, 1))  (k : VW X D nL Q K cs ws lv (pc + 1) (.int (lg_cmp x y) :: st)) : VW X D nL Q K cs ws lv (pc) (.long y :: .long x :: st) := fun H locs ls hP hK hl => W.lcmp C.1.1 C.1.2.1 d (k H locs ls hP hK hl)
theorem V_iconst (C : Cx X D Y cc nL own Ts ret rm) {n : Int} {v : Int32} (d : decode cc pc = .ok (.iconst n, 1)) (hv : Int32.ofInt n = v) (k : VW X D nL Q K cs ws lv (pc + 1) (.int v :: st)) : VW X D nL Q K cs ws lv (pc) (st) := fun H locs ls hP hK hl => lv_iconst C.1.1 C.1.2.1 d hv (k H locs ls hP hK hl)
theorem V_bipush (C : Cx X D Y cc nL own Ts ret rm) {n : Int} {v : Int32} (d : decode cc pc = .ok (.bipush n, 2)) (hv : (Int8.ofInt n).toInt32 = v) (k : VW X D nL Q K cs ws lv (pc + 2) (.int v :: st)) : VW X D nL Q K cs ws lv (pc) (st) := fun H locs ls hP hK hl => lv_bipush C.1.1 C.1.2.1 d hv (k H locs ls hP hK hl)
theorem V_lconst (C : Cx X D Y cc nL own Ts ret rm) {n : Fin 2} {v : Int64} (d : decode cc pc = .ok (.lconst n, 1)) (hv : Int64.ofNat (n : Nat) = v) (k : VW X D nL Q K cs ws lv (pc + 1) (.long v :: st)) : VW X D nL Q K cs ws lv (pc) (st) := fun H locs ls hP hK hl => lv_lconst C.1.1 C.1.2.1 d hv (k H locs ls hP hK hl)
theorem V_ldc (C : Cx X D Y cc nL own Ts ret rm) {ix : Nat} {v : Int32} (d : decode cc pc = .ok (.ldc ix, 2)) (hw : Cond.constant own ix v ∈ Ts) (k : VW X D nL Q K cs ws lv (pc + 2) (.int v :: st)) : VW X D nL Q K cs ws lv (pc) (st) := fun H locs ls hP hK hl => lv_ldc C.1.1 C.1.2.1 C.1.2.2.2.1 (C.1.2.2.2.2 _ hw) d (k H locs ls hP hK hl)
theorem V_ldc2 (C : Cx X D Y cc nL own Ts ret rm) {ix : Nat} {v : Int64} (d : decode cc pc = .ok (.ldc2_w ix, 3)) (hw : Cond.constantLong own ix v ∈ Ts) (k : VW X D nL Q K cs ws lv (pc + 3) (.long v :: st)) : VW X D nL Q K cs ws lv (pc) (st) := fun H locs ls hP hK hl => lv_ldc2 C.1.1 C.1.2.1 C.1.2.2.2.1 (C.1.2.2.2.2 _ hw) d (k H locs ls hP hK hl)
theorem V_iload_n (C : Cx X D Y cc nL own Ts ret rm) {i : Fin 4} {j : Nat} {x : Int32} (d : decode cc pc = .ok (.iload_n i, 1)) (hi : (i : Nat) = j) (q : Nat) (hq : lv[q]? = some (j, .int x)) (k : VW X D nL Q K cs ws lv (pc + 1) (.int x :: st)) : VW X D nL Q K cs ws lv (pc) (st) := fun H locs ls hP hK hl => lv_iload_n C.1.1 C.1.2.1 d hi (lv_at hl q hq) (k H locs ls hP hK hl)
theorem V_iload (C : Cx X D Y cc nL own Ts ret rm) {i : Nat} {x : Int32} (d : decode cc pc = .ok (.iload i, 2)) (q : Nat) (hq : lv[q]? = some (i, .int x)) (k : VW X D nL Q K cs ws lv (pc + 2) (.int x :: st)) : VW X D nL Q K cs ws lv (pc) (st) := fun H locs ls hP hK hl => lv_iload C.1.1 C.1.2.1 d (lv_at hl q hq) (k H locs ls hP hK hl)
theorem V_istore_n (C : Cx X D Y cc nL own Ts ret rm) {i : Fin 4} {j : Nat} {x : Int32} {lv' : List (Nat × Value)} (d : decode cc pc = .ok (.istore_n i, 1)) (hi : (i : Nat) = j) (hn : j < nL) (hl2 : (j, Value.int x) :: lv.filter (fun q => !(q.1 == j) && !(q.1 + 1 == j && q.2.category == 2)) = lv') (k : VW X D nL Q K cs ws lv' (pc + 1) (st)) : VW X D nL Q K cs ws lv (pc) (.int x :: st) := fun H locs ls hP hK hl => lv_istore_n C.1.1 C.1.2.1 d hi hl hn hl2 (fun ls' hl' => k H locs ls' hP hK hl')
theorem V_istore (C : Cx X D Y cc nL own Ts ret rm) {j : Nat} {x : Int32} {lv' : List (Nat × Value)} (d : decode cc pc = .ok (.istore j, 2)) (hn : j < nL) (hl2 : (j, Value.int x) :: lv.filter (fun q => !(q.1 == j) && !(q.1 + 1 == j && q.2.category == 2)) = lv') (k : VW X D nL Q K cs ws lv' (pc + 2) (st)) : VW X D nL Q K cs ws lv (pc) (.int x :: st) := fun H locs ls hP hK hl => lv_istore C.1.1 C.1.2.1 d hl hn hl2 (fun ls' hl' => k H locs ls' hP hK hl')
theorem V_lload_n (C : Cx X D Y cc nL own Ts ret rm) {i : Fin 4} {j : Nat} {x : Int64} (d : decode cc pc = .ok (.lload_n i, 1)) (hi : (i : Nat) = j) (q : Nat) (hq : lv[q]? = some (j, .long x)) (k : VW X D nL Q K cs ws lv (pc + 1) (.long x :: st)) : VW X D nL Q K cs ws lv (pc) (st) := fun H locs ls hP hK hl => lv_lload_n C.1.1 C.1.2.1 d hi (lv_at hl q hq) (k H locs ls hP hK hl)
theorem V_lload (C : Cx X D Y cc nL own Ts ret rm) {i : Nat} {x : Int64} (d : decode cc pc = .ok (.lload i, 2)) (q : Nat) (hq : lv[q]? = some (i, .long x)) (k : VW X D nL Q K cs ws lv (pc + 2) (.long x :: st)) : VW X D nL Q K cs ws lv (pc) (st) := fun H locs ls hP hK hl => lv_lload C.1.1 C.1.2.1 d (lv_at hl q hq) (k H locs ls hP hK hl)
theorem V_lstore_n (C : Cx X D Y cc nL own Ts ret rm) {i : Fin 4} {j : Nat} {x : Int64} {lv' : List (Nat × Value)} (d : decode cc pc = .ok (.lstore_n i, 1)) (hi : (i : Nat) = j) (hn : j + 1 < nL) (hl2 : (j, Value.long x) :: lv.filter (fun q => !(q.1 == j) && (!(q.1 == j + 1) && !(q.1 + 1 == j && q.2.category == 2))) = lv') (k : VW X D nL Q K cs ws lv' (pc + 1) (st)) : VW X D nL Q K cs ws lv (pc) (.long x :: st) := fun H locs ls hP hK hl => lv_lstore_n C.1.1 C.1.2.1 d hi hl hn hl2 (fun ls' hl' => k H locs ls' hP hK hl')
theorem V_lstore (C : Cx X D Y cc nL own Ts ret rm) {j : Nat} {x : Int64} {lv' : List (Nat × Value)} (d : decode cc pc = .ok (.lstore j, 2)) (hn : j + 1 < nL) (hl2 : (j, Value.long x) :: lv.filter (fun q => !(q.1 == j) && (!(q.1 == j + 1) && !(q.1 + 1 == j && q.2.category == 2))) = lv') (k : VW X D nL Q K cs ws lv' (pc + 2) (st)) : VW X D nL Q K cs ws lv (pc) (.long x :: st) := fun H locs ls hP hK hl => lv_lstore C.1.1 C.1.2.1 d hl hn hl2 (fun ls' hl' => k H locs ls' hP hK hl')
theorem V_aload_n (C : Cx X D Y cc nL own Ts ret rm) {i : Fin 4} {j : Nat} {x : Nat} (d : decode cc pc = .ok (.aload_n i, 1)) (hi : (i : Nat) = j) (q : Nat) (hq : lv[q]? = some (j, .ref x)) (k : VW X D nL Q K cs ws lv (pc + 1) (.ref x :: st)) : VW X D nL Q K cs ws lv (pc) (st) := fun H locs ls hP hK hl => lv_aload_n C.1.1 C.1.2.1 d hi (lv_at hl q hq) (k H locs ls hP hK hl)
theorem V_aload (C : Cx X D Y cc nL own Ts ret rm) {i : Nat} {x : Nat} (d : decode cc pc = .ok (.aload i, 2)) (q : Nat) (hq : lv[q]? = some (i, .ref x)) (k : VW X D nL Q K cs ws lv (pc + 2) (.ref x :: st)) : VW X D nL Q K cs ws lv (pc) (st) := fun H locs ls hP hK hl => lv_aload C.1.1 C.1.2.1 d (lv_at hl q hq) (k H locs ls hP hK hl)
theorem V_astore_n (C : Cx X D Y cc nL own Ts ret rm) {i : Fin 4} {j : Nat} {x : Nat} {lv' : List (Nat × Value)} (d : decode cc pc = .ok (.astore_n i, 1)) (hi : (i : Nat) = j) (hn : j < nL) (hl2 : (j, Value.ref x) :: lv.filter (fun q => !(q.1 == j) && !(q.1 + 1 == j && q.2.category == 2)) = lv') (k : VW X D nL Q K cs ws lv' (pc + 1) (st)) : VW X D nL Q K cs ws lv (pc) (.ref x :: st) := fun H locs ls hP hK hl => lv_astore_n C.1.1 C.1.2.1 d hi hl hn hl2 (fun ls' hl' => k H locs ls' hP hK hl')
theorem V_astore (C : Cx X D Y cc nL own Ts ret rm) {j : Nat} {x : Nat} {lv' : List (Nat × Value)} (d : decode cc pc = .ok (.astore j, 2)) (hn : j < nL) (hl2 : (j, Value.ref x) :: lv.filter (fun q => !(q.1 == j) && !(q.1 + 1 == j && q.2.category == 2)) = lv') (k : VW X D nL Q K cs ws lv' (pc + 2) (st)) : VW X D nL Q K cs ws lv (pc) (.ref x :: st) := fun H locs ls hP hK hl => lv_astore C.1.1 C.1.2.1 d hl hn hl2 (fun ls' hl' => k H locs ls' hP hK hl')
theorem V_iinc (C : Cx X D Y cc nL own Ts ret rm) {j : Nat} {n : Int} {x v : Int32} {lv' : List (Nat × Value)} (d : decode cc pc = .ok (.iinc j n, 3)) (q : Nat) (hq : lv[q]? = some (j, .int x)) (hv : x + Int32.ofInt n = v) (hn : j < nL) (hl2 : (j, Value.int v) :: lv.filter (fun q => !(q.1 == j) && !(q.1 + 1 == j && q.2.category == 2)) = lv') (k : VW X D nL Q K cs ws lv' (pc + 3) (st)) : VW X D nL Q K cs ws lv (pc) (st) := fun H locs ls hP hK hl => lv_iinc C.1.1 C.1.2.1 d hl hq hv hn hl2 (fun ls' hl' => k H locs ls' hP hK hl')
theorem V_dup (C : Cx X D Y cc nL own Ts ret rm) {v : Value} (d : decode cc pc = .ok (.dup, 1)) (hv : v.category = 1) (k : VW X D nL Q K cs ws lv (pc + 1) (v :: v :: st)) : VW X D nL Q K cs ws lv (pc) (v :: st) := fun H locs ls hP hK hl => lv_dup C.1.1 C.1.2.1 d hv (k H locs ls hP hK hl)
theorem V_pop (C : Cx X D Y cc nL own Ts ret rm) {v : Value} (d : decode cc pc = .ok (.pop, 1)) (hv : v.category = 1) (k : VW X D nL Q K cs ws lv (pc + 1) (st)) : VW X D nL Q K cs ws lv (pc) (v :: st) := fun H locs ls hP hK hl => lv_pop C.1.1 C.1.2.1 d hv (k H locs ls hP hK hl)
theorem V_dup2 (C : Cx X D Y cc nL own Ts ret rm) {v u : Value} (d : decode cc pc = .ok (.dup2, 1)) (hv : v.category = 1) (hu : u.category = 1) (k : VW X D nL Q K cs ws lv (pc + 1) (v :: u :: v :: u :: st)) : VW X D nL Q K cs ws lv (pc) (v :: u :: st) := fun H locs ls hP hK hl => lv_dup2_11 C.1.1 C.1.2.1 d hv hu (k H locs ls hP hK hl)
theorem V_if_eq (C : Cx X D Y cc nL own Ts ret rm) {x : Int32} {off : Int} (tgt : Nat) (d : decode cc pc = .ok (.ifCond .eq off, 3)) (ht : (pc : Int) + off = (tgt : Int)) (kt : x = 0 → VW X D nL Q K cs ws lv (tgt) (st)) (kf : ¬ x = 0 → VW X D nL Q K cs ws lv (pc + 3) (st)) : VW X D nL Q K cs ws lv (pc) (.int x :: st) := fun H locs ls hP hK hl => lv_if_eq C.1.1 C.1.2.1 d ht (fun h => kt h H locs ls hP hK hl) (fun h => kf h H locs ls hP hK hl)
theorem V_icmp_eq (C : Cx X D Y cc nL own Ts ret rm) {x y : Int32} {off : Int} (tgt : Nat) (d : decode cc pc = .ok (.if_icmp .eq off, 3)) (ht : (pc : Int) + off = (tgt : Int)) (kt : x = y → VW X D nL Q K cs ws lv (tgt) (st)) (kf : ¬ x = y → VW X D nL Q K cs ws lv (pc + 3) (st)) : VW X D nL Q K cs ws lv (pc) (.int y :: .int x :: st) := fun H locs ls hP hK hl => lv_icmp_eq C.1.1 C.1.2.1 d ht (fun h => kt h H locs ls hP hK hl) (fun h => kf h H locs ls hP hK hl)
theorem V_lif_eq (C : Cx X D Y cc nL own Ts ret rm) {x y : Int64} {off : Int} (tgt : Nat) (d : decode cc pc = .ok (.ifCond .eq off, 3)) (ht : (pc : Int) + off = (tgt : Int)) (kt : x = y → VW X D nL Q K cs ws lv (tgt) (st)) (kf : ¬ x = y → VW X D nL Q K cs ws lv (pc + 3) (st)) : VW X D nL Q K cs ws lv (pc) (.int (lg_cmp x y) :: st) := V_if_eq C tgt d ht (fun h => kt ((lg_cmp_eq x y).mp h)) (fun h => kf (fun e => h ((lg_cmp_eq x y).mpr e)))
theorem V_if_ne (C : Cx X D Y cc nL own Ts ret rm) {x : Int32} {off : Int} (tgt : Nat) (d : decode cc pc = .ok (.ifCond .ne off, 3)) (ht : (pc : Int) + off = (tgt : Int)) (kt : ¬ x = 0 → VW X D nL Q K cs ws lv (tgt) (st)) (kf : x = 0 → VW X D nL Q K cs ws lv (pc + 3) (st)) : VW X D nL Q K cs ws lv (pc) (.int x :: st) := fun H locs ls hP hK hl => lv_if_ne C.1.1 C.1.2.1 d ht (fun h => kt h H locs ls hP hK hl) (fun h => kf h H locs ls hP hK hl)
theorem V_icmp_ne (C : Cx X D Y cc nL own Ts ret rm) {x y : Int32} {off : Int} (tgt : Nat) (d : decode cc pc = .ok (.if_icmp .ne off, 3)) (ht : (pc : Int) + off = (tgt : Int)) (kt : ¬ x = y → VW X D nL Q K cs ws lv (tgt) (st)) (kf : x = y → VW X D nL Q K cs ws lv (pc + 3) (st)) : VW X D nL Q K cs ws lv (pc) (.int y :: .int x :: st) := fun H locs ls hP hK hl => lv_icmp_ne C.1.1 C.1.2.1 d ht (fun h => kt h H locs ls hP hK hl) (fun h => kf h H locs ls hP hK hl)
theorem V_lif_ne (C : Cx X D Y cc nL own Ts ret rm) {x y : Int64} {off : Int} (tgt : Nat) (d : decode cc pc = .ok (.ifCond .ne off, 3)) (ht : (pc : Int) + off = (tgt : Int)) (kt : ¬ x = y → VW X D nL Q K cs ws lv (tgt) (st)) (kf : x = y → VW X D nL Q K cs ws lv (pc + 3) (st)) : VW X D nL Q K cs ws lv (pc) (.int (lg_cmp x y) :: st) := V_if_ne C tgt d ht (fun h => kt (fun e => h ((lg_cmp_eq x y).mpr e))) (fun h => kf ((lg_cmp_eq x y).mp h))
theorem V_if_lt (C : Cx X D Y cc nL own Ts ret rm) {x : Int32} {off : Int} (tgt : Nat) (d : decode cc pc = .ok (.ifCond .lt off, 3)) (ht : (pc : Int) + off = (tgt : Int)) (kt : x < 0 → VW X D nL Q K cs ws lv (tgt) (st)) (kf : ¬ x < 0 → VW X D nL Q K cs ws lv (pc + 3) (st)) : VW X D nL Q K cs ws lv (pc) (.int x :: st) := fun H locs ls hP hK hl => lv_if_lt C.1.1 C.1.2.1 d ht (fun h => kt h H locs ls hP hK hl) (fun h => kf h H locs ls hP hK hl)
theorem V_icmp_lt (C : Cx X D Y cc nL own Ts ret rm) {x y : Int32} {off : Int} (tgt : Nat) (d : decode cc pc = .ok (.if_icmp .lt off, 3)) (ht : (pc : Int) + off = (tgt : Int)) (kt : x < y → VW X D nL Q K cs ws lv (tgt) (st)) (kf : ¬ x < y → VW X D nL Q K cs ws lv (pc + 3) (st)) : VW X D nL Q K cs ws lv (pc) (.int y :: .int x :: st) := fun H locs ls hP hK hl => lv_icmp_lt C.1.1 C.1.2.1 d ht (fun h => kt h H locs ls hP hK hl) (fun h => kf h H locs ls hP hK hl)
theorem V_lif_lt (C : Cx X D Y cc nL own Ts ret rm) {x y : Int64} {off : Int} (tgt : Nat) (d : decode cc pc = .ok (.ifCond .lt off, 3)) (ht : (pc : Int) + off = (tgt : Int)) (kt : x < y → VW X D nL Q K cs ws lv (tgt) (st)) (kf : ¬ x < y → VW X D nL Q K cs ws lv (pc + 3) (st)) : VW X D nL Q K cs ws lv (pc) (.int (lg_cmp x y) :: st) := V_if_lt C tgt d ht (fun h => kt ((lg_cmp_lt x y).mp h)) (fun h => kf (fun e => h ((lg_cmp_lt x y).mpr e)))
theorem V_if_ge (C : Cx X D Y cc nL own Ts ret rm) {x : Int32} {off : Int} (tgt : Nat) (d : decode cc pc = .ok (.ifCond .ge off, 3)) (ht : (pc : Int) + off = (tgt : Int)) (kt : 0 ≤ x → VW X D nL Q K cs ws lv (tgt) (st)) (kf : ¬ 0 ≤ x → VW X D nL Q K cs ws lv (pc + 3) (st)) : VW X D nL Q K cs ws lv (pc) (.int x :: st) := fun H locs ls hP hK hl => lv_if_ge C.1.1 C.1.2.1 d ht (fun h => kt h H locs ls hP hK hl) (fun h => kf h H locs ls hP hK hl)
theorem V_icmp_ge (C : Cx X D Y cc nL own Ts ret rm) {x y : Int32} {off : Int} (tgt : Nat) (d : decode cc pc = .ok (.if_icmp .ge off, 3)) (ht : (pc : Int) + off = (tgt : Int)) (kt : y ≤ x → VW X D nL Q K cs ws lv (tgt) (st)) (kf : ¬ y ≤ x → VW X D nL Q K cs ws lv (pc + 3) (st)) : VW X D nL Q K cs ws lv (pc) (.int y :: .int x :: st) := fun H locs ls hP hK hl => lv_icmp_ge C.1.1 C.1.2.1 d ht (fun h => kt h H locs ls hP hK hl) (fun h => kf h H locs ls hP hK hl)
theorem V_lif_ge (C : Cx X D Y cc nL own Ts ret rm) {x y : Int64} {off : Int} (tgt : Nat) (d : decode cc pc = .ok (.ifCond .ge off, 3)) (ht : (pc : Int) + off = (tgt : Int)) (kt : y ≤ x → VW X D nL Q K cs ws lv (tgt) (st)) (kf : ¬ y ≤ x → VW X D nL Q K cs ws lv (pc + 3) (st)) : VW X D nL Q K cs ws lv (pc) (.int (lg_cmp x y) :: st) := V_if_ge C tgt d ht (fun h => kt ((lg_cmp_ge x y).mp h)) (fun h => kf (fun e => h ((lg_cmp_ge x y).mpr e)))
theorem V_if_gt (C : Cx X D Y cc nL own Ts ret rm) {x : Int32} {off : Int} (tgt : Nat) (d : decode cc pc = .ok (.ifCond .gt off, 3)) (ht : (pc : Int) + off = (tgt : Int)) (kt : 0 < x → VW X D nL Q K cs ws lv (tgt) (st)) (kf : ¬ 0 < x → VW X D nL Q K cs ws lv (pc + 3) (st)) : VW X D nL Q K cs ws lv (pc) (.int x :: st) := fun H locs ls hP hK hl => lv_if_gt C.1.1 C.1.2.1 d ht (fun h => kt h H locs ls hP hK hl) (fun h => kf h H locs ls hP hK hl)
theorem V_icmp_gt (C : Cx X D Y cc nL own Ts ret rm) {x y : Int32} {off : Int} (tgt : Nat) (d : decode cc pc = .ok (.if_icmp .gt off, 3)) (ht : (pc : Int) + off = (tgt : Int)) (kt : y < x → VW X D nL Q K cs ws lv (tgt) (st)) (kf : ¬ y < x → VW X D nL Q K cs ws lv (pc + 3) (st)) : VW X D nL Q K cs ws lv (pc) (.int y :: .int x :: st) := fun H locs ls hP hK hl => lv_icmp_gt C.1.1 C.1.2.1 d ht (fun h => kt h H locs ls hP hK hl) (fun h => kf h H locs ls hP hK hl)
theorem V_lif_gt (C : Cx X D Y cc nL own Ts ret rm) {x y : Int64} {off : Int} (tgt : Nat) (d : decode cc pc = .ok (.ifCond .gt off, 3)) (ht : (pc : Int) + off = (tgt : Int)) (kt : y < x → VW X D nL Q K cs ws lv (tgt) (st)) (kf : ¬ y < x → VW X D nL Q K cs ws lv (pc + 3) (st)) : VW X D nL Q K cs ws lv (pc) (.int (lg_cmp x y) :: st) := V_if_gt C tgt d ht (fun h => kt ((lg_cmp_gt x y).mp h)) (fun h => kf (fun e => h ((lg_cmp_gt x y).mpr e)))
theorem V_if_le (C : Cx X D Y cc nL own Ts ret rm) {x : Int32} {off : Int} (tgt : Nat) (d : decode cc pc = .ok (.ifCond .le off, 3)) (ht : (pc : Int) + off = (tgt : Int)) (kt : x ≤ 0 → VW X D nL Q K cs ws lv (tgt) (st)) (kf : ¬ x ≤ 0 → VW X D nL Q K cs ws lv (pc + 3) (st)) : VW X D nL Q K cs ws lv (pc) (.int x :: st) := fun H locs ls hP hK hl => lv_if_le C.1.1 C.1.2.1 d ht (fun h => kt h H locs ls hP hK hl) (fun h => kf h H locs ls hP hK hl)
theorem V_icmp_le (C : Cx X D Y cc nL own Ts ret rm) {x y : Int32} {off : Int} (tgt : Nat) (d : decode cc pc = .ok (.if_icmp .le off, 3)) (ht : (pc : Int) + off = (tgt : Int)) (kt : x ≤ y → VW X D nL Q K cs ws lv (tgt) (st)) (kf : ¬ x ≤ y → VW X D nL Q K cs ws lv (pc + 3) (st)) : VW X D nL Q K cs ws lv (pc) (.int y :: .int x :: st) := fun H locs ls hP hK hl => lv_icmp_le C.1.1 C.1.2.1 d ht (fun h => kt h H locs ls hP hK hl) (fun h => kf h H locs ls hP hK hl)
theorem V_lif_le (C : Cx X D Y cc nL own Ts ret rm) {x y : Int64} {off : Int} (tgt : Nat) (d : decode cc pc = .ok (.ifCond .le off, 3)) (ht : (pc : Int) + off = (tgt : Int)) (kt : x ≤ y → VW X D nL Q K cs ws lv (tgt) (st)) (kf : ¬ x ≤ y → VW X D nL Q K cs ws lv (pc + 3) (st)) : VW X D nL Q K cs ws lv (pc) (.int (lg_cmp x y) :: st) := V_if_le C tgt d ht (fun h => kt ((lg_cmp_le x y).mp h)) (fun h => kf (fun e => h ((lg_cmp_le x y).mpr e)))
theorem V_goto (C : Cx X D Y cc nL own Ts ret rm) {off : Int} (tgt : Nat) (d : decode cc pc = .ok (.goto off, 3)) (ht : (pc : Int) + off = (tgt : Int)) (k : VW X D nL Q K cs ws lv (tgt) (st)) : VW X D nL Q K cs ws lv (pc) (st) := fun H locs ls hP hK hl => lv_goto C.1.1 C.1.2.1 d ht (k H locs ls hP hK hl)
theorem V_tableOut (C : Cx X D Y cc nL own Ts ret rm) {dflt lo hi : Int} {offs : Array Int} {len : Nat} {x : Int32} (tgt : Nat) (d : decode cc pc = .ok (.tableswitch dflt lo hi offs, len)) (h : x.toInt < lo ∨ hi < x.toInt) (ht : (pc : Int) + dflt = (tgt : Int)) (k : VW X D nL Q K cs ws lv (tgt) (st)) : VW X D nL Q K cs ws lv (pc) (.int x :: st) := fun H locs ls hP hK hl => lv_tableOut C.1.1 C.1.2.1 d h ht (k H locs ls hP hK hl)
theorem V_tableIn (C : Cx X D Y cc nL own Ts ret rm) {dflt lo hi : Int} {offs : Array Int} {len : Nat} {x : Int32} {off : Int} (tgt : Nat) (d : decode cc pc = .ok (.tableswitch dflt lo hi offs, len)) (h1 : ¬ x.toInt < lo) (h2 : ¬ hi < x.toInt) (ho : offs[(x.toInt - lo).toNat]? = some off) (ht : (pc : Int) + off = (tgt : Int)) (k : VW X D nL Q K cs ws lv (tgt) (st)) : VW X D nL Q K cs ws lv (pc) (.int x :: st) := fun H locs ls hP hK hl => lv_tableIn C.1.1 C.1.2.1 d h1 h2 ho ht (k H locs ls hP hK hl)
theorem V_sub {lv' : List (Nat × Value)} (ks : List Nat) (h : lv_pick lv ks = lv') (k : VW X D nL Q K cs ws lv' (pc) (st)) : VW X D nL Q K cs ws lv (pc) (st) := fun H locs ls hP hK hl => k H locs ls hP hK (lv_sub hl ks h)
theorem V_top {x y : Value} (e : x = y) (k : VW X D nL Q K cs ws lv (pc) (y :: st)) : VW X D nL Q K cs ws lv (pc) (x :: st) := e ▸ k
theorem V_get (C : Cx X D Y cc nL own Ts ret rm) (q0 ci k : Nat) {a ix N : Nat} {Cn : String} {T : u_T} {fs : List Value} {v : Value} (hin : ∀ w ∈ u_ws Cn T N, w ∈ Ts) (he : ws[q0]? = some (a, .inr (ci, fs))) (hc : vwCl[ci]? = some (Cn, T, N)) (hk : k < N) (hw : Cond.fieldLink own ix (T k).1 (T k).2.1 (T k).2.2.1 ∈ Ts) (hv : fs[k]? = some v) (d : decode cc pc = .ok (.getfield ix, 3)) (kk : VW X D nL Q K cs ws lv (pc + 3) (v :: st)) : VW X D nL Q K cs ws lv (pc) (.ref a :: st) := fun H locs ls hP hK hl => va_get C.1.1 C.1.2.1 C.1.2.2.2.2 hin C.1.2.2.2.1 C.2.1.1 hP q0 he hc k hk (C.1.2.2.2.2 _ hw) (fun _ h => h) hv d (kk H locs ls hP hK hl)
theorem V_put {A : Nat → Prop} (C : Cx X D Y cc nL own Ts ret rm) (q0 ci k : Nat) {a ix N : Nat} {Cn : String} {T : u_T} {ty : Nat → FieldType} {fs : List Value} {v : Value} {ws' : va_W} (hin : ∀ w ∈ u_ws Cn T N, w ∈ Ts) (hty : ∀ k, k < N → parseFieldDescriptor (T k).2.2.1 = some (ty k)) (hnm : ∀ a, a < N → ∀ b, b < N → a ≠ b → (T a).2.1 ≠ (T b).2.1) (he : ws[q0]? = some (a, .inr (ci, fs))) (hc : vwCl[ci]? = some (Cn, T, N)) (hk : k < N) (hw : Cond.fieldLink own ix (T k).1 (T k).2.1 (T k).2.2.1 ∈ Ts) (hfin : (T k).2.2.2 = false) (hn : narrow (ty k) v = v) (hfit : fits (ty k) v = true) (hlen : k < fs.length) (d : decode cc pc = .ok (.putfield ix, 3)) (hs : ws.set q0 (a, .inr (ci, fs.set k v)) = ws') (kk : VW X D nL Q (KM A X) cs ws' lv (pc + 3) (st)) : VW X D nL Q (KM A X) cs ws lv (pc) (v :: .ref a :: st) := by
  subst hs
  exact fun H locs ls hP hK hl => va_put C.1.1 C.1.2.1 C.1.2.2.2.2 hin ty hty hnm C.1.2.2.2.1 C.2.1.1 hP hK.1 hK.2 q0 he hc k hk (C.1.2.2.2.2 _ hw) (fun _ h => h) hfin (hty k hk) hn hfit hlen d (fun H1 locs1 h1 h2 h3 => kk H1 locs1 ls h1 ⟨h2, h3⟩ hl)
theorem V_iald (C : Cx X D Y cc nL own Ts ret rm) (q0 : Nat) {a n : Nat} {f : Nat → Int32} {i : Int32} (ha : ws[q0]? = some (a, .inl (Y 0, n, .inl f))) (hin : inB i n = true) (d : decode cc pc = .ok (.iaload, 1)) (kk : VW X D nL Q K cs ws lv (pc + 1) (.int (f i.toNatClampNeg) :: st)) : VW X D nL Q K cs ws lv (pc) (.int i :: .ref a :: st) := fun H locs ls hP hK hl => va_iald C.1.1 C.1.2.1 C.2.1.1 hP q0 0 ha rfl (inB_in hin) d (kk H locs ls hP hK hl)
theorem V_lald (C : Cx X D Y cc nL own Ts ret rm) (q0 : Nat) {a n : Nat} {f : Nat → Int64} {i : Int32} (ha : ws[q0]? = some (a, .inl (Y 1, n, .inr (.inl f)))) (hin : inB i n = true) (d : decode cc pc = .ok (.laload, 1)) (kk : VW X D nL Q K cs ws lv (pc + 1) (.long (f i.toNatClampNeg) :: st)) : VW X D nL Q K cs ws lv (pc) (.int i :: .ref a :: st) := fun H locs ls hP hK hl => va_lald C.1.1 C.1.2.1 C.2.1.1 hP q0 1 ha rfl (inB_in hin) d (kk H locs ls hP hK hl)
theorem V_aald (C : Cx X D Y cc nL own Ts ret rm) (q0 t0 : Nat) {a n b : Nat} {cA : ClassId} {Cn : String} {f : Nat → Option Nat} {i : Int32} (ha : ws[q0]? = some (a, .inl (cA, n, .inr (.inr (.inr (.inr f)))))) (ht : (vY Y)[t0]? = some (cA, .object Cn)) (hin : inB i n = true) (hf : f i.toNatClampNeg = some b) (d : decode cc pc = .ok (.aaload, 1)) (kk : VW X D nL Q K cs ws lv (pc + 1) (.ref b :: st)) : VW X D nL Q K cs ws lv (pc) (.int i :: .ref a :: st) := fun H locs ls hP hK hl => va_aldq C.1.1 C.1.2.1 C.2.1.1 hP q0 t0 ha ht (inB_in hin) d (by rw [hf]; exact kk H locs ls hP hK hl)
theorem V_iast {A : Nat → Prop} (C : Cx X D Y cc nL own Ts ret rm) (q0 : Nat) {a n : Nat} {f : Nat → Int32} {i : Int32} {x : Int32} {ws' : va_W} (ha : ws[q0]? = some (a, .inl (Y 0, n, .inl f))) (hin : inB i n = true) (d : decode cc pc = .ok (.iastore, 1)) (hs : ws.set q0 (a, .inl (Y 0, n, .inl (upd f i.toNatClampNeg x))) = ws') (kk : VW X D nL Q (KM A X) cs ws' lv (pc + 1) (st)) : VW X D nL Q (KM A X) cs ws lv (pc) (.int x :: .int i :: .ref a :: st) := by
  subst hs
  exact fun H locs ls hP hK hl => va_iast C.1.1 C.1.2.1 C.2.1.1 hP hK.1 hK.2 q0 0 ha rfl (inB_in hin) d (fun H1 locs1 h1 h2 h3 => kk H1 locs1 ls h1 ⟨h2, h3⟩ hl)
theorem V_last {A : Nat → Prop} (C : Cx X D Y cc nL own Ts ret rm) (q0 : Nat) {a n : Nat} {f : Nat → Int64} {i : Int32} {x : Int64} {ws' : va_W} (ha : ws[q0]? = some (a, .inl (Y 1, n, .inr (.inl f)))) (hin : inB i n = true) (d : decode cc pc = .ok (.lastore, 1)) (hs : ws.set q0 (a, .inl (Y 1, n, .inr (.inl (vp_updL f i.toNatClampNeg x)))) = ws') (kk : VW X D nL Q (KM A X) cs ws' lv (pc + 1) (st)) : VW X D nL Q (KM A X) cs ws lv (pc) (.long x :: .int i :: .ref a :: st) := by
  subst hs
  exact fun H locs ls hP hK hl => va_last C.1.1 C.1.2.1 C.2.1.1 hP hK.1 hK.2 q0 1 ha rfl (inB_in hin) d (fun H1 locs1 h1 h2 h3 => kk H1 locs1 ls h1 ⟨h2, h3⟩ hl)
theorem V_aast {A : Nat → Prop} (C : Cx X D Y cc nL own Ts ret rm) (q0 t0 qk ci : Nat) {a n v : Nat} {cA : ClassId} {r : vw_C} {vs : List Value} {f : Nat → Option Nat} {i : Int32} {ws' : va_W} (ha : ws[q0]? = some (a, .inl (cA, n, .inr (.inr (.inr (.inr f)))))) (ht : (vY Y)[t0]? = some (cA, .object r.1)) (hv : ws[qk]? = some (v, .inr (ci, vs))) (hc : vwCl[ci]? = some r) (hin : inB i n = true) (d : decode cc pc = .ok (.aastore, 1)) (hs : ws.set q0 (a, .inl (cA, n, .inr (.inr (.inr (.inr (va_up f i.toNatClampNeg (some v))))))) = ws') (kk : VW X D nL Q (KM A X) cs ws' lv (pc + 1) (st)) : VW X D nL Q (KM A X) cs ws lv (pc) (.ref v :: .int i :: .ref a :: st) := by
  subst hs
  exact fun H locs ls hP hK hl => va_astq C.1.1 C.1.2.1 C.2.1.1 hP hK.1 hK.2 q0 t0 qk ci ha ht hv hc (inB_in hin) d (fun H1 locs1 h1 h2 h3 => kk H1 locs1 ls h1 ⟨h2, h3⟩ hl)
theorem V_alen (C : Cx X D Y cc nL own Ts ret rm) (q0 t0 : Nat) {a : Nat} {cA : ClassId} {x : vp_A} {ty : FieldType} {v : Int32} (ha : ws[q0]? = some (a, .inl (cA, x))) (ht : (vY Y)[t0]? = some (cA, ty)) (hv : Int32.ofNat x.1 = v) (d : decode cc pc = .ok (.arraylength, 1)) (kk : VW X D nL Q K cs ws lv (pc + 1) (.int v :: st)) : VW X D nL Q K cs ws lv (pc) (.ref a :: st) := fun H locs ls hP hK hl => va_alen C.1.1 C.1.2.1 C.2.1.1 hP q0 t0 ha ht hv d (kk H locs ls hP hK hl)
theorem V_mmax (C : Cx X D Y cc nL own Ts ret rm) {x y : Int32} {ix : Nat} (h1 : Cond.methodLink own ix Lib.Math.max.name ∈ Ts) (h2 : Cond.static Lib.Math.max.name ∈ Ts) (h3 : Cond.initialized "java/lang/Math" ∈ Ts) (h4 : Cond.code Lib.Math.max.name Lib.Math.max.code 2 (some .int) ∈ Ts) (hf : 1 ≤ rm.frames) (hlo : (st.map fun v => v.category).sum + 13 ≤ rm.locals) (hc : cs.1 ≤ rm.cells ∧ cs.2 ≤ rm.slots) (d : decode cc pc = .ok (.invokestatic ix, 3)) (kk : VW X D nL Q K cs ws lv (pc + 3) (.int (if x < y then y else x) :: st)) : VW X D nL Q K cs ws lv (pc) (.int y :: .int x :: st) := by
  intro H locs ls hP hK hl
  have e := C.2.2.2.2
  exact va_mmax C.1.1 C.1.2.1 (by rw [C.1.2.2.1, hl.1]) C.1.2.2.2.1 (C.1.2.2.2.2 _ h1) (C.1.2.2.2.2 _ h2) (C.1.2.2.2.2 _ h3) (C.1.2.2.2.2 _ h4) (by rw [e]; exact hf) (by rw [e]; exact hlo) (by rw [e]; exact hc.1) (by rw [e]; exact hc.2) d (kk H locs ls hP hK hl)
theorem V_mmin (C : Cx X D Y cc nL own Ts ret rm) {x y : Int32} {ix : Nat} (h1 : Cond.methodLink own ix Lib.Math.min.name ∈ Ts) (h2 : Cond.static Lib.Math.min.name ∈ Ts) (h3 : Cond.initialized "java/lang/Math" ∈ Ts) (h4 : Cond.code Lib.Math.min.name Lib.Math.min.code 2 (some .int) ∈ Ts) (hf : 1 ≤ rm.frames) (hlo : (st.map fun v => v.category).sum + 13 ≤ rm.locals) (hc : cs.1 ≤ rm.cells ∧ cs.2 ≤ rm.slots) (d : decode cc pc = .ok (.invokestatic ix, 3)) (kk : VW X D nL Q K cs ws lv (pc + 3) (.int (if y < x then y else x) :: st)) : VW X D nL Q K cs ws lv (pc) (.int y :: .int x :: st) := by
  intro H locs ls hP hK hl
  have e := C.2.2.2.2
  exact va_mmin C.1.1 C.1.2.1 (by rw [C.1.2.2.1, hl.1]) C.1.2.2.2.1 (C.1.2.2.2.2 _ h1) (C.1.2.2.2.2 _ h2) (C.1.2.2.2.2 _ h3) (C.1.2.2.2.2 _ h4) (by rw [e]; exact hf) (by rw [e]; exact hlo) (by rw [e]; exact hc.1) (by rw [e]; exact hc.2) d (kk H locs ls hP hK hl)
theorem V_mabs (C : Cx X D Y cc nL own Ts ret rm) {x : Int32} {ix : Nat} (h1 : Cond.methodLink own ix Lib.Math.abs.name ∈ Ts) (h2 : Cond.static Lib.Math.abs.name ∈ Ts) (h3 : Cond.initialized "java/lang/Math" ∈ Ts) (h4 : Cond.code Lib.Math.abs.name Lib.Math.abs.code 1 (some .int) ∈ Ts) (hf : 1 ≤ rm.frames) (hlo : (st.map fun v => v.category).sum + 13 ≤ rm.locals) (hc : cs.1 ≤ rm.cells ∧ cs.2 ≤ rm.slots) (d : decode cc pc = .ok (.invokestatic ix, 3)) (kk : VW X D nL Q K cs ws lv (pc + 3) (.int (if 0 ≤ x then x else 0 - x) :: st)) : VW X D nL Q K cs ws lv (pc) (.int x :: st) := by
  intro H locs ls hP hK hl
  have e := C.2.2.2.2
  exact va_mabs C.1.1 C.1.2.1 (by rw [C.1.2.2.1, hl.1]) C.1.2.2.2.1 (C.1.2.2.2.2 _ h1) (C.1.2.2.2.2 _ h2) (C.1.2.2.2.2 _ h3) (C.1.2.2.2.2 _ h4) (by rw [e]; exact hf) (by rw [e]; exact hlo) (by rw [e]; exact hc.1) (by rw [e]; exact hc.2) d (kk H locs ls hP hK hl)
theorem V_mabsl (C : Cx X D Y cc nL own Ts ret rm) {x : Int64} {ix : Nat} (h1 : Cond.methodLink own ix Lib.MathLoose.abs_long.x ∈ Ts) (h2 : Cond.static Lib.MathLoose.abs_long.x ∈ Ts) (h3 : Cond.initialized "java/lang/Math" ∈ Ts) (h4 : Cond.code Lib.MathLoose.abs_long.x Lib.MathLoose.abs_long.code 2 (some .long) ∈ Ts) (hf : 1 ≤ rm.frames) (hlo : (st.map fun v => v.category).sum + 13 ≤ rm.locals) (hc : cs.1 ≤ rm.cells ∧ cs.2 ≤ rm.slots) (d : decode cc pc = .ok (.invokestatic ix, 3)) (kk : VW X D nL Q K cs ws lv (pc + 3) (.long (if 0 < x then x else -x) :: st)) : VW X D nL Q K cs ws lv (pc) (.long x :: st) := by
  intro H locs ls hP hK hl
  have e := C.2.2.2.2
  exact va_mabs_long C.1.1 C.1.2.1 (by rw [C.1.2.2.1, hl.1]) C.1.2.2.2.1 (C.1.2.2.2.2 _ h1) (C.1.2.2.2.2 _ h2) (C.1.2.2.2.2 _ h3) (C.1.2.2.2.2 _ h4) (by rw [e]; exact hf) (by rw [e]; exact hlo) (by rw [e]; exact hc.1) (by rw [e]; exact hc.2) d (kk H locs ls hP hK hl)
theorem V_iretR (C : Cx X D Y cc nL own Ts (some .int) rm) {v : Int32} (d : decode cc pc = .ok (.ireturn, 1)) : VW X D nL (QR X (some (.int v))) (KR X) (0, 0) ws lv pc ([.int v]) := by
  intro H locs ls hP hK hl
  obtain ⟨rfl, rfl⟩ := hK
  exact W.iret C.1.1 C.1.2.1 C.2.2.1 (fun t ht _ => ⟨rfl, ht⟩) (fun q hq => by cases hq) d C.2.2.2.1
theorem V_iretW {w : va_W} (C : Cx X D Y cc nL own Ts (some .int) rm) {v : Int32} (d : decode cc pc = .ok (.ireturn, 1)) : VW X D nL (QW X D w ws (some (.int v))) (KM (va_A w (xS X).heap.size) X) (0, 0) ws lv pc ([.int v]) := by
  intro H locs ls hP hK hl
  exact W.iret C.1.1 C.1.2.1 C.2.2.1 (fun t ht _ => ⟨⟨rfl, by rw [ht]; exact hP⟩, hK.2.F ht⟩) hK.2.2.2 d C.2.2.2.1
theorem V_zretR (C : Cx X D Y cc nL own Ts (some .boolean) rm) {v : Int32} (hn : narrow .boolean (.int v) = .int v) (d : decode cc pc = .ok (.ireturn, 1)) : VW X D nL (QR X (some (.int v))) (KR X) (0, 0) ws lv pc ([.int v]) := by
  intro H locs ls hP hK hl
  obtain ⟨rfl, rfl⟩ := hK
  exact W.zret C.1.1 C.1.2.1 C.2.2.1 hn (fun t ht _ => ⟨rfl, ht⟩) (fun q hq => by cases hq) d C.2.2.2.1
theorem V_zretW {w : va_W} (C : Cx X D Y cc nL own Ts (some .boolean) rm) {v : Int32} (hn : narrow .boolean (.int v) = .int v) (d : decode cc pc = .ok (.ireturn, 1)) : VW X D nL (QW X D w ws (some (.int v))) (KM (va_A w (xS X).heap.size) X) (0, 0) ws lv pc ([.int v]) := by
  intro H locs ls hP hK hl
  exact W.zret C.1.1 C.1.2.1 C.2.2.1 hn (fun t ht _ => ⟨⟨rfl, by rw [ht]; exact hP⟩, hK.2.F ht⟩) hK.2.2.2 d C.2.2.2.1
theorem V_lretR (C : Cx X D Y cc nL own Ts (some .long) rm) {v : Int64} (d : decode cc pc = .ok (.lreturn, 1)) : VW X D nL (QR X (some (.long v))) (KR X) (0, 0) ws lv pc ([.long v]) := by
  intro H locs ls hP hK hl
  obtain ⟨rfl, rfl⟩ := hK
  exact W.lret C.1.1 C.1.2.1 C.2.2.1 (fun t ht _ => ⟨rfl, ht⟩) (fun q hq => by cases hq) d C.2.2.2.1
theorem V_lretW {w : va_W} (C : Cx X D Y cc nL own Ts (some .long) rm) {v : Int64} (d : decode cc pc = .ok (.lreturn, 1)) : VW X D nL (QW X D w ws (some (.long v))) (KM (va_A w (xS X).heap.size) X) (0, 0) ws lv pc ([.long v]) := by
  intro H locs ls hP hK hl
  exact W.lret C.1.1 C.1.2.1 C.2.2.1 (fun t ht _ => ⟨⟨rfl, by rw [ht]; exact hP⟩, hK.2.F ht⟩) hK.2.2.2 d C.2.2.2.1
theorem V_vretR (C : Cx X D Y cc nL own Ts (none) rm)  (d : decode cc pc = .ok (.return_, 1)) : VW X D nL (QR X (none)) (KR X) (0, 0) ws lv pc ([]) := by
  intro H locs ls hP hK hl
  obtain ⟨rfl, rfl⟩ := hK
  exact W.vret C.1.1 C.1.2.1 C.2.2.1 (fun t ht _ => ⟨rfl, ht⟩) (fun q hq => by cases hq) d C.2.2.2.1
theorem V_vretW {w : va_W} (C : Cx X D Y cc nL own Ts (none) rm)  (d : decode cc pc = .ok (.return_, 1)) : VW X D nL (QW X D w ws (none)) (KM (va_A w (xS X).heap.size) X) (0, 0) ws lv pc ([]) := by
  intro H locs ls hP hK hl
  exact W.vret C.1.1 C.1.2.1 C.2.2.1 (fun t ht _ => ⟨⟨rfl, by rw [ht]; exact hP⟩, hK.2.F ht⟩) hK.2.2.2 d C.2.2.2.1
end VR
