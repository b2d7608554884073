/-! ===== making cells ===== -/
def QcC (D : va_G) (A : Nat → Prop) {S : Type} (post : S → Prop) (w1 : S → va_W) : Array Value → State → Outcome → State → Prop := va_Qv post (fun u t => va_P D vwCl (w1 u) t.heap ∧ va_D A (w1 u)) A
def MC (l : Launch) (y : MethodName) (wy : List Cond) (fr lo mc ms : Nat) (D : va_G) (Y : Nat → ClassId) (Ex : State → Prop) (h0 ci : Nat) (fs0 : List Value) {S : Type} (post : S → Prop) (w1 : S → va_W) : Prop :=
  ∀ sz : Nat, Met l y wy { frames := fr, cells := mc, slots := ms, locals := lo } (va_Pc [.ref h0] (fun U => U.heap.size = sz ∧ va_P D vwCl [(h0, .inr (ci, fs0))] U.heap ∧ KN D Y U ∧ va_D (fun _ => True) [(h0, .inr (ci, fs0))] ∧ Ex U)) (QcC D (va_A [(h0, .inr (ci, fs0))] sz) post w1) mc ms (va_A [(h0, .inr (ci, fs0))] sz)
theorem join_last {A : Nat → Prop} {D : va_G} {wr w1 : va_W} {c : Nat × va_E} {H H1 : Heap} (hP : va_P D vwCl (wr ++ [c]) H) (hD : va_D A (wr ++ [c])) (hk : ∀ q : Nat, q < H.size → ¬ va_A [c] H.size q → H1[q]? = H[q]?) (hF : ∀ q, va_A [c] H.size q → A q) (hP1 : va_P D vwCl w1 H1) (hD1 : va_D (va_A [c] H.size) w1) : va_P D vwCl (wr ++ w1) H1 ∧ va_D A (wr ++ w1) := by
  have g : ∀ (k : Nat) (q : Nat × va_E), wr[k]? = some q → (wr ++ [c])[k]? = some q := fun k q h => by
    rw [List.getElem?_append_left (List.getElem?_eq_some_iff.mp h).1]; exact h
  have hc : (wr ++ [c])[wr.length]? = some c := by simp
  have ap : ∀ (k : Nat) (q : Nat × va_E), wr[k]? = some q → q.1 < H.size ∧ ¬ va_A [c] H.size q.1 := by
    intro k q h
    have hl := (hP k q (g k q h)).lt
    refine ⟨hl, fun z => ?_⟩
    rcases z with ⟨k2, e, z⟩ | z
    · have hk2 : k2 = 0 := by
        have := (List.getElem?_eq_some_iff.mp z).1
        simp at this
        exact this
      subst hk2
      cases z
      have := hD.1 k wr.length q (q.1, e) (g k q h) hc rfl
      have h2 := (List.getElem?_eq_some_iff.mp h).1
      omega
    · omega
  refine ⟨va_P.app (fun k q h => ?_) hP1, va_D.app ⟨fun i j x y hi hj hxy => hD.1 i j x y (g i x hi) (g j y hj) hxy, fun k q h => hD.2 k q (g k q h)⟩ (hD1.weaken (fun k q _ h => hF q.1 h)) (fun i j x y hx hy hxy => ?_)⟩
  · obtain ⟨g1, g2⟩ := ap k q h
    exact (hP k q (g k q h)).kept (hk q.1 g1 g2)
  · exact (ap i x hx).2 (by rw [hxy]; exact hD1.2 j y hy)
section CT
variable {X : VX} {D : va_G} {Y : Nat → ClassId} {cc : ByteArray} {nL : Nat} {own : String} {Ts : List Cond} {ret : Option FieldType} {rm : Room} {Q : State → Prop} {A : Nat → Prop} {cs cs' : Nat × Nat} {ws : va_W} {lv : List (Nat × Value)} {pc : Nat} {st : List Value}
theorem V_newi (C : Cx X D Y cc nL own Ts ret rm) (hA : ∀ q, (xS X).heap.size ≤ q → A q) (hw : Cond.arrayClass .int ∈ Ts) {n : Int32} (N : Nat) (hn : ¬ n < 0) (hN : n.toNatClampNeg = N) (hb : N * componentBytes .int ≤ 536870912) (hc : cs.1 + 1 ≤ rm.cells ∧ cs.2 + N ≤ rm.slots) (d : decode cc pc = .ok (.newarray .int, 2)) (hcs : (cs.1 + 1, cs.2 + N) = cs') (kk : ∀ q, VW X D nL Q (KM A X) cs' (ws ++ [(q, .inl (Y 0, N, .inl (fun _ => 0)))]) lv (pc + 2) (.ref q :: st)) : VW X D nL Q (KM A X) cs ws lv pc (.int n :: st) := by
  intro H locs ls hP hK hl
  subst hcs
  have e := C.2.2.2.2
  refine va_newa (atype := .int) (ty := .int) (a0 := (N, .inl (fun _ => 0))) C.1.1 C.1.2.1 (C.1.2.2.2.2 _ hw) rfl C.2.1.1 hP hK.1 hK.2 hA (fun cA => rfl) hn hN hb (by rw [e]; exact hc.1) (by rw [e]; exact hc.2) d (fun q cA H1 hK1 hP1 hD1 hS1 => ?_)
  have h1 : (xS X).vm.findClass ("[" ++ FieldType.int.toString) = some cA := (hK1.2 4 (cA, .int) rfl).2
  have h2 : (xS X).vm.findClass ("[" ++ FieldType.int.toString) = some (Y 0) := (C.2.1.1.2 0 (Y 0, .int) rfl).2
  have h3 : cA = Y 0 := Option.some.inj (h1.symm.trans h2)
  subst h3
  exact kk q H1 locs ls hP1 ⟨hD1, hS1⟩ hl
theorem V_newl (C : Cx X D Y cc nL own Ts ret rm) (hA : ∀ q, (xS X).heap.size ≤ q → A q) (hw : Cond.arrayClass .long ∈ Ts) {n : Int32} (N : Nat) (hn : ¬ n < 0) (hN : n.toNatClampNeg = N) (hb : N * componentBytes .long ≤ 536870912) (hc : cs.1 + 1 ≤ rm.cells ∧ cs.2 + N ≤ rm.slots) (d : decode cc pc = .ok (.newarray .long, 2)) (hcs : (cs.1 + 1, cs.2 + N) = cs') (kk : ∀ q, VW X D nL Q (KM A X) cs' (ws ++ [(q, .inl (Y 1, N, .inr (.inl (fun _ => 0))))]) lv (pc + 2) (.ref q :: st)) : VW X D nL Q (KM A X) cs ws lv pc (.int n :: st) := by
  intro H locs ls hP hK hl
  subst hcs
  have e := C.2.2.2.2
  refine va_newa (atype := .long) (ty := .long) (a0 := (N, .inr (.inl (fun _ => 0)))) C.1.1 C.1.2.1 (C.1.2.2.2.2 _ hw) rfl C.2.1.1 hP hK.1 hK.2 hA (fun cA => rfl) hn hN hb (by rw [e]; exact hc.1) (by rw [e]; exact hc.2) d (fun q cA H1 hK1 hP1 hD1 hS1 => ?_)
  have h1 : (xS X).vm.findClass ("[" ++ FieldType.long.toString) = some cA := (hK1.2 4 (cA, .long) rfl).2
  have h2 : (xS X).vm.findClass ("[" ++ FieldType.long.toString) = some (Y 1) := (C.2.1.1.2 1 (Y 1, .long) rfl).2
  have h3 : cA = Y 1 := Option.some.inj (h1.symm.trans h2)
  subst h3
  exact kk q H1 locs ls hP1 ⟨hD1, hS1⟩ hl
theorem V_newq (C : Cx X D Y cc nL own Ts ret rm) (hA : ∀ q, (xS X).heap.size ≤ q → A q) {Cn : String} {ix : Nat} (t0 : Nat) (hcl : Cond.classLink own ix Cn ∈ Ts) (ho : va_AO Cn (xS X)) (ht : (vY Y)[t0]? = some (Y t0, .object Cn)) {n : Int32} (N : Nat) (hn : ¬ n < 0) (hN : n.toNatClampNeg = N) (hb : N * 4 ≤ 536870912) (hc : cs.1 + 1 ≤ rm.cells ∧ cs.2 + N ≤ rm.slots) (d : decode cc pc = .ok (.anewarray ix, 3)) (hcs : (cs.1 + 1, cs.2 + N) = cs') (kk : ∀ q, VW X D nL Q (KM A X) cs' (ws ++ [(q, .inl (Y t0, N, .inr (.inr (.inr (.inr (fun _ => none))))))]) lv (pc + 3) (.ref q :: st)) : VW X D nL Q (KM A X) cs ws lv pc (.int n :: st) := by
  intro H locs ls hP hK hl
  subst hcs
  have e := C.2.2.2.2
  refine va_newq C.1.1 C.1.2.1 C.1.2.2.2.1 (C.1.2.2.2.2 _ hcl) ho C.2.1.1 hP hK.1 hK.2 hA hn hN hb (by rw [e]; exact hc.1) (by rw [e]; exact hc.2) d (fun q cA H1 hK1 hP1 hD1 hS1 => ?_)
  obtain ⟨_, _, _, _, _, h1⟩ := (hK1.2 4 (cA, .object Cn) rfl).2
  obtain ⟨_, _, _, _, _, h2⟩ := (C.2.1.1.2 t0 (Y t0, .object Cn) ht).2
  have h3 : cA = Y t0 := Option.some.inj (h1.symm.trans h2)
  subst h3
  exact kk q H1 locs ls hP1 ⟨hD1, hS1⟩ hl
theorem V_new (C : Cx X D Y cc nL own Ts ret rm) (hA : ∀ q, (xS X).heap.size ≤ q → A q) {Cn : String} {T : u_T} {N ix : Nat} {ty : Nat → FieldType} (hin : ∀ w ∈ u_ws Cn T N, w ∈ Ts) (hty : ∀ k, k < N → parseFieldDescriptor (T k).2.2.1 = some (ty k)) (hcl : Cond.classLink own ix Cn ∈ Ts) (hinst : Cond.instantiable Cn N ∈ Ts) (hini : Cond.initialized Cn ∈ Ts) (ci : Nat) (fs : List Value) (hc : vwCl[ci]? = some (Cn, T, N)) (hfs : ∀ j, j < N → defaultValue (ty j) = vp_V fs j) (hr : cs.1 + 1 ≤ rm.cells ∧ cs.2 + N ≤ rm.slots) (d : decode cc pc = .ok (.new ix, 3)) (hcs : (cs.1 + 1, cs.2 + N) = cs') (kk : ∀ q, VW X D nL Q (KM A X) cs' (ws ++ [(q, .inr (ci, fs))]) lv (pc + 3) (.ref q :: st)) : VW X D nL Q (KM A X) cs ws lv pc st := by
  intro H locs ls hP hK hl
  subst hcs
  have e := C.2.2.2.2
  exact va_new (ci := ci) (fs := fs) C.1.1 C.1.2.1 C.1.2.2.2.2 hin ty hty C.1.2.2.2.1 (C.1.2.2.2.2 _ hcl) (C.1.2.2.2.2 _ hinst) (C.1.2.2.2.2 _ hini) C.2.1.1 hP hK.1 hK.2 hA hc hfs (by rw [e]; exact hr.1) (by rw [e]; exact hr.2) d (fun q H1 h1 h2 h3 => kk q H1 locs ls h1 ⟨h2, h3⟩ hl)
theorem V_oinit {K : va_W → Heap → List Loc → Prop} (C : Cx X D Y cc nL own Ts ret rm) {ix a : Nat} (h1 : Cond.methodLink own ix objectInit ∈ Ts) (h2 : Cond.instanceMethod objectInit ∈ Ts) (h3 : Cond.code objectInit ⟨#[0xb1]⟩ 1 none ∈ Ts) (hf : 1 ≤ rm.frames) (hlo : (st.map fun v => v.category).sum + 12 ≤ rm.locals) (d : decode cc pc = .ok (.invokespecial ix, 3)) (kk : VW X D nL Q K cs ws lv (pc + 3) st) : VW X D nL Q K cs ws lv pc (.ref a :: st) := by
  intro H locs ls hP hK hl
  have e := C.2.2.2.2
  refine W.objInit C.1.1 C.1.2.1 C.1.2.2.2.1 (C.1.2.2.2.2 _ h1) (C.1.2.2.2.2 _ h2) (C.1.2.2.2.2 _ h3) rfl (hl.1.trans C.1.2.2.1.symm) rfl d (by rw [e]; exact hf) (by rw [e]; show 2 * 0 + _ + 12 ≤ _; omega) ?_
  exact kk H locs ls hP hK hl
theorem V_putF (C : Cx X D Y cc nL own Ts ret rm) (hm : (xMe X).name = "<init>") (q0 ci k : Nat) {a ix N : Nat} {Cn : String} {T : u_T} {ty : Nat → FieldType} {fs : List Value} {v : Value} {ws' : va_W} (hin : ∀ w ∈ u_ws Cn T N, w ∈ Ts) (hty : ∀ k, k < N → parseFieldDescriptor (T k).2.2.1 = some (ty k)) (hnm : ∀ a, a < N → ∀ b, b < N → a ≠ b → (T a).2.1 ≠ (T b).2.1) (he : ws[q0]? = some (a, .inr (ci, fs))) (hc : vwCl[ci]? = some (Cn, T, N)) (hk : k < N) (hw : Cond.fieldLink own ix (T k).1 (T k).2.1 (T k).2.2.1 ∈ Ts) (hfin : (T k).2.2.2 = true) (hdecl : (T k).1 = own) (hn : narrow (ty k) v = v) (hfit : fits (ty k) v = true) (hlen : k < fs.length) (d : decode cc pc = .ok (.putfield ix, 3)) (hs : ws.set q0 (a, .inr (ci, fs.set k v)) = ws') (kk : VW X D nL Q (KM A X) cs ws' lv (pc + 3) st) : VW X D nL Q (KM A X) cs ws lv pc (v :: .ref a :: st) := by
  subst hs
  exact fun H locs ls hP hK hl => va_putF C.1.1 C.1.2.1 C.1.2.2.2.2 hin ty hty hnm C.1.2.2.2.1 C.2.1.1 hP hK.1 hK.2 q0 he hc k hk (C.1.2.2.2.2 _ hw) (fun _ h => h) hfin hm hdecl (hty k hk) hn hfit hlen d (fun H1 locs1 h1 h2 h3 => kk H1 locs1 ls h1 ⟨h2, h3⟩ hl)
variable {y : MethodName} {wy wt : List Cond} {bytes : ByteArray} {maxL ix fr lo mc ms : Nat} {rest : List Value} {wr : va_W}
theorem ctor_step {S : Type} {post : S → Prop} {w1 : S → va_W} {q ci : Nat} {fs0 : List Value} {H : Heap} {locs : List Loc} {ls : Array Slot} {a : Array Value} (C : Cx X D Y cc nL own Ts ret rm) (hA : ∀ q, (xS X).heap.size ≤ q → A q) (hP : va_P D vwCl (wr ++ [(q, .inr (ci, fs0))]) H) (hK : KM A X (wr ++ [(q, .inr (ci, fs0))]) H locs) (hl : lv_has ls nL lv)
    (hr : va_Run (xP X) (xL X) (xE X) (xR X) (xS X) (xM X) (xA X) (xB X) (xMe X) (xC X) H locs cs.1 cs.2 mc ms (F0 (xM X) pc ls st) rest (QcC D (va_A [(q, .inr (ci, fs0))] H.size) post w1 a) (va_A [(q, .inr (ci, fs0))] H.size)) (kk : ∀ u, post u → VW X D nL Q (KM A X) (cs.1 + mc, cs.2 + ms) (wr ++ w1 u) lv (pc + 3) rest) : WX X H locs cs Q (F0 (xM X) pc ls st) := by
  have hF : ∀ z, va_A [(q, .inr (ci, fs0))] H.size z → A z := by
    intro z h
    rcases h with ⟨k, e, h⟩ | h
    · have hk2 : k = 0 := by
        have := (List.getElem?_eq_some_iff.mp h).1
        simp at this
        exact this
      subst hk2
      cases h
      exact hK.1.2 wr.length (q, .inr (ci, fs0)) (by simp)
    · exact hA z (Nat.le_trans hK.2.1 h)
  refine va_callv hr hK.2 (fun z _ h => hF z h) hF (fun u t H1 locs1 ht hvm hw hB hz1 hk1 hS => ?_)
  obtain ⟨hP1, hD1⟩ := hB
  rw [ht] at hP1
  obtain ⟨h3, h4⟩ := join_last hP hK.1 hk1 hF hP1 hD1
  exact kk u hw H1 locs1 ls h3 ⟨h4, hS⟩ hl
theorem ctor_pre {S : Type} {post : S → Prop} {w1 : S → va_W} {Ex : State → Prop} {q ci : Nat} {fs0 : List Value} {H : Heap} {locs : List Loc} (C : Cx X D Y cc nL own Ts ret rm) (hEx : ∀ U : State, (xS X).WarmedH U.vm → Ex U) (hcal : ∀ (U : State) (g : JFrame) (mk : MethodId) (a : Array Value), Ex U → Ex (U.calling g mk a)) (hP : va_P D vwCl (wr ++ [(q, .inr (ci, fs0))]) H) (hK : KM A X (wr ++ [(q, .inr (ci, fs0))]) H locs) :
    PreS (xS X) H (va_Pc [.ref q] (fun U => U.heap.size = H.size ∧ va_P D vwCl [(q, .inr (ci, fs0))] U.heap ∧ KN D Y U ∧ va_D (fun _ => True) [(q, .inr (ci, fs0))] ∧ Ex U)) [.ref q] := by
  refine ⟨?_, ?_⟩
  · intro a U g mk z
    obtain ⟨q0, q1, q2, q3, q4, q5⟩ := z
    exact ⟨q0, q1, q2, KN_call g mk a q3, q4, hcal U g mk a q5⟩
  · intro U hU hW
    refine ⟨rfl, by rw [hU], ?_, KN_warm hW C.2.1, ?_, hEx U hW⟩
    · rw [hU]
      intro k z hz
      have hk2 : k = 0 := by
        have := (List.getElem?_eq_some_iff.mp hz).1
        simp at this
        exact this
      subst hk2
      cases hz
      exact hP wr.length _ (by simp)
    · refine ⟨fun i j x y hi hj _ => ?_, fun _ _ _ => trivial⟩
      have h1 := (List.getElem?_eq_some_iff.mp hi).1
      have h2 := (List.getElem?_eq_some_iff.mp hj).1
      simp at h1 h2
      omega
theorem V_callIN {S : Type} {post : S → Prop} {w1 : S → va_W} {Ex : State → Prop} {q ci : Nat} {fs0 : List Value} (C : Cx X D Y cc nL own Ts ret rm) (hA : ∀ q, (xS X).heap.size ≤ q → A q) (hM : MC (xL X) y wy fr lo mc ms D Y Ex q ci fs0 post w1) {host : String} (hg : GoodIn Ts wy) (hnest : va_Nw (.methodLinkNest own ix y host) (xS X)) (hins : Cond.instanceMethod y ∈ Ts) (hini : Cond.initialized y.cls ∈ Ts) (hw : wy = Cond.code y bytes maxL none :: wt) (hy1 : y.name = "<init>")
    (hd : y.cls ≠ "java/lang/invoke/MethodHandle" ∧ y.cls ≠ "java/lang/invoke/VarHandle" ∧ (parseMethodDescriptor y.desc).map (fun d => d.parameters.length) = some 0) (hR : fr + 1 ≤ rm.frames ∧ 8 + (maxL + 11) + lo ≤ rm.locals) (hc0 : cs.1 + mc ≤ rm.cells ∧ cs.2 + ms ≤ rm.slots) (hEx : ∀ U : State, (xS X).WarmedH U.vm → Ex U) (hcal : ∀ (U : State) (g : JFrame) (mk : MethodId) (a : Array Value), Ex U → Ex (U.calling g mk a))
    (hws : ws = wr ++ [(q, .inr (ci, fs0))]) (hst : st = .ref q :: rest) (hcat : (rest.map fun v => v.category).sum ≤ 8) (d : decode cc pc = .ok (.invokespecial ix, 3)) (hcs : (cs.1 + mc, cs.2 + ms) = cs') (kk : ∀ u, post u → VW X D nL Q (KM A X) cs' (wr ++ w1 u) lv (pc + 3) rest) : VW X D nL Q (KM A X) cs ws lv pc st := by
  intro H locs ls hP hK hl
  subst hcs
  subst hws
  have hR' : fr + 1 ≤ (xR X).frames ∧ 8 + (maxL + 11) + lo ≤ (xR X).locals := by rw [C.2.2.2.2]; exact hR
  have hc' : cs.1 + mc ≤ (xR X).cells ∧ cs.2 + ms ≤ (xR X).slots := by rw [C.2.2.2.2]; exact hc0
  exact ctor_step C hA hP hK hl (va_runIN (As := []) (rest := rest) C.1 (hM H.size) ⟨va_cnB 0 C.1.2.2.2.2 hg hw rfl rfl hnest (C.1.2.2.2.2 _ hini) hd hR', hy1, C.1.2.2.2.2 _ hins⟩ (ctor_pre (post := post) (w1 := w1) C hEx hcal hP hK) rfl rfl hl.1 hst (lv_room hcat) d hc') kk
theorem V_callI {S : Type} {post : S → Prop} {w1 : S → va_W} {Ex : State → Prop} {q ci : Nat} {fs0 : List Value} (C : Cx X D Y cc nL own Ts ret rm) (hA : ∀ q, (xS X).heap.size ≤ q → A q) (hM : MC (xL X) y wy fr lo mc ms D Y Ex q ci fs0 post w1) (hg : GoodIn Ts wy) (hlink : Cond.methodLink own ix y ∈ Ts) (hins : Cond.instanceMethod y ∈ Ts) (hini : Cond.initialized y.cls ∈ Ts) (hw : wy = Cond.code y bytes maxL none :: wt) (hy1 : y.name = "<init>")
    (hd : y.cls ≠ "java/lang/invoke/MethodHandle" ∧ y.cls ≠ "java/lang/invoke/VarHandle" ∧ (parseMethodDescriptor y.desc).map (fun d => d.parameters.length) = some 0) (hR : fr + 1 ≤ rm.frames ∧ 8 + (maxL + 11) + lo ≤ rm.locals) (hc0 : cs.1 + mc ≤ rm.cells ∧ cs.2 + ms ≤ rm.slots) (hEx : ∀ U : State, (xS X).WarmedH U.vm → Ex U) (hcal : ∀ (U : State) (g : JFrame) (mk : MethodId) (a : Array Value), Ex U → Ex (U.calling g mk a))
    (hws : ws = wr ++ [(q, .inr (ci, fs0))]) (hst : st = .ref q :: rest) (hcat : (rest.map fun v => v.category).sum ≤ 8) (d : decode cc pc = .ok (.invokespecial ix, 3)) (hcs : (cs.1 + mc, cs.2 + ms) = cs') (kk : ∀ u, post u → VW X D nL Q (KM A X) cs' (wr ++ w1 u) lv (pc + 3) rest) : VW X D nL Q (KM A X) cs ws lv pc st := by
  intro H locs ls hP hK hl
  subst hcs
  subst hws
  have hR' : fr + 1 ≤ (xR X).frames ∧ 8 + (maxL + 11) + lo ≤ (xR X).locals := by rw [C.2.2.2.2]; exact hR
  have hc' : cs.1 + mc ≤ (xR X).cells ∧ cs.2 + ms ≤ (xR X).slots := by rw [C.2.2.2.2]; exact hc0
  exact ctor_step C hA hP hK hl (va_runI (As := []) (rest := rest) C.1 (hM H.size) (cwI 0 C.1.2.2.2.2 hg hw rfl rfl (C.1.2.2.2.2 _ hini) (C.1.2.2.2.2 _ hlink) (C.1.2.2.2.2 _ hins) hy1 hd hR') (ctor_pre (post := post) (w1 := w1) C hEx hcal hP hK) rfl rfl hl.1 hst (lv_room hcat) d hc') kk
theorem V_vretC {S : Type} {post : S → Prop} {w1 : S → va_W} (C : Cx X D Y cc nL own Ts none rm) (u : S) (hu : post u) (hws : ws = w1 u) (d : decode cc pc = .ok (.return_, 1)) (hQ : Q = MQ (xB X) (QcC D A post w1) (xA X) (xS X) cs.1 cs.2 A) : VW X D nL Q (KM A X) cs ws lv pc [] := by
  intro H locs ls hP hK hl
  subst hQ
  subst hws
  exact W.vret C.1.1 C.1.2.1 C.2.2.1 (fun t ht _ => ⟨⟨u, rfl, hu, by rw [ht]; exact hP, hK.1⟩, hK.2.F ht⟩) hK.2.2.2 d C.2.2.2.1
end CT
theorem MC_of {l : Launch} {y : MethodName} {wy wt : List Cond} {fr lo mc ms : Nat} {D : va_G} {Y : Nat → ClassId} {Ex : State → Prop} {h0 ci : Nat} {fs0 : List Value} {S : Type} {post : S → Prop} {w1 : S → va_W} {cc : ByteArray} {nL : Nat} (hy : plainName y.cls = true) (hy1 : y.name = "<init>") (hw : wy = Cond.code y cc nL none :: wt) (hN : 1 ≤ nL)
    (body : ∀ (X : VX) (A : Nat → Prop) (Q : State → Prop), Cx X D Y cc nL y.cls wy none { frames := fr, cells := mc, slots := ms, locals := lo } → (∀ q, (xS X).heap.size ≤ q → A q) → (xMe X).name = "<init>" → Ex (xS X) → Q = MQ (xB X) (QcC D A post w1) (xA X) (xS X) mc ms A → VW X D nL Q (KM A X) (0, 0) [(h0, .inr (ci, fs0))] [(0, .ref h0)] 0 []) : MC l y wy fr lo mc ms D Y Ex h0 ci fs0 post w1 := by
  intro sz
  refine Met.ofW (cc := cc) (maxL := nL) (ret := none) hy hw ?_
  intro p e s m args below meth c s₁ B hml hv
  obtain ⟨rfl, hsz, hP, hK, hD, hE⟩ := hv
  subst hsz
  have hl := lv_entry [.ref h0] (n := nL) hN
  rw [lg_entry_eq]
  have hnm : meth.name = "<init>" := (name_of_methodNamed B.named B.method).1.trans hy1
  exact body (p, l, e, (headSpec wy { frames := fr, cells := mc, slots := ms, locals := lo }).room, s, m, ([.ref h0] : List Value).toArray, below, meth, c) (va_A [(h0, .inr (ci, fs0))] s.heap.size) _ ⟨⟨B.exec, B.bytes, hml, findClass_of_methodNamed B.named, atoms_spec (ws := wy) B.pre⟩, hK, B.returns, B.notSynchronized, rfl⟩ (fun q h => Or.inr h) hnm hE rfl s.heap [] _ hP ⟨hD.self, va_S.rf⟩ hl

