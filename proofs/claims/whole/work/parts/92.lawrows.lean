/-! ===== rows for the law: two worlds side by side, the script, an argument, a truth ===== -/
theorem ap_l {w wr : va_W} {k : Nat} {q : Nat × va_E} (h : w[k]? = some q) : (w ++ wr)[k]? = some q := by
  rw [List.getElem?_append_left (List.getElem?_eq_some_iff.mp h).1]; exact h
theorem ap_r {wl w : va_W} {k : Nat} {q : Nat × va_E} (h : w[k]? = some q) : (wl ++ w)[wl.length + k]? = some q := by
  rw [List.getElem?_append_right (Nat.le_add_right _ _), Nat.add_sub_cancel_left]; exact h
theorem P_left {D : va_G} {w wr : va_W} {H : Heap} (h : va_P D vwCl (w ++ wr) H) : va_P D vwCl w H := fun k q hq => h k q (ap_l hq)
theorem P_right {D : va_G} {wl w : va_W} {H : Heap} (h : va_P D vwCl (wl ++ w) H) : va_P D vwCl w H := fun k q hq => h (wl.length + k) q (ap_r hq)
theorem P_app {D : va_G} {w1 w2 : va_W} {H : Heap} (h1 : va_P D vwCl w1 H) (h2 : va_P D vwCl w2 H) : va_P D vwCl (w1 ++ w2) H := by
  intro k q hq
  rcases Nat.lt_or_ge k w1.length with h | h
  · rw [List.getElem?_append_left h] at hq
    exact h1 k q hq
  · rw [List.getElem?_append_right h] at hq
    exact h2 _ q hq
theorem D_left {A : Nat → Prop} {w wr : va_W} (h : va_D A (w ++ wr)) : va_D A w := ⟨fun i j x y hi hj e => h.1 i j x y (ap_l hi) (ap_l hj) e, fun k q hq => h.2 k q (ap_l hq)⟩
theorem D_right {A : Nat → Prop} {wl w : va_W} (h : va_D A (wl ++ w)) : va_D A w := ⟨fun i j x y hi hj e => by have := h.1 _ _ x y (ap_r hi) (ap_r hj) e; omega, fun k q hq => h.2 _ q (ap_r hq)⟩
section LV
variable {X : VX} {D : va_G} {Y : Nat → ClassId} {cc : ByteArray} {nL : Nat} {own : String} {Ts : List Cond} {ret : Option FieldType} {rm : Room} {Q : State → Prop} {K : va_W → Heap → List Loc → Prop} {cs : Nat × Nat} {ws : va_W} {lv : List (Nat × Value)} {pc : Nat} {st : List Value} {AA : Nat → Prop}
variable {y : MethodName} {wy wt : List Cond} {bytes : ByteArray} {maxL ix fr lo : Nat} {rt : Option FieldType} {As rest st2 : List Value} {w w' wo : va_W} {r : Option Value}
theorem V_callLR (C : Cx X D Y cc nL own Ts ret rm) {b : Nat} (hM : MR (xL X) y wy fr lo D Y (.ref b :: As) w r) {Cn : String} (hg : GoodIn Ts (wsV own ix Cn y wy)) (hw : wy = Cond.code y bytes maxL rt :: wt)
    (hd : y.cls = Cn ∧ y.cls ≠ "java/lang/invoke/MethodHandle" ∧ y.cls ≠ "java/lang/invoke/VarHandle" ∧ (parseMethodDescriptor y.desc).map (fun d => d.parameters.length) = some As.length) (hR : fr + 1 ≤ rm.frames ∧ 8 + (maxL + 11) + lo ≤ rm.locals) (hc0 : cs.1 ≤ rm.cells ∧ cs.2 ≤ rm.slots)
    (ci : Nat) {T : u_T} {N : Nat} {fs : List Value} (he : w[0]? = some (b, .inr (ci, fs))) (hc : vwCl[ci]? = some (Cn, T, N)) (hst : st = As.reverse ++ .ref b :: rest) (hcat : (rest.map fun v => v.category).sum ≤ 8) (d : decode cc pc = .ok (.invokevirtual ix, 3)) (h2 : r.toList ++ rest = st2) (kk : VW X D nL Q K cs (w ++ wo) lv (pc + 3) st2) : VW X D nL Q K cs (w ++ wo) lv pc st := by
  intro H locs ls hP hK hl
  subst h2
  have hR' : fr + 1 ≤ (xR X).frames ∧ 8 + (maxL + 11) + lo ≤ (xR X).locals := by rw [C.2.2.2.2]; exact hR
  have hc' : cs.1 ≤ (xR X).cells ∧ cs.2 ≤ (xR X).slots := by rw [C.2.2.2.2]; exact hc0
  refine W_callR (va_runV (As := As) (rest := rest) C.1 hM (cwV As.length C.1.2.2.2.2 hg hw rfl rfl hd hR') ⟨?_, va_recv C.2.1.1 (P_left hP) hc he, ?_⟩ rfl rfl hl.1 hst (lv_room hcat) d hc') (kk H locs ls hP hK hl)
  · intro a U g mk q
    obtain ⟨q0, q1, q2⟩ := q
    exact ⟨q0, q1, KN_call g mk a q2⟩
  · intro U hU hW
    exact ⟨rfl, by rw [hU]; exact P_left hP, KN_warm hW C.2.1⟩
theorem V_callRR (C : Cx X D Y cc nL own Ts ret rm) {b : Nat} (hM : MR (xL X) y wy fr lo D Y (.ref b :: As) w r) {Cn : String} (hg : GoodIn Ts (wsV own ix Cn y wy)) (hw : wy = Cond.code y bytes maxL rt :: wt)
    (hd : y.cls = Cn ∧ y.cls ≠ "java/lang/invoke/MethodHandle" ∧ y.cls ≠ "java/lang/invoke/VarHandle" ∧ (parseMethodDescriptor y.desc).map (fun d => d.parameters.length) = some As.length) (hR : fr + 1 ≤ rm.frames ∧ 8 + (maxL + 11) + lo ≤ rm.locals) (hc0 : cs.1 ≤ rm.cells ∧ cs.2 ≤ rm.slots)
    (ci : Nat) {T : u_T} {N : Nat} {fs : List Value} (he : w[0]? = some (b, .inr (ci, fs))) (hc : vwCl[ci]? = some (Cn, T, N)) (hst : st = As.reverse ++ .ref b :: rest) (hcat : (rest.map fun v => v.category).sum ≤ 8) (d : decode cc pc = .ok (.invokevirtual ix, 3)) (h2 : r.toList ++ rest = st2) (kk : VW X D nL Q K cs (wo ++ w) lv (pc + 3) st2) : VW X D nL Q K cs (wo ++ w) lv pc st := by
  intro H locs ls hP hK hl
  subst h2
  have hR' : fr + 1 ≤ (xR X).frames ∧ 8 + (maxL + 11) + lo ≤ (xR X).locals := by rw [C.2.2.2.2]; exact hR
  have hc' : cs.1 ≤ (xR X).cells ∧ cs.2 ≤ (xR X).slots := by rw [C.2.2.2.2]; exact hc0
  refine W_callR (va_runV (As := As) (rest := rest) C.1 hM (cwV As.length C.1.2.2.2.2 hg hw rfl rfl hd hR') ⟨?_, va_recv C.2.1.1 (P_right hP) hc he, ?_⟩ rfl rfl hl.1 hst (lv_room hcat) d hc') (kk H locs ls hP hK hl)
  · intro a U g mk q
    obtain ⟨q0, q1, q2⟩ := q
    exact ⟨q0, q1, KN_call g mk a q2⟩
  · intro U hU hW
    exact ⟨rfl, by rw [hU]; exact P_right hP, KN_warm hW C.2.1⟩
theorem V_callLW (C : Cx X D Y cc nL own Ts ret rm) (hA : ∀ q, (xS X).heap.size ≤ q → AA q) {b : Nat} (hM : MW (xL X) y wy fr lo D Y (.ref b :: As) w w' r) {Cn : String} (hg : GoodIn Ts (wsV own ix Cn y wy)) (hw : wy = Cond.code y bytes maxL rt :: wt)
    (hd : y.cls = Cn ∧ y.cls ≠ "java/lang/invoke/MethodHandle" ∧ y.cls ≠ "java/lang/invoke/VarHandle" ∧ (parseMethodDescriptor y.desc).map (fun d => d.parameters.length) = some As.length) (hR : fr + 1 ≤ rm.frames ∧ 8 + (maxL + 11) + lo ≤ rm.locals) (hc0 : cs.1 ≤ rm.cells ∧ cs.2 ≤ rm.slots)
    (ci : Nat) {T : u_T} {N : Nat} {fs : List Value} (he : w[0]? = some (b, .inr (ci, fs))) (hc : vwCl[ci]? = some (Cn, T, N)) (hst : st = As.reverse ++ .ref b :: rest) (hcat : (rest.map fun v => v.category).sum ≤ 8) (d : decode cc pc = .ok (.invokevirtual ix, 3)) (h2 : r.toList ++ rest = st2) (kk : VW X D nL Q (KM AA X) cs (w' ++ wo) lv (pc + 3) st2) : VW X D nL Q (KM AA X) cs (w ++ wo) lv pc st := by
  intro H locs ls hP hK hl
  subst h2
  have hR' : fr + 1 ≤ (xR X).frames ∧ 8 + (maxL + 11) + lo ≤ (xR X).locals := by rw [C.2.2.2.2]; exact hR
  have hc' : cs.1 ≤ (xR X).cells ∧ cs.2 ≤ (xR X).slots := by rw [C.2.2.2.2]; exact hc0
  have hPc := P_left hP
  have hDc := D_left hK.1
  have hF : ∀ q, va_A w H.size q → AA q := by
    intro q h
    rcases h with ⟨k, e, h⟩ | h
    · exact hDc.2 k (q, e) h
    · exact hA q (Nat.le_trans hK.2.1 h)
  refine W_callW (va_runV (As := As) (rest := rest) C.1 (hM.2 H.size) (cwV As.length C.1.2.2.2.2 hg hw rfl rfl hd hR') ⟨?_, va_recv C.2.1.1 hPc hc he, ?_⟩ rfl rfl hl.1 hst (lv_room hcat) d hc') hK.2 hF ?_
  · intro a U g mk q
    obtain ⟨q0, q1, q2, q3, q4⟩ := q
    exact ⟨q0, q1, q2, KN_call g mk a q3, q4⟩
  · intro U hU hW
    exact ⟨rfl, by rw [hU], by rw [hU]; exact hPc, KN_warm hW C.2.1, hDc.weaken (fun _ _ _ _ => trivial)⟩
  · intro H1 locs1 hP1 hk1 hS1
    refine kk H1 locs1 ls (P_app hP1 (fun k q hq => ?_)) ⟨va_D_addr (addr_key (by rw [List.map_append, List.map_append, hM.1])) hK.1, hS1⟩ hl
    have h0 := P_right hP k q hq
    refine h0.kept (hk1 q.1 h0.lt (fun h => ?_))
    rcases h with ⟨k2, e, h⟩ | h
    · have h3 := hK.1.1 k2 (w.length + k) (q.1, e) q (ap_l h) (ap_r hq) rfl
      have h4 := (List.getElem?_eq_some_iff.mp h).1
      omega
    · have := h0.lt
      omega
theorem V_callRW (C : Cx X D Y cc nL own Ts ret rm) (hA : ∀ q, (xS X).heap.size ≤ q → AA q) {b : Nat} (hM : MW (xL X) y wy fr lo D Y (.ref b :: As) w w' r) {Cn : String} (hg : GoodIn Ts (wsV own ix Cn y wy)) (hw : wy = Cond.code y bytes maxL rt :: wt)
    (hd : y.cls = Cn ∧ y.cls ≠ "java/lang/invoke/MethodHandle" ∧ y.cls ≠ "java/lang/invoke/VarHandle" ∧ (parseMethodDescriptor y.desc).map (fun d => d.parameters.length) = some As.length) (hR : fr + 1 ≤ rm.frames ∧ 8 + (maxL + 11) + lo ≤ rm.locals) (hc0 : cs.1 ≤ rm.cells ∧ cs.2 ≤ rm.slots)
    (ci : Nat) {T : u_T} {N : Nat} {fs : List Value} (he : w[0]? = some (b, .inr (ci, fs))) (hc : vwCl[ci]? = some (Cn, T, N)) (hst : st = As.reverse ++ .ref b :: rest) (hcat : (rest.map fun v => v.category).sum ≤ 8) (d : decode cc pc = .ok (.invokevirtual ix, 3)) (h2 : r.toList ++ rest = st2) (kk : VW X D nL Q (KM AA X) cs (wo ++ w') lv (pc + 3) st2) : VW X D nL Q (KM AA X) cs (wo ++ w) lv pc st := by
  intro H locs ls hP hK hl
  subst h2
  have hR' : fr + 1 ≤ (xR X).frames ∧ 8 + (maxL + 11) + lo ≤ (xR X).locals := by rw [C.2.2.2.2]; exact hR
  have hc' : cs.1 ≤ (xR X).cells ∧ cs.2 ≤ (xR X).slots := by rw [C.2.2.2.2]; exact hc0
  have hPc := P_right hP
  have hDc := D_right hK.1
  have hF : ∀ q, va_A w H.size q → AA q := by
    intro q h
    rcases h with ⟨k, e, h⟩ | h
    · exact hDc.2 k (q, e) h
    · exact hA q (Nat.le_trans hK.2.1 h)
  refine W_callW (va_runV (As := As) (rest := rest) C.1 (hM.2 H.size) (cwV As.length C.1.2.2.2.2 hg hw rfl rfl hd hR') ⟨?_, va_recv C.2.1.1 hPc hc he, ?_⟩ rfl rfl hl.1 hst (lv_room hcat) d hc') hK.2 hF ?_
  · intro a U g mk q
    obtain ⟨q0, q1, q2, q3, q4⟩ := q
    exact ⟨q0, q1, q2, KN_call g mk a q3, q4⟩
  · intro U hU hW
    exact ⟨rfl, by rw [hU], by rw [hU]; exact hPc, KN_warm hW C.2.1, hDc.weaken (fun _ _ _ _ => trivial)⟩
  · intro H1 locs1 hP1 hk1 hS1
    refine kk H1 locs1 ls (P_app (fun k q hq => ?_) hP1) ⟨va_D_addr (addr_key (by rw [List.map_append, List.map_append, hM.1])) hK.1, hS1⟩ hl
    have h0 := P_left hP k q hq
    refine h0.kept (hk1 q.1 h0.lt (fun h => ?_))
    rcases h with ⟨k2, e, h⟩ | h
    · have h3 := hK.1.1 (wo.length + k2) k (q.1, e) q (ap_r h) (ap_l hq) rfl
      have h4 := (List.getElem?_eq_some_iff.mp hq).1
      omega
    · have := h0.lt
      omega
theorem V_sld (C : Cx X D Y cc nL own Ts ret rm) {b M : Nat} {xs : Nat → Int32} (hX : va_X b M xs (xS X) (xS X).heap) (hbl : b < (xS X).heap.size) (hbA : ¬ AA b) {i : Int32} (hin : vp_in i M) (d : decode cc pc = .ok (.iaload, 1)) (kk : VW X D nL Q (KM AA X) cs ws lv (pc + 1) (.int (xs i.toNatClampNeg) :: st)) : VW X D nL Q (KM AA X) cs ws lv pc (.int i :: .ref b :: st) := fun H locs ls hP hK hl => va_sld C.1.1 C.1.2.1 hX hbl hbA hK.2 hin d (kk H locs ls hP hK hl)
theorem V_slen (C : Cx X D Y cc nL own Ts ret rm) {b M : Nat} {xs : Nat → Int32} (hX : va_X b M xs (xS X) (xS X).heap) (hbl : b < (xS X).heap.size) (hbA : ¬ AA b) (d : decode cc pc = .ok (.arraylength, 1)) (kk : VW X D nL Q (KM AA X) cs ws lv (pc + 1) (.int (nI M) :: st)) : VW X D nL Q (KM AA X) cs ws lv pc (.ref b :: st) := fun H locs ls hP hK hl => va_slen C.1.1 C.1.2.1 hX hbl hbA hK.2 d (kk H locs ls hP hK hl)
theorem iN1 : Int32.ofInt 1 = nI 1 := by decide +kernel
theorem iN2 : Int32.ofInt 2 = nI 2 := by decide +kernel
theorem iN3 : Int32.ofInt 3 = nI 3 := by decide +kernel
theorem iN4 : Int32.ofInt 4 = nI 4 := by decide +kernel
theorem iN5 : Int32.ofInt 5 = nI 5 := by decide +kernel
theorem V_arg (C : Cx X D Y cc nL own Ts ret rm) {b M : Nat} {xs : Nat → Int32} (hX : va_X b M xs (xS X) (xS X).heap) (hbl : b < (xS X).heap.size) (hbA : ¬ AA b) (hL : M ≤ 2560) {i k : Nat} {n : Int} (hk : i + k < M) (hn : Int32.ofInt n = nI k) (h0 : lv[0]? = some (0, .ref b)) (h3 : lv[3]? = some (3, .int (nI i))) (d0 : decode cc pc = .ok (.aload_n 0, 1)) (d1 : decode cc (pc + 1) = .ok (.iload_n 3, 1)) (d2 : decode cc (pc + 2) = .ok (.iconst n, 1)) (d3 : decode cc (pc + 3) = .ok (.iadd, 1)) (d4 : decode cc (pc + 4) = .ok (.iaload, 1)) (kk : VW X D nL Q (KM AA X) cs ws lv (pc + 5) (.int (xs (i + k)) :: st)) : VW X D nL Q (KM AA X) cs ws lv pc st := by
  refine V_aload_n C d0 rfl 0 h0 ?_
  refine V_iload_n C d1 rfl 3 h3 ?_
  refine V_iconst C d2 hn ?_
  refine V_iadd C d3 ?_
  rw [nI_add]
  refine V_sld C hX hbl hbA (vp_in_nI hk (by omega)) d4 ?_
  rw [nI_clamp (by omega)]
  exact kk
theorem V_bool (C : Cx X D Y cc nL own Ts ret rm) {x : Int32} (d0 : decode cc pc = .ok (.ifCond .eq 7, 3)) (d1 : decode cc (pc + 3) = .ok (.iconst 1, 1)) (d2 : decode cc (pc + 4) = .ok (.goto 4, 3)) (d3 : decode cc (pc + 7) = .ok (.iconst 0, 1)) (kk : VW X D nL Q K cs ws lv (pc + 8) (.int (if x = 0 then 0 else 1) :: st)) : VW X D nL Q K cs ws lv pc (.int x :: st) := by
  refine V_if_eq C (pc + 7) d0 (by omega) (fun h => ?_) (fun h => ?_)
  · rw [if_pos h] at kk
    exact V_iconst C d3 (by decide +kernel) kk
  · rw [if_neg h] at kk
    refine V_iconst C d1 (v := 1) (by decide +kernel) ?_
    exact V_goto C (pc + 8) d2 (by omega) kk
end LV
/-- behind a case: whatever the two have become, if they are still alike the law goes on -/
def LK (X : VX) (D : va_G) (Y : Nat → ClassId) (Q : State → Prop) (AA : Nat → Prop) (a a2 : Nat → Nat) (b i : Nat) : Prop :=
  ∀ (q pg : Nat → Int32) (gS gU : Nat → Option Nat) (rd : RdT) (ft : FtT) (S : Nat → StT) (U : Nat → UnT) (I : Nat → Int32) (A : Nat → Nat → Int32) (F : Nat → Int64) (L : Nat → Nat → Int64), Rel a q pg gS gU S U I A → VW X D 4 Q (KM AA X) (65, 481) (wOff Y a q pg gS gU rd ft S U ++ wM Y a2 I A F L) [(0, .ref b), (1, .ref (a 0)), (2, .ref (a2 0)), (3, .int (nI i))] 761 []
