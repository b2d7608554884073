/-! ===== calls and entries of the walking judgement ===== -/
def putAll : va_W → List Nat → va_W → va_W
  | ws, i :: is, c :: cs => putAll (ws.set i c) is cs
  | ws, _, _ => ws
theorem putAll_out : ∀ (is : List Nat) (ws w : va_W) (k : Nat), k ∉ is → (putAll ws is w)[k]? = ws[k]?
  | [], ws, w, k, _ => by cases w <;> rfl
  | i :: is, ws, [], k, _ => rfl
  | i :: is, ws, c :: cs, k, h => by
    show (putAll (ws.set i c) is cs)[k]? = ws[k]?
    rw [putAll_out is _ cs k (fun z => h (List.mem_cons_of_mem _ z))]
    exact List.getElem?_set_ne (fun z => h (by rw [z]; exact List.mem_cons_self))
theorem putAll_in : ∀ (is : List Nat) (ws w : va_W), va_nd is = true → (∀ i ∈ is, i < ws.length) → ∀ (j i : Nat) (c : Nat × va_E), is[j]? = some i → w[j]? = some c → (putAll ws is w)[i]? = some c
  | [], ws, w, _, _, j, i, c, h, _ => by simp at h
  | i0 :: is, ws, [], _, _, j, i, c, _, h => by simp at h
  | i0 :: is, ws, c0 :: cs, hn, hb, j, i, c, hi, hc => by
    simp only [va_nd, Bool.and_eq_true, decide_eq_true_eq] at hn
    show (putAll (ws.set i0 c0) is cs)[i]? = some c
    cases j with
    | zero =>
      rw [List.getElem?_cons_zero] at hi hc
      cases hi; cases hc
      rw [putAll_out is _ cs _ hn.1]
      exact List.getElem?_set_self (hb _ List.mem_cons_self)
    | succ j =>
      rw [List.getElem?_cons_succ] at hi hc
      exact putAll_in is _ cs hn.2 (fun i h => by rw [List.length_set]; exact hb i (List.mem_cons_of_mem _ h)) j i c hi hc
theorem va_D_addr {A : Nat → Prop} {ws ws' : va_W} (key : ∀ (k : Nat) (q : Nat × va_E), ws'[k]? = some q → ∃ q0, ws[k]? = some q0 ∧ q0.1 = q.1) (hD : va_D A ws) : va_D A ws' := by
  refine ⟨fun i j x y hi hj hxy => ?_, fun k q hk => ?_⟩
  · obtain ⟨x0, h1, h2⟩ := key i x hi
    obtain ⟨y0, h3, h4⟩ := key j y hj
    exact hD.1 i j x0 y0 h1 h3 (h2.trans (hxy.trans h4.symm))
  · obtain ⟨q0, h1, h2⟩ := key k q hk
    rw [← h2]
    exact hD.2 k q0 h1
/-- behind a call that wrote its world w (at the places is of the caller's): w' stands there, all else as it was -/
theorem put_join {A0 : Nat → Prop} {D : va_G} {ws w w' : va_W} {H H1 : Heap} (hP : va_P D vwCl ws H) (hD : va_D A0 ws) (is : List Nat) (hn : va_nd is = true) (hC : is.map (fun i => ws[i]?) = w.map some) (hf : w'.map Prod.fst = w.map Prod.fst)
    (hk : ∀ q : Nat, q < H.size → ¬ va_A w H.size q → H1[q]? = H[q]?) (hP1 : va_P D vwCl w' H1) : va_P D vwCl (putAll ws is w') H1 ∧ va_D A0 (putAll ws is w') := by
  have hl1 : is.length = w.length := by have := congrArg List.length hC; simpa using this
  have hl2 : w'.length = w.length := by have := congrArg List.length hf; simpa using this
  have at' : ∀ (k : Nat) (q : Nat × va_E), w[k]? = some q → ∃ i, is[k]? = some i ∧ ws[i]? = some q := by
    intro k q hq
    have h1 : (is.map (fun i => ws[i]?))[k]? = some (some q) := by rw [hC, List.getElem?_map, hq]; rfl
    rw [List.getElem?_map] at h1
    cases hi : is[k]? with
    | none => rw [hi] at h1; cases h1
    | some i => rw [hi] at h1; exact ⟨i, rfl, Option.some.inj h1⟩
  have hb : ∀ i ∈ is, i < ws.length := by
    intro i hi
    obtain ⟨j, hj⟩ := List.getElem?_of_mem hi
    have hjl : j < w.length := by rw [← hl1]; exact (List.getElem?_eq_some_iff.mp hj).1
    obtain ⟨i', h1, h2⟩ := at' j (w[j]'hjl) (List.getElem?_eq_getElem hjl)
    rw [hj] at h1
    cases h1
    exact (List.getElem?_eq_some_iff.mp h2).1
  have get : ∀ (k : Nat) (q : Nat × va_E), (putAll ws is w')[k]? = some q → (k ∉ is ∧ ws[k]? = some q) ∨ ∃ j : Nat, is[j]? = some k ∧ w'[j]? = some q := by
    intro k q hq
    by_cases hki : k ∈ is
    · obtain ⟨j, hj⟩ := List.getElem?_of_mem hki
      have hjl : j < w'.length := by rw [hl2, ← hl1]; exact (List.getElem?_eq_some_iff.mp hj).1
      have h2 := putAll_in is ws w' hn hb j k _ hj (List.getElem?_eq_getElem hjl)
      rw [h2] at hq
      exact Or.inr ⟨j, hj, by rw [List.getElem?_eq_getElem hjl]; exact hq⟩
    · rw [putAll_out is ws w' k hki] at hq
      exact Or.inl ⟨hki, hq⟩
  refine ⟨fun k q hq => ?_, va_D_addr (fun k q hq => ?_) hD⟩
  · rcases get k q hq with ⟨hki, h1⟩ | ⟨j, hj, h1⟩
    · refine (hP k q h1).kept (hk q.1 (hP k q h1).lt (fun h => ?_))
      rcases h with ⟨k2, e, h⟩ | h
      · obtain ⟨i, h3, h4⟩ := at' k2 (q.1, e) h
        have hij := hD.1 k i q (q.1, e) h1 h4 rfl
        subst hij
        exact hki (List.mem_of_getElem? h3)
      · have := (hP k q h1).lt
        omega
    · exact hP1 j q h1
  · rcases get k q hq with ⟨hki, h1⟩ | ⟨j, hj, h1⟩
    · exact ⟨q, h1, rfl⟩
    · have hjl : j < w.length := by rw [← hl1]; exact (List.getElem?_eq_some_iff.mp hj).1
      obtain ⟨i, h3, h4⟩ := at' j (w[j]'hjl) (List.getElem?_eq_getElem hjl)
      rw [hj] at h3
      cases h3
      refine ⟨_, h4, ?_⟩
      have h5 : (w'.map Prod.fst)[j]? = (w.map Prod.fst)[j]? := by rw [hf]
      rw [List.getElem?_map, List.getElem?_map, h1, List.getElem?_eq_getElem hjl] at h5
      exact (Option.some.inj h5).symm
section CR
variable {p : Program} {l : Launch} {e : Env} {R : Room} {s : State} {m : MethodId} {args : Array Value} {below : List Frame} {meth : Method} {c : Code} {H : Heap} {locs : List Loc} {cells slots : Nat} {Q : State → Prop} {pc : Nat} {ls : Array Slot} {rest st0 : List Value}
theorem W_callR {r : Option Value} {a : Array Value} (hr : va_Run p l e R s m args below meth c H locs cells slots 0 0 (F0 m pc ls st0) rest (QcR r a) (fun _ => False)) (kk : W p l e R s m args below meth c H locs cells slots Q (F0 m (pc + 3) ls (r.toList ++ rest))) : W p l e R s m args below meth c H locs cells slots Q (F0 m pc ls st0) := by
  intro T hT X
  obtain ⟨v, st₀, t, T', L, h0, X', hL, e1, e2, ⟨hv, hh⟩, st⟩ := hr T hT X
  have hv' : v = r := by injection hv
  subst hv'
  have hLn : L = [] := List.eq_nil_iff_forall_not_mem.mpr (fun q hq => hL q hq)
  subst hLn
  rw [List.append_nil] at X'
  obtain ⟨t2, a1, b1⟩ := kk T' (by rw [e1, hh, h0]) X'
  exact ⟨t2, st t2 a1, b1⟩
theorem W_callW {D : va_G} {w w' : va_W} {A0 : Nat → Prop} {H0 : Heap} {r : Option Value} {a : Array Value} (hr : va_Run p l e R s m args below meth c H locs cells slots 0 0 (F0 m pc ls st0) rest (QcW D (va_A w H.size) w' r a) (va_A w H.size)) (hS : va_S A0 H0 H locs) (hA : ∀ q, va_A w H.size q → A0 q)
    (kk : ∀ (H1 : Heap) (locs1 : List Loc), va_P D vwCl w' H1 → (∀ q : Nat, q < H.size → ¬ va_A w H.size q → H1[q]? = H[q]?) → va_S A0 H0 H1 locs1 → W p l e R s m args below meth c H1 locs1 cells slots Q (F0 m (pc + 3) ls (r.toList ++ rest))) : W p l e R s m args below meth c H locs cells slots Q (F0 m pc ls st0) := by
  intro T hT X
  obtain ⟨v, st₀, t, T', L, h0, X', hL, e1, e2, ⟨⟨hv, hp⟩, hz, hk⟩, st⟩ := hr T hT X
  have hv' : v = r := by injection hv
  subst hv'
  rw [h0] at hz hk
  obtain ⟨t2, a1, b1⟩ := kk T'.heap (locs ++ L) (by rw [e1]; exact hp) (fun q h1 h2 => by rw [e1]; exact hk q h1 h2)
    ⟨Nat.le_trans hS.1 (by rw [e1]; exact hz), fun q h1 h2 => by rw [e1, hk q (Nat.lt_of_lt_of_le h1 hS.1) (fun z => h2 (hA q z))]; exact hS.2.1 q h1 h2, fun q hq => by
      rcases List.mem_append.mp hq with h | h
      · exact hS.2.2 q h
      · exact hA _ (hL q h)⟩ T' rfl X'
  exact ⟨t2, st t2 a1, b1⟩
end CR
section CV
variable {X : VX} {D : va_G} {Y : Nat → ClassId} {cc : ByteArray} {nL : Nat} {own : String} {Ts : List Cond} {ret : Option FieldType} {rm : Room} {Q : State → Prop} {K : va_W → Heap → List Loc → Prop} {cs : Nat × Nat} {ws : va_W} {lv : List (Nat × Value)} {pc : Nat} {st : List Value}
variable {y : MethodName} {wy wt : List Cond} {bytes : ByteArray} {maxL ix fr lo : Nat} {rt : Option FieldType} {As rest st2 : List Value} {w w' ws' : va_W} {r : Option Value}
theorem V_callSR (C : Cx X D Y cc nL own Ts ret rm) (hM : MR (xL X) y wy fr lo D Y As w r) (hg : GoodIn Ts (va_wsS own ix y wy)) (hw : wy = Cond.code y bytes maxL rt :: wt)
    (hd : y.cls ≠ "java/lang/invoke/MethodHandle" ∧ y.cls ≠ "java/lang/invoke/VarHandle" ∧ (parseMethodDescriptor y.desc).map (fun d => d.parameters.length) = some As.length) (hR : fr + 1 ≤ rm.frames ∧ 8 + (maxL + 11) + lo ≤ rm.locals) (hc0 : cs.1 ≤ rm.cells ∧ cs.2 ≤ rm.slots)
    (is : List Nat) (hs : is.filterMap (fun i => ws[i]?) = w) (hst : st = As.reverse ++ rest) (hcat : (rest.map fun v => v.category).sum ≤ 8) (d : decode cc pc = .ok (.invokestatic ix, 3)) (h2 : r.toList ++ rest = st2) (kk : VW X D nL Q K cs ws lv (pc + 3) st2) : VW X D nL Q K cs ws lv pc st := by
  intro H locs ls hP hK hl
  subst h2
  have hR' : fr + 1 ≤ (xR X).frames ∧ 8 + (maxL + 11) + lo ≤ (xR X).locals := by rw [C.2.2.2.2]; exact hR
  have hc' : cs.1 ≤ (xR X).cells ∧ cs.2 ≤ (xR X).slots := by rw [C.2.2.2.2]; exact hc0
  refine W_callR (va_runS (As := As) (rest := rest) C.1 hM (va_cwS As.length C.1.2.2.2.2 hg hw rfl rfl hd hR') ⟨?_, ?_⟩ rfl rfl hl.1 hst (lv_room hcat) d hc') (kk H locs ls hP hK hl)
  · intro a U g mk q
    obtain ⟨q0, q1, q2⟩ := q
    exact ⟨q0, q1, KN_call g mk a q2⟩
  · intro U hU hW
    exact ⟨rfl, by rw [hU]; exact hP.sub is hs, KN_warm hW C.2.1⟩
theorem V_callVR (C : Cx X D Y cc nL own Ts ret rm) {b : Nat} (hM : MR (xL X) y wy fr lo D Y (.ref b :: As) w r) {Cn : String} (hg : GoodIn Ts (wsV own ix Cn y wy)) (hw : wy = Cond.code y bytes maxL rt :: wt)
    (hd : y.cls = Cn ∧ y.cls ≠ "java/lang/invoke/MethodHandle" ∧ y.cls ≠ "java/lang/invoke/VarHandle" ∧ (parseMethodDescriptor y.desc).map (fun d => d.parameters.length) = some As.length) (hR : fr + 1 ≤ rm.frames ∧ 8 + (maxL + 11) + lo ≤ rm.locals) (hc0 : cs.1 ≤ rm.cells ∧ cs.2 ≤ rm.slots)
    (is : List Nat) (hs : is.filterMap (fun i => ws[i]?) = w) (q0 ci : Nat) {T : u_T} {N : Nat} {fs : List Value} (he : ws[q0]? = some (b, .inr (ci, fs))) (hc : vwCl[ci]? = some (Cn, T, N)) (hst : st = As.reverse ++ .ref b :: rest) (hcat : (rest.map fun v => v.category).sum ≤ 8) (d : decode cc pc = .ok (.invokevirtual ix, 3)) (h2 : r.toList ++ rest = st2) (kk : VW X D nL Q K cs ws lv (pc + 3) st2) : VW X D nL Q K cs ws lv pc st := by
  intro H locs ls hP hK hl
  subst h2
  have hR' : fr + 1 ≤ (xR X).frames ∧ 8 + (maxL + 11) + lo ≤ (xR X).locals := by rw [C.2.2.2.2]; exact hR
  have hc' : cs.1 ≤ (xR X).cells ∧ cs.2 ≤ (xR X).slots := by rw [C.2.2.2.2]; exact hc0
  refine W_callR (va_runV (As := As) (rest := rest) C.1 hM (cwV As.length C.1.2.2.2.2 hg hw rfl rfl hd hR') ⟨?_, va_recv C.2.1.1 hP hc he, ?_⟩ rfl rfl hl.1 hst (lv_room hcat) d hc') (kk H locs ls hP hK hl)
  · intro a U g mk q
    obtain ⟨q0, q1, q2⟩ := q
    exact ⟨q0, q1, KN_call g mk a q2⟩
  · intro U hU hW
    exact ⟨rfl, by rw [hU]; exact hP.sub is hs, KN_warm hW C.2.1⟩
theorem V_callNR (C : Cx X D Y cc nL own Ts ret rm) (hM : MR (xL X) y wy fr lo D Y As w r) {host : String} (hg : GoodIn Ts wy) (hnest : va_Nw (.methodLinkNest own ix y host) (xS X)) (hsta : Cond.static y ∈ Ts) (hini : Cond.initialized y.cls ∈ Ts) (hw : wy = Cond.code y bytes maxL rt :: wt)
    (hd : y.cls ≠ "java/lang/invoke/MethodHandle" ∧ y.cls ≠ "java/lang/invoke/VarHandle" ∧ (parseMethodDescriptor y.desc).map (fun d => d.parameters.length) = some As.length) (hR : fr + 1 ≤ rm.frames ∧ 8 + (maxL + 11) + lo ≤ rm.locals) (hc0 : cs.1 ≤ rm.cells ∧ cs.2 ≤ rm.slots)
    (is : List Nat) (hs : is.filterMap (fun i => ws[i]?) = w) (hst : st = As.reverse ++ rest) (hcat : (rest.map fun v => v.category).sum ≤ 8) (d : decode cc pc = .ok (.invokestatic ix, 3)) (h2 : r.toList ++ rest = st2) (kk : VW X D nL Q K cs ws lv (pc + 3) st2) : VW X D nL Q K cs ws lv pc st := by
  intro H locs ls hP hK hl
  subst h2
  have hR' : fr + 1 ≤ (xR X).frames ∧ 8 + (maxL + 11) + lo ≤ (xR X).locals := by rw [C.2.2.2.2]; exact hR
  have hc' : cs.1 ≤ (xR X).cells ∧ cs.2 ≤ (xR X).slots := by rw [C.2.2.2.2]; exact hc0
  refine W_callR (va_runSN (As := As) (rest := rest) C.1 hM ⟨va_cnB As.length C.1.2.2.2.2 hg hw rfl rfl hnest (C.1.2.2.2.2 _ hini) hd hR', C.1.2.2.2.2 _ hsta, trivial⟩ ⟨?_, ?_⟩ rfl rfl hl.1 hst (lv_room hcat) d hc') (kk H locs ls hP hK hl)
  · intro a U g mk q
    obtain ⟨q0, q1, q2⟩ := q
    exact ⟨q0, q1, KN_call g mk a q2⟩
  · intro U hU hW
    exact ⟨rfl, by rw [hU]; exact hP.sub is hs, KN_warm hW C.2.1⟩
theorem V_callVW {A : Nat → Prop} (C : Cx X D Y cc nL own Ts ret rm) (hA : ∀ q, (xS X).heap.size ≤ q → A q) {b : Nat} (hM : MW (xL X) y wy fr lo D Y (.ref b :: As) w w' r) {Cn : String} (hg : GoodIn Ts (wsV own ix Cn y wy)) (hw : wy = Cond.code y bytes maxL rt :: wt)
    (hd : y.cls = Cn ∧ y.cls ≠ "java/lang/invoke/MethodHandle" ∧ y.cls ≠ "java/lang/invoke/VarHandle" ∧ (parseMethodDescriptor y.desc).map (fun d => d.parameters.length) = some As.length) (hR : fr + 1 ≤ rm.frames ∧ 8 + (maxL + 11) + lo ≤ rm.locals) (hc0 : cs.1 ≤ rm.cells ∧ cs.2 ≤ rm.slots)
    (is : List Nat) (hn : va_nd is = true) (hs : is.map (fun i => ws[i]?) = w.map some) (q0 ci : Nat) {T : u_T} {N : Nat} {fs : List Value} (he : ws[q0]? = some (b, .inr (ci, fs))) (hc : vwCl[ci]? = some (Cn, T, N)) (hst : st = As.reverse ++ .ref b :: rest) (hcat : (rest.map fun v => v.category).sum ≤ 8) (d : decode cc pc = .ok (.invokevirtual ix, 3)) (h2 : r.toList ++ rest = st2) (hws : putAll ws is w' = ws') (kk : VW X D nL Q (KM A X) cs ws' lv (pc + 3) st2) : VW X D nL Q (KM A X) cs ws lv pc st := by
  intro H locs ls hP hK hl
  subst h2
  subst hws
  have hR' : fr + 1 ≤ (xR X).frames ∧ 8 + (maxL + 11) + lo ≤ (xR X).locals := by rw [C.2.2.2.2]; exact hR
  have hc' : cs.1 ≤ (xR X).cells ∧ cs.2 ≤ (xR X).slots := by rw [C.2.2.2.2]; exact hc0
  have hPc : va_P D vwCl w H := by
    intro k q hq
    have h1 : (is.map (fun i => ws[i]?))[k]? = some (some q) := by rw [hs, List.getElem?_map, hq]; rfl
    rw [List.getElem?_map] at h1
    cases hi : is[k]? with
    | none => rw [hi] at h1; cases h1
    | some i => rw [hi] at h1; exact hP i q (Option.some.inj h1)
  have hDc : va_D A w := hK.1.sub is hn hs
  have hF := va_free (wc := w) hK.1 hK.2 hA is hs
  refine W_callW (va_runV (As := As) (rest := rest) C.1 (hM.2 H.size) (cwV As.length C.1.2.2.2.2 hg hw rfl rfl hd hR') ⟨?_, va_recv C.2.1.1 hP hc he, ?_⟩ rfl rfl hl.1 hst (lv_room hcat) d hc') hK.2 hF ?_
  · intro a U g mk q
    obtain ⟨q0, q1, q2, q3, q4⟩ := q
    exact ⟨q0, q1, q2, KN_call g mk a q3, q4⟩
  · intro U hU hW
    exact ⟨rfl, by rw [hU], by rw [hU]; exact hPc, KN_warm hW C.2.1, hDc.weaken (fun _ _ _ _ => trivial)⟩
  · intro H1 locs1 hP1 hk1 hS1
    obtain ⟨h3, h4⟩ := put_join hP hK.1 is hn hs hM.1 hk1 hP1
    exact kk H1 locs1 ls h3 ⟨h4, hS1⟩ hl
theorem V_callVR0 (C : Cx X D Y cc nL own Ts ret rm) {b : Nat} (hM : MR (xL X) y wy fr lo D Y (.ref b :: As) ws r) {Cn : String} (hg : GoodIn Ts (wsV own ix Cn y wy)) (hw : wy = Cond.code y bytes maxL rt :: wt)
    (hd : y.cls = Cn ∧ y.cls ≠ "java/lang/invoke/MethodHandle" ∧ y.cls ≠ "java/lang/invoke/VarHandle" ∧ (parseMethodDescriptor y.desc).map (fun d => d.parameters.length) = some As.length) (hR : fr + 1 ≤ rm.frames ∧ 8 + (maxL + 11) + lo ≤ rm.locals) (hc0 : cs.1 ≤ rm.cells ∧ cs.2 ≤ rm.slots)
    (q0 ci : Nat) {T : u_T} {N : Nat} {fs : List Value} (he : ws[q0]? = some (b, .inr (ci, fs))) (hc : vwCl[ci]? = some (Cn, T, N)) (hst : st = As.reverse ++ .ref b :: rest) (hcat : (rest.map fun v => v.category).sum ≤ 8) (d : decode cc pc = .ok (.invokevirtual ix, 3)) (h2 : r.toList ++ rest = st2) (kk : VW X D nL Q K cs ws lv (pc + 3) st2) : VW X D nL Q K cs ws lv pc st := by
  intro H locs ls hP hK hl
  subst h2
  have hR' : fr + 1 ≤ (xR X).frames ∧ 8 + (maxL + 11) + lo ≤ (xR X).locals := by rw [C.2.2.2.2]; exact hR
  have hc' : cs.1 ≤ (xR X).cells ∧ cs.2 ≤ (xR X).slots := by rw [C.2.2.2.2]; exact hc0
  refine W_callR (va_runV (As := As) (rest := rest) C.1 hM (cwV As.length C.1.2.2.2.2 hg hw rfl rfl hd hR') ⟨?_, va_recv C.2.1.1 hP hc he, ?_⟩ rfl rfl hl.1 hst (lv_room hcat) d hc') (kk H locs ls hP hK hl)
  · intro a U g mk q
    obtain ⟨q0, q1, q2⟩ := q
    exact ⟨q0, q1, KN_call g mk a q2⟩
  · intro U hU hW
    exact ⟨rfl, by rw [hU]; exact hP, KN_warm hW C.2.1⟩
theorem addr_key {w w' : va_W} (hf : w'.map Prod.fst = w.map Prod.fst) (k : Nat) (q : Nat × va_E) (hq : w'[k]? = some q) : ∃ q0, w[k]? = some q0 ∧ q0.1 = q.1 := by
  have h5 : (w'.map Prod.fst)[k]? = (w.map Prod.fst)[k]? := by rw [hf]
  rw [List.getElem?_map, List.getElem?_map, hq] at h5
  cases hw : w[k]? with
  | none => rw [hw] at h5; cases h5
  | some q0 => rw [hw] at h5; exact ⟨q0, rfl, (Option.some.inj h5).symm⟩
theorem V_callVW0 {A : Nat → Prop} (C : Cx X D Y cc nL own Ts ret rm) (hA : ∀ q, (xS X).heap.size ≤ q → A q) {b : Nat} (hM : MW (xL X) y wy fr lo D Y (.ref b :: As) ws w' r) {Cn : String} (hg : GoodIn Ts (wsV own ix Cn y wy)) (hw : wy = Cond.code y bytes maxL rt :: wt)
    (hd : y.cls = Cn ∧ y.cls ≠ "java/lang/invoke/MethodHandle" ∧ y.cls ≠ "java/lang/invoke/VarHandle" ∧ (parseMethodDescriptor y.desc).map (fun d => d.parameters.length) = some As.length) (hR : fr + 1 ≤ rm.frames ∧ 8 + (maxL + 11) + lo ≤ rm.locals) (hc0 : cs.1 ≤ rm.cells ∧ cs.2 ≤ rm.slots)
    (q0 ci : Nat) {T : u_T} {N : Nat} {fs : List Value} (he : ws[q0]? = some (b, .inr (ci, fs))) (hc : vwCl[ci]? = some (Cn, T, N)) (hst : st = As.reverse ++ .ref b :: rest) (hcat : (rest.map fun v => v.category).sum ≤ 8) (d : decode cc pc = .ok (.invokevirtual ix, 3)) (h2 : r.toList ++ rest = st2) (hws : w' = ws') (kk : VW X D nL Q (KM A X) cs ws' lv (pc + 3) st2) : VW X D nL Q (KM A X) cs ws lv pc st := by
  intro H locs ls hP hK hl
  subst h2
  subst hws
  have hR' : fr + 1 ≤ (xR X).frames ∧ 8 + (maxL + 11) + lo ≤ (xR X).locals := by rw [C.2.2.2.2]; exact hR
  have hc' : cs.1 ≤ (xR X).cells ∧ cs.2 ≤ (xR X).slots := by rw [C.2.2.2.2]; exact hc0
  have hF : ∀ q, va_A ws H.size q → A q := by
    intro q h
    rcases h with ⟨k, e, h⟩ | h
    · exact hK.1.2 k (q, e) h
    · exact hA q (Nat.le_trans hK.2.1 h)
  refine W_callW (va_runV (As := As) (rest := rest) C.1 (hM.2 H.size) (cwV As.length C.1.2.2.2.2 hg hw rfl rfl hd hR') ⟨?_, va_recv C.2.1.1 hP hc he, ?_⟩ rfl rfl hl.1 hst (lv_room hcat) d hc') hK.2 hF ?_
  · intro a U g mk q
    obtain ⟨q0, q1, q2, q3, q4⟩ := q
    exact ⟨q0, q1, q2, KN_call g mk a q3, q4⟩
  · intro U hU hW
    exact ⟨rfl, by rw [hU], by rw [hU]; exact hP, KN_warm hW C.2.1, hK.1.weaken (fun _ _ _ _ => trivial)⟩
  · intro H1 locs1 hP1 hk1 hS1
    exact kk H1 locs1 ls hP1 ⟨va_D_addr (addr_key hM.1) hK.1, hS1⟩ hl
end CV
theorem MR_of {l : Launch} {y : MethodName} {wy wt : List Cond} {fr lo : Nat} {D : va_G} {Y : Nat → ClassId} {as : List Value} {w : va_W} {r : Option Value} {cc : ByteArray} {nL : Nat} {ret : Option FieldType} {lv0 : List (Nat × Value)} (hy : plainName y.cls = true) (hw : wy = Cond.code y cc nL ret :: wt) (hN : (lg_sl as).length ≤ nL) (hl0 : lv_args 0 as = lv0)
    (body : ∀ (X : VX) (Q : State → Prop), Cx X D Y cc nL y.cls wy ret { frames := fr, cells := 0, slots := 0, locals := lo } → Q = QR X r → VW X D nL Q (KR X) (0, 0) w lv0 0 []) : MR l y wy fr lo D Y as w r := by
  refine Met.ofW (cc := cc) (maxL := nL) (ret := ret) hy hw ?_
  intro p e s m args below meth c s₁ B hml hv
  obtain ⟨rfl, hP, hK⟩ := hv
  have hl := lv_entry as (n := nL) hN
  rw [lg_entry_eq]
  rw [hl0] at hl
  exact body (p, l, e, (headSpec wy { frames := fr, cells := 0, slots := 0, locals := lo }).room, s, m, as.toArray, below, meth, c) _ ⟨⟨B.exec, B.bytes, hml, findClass_of_methodNamed B.named, atoms_spec (ws := wy) B.pre⟩, hK, B.returns, B.notSynchronized, rfl⟩ rfl s.heap [] _ hP ⟨rfl, rfl⟩ hl
theorem MW_of {l : Launch} {y : MethodName} {wy wt : List Cond} {fr lo : Nat} {D : va_G} {Y : Nat → ClassId} {as : List Value} {w w' : va_W} {r : Option Value} {cc : ByteArray} {nL : Nat} {ret : Option FieldType} {lv0 : List (Nat × Value)} (hy : plainName y.cls = true) (hw : wy = Cond.code y cc nL ret :: wt) (hN : (lg_sl as).length ≤ nL) (hl0 : lv_args 0 as = lv0) (hf : w'.map Prod.fst = w.map Prod.fst)
    (body : ∀ (X : VX) (A : Nat → Prop) (Q : State → Prop), Cx X D Y cc nL y.cls wy ret { frames := fr, cells := 0, slots := 0, locals := lo } → (∀ q, (xS X).heap.size ≤ q → A q) → Q = QW X D A w' r → VW X D nL Q (KM A X) (0, 0) w lv0 0 []) : MW l y wy fr lo D Y as w w' r := by
  refine ⟨hf, fun sz => ?_⟩
  refine Met.ofW (cc := cc) (maxL := nL) (ret := ret) hy hw ?_
  intro p e s m args below meth c s₁ B hml hv
  obtain ⟨rfl, hsz, hP, hK, hD⟩ := hv
  subst hsz
  have hl := lv_entry as (n := nL) hN
  rw [lg_entry_eq]
  rw [hl0] at hl
  exact body (p, l, e, (headSpec wy { frames := fr, cells := 0, slots := 0, locals := lo }).room, s, m, as.toArray, below, meth, c) (va_A w s.heap.size) _ ⟨⟨B.exec, B.bytes, hml, findClass_of_methodNamed B.named, atoms_spec (ws := wy) B.pre⟩, hK, B.returns, B.notSynchronized, rfl⟩ (fun q h => Or.inr h) rfl s.heap [] _ hP ⟨hD.self, va_S.rf⟩ hl
