/-- the walk: two objects made, then the loop -/
theorem law_start {X : VX} {D : va_G} {Y : Nat → ClassId} {Q : State → Prop} {AA : Nat → Prop} {b M : Nat} {xs : Nat → Int32} (C : Cx X D Y cL_law 4 RL lw_tbl ret room_1) (hA : ∀ q, (xS X).heap.size ≤ q → AA q) (hX : va_X b M xs (xS X) (xS X).heap) (hbl : b < (xS X).heap.size) (hbA : ¬ AA b) (hL : M ≤ 2560) (ho3 : va_AO RX3 (xS X)) (ho4 : va_AO RX4 (xS X)) (hret : ∀ (ws : va_W) (lv : List (Nat × Value)), VW X D 4 Q (KM AA X) (65, 481) ws lv 767 []) : VW X D 4 Q (KM AA X) (0, 0) [] [(0, .ref b)] 0 [] := by
  refine V_new (pc := 0) (cs' := (1, 11)) C hA (fun w h => (glX50 w h).1) tyX5_ok wL_cls5 wL_inst5 wL_init5 5 [.null, .null, .null, .null, .null, .int 0, .int 0, .int 0, .int 0, .int 0, .int 0] rfl (fun j hj => match j, hj with | 0, _ => rfl | 1, _ => rfl | 2, _ => rfl | 3, _ => rfl | 4, _ => rfl | 5, _ => rfl | 6, _ => rfl | 7, _ => rfl | 8, _ => rfl | 9, _ => rfl | 10, _ => rfl | n + 11, h => absurd h (by omega)) ⟨Nat.le_of_ble_eq_true rfl, Nat.le_of_ble_eq_true rfl⟩ dL_law_0 rfl (fun qo => ?_)
  refine V_dup (pc := 3) C dL_law_3 rfl ?_
  refine V_callI (pc := 4) (cs' := (48, 274)) (rest := [.ref qo]) (wr := []) C hA (X5_init_ok (Ex := fun U => va_AO RX3 U ∧ va_AO RX4 U) (fun _ h => h)) gl_wsX5_init wL_link5 wL_ins5 wL_init5 rfl rfl hdX5_init ⟨Nat.le_of_ble_eq_true rfl, Nat.le_of_ble_eq_true rfl⟩ ⟨Nat.le_of_ble_eq_true rfl, Nat.le_of_ble_eq_true rfl⟩ (fun U hW => ⟨va_AO.moved hW.alike ho3, va_AO.moved hW.alike ho4⟩) (fun U g mk a h => ⟨va_AO.moved (u := U) (U := U.calling g mk a) (Vm.Alike.refl U.vm) h.1, va_AO.moved (u := U) (U := U.calling g mk a) (Vm.Alike.refl U.vm) h.2⟩) rfl rfl (Nat.le_of_ble_eq_true rfl) dL_law_4 rfl (fun u hu => ?_)
  obtain ⟨a, gS, gU⟩ := u
  obtain ⟨e0, h1, h2⟩ := hu
  have e0 : a 0 = qo := e0
  subst e0
  show VW X D 4 Q (KM AA X) (48, 274) (wOff Y a (fun _ => 0) (fun _ => 0) gS gU rd0 ft0 (fun _ => st0) (fun _ => un0)) [(0, .ref b)] 7 [.ref (a 0)]
  refine V_astore_n (pc := 7) (lv' := [(1, .ref (a 0)), (0, .ref b)]) C dL_law_7 rfl (by decide) rfl ?_
  refine V_new (pc := 8) (cs' := (49, 307)) C hA (fun w h => (glX60 w h).1) tyX6_ok wL_cls6 wL_inst6 wL_init6 6 [.int 0, .null, .int 0, .null, .null, .null, .null, .int 0, .null, .null, .null, .int 0, .int 0, .int 0, .int 0, .int 0, .int 0, .int 0, .null, .int 0, .null, .int 0, .int 0, .int 0, .null, .null, .null, .long 0, .null, .null, .long 0, .null, .long 0] rfl (fun j hj => match j, hj with | 0, _ => rfl | 1, _ => rfl | 2, _ => rfl | 3, _ => rfl | 4, _ => rfl | 5, _ => rfl | 6, _ => rfl | 7, _ => rfl | 8, _ => rfl | 9, _ => rfl | 10, _ => rfl | 11, _ => rfl | 12, _ => rfl | 13, _ => rfl | 14, _ => rfl | 15, _ => rfl | 16, _ => rfl | 17, _ => rfl | 18, _ => rfl | 19, _ => rfl | 20, _ => rfl | 21, _ => rfl | 22, _ => rfl | 23, _ => rfl | 24, _ => rfl | 25, _ => rfl | 26, _ => rfl | 27, _ => rfl | 28, _ => rfl | 29, _ => rfl | 30, _ => rfl | 31, _ => rfl | 32, _ => rfl | n + 33, h => absurd h (by omega)) ⟨Nat.le_of_ble_eq_true rfl, Nat.le_of_ble_eq_true rfl⟩ dL_law_8 rfl (fun qm => ?_)
  refine V_dup (pc := 11) C dL_law_11 rfl ?_
  refine V_callI (pc := 12) (cs' := (65, 481)) (rest := [.ref qm]) (wr := wOff Y a (fun _ => 0) (fun _ => 0) gS gU rd0 ft0 (fun _ => st0) (fun _ => un0)) C hA (X6_init_ok (Ex := fun _ => True) (fun _ _ => trivial)) gl_wsX6_init wL_link6 wL_ins6 wL_init6 rfl rfl hdX6_init ⟨Nat.le_of_ble_eq_true rfl, Nat.le_of_ble_eq_true rfl⟩ ⟨Nat.le_of_ble_eq_true rfl, Nat.le_of_ble_eq_true rfl⟩ (fun _ _ => trivial) (fun _ _ _ _ _ => trivial) rfl rfl (Nat.le_of_ble_eq_true rfl) dL_law_12 rfl (fun a2 e2 => ?_)
  have e2 : a2 0 = qm := e2
  subst e2
  refine V_astore_n (pc := 15) (lv' := [(2, .ref (a2 0)), (1, .ref (a 0)), (0, .ref b)]) C dL_law_15 rfl (by decide) rfl ?_
  refine V_iconst (pc := 16) (v := nI 0) C dL_law_16 (by decide +kernel) ?_
  refine V_istore_n (pc := 17) (lv' := [(3, .int (nI 0)), (2, .ref (a2 0)), (1, .ref (a 0)), (0, .ref b)]) C dL_law_17 rfl (by decide) rfl ?_
  refine V_sub [3, 2, 1, 0] rfl ?_
  intro H locs ls hP hK hl
  exact law_loop C hA hX hbl hbA hL hret (M + 1) 0 (Nat.zero_le _) (by omega) _ _ _ _ _ _ _ _ _ _ _ _ (rel_0 (D_left hK.1) h1 h2) H locs ls hP hK hl
/-- from the entry, for every script of at most 2560 ints, the law comes to its end with true -/
theorem whole_start {p : Program} {e : Env} {s : State} {m : MethodId} {below : List Frame} {meth : Method} {c : Code} (l : Launch) (hflags : l.flags = flags0) {b L : Nat} {xs : Nat → Int32} (hL : L ≤ 2560) (C0 : lw_At p s m meth c b L xs) : W p l e room_1 s m #[Value.ref b] below meth c s.heap [] 0 0 (lw_Z below #[Value.ref b] s) (entryFrame m ([Value.ref b] : List Value).toArray 4) := by
  obtain ⟨hx, hb, hr, hml, hown, hts, hX, hbl, hlocks, hgv⟩ := C0
  obtain ⟨D, Y, hKN⟩ := kn_start hts
  have C : Cx (p, l, e, room_1, s, m, #[Value.ref b], below, meth, c) D Y cL_law 4 RL lw_tbl ret room_1 := ⟨⟨hx, hb, hml, hown, hts⟩, hKN, hr, hlocks, rfl⟩
  have hret : ∀ (ws : va_W) (lv : List (Nat × Value)), VW (p, l, e, room_1, s, m, #[Value.ref b], below, meth, c) D 4 (lw_Z below #[Value.ref b] s) (KM (fun q : Nat => s.heap.size ≤ q) (p, l, e, room_1, s, m, #[Value.ref b], below, meth, c)) (65, 481) ws lv 767 [] := by
    intro ws lv
    refine V_iconst (pc := 767) (v := 1) C dL_law_767 rfl ?_
    intro H locs ls hP hK hl
    show W p l e room_1 s m #[Value.ref b] below meth c H locs 65 481 (lw_Z below #[Value.ref b] s) (F0 m 768 ls [.int 1])
    refine va_forget (fun q hq => hK.2.2.2 q hq) ?_
    refine W.widen (k := 600000) (n := 7302250) (Nat.le_of_ble_eq_true rfl) (Nat.le_of_ble_eq_true rfl) ?_
    exact lw_ret hx hb hr hlocks dL_law_768
  have key := law_start (AA := fun q : Nat => s.heap.size ≤ q) C (fun _ h => h) hX hbl (Nat.not_le.mpr hbl) hL (va_AO.of (hts _ wL_over3)) (va_AO.of (hts _ wL_over4)) hret
  have hl := lv_entry ([.ref b]) (n := 4) (Nat.le_of_ble_eq_true rfl)
  rw [lg_entry_eq]
  generalize (lg_sl ([.ref b]) ++ List.replicate (4 - (lg_sl ([.ref b])).length) Slot.unset).toArray = ls at hl ⊢
  exact key s.heap [] ls (fun k q h => by simp at h) ⟨⟨fun i j p q h => by simp at h, fun k q h => by simp at h⟩, va_S.rf⟩ hl
