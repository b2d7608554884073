def X4_summedAt (ln : Int32) (n : Int32) (f : Nat → Int32) (p0 : Int32) : Option (Int32) :=
  jn1 (fun (x2_34 : Int32) => some x2_34) fun J34 =>
  wh2 (fun self4 (x2_4 : Int32) (x3_4 : Int32) =>
  if (20 : Int32) < x3_4 then (J34 x2_4) else (ob1 (X2_at n f (p0 - (x3_4 * ln))) fun r23 =>
  self4 (x2_4 + r23) (x3_4 + 1))) 200 (0 : Int32) (0 : Int32)
theorem wX4_summedAt_k0 : Cond.fieldLink RX4 12 (TX4 0).1 (TX4 0).2.1 (TX4 0).2.2.1 ∈ wsX4_summedAt := by decide +kernel
theorem hiX4_summedAt_4 : ∀ w ∈ u_ws RX4 TX4 2, w ∈ wsX4_summedAt := fun _ h => List.mem_cons_of_mem _ (List.mem_append_left _ (List.mem_append_right _ h))
theorem wX4_summedAt_k2 : Cond.fieldLink RX4 18 (TX4 1).1 (TX4 1).2.1 (TX4 1).2.2.1 ∈ wsX4_summedAt := by decide +kernel
theorem hdX4_summedAt : yX4_summedAt.cls ≠ "java/lang/invoke/MethodHandle" ∧ yX4_summedAt.cls ≠ "java/lang/invoke/VarHandle" ∧ (parseMethodDescriptor yX4_summedAt.desc).map (fun d => d.parameters.length) = some 1 := by decide +kernel
set_option maxHeartbeats 4000000 in
set_option maxRecDepth 100000 in
theorem X4_summedAt_ok {l : Launch} {D : va_G} {Y : Nat → ClassId} {a : Nat → Nat} {ln : Int32} {n : Int32} {f : Nat → Int32} {p0 : Int32} {r : Int32} (h : X4_summedAt ln n f p0 = some r) : MR l yX4_summedAt wsX4_summedAt 1 21 D Y [.ref (a 0), .int p0] (wUnit Y a ln n f) (some (.int r)) := by
  refine MR_of (cc := cX4_summedAt) (nL := 4) (ret := some .int) (lv0 := [(0, .ref (a 0)), (1, .int p0)]) (by decide) rfl (Nat.le_of_ble_eq_true rfl) rfl (fun X Q C hQ => ?_)
  unfold X4_summedAt at h
  refine V_iconst (pc := 0) (v := 0) C dX4_summedAt_0 rfl ?_
  refine V_istore_n (pc := 1) (lv' := [(2, .int (0 : Int32)), (0, .ref (a 0)), (1, .int p0)]) C dX4_summedAt_1 rfl (Nat.le_of_ble_eq_true rfl) rfl ?_
  refine V_iconst (pc := 2) (v := 0) C dX4_summedAt_2 rfl ?_
  refine V_istore_n (pc := 3) (lv' := [(3, .int (0 : Int32)), (2, .int (0 : Int32)), (0, .ref (a 0)), (1, .int p0)]) C dX4_summedAt_3 rfl (Nat.le_of_ble_eq_true rfl) rfl ?_
  refine jn1_ok (P := (fun (x2_34 : Int32) => VW X D 4 Q (KR X) (0, 0) (wUnit Y a ln n f) [(2, .int x2_34)] 34 [])) (fun x2_34 h => ?_) (fun J34 hJ34 h => ?_) h
  · refine V_iload_n (pc := 34) C dX4_summedAt_34 rfl 0 rfl ?_
    cases h
    subst hQ
    exact V_iretR C dX4_summedAt_35
  refine V_sub [2, 3, 1, 0] rfl (wh2_ok (P := (fun (x2_4 : Int32) (x3_4 : Int32) => VW X D 4 Q (KR X) (0, 0) (wUnit Y a ln n f) [(0, .ref (a 0)), (1, .int p0), (2, .int x2_4), (3, .int x3_4)] 4 [])) (fun self4 ih4 x2_4 x3_4 h => ?_) 200 _ _ h)
  refine V_iload_n (pc := 4) C dX4_summedAt_4 rfl 3 rfl ?_
  refine V_bipush (pc := 5) (v := 20) C dX4_summedAt_5 rfl ?_
  refine V_icmp_gt (pc := 7) C 34 dX4_summedAt_7 rfl (fun c7 => ?_) (fun c7 => ?_)
  · replace h := t_pos c7 h
    exact V_sub [2] rfl (hJ34 _ h)
  · replace h := t_neg c7 h
    refine V_iload_n (pc := 10) C dX4_summedAt_10 rfl 2 rfl ?_
    refine V_aload_n (pc := 11) C dX4_summedAt_11 rfl 0 rfl ?_
    refine V_get (pc := 12) (v := .ref (a 1)) C 0 4 0 hiX4_summedAt_4 rfl rfl (by decide) wX4_summedAt_k0 rfl dX4_summedAt_12 ?_
    refine V_iload_n (pc := 15) C dX4_summedAt_15 rfl 1 rfl ?_
    refine V_iload_n (pc := 16) C dX4_summedAt_16 rfl 3 rfl ?_
    refine V_aload_n (pc := 17) C dX4_summedAt_17 rfl 0 rfl ?_
    refine V_get (pc := 18) (v := .int ln) C 0 4 1 hiX4_summedAt_4 rfl rfl (by decide) wX4_summedAt_k2 rfl dX4_summedAt_18 ?_
    refine V_imul (pc := 21) C dX4_summedAt_21 ?_
    refine V_isub (pc := 22) C dX4_summedAt_22 ?_
    obtain ⟨r23, hq, h⟩ := ob1_some h
    refine V_callVR (pc := 23) (rest := [.int x2_4]) (st2 := [.int r23, .int x2_4]) C (X2_at_ok (a := (a 1)) (b := (a 2)) hq) gX4_summedAt_X2_at rfl ⟨rfl, hdX2_at⟩ ⟨Nat.le_of_ble_eq_true rfl, Nat.le_of_ble_eq_true rfl⟩ ⟨Nat.le_refl _, Nat.le_refl _⟩ [1, 2] rfl 1 2 rfl rfl rfl (Nat.le_of_ble_eq_true rfl) dX4_summedAt_23 rfl ?_
    refine V_iadd (pc := 26) C dX4_summedAt_26 ?_
    refine V_istore_n (pc := 27) (lv' := [(2, .int (x2_4 + r23)), (0, .ref (a 0)), (1, .int p0), (3, .int x3_4)]) C dX4_summedAt_27 rfl (Nat.le_of_ble_eq_true rfl) rfl ?_
    refine V_iinc (pc := 28) (v := (x3_4 + 1)) (lv' := [(3, .int (x3_4 + 1)), (2, .int (x2_4 + r23)), (0, .ref (a 0)), (1, .int p0)]) C dX4_summedAt_28 3 rfl rfl (Nat.le_of_ble_eq_true rfl) rfl ?_
    refine V_goto (pc := 31) C 4 dX4_summedAt_31 rfl ?_
    exact V_sub [2, 3, 1, 0] rfl (ih4 _ _ h)
