def rd0 : RdT := (0, 0, 0, 0, 0, (fun _ => 0), 0, (fun _ => 0))
def ft0 : FtT := ((fun _ => 0), (fun _ => 0), (fun _ => 0), (fun _ => 0), (fun _ => 0), 1, 0, 0)
def st0 : StT := (0, (fun _ => 0), 0, (fun _ => 0), 0, (fun _ => 0), 0)
def un0 : UnT := (1, 0, (fun _ => 0))
-- X2
theorem wX2_init_k0 : Cond.methodLink RX2 3 objectInit ∈ wsX2_init := by decide +kernel
theorem wX2_init_k1 : Cond.instanceMethod objectInit ∈ wsX2_init := by decide +kernel
theorem wX2_init_k2 : Cond.code objectInit ⟨#[0xb1]⟩ 1 none ∈ wsX2_init := by decide +kernel
theorem wX2_init_k3 : Cond.arrayClass .int ∈ wsX2_init := by decide +kernel
theorem wX2_init_k4 : Cond.fieldLink RX2 9 (TX2 0).1 (TX2 0).2.1 (TX2 0).2.2.1 ∈ wsX2_init := by decide +kernel
theorem hiX2_init_X2 : ∀ w ∈ u_ws RX2 TX2 2, w ∈ wsX2_init := fun _ h => List.mem_cons_of_mem _ (List.mem_append_right _ h)
theorem hdX2_init : yX2_init.cls ≠ "java/lang/invoke/MethodHandle" ∧ yX2_init.cls ≠ "java/lang/invoke/VarHandle" ∧ (parseMethodDescriptor yX2_init.desc).map (fun d => d.parameters.length) = some 0 := by decide +kernel
set_option maxHeartbeats 4000000 in
set_option maxRecDepth 100000 in
theorem X2_init_ok {l : Launch} {D : va_G} {Y : Nat → ClassId} {h0 : Nat} {Ex : State → Prop} (hEx : ∀ U, Ex U → True) : MC l yX2_init wsX2_init 1 12 1 8 D Y Ex h0 2 [.null, .int 0] (S := Nat) (fun _ => True) (fun b => wRow Y h0 b 0 (fun _ => 0)) := by
  refine MC_of (cc := cX2_init) (nL := 1) (by decide) rfl rfl (Nat.le_of_ble_eq_true rfl) (fun X Af Q C hA hm hE0 hQ => ?_)
  have hE := hEx _ hE0
  refine V_aload_n (pc := 0) C dX2_init_0 rfl 0 rfl ?_
  refine V_oinit (pc := 1) C wX2_init_k0 wX2_init_k1 wX2_init_k2 (Nat.le_of_ble_eq_true rfl) (Nat.le_of_ble_eq_true rfl) dX2_init_1 ?_
  refine V_aload_n (pc := 4) C dX2_init_4 rfl 0 rfl ?_
  refine V_bipush (pc := 5) (v := 8) C dX2_init_5 rfl ?_
  refine V_newi (pc := 7) (cs' := (1, 8)) C hA wX2_init_k3 8 (by decide) (by decide) (by decide) ⟨Nat.le_of_ble_eq_true rfl, Nat.le_of_ble_eq_true rfl⟩ dX2_init_7 rfl (fun q7 => ?_)
  show VW X D 1 Q (KM Af X) (1, 8) ([(h0, .inr (2, [.null, .int 0])), (q7, .inl (Y 0, 8, .inl (fun _ => 0)))]) [(0, .ref h0)] 9 [.ref q7, .ref h0]
  refine V_putF (pc := 9) (ws' := [(h0, .inr (2, [.ref q7, .int 0])), (q7, .inl (Y 0, 8, .inl (fun _ => 0)))]) C hm 0 2 0 hiX2_init_X2 tyX2_ok nmX2 rfl rfl (by decide) wX2_init_k4 rfl rfl rfl rfl (Nat.le_of_ble_eq_true rfl) dX2_init_9 rfl ?_
  exact V_vretC (S := Nat) (post := fun _ => True) (w1 := fun b => wRow Y h0 b 0 (fun _ => 0)) C q7 trivial rfl dX2_init_12 hQ
-- X4
theorem wX4_init_k0 : Cond.methodLink RX4 3 objectInit ∈ wsX4_init := by decide +kernel
theorem wX4_init_k1 : Cond.instanceMethod objectInit ∈ wsX4_init := by decide +kernel
theorem wX4_init_k2 : Cond.code objectInit ⟨#[0xb1]⟩ 1 none ∈ wsX4_init := by decide +kernel
theorem wX4_init_k3 : Cond.classLink RX4 9 RX2 ∈ wsX4_init := by decide +kernel
theorem wX4_init_k4 : Cond.instantiable RX2 2 ∈ wsX4_init := by decide +kernel
theorem wX4_init_k5 : Cond.initialized RX2 ∈ wsX4_init := by decide +kernel
theorem wX4_init_k6 : Cond.instanceMethod yX2_init ∈ wsX4_init := by decide +kernel
theorem wX4_init_k7 : Cond.initialized yX2_init.cls ∈ wsX4_init := by decide +kernel
theorem wX4_init_k8 : Cond.fieldLink RX4 12 (TX4 0).1 (TX4 0).2.1 (TX4 0).2.2.1 ∈ wsX4_init := by decide +kernel
theorem wX4_init_k9 : Cond.fieldLink RX4 18 (TX4 1).1 (TX4 1).2.1 (TX4 1).2.2.1 ∈ wsX4_init := by decide +kernel
theorem hiX4_init_X2 : ∀ w ∈ u_ws RX2 TX2 2, w ∈ wsX4_init := fun _ h => List.mem_cons_of_mem _ (List.mem_append_left _ (List.mem_append_right _ h))
theorem hiX4_init_X4 : ∀ w ∈ u_ws RX4 TX4 2, w ∈ wsX4_init := fun _ h => List.mem_cons_of_mem _ (List.mem_append_right _ h)
theorem hdX4_init : yX4_init.cls ≠ "java/lang/invoke/MethodHandle" ∧ yX4_init.cls ≠ "java/lang/invoke/VarHandle" ∧ (parseMethodDescriptor yX4_init.desc).map (fun d => d.parameters.length) = some 0 := by decide +kernel
set_option maxHeartbeats 4000000 in
set_option maxRecDepth 100000 in
theorem X4_init_ok {l : Launch} {D : va_G} {Y : Nat → ClassId} {h0 : Nat} {Ex : State → Prop} (hEx : ∀ U, Ex U → True) : MC l yX4_init wsX4_init 2 32 2 10 D Y Ex h0 4 [.null, .int 0] (S := Nat → Nat) (fun a => a 0 = h0) (fun a => wUnit Y a 1 0 (fun _ => 0)) := by
  refine MC_of (cc := cX4_init) (nL := 1) (by decide) rfl rfl (Nat.le_of_ble_eq_true rfl) (fun X Af Q C hA hm hE0 hQ => ?_)
  have hE := hEx _ hE0
  refine V_aload_n (pc := 0) C dX4_init_0 rfl 0 rfl ?_
  refine V_oinit (pc := 1) C wX4_init_k0 wX4_init_k1 wX4_init_k2 (Nat.le_of_ble_eq_true rfl) (Nat.le_of_ble_eq_true rfl) dX4_init_1 ?_
  refine V_aload_n (pc := 4) C dX4_init_4 rfl 0 rfl ?_
  refine V_new (pc := 5) (cs' := (1, 2)) C hA hiX4_init_X2 tyX2_ok wX4_init_k3 wX4_init_k4 wX4_init_k5 2 [.null, .int 0] rfl (fun j hj => by rcases (show j = 0 ∨ j = 1 by omega) with rfl | rfl <;> rfl) ⟨Nat.le_of_ble_eq_true rfl, Nat.le_of_ble_eq_true rfl⟩ dX4_init_5 rfl (fun q5_0 => ?_)
  refine V_dup (pc := 8) C dX4_init_8 rfl ?_
  refine V_callIN (pc := 9) (cs' := (2, 10)) (rest := [.ref q5_0, .ref h0]) (wr := [(h0, .inr (4, [.null, .int 0]))]) C hA (X2_init_ok (Ex := fun _ => True) (fun _ _ => trivial)) gX4_init_X2_init_n11 C.2.1.2.2.2.2.2.2.2.1 wX4_init_k6 wX4_init_k7 rfl rfl hdX2_init ⟨Nat.le_of_ble_eq_true rfl, Nat.le_of_ble_eq_true rfl⟩ ⟨Nat.le_of_ble_eq_true rfl, Nat.le_of_ble_eq_true rfl⟩ (fun _ _ => trivial) (fun _ _ _ _ _ => trivial) rfl rfl (Nat.le_of_ble_eq_true rfl) dX4_init_9 rfl (fun b9_0 e9 => ?_)
  show VW X D 1 Q (KM Af X) (2, 10) ([(h0, .inr (4, [.null, .int 0])), (q5_0, .inr (2, [.ref b9_0, .int 0])), (b9_0, .inl (Y 0, 8, .inl (fun _ => 0)))]) [(0, .ref h0)] 12 [.ref q5_0, .ref h0]
  refine V_putF (pc := 12) (ws' := [(h0, .inr (4, [.ref q5_0, .int 0])), (q5_0, .inr (2, [.ref b9_0, .int 0])), (b9_0, .inl (Y 0, 8, .inl (fun _ => 0)))]) C hm 0 4 0 hiX4_init_X4 tyX4_ok nmX4 rfl rfl (by decide) wX4_init_k8 rfl rfl rfl rfl (Nat.le_of_ble_eq_true rfl) dX4_init_12 rfl ?_
  refine V_aload_n (pc := 15) C dX4_init_15 rfl 0 rfl ?_
  refine V_iconst (pc := 16) (v := 1) C dX4_init_16 rfl ?_
  refine V_put (pc := 17) (ws' := [(h0, .inr (4, [.ref q5_0, .int 1])), (q5_0, .inr (2, [.ref b9_0, .int 0])), (b9_0, .inl (Y 0, 8, .inl (fun _ => 0)))]) C 0 4 1 hiX4_init_X4 tyX4_ok nmX4 rfl rfl (by decide) wX4_init_k9 rfl rfl rfl (Nat.le_of_ble_eq_true rfl) dX4_init_17 rfl ?_
  exact V_vretC (S := Nat → Nat) (post := fun a => a 0 = h0) (w1 := fun a => wUnit Y a 1 0 (fun _ => 0)) C (fun k => List.getD [h0, q5_0, b9_0] k 0) rfl rfl dX4_init_20 hQ
-- X3
theorem wX3_init_k0 : Cond.methodLink RX3 3 objectInit ∈ wsX3_init := by decide +kernel
theorem wX3_init_k1 : Cond.instanceMethod objectInit ∈ wsX3_init := by decide +kernel
theorem wX3_init_k2 : Cond.code objectInit ⟨#[0xb1]⟩ 1 none ∈ wsX3_init := by decide +kernel
theorem wX3_init_k3 : Cond.classLink RX3 9 RX2 ∈ wsX3_init := by decide +kernel
theorem wX3_init_k4 : Cond.instantiable RX2 2 ∈ wsX3_init := by decide +kernel
theorem wX3_init_k5 : Cond.initialized RX2 ∈ wsX3_init := by decide +kernel
theorem wX3_init_k6 : Cond.instanceMethod yX2_init ∈ wsX3_init := by decide +kernel
theorem wX3_init_k7 : Cond.initialized yX2_init.cls ∈ wsX3_init := by decide +kernel
theorem wX3_init_k8 : Cond.fieldLink RX3 12 (TX3 0).1 (TX3 0).2.1 (TX3 0).2.2.1 ∈ wsX3_init := by decide +kernel
theorem wX3_init_k9 : Cond.fieldLink RX3 18 (TX3 1).1 (TX3 1).2.1 (TX3 1).2.2.1 ∈ wsX3_init := by decide +kernel
theorem wX3_init_k10 : Cond.fieldLink RX3 21 (TX3 2).1 (TX3 2).2.1 (TX3 2).2.2.1 ∈ wsX3_init := by decide +kernel
theorem hiX3_init_X2 : ∀ w ∈ u_ws RX2 TX2 2, w ∈ wsX3_init := fun _ h => List.mem_cons_of_mem _ (List.mem_append_left _ (List.mem_append_right _ h))
theorem hiX3_init_X3 : ∀ w ∈ u_ws RX3 TX3 4, w ∈ wsX3_init := fun _ h => List.mem_cons_of_mem _ (List.mem_append_right _ h)
theorem hdX3_init : yX3_init.cls ≠ "java/lang/invoke/MethodHandle" ∧ yX3_init.cls ≠ "java/lang/invoke/VarHandle" ∧ (parseMethodDescriptor yX3_init.desc).map (fun d => d.parameters.length) = some 0 := by decide +kernel
set_option maxHeartbeats 4000000 in
set_option maxRecDepth 100000 in
theorem X3_init_ok {l : Launch} {D : va_G} {Y : Nat → ClassId} {h0 : Nat} {Ex : State → Prop} (hEx : ∀ U, Ex U → True) : MC l yX3_init wsX3_init 2 32 6 30 D Y Ex h0 3 [.null, .null, .null, .int 0] (S := Nat → Nat) (fun a => a 0 = h0) (fun a => wStorm Y a 0 (fun _ => 0) 0 (fun _ => 0) 0 (fun _ => 0) 0) := by
  refine MC_of (cc := cX3_init) (nL := 1) (by decide) rfl rfl (Nat.le_of_ble_eq_true rfl) (fun X Af Q C hA hm hE0 hQ => ?_)
  have hE := hEx _ hE0
  refine V_aload_n (pc := 0) C dX3_init_0 rfl 0 rfl ?_
  refine V_oinit (pc := 1) C wX3_init_k0 wX3_init_k1 wX3_init_k2 (Nat.le_of_ble_eq_true rfl) (Nat.le_of_ble_eq_true rfl) dX3_init_1 ?_
  refine V_aload_n (pc := 4) C dX3_init_4 rfl 0 rfl ?_
  refine V_new (pc := 5) (cs' := (1, 2)) C hA hiX3_init_X2 tyX2_ok wX3_init_k3 wX3_init_k4 wX3_init_k5 2 [.null, .int 0] rfl (fun j hj => by rcases (show j = 0 ∨ j = 1 by omega) with rfl | rfl <;> rfl) ⟨Nat.le_of_ble_eq_true rfl, Nat.le_of_ble_eq_true rfl⟩ dX3_init_5 rfl (fun q5_0 => ?_)
  refine V_dup (pc := 8) C dX3_init_8 rfl ?_
  refine V_callIN (pc := 9) (cs' := (2, 10)) (rest := [.ref q5_0, .ref h0]) (wr := [(h0, .inr (3, [.null, .null, .null, .int 0]))]) C hA (X2_init_ok (Ex := fun _ => True) (fun _ _ => trivial)) gX3_init_X2_init_n11 C.2.1.2.2.2.2.2.1 wX3_init_k6 wX3_init_k7 rfl rfl hdX2_init ⟨Nat.le_of_ble_eq_true rfl, Nat.le_of_ble_eq_true rfl⟩ ⟨Nat.le_of_ble_eq_true rfl, Nat.le_of_ble_eq_true rfl⟩ (fun _ _ => trivial) (fun _ _ _ _ _ => trivial) rfl rfl (Nat.le_of_ble_eq_true rfl) dX3_init_9 rfl (fun b9_0 e9 => ?_)
  show VW X D 1 Q (KM Af X) (2, 10) ([(h0, .inr (3, [.null, .null, .null, .int 0])), (q5_0, .inr (2, [.ref b9_0, .int 0])), (b9_0, .inl (Y 0, 8, .inl (fun _ => 0)))]) [(0, .ref h0)] 12 [.ref q5_0, .ref h0]
  refine V_putF (pc := 12) (ws' := [(h0, .inr (3, [.ref q5_0, .null, .null, .int 0])), (q5_0, .inr (2, [.ref b9_0, .int 0])), (b9_0, .inl (Y 0, 8, .inl (fun _ => 0)))]) C hm 0 3 0 hiX3_init_X3 tyX3_ok nmX3 rfl rfl (by decide) wX3_init_k8 rfl rfl rfl rfl (Nat.le_of_ble_eq_true rfl) dX3_init_12 rfl ?_
  refine V_aload_n (pc := 15) C dX3_init_15 rfl 0 rfl ?_
  refine V_new (pc := 16) (cs' := (3, 12)) C hA hiX3_init_X2 tyX2_ok wX3_init_k3 wX3_init_k4 wX3_init_k5 2 [.null, .int 0] rfl (fun j hj => by rcases (show j = 0 ∨ j = 1 by omega) with rfl | rfl <;> rfl) ⟨Nat.le_of_ble_eq_true rfl, Nat.le_of_ble_eq_true rfl⟩ dX3_init_16 rfl (fun q16_1 => ?_)
  refine V_dup (pc := 19) C dX3_init_19 rfl ?_
  refine V_callIN (pc := 20) (cs' := (4, 20)) (rest := [.ref q16_1, .ref h0]) (wr := [(h0, .inr (3, [.ref q5_0, .null, .null, .int 0])), (q5_0, .inr (2, [.ref b9_0, .int 0])), (b9_0, .inl (Y 0, 8, .inl (fun _ => 0)))]) C hA (X2_init_ok (Ex := fun _ => True) (fun _ _ => trivial)) gX3_init_X2_init_n11 C.2.1.2.2.2.2.2.1 wX3_init_k6 wX3_init_k7 rfl rfl hdX2_init ⟨Nat.le_of_ble_eq_true rfl, Nat.le_of_ble_eq_true rfl⟩ ⟨Nat.le_of_ble_eq_true rfl, Nat.le_of_ble_eq_true rfl⟩ (fun _ _ => trivial) (fun _ _ _ _ _ => trivial) rfl rfl (Nat.le_of_ble_eq_true rfl) dX3_init_20 rfl (fun b20_1 e20 => ?_)
  show VW X D 1 Q (KM Af X) (4, 20) ([(h0, .inr (3, [.ref q5_0, .null, .null, .int 0])), (q5_0, .inr (2, [.ref b9_0, .int 0])), (b9_0, .inl (Y 0, 8, .inl (fun _ => 0))), (q16_1, .inr (2, [.ref b20_1, .int 0])), (b20_1, .inl (Y 0, 8, .inl (fun _ => 0)))]) [(0, .ref h0)] 23 [.ref q16_1, .ref h0]
  refine V_putF (pc := 23) (ws' := [(h0, .inr (3, [.ref q5_0, .ref q16_1, .null, .int 0])), (q5_0, .inr (2, [.ref b9_0, .int 0])), (b9_0, .inl (Y 0, 8, .inl (fun _ => 0))), (q16_1, .inr (2, [.ref b20_1, .int 0])), (b20_1, .inl (Y 0, 8, .inl (fun _ => 0)))]) C hm 0 3 1 hiX3_init_X3 tyX3_ok nmX3 rfl rfl (by decide) wX3_init_k9 rfl rfl rfl rfl (Nat.le_of_ble_eq_true rfl) dX3_init_23 rfl ?_
  refine V_aload_n (pc := 26) C dX3_init_26 rfl 0 rfl ?_
  refine V_new (pc := 27) (cs' := (5, 22)) C hA hiX3_init_X2 tyX2_ok wX3_init_k3 wX3_init_k4 wX3_init_k5 2 [.null, .int 0] rfl (fun j hj => by rcases (show j = 0 ∨ j = 1 by omega) with rfl | rfl <;> rfl) ⟨Nat.le_of_ble_eq_true rfl, Nat.le_of_ble_eq_true rfl⟩ dX3_init_27 rfl (fun q27_2 => ?_)
  refine V_dup (pc := 30) C dX3_init_30 rfl ?_
  refine V_callIN (pc := 31) (cs' := (6, 30)) (rest := [.ref q27_2, .ref h0]) (wr := [(h0, .inr (3, [.ref q5_0, .ref q16_1, .null, .int 0])), (q5_0, .inr (2, [.ref b9_0, .int 0])), (b9_0, .inl (Y 0, 8, .inl (fun _ => 0))), (q16_1, .inr (2, [.ref b20_1, .int 0])), (b20_1, .inl (Y 0, 8, .inl (fun _ => 0)))]) C hA (X2_init_ok (Ex := fun _ => True) (fun _ _ => trivial)) gX3_init_X2_init_n11 C.2.1.2.2.2.2.2.1 wX3_init_k6 wX3_init_k7 rfl rfl hdX2_init ⟨Nat.le_of_ble_eq_true rfl, Nat.le_of_ble_eq_true rfl⟩ ⟨Nat.le_of_ble_eq_true rfl, Nat.le_of_ble_eq_true rfl⟩ (fun _ _ => trivial) (fun _ _ _ _ _ => trivial) rfl rfl (Nat.le_of_ble_eq_true rfl) dX3_init_31 rfl (fun b31_2 e31 => ?_)
  show VW X D 1 Q (KM Af X) (6, 30) ([(h0, .inr (3, [.ref q5_0, .ref q16_1, .null, .int 0])), (q5_0, .inr (2, [.ref b9_0, .int 0])), (b9_0, .inl (Y 0, 8, .inl (fun _ => 0))), (q16_1, .inr (2, [.ref b20_1, .int 0])), (b20_1, .inl (Y 0, 8, .inl (fun _ => 0))), (q27_2, .inr (2, [.ref b31_2, .int 0])), (b31_2, .inl (Y 0, 8, .inl (fun _ => 0)))]) [(0, .ref h0)] 34 [.ref q27_2, .ref h0]
  refine V_putF (pc := 34) (ws' := [(h0, .inr (3, [.ref q5_0, .ref q16_1, .ref q27_2, .int 0])), (q5_0, .inr (2, [.ref b9_0, .int 0])), (b9_0, .inl (Y 0, 8, .inl (fun _ => 0))), (q16_1, .inr (2, [.ref b20_1, .int 0])), (b20_1, .inl (Y 0, 8, .inl (fun _ => 0))), (q27_2, .inr (2, [.ref b31_2, .int 0])), (b31_2, .inl (Y 0, 8, .inl (fun _ => 0)))]) C hm 0 3 2 hiX3_init_X3 tyX3_ok nmX3 rfl rfl (by decide) wX3_init_k10 rfl rfl rfl rfl (Nat.le_of_ble_eq_true rfl) dX3_init_34 rfl ?_
  exact V_vretC (S := Nat → Nat) (post := fun a => a 0 = h0) (w1 := fun a => wStorm Y a 0 (fun _ => 0) 0 (fun _ => 0) 0 (fun _ => 0) 0) C (fun k => List.getD [h0, q5_0, b9_0, q16_1, b20_1, q27_2, b31_2] k 0) rfl rfl dX3_init_37 hQ
-- X1
theorem wX1_init_k0 : Cond.methodLink RX1 3 objectInit ∈ wsX1_init := by decide +kernel
theorem wX1_init_k1 : Cond.instanceMethod objectInit ∈ wsX1_init := by decide +kernel
theorem wX1_init_k2 : Cond.code objectInit ⟨#[0xb1]⟩ 1 none ∈ wsX1_init := by decide +kernel
theorem wX1_init_k3 : Cond.classLink RX1 9 RX2 ∈ wsX1_init := by decide +kernel
theorem wX1_init_k4 : Cond.instantiable RX2 2 ∈ wsX1_init := by decide +kernel
theorem wX1_init_k5 : Cond.initialized RX2 ∈ wsX1_init := by decide +kernel
theorem wX1_init_k6 : Cond.instanceMethod yX2_init ∈ wsX1_init := by decide +kernel
theorem wX1_init_k7 : Cond.initialized yX2_init.cls ∈ wsX1_init := by decide +kernel
theorem wX1_init_k8 : Cond.fieldLink RX1 12 (TX1 0).1 (TX1 0).2.1 (TX1 0).2.2.1 ∈ wsX1_init := by decide +kernel
theorem wX1_init_k9 : Cond.fieldLink RX1 18 (TX1 1).1 (TX1 1).2.1 (TX1 1).2.2.1 ∈ wsX1_init := by decide +kernel
theorem hiX1_init_X2 : ∀ w ∈ u_ws RX2 TX2 2, w ∈ wsX1_init := fun _ h => List.mem_cons_of_mem _ (List.mem_append_left _ (List.mem_append_right _ h))
theorem hiX1_init_X1 : ∀ w ∈ u_ws RX1 TX1 6, w ∈ wsX1_init := fun _ h => List.mem_cons_of_mem _ (List.mem_append_right _ h)
theorem hdX1_init : yX1_init.cls ≠ "java/lang/invoke/MethodHandle" ∧ yX1_init.cls ≠ "java/lang/invoke/VarHandle" ∧ (parseMethodDescriptor yX1_init.desc).map (fun d => d.parameters.length) = some 0 := by decide +kernel
set_option maxHeartbeats 4000000 in
set_option maxRecDepth 100000 in
theorem X1_init_ok {l : Launch} {D : va_G} {Y : Nat → ClassId} {h0 : Nat} {Ex : State → Prop} (hEx : ∀ U, Ex U → True) : MC l yX1_init wsX1_init 2 32 4 20 D Y Ex h0 1 [.null, .null, .int 0, .int 0, .int 0, .int 0] (S := Nat → Nat) (fun a => a 0 = h0) (fun a => wReader Y a 0 0 0 0 0 (fun _ => 0) 0 (fun _ => 0)) := by
  refine MC_of (cc := cX1_init) (nL := 1) (by decide) rfl rfl (Nat.le_of_ble_eq_true rfl) (fun X Af Q C hA hm hE0 hQ => ?_)
  have hE := hEx _ hE0
  refine V_aload_n (pc := 0) C dX1_init_0 rfl 0 rfl ?_
  refine V_oinit (pc := 1) C wX1_init_k0 wX1_init_k1 wX1_init_k2 (Nat.le_of_ble_eq_true rfl) (Nat.le_of_ble_eq_true rfl) dX1_init_1 ?_
  refine V_aload_n (pc := 4) C dX1_init_4 rfl 0 rfl ?_
  refine V_new (pc := 5) (cs' := (1, 2)) C hA hiX1_init_X2 tyX2_ok wX1_init_k3 wX1_init_k4 wX1_init_k5 2 [.null, .int 0] rfl (fun j hj => by rcases (show j = 0 ∨ j = 1 by omega) with rfl | rfl <;> rfl) ⟨Nat.le_of_ble_eq_true rfl, Nat.le_of_ble_eq_true rfl⟩ dX1_init_5 rfl (fun q5_0 => ?_)
  refine V_dup (pc := 8) C dX1_init_8 rfl ?_
  refine V_callIN (pc := 9) (cs' := (2, 10)) (rest := [.ref q5_0, .ref h0]) (wr := [(h0, .inr (1, [.null, .null, .int 0, .int 0, .int 0, .int 0]))]) C hA (X2_init_ok (Ex := fun _ => True) (fun _ _ => trivial)) gX1_init_X2_init_n11 C.2.1.2.2.1 wX1_init_k6 wX1_init_k7 rfl rfl hdX2_init ⟨Nat.le_of_ble_eq_true rfl, Nat.le_of_ble_eq_true rfl⟩ ⟨Nat.le_of_ble_eq_true rfl, Nat.le_of_ble_eq_true rfl⟩ (fun _ _ => trivial) (fun _ _ _ _ _ => trivial) rfl rfl (Nat.le_of_ble_eq_true rfl) dX1_init_9 rfl (fun b9_0 e9 => ?_)
  show VW X D 1 Q (KM Af X) (2, 10) ([(h0, .inr (1, [.null, .null, .int 0, .int 0, .int 0, .int 0])), (q5_0, .inr (2, [.ref b9_0, .int 0])), (b9_0, .inl (Y 0, 8, .inl (fun _ => 0)))]) [(0, .ref h0)] 12 [.ref q5_0, .ref h0]
  refine V_putF (pc := 12) (ws' := [(h0, .inr (1, [.ref q5_0, .null, .int 0, .int 0, .int 0, .int 0])), (q5_0, .inr (2, [.ref b9_0, .int 0])), (b9_0, .inl (Y 0, 8, .inl (fun _ => 0)))]) C hm 0 1 0 hiX1_init_X1 tyX1_ok nmX1 rfl rfl (by decide) wX1_init_k8 rfl rfl rfl rfl (Nat.le_of_ble_eq_true rfl) dX1_init_12 rfl ?_
  refine V_aload_n (pc := 15) C dX1_init_15 rfl 0 rfl ?_
  refine V_new (pc := 16) (cs' := (3, 12)) C hA hiX1_init_X2 tyX2_ok wX1_init_k3 wX1_init_k4 wX1_init_k5 2 [.null, .int 0] rfl (fun j hj => by rcases (show j = 0 ∨ j = 1 by omega) with rfl | rfl <;> rfl) ⟨Nat.le_of_ble_eq_true rfl, Nat.le_of_ble_eq_true rfl⟩ dX1_init_16 rfl (fun q16_1 => ?_)
  refine V_dup (pc := 19) C dX1_init_19 rfl ?_
  refine V_callIN (pc := 20) (cs' := (4, 20)) (rest := [.ref q16_1, .ref h0]) (wr := [(h0, .inr (1, [.ref q5_0, .null, .int 0, .int 0, .int 0, .int 0])), (q5_0, .inr (2, [.ref b9_0, .int 0])), (b9_0, .inl (Y 0, 8, .inl (fun _ => 0)))]) C hA (X2_init_ok (Ex := fun _ => True) (fun _ _ => trivial)) gX1_init_X2_init_n11 C.2.1.2.2.1 wX1_init_k6 wX1_init_k7 rfl rfl hdX2_init ⟨Nat.le_of_ble_eq_true rfl, Nat.le_of_ble_eq_true rfl⟩ ⟨Nat.le_of_ble_eq_true rfl, Nat.le_of_ble_eq_true rfl⟩ (fun _ _ => trivial) (fun _ _ _ _ _ => trivial) rfl rfl (Nat.le_of_ble_eq_true rfl) dX1_init_20 rfl (fun b20_1 e20 => ?_)
  show VW X D 1 Q (KM Af X) (4, 20) ([(h0, .inr (1, [.ref q5_0, .null, .int 0, .int 0, .int 0, .int 0])), (q5_0, .inr (2, [.ref b9_0, .int 0])), (b9_0, .inl (Y 0, 8, .inl (fun _ => 0))), (q16_1, .inr (2, [.ref b20_1, .int 0])), (b20_1, .inl (Y 0, 8, .inl (fun _ => 0)))]) [(0, .ref h0)] 23 [.ref q16_1, .ref h0]
  refine V_putF (pc := 23) (ws' := [(h0, .inr (1, [.ref q5_0, .ref q16_1, .int 0, .int 0, .int 0, .int 0])), (q5_0, .inr (2, [.ref b9_0, .int 0])), (b9_0, .inl (Y 0, 8, .inl (fun _ => 0))), (q16_1, .inr (2, [.ref b20_1, .int 0])), (b20_1, .inl (Y 0, 8, .inl (fun _ => 0)))]) C hm 0 1 1 hiX1_init_X1 tyX1_ok nmX1 rfl rfl (by decide) wX1_init_k9 rfl rfl rfl rfl (Nat.le_of_ble_eq_true rfl) dX1_init_23 rfl ?_
  exact V_vretC (S := Nat → Nat) (post := fun a => a 0 = h0) (w1 := fun a => wReader Y a 0 0 0 0 0 (fun _ => 0) 0 (fun _ => 0)) C (fun k => List.getD [h0, q5_0, b9_0, q16_1, b20_1] k 0) rfl rfl dX1_init_26 hQ
-- X0
theorem wX0_init_k0 : Cond.methodLink RX0 3 objectInit ∈ wsX0_init := by decide +kernel
theorem wX0_init_k1 : Cond.instanceMethod objectInit ∈ wsX0_init := by decide +kernel
theorem wX0_init_k2 : Cond.code objectInit ⟨#[0xb1]⟩ 1 none ∈ wsX0_init := by decide +kernel
theorem wX0_init_k3 : Cond.arrayClass .long ∈ wsX0_init := by decide +kernel
theorem wX0_init_k4 : Cond.fieldLink RX0 9 (TX0 0).1 (TX0 0).2.1 (TX0 0).2.2.1 ∈ wsX0_init := by decide +kernel
theorem wX0_init_k5 : Cond.fieldLink RX0 15 (TX0 1).1 (TX0 1).2.1 (TX0 1).2.2.1 ∈ wsX0_init := by decide +kernel
theorem wX0_init_k6 : Cond.fieldLink RX0 18 (TX0 2).1 (TX0 2).2.1 (TX0 2).2.2.1 ∈ wsX0_init := by decide +kernel
theorem wX0_init_k7 : Cond.fieldLink RX0 21 (TX0 3).1 (TX0 3).2.1 (TX0 3).2.2.1 ∈ wsX0_init := by decide +kernel
theorem wX0_init_k8 : Cond.fieldLink RX0 24 (TX0 4).1 (TX0 4).2.1 (TX0 4).2.2.1 ∈ wsX0_init := by decide +kernel
theorem wX0_init_k9 : Cond.fieldLink RX0 27 (TX0 5).1 (TX0 5).2.1 (TX0 5).2.2.1 ∈ wsX0_init := by decide +kernel
theorem hiX0_init_X0 : ∀ w ∈ u_ws RX0 TX0 8, w ∈ wsX0_init := fun _ h => List.mem_cons_of_mem _ (List.mem_append_right _ h)
theorem hdX0_init : yX0_init.cls ≠ "java/lang/invoke/MethodHandle" ∧ yX0_init.cls ≠ "java/lang/invoke/VarHandle" ∧ (parseMethodDescriptor yX0_init.desc).map (fun d => d.parameters.length) = some 0 := by decide +kernel
set_option maxHeartbeats 4000000 in
set_option maxRecDepth 100000 in
theorem X0_init_ok {l : Launch} {D : va_G} {Y : Nat → ClassId} {h0 : Nat} {Ex : State → Prop} (hEx : ∀ U, Ex U → True) : MC l yX0_init wsX0_init 1 12 5 32 D Y Ex h0 0 [.null, .null, .null, .null, .null, .long 0, .long 0, .int 0] (S := Nat → Nat) (fun a => a 0 = h0) (fun a => wFit Y a (fun _ => 0) (fun _ => 0) (fun _ => 0) (fun _ => 0) (fun _ => 0) 1 0 0) := by
  refine MC_of (cc := cX0_init) (nL := 1) (by decide) rfl rfl (Nat.le_of_ble_eq_true rfl) (fun X Af Q C hA hm hE0 hQ => ?_)
  have hE := hEx _ hE0
  refine V_aload_n (pc := 0) C dX0_init_0 rfl 0 rfl ?_
  refine V_oinit (pc := 1) C wX0_init_k0 wX0_init_k1 wX0_init_k2 (Nat.le_of_ble_eq_true rfl) (Nat.le_of_ble_eq_true rfl) dX0_init_1 ?_
  refine V_aload_n (pc := 4) C dX0_init_4 rfl 0 rfl ?_
  refine V_iconst (pc := 5) (v := 4) C dX0_init_5 rfl ?_
  refine V_newl (pc := 6) (cs' := (1, 4)) C hA wX0_init_k3 4 (by decide) (by decide) (by decide) ⟨Nat.le_of_ble_eq_true rfl, Nat.le_of_ble_eq_true rfl⟩ dX0_init_6 rfl (fun q6 => ?_)
  show VW X D 1 Q (KM Af X) (1, 4) ([(h0, .inr (0, [.null, .null, .null, .null, .null, .long 0, .long 0, .int 0])), (q6, .inl (Y 1, 4, .inr (.inl (fun _ => 0))))]) [(0, .ref h0)] 8 [.ref q6, .ref h0]
  refine V_putF (pc := 8) (ws' := [(h0, .inr (0, [.ref q6, .null, .null, .null, .null, .long 0, .long 0, .int 0])), (q6, .inl (Y 1, 4, .inr (.inl (fun _ => 0))))]) C hm 0 0 0 hiX0_init_X0 tyX0_ok nmX0 rfl rfl (by decide) wX0_init_k4 rfl rfl rfl rfl (Nat.le_of_ble_eq_true rfl) dX0_init_8 rfl ?_
  refine V_aload_n (pc := 11) C dX0_init_11 rfl 0 rfl ?_
  refine V_iconst (pc := 12) (v := 4) C dX0_init_12 rfl ?_
  refine V_newl (pc := 13) (cs' := (2, 8)) C hA wX0_init_k3 4 (by decide) (by decide) (by decide) ⟨Nat.le_of_ble_eq_true rfl, Nat.le_of_ble_eq_true rfl⟩ dX0_init_13 rfl (fun q13 => ?_)
  show VW X D 1 Q (KM Af X) (2, 8) ([(h0, .inr (0, [.ref q6, .null, .null, .null, .null, .long 0, .long 0, .int 0])), (q6, .inl (Y 1, 4, .inr (.inl (fun _ => 0)))), (q13, .inl (Y 1, 4, .inr (.inl (fun _ => 0))))]) [(0, .ref h0)] 15 [.ref q13, .ref h0]
  refine V_putF (pc := 15) (ws' := [(h0, .inr (0, [.ref q6, .ref q13, .null, .null, .null, .long 0, .long 0, .int 0])), (q6, .inl (Y 1, 4, .inr (.inl (fun _ => 0)))), (q13, .inl (Y 1, 4, .inr (.inl (fun _ => 0))))]) C hm 0 0 1 hiX0_init_X0 tyX0_ok nmX0 rfl rfl (by decide) wX0_init_k5 rfl rfl rfl rfl (Nat.le_of_ble_eq_true rfl) dX0_init_15 rfl ?_
  refine V_aload_n (pc := 18) C dX0_init_18 rfl 0 rfl ?_
  refine V_bipush (pc := 19) (v := 16) C dX0_init_19 rfl ?_
  refine V_newl (pc := 21) (cs' := (3, 24)) C hA wX0_init_k3 16 (by decide) (by decide) (by decide) ⟨Nat.le_of_ble_eq_true rfl, Nat.le_of_ble_eq_true rfl⟩ dX0_init_21 rfl (fun q21 => ?_)
  show VW X D 1 Q (KM Af X) (3, 24) ([(h0, .inr (0, [.ref q6, .ref q13, .null, .null, .null, .long 0, .long 0, .int 0])), (q6, .inl (Y 1, 4, .inr (.inl (fun _ => 0)))), (q13, .inl (Y 1, 4, .inr (.inl (fun _ => 0)))), (q21, .inl (Y 1, 16, .inr (.inl (fun _ => 0))))]) [(0, .ref h0)] 23 [.ref q21, .ref h0]
  refine V_putF (pc := 23) (ws' := [(h0, .inr (0, [.ref q6, .ref q13, .ref q21, .null, .null, .long 0, .long 0, .int 0])), (q6, .inl (Y 1, 4, .inr (.inl (fun _ => 0)))), (q13, .inl (Y 1, 4, .inr (.inl (fun _ => 0)))), (q21, .inl (Y 1, 16, .inr (.inl (fun _ => 0))))]) C hm 0 0 2 hiX0_init_X0 tyX0_ok nmX0 rfl rfl (by decide) wX0_init_k6 rfl rfl rfl rfl (Nat.le_of_ble_eq_true rfl) dX0_init_23 rfl ?_
  refine V_aload_n (pc := 26) C dX0_init_26 rfl 0 rfl ?_
  refine V_iconst (pc := 27) (v := 4) C dX0_init_27 rfl ?_
  refine V_newl (pc := 28) (cs' := (4, 28)) C hA wX0_init_k3 4 (by decide) (by decide) (by decide) ⟨Nat.le_of_ble_eq_true rfl, Nat.le_of_ble_eq_true rfl⟩ dX0_init_28 rfl (fun q28 => ?_)
  show VW X D 1 Q (KM Af X) (4, 28) ([(h0, .inr (0, [.ref q6, .ref q13, .ref q21, .null, .null, .long 0, .long 0, .int 0])), (q6, .inl (Y 1, 4, .inr (.inl (fun _ => 0)))), (q13, .inl (Y 1, 4, .inr (.inl (fun _ => 0)))), (q21, .inl (Y 1, 16, .inr (.inl (fun _ => 0)))), (q28, .inl (Y 1, 4, .inr (.inl (fun _ => 0))))]) [(0, .ref h0)] 30 [.ref q28, .ref h0]
  refine V_putF (pc := 30) (ws' := [(h0, .inr (0, [.ref q6, .ref q13, .ref q21, .ref q28, .null, .long 0, .long 0, .int 0])), (q6, .inl (Y 1, 4, .inr (.inl (fun _ => 0)))), (q13, .inl (Y 1, 4, .inr (.inl (fun _ => 0)))), (q21, .inl (Y 1, 16, .inr (.inl (fun _ => 0)))), (q28, .inl (Y 1, 4, .inr (.inl (fun _ => 0))))]) C hm 0 0 3 hiX0_init_X0 tyX0_ok nmX0 rfl rfl (by decide) wX0_init_k7 rfl rfl rfl rfl (Nat.le_of_ble_eq_true rfl) dX0_init_30 rfl ?_
  refine V_aload_n (pc := 33) C dX0_init_33 rfl 0 rfl ?_
  refine V_iconst (pc := 34) (v := 4) C dX0_init_34 rfl ?_
  refine V_newl (pc := 35) (cs' := (5, 32)) C hA wX0_init_k3 4 (by decide) (by decide) (by decide) ⟨Nat.le_of_ble_eq_true rfl, Nat.le_of_ble_eq_true rfl⟩ dX0_init_35 rfl (fun q35 => ?_)
  show VW X D 1 Q (KM Af X) (5, 32) ([(h0, .inr (0, [.ref q6, .ref q13, .ref q21, .ref q28, .null, .long 0, .long 0, .int 0])), (q6, .inl (Y 1, 4, .inr (.inl (fun _ => 0)))), (q13, .inl (Y 1, 4, .inr (.inl (fun _ => 0)))), (q21, .inl (Y 1, 16, .inr (.inl (fun _ => 0)))), (q28, .inl (Y 1, 4, .inr (.inl (fun _ => 0)))), (q35, .inl (Y 1, 4, .inr (.inl (fun _ => 0))))]) [(0, .ref h0)] 37 [.ref q35, .ref h0]
  refine V_putF (pc := 37) (ws' := [(h0, .inr (0, [.ref q6, .ref q13, .ref q21, .ref q28, .ref q35, .long 0, .long 0, .int 0])), (q6, .inl (Y 1, 4, .inr (.inl (fun _ => 0)))), (q13, .inl (Y 1, 4, .inr (.inl (fun _ => 0)))), (q21, .inl (Y 1, 16, .inr (.inl (fun _ => 0)))), (q28, .inl (Y 1, 4, .inr (.inl (fun _ => 0)))), (q35, .inl (Y 1, 4, .inr (.inl (fun _ => 0))))]) C hm 0 0 4 hiX0_init_X0 tyX0_ok nmX0 rfl rfl (by decide) wX0_init_k8 rfl rfl rfl rfl (Nat.le_of_ble_eq_true rfl) dX0_init_37 rfl ?_
  refine V_aload_n (pc := 40) C dX0_init_40 rfl 0 rfl ?_
  refine V_lconst (pc := 41) (v := 1) C dX0_init_41 rfl ?_
  refine V_put (pc := 42) (ws' := [(h0, .inr (0, [.ref q6, .ref q13, .ref q21, .ref q28, .ref q35, .long 1, .long 0, .int 0])), (q6, .inl (Y 1, 4, .inr (.inl (fun _ => 0)))), (q13, .inl (Y 1, 4, .inr (.inl (fun _ => 0)))), (q21, .inl (Y 1, 16, .inr (.inl (fun _ => 0)))), (q28, .inl (Y 1, 4, .inr (.inl (fun _ => 0)))), (q35, .inl (Y 1, 4, .inr (.inl (fun _ => 0))))]) C 0 0 5 hiX0_init_X0 tyX0_ok nmX0 rfl rfl (by decide) wX0_init_k9 rfl rfl rfl (Nat.le_of_ble_eq_true rfl) dX0_init_42 rfl ?_
  exact V_vretC (S := Nat → Nat) (post := fun a => a 0 = h0) (w1 := fun a => wFit Y a (fun _ => 0) (fun _ => 0) (fun _ => 0) (fun _ => 0) (fun _ => 0) 1 0 0) C (fun k => List.getD [h0, q6, q13, q21, q28, q35] k 0) rfl rfl dX0_init_45 hQ
-- X6
