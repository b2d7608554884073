def X2_size (n : Int32) (f : Nat → Int32) : Option (Int32) :=
  some n
theorem wX2_size_k0 : Cond.fieldLink RX2 15 (TX2 1).1 (TX2 1).2.1 (TX2 1).2.2.1 ∈ wsX2_size := by decide +kernel
theorem hiX2_size_2 : ∀ w ∈ u_ws RX2 TX2 2, w ∈ wsX2_size := fun _ h => List.mem_cons_of_mem _ (List.mem_append_right _ h)
theorem hdX2_size : yX2_size.cls ≠ "java/lang/invoke/MethodHandle" ∧ yX2_size.cls ≠ "java/lang/invoke/VarHandle" ∧ (parseMethodDescriptor yX2_size.desc).map (fun d => d.parameters.length) = some 0 := by decide +kernel
set_option maxHeartbeats 4000000 in
set_option maxRecDepth 100000 in
theorem X2_size_ok {l : Launch} {D : va_G} {Y : Nat → ClassId} {a : Nat} {b : Nat} {n : Int32} {f : Nat → Int32} {r : Int32} (h : X2_size n f = some r) : MR l yX2_size wsX2_size 0 0 D Y [.ref a] (wRow Y a b n f) (some (.int r)) := by
  refine MR_of (cc := cX2_size) (nL := 1) (ret := some .int) (lv0 := [(0, .ref a)]) (by decide) rfl (Nat.le_of_ble_eq_true rfl) rfl (fun X Q C hQ => ?_)
  unfold X2_size at h
  refine V_aload_n (pc := 0) C dX2_size_0 rfl 0 rfl ?_
  refine V_get (pc := 1) (v := .int n) C 0 2 1 hiX2_size_2 rfl rfl (by decide) wX2_size_k0 rfl dX2_size_1 ?_
  cases h
  subst hQ
  exact V_iretR C dX2_size_4
def X2_at (n : Int32) (f : Nat → Int32) (p0 : Int32) : Option (Int32) :=
  if p0 < 0 then (some (0 : Int32)) else (if n ≤ p0 then (some (0 : Int32)) else (if (8 : Int32) ≤ p0 then (some (0 : Int32)) else (chk (inB p0 8) (some (f (Int32.toNatClampNeg p0))))))
theorem wX2_at_k0 : Cond.fieldLink RX2 15 (TX2 1).1 (TX2 1).2.1 (TX2 1).2.2.1 ∈ wsX2_at := by decide +kernel
theorem hiX2_at_2 : ∀ w ∈ u_ws RX2 TX2 2, w ∈ wsX2_at := fun _ h => List.mem_cons_of_mem _ (List.mem_append_right _ h)
theorem wX2_at_k2 : Cond.fieldLink RX2 9 (TX2 0).1 (TX2 0).2.1 (TX2 0).2.2.1 ∈ wsX2_at := by decide +kernel
theorem hdX2_at : yX2_at.cls ≠ "java/lang/invoke/MethodHandle" ∧ yX2_at.cls ≠ "java/lang/invoke/VarHandle" ∧ (parseMethodDescriptor yX2_at.desc).map (fun d => d.parameters.length) = some 1 := by decide +kernel
set_option maxHeartbeats 4000000 in
set_option maxRecDepth 100000 in
theorem X2_at_ok {l : Launch} {D : va_G} {Y : Nat → ClassId} {a : Nat} {b : Nat} {n : Int32} {f : Nat → Int32} {p0 : Int32} {r : Int32} (h : X2_at n f p0 = some r) : MR l yX2_at wsX2_at 0 0 D Y [.ref a, .int p0] (wRow Y a b n f) (some (.int r)) := by
  refine MR_of (cc := cX2_at) (nL := 2) (ret := some .int) (lv0 := [(0, .ref a), (1, .int p0)]) (by decide) rfl (Nat.le_of_ble_eq_true rfl) rfl (fun X Q C hQ => ?_)
  unfold X2_at at h
  refine V_iload_n (pc := 0) C dX2_at_0 rfl 1 rfl ?_
  refine V_if_lt (pc := 1) C 27 dX2_at_1 rfl (fun c1 => ?_) (fun c1 => ?_)
  · replace h := t_pos c1 h
    refine V_iconst (pc := 27) (v := 0) C dX2_at_27 rfl ?_
    cases h
    subst hQ
    exact V_iretR C dX2_at_28
  · replace h := t_neg c1 h
    refine V_iload_n (pc := 4) C dX2_at_4 rfl 1 rfl ?_
    refine V_aload_n (pc := 5) C dX2_at_5 rfl 0 rfl ?_
    refine V_get (pc := 6) (v := .int n) C 0 2 1 hiX2_at_2 rfl rfl (by decide) wX2_at_k0 rfl dX2_at_6 ?_
    refine V_icmp_ge (pc := 9) C 27 dX2_at_9 rfl (fun c9 => ?_) (fun c9 => ?_)
    · replace h := t_pos c9 h
      refine V_iconst (pc := 27) (v := 0) C dX2_at_27 rfl ?_
      cases h
      subst hQ
      exact V_iretR C dX2_at_28
    · replace h := t_neg c9 h
      refine V_iload_n (pc := 12) C dX2_at_12 rfl 1 rfl ?_
      refine V_bipush (pc := 13) (v := 8) C dX2_at_13 rfl ?_
      refine V_icmp_ge (pc := 15) C 27 dX2_at_15 rfl (fun c15 => ?_) (fun c15 => ?_)
      · replace h := t_pos c15 h
        refine V_iconst (pc := 27) (v := 0) C dX2_at_27 rfl ?_
        cases h
        subst hQ
        exact V_iretR C dX2_at_28
      · replace h := t_neg c15 h
        refine V_aload_n (pc := 18) C dX2_at_18 rfl 0 rfl ?_
        refine V_get (pc := 19) (v := .ref b) C 0 2 0 hiX2_at_2 rfl rfl (by decide) wX2_at_k2 rfl dX2_at_19 ?_
        refine V_iload_n (pc := 22) C dX2_at_22 rfl 1 rfl ?_
        obtain ⟨b23, h⟩ := chk_some h
        refine V_iald (pc := 23) C 1 rfl b23 dX2_at_23 ?_
        refine V_goto (pc := 24) C 28 dX2_at_24 rfl ?_
        cases h
        subst hQ
        exact V_iretR C dX2_at_28
def X2_last (n : Int32) (f : Nat → Int32) : Option (Int32) :=
  if n ≤ 0 then (some (0 : Int32)) else (if (8 : Int32) < n then (some (0 : Int32)) else (chk (inB (n - (1 : Int32)) 8) (some (f (Int32.toNatClampNeg (n - (1 : Int32)))))))
theorem wX2_last_k0 : Cond.fieldLink RX2 15 (TX2 1).1 (TX2 1).2.1 (TX2 1).2.2.1 ∈ wsX2_last := by decide +kernel
theorem hiX2_last_2 : ∀ w ∈ u_ws RX2 TX2 2, w ∈ wsX2_last := fun _ h => List.mem_cons_of_mem _ (List.mem_append_right _ h)
theorem wX2_last_k2 : Cond.fieldLink RX2 9 (TX2 0).1 (TX2 0).2.1 (TX2 0).2.2.1 ∈ wsX2_last := by decide +kernel
theorem hdX2_last : yX2_last.cls ≠ "java/lang/invoke/MethodHandle" ∧ yX2_last.cls ≠ "java/lang/invoke/VarHandle" ∧ (parseMethodDescriptor yX2_last.desc).map (fun d => d.parameters.length) = some 0 := by decide +kernel
set_option maxHeartbeats 4000000 in
set_option maxRecDepth 100000 in
theorem X2_last_ok {l : Launch} {D : va_G} {Y : Nat → ClassId} {a : Nat} {b : Nat} {n : Int32} {f : Nat → Int32} {r : Int32} (h : X2_last n f = some r) : MR l yX2_last wsX2_last 0 0 D Y [.ref a] (wRow Y a b n f) (some (.int r)) := by
  refine MR_of (cc := cX2_last) (nL := 1) (ret := some .int) (lv0 := [(0, .ref a)]) (by decide) rfl (Nat.le_of_ble_eq_true rfl) rfl (fun X Q C hQ => ?_)
  unfold X2_last at h
  refine V_aload_n (pc := 0) C dX2_last_0 rfl 0 rfl ?_
  refine V_get (pc := 1) (v := .int n) C 0 2 1 hiX2_last_2 rfl rfl (by decide) wX2_last_k0 rfl dX2_last_1 ?_
  refine V_if_le (pc := 4) C 30 dX2_last_4 rfl (fun c4 => ?_) (fun c4 => ?_)
  · replace h := t_pos c4 h
    refine V_iconst (pc := 30) (v := 0) C dX2_last_30 rfl ?_
    cases h
    subst hQ
    exact V_iretR C dX2_last_31
  · replace h := t_neg c4 h
    refine V_aload_n (pc := 7) C dX2_last_7 rfl 0 rfl ?_
    refine V_get (pc := 8) (v := .int n) C 0 2 1 hiX2_last_2 rfl rfl (by decide) wX2_last_k0 rfl dX2_last_8 ?_
    refine V_bipush (pc := 11) (v := 8) C dX2_last_11 rfl ?_
    refine V_icmp_gt (pc := 13) C 30 dX2_last_13 rfl (fun c13 => ?_) (fun c13 => ?_)
    · replace h := t_pos c13 h
      refine V_iconst (pc := 30) (v := 0) C dX2_last_30 rfl ?_
      cases h
      subst hQ
      exact V_iretR C dX2_last_31
    · replace h := t_neg c13 h
      refine V_aload_n (pc := 16) C dX2_last_16 rfl 0 rfl ?_
      refine V_get (pc := 17) (v := .ref b) C 0 2 0 hiX2_last_2 rfl rfl (by decide) wX2_last_k2 rfl dX2_last_17 ?_
      refine V_aload_n (pc := 20) C dX2_last_20 rfl 0 rfl ?_
      refine V_get (pc := 21) (v := .int n) C 0 2 1 hiX2_last_2 rfl rfl (by decide) wX2_last_k0 rfl dX2_last_21 ?_
      refine V_iconst (pc := 24) (v := 1) C dX2_last_24 rfl ?_
      refine V_isub (pc := 25) C dX2_last_25 ?_
      obtain ⟨b26, h⟩ := chk_some h
      refine V_iald (pc := 26) C 1 rfl b26 dX2_last_26 ?_
      refine V_goto (pc := 27) C 31 dX2_last_27 rfl ?_
      cases h
      subst hQ
      exact V_iretR C dX2_last_31
def X2_total (n : Int32) (f : Nat → Int32) : Option (Int32) :=
  jn1 (fun (x1_24 : Int32) => some x1_24) fun J24 =>
  wh2 (fun self4 (x1_4 : Int32) (x2_4 : Int32) =>
  if (8 : Int32) ≤ x2_4 then (J24 x1_4) else (ob1 (X2_at n f x2_4) fun r13 =>
  self4 (x1_4 + r13) (x2_4 + 1))) 200 (0 : Int32) (0 : Int32)
theorem hdX2_total : yX2_total.cls ≠ "java/lang/invoke/MethodHandle" ∧ yX2_total.cls ≠ "java/lang/invoke/VarHandle" ∧ (parseMethodDescriptor yX2_total.desc).map (fun d => d.parameters.length) = some 0 := by decide +kernel
set_option maxHeartbeats 4000000 in
set_option maxRecDepth 100000 in
theorem X2_total_ok {l : Launch} {D : va_G} {Y : Nat → ClassId} {a : Nat} {b : Nat} {n : Int32} {f : Nat → Int32} {r : Int32} (h : X2_total n f = some r) : MR l yX2_total wsX2_total 1 21 D Y [.ref a] (wRow Y a b n f) (some (.int r)) := by
  refine MR_of (cc := cX2_total) (nL := 3) (ret := some .int) (lv0 := [(0, .ref a)]) (by decide) rfl (Nat.le_of_ble_eq_true rfl) rfl (fun X Q C hQ => ?_)
  unfold X2_total at h
  refine V_iconst (pc := 0) (v := 0) C dX2_total_0 rfl ?_
  refine V_istore_n (pc := 1) (lv' := [(1, .int (0 : Int32)), (0, .ref a)]) C dX2_total_1 rfl (Nat.le_of_ble_eq_true rfl) rfl ?_
  refine V_iconst (pc := 2) (v := 0) C dX2_total_2 rfl ?_
  refine V_istore_n (pc := 3) (lv' := [(2, .int (0 : Int32)), (1, .int (0 : Int32)), (0, .ref a)]) C dX2_total_3 rfl (Nat.le_of_ble_eq_true rfl) rfl ?_
  refine jn1_ok (P := (fun (x1_24 : Int32) => VW X D 3 Q (KR X) (0, 0) (wRow Y a b n f) [(1, .int x1_24)] 24 [])) (fun x1_24 h => ?_) (fun J24 hJ24 h => ?_) h
  · refine V_iload_n (pc := 24) C dX2_total_24 rfl 0 rfl ?_
    cases h
    subst hQ
    exact V_iretR C dX2_total_25
  refine V_sub [2, 1, 0] rfl (wh2_ok (P := (fun (x1_4 : Int32) (x2_4 : Int32) => VW X D 3 Q (KR X) (0, 0) (wRow Y a b n f) [(0, .ref a), (1, .int x1_4), (2, .int x2_4)] 4 [])) (fun self4 ih4 x1_4 x2_4 h => ?_) 200 _ _ h)
  refine V_iload_n (pc := 4) C dX2_total_4 rfl 2 rfl ?_
  refine V_bipush (pc := 5) (v := 8) C dX2_total_5 rfl ?_
  refine V_icmp_ge (pc := 7) C 24 dX2_total_7 rfl (fun c7 => ?_) (fun c7 => ?_)
  · replace h := t_pos c7 h
    exact V_sub [1] rfl (hJ24 _ h)
  · replace h := t_neg c7 h
    refine V_iload_n (pc := 10) C dX2_total_10 rfl 1 rfl ?_
    refine V_aload_n (pc := 11) C dX2_total_11 rfl 0 rfl ?_
    refine V_iload_n (pc := 12) C dX2_total_12 rfl 2 rfl ?_
    obtain ⟨r13, hq, h⟩ := ob1_some h
    refine V_callVR (pc := 13) (rest := [.int x1_4]) (st2 := [.int r13, .int x1_4]) C (X2_at_ok (a := a) (b := b) hq) gX2_total_X2_at rfl ⟨rfl, hdX2_at⟩ ⟨Nat.le_of_ble_eq_true rfl, Nat.le_of_ble_eq_true rfl⟩ ⟨Nat.le_refl _, Nat.le_refl _⟩ [0, 1] rfl 0 2 rfl rfl rfl (Nat.le_of_ble_eq_true rfl) dX2_total_13 rfl ?_
    refine V_iadd (pc := 16) C dX2_total_16 ?_
    refine V_istore_n (pc := 17) (lv' := [(1, .int (x1_4 + r13)), (0, .ref a), (2, .int x2_4)]) C dX2_total_17 rfl (Nat.le_of_ble_eq_true rfl) rfl ?_
    refine V_iinc (pc := 18) (v := (x2_4 + 1)) (lv' := [(2, .int (x2_4 + 1)), (1, .int (x1_4 + r13)), (0, .ref a)]) C dX2_total_18 2 rfl rfl (Nat.le_of_ble_eq_true rfl) rfl ?_
    refine V_goto (pc := 21) C 4 dX2_total_21 rfl ?_
    exact V_sub [2, 1, 0] rfl (ih4 _ _ h)
def X2_clear (n : Int32) (f : Nat → Int32) : Option (Int32) :=
  some (0 : Int32)
theorem wX2_clear_k0 : Cond.fieldLink RX2 15 (TX2 1).1 (TX2 1).2.1 (TX2 1).2.2.1 ∈ wsX2_clear := by decide +kernel
theorem hiX2_clear_2 : ∀ w ∈ u_ws RX2 TX2 2, w ∈ wsX2_clear := fun _ h => List.mem_cons_of_mem _ (List.mem_append_right _ h)
theorem hdX2_clear : yX2_clear.cls ≠ "java/lang/invoke/MethodHandle" ∧ yX2_clear.cls ≠ "java/lang/invoke/VarHandle" ∧ (parseMethodDescriptor yX2_clear.desc).map (fun d => d.parameters.length) = some 0 := by decide +kernel
set_option maxHeartbeats 4000000 in
set_option maxRecDepth 100000 in
theorem X2_clear_ok {l : Launch} {D : va_G} {Y : Nat → ClassId} {a : Nat} {b : Nat} {n : Int32} {f : Nat → Int32} {un : Int32} (h : X2_clear n f = some un) : MW l yX2_clear wsX2_clear 0 0 D Y [.ref a] (wRow Y a b n f) (wRow Y a b un f) none := by
  refine MW_of (cc := cX2_clear) (nL := 1) (ret := none) (lv0 := [(0, .ref a)]) (by decide) rfl (Nat.le_of_ble_eq_true rfl) rfl rfl (fun X Af Q C hA hQ => ?_)
  unfold X2_clear at h
  refine V_aload_n (pc := 0) C dX2_clear_0 rfl 0 rfl ?_
  refine V_iconst (pc := 1) (v := 0) C dX2_clear_1 rfl ?_
  refine V_put (pc := 2) (ws' := wRow Y a b (0 : Int32) f) C 0 2 1 hiX2_clear_2 tyX2_ok nmX2 rfl rfl (by decide) wX2_clear_k0 rfl rfl rfl (Nat.le_of_ble_eq_true rfl) dX2_clear_2 rfl ?_
  cases h
  subst hQ
  exact V_vretW C dX2_clear_5
def X2_add (n : Int32) (f : Nat → Int32) (p0 : Int32) : Option (Int32 × (Nat → Int32)) :=
  if (8 : Int32) ≤ n then (some (n, f)) else (chk (inB n 8) (some ((n + (1 : Int32)), (upd f (Int32.toNatClampNeg n) p0))))
theorem wX2_add_k0 : Cond.fieldLink RX2 15 (TX2 1).1 (TX2 1).2.1 (TX2 1).2.2.1 ∈ wsX2_add := by decide +kernel
theorem hiX2_add_2 : ∀ w ∈ u_ws RX2 TX2 2, w ∈ wsX2_add := fun _ h => List.mem_cons_of_mem _ (List.mem_append_right _ h)
theorem wX2_add_k2 : Cond.fieldLink RX2 9 (TX2 0).1 (TX2 0).2.1 (TX2 0).2.2.1 ∈ wsX2_add := by decide +kernel
theorem hdX2_add : yX2_add.cls ≠ "java/lang/invoke/MethodHandle" ∧ yX2_add.cls ≠ "java/lang/invoke/VarHandle" ∧ (parseMethodDescriptor yX2_add.desc).map (fun d => d.parameters.length) = some 1 := by decide +kernel
set_option maxHeartbeats 4000000 in
set_option maxRecDepth 100000 in
theorem X2_add_ok {l : Launch} {D : va_G} {Y : Nat → ClassId} {a : Nat} {b : Nat} {n : Int32} {f : Nat → Int32} {p0 : Int32} {un : Int32} {uf : Nat → Int32} (h : X2_add n f p0 = some (un, uf)) : MW l yX2_add wsX2_add 0 0 D Y [.ref a, .int p0] (wRow Y a b n f) (wRow Y a b un uf) none := by
  refine MW_of (cc := cX2_add) (nL := 2) (ret := none) (lv0 := [(0, .ref a), (1, .int p0)]) (by decide) rfl (Nat.le_of_ble_eq_true rfl) rfl rfl (fun X Af Q C hA hQ => ?_)
  unfold X2_add at h
  refine V_aload_n (pc := 0) C dX2_add_0 rfl 0 rfl ?_
  refine V_get (pc := 1) (v := .int n) C 0 2 1 hiX2_add_2 rfl rfl (by decide) wX2_add_k0 rfl dX2_add_1 ?_
  refine V_bipush (pc := 4) (v := 8) C dX2_add_4 rfl ?_
  refine V_icmp_ge (pc := 6) C 29 dX2_add_6 rfl (fun c6 => ?_) (fun c6 => ?_)
  · replace h := t_pos c6 h
    cases h
    subst hQ
    exact V_vretW C dX2_add_29
  · replace h := t_neg c6 h
    refine V_aload_n (pc := 9) C dX2_add_9 rfl 0 rfl ?_
    refine V_get (pc := 10) (v := .ref b) C 0 2 0 hiX2_add_2 rfl rfl (by decide) wX2_add_k2 rfl dX2_add_10 ?_
    refine V_aload_n (pc := 13) C dX2_add_13 rfl 0 rfl ?_
    refine V_get (pc := 14) (v := .int n) C 0 2 1 hiX2_add_2 rfl rfl (by decide) wX2_add_k0 rfl dX2_add_14 ?_
    refine V_iload_n (pc := 17) C dX2_add_17 rfl 1 rfl ?_
    obtain ⟨b18, h⟩ := chk_some h
    refine V_iast (pc := 18) (ws' := wRow Y a b n (upd f (Int32.toNatClampNeg n) p0)) C 1 rfl b18 dX2_add_18 rfl ?_
    refine V_aload_n (pc := 19) C dX2_add_19 rfl 0 rfl ?_
    refine V_dup (pc := 20) C dX2_add_20 rfl ?_
    refine V_get (pc := 21) (v := .int n) C 0 2 1 hiX2_add_2 rfl rfl (by decide) wX2_add_k0 rfl dX2_add_21 ?_
    refine V_iconst (pc := 24) (v := 1) C dX2_add_24 rfl ?_
    refine V_iadd (pc := 25) C dX2_add_25 ?_
    refine V_put (pc := 26) (ws' := wRow Y a b (n + (1 : Int32)) (upd f (Int32.toNatClampNeg n) p0)) C 0 2 1 hiX2_add_2 tyX2_ok nmX2 rfl rfl (by decide) wX2_add_k0 rfl rfl rfl (Nat.le_of_ble_eq_true rfl) dX2_add_26 rfl ?_
    cases h
    subst hQ
    exact V_vretW C dX2_add_29
def X2_setLast (n : Int32) (f : Nat → Int32) (p0 : Int32) : Option ((Nat → Int32)) :=
  if n ≤ 0 then (some f) else (if (8 : Int32) < n then (some f) else (chk (inB (n - (1 : Int32)) 8) (some (upd f (Int32.toNatClampNeg (n - (1 : Int32))) p0))))
theorem wX2_setLast_k0 : Cond.fieldLink RX2 15 (TX2 1).1 (TX2 1).2.1 (TX2 1).2.2.1 ∈ wsX2_setLast := by decide +kernel
theorem hiX2_setLast_2 : ∀ w ∈ u_ws RX2 TX2 2, w ∈ wsX2_setLast := fun _ h => List.mem_cons_of_mem _ (List.mem_append_right _ h)
theorem wX2_setLast_k2 : Cond.fieldLink RX2 9 (TX2 0).1 (TX2 0).2.1 (TX2 0).2.2.1 ∈ wsX2_setLast := by decide +kernel
theorem hdX2_setLast : yX2_setLast.cls ≠ "java/lang/invoke/MethodHandle" ∧ yX2_setLast.cls ≠ "java/lang/invoke/VarHandle" ∧ (parseMethodDescriptor yX2_setLast.desc).map (fun d => d.parameters.length) = some 1 := by decide +kernel
set_option maxHeartbeats 4000000 in
set_option maxRecDepth 100000 in
theorem X2_setLast_ok {l : Launch} {D : va_G} {Y : Nat → ClassId} {a : Nat} {b : Nat} {n : Int32} {f : Nat → Int32} {p0 : Int32} {uf : Nat → Int32} (h : X2_setLast n f p0 = some uf) : MW l yX2_setLast wsX2_setLast 0 0 D Y [.ref a, .int p0] (wRow Y a b n f) (wRow Y a b n uf) none := by
  refine MW_of (cc := cX2_setLast) (nL := 2) (ret := none) (lv0 := [(0, .ref a), (1, .int p0)]) (by decide) rfl (Nat.le_of_ble_eq_true rfl) rfl rfl (fun X Af Q C hA hQ => ?_)
  unfold X2_setLast at h
  refine V_aload_n (pc := 0) C dX2_setLast_0 rfl 0 rfl ?_
  refine V_get (pc := 1) (v := .int n) C 0 2 1 hiX2_setLast_2 rfl rfl (by decide) wX2_setLast_k0 rfl dX2_setLast_1 ?_
  refine V_if_le (pc := 4) C 28 dX2_setLast_4 rfl (fun c4 => ?_) (fun c4 => ?_)
  · replace h := t_pos c4 h
    cases h
    subst hQ
    exact V_vretW C dX2_setLast_28
  · replace h := t_neg c4 h
    refine V_aload_n (pc := 7) C dX2_setLast_7 rfl 0 rfl ?_
    refine V_get (pc := 8) (v := .int n) C 0 2 1 hiX2_setLast_2 rfl rfl (by decide) wX2_setLast_k0 rfl dX2_setLast_8 ?_
    refine V_bipush (pc := 11) (v := 8) C dX2_setLast_11 rfl ?_
    refine V_icmp_gt (pc := 13) C 28 dX2_setLast_13 rfl (fun c13 => ?_) (fun c13 => ?_)
    · replace h := t_pos c13 h
      cases h
      subst hQ
      exact V_vretW C dX2_setLast_28
    · replace h := t_neg c13 h
      refine V_aload_n (pc := 16) C dX2_setLast_16 rfl 0 rfl ?_
      refine V_get (pc := 17) (v := .ref b) C 0 2 0 hiX2_setLast_2 rfl rfl (by decide) wX2_setLast_k2 rfl dX2_setLast_17 ?_
      refine V_aload_n (pc := 20) C dX2_setLast_20 rfl 0 rfl ?_
      refine V_get (pc := 21) (v := .int n) C 0 2 1 hiX2_setLast_2 rfl rfl (by decide) wX2_setLast_k0 rfl dX2_setLast_21 ?_
      refine V_iconst (pc := 24) (v := 1) C dX2_setLast_24 rfl ?_
      refine V_isub (pc := 25) C dX2_setLast_25 ?_
      refine V_iload_n (pc := 26) C dX2_setLast_26 rfl 1 rfl ?_
      obtain ⟨b27, h⟩ := chk_some h
      refine V_iast (pc := 27) (ws' := wRow Y a b n (upd f (Int32.toNatClampNeg (n - (1 : Int32))) p0)) C 1 rfl b27 dX2_setLast_27 rfl ?_
      cases h
      subst hQ
      exact V_vretW C dX2_setLast_28
def X2_become (n : Int32) (f : Nat → Int32) (nx2 : Int32) (fx2 : Nat → Int32) : Option (Int32 × (Nat → Int32)) :=
  wh2 (fun self10 (x2_10 : Int32) (mf_10 : Nat → Int32) =>
  if (8 : Int32) ≤ x2_10 then (some (nx2, mf_10)) else (ob1 (X2_at nx2 fx2 x2_10) fun r23 =>
  chk (inB x2_10 8) (self10 (x2_10 + 1) (upd mf_10 (Int32.toNatClampNeg x2_10) r23)))) 200 (0 : Int32) f
theorem wX2_become_k0 : Cond.fieldLink RX2 15 (TX2 1).1 (TX2 1).2.1 (TX2 1).2.2.1 ∈ wsX2_become := by decide +kernel
theorem hiX2_become_2 : ∀ w ∈ u_ws RX2 TX2 2, w ∈ wsX2_become := fun _ h => List.mem_cons_of_mem _ (List.mem_append_right _ h)
theorem wX2_become_k2 : Cond.fieldLink RX2 9 (TX2 0).1 (TX2 0).2.1 (TX2 0).2.2.1 ∈ wsX2_become := by decide +kernel
theorem hdX2_become : yX2_become.cls ≠ "java/lang/invoke/MethodHandle" ∧ yX2_become.cls ≠ "java/lang/invoke/VarHandle" ∧ (parseMethodDescriptor yX2_become.desc).map (fun d => d.parameters.length) = some 1 := by decide +kernel
set_option maxHeartbeats 4000000 in
set_option maxRecDepth 100000 in
theorem X2_become_ok {l : Launch} {D : va_G} {Y : Nat → ClassId} {a : Nat} {b : Nat} {ax2 : Nat} {bx2 : Nat} {n : Int32} {f : Nat → Int32} {nx2 : Int32} {fx2 : Nat → Int32} {un : Int32} {uf : Nat → Int32} (h : X2_become n f nx2 fx2 = some (un, uf)) : MW l yX2_become wsX2_become 1 21 D Y [.ref a, .ref ax2] (wRow Y a b n f ++ wRow Y ax2 bx2 nx2 fx2) (wRow Y a b un uf ++ wRow Y ax2 bx2 nx2 fx2) none := by
  refine MW_of (cc := cX2_become) (nL := 3) (ret := none) (lv0 := [(0, .ref a), (1, .ref ax2)]) (by decide) rfl (Nat.le_of_ble_eq_true rfl) rfl rfl (fun X Af Q C hA hQ => ?_)
  unfold X2_become at h
  refine V_aload_n (pc := 0) C dX2_become_0 rfl 0 rfl ?_
  refine V_aload_n (pc := 1) C dX2_become_1 rfl 1 rfl ?_
  refine V_get (pc := 2) (v := .int nx2) C 2 2 1 hiX2_become_2 rfl rfl (by decide) wX2_become_k0 rfl dX2_become_2 ?_
  refine V_put (pc := 5) (ws' := wRow Y a b nx2 f ++ wRow Y ax2 bx2 nx2 fx2) C 0 2 1 hiX2_become_2 tyX2_ok nmX2 rfl rfl (by decide) wX2_become_k0 rfl rfl rfl (Nat.le_of_ble_eq_true rfl) dX2_become_5 rfl ?_
  refine V_iconst (pc := 8) (v := 0) C dX2_become_8 rfl ?_
  refine V_istore_n (pc := 9) (lv' := [(2, .int (0 : Int32)), (0, .ref a), (1, .ref ax2)]) C dX2_become_9 rfl (Nat.le_of_ble_eq_true rfl) rfl ?_
  refine V_sub [1, 2, 0] rfl (wh2_ok (P := (fun (x2_10 : Int32) (mf_10 : Nat → Int32) => VW X D 3 Q (KM Af X) (0, 0) (wRow Y a b nx2 mf_10 ++ wRow Y ax2 bx2 nx2 fx2) [(0, .ref a), (1, .ref ax2), (2, .int x2_10)] 10 [])) (fun self10 ih10 x2_10 mf_10 h => ?_) 200 _ _ h)
  refine V_iload_n (pc := 10) C dX2_become_10 rfl 2 rfl ?_
  refine V_bipush (pc := 11) (v := 8) C dX2_become_11 rfl ?_
  refine V_icmp_ge (pc := 13) C 33 dX2_become_13 rfl (fun c13 => ?_) (fun c13 => ?_)
  · replace h := t_pos c13 h
    cases h
    subst hQ
    exact V_vretW C dX2_become_33
  · replace h := t_neg c13 h
    refine V_aload_n (pc := 16) C dX2_become_16 rfl 0 rfl ?_
    refine V_get (pc := 17) (v := .ref b) C 0 2 0 hiX2_become_2 rfl rfl (by decide) wX2_become_k2 rfl dX2_become_17 ?_
    refine V_iload_n (pc := 20) C dX2_become_20 rfl 2 rfl ?_
    refine V_aload_n (pc := 21) C dX2_become_21 rfl 1 rfl ?_
    refine V_iload_n (pc := 22) C dX2_become_22 rfl 2 rfl ?_
    obtain ⟨r23, hq, h⟩ := ob1_some h
    refine V_callVR (pc := 23) (rest := [.int x2_10, .ref b]) (st2 := [.int r23, .int x2_10, .ref b]) C (X2_at_ok (a := ax2) (b := bx2) hq) gX2_become_X2_at rfl ⟨rfl, hdX2_at⟩ ⟨Nat.le_of_ble_eq_true rfl, Nat.le_of_ble_eq_true rfl⟩ ⟨Nat.le_refl _, Nat.le_refl _⟩ [2, 3] rfl 2 2 rfl rfl rfl (Nat.le_of_ble_eq_true rfl) dX2_become_23 rfl ?_
    obtain ⟨b26, h⟩ := chk_some h
    refine V_iast (pc := 26) (ws' := wRow Y a b nx2 (upd mf_10 (Int32.toNatClampNeg x2_10) r23) ++ wRow Y ax2 bx2 nx2 fx2) C 1 rfl b26 dX2_become_26 rfl ?_
    refine V_iinc (pc := 27) (v := (x2_10 + 1)) (lv' := [(2, .int (x2_10 + 1)), (0, .ref a), (1, .ref ax2)]) C dX2_become_27 2 rfl rfl (Nat.le_of_ble_eq_true rfl) rfl ?_
    refine V_goto (pc := 30) C 10 dX2_become_30 rfl ?_
    exact V_sub [1, 2, 0] rfl (ih10 _ _ h)
