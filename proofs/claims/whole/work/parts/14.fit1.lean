def X0_settle (rd : Nat → Int64) (rr : Nat → Int64) (mx : Nat → Int64) (ab : Nat → Int64) (pr : Nat → Int64) (be : Int64) (rs : Int64) (sz : Int32) : Option ((Nat → Int64) × (Nat → Int64) × (Nat → Int64) × Int64) :=
  wh6 (fun self11 (x1_11 : Int32) (x2_11 : Int32) (mmx_11 : Nat → Int64) (mab_11 : Nat → Int64) (mpr_11 : Nat → Int64) (mbe_11 : Int64) =>
  if x2_11 < 0 then (some (mmx_11, mab_11, mpr_11, mbe_11)) else (if x1_11 = 0 then (ob5 (X0_fitsWith rd rr mmx_11 mab_11 mpr_11 mbe_11 rs sz x2_11) fun r21 omx_21 oab_21 opr_21 obe_21 =>
  self11 r21 (x2_11 + (-1)) omx_21 oab_21 opr_21 obe_21) else (some (mmx_11, mab_11, mpr_11, mbe_11)))) 200 (0 : Int32) (((1 : Int32) <<< (sz &&& 31)) - (1 : Int32)) mx ab pr be
theorem wX0_settle_k0 : Cond.fieldLink RX0 40 (TX0 7).1 (TX0 7).2.1 (TX0 7).2.2.1 ∈ wsX0_settle := by decide +kernel
theorem hiX0_settle_0 : ∀ w ∈ u_ws RX0 TX0 8, w ∈ wsX0_settle := fun _ h => List.mem_cons_of_mem _ (List.mem_append_right _ h)
theorem hdX0_settle : yX0_settle.cls ≠ "java/lang/invoke/MethodHandle" ∧ yX0_settle.cls ≠ "java/lang/invoke/VarHandle" ∧ (parseMethodDescriptor yX0_settle.desc).map (fun d => d.parameters.length) = some 0 := by decide +kernel
set_option maxHeartbeats 4000000 in
set_option maxRecDepth 100000 in
theorem X0_settle_ok {l : Launch} {D : va_G} {Y : Nat → ClassId} {a : Nat → Nat} {rd : Nat → Int64} {rr : Nat → Int64} {mx : Nat → Int64} {ab : Nat → Int64} {pr : Nat → Int64} {be : Int64} {rs : Int64} {sz : Int32} {umx : Nat → Int64} {uab : Nat → Int64} {upr : Nat → Int64} {ube : Int64} (h : X0_settle rd rr mx ab pr be rs sz = some (umx, uab, upr, ube)) : MW l yX0_settle wsX0_settle 4 93 D Y [.ref (a 0)] (wFit Y a rd rr mx ab pr be rs sz) (wFit Y a rd rr umx uab upr ube rs sz) none := by
  refine MW_of (cc := cX0_settle) (nL := 3) (ret := none) (lv0 := [(0, .ref (a 0))]) (by decide) rfl (Nat.le_of_ble_eq_true rfl) rfl rfl (fun X Af Q C hA hQ => ?_)
  unfold X0_settle at h
  refine V_iconst (pc := 0) (v := 0) C dX0_settle_0 rfl ?_
  refine V_istore_n (pc := 1) (lv' := [(1, .int (0 : Int32)), (0, .ref (a 0))]) C dX0_settle_1 rfl (Nat.le_of_ble_eq_true rfl) rfl ?_
  refine V_iconst (pc := 2) (v := 1) C dX0_settle_2 rfl ?_
  refine V_aload_n (pc := 3) C dX0_settle_3 rfl 1 rfl ?_
  refine V_get (pc := 4) (v := .int sz) C 0 0 7 hiX0_settle_0 rfl rfl (by decide) wX0_settle_k0 rfl dX0_settle_4 ?_
  refine V_ishl (pc := 7) C dX0_settle_7 ?_
  refine V_iconst (pc := 8) (v := 1) C dX0_settle_8 rfl ?_
  refine V_isub (pc := 9) C dX0_settle_9 ?_
  refine V_istore_n (pc := 10) (lv' := [(2, .int (((1 : Int32) <<< (sz &&& 31)) - (1 : Int32))), (1, .int (0 : Int32)), (0, .ref (a 0))]) C dX0_settle_10 rfl (Nat.le_of_ble_eq_true rfl) rfl ?_
  refine V_sub [2, 1, 0] rfl (wh6_ok (P := (fun (x1_11 : Int32) (x2_11 : Int32) (mmx_11 : Nat → Int64) (mab_11 : Nat → Int64) (mpr_11 : Nat → Int64) (mbe_11 : Int64) => VW X D 3 Q (KM Af X) (0, 0) (wFit Y a rd rr mmx_11 mab_11 mpr_11 mbe_11 rs sz) [(0, .ref (a 0)), (1, .int x1_11), (2, .int x2_11)] 11 [])) (fun self11 ih11 x1_11 x2_11 mmx_11 mab_11 mpr_11 mbe_11 h => ?_) 200 _ _ _ _ _ _ h)
  refine V_iload_n (pc := 11) C dX0_settle_11 rfl 2 rfl ?_
  refine V_if_lt (pc := 12) C 31 dX0_settle_12 rfl (fun c12 => ?_) (fun c12 => ?_)
  · replace h := t_pos c12 h
    cases h
    subst hQ
    exact V_vretW C dX0_settle_31
  · replace h := t_neg c12 h
    refine V_iload_n (pc := 15) C dX0_settle_15 rfl 1 rfl ?_
    refine V_if_ne (pc := 16) C 31 dX0_settle_16 rfl (fun c16 => ?_) (fun c16 => ?_)
    · replace h := t_neg c16 h
      cases h
      subst hQ
      exact V_vretW C dX0_settle_31
    · replace h := t_pos c16 h
      refine V_aload_n (pc := 19) C dX0_settle_19 rfl 0 rfl ?_
      refine V_iload_n (pc := 20) C dX0_settle_20 rfl 2 rfl ?_
      obtain ⟨r21, omx_21, oab_21, opr_21, obe_21, hq, h⟩ := ob5_some h
      refine V_callVW (pc := 21) (rest := []) (st2 := [.int r21]) (ws' := wFit Y a rd rr omx_21 oab_21 opr_21 obe_21 rs sz) C hA (X0_fitsWith_ok (a := a) hq) gX0_settle_X0_fitsWith rfl ⟨rfl, hdX0_fitsWith⟩ ⟨Nat.le_of_ble_eq_true rfl, Nat.le_of_ble_eq_true rfl⟩ ⟨Nat.le_refl _, Nat.le_refl _⟩ [0, 1, 2, 3, 4, 5] rfl rfl 0 0 rfl rfl rfl (Nat.le_of_ble_eq_true rfl) dX0_settle_21 rfl rfl ?_
      refine V_istore_n (pc := 24) (lv' := [(1, .int r21), (0, .ref (a 0)), (2, .int x2_11)]) C dX0_settle_24 rfl (Nat.le_of_ble_eq_true rfl) rfl ?_
      refine V_iinc (pc := 25) (v := (x2_11 + (-1))) (lv' := [(2, .int (x2_11 + (-1))), (1, .int r21), (0, .ref (a 0))]) C dX0_settle_25 2 rfl rfl (Nat.le_of_ble_eq_true rfl) rfl ?_
      refine V_goto (pc := 28) C 11 dX0_settle_28 rfl ?_
      exact V_sub [2, 1, 0] rfl (ih11 _ _ _ _ _ _ h)
def X0_below (rd : Nat → Int64) (rr : Nat → Int64) (mx : Nat → Int64) (ab : Nat → Int64) (pr : Nat → Int64) (be : Int64) (rs : Int64) (sz : Int32) : Option (Int64) :=
  some be
theorem wX0_below_k0 : Cond.fieldLink RX0 27 (TX0 5).1 (TX0 5).2.1 (TX0 5).2.2.1 ∈ wsX0_below := by decide +kernel
theorem hiX0_below_0 : ∀ w ∈ u_ws RX0 TX0 8, w ∈ wsX0_below := fun _ h => List.mem_cons_of_mem _ (List.mem_append_right _ h)
theorem hdX0_below : yX0_below.cls ≠ "java/lang/invoke/MethodHandle" ∧ yX0_below.cls ≠ "java/lang/invoke/VarHandle" ∧ (parseMethodDescriptor yX0_below.desc).map (fun d => d.parameters.length) = some 0 := by decide +kernel
set_option maxHeartbeats 4000000 in
set_option maxRecDepth 100000 in
theorem X0_below_ok {l : Launch} {D : va_G} {Y : Nat → ClassId} {a : Nat → Nat} {rd : Nat → Int64} {rr : Nat → Int64} {mx : Nat → Int64} {ab : Nat → Int64} {pr : Nat → Int64} {be : Int64} {rs : Int64} {sz : Int32} {r : Int64} (h : X0_below rd rr mx ab pr be rs sz = some r) : MR l yX0_below wsX0_below 0 0 D Y [.ref (a 0)] (wFit Y a rd rr mx ab pr be rs sz) (some (.long r)) := by
  refine MR_of (cc := cX0_below) (nL := 1) (ret := some .long) (lv0 := [(0, .ref (a 0))]) (by decide) rfl (Nat.le_of_ble_eq_true rfl) rfl (fun X Q C hQ => ?_)
  unfold X0_below at h
  refine V_aload_n (pc := 0) C dX0_below_0 rfl 0 rfl ?_
  refine V_get (pc := 1) (v := .long be) C 0 0 5 hiX0_below_0 rfl rfl (by decide) wX0_below_k0 rfl dX0_below_1 ?_
  cases h
  subst hQ
  exact V_lretR C dX0_below_4
def X0_partAbove (rd : Nat → Int64) (rr : Nat → Int64) (mx : Nat → Int64) (ab : Nat → Int64) (pr : Nat → Int64) (be : Int64) (rs : Int64) (sz : Int32) (p0 : Int32) : Option (Int64) :=
  if p0 < 0 then (some (0 : Int64)) else (if (4 : Int32) ≤ p0 then (some (0 : Int64)) else (chk (inB p0 4) (some (ab (Int32.toNatClampNeg p0)))))
theorem wX0_partAbove_k0 : Cond.fieldLink RX0 21 (TX0 3).1 (TX0 3).2.1 (TX0 3).2.2.1 ∈ wsX0_partAbove := by decide +kernel
theorem hiX0_partAbove_0 : ∀ w ∈ u_ws RX0 TX0 8, w ∈ wsX0_partAbove := fun _ h => List.mem_cons_of_mem _ (List.mem_append_right _ h)
theorem hdX0_partAbove : yX0_partAbove.cls ≠ "java/lang/invoke/MethodHandle" ∧ yX0_partAbove.cls ≠ "java/lang/invoke/VarHandle" ∧ (parseMethodDescriptor yX0_partAbove.desc).map (fun d => d.parameters.length) = some 1 := by decide +kernel
set_option maxHeartbeats 4000000 in
set_option maxRecDepth 100000 in
theorem X0_partAbove_ok {l : Launch} {D : va_G} {Y : Nat → ClassId} {a : Nat → Nat} {rd : Nat → Int64} {rr : Nat → Int64} {mx : Nat → Int64} {ab : Nat → Int64} {pr : Nat → Int64} {be : Int64} {rs : Int64} {sz : Int32} {p0 : Int32} {r : Int64} (h : X0_partAbove rd rr mx ab pr be rs sz p0 = some r) : MR l yX0_partAbove wsX0_partAbove 0 0 D Y [.ref (a 0), .int p0] (wFit Y a rd rr mx ab pr be rs sz) (some (.long r)) := by
  refine MR_of (cc := cX0_partAbove) (nL := 2) (ret := some .long) (lv0 := [(0, .ref (a 0)), (1, .int p0)]) (by decide) rfl (Nat.le_of_ble_eq_true rfl) rfl (fun X Q C hQ => ?_)
  unfold X0_partAbove at h
  refine V_iload_n (pc := 0) C dX0_partAbove_0 rfl 1 rfl ?_
  refine V_if_lt (pc := 1) C 18 dX0_partAbove_1 rfl (fun c1 => ?_) (fun c1 => ?_)
  · replace h := t_pos c1 h
    refine V_lconst (pc := 18) (v := 0) C dX0_partAbove_18 rfl ?_
    cases h
    subst hQ
    exact V_lretR C dX0_partAbove_19
  · replace h := t_neg c1 h
    refine V_iload_n (pc := 4) C dX0_partAbove_4 rfl 1 rfl ?_
    refine V_iconst (pc := 5) (v := 4) C dX0_partAbove_5 rfl ?_
    refine V_icmp_ge (pc := 6) C 18 dX0_partAbove_6 rfl (fun c6 => ?_) (fun c6 => ?_)
    · replace h := t_pos c6 h
      refine V_lconst (pc := 18) (v := 0) C dX0_partAbove_18 rfl ?_
      cases h
      subst hQ
      exact V_lretR C dX0_partAbove_19
    · replace h := t_neg c6 h
      refine V_aload_n (pc := 9) C dX0_partAbove_9 rfl 0 rfl ?_
      refine V_get (pc := 10) (v := .ref (a 4)) C 0 0 3 hiX0_partAbove_0 rfl rfl (by decide) wX0_partAbove_k0 rfl dX0_partAbove_10 ?_
      refine V_iload_n (pc := 13) C dX0_partAbove_13 rfl 1 rfl ?_
      obtain ⟨b14, h⟩ := chk_some h
      refine V_lald (pc := 14) C 4 rfl b14 dX0_partAbove_14 ?_
      refine V_goto (pc := 15) C 19 dX0_partAbove_15 rfl ?_
      cases h
      subst hQ
      exact V_lretR C dX0_partAbove_19
def X0_pressAbove (rd : Nat → Int64) (rr : Nat → Int64) (mx : Nat → Int64) (ab : Nat → Int64) (pr : Nat → Int64) (be : Int64) (rs : Int64) (sz : Int32) (p0 : Int32) : Option (Int64) :=
  if p0 < 0 then (some (0 : Int64)) else (if (4 : Int32) ≤ p0 then (some (0 : Int64)) else (chk (inB p0 4) (some (pr (Int32.toNatClampNeg p0)))))
theorem wX0_pressAbove_k0 : Cond.fieldLink RX0 24 (TX0 4).1 (TX0 4).2.1 (TX0 4).2.2.1 ∈ wsX0_pressAbove := by decide +kernel
theorem hiX0_pressAbove_0 : ∀ w ∈ u_ws RX0 TX0 8, w ∈ wsX0_pressAbove := fun _ h => List.mem_cons_of_mem _ (List.mem_append_right _ h)
theorem hdX0_pressAbove : yX0_pressAbove.cls ≠ "java/lang/invoke/MethodHandle" ∧ yX0_pressAbove.cls ≠ "java/lang/invoke/VarHandle" ∧ (parseMethodDescriptor yX0_pressAbove.desc).map (fun d => d.parameters.length) = some 1 := by decide +kernel
set_option maxHeartbeats 4000000 in
set_option maxRecDepth 100000 in
theorem X0_pressAbove_ok {l : Launch} {D : va_G} {Y : Nat → ClassId} {a : Nat → Nat} {rd : Nat → Int64} {rr : Nat → Int64} {mx : Nat → Int64} {ab : Nat → Int64} {pr : Nat → Int64} {be : Int64} {rs : Int64} {sz : Int32} {p0 : Int32} {r : Int64} (h : X0_pressAbove rd rr mx ab pr be rs sz p0 = some r) : MR l yX0_pressAbove wsX0_pressAbove 0 0 D Y [.ref (a 0), .int p0] (wFit Y a rd rr mx ab pr be rs sz) (some (.long r)) := by
  refine MR_of (cc := cX0_pressAbove) (nL := 2) (ret := some .long) (lv0 := [(0, .ref (a 0)), (1, .int p0)]) (by decide) rfl (Nat.le_of_ble_eq_true rfl) rfl (fun X Q C hQ => ?_)
  unfold X0_pressAbove at h
  refine V_iload_n (pc := 0) C dX0_pressAbove_0 rfl 1 rfl ?_
  refine V_if_lt (pc := 1) C 18 dX0_pressAbove_1 rfl (fun c1 => ?_) (fun c1 => ?_)
  · replace h := t_pos c1 h
    refine V_lconst (pc := 18) (v := 0) C dX0_pressAbove_18 rfl ?_
    cases h
    subst hQ
    exact V_lretR C dX0_pressAbove_19
  · replace h := t_neg c1 h
    refine V_iload_n (pc := 4) C dX0_pressAbove_4 rfl 1 rfl ?_
    refine V_iconst (pc := 5) (v := 4) C dX0_pressAbove_5 rfl ?_
    refine V_icmp_ge (pc := 6) C 18 dX0_pressAbove_6 rfl (fun c6 => ?_) (fun c6 => ?_)
    · replace h := t_pos c6 h
      refine V_lconst (pc := 18) (v := 0) C dX0_pressAbove_18 rfl ?_
      cases h
      subst hQ
      exact V_lretR C dX0_pressAbove_19
    · replace h := t_neg c6 h
      refine V_aload_n (pc := 9) C dX0_pressAbove_9 rfl 0 rfl ?_
      refine V_get (pc := 10) (v := .ref (a 5)) C 0 0 4 hiX0_pressAbove_0 rfl rfl (by decide) wX0_pressAbove_k0 rfl dX0_pressAbove_10 ?_
      refine V_iload_n (pc := 13) C dX0_pressAbove_13 rfl 1 rfl ?_
      obtain ⟨b14, h⟩ := chk_some h
      refine V_lald (pc := 14) C 5 rfl b14 dX0_pressAbove_14 ?_
      refine V_goto (pc := 15) C 19 dX0_pressAbove_15 rfl ?_
      cases h
      subst hQ
      exact V_lretR C dX0_pressAbove_19
def X0_lossAbove (rd : Nat → Int64) (rr : Nat → Int64) (mx : Nat → Int64) (ab : Nat → Int64) (pr : Nat → Int64) (be : Int64) (rs : Int64) (sz : Int32) : Option (Int64) :=
  jn1 (fun (x1_42 : Int64) => some x1_42) fun J42 =>
  wh2 (fun self12 (x1_12 : Int64) (x3_12 : Int32) =>
  if sz ≤ x3_12 then (J42 x1_12) else (chk (inB x3_12 4) (chk (inB x3_12 4) (self12 (x1_12 - ((rr (Int32.toNatClampNeg x3_12)) * (ab (Int32.toNatClampNeg x3_12)))) (x3_12 + 1))))) 200 (rs * be) (0 : Int32)
theorem wX0_lossAbove_k0 : Cond.fieldLink RX0 44 (TX0 6).1 (TX0 6).2.1 (TX0 6).2.2.1 ∈ wsX0_lossAbove := by decide +kernel
theorem hiX0_lossAbove_0 : ∀ w ∈ u_ws RX0 TX0 8, w ∈ wsX0_lossAbove := fun _ h => List.mem_cons_of_mem _ (List.mem_append_right _ h)
theorem wX0_lossAbove_k2 : Cond.fieldLink RX0 27 (TX0 5).1 (TX0 5).2.1 (TX0 5).2.2.1 ∈ wsX0_lossAbove := by decide +kernel
theorem wX0_lossAbove_k3 : Cond.fieldLink RX0 40 (TX0 7).1 (TX0 7).2.1 (TX0 7).2.2.1 ∈ wsX0_lossAbove := by decide +kernel
theorem wX0_lossAbove_k4 : Cond.fieldLink RX0 15 (TX0 1).1 (TX0 1).2.1 (TX0 1).2.2.1 ∈ wsX0_lossAbove := by decide +kernel
theorem wX0_lossAbove_k5 : Cond.fieldLink RX0 21 (TX0 3).1 (TX0 3).2.1 (TX0 3).2.2.1 ∈ wsX0_lossAbove := by decide +kernel
theorem hdX0_lossAbove : yX0_lossAbove.cls ≠ "java/lang/invoke/MethodHandle" ∧ yX0_lossAbove.cls ≠ "java/lang/invoke/VarHandle" ∧ (parseMethodDescriptor yX0_lossAbove.desc).map (fun d => d.parameters.length) = some 0 := by decide +kernel
set_option maxHeartbeats 4000000 in
set_option maxRecDepth 100000 in
theorem X0_lossAbove_ok {l : Launch} {D : va_G} {Y : Nat → ClassId} {a : Nat → Nat} {rd : Nat → Int64} {rr : Nat → Int64} {mx : Nat → Int64} {ab : Nat → Int64} {pr : Nat → Int64} {be : Int64} {rs : Int64} {sz : Int32} {r : Int64} (h : X0_lossAbove rd rr mx ab pr be rs sz = some r) : MR l yX0_lossAbove wsX0_lossAbove 0 0 D Y [.ref (a 0)] (wFit Y a rd rr mx ab pr be rs sz) (some (.long r)) := by
  refine MR_of (cc := cX0_lossAbove) (nL := 4) (ret := some .long) (lv0 := [(0, .ref (a 0))]) (by decide) rfl (Nat.le_of_ble_eq_true rfl) rfl (fun X Q C hQ => ?_)
  unfold X0_lossAbove at h
  refine V_aload_n (pc := 0) C dX0_lossAbove_0 rfl 0 rfl ?_
  refine V_get (pc := 1) (v := .long rs) C 0 0 6 hiX0_lossAbove_0 rfl rfl (by decide) wX0_lossAbove_k0 rfl dX0_lossAbove_1 ?_
  refine V_aload_n (pc := 4) C dX0_lossAbove_4 rfl 0 rfl ?_
  refine V_get (pc := 5) (v := .long be) C 0 0 5 hiX0_lossAbove_0 rfl rfl (by decide) wX0_lossAbove_k2 rfl dX0_lossAbove_5 ?_
  refine V_lmul (pc := 8) C dX0_lossAbove_8 ?_
  refine V_lstore_n (pc := 9) (lv' := [(1, .long (rs * be)), (0, .ref (a 0))]) C dX0_lossAbove_9 rfl (Nat.le_of_ble_eq_true rfl) rfl ?_
  refine V_iconst (pc := 10) (v := 0) C dX0_lossAbove_10 rfl ?_
  refine V_istore_n (pc := 11) (lv' := [(3, .int (0 : Int32)), (1, .long (rs * be)), (0, .ref (a 0))]) C dX0_lossAbove_11 rfl (Nat.le_of_ble_eq_true rfl) rfl ?_
  refine jn1_ok (P := (fun (x1_42 : Int64) => VW X D 4 Q (KR X) (0, 0) (wFit Y a rd rr mx ab pr be rs sz) [(1, .long x1_42)] 42 [])) (fun x1_42 h => ?_) (fun J42 hJ42 h => ?_) h
  · refine V_lload_n (pc := 42) C dX0_lossAbove_42 rfl 0 rfl ?_
    cases h
    subst hQ
    exact V_lretR C dX0_lossAbove_43
  refine V_sub [2, 1, 0] rfl (wh2_ok (P := (fun (x1_12 : Int64) (x3_12 : Int32) => VW X D 4 Q (KR X) (0, 0) (wFit Y a rd rr mx ab pr be rs sz) [(0, .ref (a 0)), (1, .long x1_12), (3, .int x3_12)] 12 [])) (fun self12 ih12 x1_12 x3_12 h => ?_) 200 _ _ h)
  refine V_iload_n (pc := 12) C dX0_lossAbove_12 rfl 2 rfl ?_
  refine V_aload_n (pc := 13) C dX0_lossAbove_13 rfl 0 rfl ?_
  refine V_get (pc := 14) (v := .int sz) C 0 0 7 hiX0_lossAbove_0 rfl rfl (by decide) wX0_lossAbove_k3 rfl dX0_lossAbove_14 ?_
  refine V_icmp_ge (pc := 17) C 42 dX0_lossAbove_17 rfl (fun c17 => ?_) (fun c17 => ?_)
  · replace h := t_pos c17 h
    exact V_sub [1] rfl (hJ42 _ h)
  · replace h := t_neg c17 h
    refine V_lload_n (pc := 20) C dX0_lossAbove_20 rfl 1 rfl ?_
    refine V_aload_n (pc := 21) C dX0_lossAbove_21 rfl 0 rfl ?_
    refine V_get (pc := 22) (v := .ref (a 2)) C 0 0 1 hiX0_lossAbove_0 rfl rfl (by decide) wX0_lossAbove_k4 rfl dX0_lossAbove_22 ?_
    refine V_iload_n (pc := 25) C dX0_lossAbove_25 rfl 2 rfl ?_
    obtain ⟨b26, h⟩ := chk_some h
    refine V_lald (pc := 26) C 2 rfl b26 dX0_lossAbove_26 ?_
    refine V_aload_n (pc := 27) C dX0_lossAbove_27 rfl 0 rfl ?_
    refine V_get (pc := 28) (v := .ref (a 4)) C 0 0 3 hiX0_lossAbove_0 rfl rfl (by decide) wX0_lossAbove_k5 rfl dX0_lossAbove_28 ?_
    refine V_iload_n (pc := 31) C dX0_lossAbove_31 rfl 2 rfl ?_
    obtain ⟨b32, h⟩ := chk_some h
    refine V_lald (pc := 32) C 4 rfl b32 dX0_lossAbove_32 ?_
    refine V_lmul (pc := 33) C dX0_lossAbove_33 ?_
    refine V_lsub (pc := 34) C dX0_lossAbove_34 ?_
    refine V_lstore_n (pc := 35) (lv' := [(1, .long (x1_12 - ((rr (Int32.toNatClampNeg x3_12)) * (ab (Int32.toNatClampNeg x3_12))))), (0, .ref (a 0)), (3, .int x3_12)]) C dX0_lossAbove_35 rfl (Nat.le_of_ble_eq_true rfl) rfl ?_
    refine V_iinc (pc := 36) (v := (x3_12 + 1)) (lv' := [(3, .int (x3_12 + 1)), (1, .long (x1_12 - ((rr (Int32.toNatClampNeg x3_12)) * (ab (Int32.toNatClampNeg x3_12))))), (0, .ref (a 0))]) C dX0_lossAbove_36 2 rfl rfl (Nat.le_of_ble_eq_true rfl) rfl ?_
    refine V_goto (pc := 39) C 12 dX0_lossAbove_39 rfl ?_
    exact V_sub [2, 1, 0] rfl (ih12 _ _ h)
def X0_isOfUnitNumbers (rd : Nat → Int64) (rr : Nat → Int64) (mx : Nat → Int64) (ab : Nat → Int64) (pr : Nat → Int64) (be : Int64) (rs : Int64) (sz : Int32) : Option (Int32) :=
  jn1 (fun (s14_0 : Int32) => jn1 (fun (x1_84 : Int32) => chk (isB x1_84) (some x1_84)) fun J84 =>
  wh2 (fun self17 (x1_17 : Int32) (x2_17 : Int32) =>
  if sz ≤ x2_17 then (J84 x1_17) else (if x1_17 = 0 then (J84 x1_17) else (jn1 (fun (s77_0 : Int32) => self17 s77_0 (x2_17 + 1)) fun J77 =>
  if be ≤ (0 : Int64) then (J77 (0 : Int32)) else (chk (inB x2_17 4) (chk (ne0l be) (if ((ab (Int32.toNatClampNeg x2_17)) - (ab (Int32.toNatClampNeg x2_17)) / be * be) = (0 : Int64) then (chk (inB x2_17 4) (chk (ne0l be) (if (99 : Int64) < ((ab (Int32.toNatClampNeg x2_17)) / be) then (J77 (0 : Int32)) else (J77 (1 : Int32))))) else (J77 (0 : Int32)))))))) 200 s14_0 (0 : Int32)) fun J14 =>
  if be ≤ (0 : Int64) then (J14 (0 : Int32)) else (J14 (1 : Int32))
theorem wX0_isOfUnitNumbers_k0 : Cond.fieldLink RX0 27 (TX0 5).1 (TX0 5).2.1 (TX0 5).2.2.1 ∈ wsX0_isOfUnitNumbers := by decide +kernel
theorem hiX0_isOfUnitNumbers_0 : ∀ w ∈ u_ws RX0 TX0 8, w ∈ wsX0_isOfUnitNumbers := fun _ h => List.mem_cons_of_mem _ (List.mem_append_right _ h)
theorem wX0_isOfUnitNumbers_k2 : Cond.fieldLink RX0 40 (TX0 7).1 (TX0 7).2.1 (TX0 7).2.2.1 ∈ wsX0_isOfUnitNumbers := by decide +kernel
theorem wX0_isOfUnitNumbers_k3 : Cond.fieldLink RX0 21 (TX0 3).1 (TX0 3).2.1 (TX0 3).2.2.1 ∈ wsX0_isOfUnitNumbers := by decide +kernel
theorem wX0_isOfUnitNumbers_k4 : Cond.constantLong RX0 66 (99) ∈ wsX0_isOfUnitNumbers := by decide +kernel
theorem hdX0_isOfUnitNumbers : yX0_isOfUnitNumbers.cls ≠ "java/lang/invoke/MethodHandle" ∧ yX0_isOfUnitNumbers.cls ≠ "java/lang/invoke/VarHandle" ∧ (parseMethodDescriptor yX0_isOfUnitNumbers.desc).map (fun d => d.parameters.length) = some 0 := by decide +kernel
set_option maxHeartbeats 4000000 in
set_option maxRecDepth 100000 in
theorem X0_isOfUnitNumbers_ok {l : Launch} {D : va_G} {Y : Nat → ClassId} {a : Nat → Nat} {rd : Nat → Int64} {rr : Nat → Int64} {mx : Nat → Int64} {ab : Nat → Int64} {pr : Nat → Int64} {be : Int64} {rs : Int64} {sz : Int32} {r : Int32} (h : X0_isOfUnitNumbers rd rr mx ab pr be rs sz = some r) : MR l yX0_isOfUnitNumbers wsX0_isOfUnitNumbers 0 0 D Y [.ref (a 0)] (wFit Y a rd rr mx ab pr be rs sz) (some (.int r)) := by
  refine MR_of (cc := cX0_isOfUnitNumbers) (nL := 3) (ret := some .boolean) (lv0 := [(0, .ref (a 0))]) (by decide) rfl (Nat.le_of_ble_eq_true rfl) rfl (fun X Q C hQ => ?_)
  unfold X0_isOfUnitNumbers at h
  refine V_aload_n (pc := 0) C dX0_isOfUnitNumbers_0 rfl 0 rfl ?_
  refine V_get (pc := 1) (v := .long be) C 0 0 5 hiX0_isOfUnitNumbers_0 rfl rfl (by decide) wX0_isOfUnitNumbers_k0 rfl dX0_isOfUnitNumbers_1 ?_
  refine V_lconst (pc := 4) (v := 0) C dX0_isOfUnitNumbers_4 rfl ?_
  refine V_lcmp (pc := 5) C dX0_isOfUnitNumbers_5 ?_
  refine jn1_ok (P := (fun (s14_0 : Int32) => VW X D 3 Q (KR X) (0, 0) (wFit Y a rd rr mx ab pr be rs sz) [(0, .ref (a 0))] 14 [.int s14_0])) (fun s14_0 h => ?_) (fun J14 hJ14 h => ?_) h
  · refine V_istore_n (pc := 14) (lv' := [(1, .int s14_0), (0, .ref (a 0))]) C dX0_isOfUnitNumbers_14 rfl (Nat.le_of_ble_eq_true rfl) rfl ?_
    refine V_iconst (pc := 15) (v := 0) C dX0_isOfUnitNumbers_15 rfl ?_
    refine V_istore_n (pc := 16) (lv' := [(2, .int (0 : Int32)), (1, .int s14_0), (0, .ref (a 0))]) C dX0_isOfUnitNumbers_16 rfl (Nat.le_of_ble_eq_true rfl) rfl ?_
    refine jn1_ok (P := (fun (x1_84 : Int32) => VW X D 3 Q (KR X) (0, 0) (wFit Y a rd rr mx ab pr be rs sz) [(1, .int x1_84)] 84 [])) (fun x1_84 h => ?_) (fun J84 hJ84 h => ?_) h
    · refine V_iload_n (pc := 84) C dX0_isOfUnitNumbers_84 rfl 0 rfl ?_
      obtain ⟨b85, h⟩ := chk_some h
      cases h
      subst hQ
      exact V_zretR C (isB_n b85) dX0_isOfUnitNumbers_85
    refine V_sub [2, 1, 0] rfl (wh2_ok (P := (fun (x1_17 : Int32) (x2_17 : Int32) => VW X D 3 Q (KR X) (0, 0) (wFit Y a rd rr mx ab pr be rs sz) [(0, .ref (a 0)), (1, .int x1_17), (2, .int x2_17)] 17 [])) (fun self17 ih17 x1_17 x2_17 h => ?_) 200 _ _ h)
    refine V_iload_n (pc := 17) C dX0_isOfUnitNumbers_17 rfl 2 rfl ?_
    refine V_aload_n (pc := 18) C dX0_isOfUnitNumbers_18 rfl 0 rfl ?_
    refine V_get (pc := 19) (v := .int sz) C 0 0 7 hiX0_isOfUnitNumbers_0 rfl rfl (by decide) wX0_isOfUnitNumbers_k2 rfl dX0_isOfUnitNumbers_19 ?_
    refine V_icmp_ge (pc := 22) C 84 dX0_isOfUnitNumbers_22 rfl (fun c22 => ?_) (fun c22 => ?_)
    · replace h := t_pos c22 h
      exact V_sub [1] rfl (hJ84 _ h)
    · replace h := t_neg c22 h
      refine V_iload_n (pc := 25) C dX0_isOfUnitNumbers_25 rfl 1 rfl ?_
      refine V_if_eq (pc := 26) C 84 dX0_isOfUnitNumbers_26 rfl (fun c26 => ?_) (fun c26 => ?_)
      · replace h := t_pos c26 h
        exact V_sub [1] rfl (hJ84 _ h)
      · replace h := t_neg c26 h
        refine V_aload_n (pc := 29) C dX0_isOfUnitNumbers_29 rfl 0 rfl ?_
        refine V_get (pc := 30) (v := .long be) C 0 0 5 hiX0_isOfUnitNumbers_0 rfl rfl (by decide) wX0_isOfUnitNumbers_k0 rfl dX0_isOfUnitNumbers_30 ?_
        refine V_lconst (pc := 33) (v := 0) C dX0_isOfUnitNumbers_33 rfl ?_
        refine V_lcmp (pc := 34) C dX0_isOfUnitNumbers_34 ?_
        refine jn1_ok (P := (fun (s77_0 : Int32) => VW X D 3 Q (KR X) (0, 0) (wFit Y a rd rr mx ab pr be rs sz) [(0, .ref (a 0)), (2, .int x2_17)] 77 [.int s77_0])) (fun s77_0 h => ?_) (fun J77 hJ77 h => ?_) h
        · refine V_istore_n (pc := 77) (lv' := [(1, .int s77_0), (0, .ref (a 0)), (2, .int x2_17)]) C dX0_isOfUnitNumbers_77 rfl (Nat.le_of_ble_eq_true rfl) rfl ?_
          refine V_iinc (pc := 78) (v := (x2_17 + 1)) (lv' := [(2, .int (x2_17 + 1)), (1, .int s77_0), (0, .ref (a 0))]) C dX0_isOfUnitNumbers_78 2 rfl rfl (Nat.le_of_ble_eq_true rfl) rfl ?_
          refine V_goto (pc := 81) C 17 dX0_isOfUnitNumbers_81 rfl ?_
          exact V_sub [2, 1, 0] rfl (ih17 _ _ h)
        refine V_lif_le (pc := 35) C 76 dX0_isOfUnitNumbers_35 rfl (fun c35 => ?_) (fun c35 => ?_)
        · replace h := t_pos c35 h
          refine V_iconst (pc := 76) (v := 0) C dX0_isOfUnitNumbers_76 rfl ?_
          exact V_sub [0, 2] rfl (hJ77 _ h)
        · replace h := t_neg c35 h
          refine V_aload_n (pc := 38) C dX0_isOfUnitNumbers_38 rfl 0 rfl ?_
          refine V_get (pc := 39) (v := .ref (a 4)) C 0 0 3 hiX0_isOfUnitNumbers_0 rfl rfl (by decide) wX0_isOfUnitNumbers_k3 rfl dX0_isOfUnitNumbers_39 ?_
          refine V_iload_n (pc := 42) C dX0_isOfUnitNumbers_42 rfl 2 rfl ?_
          obtain ⟨b43, h⟩ := chk_some h
          refine V_lald (pc := 43) C 4 rfl b43 dX0_isOfUnitNumbers_43 ?_
          refine V_aload_n (pc := 44) C dX0_isOfUnitNumbers_44 rfl 0 rfl ?_
          refine V_get (pc := 45) (v := .long be) C 0 0 5 hiX0_isOfUnitNumbers_0 rfl rfl (by decide) wX0_isOfUnitNumbers_k0 rfl dX0_isOfUnitNumbers_45 ?_
          obtain ⟨b48, h⟩ := chk_some h
          refine V_lrem (pc := 48) C dX0_isOfUnitNumbers_48 (ne0l_n b48) ?_
          refine V_lconst (pc := 49) (v := 0) C dX0_isOfUnitNumbers_49 rfl ?_
          refine V_lcmp (pc := 50) C dX0_isOfUnitNumbers_50 ?_
          refine V_lif_ne (pc := 51) C 76 dX0_isOfUnitNumbers_51 rfl (fun c51 => ?_) (fun c51 => ?_)
          · replace h := t_neg c51 h
            refine V_iconst (pc := 76) (v := 0) C dX0_isOfUnitNumbers_76 rfl ?_
            exact V_sub [0, 2] rfl (hJ77 _ h)
          · replace h := t_pos c51 h
            refine V_aload_n (pc := 54) C dX0_isOfUnitNumbers_54 rfl 0 rfl ?_
            refine V_get (pc := 55) (v := .ref (a 4)) C 0 0 3 hiX0_isOfUnitNumbers_0 rfl rfl (by decide) wX0_isOfUnitNumbers_k3 rfl dX0_isOfUnitNumbers_55 ?_
            refine V_iload_n (pc := 58) C dX0_isOfUnitNumbers_58 rfl 2 rfl ?_
            obtain ⟨b59, h⟩ := chk_some h
            refine V_lald (pc := 59) C 4 rfl b59 dX0_isOfUnitNumbers_59 ?_
            refine V_aload_n (pc := 60) C dX0_isOfUnitNumbers_60 rfl 0 rfl ?_
            refine V_get (pc := 61) (v := .long be) C 0 0 5 hiX0_isOfUnitNumbers_0 rfl rfl (by decide) wX0_isOfUnitNumbers_k0 rfl dX0_isOfUnitNumbers_61 ?_
            obtain ⟨b64, h⟩ := chk_some h
            refine V_ldiv (pc := 64) C dX0_isOfUnitNumbers_64 (ne0l_n b64) ?_
            refine V_ldc2 (pc := 65) (v := 99) C dX0_isOfUnitNumbers_65 wX0_isOfUnitNumbers_k4 ?_
            refine V_lcmp (pc := 68) C dX0_isOfUnitNumbers_68 ?_
            refine V_lif_gt (pc := 69) C 76 dX0_isOfUnitNumbers_69 rfl (fun c69 => ?_) (fun c69 => ?_)
            · replace h := t_pos c69 h
              refine V_iconst (pc := 76) (v := 0) C dX0_isOfUnitNumbers_76 rfl ?_
              exact V_sub [0, 2] rfl (hJ77 _ h)
            · replace h := t_neg c69 h
              refine V_iconst (pc := 72) (v := 1) C dX0_isOfUnitNumbers_72 rfl ?_
              refine V_goto (pc := 73) C 77 dX0_isOfUnitNumbers_73 rfl ?_
              exact V_sub [0, 2] rfl (hJ77 _ h)
  refine V_lif_le (pc := 6) C 13 dX0_isOfUnitNumbers_6 rfl (fun c6 => ?_) (fun c6 => ?_)
  · replace h := t_pos c6 h
    refine V_iconst (pc := 13) (v := 0) C dX0_isOfUnitNumbers_13 rfl ?_
    exact V_sub [0] rfl (hJ14 _ h)
  · replace h := t_neg c6 h
    refine V_iconst (pc := 9) (v := 1) C dX0_isOfUnitNumbers_9 rfl ?_
    refine V_goto (pc := 10) C 14 dX0_isOfUnitNumbers_10 rfl ?_
    exact V_sub [0] rfl (hJ14 _ h)
def X0_writeInto (rd : Nat → Int64) (rr : Nat → Int64) (mx : Nat → Int64) (ab : Nat → Int64) (pr : Nat → Int64) (be : Int64) (rs : Int64) (sz : Int32) (nx2 : Int32) (fx2 : Nat → Int32) : Option (Int32 × (Nat → Int32)) :=
  ob1 (X2_clear nx2 fx2) fun on_1 =>
  wh3 (fun self6 (x2_6 : Int32) (mnx2_6 : Int32) (mfx2_6 : Nat → Int32) =>
  if sz ≤ x2_6 then (some (mnx2_6, mfx2_6)) else (if be ≤ (0 : Int64) then (some (mnx2_6, mfx2_6)) else (chk (inB x2_6 4) (chk (ne0l be) (ob2 (X2_add mnx2_6 mfx2_6 (Int64.toInt32 ((ab (Int32.toNatClampNeg x2_6)) / be))) fun on_36 of_36 =>
  self6 (x2_6 + 1) on_36 of_36))))) 200 (0 : Int32) on_1 fx2
theorem wX0_writeInto_k0 : Cond.fieldLink RX0 40 (TX0 7).1 (TX0 7).2.1 (TX0 7).2.2.1 ∈ wsX0_writeInto := by decide +kernel
theorem hiX0_writeInto_0 : ∀ w ∈ u_ws RX0 TX0 8, w ∈ wsX0_writeInto := fun _ h => List.mem_cons_of_mem _ (List.mem_append_left _ (List.mem_append_right _ h))
theorem wX0_writeInto_k2 : Cond.fieldLink RX0 27 (TX0 5).1 (TX0 5).2.1 (TX0 5).2.2.1 ∈ wsX0_writeInto := by decide +kernel
theorem wX0_writeInto_k3 : Cond.fieldLink RX0 21 (TX0 3).1 (TX0 3).2.1 (TX0 3).2.2.1 ∈ wsX0_writeInto := by decide +kernel
theorem hdX0_writeInto : yX0_writeInto.cls ≠ "java/lang/invoke/MethodHandle" ∧ yX0_writeInto.cls ≠ "java/lang/invoke/VarHandle" ∧ (parseMethodDescriptor yX0_writeInto.desc).map (fun d => d.parameters.length) = some 1 := by decide +kernel
set_option maxHeartbeats 4000000 in
set_option maxRecDepth 100000 in
theorem X0_writeInto_ok {l : Launch} {D : va_G} {Y : Nat → ClassId} {a : Nat → Nat} {ax2 : Nat} {bx2 : Nat} {rd : Nat → Int64} {rr : Nat → Int64} {mx : Nat → Int64} {ab : Nat → Int64} {pr : Nat → Int64} {be : Int64} {rs : Int64} {sz : Int32} {nx2 : Int32} {fx2 : Nat → Int32} {unx2 : Int32} {ufx2 : Nat → Int32} (h : X0_writeInto rd rr mx ab pr be rs sz nx2 fx2 = some (unx2, ufx2)) : MW l yX0_writeInto wsX0_writeInto 1 21 D Y [.ref (a 0), .ref ax2] (wFit Y a rd rr mx ab pr be rs sz ++ wRow Y ax2 bx2 nx2 fx2) (wFit Y a rd rr mx ab pr be rs sz ++ wRow Y ax2 bx2 unx2 ufx2) none := by
  refine MW_of (cc := cX0_writeInto) (nL := 3) (ret := none) (lv0 := [(0, .ref (a 0)), (1, .ref ax2)]) (by decide) rfl (Nat.le_of_ble_eq_true rfl) rfl rfl (fun X Af Q C hA hQ => ?_)
  unfold X0_writeInto at h
  refine V_aload_n (pc := 0) C dX0_writeInto_0 rfl 1 rfl ?_
  obtain ⟨on_1, hq, h⟩ := ob1_some h
  refine V_callVW (pc := 1) (rest := []) (st2 := []) (ws' := wFit Y a rd rr mx ab pr be rs sz ++ wRow Y ax2 bx2 on_1 fx2) C hA (X2_clear_ok (a := ax2) (b := bx2) hq) gX0_writeInto_X2_clear rfl ⟨rfl, hdX2_clear⟩ ⟨Nat.le_of_ble_eq_true rfl, Nat.le_of_ble_eq_true rfl⟩ ⟨Nat.le_refl _, Nat.le_refl _⟩ [6, 7] rfl rfl 6 2 rfl rfl rfl (Nat.le_of_ble_eq_true rfl) dX0_writeInto_1 rfl rfl ?_
  refine V_iconst (pc := 4) (v := 0) C dX0_writeInto_4 rfl ?_
  refine V_istore_n (pc := 5) (lv' := [(2, .int (0 : Int32)), (0, .ref (a 0)), (1, .ref ax2)]) C dX0_writeInto_5 rfl (Nat.le_of_ble_eq_true rfl) rfl ?_
  refine V_sub [1, 2, 0] rfl (wh3_ok (P := (fun (x2_6 : Int32) (mnx2_6 : Int32) (mfx2_6 : Nat → Int32) => VW X D 3 Q (KM Af X) (0, 0) (wFit Y a rd rr mx ab pr be rs sz ++ wRow Y ax2 bx2 mnx2_6 mfx2_6) [(0, .ref (a 0)), (1, .ref ax2), (2, .int x2_6)] 6 [])) (fun self6 ih6 x2_6 mnx2_6 mfx2_6 h => ?_) 200 _ _ _ h)
  refine V_iload_n (pc := 6) C dX0_writeInto_6 rfl 2 rfl ?_
  refine V_aload_n (pc := 7) C dX0_writeInto_7 rfl 0 rfl ?_
  refine V_get (pc := 8) (v := .int sz) C 0 0 7 hiX0_writeInto_0 rfl rfl (by decide) wX0_writeInto_k0 rfl dX0_writeInto_8 ?_
  refine V_icmp_ge (pc := 11) C 45 dX0_writeInto_11 rfl (fun c11 => ?_) (fun c11 => ?_)
  · replace h := t_pos c11 h
    cases h
    subst hQ
    exact V_vretW C dX0_writeInto_45
  · replace h := t_neg c11 h
    refine V_aload_n (pc := 14) C dX0_writeInto_14 rfl 0 rfl ?_
    refine V_get (pc := 15) (v := .long be) C 0 0 5 hiX0_writeInto_0 rfl rfl (by decide) wX0_writeInto_k2 rfl dX0_writeInto_15 ?_
    refine V_lconst (pc := 18) (v := 0) C dX0_writeInto_18 rfl ?_
    refine V_lcmp (pc := 19) C dX0_writeInto_19 ?_
    refine V_lif_le (pc := 20) C 45 dX0_writeInto_20 rfl (fun c20 => ?_) (fun c20 => ?_)
    · replace h := t_pos c20 h
      cases h
      subst hQ
      exact V_vretW C dX0_writeInto_45
    · replace h := t_neg c20 h
      refine V_aload_n (pc := 23) C dX0_writeInto_23 rfl 1 rfl ?_
      refine V_aload_n (pc := 24) C dX0_writeInto_24 rfl 0 rfl ?_
      refine V_get (pc := 25) (v := .ref (a 4)) C 0 0 3 hiX0_writeInto_0 rfl rfl (by decide) wX0_writeInto_k3 rfl dX0_writeInto_25 ?_
      refine V_iload_n (pc := 28) C dX0_writeInto_28 rfl 2 rfl ?_
      obtain ⟨b29, h⟩ := chk_some h
      refine V_lald (pc := 29) C 4 rfl b29 dX0_writeInto_29 ?_
      refine V_aload_n (pc := 30) C dX0_writeInto_30 rfl 0 rfl ?_
      refine V_get (pc := 31) (v := .long be) C 0 0 5 hiX0_writeInto_0 rfl rfl (by decide) wX0_writeInto_k2 rfl dX0_writeInto_31 ?_
      obtain ⟨b34, h⟩ := chk_some h
      refine V_ldiv (pc := 34) C dX0_writeInto_34 (ne0l_n b34) ?_
      refine V_l2i (pc := 35) C dX0_writeInto_35 ?_
      obtain ⟨on_36, of_36, hq, h⟩ := ob2_some h
      refine V_callVW (pc := 36) (rest := []) (st2 := []) (ws' := wFit Y a rd rr mx ab pr be rs sz ++ wRow Y ax2 bx2 on_36 of_36) C hA (X2_add_ok (a := ax2) (b := bx2) hq) gX0_writeInto_X2_add rfl ⟨rfl, hdX2_add⟩ ⟨Nat.le_of_ble_eq_true rfl, Nat.le_of_ble_eq_true rfl⟩ ⟨Nat.le_refl _, Nat.le_refl _⟩ [6, 7] rfl rfl 6 2 rfl rfl rfl (Nat.le_of_ble_eq_true rfl) dX0_writeInto_36 rfl rfl ?_
      refine V_iinc (pc := 39) (v := (x2_6 + 1)) (lv' := [(2, .int (x2_6 + 1)), (0, .ref (a 0)), (1, .ref ax2)]) C dX0_writeInto_39 2 rfl rfl (Nat.le_of_ble_eq_true rfl) rfl ?_
      refine V_goto (pc := 42) C 6 dX0_writeInto_42 rfl ?_
      exact V_sub [1, 2, 0] rfl (ih6 _ _ _ h)
