def X6_dividedNow (I : Nat → Int32) (A : Nat → Nat → Int32) (F : Nat → Int64) (L : Nat → Nat → Int64) (p0 : Int32) (p1 : Int32) : Option (Int32 × Int32 × (Nat → Int32)) :=
  ob3 (X6_isDivided I A F L p0) fun r2 oI23_2 oA24_2 =>
  if r2 = 0 then (some ((-1000001 : Int32), oI23_2, oA24_2)) else (if p1 = 0 then (some (oI23_2, oI23_2, oA24_2)) else (if oI23_2 ≤ (p1 - (10 : Int32)) then (some ((-1000001 : Int32), oI23_2, oA24_2)) else (chk (inB (p1 - (10 : Int32)) 8) (some ((oA24_2 (Int32.toNatClampNeg (p1 - (10 : Int32)))), oI23_2, oA24_2)))))
theorem wX6_dividedNow_k0 : Cond.fieldLink RX6 163 (TX6 23).1 (TX6 23).2.1 (TX6 23).2.2.1 ∈ wsX6_dividedNow := by decide +kernel
theorem hiX6_dividedNow_6 : ∀ w ∈ u_ws RX6 TX6 33, w ∈ wsX6_dividedNow := fun _ h => List.mem_cons_of_mem _ (List.mem_append_right _ h)
theorem wX6_dividedNow_k2 : Cond.constant RX6 169 (-1000001) ∈ wsX6_dividedNow := by decide +kernel
theorem wX6_dividedNow_k3 : Cond.fieldLink RX6 40 (TX6 24).1 (TX6 24).2.1 (TX6 24).2.2.1 ∈ wsX6_dividedNow := by decide +kernel
theorem hdX6_dividedNow : yX6_dividedNow.cls ≠ "java/lang/invoke/MethodHandle" ∧ yX6_dividedNow.cls ≠ "java/lang/invoke/VarHandle" ∧ (parseMethodDescriptor yX6_dividedNow.desc).map (fun d => d.parameters.length) = some 2 := by decide +kernel
set_option maxHeartbeats 4000000 in
set_option maxRecDepth 100000 in
theorem X6_dividedNow_ok {l : Launch} {D : va_G} {Y : Nat → ClassId} {a : Nat → Nat} {I : Nat → Int32} {A : Nat → Nat → Int32} {F : Nat → Int64} {L : Nat → Nat → Int64} {p0 : Int32} {p1 : Int32} {r : Int32} {uI23 : Int32} {uA24 : Nat → Int32} (h : X6_dividedNow I A F L p0 p1 = some (r, uI23, uA24)) : MW l yX6_dividedNow wsX6_dividedNow 3 68 D Y [.ref (a 0), .int p0, .int p1] (wM Y a I A F L) (wM Y a (up I 23 uI23) (up A 24 uA24) F L) (some (.int r)) := by
  refine MW_of (cc := cX6_dividedNow) (nL := 3) (ret := some .int) (lv0 := [(0, .ref (a 0)), (1, .int p0), (2, .int p1)]) (by decide) rfl (Nat.le_of_ble_eq_true rfl) rfl rfl (fun X Af Q C hA hQ => ?_)
  unfold X6_dividedNow at h
  refine V_aload_n (pc := 0) C dX6_dividedNow_0 rfl 0 rfl ?_
  refine V_iload_n (pc := 1) C dX6_dividedNow_1 rfl 1 rfl ?_
  obtain ⟨r2, oI23_2, oA24_2, hq, h⟩ := ob3_some h
  refine V_callVW0 (pc := 2) (rest := []) (st2 := [.int r2]) (ws' := wM Y a (up I 23 oI23_2) (up A 24 oA24_2) F L) C hA (X6_isDivided_ok (a := a) hq) gX6_dividedNow_X6_isDivided rfl ⟨rfl, hdX6_isDivided⟩ ⟨Nat.le_of_ble_eq_true rfl, Nat.le_of_ble_eq_true rfl⟩ ⟨Nat.le_refl _, Nat.le_refl _⟩ 0 6 rfl rfl rfl (Nat.le_of_ble_eq_true rfl) dX6_dividedNow_2 rfl rfl ?_
  refine V_if_ne (pc := 5) C 11 dX6_dividedNow_5 rfl (fun c5 => ?_) (fun c5 => ?_)
  · replace h := t_neg c5 h
    refine V_iload_n (pc := 11) C dX6_dividedNow_11 rfl 2 rfl ?_
    refine V_if_ne (pc := 12) C 22 dX6_dividedNow_12 rfl (fun c12 => ?_) (fun c12 => ?_)
    · replace h := t_neg c12 h
      refine V_iload_n (pc := 22) C dX6_dividedNow_22 rfl 2 rfl ?_
      refine V_bipush (pc := 23) (v := 10) C dX6_dividedNow_23 rfl ?_
      refine V_isub (pc := 25) C dX6_dividedNow_25 ?_
      refine V_aload_n (pc := 26) C dX6_dividedNow_26 rfl 0 rfl ?_
      refine V_get (pc := 27) (v := .int oI23_2) C 0 6 23 hiX6_dividedNow_6 rfl rfl (by decide) wX6_dividedNow_k0 rfl dX6_dividedNow_27 ?_
      refine V_icmp_ge (pc := 30) C 45 dX6_dividedNow_30 rfl (fun c30 => ?_) (fun c30 => ?_)
      · replace h := t_pos c30 h
        refine V_ldc (pc := 45) (v := -1000001) C dX6_dividedNow_45 wX6_dividedNow_k2 ?_
        cases h
        subst hQ
        exact V_iretW C dX6_dividedNow_47
      · replace h := t_neg c30 h
        refine V_aload_n (pc := 33) C dX6_dividedNow_33 rfl 0 rfl ?_
        refine V_get (pc := 34) (v := .ref (a 11)) C 0 6 24 hiX6_dividedNow_6 rfl rfl (by decide) wX6_dividedNow_k3 rfl dX6_dividedNow_34 ?_
        refine V_iload_n (pc := 37) C dX6_dividedNow_37 rfl 2 rfl ?_
        refine V_bipush (pc := 38) (v := 10) C dX6_dividedNow_38 rfl ?_
        refine V_isub (pc := 40) C dX6_dividedNow_40 ?_
        obtain ⟨b41, h⟩ := chk_some h
        refine V_iald (pc := 41) C 11 rfl b41 dX6_dividedNow_41 ?_
        refine V_goto (pc := 42) C 47 dX6_dividedNow_42 rfl ?_
        cases h
        subst hQ
        exact V_iretW C dX6_dividedNow_47
    · replace h := t_pos c12 h
      refine V_aload_n (pc := 15) C dX6_dividedNow_15 rfl 0 rfl ?_
      refine V_get (pc := 16) (v := .int oI23_2) C 0 6 23 hiX6_dividedNow_6 rfl rfl (by decide) wX6_dividedNow_k0 rfl dX6_dividedNow_16 ?_
      refine V_goto (pc := 19) C 47 dX6_dividedNow_19 rfl ?_
      cases h
      subst hQ
      exact V_iretW C dX6_dividedNow_47
  · replace h := t_pos c5 h
    refine V_ldc (pc := 8) (v := -1000001) C dX6_dividedNow_8 wX6_dividedNow_k2 ?_
    cases h
    subst hQ
    exact V_iretW C dX6_dividedNow_10
def X6_divided (I : Nat → Int32) (A : Nat → Nat → Int32) (F : Nat → Int64) (L : Nat → Nat → Int64) (p0 : Int32) (p1 : Int32) : Option (Int32 × Int32 × (Nat → Int32)) :=
  ob1 (X6_isStorm I A F L p0) fun r2 =>
  if r2 = 0 then (some ((-1000002 : Int32), (I 23), (A 24))) else (jn0 (ob3 (X6_dividedNow I A F L p0 p1) fun r29 oI23_29 oA24_29 =>
  some (r29, oI23_29, oA24_29)) fun J26 =>
  if p1 = 0 then (J26) else (ob1 (X6_within p1 (10 : Int32) (17 : Int32)) fun r20 =>
  if r20 = 0 then (some ((-1000003 : Int32), (I 23), (A 24))) else (J26)))
theorem wX6_divided_k0 : Cond.constant RX6 63 (-1000003) ∈ wsX6_divided := by decide +kernel
theorem wX6_divided_k1 : Cond.constant RX6 136 (-1000002) ∈ wsX6_divided := by decide +kernel
theorem hdX6_divided : yX6_divided.cls ≠ "java/lang/invoke/MethodHandle" ∧ yX6_divided.cls ≠ "java/lang/invoke/VarHandle" ∧ (parseMethodDescriptor yX6_divided.desc).map (fun d => d.parameters.length) = some 2 := by decide +kernel
set_option maxHeartbeats 4000000 in
set_option maxRecDepth 100000 in
theorem X6_divided_ok {l : Launch} {D : va_G} {Y : Nat → ClassId} {a : Nat → Nat} {I : Nat → Int32} {A : Nat → Nat → Int32} {F : Nat → Int64} {L : Nat → Nat → Int64} {p0 : Int32} {p1 : Int32} {r : Int32} {uI23 : Int32} {uA24 : Nat → Int32} (h : X6_divided I A F L p0 p1 = some (r, uI23, uA24)) : MW l yX6_divided wsX6_divided 4 90 D Y [.ref (a 0), .int p0, .int p1] (wM Y a I A F L) (wM Y a (up I 23 uI23) (up A 24 uA24) F L) (some (.int r)) := by
  refine MW_of (cc := cX6_divided) (nL := 3) (ret := some .int) (lv0 := [(0, .ref (a 0)), (1, .int p0), (2, .int p1)]) (by decide) rfl (Nat.le_of_ble_eq_true rfl) rfl rfl (fun X Af Q C hA hQ => ?_)
  unfold X6_divided at h
  refine V_aload_n (pc := 0) C dX6_divided_0 rfl 0 rfl ?_
  refine V_iload_n (pc := 1) C dX6_divided_1 rfl 1 rfl ?_
  obtain ⟨r2, hq, h⟩ := ob1_some h
  refine V_callVR0 (pc := 2) (rest := []) (st2 := [.int r2]) C (X6_isStorm_ok (a := a) hq) gX6_divided_X6_isStorm rfl ⟨rfl, hdX6_isStorm⟩ ⟨Nat.le_of_ble_eq_true rfl, Nat.le_of_ble_eq_true rfl⟩ ⟨Nat.le_refl _, Nat.le_refl _⟩ 0 6 rfl rfl rfl (Nat.le_of_ble_eq_true rfl) dX6_divided_2 rfl ?_
  refine V_if_ne (pc := 5) C 11 dX6_divided_5 rfl (fun c5 => ?_) (fun c5 => ?_)
  · replace h := t_neg c5 h
    refine V_iload_n (pc := 11) C dX6_divided_11 rfl 2 rfl ?_
    refine jn0_ok (P := (VW X D 3 Q (KM Af X) (0, 0) (wM Y a I A F L) [(0, .ref (a 0)), (1, .int p0), (2, .int p1)] 26 [])) (fun h => ?_) (fun J26 hJ26 h => ?_) h
    · refine V_aload_n (pc := 26) C dX6_divided_26 rfl 0 rfl ?_
      refine V_iload_n (pc := 27) C dX6_divided_27 rfl 1 rfl ?_
      refine V_iload_n (pc := 28) C dX6_divided_28 rfl 2 rfl ?_
      obtain ⟨r29, oI23_29, oA24_29, hq, h⟩ := ob3_some h
      refine V_callVW0 (pc := 29) (rest := []) (st2 := [.int r29]) (ws' := wM Y a (up I 23 oI23_29) (up A 24 oA24_29) F L) C hA (X6_dividedNow_ok (a := a) hq) gX6_divided_X6_dividedNow rfl ⟨rfl, hdX6_dividedNow⟩ ⟨Nat.le_of_ble_eq_true rfl, Nat.le_of_ble_eq_true rfl⟩ ⟨Nat.le_refl _, Nat.le_refl _⟩ 0 6 rfl rfl rfl (Nat.le_of_ble_eq_true rfl) dX6_divided_29 rfl rfl ?_
      refine V_goto (pc := 32) C 37 dX6_divided_32 rfl ?_
      cases h
      subst hQ
      exact V_iretW C dX6_divided_37
    refine V_if_eq (pc := 12) C 26 dX6_divided_12 rfl (fun c12 => ?_) (fun c12 => ?_)
    · replace h := t_pos c12 h
      exact V_sub [0, 1, 2] rfl (hJ26 h)
    · replace h := t_neg c12 h
      refine V_iload_n (pc := 15) C dX6_divided_15 rfl 2 rfl ?_
      refine V_bipush (pc := 16) (v := 10) C dX6_divided_16 rfl ?_
      refine V_bipush (pc := 18) (v := 17) C dX6_divided_18 rfl ?_
      obtain ⟨r20, hq, h⟩ := ob1_some h
      refine V_callSR (pc := 20) (rest := []) (st2 := [.int r20]) C (X6_within_ok hq) gX6_divided_X6_within rfl hdX6_within ⟨Nat.le_of_ble_eq_true rfl, Nat.le_of_ble_eq_true rfl⟩ ⟨Nat.le_refl _, Nat.le_refl _⟩ [] rfl rfl (Nat.le_of_ble_eq_true rfl) dX6_divided_20 rfl ?_
      refine V_if_eq (pc := 23) C 35 dX6_divided_23 rfl (fun c23 => ?_) (fun c23 => ?_)
      · replace h := t_pos c23 h
        refine V_ldc (pc := 35) (v := -1000003) C dX6_divided_35 wX6_divided_k0 ?_
        cases h
        subst hQ
        exact V_iretW C dX6_divided_37
      · replace h := t_neg c23 h
        exact V_sub [0, 1, 2] rfl (hJ26 h)
  · replace h := t_pos c5 h
    refine V_ldc (pc := 8) (v := -1000002) C dX6_divided_8 wX6_divided_k1 ?_
    cases h
    subst hQ
    exact V_iretW C dX6_divided_10
def X6_partAt (I : Nat → Int32) (A : Nat → Nat → Int32) (F : Nat → Int64) (L : Nat → Nat → Int64) (p0 : Int32) (p1 : Int32) : Option (Int32) :=
  ob1 (X6_within p1 (0 : Int32) (7 : Int32)) fun r4 =>
  if r4 = 0 then (some (0 : Int32)) else (chk (inB (((8 : Int32) * p0) + p1) 32) (some ((A 10) (Int32.toNatClampNeg (((8 : Int32) * p0) + p1)))))
theorem wX6_partAt_k0 : Cond.fieldLink RX6 31 (TX6 10).1 (TX6 10).2.1 (TX6 10).2.2.1 ∈ wsX6_partAt := by decide +kernel
theorem hiX6_partAt_6 : ∀ w ∈ u_ws RX6 TX6 33, w ∈ wsX6_partAt := fun _ h => List.mem_cons_of_mem _ (List.mem_append_right _ h)
theorem hdX6_partAt : yX6_partAt.cls ≠ "java/lang/invoke/MethodHandle" ∧ yX6_partAt.cls ≠ "java/lang/invoke/VarHandle" ∧ (parseMethodDescriptor yX6_partAt.desc).map (fun d => d.parameters.length) = some 2 := by decide +kernel
set_option maxHeartbeats 4000000 in
set_option maxRecDepth 100000 in
theorem X6_partAt_ok {l : Launch} {D : va_G} {Y : Nat → ClassId} {a : Nat → Nat} {I : Nat → Int32} {A : Nat → Nat → Int32} {F : Nat → Int64} {L : Nat → Nat → Int64} {p0 : Int32} {p1 : Int32} {r : Int32} (h : X6_partAt I A F L p0 p1 = some r) : MR l yX6_partAt wsX6_partAt 1 22 D Y [.ref (a 0), .int p0, .int p1] (wM Y a I A F L) (some (.int r)) := by
  refine MR_of (cc := cX6_partAt) (nL := 3) (ret := some .int) (lv0 := [(0, .ref (a 0)), (1, .int p0), (2, .int p1)]) (by decide) rfl (Nat.le_of_ble_eq_true rfl) rfl (fun X Q C hQ => ?_)
  unfold X6_partAt at h
  refine V_iload_n (pc := 0) C dX6_partAt_0 rfl 2 rfl ?_
  refine V_iconst (pc := 1) (v := 0) C dX6_partAt_1 rfl ?_
  refine V_bipush (pc := 2) (v := 7) C dX6_partAt_2 rfl ?_
  obtain ⟨r4, hq, h⟩ := ob1_some h
  refine V_callSR (pc := 4) (rest := []) (st2 := [.int r4]) C (X6_within_ok hq) gX6_partAt_X6_within rfl hdX6_within ⟨Nat.le_of_ble_eq_true rfl, Nat.le_of_ble_eq_true rfl⟩ ⟨Nat.le_refl _, Nat.le_refl _⟩ [] rfl rfl (Nat.le_of_ble_eq_true rfl) dX6_partAt_4 rfl ?_
  refine V_if_eq (pc := 7) C 24 dX6_partAt_7 rfl (fun c7 => ?_) (fun c7 => ?_)
  · replace h := t_pos c7 h
    refine V_iconst (pc := 24) (v := 0) C dX6_partAt_24 rfl ?_
    cases h
    subst hQ
    exact V_iretR C dX6_partAt_25
  · replace h := t_neg c7 h
    refine V_aload_n (pc := 10) C dX6_partAt_10 rfl 0 rfl ?_
    refine V_get (pc := 11) (v := .ref (a 8)) C 0 6 10 hiX6_partAt_6 rfl rfl (by decide) wX6_partAt_k0 rfl dX6_partAt_11 ?_
    refine V_bipush (pc := 14) (v := 8) C dX6_partAt_14 rfl ?_
    refine V_iload_n (pc := 16) C dX6_partAt_16 rfl 1 rfl ?_
    refine V_imul (pc := 17) C dX6_partAt_17 ?_
    refine V_iload_n (pc := 18) C dX6_partAt_18 rfl 2 rfl ?_
    refine V_iadd (pc := 19) C dX6_partAt_19 ?_
    obtain ⟨b20, h⟩ := chk_some h
    refine V_iald (pc := 20) C 8 rfl b20 dX6_partAt_20 ?_
    refine V_goto (pc := 21) C 25 dX6_partAt_21 rfl ?_
    cases h
    subst hQ
    exact V_iretR C dX6_partAt_25
def X6_partAll (I : Nat → Int32) (A : Nat → Nat → Int32) (F : Nat → Int64) (L : Nat → Nat → Int64) (p0 : Int32) : Option (Int32) :=
  jn1 (fun (x2_25 : Int32) => some x2_25) fun J25 =>
  wh2 (fun self4 (x2_4 : Int32) (x3_4 : Int32) =>
  if (8 : Int32) ≤ x3_4 then (J25 x2_4) else (ob1 (X6_partAt I A F L p0 x3_4) fun r14 =>
  self4 (x2_4 + r14) (x3_4 + 1))) 200 (0 : Int32) (0 : Int32)
theorem hdX6_partAll : yX6_partAll.cls ≠ "java/lang/invoke/MethodHandle" ∧ yX6_partAll.cls ≠ "java/lang/invoke/VarHandle" ∧ (parseMethodDescriptor yX6_partAll.desc).map (fun d => d.parameters.length) = some 1 := by decide +kernel
set_option maxHeartbeats 4000000 in
set_option maxRecDepth 100000 in
theorem X6_partAll_ok {l : Launch} {D : va_G} {Y : Nat → ClassId} {a : Nat → Nat} {I : Nat → Int32} {A : Nat → Nat → Int32} {F : Nat → Int64} {L : Nat → Nat → Int64} {p0 : Int32} {r : Int32} (h : X6_partAll I A F L p0 = some r) : MR l yX6_partAll wsX6_partAll 2 44 D Y [.ref (a 0), .int p0] (wM Y a I A F L) (some (.int r)) := by
  refine MR_of (cc := cX6_partAll) (nL := 4) (ret := some .int) (lv0 := [(0, .ref (a 0)), (1, .int p0)]) (by decide) rfl (Nat.le_of_ble_eq_true rfl) rfl (fun X Q C hQ => ?_)
  unfold X6_partAll at h
  refine V_iconst (pc := 0) (v := 0) C dX6_partAll_0 rfl ?_
  refine V_istore_n (pc := 1) (lv' := [(2, .int (0 : Int32)), (0, .ref (a 0)), (1, .int p0)]) C dX6_partAll_1 rfl (Nat.le_of_ble_eq_true rfl) rfl ?_
  refine V_iconst (pc := 2) (v := 0) C dX6_partAll_2 rfl ?_
  refine V_istore_n (pc := 3) (lv' := [(3, .int (0 : Int32)), (2, .int (0 : Int32)), (0, .ref (a 0)), (1, .int p0)]) C dX6_partAll_3 rfl (Nat.le_of_ble_eq_true rfl) rfl ?_
  refine jn1_ok (P := (fun (x2_25 : Int32) => VW X D 4 Q (KR X) (0, 0) (wM Y a I A F L) [(2, .int x2_25)] 25 [])) (fun x2_25 h => ?_) (fun J25 hJ25 h => ?_) h
  · refine V_iload_n (pc := 25) C dX6_partAll_25 rfl 0 rfl ?_
    cases h
    subst hQ
    exact V_iretR C dX6_partAll_26
  refine V_sub [2, 3, 1, 0] rfl (wh2_ok (P := (fun (x2_4 : Int32) (x3_4 : Int32) => VW X D 4 Q (KR X) (0, 0) (wM Y a I A F L) [(0, .ref (a 0)), (1, .int p0), (2, .int x2_4), (3, .int x3_4)] 4 [])) (fun self4 ih4 x2_4 x3_4 h => ?_) 200 _ _ h)
  refine V_iload_n (pc := 4) C dX6_partAll_4 rfl 3 rfl ?_
  refine V_bipush (pc := 5) (v := 8) C dX6_partAll_5 rfl ?_
  refine V_icmp_ge (pc := 7) C 25 dX6_partAll_7 rfl (fun c7 => ?_) (fun c7 => ?_)
  · replace h := t_pos c7 h
    exact V_sub [2] rfl (hJ25 _ h)
  · replace h := t_neg c7 h
    refine V_iload_n (pc := 10) C dX6_partAll_10 rfl 2 rfl ?_
    refine V_aload_n (pc := 11) C dX6_partAll_11 rfl 0 rfl ?_
    refine V_iload_n (pc := 12) C dX6_partAll_12 rfl 1 rfl ?_
    refine V_iload_n (pc := 13) C dX6_partAll_13 rfl 3 rfl ?_
    obtain ⟨r14, hq, h⟩ := ob1_some h
    refine V_callVR0 (pc := 14) (rest := [.int x2_4]) (st2 := [.int r14, .int x2_4]) C (X6_partAt_ok (a := a) hq) gX6_partAll_X6_partAt rfl ⟨rfl, hdX6_partAt⟩ ⟨Nat.le_of_ble_eq_true rfl, Nat.le_of_ble_eq_true rfl⟩ ⟨Nat.le_refl _, Nat.le_refl _⟩ 0 6 rfl rfl rfl (Nat.le_of_ble_eq_true rfl) dX6_partAll_14 rfl ?_
    refine V_iadd (pc := 17) C dX6_partAll_17 ?_
    refine V_istore_n (pc := 18) (lv' := [(2, .int (x2_4 + r14)), (0, .ref (a 0)), (1, .int p0), (3, .int x3_4)]) C dX6_partAll_18 rfl (Nat.le_of_ble_eq_true rfl) rfl ?_
    refine V_iinc (pc := 19) (v := (x3_4 + 1)) (lv' := [(3, .int (x3_4 + 1)), (2, .int (x2_4 + r14)), (0, .ref (a 0)), (1, .int p0)]) C dX6_partAll_19 3 rfl rfl (Nat.le_of_ble_eq_true rfl) rfl ?_
    refine V_goto (pc := 22) C 4 dX6_partAll_22 rfl ?_
    exact V_sub [2, 3, 1, 0] rfl (ih4 _ _ h)
def X6_unitNow (I : Nat → Int32) (A : Nat → Nat → Int32) (F : Nat → Int64) (L : Nat → Nat → Int64) (p0 : Int32) (p1 : Int32) : Option (Int32) :=
  if p1 = 0 then (chk (inB p0 4) (some ((A 8) (Int32.toNatClampNeg p0)))) else (if p1 = (1 : Int32) then (chk (inB p0 4) (some ((A 9) (Int32.toNatClampNeg p0)))) else (if p1 = (2 : Int32) then (ob1 (X6_partAll I A F L p0) fun r34 =>
  some r34) else (ob1 (X6_partAt I A F L p0 (p1 - (10 : Int32))) fun r46 =>
  some r46)))
theorem wX6_unitNow_k0 : Cond.fieldLink RX6 28 (TX6 9).1 (TX6 9).2.1 (TX6 9).2.2.1 ∈ wsX6_unitNow := by decide +kernel
theorem hiX6_unitNow_6 : ∀ w ∈ u_ws RX6 TX6 33, w ∈ wsX6_unitNow := fun _ h => List.mem_cons_of_mem _ (List.mem_append_right _ h)
theorem wX6_unitNow_k2 : Cond.fieldLink RX6 25 (TX6 8).1 (TX6 8).2.1 (TX6 8).2.2.1 ∈ wsX6_unitNow := by decide +kernel
theorem hdX6_unitNow : yX6_unitNow.cls ≠ "java/lang/invoke/MethodHandle" ∧ yX6_unitNow.cls ≠ "java/lang/invoke/VarHandle" ∧ (parseMethodDescriptor yX6_unitNow.desc).map (fun d => d.parameters.length) = some 2 := by decide +kernel
set_option maxHeartbeats 4000000 in
set_option maxRecDepth 100000 in
theorem X6_unitNow_ok {l : Launch} {D : va_G} {Y : Nat → ClassId} {a : Nat → Nat} {I : Nat → Int32} {A : Nat → Nat → Int32} {F : Nat → Int64} {L : Nat → Nat → Int64} {p0 : Int32} {p1 : Int32} {r : Int32} (h : X6_unitNow I A F L p0 p1 = some r) : MR l yX6_unitNow wsX6_unitNow 3 67 D Y [.ref (a 0), .int p0, .int p1] (wM Y a I A F L) (some (.int r)) := by
  refine MR_of (cc := cX6_unitNow) (nL := 3) (ret := some .int) (lv0 := [(0, .ref (a 0)), (1, .int p0), (2, .int p1)]) (by decide) rfl (Nat.le_of_ble_eq_true rfl) rfl (fun X Q C hQ => ?_)
  unfold X6_unitNow at h
  refine V_iload_n (pc := 0) C dX6_unitNow_0 rfl 2 rfl ?_
  refine V_if_ne (pc := 1) C 13 dX6_unitNow_1 rfl (fun c1 => ?_) (fun c1 => ?_)
  · replace h := t_neg c1 h
    refine V_iload_n (pc := 13) C dX6_unitNow_13 rfl 2 rfl ?_
    refine V_iconst (pc := 14) (v := 1) C dX6_unitNow_14 rfl ?_
    refine V_icmp_ne (pc := 15) C 27 dX6_unitNow_15 rfl (fun c15 => ?_) (fun c15 => ?_)
    · replace h := t_neg c15 h
      refine V_iload_n (pc := 27) C dX6_unitNow_27 rfl 2 rfl ?_
      refine V_iconst (pc := 28) (v := 2) C dX6_unitNow_28 rfl ?_
      refine V_icmp_ne (pc := 29) C 40 dX6_unitNow_29 rfl (fun c29 => ?_) (fun c29 => ?_)
      · replace h := t_neg c29 h
        refine V_aload_n (pc := 40) C dX6_unitNow_40 rfl 0 rfl ?_
        refine V_iload_n (pc := 41) C dX6_unitNow_41 rfl 1 rfl ?_
        refine V_iload_n (pc := 42) C dX6_unitNow_42 rfl 2 rfl ?_
        refine V_bipush (pc := 43) (v := 10) C dX6_unitNow_43 rfl ?_
        refine V_isub (pc := 45) C dX6_unitNow_45 ?_
        obtain ⟨r46, hq, h⟩ := ob1_some h
        refine V_callVR0 (pc := 46) (rest := []) (st2 := [.int r46]) C (X6_partAt_ok (a := a) hq) gX6_unitNow_X6_partAt rfl ⟨rfl, hdX6_partAt⟩ ⟨Nat.le_of_ble_eq_true rfl, Nat.le_of_ble_eq_true rfl⟩ ⟨Nat.le_refl _, Nat.le_refl _⟩ 0 6 rfl rfl rfl (Nat.le_of_ble_eq_true rfl) dX6_unitNow_46 rfl ?_
        cases h
        subst hQ
        exact V_iretR C dX6_unitNow_49
      · replace h := t_pos c29 h
        refine V_aload_n (pc := 32) C dX6_unitNow_32 rfl 0 rfl ?_
        refine V_iload_n (pc := 33) C dX6_unitNow_33 rfl 1 rfl ?_
        obtain ⟨r34, hq, h⟩ := ob1_some h
        refine V_callVR0 (pc := 34) (rest := []) (st2 := [.int r34]) C (X6_partAll_ok (a := a) hq) gX6_unitNow_X6_partAll rfl ⟨rfl, hdX6_partAll⟩ ⟨Nat.le_of_ble_eq_true rfl, Nat.le_of_ble_eq_true rfl⟩ ⟨Nat.le_refl _, Nat.le_refl _⟩ 0 6 rfl rfl rfl (Nat.le_of_ble_eq_true rfl) dX6_unitNow_34 rfl ?_
        refine V_goto (pc := 37) C 49 dX6_unitNow_37 rfl ?_
        cases h
        subst hQ
        exact V_iretR C dX6_unitNow_49
    · replace h := t_pos c15 h
      refine V_aload_n (pc := 18) C dX6_unitNow_18 rfl 0 rfl ?_
      refine V_get (pc := 19) (v := .ref (a 7)) C 0 6 9 hiX6_unitNow_6 rfl rfl (by decide) wX6_unitNow_k0 rfl dX6_unitNow_19 ?_
      refine V_iload_n (pc := 22) C dX6_unitNow_22 rfl 1 rfl ?_
      obtain ⟨b23, h⟩ := chk_some h
      refine V_iald (pc := 23) C 7 rfl b23 dX6_unitNow_23 ?_
      refine V_goto (pc := 24) C 49 dX6_unitNow_24 rfl ?_
      cases h
      subst hQ
      exact V_iretR C dX6_unitNow_49
  · replace h := t_pos c1 h
    refine V_aload_n (pc := 4) C dX6_unitNow_4 rfl 0 rfl ?_
    refine V_get (pc := 5) (v := .ref (a 6)) C 0 6 8 hiX6_unitNow_6 rfl rfl (by decide) wX6_unitNow_k2 rfl dX6_unitNow_5 ?_
    refine V_iload_n (pc := 8) C dX6_unitNow_8 rfl 1 rfl ?_
    obtain ⟨b9, h⟩ := chk_some h
    refine V_iald (pc := 9) C 6 rfl b9 dX6_unitNow_9 ?_
    refine V_goto (pc := 10) C 49 dX6_unitNow_10 rfl ?_
    cases h
    subst hQ
    exact V_iretR C dX6_unitNow_49
def X6_unit (I : Nat → Int32) (A : Nat → Nat → Int32) (F : Nat → Int64) (L : Nat → Nat → Int64) (p0 : Int32) (p1 : Int32) : Option (Int32) :=
  ob1 (X6_isUnitThere I A F L p0) fun r2 =>
  if r2 = 0 then (some (-1000002 : Int32)) else (ob1 (X6_within p1 (0 : Int32) (2 : Int32)) fun r14 =>
  jn0 (ob1 (X6_unitNow I A F L p0 p1) fun r34 =>
  some r34) fun J31 =>
  if r14 = 0 then (ob1 (X6_within p1 (10 : Int32) (17 : Int32)) fun r25 =>
  if r25 = 0 then (some (-1000003 : Int32)) else (J31)) else (J31))
theorem wX6_unit_k0 : Cond.constant RX6 63 (-1000003) ∈ wsX6_unit := by decide +kernel
theorem wX6_unit_k1 : Cond.constant RX6 136 (-1000002) ∈ wsX6_unit := by decide +kernel
theorem hdX6_unit : yX6_unit.cls ≠ "java/lang/invoke/MethodHandle" ∧ yX6_unit.cls ≠ "java/lang/invoke/VarHandle" ∧ (parseMethodDescriptor yX6_unit.desc).map (fun d => d.parameters.length) = some 2 := by decide +kernel
set_option maxHeartbeats 4000000 in
set_option maxRecDepth 100000 in
theorem X6_unit_ok {l : Launch} {D : va_G} {Y : Nat → ClassId} {a : Nat → Nat} {I : Nat → Int32} {A : Nat → Nat → Int32} {F : Nat → Int64} {L : Nat → Nat → Int64} {p0 : Int32} {p1 : Int32} {r : Int32} (h : X6_unit I A F L p0 p1 = some r) : MR l yX6_unit wsX6_unit 4 89 D Y [.ref (a 0), .int p0, .int p1] (wM Y a I A F L) (some (.int r)) := by
  refine MR_of (cc := cX6_unit) (nL := 3) (ret := some .int) (lv0 := [(0, .ref (a 0)), (1, .int p0), (2, .int p1)]) (by decide) rfl (Nat.le_of_ble_eq_true rfl) rfl (fun X Q C hQ => ?_)
  unfold X6_unit at h
  refine V_aload_n (pc := 0) C dX6_unit_0 rfl 0 rfl ?_
  refine V_iload_n (pc := 1) C dX6_unit_1 rfl 1 rfl ?_
  obtain ⟨r2, hq, h⟩ := ob1_some h
  refine V_callVR0 (pc := 2) (rest := []) (st2 := [.int r2]) C (X6_isUnitThere_ok (a := a) hq) gX6_unit_X6_isUnitThere rfl ⟨rfl, hdX6_isUnitThere⟩ ⟨Nat.le_of_ble_eq_true rfl, Nat.le_of_ble_eq_true rfl⟩ ⟨Nat.le_refl _, Nat.le_refl _⟩ 0 6 rfl rfl rfl (Nat.le_of_ble_eq_true rfl) dX6_unit_2 rfl ?_
  refine V_if_ne (pc := 5) C 11 dX6_unit_5 rfl (fun c5 => ?_) (fun c5 => ?_)
  · replace h := t_neg c5 h
    refine V_iload_n (pc := 11) C dX6_unit_11 rfl 2 rfl ?_
    refine V_iconst (pc := 12) (v := 0) C dX6_unit_12 rfl ?_
    refine V_iconst (pc := 13) (v := 2) C dX6_unit_13 rfl ?_
    obtain ⟨r14, hq, h⟩ := ob1_some h
    refine V_callSR (pc := 14) (rest := []) (st2 := [.int r14]) C (X6_within_ok hq) gX6_unit_X6_within rfl hdX6_within ⟨Nat.le_of_ble_eq_true rfl, Nat.le_of_ble_eq_true rfl⟩ ⟨Nat.le_refl _, Nat.le_refl _⟩ [] rfl rfl (Nat.le_of_ble_eq_true rfl) dX6_unit_14 rfl ?_
    refine jn0_ok (P := (VW X D 3 Q (KR X) (0, 0) (wM Y a I A F L) [(0, .ref (a 0)), (1, .int p0), (2, .int p1)] 31 [])) (fun h => ?_) (fun J31 hJ31 h => ?_) h
    · refine V_aload_n (pc := 31) C dX6_unit_31 rfl 0 rfl ?_
      refine V_iload_n (pc := 32) C dX6_unit_32 rfl 1 rfl ?_
      refine V_iload_n (pc := 33) C dX6_unit_33 rfl 2 rfl ?_
      obtain ⟨r34, hq, h⟩ := ob1_some h
      refine V_callVR0 (pc := 34) (rest := []) (st2 := [.int r34]) C (X6_unitNow_ok (a := a) hq) gX6_unit_X6_unitNow rfl ⟨rfl, hdX6_unitNow⟩ ⟨Nat.le_of_ble_eq_true rfl, Nat.le_of_ble_eq_true rfl⟩ ⟨Nat.le_refl _, Nat.le_refl _⟩ 0 6 rfl rfl rfl (Nat.le_of_ble_eq_true rfl) dX6_unit_34 rfl ?_
      refine V_goto (pc := 37) C 42 dX6_unit_37 rfl ?_
      cases h
      subst hQ
      exact V_iretR C dX6_unit_42
    refine V_if_ne (pc := 17) C 31 dX6_unit_17 rfl (fun c17 => ?_) (fun c17 => ?_)
    · replace h := t_neg c17 h
      exact V_sub [0, 1, 2] rfl (hJ31 h)
    · replace h := t_pos c17 h
      refine V_iload_n (pc := 20) C dX6_unit_20 rfl 2 rfl ?_
      refine V_bipush (pc := 21) (v := 10) C dX6_unit_21 rfl ?_
      refine V_bipush (pc := 23) (v := 17) C dX6_unit_23 rfl ?_
      obtain ⟨r25, hq, h⟩ := ob1_some h
      refine V_callSR (pc := 25) (rest := []) (st2 := [.int r25]) C (X6_within_ok hq) gX6_unit_X6_within rfl hdX6_within ⟨Nat.le_of_ble_eq_true rfl, Nat.le_of_ble_eq_true rfl⟩ ⟨Nat.le_refl _, Nat.le_refl _⟩ [] rfl rfl (Nat.le_of_ble_eq_true rfl) dX6_unit_25 rfl ?_
      refine V_if_eq (pc := 28) C 40 dX6_unit_28 rfl (fun c28 => ?_) (fun c28 => ?_)
      · replace h := t_pos c28 h
        refine V_ldc (pc := 40) (v := -1000003) C dX6_unit_40 wX6_unit_k0 ?_
        cases h
        subst hQ
        exact V_iretR C dX6_unit_42
      · replace h := t_neg c28 h
        exact V_sub [0, 1, 2] rfl (hJ31 h)
  · replace h := t_pos c5 h
    refine V_ldc (pc := 8) (v := -1000002) C dX6_unit_8 wX6_unit_k1 ?_
    cases h
    subst hQ
    exact V_iretR C dX6_unit_10
def X6_madeAt (I : Nat → Int32) (A : Nat → Nat → Int32) (F : Nat → Int64) (L : Nat → Nat → Int64) (p0 : Int32) (p1 : Int32) (p2 : Int32) : Option (Int32) :=
  jn1 (fun (x4_40 : Int32) => some x4_40) fun J40 =>
  wh2 (fun self6 (x4_6 : Int32) (x5_6 : Int32) =>
  if (3 : Int32) ≤ x5_6 then (J40 x4_6) else (ob1 (X6_rainAt I A F L p1 x5_6) fun r18 =>
  ob1 (X6_partAt I A F L p0 (p2 - x5_6)) fun r27 =>
  self6 (x4_6 + (r18 * r27)) (x5_6 + 1))) 200 (0 : Int32) (0 : Int32)
theorem hdX6_madeAt : yX6_madeAt.cls ≠ "java/lang/invoke/MethodHandle" ∧ yX6_madeAt.cls ≠ "java/lang/invoke/VarHandle" ∧ (parseMethodDescriptor yX6_madeAt.desc).map (fun d => d.parameters.length) = some 3 := by decide +kernel
set_option maxHeartbeats 4000000 in
set_option maxRecDepth 100000 in
theorem X6_madeAt_ok {l : Launch} {D : va_G} {Y : Nat → ClassId} {a : Nat → Nat} {I : Nat → Int32} {A : Nat → Nat → Int32} {F : Nat → Int64} {L : Nat → Nat → Int64} {p0 : Int32} {p1 : Int32} {p2 : Int32} {r : Int32} (h : X6_madeAt I A F L p0 p1 p2 = some r) : MR l yX6_madeAt wsX6_madeAt 2 44 D Y [.ref (a 0), .int p0, .int p1, .int p2] (wM Y a I A F L) (some (.int r)) := by
  refine MR_of (cc := cX6_madeAt) (nL := 6) (ret := some .int) (lv0 := [(0, .ref (a 0)), (1, .int p0), (2, .int p1), (3, .int p2)]) (by decide) rfl (Nat.le_of_ble_eq_true rfl) rfl (fun X Q C hQ => ?_)
  unfold X6_madeAt at h
  refine V_iconst (pc := 0) (v := 0) C dX6_madeAt_0 rfl ?_
  refine V_istore (pc := 1) (lv' := [(4, .int (0 : Int32)), (0, .ref (a 0)), (1, .int p0), (2, .int p1), (3, .int p2)]) C dX6_madeAt_1 (Nat.le_of_ble_eq_true rfl) rfl ?_
  refine V_iconst (pc := 3) (v := 0) C dX6_madeAt_3 rfl ?_
  refine V_istore (pc := 4) (lv' := [(5, .int (0 : Int32)), (4, .int (0 : Int32)), (0, .ref (a 0)), (1, .int p0), (2, .int p1), (3, .int p2)]) C dX6_madeAt_4 (Nat.le_of_ble_eq_true rfl) rfl ?_
  refine jn1_ok (P := (fun (x4_40 : Int32) => VW X D 6 Q (KR X) (0, 0) (wM Y a I A F L) [(4, .int x4_40)] 40 [])) (fun x4_40 h => ?_) (fun J40 hJ40 h => ?_) h
  · refine V_iload (pc := 40) C dX6_madeAt_40 0 rfl ?_
    cases h
    subst hQ
    exact V_iretR C dX6_madeAt_42
  refine V_sub [2, 3, 4, 5, 1, 0] rfl (wh2_ok (P := (fun (x4_6 : Int32) (x5_6 : Int32) => VW X D 6 Q (KR X) (0, 0) (wM Y a I A F L) [(0, .ref (a 0)), (1, .int p0), (2, .int p1), (3, .int p2), (4, .int x4_6), (5, .int x5_6)] 6 [])) (fun self6 ih6 x4_6 x5_6 h => ?_) 200 _ _ h)
  refine V_iload (pc := 6) C dX6_madeAt_6 5 rfl ?_
  refine V_iconst (pc := 8) (v := 3) C dX6_madeAt_8 rfl ?_
  refine V_icmp_ge (pc := 9) C 40 dX6_madeAt_9 rfl (fun c9 => ?_) (fun c9 => ?_)
  · replace h := t_pos c9 h
    exact V_sub [4] rfl (hJ40 _ h)
  · replace h := t_neg c9 h
    refine V_iload (pc := 12) C dX6_madeAt_12 4 rfl ?_
    refine V_aload_n (pc := 14) C dX6_madeAt_14 rfl 0 rfl ?_
    refine V_iload_n (pc := 15) C dX6_madeAt_15 rfl 2 rfl ?_
    refine V_iload (pc := 16) C dX6_madeAt_16 5 rfl ?_
    obtain ⟨r18, hq, h⟩ := ob1_some h
    refine V_callVR0 (pc := 18) (rest := [.int x4_6]) (st2 := [.int r18, .int x4_6]) C (X6_rainAt_ok (a := a) hq) gX6_madeAt_X6_rainAt rfl ⟨rfl, hdX6_rainAt⟩ ⟨Nat.le_of_ble_eq_true rfl, Nat.le_of_ble_eq_true rfl⟩ ⟨Nat.le_refl _, Nat.le_refl _⟩ 0 6 rfl rfl rfl (Nat.le_of_ble_eq_true rfl) dX6_madeAt_18 rfl ?_
    refine V_aload_n (pc := 21) C dX6_madeAt_21 rfl 0 rfl ?_
    refine V_iload_n (pc := 22) C dX6_madeAt_22 rfl 1 rfl ?_
    refine V_iload_n (pc := 23) C dX6_madeAt_23 rfl 3 rfl ?_
    refine V_iload (pc := 24) C dX6_madeAt_24 5 rfl ?_
    refine V_isub (pc := 26) C dX6_madeAt_26 ?_
    obtain ⟨r27, hq, h⟩ := ob1_some h
    refine V_callVR0 (pc := 27) (rest := [.int r18, .int x4_6]) (st2 := [.int r27, .int r18, .int x4_6]) C (X6_partAt_ok (a := a) hq) gX6_madeAt_X6_partAt rfl ⟨rfl, hdX6_partAt⟩ ⟨Nat.le_of_ble_eq_true rfl, Nat.le_of_ble_eq_true rfl⟩ ⟨Nat.le_refl _, Nat.le_refl _⟩ 0 6 rfl rfl rfl (Nat.le_of_ble_eq_true rfl) dX6_madeAt_27 rfl ?_
    refine V_imul (pc := 30) C dX6_madeAt_30 ?_
    refine V_iadd (pc := 31) C dX6_madeAt_31 ?_
    refine V_istore (pc := 32) (lv' := [(4, .int (x4_6 + (r18 * r27))), (0, .ref (a 0)), (1, .int p0), (2, .int p1), (3, .int p2), (5, .int x5_6)]) C dX6_madeAt_32 (Nat.le_of_ble_eq_true rfl) rfl ?_
    refine V_iinc (pc := 34) (v := (x5_6 + 1)) (lv' := [(5, .int (x5_6 + 1)), (4, .int (x4_6 + (r18 * r27))), (0, .ref (a 0)), (1, .int p0), (2, .int p1), (3, .int p2)]) C dX6_madeAt_34 5 rfl rfl (Nat.le_of_ble_eq_true rfl) rfl ?_
    refine V_goto (pc := 37) C 6 dX6_madeAt_37 rfl ?_
    exact V_sub [2, 3, 4, 5, 1, 0] rfl (ih6 _ _ h)
def X6_made (I : Nat → Int32) (A : Nat → Nat → Int32) (F : Nat → Int64) (L : Nat → Nat → Int64) (p0 : Int32) (p1 : Int32) (p2 : Int32) : Option (Int32) :=
  ob1 (X6_isUnitThere I A F L p0) fun r2 =>
  if r2 = 0 then (some (-1000002 : Int32)) else (ob1 (X6_isStorm I A F L p1) fun r10 =>
  if r10 = 0 then (some (-1000002 : Int32)) else (ob1 (X6_within p2 (0 : Int32) (20 : Int32)) fun r23 =>
  if r23 = 0 then (some (-1000003 : Int32)) else (ob1 (X6_madeAt I A F L p0 p1 p2) fun r33 =>
  some r33)))
theorem wX6_made_k0 : Cond.constant RX6 136 (-1000002) ∈ wsX6_made := by decide +kernel
theorem wX6_made_k1 : Cond.constant RX6 63 (-1000003) ∈ wsX6_made := by decide +kernel
theorem hdX6_made : yX6_made.cls ≠ "java/lang/invoke/MethodHandle" ∧ yX6_made.cls ≠ "java/lang/invoke/VarHandle" ∧ (parseMethodDescriptor yX6_made.desc).map (fun d => d.parameters.length) = some 3 := by decide +kernel
set_option maxHeartbeats 4000000 in
set_option maxRecDepth 100000 in
theorem X6_made_ok {l : Launch} {D : va_G} {Y : Nat → ClassId} {a : Nat → Nat} {I : Nat → Int32} {A : Nat → Nat → Int32} {F : Nat → Int64} {L : Nat → Nat → Int64} {p0 : Int32} {p1 : Int32} {p2 : Int32} {r : Int32} (h : X6_made I A F L p0 p1 p2 = some r) : MR l yX6_made wsX6_made 3 69 D Y [.ref (a 0), .int p0, .int p1, .int p2] (wM Y a I A F L) (some (.int r)) := by
  refine MR_of (cc := cX6_made) (nL := 4) (ret := some .int) (lv0 := [(0, .ref (a 0)), (1, .int p0), (2, .int p1), (3, .int p2)]) (by decide) rfl (Nat.le_of_ble_eq_true rfl) rfl (fun X Q C hQ => ?_)
  unfold X6_made at h
  refine V_aload_n (pc := 0) C dX6_made_0 rfl 0 rfl ?_
  refine V_iload_n (pc := 1) C dX6_made_1 rfl 1 rfl ?_
  obtain ⟨r2, hq, h⟩ := ob1_some h
  refine V_callVR0 (pc := 2) (rest := []) (st2 := [.int r2]) C (X6_isUnitThere_ok (a := a) hq) gX6_made_X6_isUnitThere rfl ⟨rfl, hdX6_isUnitThere⟩ ⟨Nat.le_of_ble_eq_true rfl, Nat.le_of_ble_eq_true rfl⟩ ⟨Nat.le_refl _, Nat.le_refl _⟩ 0 6 rfl rfl rfl (Nat.le_of_ble_eq_true rfl) dX6_made_2 rfl ?_
  refine V_if_eq (pc := 5) C 16 dX6_made_5 rfl (fun c5 => ?_) (fun c5 => ?_)
  · replace h := t_pos c5 h
    refine V_ldc (pc := 16) (v := -1000002) C dX6_made_16 wX6_made_k0 ?_
    cases h
    subst hQ
    exact V_iretR C dX6_made_18
  · replace h := t_neg c5 h
    refine V_aload_n (pc := 8) C dX6_made_8 rfl 0 rfl ?_
    refine V_iload_n (pc := 9) C dX6_made_9 rfl 2 rfl ?_
    obtain ⟨r10, hq, h⟩ := ob1_some h
    refine V_callVR0 (pc := 10) (rest := []) (st2 := [.int r10]) C (X6_isStorm_ok (a := a) hq) gX6_made_X6_isStorm rfl ⟨rfl, hdX6_isStorm⟩ ⟨Nat.le_of_ble_eq_true rfl, Nat.le_of_ble_eq_true rfl⟩ ⟨Nat.le_refl _, Nat.le_refl _⟩ 0 6 rfl rfl rfl (Nat.le_of_ble_eq_true rfl) dX6_made_10 rfl ?_
    refine V_if_ne (pc := 13) C 19 dX6_made_13 rfl (fun c13 => ?_) (fun c13 => ?_)
    · replace h := t_neg c13 h
      refine V_iload_n (pc := 19) C dX6_made_19 rfl 3 rfl ?_
      refine V_iconst (pc := 20) (v := 0) C dX6_made_20 rfl ?_
      refine V_bipush (pc := 21) (v := 20) C dX6_made_21 rfl ?_
      obtain ⟨r23, hq, h⟩ := ob1_some h
      refine V_callSR (pc := 23) (rest := []) (st2 := [.int r23]) C (X6_within_ok hq) gX6_made_X6_within rfl hdX6_within ⟨Nat.le_of_ble_eq_true rfl, Nat.le_of_ble_eq_true rfl⟩ ⟨Nat.le_refl _, Nat.le_refl _⟩ [] rfl rfl (Nat.le_of_ble_eq_true rfl) dX6_made_23 rfl ?_
      refine V_if_eq (pc := 26) C 39 dX6_made_26 rfl (fun c26 => ?_) (fun c26 => ?_)
      · replace h := t_pos c26 h
        refine V_ldc (pc := 39) (v := -1000003) C dX6_made_39 wX6_made_k1 ?_
        cases h
        subst hQ
        exact V_iretR C dX6_made_41
      · replace h := t_neg c26 h
        refine V_aload_n (pc := 29) C dX6_made_29 rfl 0 rfl ?_
        refine V_iload_n (pc := 30) C dX6_made_30 rfl 1 rfl ?_
        refine V_iload_n (pc := 31) C dX6_made_31 rfl 2 rfl ?_
        refine V_iload_n (pc := 32) C dX6_made_32 rfl 3 rfl ?_
        obtain ⟨r33, hq, h⟩ := ob1_some h
        refine V_callVR0 (pc := 33) (rest := []) (st2 := [.int r33]) C (X6_madeAt_ok (a := a) hq) gX6_made_X6_madeAt rfl ⟨rfl, hdX6_madeAt⟩ ⟨Nat.le_of_ble_eq_true rfl, Nat.le_of_ble_eq_true rfl⟩ ⟨Nat.le_refl _, Nat.le_refl _⟩ 0 6 rfl rfl rfl (Nat.le_of_ble_eq_true rfl) dX6_made_33 rfl ?_
        refine V_goto (pc := 36) C 41 dX6_made_36 rfl ?_
        cases h
        subst hQ
        exact V_iretR C dX6_made_41
    · replace h := t_pos c13 h
      refine V_ldc (pc := 16) (v := -1000002) C dX6_made_16 wX6_made_k0 ?_
      cases h
      subst hQ
      exact V_iretR C dX6_made_18
def X6_missedNow (I : Nat → Int32) (A : Nat → Nat → Int32) (F : Nat → Int64) (L : Nat → Nat → Int64) (p0 : Int32) (p1 : Int32) : Option (Int32) :=
  jn1 (fun (x3_44 : Int32) => some x3_44) fun J44 =>
  wh2 (fun self5 (x3_5 : Int32) (x4_5 : Int32) =>
  if (20 : Int32) < x4_5 then (J44 x3_5) else (ob1 (X6_madeAt I A F L p0 p1 x4_5) fun r17 =>
  ob1 (X6_runoffAt I A F L p1 x4_5) fun r24 =>
  self5 (x3_5 + ((r17 - r24) * (r17 - r24))) (x4_5 + 1))) 200 (0 : Int32) (0 : Int32)
theorem hdX6_missedNow : yX6_missedNow.cls ≠ "java/lang/invoke/MethodHandle" ∧ yX6_missedNow.cls ≠ "java/lang/invoke/VarHandle" ∧ (parseMethodDescriptor yX6_missedNow.desc).map (fun d => d.parameters.length) = some 2 := by decide +kernel
set_option maxHeartbeats 4000000 in
set_option maxRecDepth 100000 in
theorem X6_missedNow_ok {l : Launch} {D : va_G} {Y : Nat → ClassId} {a : Nat → Nat} {I : Nat → Int32} {A : Nat → Nat → Int32} {F : Nat → Int64} {L : Nat → Nat → Int64} {p0 : Int32} {p1 : Int32} {r : Int32} (h : X6_missedNow I A F L p0 p1 = some r) : MR l yX6_missedNow wsX6_missedNow 3 69 D Y [.ref (a 0), .int p0, .int p1] (wM Y a I A F L) (some (.int r)) := by
  refine MR_of (cc := cX6_missedNow) (nL := 6) (ret := some .int) (lv0 := [(0, .ref (a 0)), (1, .int p0), (2, .int p1)]) (by decide) rfl (Nat.le_of_ble_eq_true rfl) rfl (fun X Q C hQ => ?_)
  unfold X6_missedNow at h
  refine V_iconst (pc := 0) (v := 0) C dX6_missedNow_0 rfl ?_
  refine V_istore_n (pc := 1) (lv' := [(3, .int (0 : Int32)), (0, .ref (a 0)), (1, .int p0), (2, .int p1)]) C dX6_missedNow_1 rfl (Nat.le_of_ble_eq_true rfl) rfl ?_
  refine V_iconst (pc := 2) (v := 0) C dX6_missedNow_2 rfl ?_
  refine V_istore (pc := 3) (lv' := [(4, .int (0 : Int32)), (3, .int (0 : Int32)), (0, .ref (a 0)), (1, .int p0), (2, .int p1)]) C dX6_missedNow_3 (Nat.le_of_ble_eq_true rfl) rfl ?_
  refine jn1_ok (P := (fun (x3_44 : Int32) => VW X D 6 Q (KR X) (0, 0) (wM Y a I A F L) [(3, .int x3_44)] 44 [])) (fun x3_44 h => ?_) (fun J44 hJ44 h => ?_) h
  · refine V_iload_n (pc := 44) C dX6_missedNow_44 rfl 0 rfl ?_
    cases h
    subst hQ
    exact V_iretR C dX6_missedNow_45
  refine V_sub [2, 3, 4, 1, 0] rfl (wh2_ok (P := (fun (x3_5 : Int32) (x4_5 : Int32) => VW X D 6 Q (KR X) (0, 0) (wM Y a I A F L) [(0, .ref (a 0)), (1, .int p0), (2, .int p1), (3, .int x3_5), (4, .int x4_5)] 5 [])) (fun self5 ih5 x3_5 x4_5 h => ?_) 200 _ _ h)
  refine V_iload (pc := 5) C dX6_missedNow_5 4 rfl ?_
  refine V_bipush (pc := 7) (v := 20) C dX6_missedNow_7 rfl ?_
  refine V_icmp_gt (pc := 9) C 44 dX6_missedNow_9 rfl (fun c9 => ?_) (fun c9 => ?_)
  · replace h := t_pos c9 h
    exact V_sub [3] rfl (hJ44 _ h)
  · replace h := t_neg c9 h
    refine V_aload_n (pc := 12) C dX6_missedNow_12 rfl 0 rfl ?_
    refine V_iload_n (pc := 13) C dX6_missedNow_13 rfl 1 rfl ?_
    refine V_iload_n (pc := 14) C dX6_missedNow_14 rfl 2 rfl ?_
    refine V_iload (pc := 15) C dX6_missedNow_15 4 rfl ?_
    obtain ⟨r17, hq, h⟩ := ob1_some h
    refine V_callVR0 (pc := 17) (rest := []) (st2 := [.int r17]) C (X6_madeAt_ok (a := a) hq) gX6_missedNow_X6_madeAt rfl ⟨rfl, hdX6_madeAt⟩ ⟨Nat.le_of_ble_eq_true rfl, Nat.le_of_ble_eq_true rfl⟩ ⟨Nat.le_refl _, Nat.le_refl _⟩ 0 6 rfl rfl rfl (Nat.le_of_ble_eq_true rfl) dX6_missedNow_17 rfl ?_
    refine V_aload_n (pc := 20) C dX6_missedNow_20 rfl 0 rfl ?_
    refine V_iload_n (pc := 21) C dX6_missedNow_21 rfl 2 rfl ?_
    refine V_iload (pc := 22) C dX6_missedNow_22 4 rfl ?_
    obtain ⟨r24, hq, h⟩ := ob1_some h
    refine V_callVR0 (pc := 24) (rest := [.int r17]) (st2 := [.int r24, .int r17]) C (X6_runoffAt_ok (a := a) hq) gX6_missedNow_X6_runoffAt rfl ⟨rfl, hdX6_runoffAt⟩ ⟨Nat.le_of_ble_eq_true rfl, Nat.le_of_ble_eq_true rfl⟩ ⟨Nat.le_refl _, Nat.le_refl _⟩ 0 6 rfl rfl rfl (Nat.le_of_ble_eq_true rfl) dX6_missedNow_24 rfl ?_
    refine V_isub (pc := 27) C dX6_missedNow_27 ?_
    refine V_istore (pc := 28) (lv' := [(5, .int (r17 - r24)), (0, .ref (a 0)), (1, .int p0), (2, .int p1), (3, .int x3_5), (4, .int x4_5)]) C dX6_missedNow_28 (Nat.le_of_ble_eq_true rfl) rfl ?_
    refine V_iload_n (pc := 30) C dX6_missedNow_30 rfl 4 rfl ?_
    refine V_iload (pc := 31) C dX6_missedNow_31 0 rfl ?_
    refine V_iload (pc := 33) C dX6_missedNow_33 0 rfl ?_
    refine V_imul (pc := 35) C dX6_missedNow_35 ?_
    refine V_iadd (pc := 36) C dX6_missedNow_36 ?_
    refine V_istore_n (pc := 37) (lv' := [(3, .int (x3_5 + ((r17 - r24) * (r17 - r24)))), (5, .int (r17 - r24)), (0, .ref (a 0)), (1, .int p0), (2, .int p1), (4, .int x4_5)]) C dX6_missedNow_37 rfl (Nat.le_of_ble_eq_true rfl) rfl ?_
    refine V_iinc (pc := 38) (v := (x4_5 + 1)) (lv' := [(4, .int (x4_5 + 1)), (3, .int (x3_5 + ((r17 - r24) * (r17 - r24)))), (5, .int (r17 - r24)), (0, .ref (a 0)), (1, .int p0), (2, .int p1)]) C dX6_missedNow_38 5 rfl rfl (Nat.le_of_ble_eq_true rfl) rfl ?_
    refine V_goto (pc := 41) C 5 dX6_missedNow_41 rfl ?_
    exact V_sub [3, 4, 5, 1, 0] rfl (ih5 _ _ h)
def X6_missed (I : Nat → Int32) (A : Nat → Nat → Int32) (F : Nat → Int64) (L : Nat → Nat → Int64) (p0 : Int32) (p1 : Int32) : Option (Int32) :=
  ob1 (X6_isUnitThere I A F L p0) fun r2 =>
  if r2 = 0 then (some (-1000002 : Int32)) else (ob1 (X6_isStorm I A F L p1) fun r10 =>
  if r10 = 0 then (some (-1000002 : Int32)) else (ob1 (X6_missedNow I A F L p0 p1) fun r19 =>
  some r19))
theorem wX6_missed_k0 : Cond.constant RX6 136 (-1000002) ∈ wsX6_missed := by decide +kernel
theorem hdX6_missed : yX6_missed.cls ≠ "java/lang/invoke/MethodHandle" ∧ yX6_missed.cls ≠ "java/lang/invoke/VarHandle" ∧ (parseMethodDescriptor yX6_missed.desc).map (fun d => d.parameters.length) = some 2 := by decide +kernel
set_option maxHeartbeats 4000000 in
set_option maxRecDepth 100000 in
theorem X6_missed_ok {l : Launch} {D : va_G} {Y : Nat → ClassId} {a : Nat → Nat} {I : Nat → Int32} {A : Nat → Nat → Int32} {F : Nat → Int64} {L : Nat → Nat → Int64} {p0 : Int32} {p1 : Int32} {r : Int32} (h : X6_missed I A F L p0 p1 = some r) : MR l yX6_missed wsX6_missed 4 94 D Y [.ref (a 0), .int p0, .int p1] (wM Y a I A F L) (some (.int r)) := by
  refine MR_of (cc := cX6_missed) (nL := 3) (ret := some .int) (lv0 := [(0, .ref (a 0)), (1, .int p0), (2, .int p1)]) (by decide) rfl (Nat.le_of_ble_eq_true rfl) rfl (fun X Q C hQ => ?_)
  unfold X6_missed at h
  refine V_aload_n (pc := 0) C dX6_missed_0 rfl 0 rfl ?_
  refine V_iload_n (pc := 1) C dX6_missed_1 rfl 1 rfl ?_
  obtain ⟨r2, hq, h⟩ := ob1_some h
  refine V_callVR0 (pc := 2) (rest := []) (st2 := [.int r2]) C (X6_isUnitThere_ok (a := a) hq) gX6_missed_X6_isUnitThere rfl ⟨rfl, hdX6_isUnitThere⟩ ⟨Nat.le_of_ble_eq_true rfl, Nat.le_of_ble_eq_true rfl⟩ ⟨Nat.le_refl _, Nat.le_refl _⟩ 0 6 rfl rfl rfl (Nat.le_of_ble_eq_true rfl) dX6_missed_2 rfl ?_
  refine V_if_eq (pc := 5) C 25 dX6_missed_5 rfl (fun c5 => ?_) (fun c5 => ?_)
  · replace h := t_pos c5 h
    refine V_ldc (pc := 25) (v := -1000002) C dX6_missed_25 wX6_missed_k0 ?_
    cases h
    subst hQ
    exact V_iretR C dX6_missed_27
  · replace h := t_neg c5 h
    refine V_aload_n (pc := 8) C dX6_missed_8 rfl 0 rfl ?_
    refine V_iload_n (pc := 9) C dX6_missed_9 rfl 2 rfl ?_
    obtain ⟨r10, hq, h⟩ := ob1_some h
    refine V_callVR0 (pc := 10) (rest := []) (st2 := [.int r10]) C (X6_isStorm_ok (a := a) hq) gX6_missed_X6_isStorm rfl ⟨rfl, hdX6_isStorm⟩ ⟨Nat.le_of_ble_eq_true rfl, Nat.le_of_ble_eq_true rfl⟩ ⟨Nat.le_refl _, Nat.le_refl _⟩ 0 6 rfl rfl rfl (Nat.le_of_ble_eq_true rfl) dX6_missed_10 rfl ?_
    refine V_if_eq (pc := 13) C 25 dX6_missed_13 rfl (fun c13 => ?_) (fun c13 => ?_)
    · replace h := t_pos c13 h
      refine V_ldc (pc := 25) (v := -1000002) C dX6_missed_25 wX6_missed_k0 ?_
      cases h
      subst hQ
      exact V_iretR C dX6_missed_27
    · replace h := t_neg c13 h
      refine V_aload_n (pc := 16) C dX6_missed_16 rfl 0 rfl ?_
      refine V_iload_n (pc := 17) C dX6_missed_17 rfl 1 rfl ?_
      refine V_iload_n (pc := 18) C dX6_missed_18 rfl 2 rfl ?_
      obtain ⟨r19, hq, h⟩ := ob1_some h
      refine V_callVR0 (pc := 19) (rest := []) (st2 := [.int r19]) C (X6_missedNow_ok (a := a) hq) gX6_missed_X6_missedNow rfl ⟨rfl, hdX6_missedNow⟩ ⟨Nat.le_of_ble_eq_true rfl, Nat.le_of_ble_eq_true rfl⟩ ⟨Nat.le_refl _, Nat.le_refl _⟩ 0 6 rfl rfl rfl (Nat.le_of_ble_eq_true rfl) dX6_missed_19 rfl ?_
      refine V_goto (pc := 22) C 27 dX6_missed_22 rfl ?_
      cases h
      subst hQ
      exact V_iretR C dX6_missed_27
def X6_sumAt (I : Nat → Int32) (A : Nat → Nat → Int32) (F : Nat → Int64) (L : Nat → Nat → Int64) (p0 : Int32) (p1 : Int32) : Option (Int32) :=
  jn1 (fun (x3_34 : Int32) => some x3_34) fun J34 =>
  wh2 (fun self5 (x3_5 : Int32) (x4_5 : Int32) =>
  if x4_5 < 0 then (J34 x3_5) else (ob1 (X6_partAt I A F L p0 x4_5) fun r15 =>
  chk (inB p0 4) (self5 (x3_5 + r15) (x4_5 - ((A 8) (Int32.toNatClampNeg p0)))))) 200 (0 : Int32) p1
theorem wX6_sumAt_k0 : Cond.fieldLink RX6 25 (TX6 8).1 (TX6 8).2.1 (TX6 8).2.2.1 ∈ wsX6_sumAt := by decide +kernel
theorem hiX6_sumAt_6 : ∀ w ∈ u_ws RX6 TX6 33, w ∈ wsX6_sumAt := fun _ h => List.mem_cons_of_mem _ (List.mem_append_right _ h)
theorem hdX6_sumAt : yX6_sumAt.cls ≠ "java/lang/invoke/MethodHandle" ∧ yX6_sumAt.cls ≠ "java/lang/invoke/VarHandle" ∧ (parseMethodDescriptor yX6_sumAt.desc).map (fun d => d.parameters.length) = some 2 := by decide +kernel
set_option maxHeartbeats 4000000 in
set_option maxRecDepth 100000 in
theorem X6_sumAt_ok {l : Launch} {D : va_G} {Y : Nat → ClassId} {a : Nat → Nat} {I : Nat → Int32} {A : Nat → Nat → Int32} {F : Nat → Int64} {L : Nat → Nat → Int64} {p0 : Int32} {p1 : Int32} {r : Int32} (h : X6_sumAt I A F L p0 p1 = some r) : MR l yX6_sumAt wsX6_sumAt 2 44 D Y [.ref (a 0), .int p0, .int p1] (wM Y a I A F L) (some (.int r)) := by
  refine MR_of (cc := cX6_sumAt) (nL := 5) (ret := some .int) (lv0 := [(0, .ref (a 0)), (1, .int p0), (2, .int p1)]) (by decide) rfl (Nat.le_of_ble_eq_true rfl) rfl (fun X Q C hQ => ?_)
  unfold X6_sumAt at h
  refine V_iconst (pc := 0) (v := 0) C dX6_sumAt_0 rfl ?_
  refine V_istore_n (pc := 1) (lv' := [(3, .int (0 : Int32)), (0, .ref (a 0)), (1, .int p0), (2, .int p1)]) C dX6_sumAt_1 rfl (Nat.le_of_ble_eq_true rfl) rfl ?_
  refine V_iload_n (pc := 2) C dX6_sumAt_2 rfl 3 rfl ?_
  refine V_istore (pc := 3) (lv' := [(4, .int p1), (3, .int (0 : Int32)), (0, .ref (a 0)), (1, .int p0), (2, .int p1)]) C dX6_sumAt_3 (Nat.le_of_ble_eq_true rfl) rfl ?_
  refine jn1_ok (P := (fun (x3_34 : Int32) => VW X D 5 Q (KR X) (0, 0) (wM Y a I A F L) [(3, .int x3_34)] 34 [])) (fun x3_34 h => ?_) (fun J34 hJ34 h => ?_) h
  · refine V_iload_n (pc := 34) C dX6_sumAt_34 rfl 0 rfl ?_
    cases h
    subst hQ
    exact V_iretR C dX6_sumAt_35
  refine V_sub [2, 3, 1, 0] rfl (wh2_ok (P := (fun (x3_5 : Int32) (x4_5 : Int32) => VW X D 5 Q (KR X) (0, 0) (wM Y a I A F L) [(0, .ref (a 0)), (1, .int p0), (3, .int x3_5), (4, .int x4_5)] 5 [])) (fun self5 ih5 x3_5 x4_5 h => ?_) 200 _ _ h)
  refine V_iload (pc := 5) C dX6_sumAt_5 3 rfl ?_
  refine V_if_lt (pc := 7) C 34 dX6_sumAt_7 rfl (fun c7 => ?_) (fun c7 => ?_)
  · replace h := t_pos c7 h
    exact V_sub [2] rfl (hJ34 _ h)
  · replace h := t_neg c7 h
    refine V_iload_n (pc := 10) C dX6_sumAt_10 rfl 2 rfl ?_
    refine V_aload_n (pc := 11) C dX6_sumAt_11 rfl 0 rfl ?_
    refine V_iload_n (pc := 12) C dX6_sumAt_12 rfl 1 rfl ?_
    refine V_iload (pc := 13) C dX6_sumAt_13 3 rfl ?_
    obtain ⟨r15, hq, h⟩ := ob1_some h
    refine V_callVR0 (pc := 15) (rest := [.int x3_5]) (st2 := [.int r15, .int x3_5]) C (X6_partAt_ok (a := a) hq) gX6_sumAt_X6_partAt rfl ⟨rfl, hdX6_partAt⟩ ⟨Nat.le_of_ble_eq_true rfl, Nat.le_of_ble_eq_true rfl⟩ ⟨Nat.le_refl _, Nat.le_refl _⟩ 0 6 rfl rfl rfl (Nat.le_of_ble_eq_true rfl) dX6_sumAt_15 rfl ?_
    refine V_iadd (pc := 18) C dX6_sumAt_18 ?_
    refine V_istore_n (pc := 19) (lv' := [(3, .int (x3_5 + r15)), (0, .ref (a 0)), (1, .int p0), (4, .int x4_5)]) C dX6_sumAt_19 rfl (Nat.le_of_ble_eq_true rfl) rfl ?_
    refine V_iload (pc := 20) C dX6_sumAt_20 3 rfl ?_
    refine V_aload_n (pc := 22) C dX6_sumAt_22 rfl 1 rfl ?_
    refine V_get (pc := 23) (v := .ref (a 6)) C 0 6 8 hiX6_sumAt_6 rfl rfl (by decide) wX6_sumAt_k0 rfl dX6_sumAt_23 ?_
    refine V_iload_n (pc := 26) C dX6_sumAt_26 rfl 2 rfl ?_
    obtain ⟨b27, h⟩ := chk_some h
    refine V_iald (pc := 27) C 6 rfl b27 dX6_sumAt_27 ?_
    refine V_isub (pc := 28) C dX6_sumAt_28 ?_
    refine V_istore (pc := 29) (lv' := [(4, .int (x4_5 - ((A 8) (Int32.toNatClampNeg p0)))), (3, .int (x3_5 + r15)), (0, .ref (a 0)), (1, .int p0)]) C dX6_sumAt_29 (Nat.le_of_ble_eq_true rfl) rfl ?_
    refine V_goto (pc := 31) C 5 dX6_sumAt_31 rfl ?_
    exact V_sub [2, 3, 1, 0] rfl (ih5 _ _ h)
def X6_sum (I : Nat → Int32) (A : Nat → Nat → Int32) (F : Nat → Int64) (L : Nat → Nat → Int64) (p0 : Int32) (p1 : Int32) : Option (Int32) :=
  ob1 (X6_isUnitThere I A F L p0) fun r2 =>
  if r2 = 0 then (some (-1000002 : Int32)) else (ob1 (X6_within p1 (0 : Int32) (20 : Int32)) fun r15 =>
  if r15 = 0 then (some (-1000003 : Int32)) else (ob1 (X6_sumAt I A F L p0 p1) fun r24 =>
  some r24))
theorem wX6_sum_k0 : Cond.constant RX6 63 (-1000003) ∈ wsX6_sum := by decide +kernel
theorem wX6_sum_k1 : Cond.constant RX6 136 (-1000002) ∈ wsX6_sum := by decide +kernel
theorem hdX6_sum : yX6_sum.cls ≠ "java/lang/invoke/MethodHandle" ∧ yX6_sum.cls ≠ "java/lang/invoke/VarHandle" ∧ (parseMethodDescriptor yX6_sum.desc).map (fun d => d.parameters.length) = some 2 := by decide +kernel
set_option maxHeartbeats 4000000 in
set_option maxRecDepth 100000 in
theorem X6_sum_ok {l : Launch} {D : va_G} {Y : Nat → ClassId} {a : Nat → Nat} {I : Nat → Int32} {A : Nat → Nat → Int32} {F : Nat → Int64} {L : Nat → Nat → Int64} {p0 : Int32} {p1 : Int32} {r : Int32} (h : X6_sum I A F L p0 p1 = some r) : MR l yX6_sum wsX6_sum 3 68 D Y [.ref (a 0), .int p0, .int p1] (wM Y a I A F L) (some (.int r)) := by
  refine MR_of (cc := cX6_sum) (nL := 3) (ret := some .int) (lv0 := [(0, .ref (a 0)), (1, .int p0), (2, .int p1)]) (by decide) rfl (Nat.le_of_ble_eq_true rfl) rfl (fun X Q C hQ => ?_)
  unfold X6_sum at h
  refine V_aload_n (pc := 0) C dX6_sum_0 rfl 0 rfl ?_
  refine V_iload_n (pc := 1) C dX6_sum_1 rfl 1 rfl ?_
  obtain ⟨r2, hq, h⟩ := ob1_some h
  refine V_callVR0 (pc := 2) (rest := []) (st2 := [.int r2]) C (X6_isUnitThere_ok (a := a) hq) gX6_sum_X6_isUnitThere rfl ⟨rfl, hdX6_isUnitThere⟩ ⟨Nat.le_of_ble_eq_true rfl, Nat.le_of_ble_eq_true rfl⟩ ⟨Nat.le_refl _, Nat.le_refl _⟩ 0 6 rfl rfl rfl (Nat.le_of_ble_eq_true rfl) dX6_sum_2 rfl ?_
  refine V_if_ne (pc := 5) C 11 dX6_sum_5 rfl (fun c5 => ?_) (fun c5 => ?_)
  · replace h := t_neg c5 h
    refine V_iload_n (pc := 11) C dX6_sum_11 rfl 2 rfl ?_
    refine V_iconst (pc := 12) (v := 0) C dX6_sum_12 rfl ?_
    refine V_bipush (pc := 13) (v := 20) C dX6_sum_13 rfl ?_
    obtain ⟨r15, hq, h⟩ := ob1_some h
    refine V_callSR (pc := 15) (rest := []) (st2 := [.int r15]) C (X6_within_ok hq) gX6_sum_X6_within rfl hdX6_within ⟨Nat.le_of_ble_eq_true rfl, Nat.le_of_ble_eq_true rfl⟩ ⟨Nat.le_refl _, Nat.le_refl _⟩ [] rfl rfl (Nat.le_of_ble_eq_true rfl) dX6_sum_15 rfl ?_
    refine V_if_eq (pc := 18) C 30 dX6_sum_18 rfl (fun c18 => ?_) (fun c18 => ?_)
    · replace h := t_pos c18 h
      refine V_ldc (pc := 30) (v := -1000003) C dX6_sum_30 wX6_sum_k0 ?_
      cases h
      subst hQ
      exact V_iretR C dX6_sum_32
    · replace h := t_neg c18 h
      refine V_aload_n (pc := 21) C dX6_sum_21 rfl 0 rfl ?_
      refine V_iload_n (pc := 22) C dX6_sum_22 rfl 1 rfl ?_
      refine V_iload_n (pc := 23) C dX6_sum_23 rfl 2 rfl ?_
      obtain ⟨r24, hq, h⟩ := ob1_some h
      refine V_callVR0 (pc := 24) (rest := []) (st2 := [.int r24]) C (X6_sumAt_ok (a := a) hq) gX6_sum_X6_sumAt rfl ⟨rfl, hdX6_sumAt⟩ ⟨Nat.le_of_ble_eq_true rfl, Nat.le_of_ble_eq_true rfl⟩ ⟨Nat.le_refl _, Nat.le_refl _⟩ 0 6 rfl rfl rfl (Nat.le_of_ble_eq_true rfl) dX6_sum_24 rfl ?_
      refine V_goto (pc := 27) C 32 dX6_sum_27 rfl ?_
      cases h
      subst hQ
      exact V_iretR C dX6_sum_32
  · replace h := t_pos c5 h
    refine V_ldc (pc := 8) (v := -1000002) C dX6_sum_8 wX6_sum_k1 ?_
    cases h
    subst hQ
    exact V_iretR C dX6_sum_10
def X6_common (p0 : Int64) (p1 : Int64) : Option (Int64) :=
  jn1 (fun (s12_0 : Int64) => jn1 (fun (s26_0 : Int64) => jn1 (fun (x4_53 : Int64) => some x4_53) fun J53 =>
  wh2 (fun self28 (x4_28 : Int64) (x6_28 : Int64) =>
  if x6_28 = (0 : Int64) then (J53 x4_28) else (chk (ne0l x6_28) (self28 x6_28 (x4_28 - x4_28 / x6_28 * x6_28)))) 200 s12_0 s26_0) fun J26 =>
  if (0 : Int64) ≤ p1 then (J26 p1) else (J26 (-p1))) fun J12 =>
  if (0 : Int64) ≤ p0 then (J12 p0) else (J12 (-p0))
theorem hdX6_common : yX6_common.cls ≠ "java/lang/invoke/MethodHandle" ∧ yX6_common.cls ≠ "java/lang/invoke/VarHandle" ∧ (parseMethodDescriptor yX6_common.desc).map (fun d => d.parameters.length) = some 2 := by decide +kernel
set_option maxHeartbeats 4000000 in
set_option maxRecDepth 100000 in
theorem X6_common_ok {l : Launch} {D : va_G} {Y : Nat → ClassId}  {p0 : Int64} {p1 : Int64} {r : Int64} (h : X6_common p0 p1 = some r) : MR l yX6_common wsX6_common 0 0 D Y [.long p0, .long p1] ([]) (some (.long r)) := by
  refine MR_of (cc := cX6_common) (nL := 10) (ret := some .long) (lv0 := [(0, .long p0), (2, .long p1)]) (by decide) rfl (Nat.le_of_ble_eq_true rfl) rfl (fun X Q C hQ => ?_)
  unfold X6_common at h
  refine V_lload_n (pc := 0) C dX6_common_0 rfl 0 rfl ?_
  refine V_lconst (pc := 1) (v := 0) C dX6_common_1 rfl ?_
  refine V_lcmp (pc := 2) C dX6_common_2 ?_
  refine jn1_ok (P := (fun (s12_0 : Int64) => VW X D 10 Q (KR X) (0, 0) ([]) [(2, .long p1)] 12 [.long s12_0])) (fun s12_0 h => ?_) (fun J12 hJ12 h => ?_) h
  · refine V_lstore (pc := 12) (lv' := [(4, .long s12_0), (2, .long p1)]) C dX6_common_12 (Nat.le_of_ble_eq_true rfl) rfl ?_
    refine V_lload_n (pc := 14) C dX6_common_14 rfl 1 rfl ?_
    refine V_lconst (pc := 15) (v := 0) C dX6_common_15 rfl ?_
    refine V_lcmp (pc := 16) C dX6_common_16 ?_
    refine jn1_ok (P := (fun (s26_0 : Int64) => VW X D 10 Q (KR X) (0, 0) ([]) [(4, .long s12_0)] 26 [.long s26_0])) (fun s26_0 h => ?_) (fun J26 hJ26 h => ?_) h
    · refine V_lstore (pc := 26) (lv' := [(6, .long s26_0), (4, .long s12_0)]) C dX6_common_26 (Nat.le_of_ble_eq_true rfl) rfl ?_
      refine jn1_ok (P := (fun (x4_53 : Int64) => VW X D 10 Q (KR X) (0, 0) ([]) [(4, .long x4_53)] 53 [])) (fun x4_53 h => ?_) (fun J53 hJ53 h => ?_) h
      · refine V_lload (pc := 53) C dX6_common_53 0 rfl ?_
        cases h
        subst hQ
        exact V_lretR C dX6_common_55
      refine V_sub [1, 0] rfl (wh2_ok (P := (fun (x4_28 : Int64) (x6_28 : Int64) => VW X D 10 Q (KR X) (0, 0) ([]) [(4, .long x4_28), (6, .long x6_28)] 28 [])) (fun self28 ih28 x4_28 x6_28 h => ?_) 200 _ _ h)
      refine V_lload (pc := 28) C dX6_common_28 1 rfl ?_
      refine V_lconst (pc := 30) (v := 0) C dX6_common_30 rfl ?_
      refine V_lcmp (pc := 31) C dX6_common_31 ?_
      refine V_lif_eq (pc := 32) C 53 dX6_common_32 rfl (fun c32 => ?_) (fun c32 => ?_)
      · replace h := t_pos c32 h
        exact V_sub [0] rfl (hJ53 _ h)
      · replace h := t_neg c32 h
        refine V_lload (pc := 35) C dX6_common_35 0 rfl ?_
        refine V_lload (pc := 37) C dX6_common_37 1 rfl ?_
        obtain ⟨b39, h⟩ := chk_some h
        refine V_lrem (pc := 39) C dX6_common_39 (ne0l_n b39) ?_
        refine V_lstore (pc := 40) (lv' := [(8, .long (x4_28 - x4_28 / x6_28 * x6_28)), (4, .long x4_28), (6, .long x6_28)]) C dX6_common_40 (Nat.le_of_ble_eq_true rfl) rfl ?_
        refine V_lload (pc := 42) C dX6_common_42 2 rfl ?_
        refine V_lstore (pc := 44) (lv' := [(4, .long x6_28), (8, .long (x4_28 - x4_28 / x6_28 * x6_28)), (6, .long x6_28)]) C dX6_common_44 (Nat.le_of_ble_eq_true rfl) rfl ?_
        refine V_lload (pc := 46) C dX6_common_46 1 rfl ?_
        refine V_lstore (pc := 48) (lv' := [(6, .long (x4_28 - x4_28 / x6_28 * x6_28)), (4, .long x6_28), (8, .long (x4_28 - x4_28 / x6_28 * x6_28))]) C dX6_common_48 (Nat.le_of_ble_eq_true rfl) rfl ?_
        refine V_goto (pc := 50) C 28 dX6_common_50 rfl ?_
        exact V_sub [1, 0] rfl (ih28 _ _ h)
    refine V_lif_ge (pc := 17) C 25 dX6_common_17 rfl (fun c17 => ?_) (fun c17 => ?_)
    · replace h := t_pos c17 h
      refine V_lload_n (pc := 25) C dX6_common_25 rfl 1 rfl ?_
      exact V_sub [0] rfl (hJ26 _ h)
    · replace h := t_neg c17 h
      refine V_lload_n (pc := 20) C dX6_common_20 rfl 1 rfl ?_
      refine V_lneg (pc := 21) C dX6_common_21 ?_
      refine V_goto (pc := 22) C 26 dX6_common_22 rfl ?_
      exact V_sub [0] rfl (hJ26 _ h)
  refine V_lif_ge (pc := 3) C 11 dX6_common_3 rfl (fun c3 => ?_) (fun c3 => ?_)
  · replace h := t_pos c3 h
    refine V_lload_n (pc := 11) C dX6_common_11 rfl 0 rfl ?_
    exact V_sub [1] rfl (hJ12 _ h)
  · replace h := t_neg c3 h
    refine V_lload_n (pc := 6) C dX6_common_6 rfl 0 rfl ?_
    refine V_lneg (pc := 7) C dX6_common_7 ?_
    refine V_goto (pc := 8) C 12 dX6_common_8 rfl ?_
    exact V_sub [1] rfl (hJ12 _ h)
def X6_lowest (p0 : Int64) (p1 : Int64) (p2 : Int32) : Option (Int64) :=
  ob1 (X6_common p0 p1) fun r2 =>
  if p2 = 0 then (chk (ne0l r2) (some (p0 / r2))) else (chk (ne0l r2) (some (p1 / r2)))
theorem hdX6_lowest : yX6_lowest.cls ≠ "java/lang/invoke/MethodHandle" ∧ yX6_lowest.cls ≠ "java/lang/invoke/VarHandle" ∧ (parseMethodDescriptor yX6_lowest.desc).map (fun d => d.parameters.length) = some 3 := by decide +kernel
set_option maxHeartbeats 4000000 in
set_option maxRecDepth 100000 in
theorem X6_lowest_ok {l : Launch} {D : va_G} {Y : Nat → ClassId}  {p0 : Int64} {p1 : Int64} {p2 : Int32} {r : Int64} (h : X6_lowest p0 p1 p2 = some r) : MR l yX6_lowest wsX6_lowest 1 29 D Y [.long p0, .long p1, .int p2] ([]) (some (.long r)) := by
  refine MR_of (cc := cX6_lowest) (nL := 7) (ret := some .long) (lv0 := [(0, .long p0), (2, .long p1), (4, .int p2)]) (by decide) rfl (Nat.le_of_ble_eq_true rfl) rfl (fun X Q C hQ => ?_)
  unfold X6_lowest at h
  refine V_lload_n (pc := 0) C dX6_lowest_0 rfl 0 rfl ?_
  refine V_lload_n (pc := 1) C dX6_lowest_1 rfl 1 rfl ?_
  obtain ⟨r2, hq, h⟩ := ob1_some h
  refine V_callSR (pc := 2) (rest := []) (st2 := [.long r2]) C (X6_common_ok hq) gX6_lowest_X6_common rfl hdX6_common ⟨Nat.le_of_ble_eq_true rfl, Nat.le_of_ble_eq_true rfl⟩ ⟨Nat.le_refl _, Nat.le_refl _⟩ [] rfl rfl (Nat.le_of_ble_eq_true rfl) dX6_lowest_2 rfl ?_
  refine V_lstore (pc := 5) (lv' := [(5, .long r2), (0, .long p0), (2, .long p1), (4, .int p2)]) C dX6_lowest_5 (Nat.le_of_ble_eq_true rfl) rfl ?_
  refine V_iload (pc := 7) C dX6_lowest_7 3 rfl ?_
  refine V_if_ne (pc := 9) C 19 dX6_lowest_9 rfl (fun c9 => ?_) (fun c9 => ?_)
  · replace h := t_neg c9 h
    refine V_lload_n (pc := 19) C dX6_lowest_19 rfl 2 rfl ?_
    refine V_lload (pc := 20) C dX6_lowest_20 0 rfl ?_
    obtain ⟨b22, h⟩ := chk_some h
    refine V_ldiv (pc := 22) C dX6_lowest_22 (ne0l_n b22) ?_
    cases h
    subst hQ
    exact V_lretR C dX6_lowest_23
  · replace h := t_pos c9 h
    refine V_lload_n (pc := 12) C dX6_lowest_12 rfl 1 rfl ?_
    refine V_lload (pc := 13) C dX6_lowest_13 0 rfl ?_
    obtain ⟨b15, h⟩ := chk_some h
    refine V_ldiv (pc := 15) C dX6_lowest_15 (ne0l_n b15) ?_
    refine V_goto (pc := 16) C 23 dX6_lowest_16 rfl ?_
    cases h
    subst hQ
    exact V_lretR C dX6_lowest_23
def X6_other (I : Nat → Int32) (A : Nat → Nat → Int32) (F : Nat → Int64) (L : Nat → Nat → Int64) (p0 : Int32) (p1 : Int32) (p2 : Int32) (p3 : Int32) : Option (Int32) :=
  ob1 (X6_isUnitThere I A F L p0) fun r2 =>
  if r2 = 0 then (some (-1000002 : Int32)) else (ob1 (X6_within p1 (1 : Int32) (4 : Int32)) fun r14 =>
  if r14 = 0 then (some (-1000003 : Int32)) else (ob1 (X6_within p2 (0 : Int32) (20 : Int32)) fun r24 =>
  if r24 = 0 then (some (-1000003 : Int32)) else (ob1 (X6_within p3 (0 : Int32) (1 : Int32)) fun r34 =>
  if r34 = 0 then (some (-1000003 : Int32)) else (ob1 (X6_sumAt I A F L p0 p2) fun r46 =>
  ob1 (X6_sumAt I A F L p0 (p2 - p1)) fun r54 =>
  chk (inB p0 4) (ob1 (X6_lowest ((Int32.toInt64 (r46 - r54)) * (Int32.toInt64 ((A 8) (Int32.toNatClampNeg p0)))) (Int32.toInt64 p1) p3) fun r71 =>
  some (Int64.toInt32 r71))))))
theorem wX6_other_k0 : Cond.constant RX6 63 (-1000003) ∈ wsX6_other := by decide +kernel
theorem wX6_other_k1 : Cond.fieldLink RX6 25 (TX6 8).1 (TX6 8).2.1 (TX6 8).2.2.1 ∈ wsX6_other := by decide +kernel
theorem hiX6_other_6 : ∀ w ∈ u_ws RX6 TX6 33, w ∈ wsX6_other := fun _ h => List.mem_cons_of_mem _ (List.mem_append_right _ h)
theorem wX6_other_k3 : Cond.constant RX6 136 (-1000002) ∈ wsX6_other := by decide +kernel
theorem hdX6_other : yX6_other.cls ≠ "java/lang/invoke/MethodHandle" ∧ yX6_other.cls ≠ "java/lang/invoke/VarHandle" ∧ (parseMethodDescriptor yX6_other.desc).map (fun d => d.parameters.length) = some 4 := by decide +kernel
set_option maxHeartbeats 4000000 in
set_option maxRecDepth 100000 in
theorem X6_other_ok {l : Launch} {D : va_G} {Y : Nat → ClassId} {a : Nat → Nat} {I : Nat → Int32} {A : Nat → Nat → Int32} {F : Nat → Int64} {L : Nat → Nat → Int64} {p0 : Int32} {p1 : Int32} {p2 : Int32} {p3 : Int32} {r : Int32} (h : X6_other I A F L p0 p1 p2 p3 = some r) : MR l yX6_other wsX6_other 3 68 D Y [.ref (a 0), .int p0, .int p1, .int p2, .int p3] (wM Y a I A F L) (some (.int r)) := by
  refine MR_of (cc := cX6_other) (nL := 5) (ret := some .int) (lv0 := [(0, .ref (a 0)), (1, .int p0), (2, .int p1), (3, .int p2), (4, .int p3)]) (by decide) rfl (Nat.le_of_ble_eq_true rfl) rfl (fun X Q C hQ => ?_)
  unfold X6_other at h
  refine V_aload_n (pc := 0) C dX6_other_0 rfl 0 rfl ?_
  refine V_iload_n (pc := 1) C dX6_other_1 rfl 1 rfl ?_
  obtain ⟨r2, hq, h⟩ := ob1_some h
  refine V_callVR0 (pc := 2) (rest := []) (st2 := [.int r2]) C (X6_isUnitThere_ok (a := a) hq) gX6_other_X6_isUnitThere rfl ⟨rfl, hdX6_isUnitThere⟩ ⟨Nat.le_of_ble_eq_true rfl, Nat.le_of_ble_eq_true rfl⟩ ⟨Nat.le_refl _, Nat.le_refl _⟩ 0 6 rfl rfl rfl (Nat.le_of_ble_eq_true rfl) dX6_other_2 rfl ?_
  refine V_if_ne (pc := 5) C 11 dX6_other_5 rfl (fun c5 => ?_) (fun c5 => ?_)
  · replace h := t_neg c5 h
    refine V_iload_n (pc := 11) C dX6_other_11 rfl 2 rfl ?_
    refine V_iconst (pc := 12) (v := 1) C dX6_other_12 rfl ?_
    refine V_iconst (pc := 13) (v := 4) C dX6_other_13 rfl ?_
    obtain ⟨r14, hq, h⟩ := ob1_some h
    refine V_callSR (pc := 14) (rest := []) (st2 := [.int r14]) C (X6_within_ok hq) gX6_other_X6_within rfl hdX6_within ⟨Nat.le_of_ble_eq_true rfl, Nat.le_of_ble_eq_true rfl⟩ ⟨Nat.le_refl _, Nat.le_refl _⟩ [] rfl rfl (Nat.le_of_ble_eq_true rfl) dX6_other_14 rfl ?_
    refine V_if_eq (pc := 17) C 40 dX6_other_17 rfl (fun c17 => ?_) (fun c17 => ?_)
    · replace h := t_pos c17 h
      refine V_ldc (pc := 40) (v := -1000003) C dX6_other_40 wX6_other_k0 ?_
      cases h
      subst hQ
      exact V_iretR C dX6_other_42
    · replace h := t_neg c17 h
      refine V_iload_n (pc := 20) C dX6_other_20 rfl 3 rfl ?_
      refine V_iconst (pc := 21) (v := 0) C dX6_other_21 rfl ?_
      refine V_bipush (pc := 22) (v := 20) C dX6_other_22 rfl ?_
      obtain ⟨r24, hq, h⟩ := ob1_some h
      refine V_callSR (pc := 24) (rest := []) (st2 := [.int r24]) C (X6_within_ok hq) gX6_other_X6_within rfl hdX6_within ⟨Nat.le_of_ble_eq_true rfl, Nat.le_of_ble_eq_true rfl⟩ ⟨Nat.le_refl _, Nat.le_refl _⟩ [] rfl rfl (Nat.le_of_ble_eq_true rfl) dX6_other_24 rfl ?_
      refine V_if_eq (pc := 27) C 40 dX6_other_27 rfl (fun c27 => ?_) (fun c27 => ?_)
      · replace h := t_pos c27 h
        refine V_ldc (pc := 40) (v := -1000003) C dX6_other_40 wX6_other_k0 ?_
        cases h
        subst hQ
        exact V_iretR C dX6_other_42
      · replace h := t_neg c27 h
        refine V_iload (pc := 30) C dX6_other_30 4 rfl ?_
        refine V_iconst (pc := 32) (v := 0) C dX6_other_32 rfl ?_
        refine V_iconst (pc := 33) (v := 1) C dX6_other_33 rfl ?_
        obtain ⟨r34, hq, h⟩ := ob1_some h
        refine V_callSR (pc := 34) (rest := []) (st2 := [.int r34]) C (X6_within_ok hq) gX6_other_X6_within rfl hdX6_within ⟨Nat.le_of_ble_eq_true rfl, Nat.le_of_ble_eq_true rfl⟩ ⟨Nat.le_refl _, Nat.le_refl _⟩ [] rfl rfl (Nat.le_of_ble_eq_true rfl) dX6_other_34 rfl ?_
        refine V_if_ne (pc := 37) C 43 dX6_other_37 rfl (fun c37 => ?_) (fun c37 => ?_)
        · replace h := t_neg c37 h
          refine V_aload_n (pc := 43) C dX6_other_43 rfl 0 rfl ?_
          refine V_iload_n (pc := 44) C dX6_other_44 rfl 1 rfl ?_
          refine V_iload_n (pc := 45) C dX6_other_45 rfl 3 rfl ?_
          obtain ⟨r46, hq, h⟩ := ob1_some h
          refine V_callVR0 (pc := 46) (rest := []) (st2 := [.int r46]) C (X6_sumAt_ok (a := a) hq) gX6_other_X6_sumAt rfl ⟨rfl, hdX6_sumAt⟩ ⟨Nat.le_of_ble_eq_true rfl, Nat.le_of_ble_eq_true rfl⟩ ⟨Nat.le_refl _, Nat.le_refl _⟩ 0 6 rfl rfl rfl (Nat.le_of_ble_eq_true rfl) dX6_other_46 rfl ?_
          refine V_aload_n (pc := 49) C dX6_other_49 rfl 0 rfl ?_
          refine V_iload_n (pc := 50) C dX6_other_50 rfl 1 rfl ?_
          refine V_iload_n (pc := 51) C dX6_other_51 rfl 3 rfl ?_
          refine V_iload_n (pc := 52) C dX6_other_52 rfl 2 rfl ?_
          refine V_isub (pc := 53) C dX6_other_53 ?_
          obtain ⟨r54, hq, h⟩ := ob1_some h
          refine V_callVR0 (pc := 54) (rest := [.int r46]) (st2 := [.int r54, .int r46]) C (X6_sumAt_ok (a := a) hq) gX6_other_X6_sumAt rfl ⟨rfl, hdX6_sumAt⟩ ⟨Nat.le_of_ble_eq_true rfl, Nat.le_of_ble_eq_true rfl⟩ ⟨Nat.le_refl _, Nat.le_refl _⟩ 0 6 rfl rfl rfl (Nat.le_of_ble_eq_true rfl) dX6_other_54 rfl ?_
          refine V_isub (pc := 57) C dX6_other_57 ?_
          refine V_i2l (pc := 58) C dX6_other_58 ?_
          refine V_aload_n (pc := 59) C dX6_other_59 rfl 0 rfl ?_
          refine V_get (pc := 60) (v := .ref (a 6)) C 0 6 8 hiX6_other_6 rfl rfl (by decide) wX6_other_k1 rfl dX6_other_60 ?_
          refine V_iload_n (pc := 63) C dX6_other_63 rfl 1 rfl ?_
          obtain ⟨b64, h⟩ := chk_some h
          refine V_iald (pc := 64) C 6 rfl b64 dX6_other_64 ?_
          refine V_i2l (pc := 65) C dX6_other_65 ?_
          refine V_lmul (pc := 66) C dX6_other_66 ?_
          refine V_iload_n (pc := 67) C dX6_other_67 rfl 2 rfl ?_
          refine V_i2l (pc := 68) C dX6_other_68 ?_
          refine V_iload (pc := 69) C dX6_other_69 4 rfl ?_
          obtain ⟨r71, hq, h⟩ := ob1_some h
          refine V_callSR (pc := 71) (rest := []) (st2 := [.long r71]) C (X6_lowest_ok hq) gX6_other_X6_lowest rfl hdX6_lowest ⟨Nat.le_of_ble_eq_true rfl, Nat.le_of_ble_eq_true rfl⟩ ⟨Nat.le_refl _, Nat.le_refl _⟩ [] rfl rfl (Nat.le_of_ble_eq_true rfl) dX6_other_71 rfl ?_
          refine V_l2i (pc := 74) C dX6_other_74 ?_
          cases h
          subst hQ
          exact V_iretR C dX6_other_75
        · replace h := t_pos c37 h
          refine V_ldc (pc := 40) (v := -1000003) C dX6_other_40 wX6_other_k0 ?_
          cases h
          subst hQ
          exact V_iretR C dX6_other_42
  · replace h := t_pos c5 h
    refine V_ldc (pc := 8) (v := -1000002) C dX6_other_8 wX6_other_k3 ?_
    cases h
    subst hQ
    exact V_iretR C dX6_other_10
