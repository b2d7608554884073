def X5_with (p0 : Int64) (p1 : Int64) : Option (Int64) :=
  some (((31 : Int64) * p0) + p1)
theorem wX5_with_k0 : Cond.constantLong RX5 208 (31) ∈ wsX5_with := by decide +kernel
theorem hdX5_with : yX5_with.cls ≠ "java/lang/invoke/MethodHandle" ∧ yX5_with.cls ≠ "java/lang/invoke/VarHandle" ∧ (parseMethodDescriptor yX5_with.desc).map (fun d => d.parameters.length) = some 2 := by decide +kernel
set_option maxHeartbeats 4000000 in
set_option maxRecDepth 100000 in
theorem X5_with_ok {l : Launch} {D : va_G} {Y : Nat → ClassId}  {p0 : Int64} {p1 : Int64} {r : Int64} (h : X5_with p0 p1 = some r) : MR l yX5_with wsX5_with 0 0 D Y [.long p0, .long p1] ([]) (some (.long r)) := by
  refine MR_of (cc := cX5_with) (nL := 4) (ret := some .long) (lv0 := [(0, .long p0), (2, .long p1)]) (by decide) rfl (Nat.le_of_ble_eq_true rfl) rfl (fun X Q C hQ => ?_)
  unfold X5_with at h
  refine V_ldc2 (pc := 0) (v := 31) C dX5_with_0 wX5_with_k0 ?_
  refine V_lload_n (pc := 3) C dX5_with_3 rfl 0 rfl ?_
  refine V_lmul (pc := 4) C dX5_with_4 ?_
  refine V_lload_n (pc := 5) C dX5_with_5 rfl 1 rfl ?_
  refine V_ladd (pc := 6) C dX5_with_6 ?_
  cases h
  subst hQ
  exact V_lretR C dX5_with_7
def X5_withFraction (p0 : Int64) (p1 : Int64) (p2 : Int64) : Option (Int64) :=
  ob1 (X5_inLowestTerms p1 p2 (0 : Int32)) fun r5 =>
  ob1 (X5_with p0 r5) fun r8 =>
  ob1 (X5_inLowestTerms p1 p2 (1 : Int32)) fun r19 =>
  ob1 (X5_with r8 r19) fun r22 =>
  some r22
theorem hdX5_withFraction : yX5_withFraction.cls ≠ "java/lang/invoke/MethodHandle" ∧ yX5_withFraction.cls ≠ "java/lang/invoke/VarHandle" ∧ (parseMethodDescriptor yX5_withFraction.desc).map (fun d => d.parameters.length) = some 3 := by decide +kernel
set_option maxHeartbeats 4000000 in
set_option maxRecDepth 100000 in
theorem X5_withFraction_ok {l : Launch} {D : va_G} {Y : Nat → ClassId}  {p0 : Int64} {p1 : Int64} {p2 : Int64} {r : Int64} (h : X5_withFraction p0 p1 p2 = some r) : MR l yX5_withFraction wsX5_withFraction 3 77 D Y [.long p0, .long p1, .long p2] ([]) (some (.long r)) := by
  refine MR_of (cc := cX5_withFraction) (nL := 8) (ret := some .long) (lv0 := [(0, .long p0), (2, .long p1), (4, .long p2)]) (by decide) rfl (Nat.le_of_ble_eq_true rfl) rfl (fun X Q C hQ => ?_)
  unfold X5_withFraction at h
  refine V_lload_n (pc := 0) C dX5_withFraction_0 rfl 0 rfl ?_
  refine V_lload_n (pc := 1) C dX5_withFraction_1 rfl 1 rfl ?_
  refine V_lload (pc := 2) C dX5_withFraction_2 2 rfl ?_
  refine V_iconst (pc := 4) (v := 0) C dX5_withFraction_4 rfl ?_
  obtain ⟨r5, hq, h⟩ := ob1_some h
  refine V_callSR (pc := 5) (rest := [.long p0]) (st2 := [.long r5, .long p0]) C (X5_inLowestTerms_ok hq) gX5_withFraction_X5_inLowestTerms rfl hdX5_inLowestTerms ⟨Nat.le_of_ble_eq_true rfl, Nat.le_of_ble_eq_true rfl⟩ ⟨Nat.le_refl _, Nat.le_refl _⟩ [] rfl rfl (Nat.le_of_ble_eq_true rfl) dX5_withFraction_5 rfl ?_
  obtain ⟨r8, hq, h⟩ := ob1_some h
  refine V_callSR (pc := 8) (rest := []) (st2 := [.long r8]) C (X5_with_ok hq) gX5_withFraction_X5_with rfl hdX5_with ⟨Nat.le_of_ble_eq_true rfl, Nat.le_of_ble_eq_true rfl⟩ ⟨Nat.le_refl _, Nat.le_refl _⟩ [] rfl rfl (Nat.le_of_ble_eq_true rfl) dX5_withFraction_8 rfl ?_
  refine V_lstore (pc := 11) (lv' := [(6, .long r8), (0, .long p0), (2, .long p1), (4, .long p2)]) C dX5_withFraction_11 (Nat.le_of_ble_eq_true rfl) rfl ?_
  refine V_lload (pc := 13) C dX5_withFraction_13 0 rfl ?_
  refine V_lload_n (pc := 15) C dX5_withFraction_15 rfl 2 rfl ?_
  refine V_lload (pc := 16) C dX5_withFraction_16 3 rfl ?_
  refine V_iconst (pc := 18) (v := 1) C dX5_withFraction_18 rfl ?_
  obtain ⟨r19, hq, h⟩ := ob1_some h
  refine V_callSR (pc := 19) (rest := [.long r8]) (st2 := [.long r19, .long r8]) C (X5_inLowestTerms_ok hq) gX5_withFraction_X5_inLowestTerms rfl hdX5_inLowestTerms ⟨Nat.le_of_ble_eq_true rfl, Nat.le_of_ble_eq_true rfl⟩ ⟨Nat.le_refl _, Nat.le_refl _⟩ [] rfl rfl (Nat.le_of_ble_eq_true rfl) dX5_withFraction_19 rfl ?_
  obtain ⟨r22, hq, h⟩ := ob1_some h
  refine V_callSR (pc := 22) (rest := []) (st2 := [.long r22]) C (X5_with_ok hq) gX5_withFraction_X5_with rfl hdX5_with ⟨Nat.le_of_ble_eq_true rfl, Nat.le_of_ble_eq_true rfl⟩ ⟨Nat.le_refl _, Nat.le_refl _⟩ [] rfl rfl (Nat.le_of_ble_eq_true rfl) dX5_withFraction_22 rfl ?_
  cases h
  subst hQ
  exact V_lretR C dX5_withFraction_25
def X5_withFit (a : Nat → Nat) (q : Nat → Int32) (pg : Nat → Int32) (gS : Nat → Option Nat) (gU : Nat → Option Nat) (rd : RdT) (ft : FtT) (S : Nat → StT) (U : Nat → UnT) (p0 : Int64) (p1 : Int32) : Option (Int64) :=
  jn1 (fun (x4_41 : Int64) => ob1 (X0_lossAbove ft.1 ft.2.1 ft.2.2.1 ft.2.2.2.1 ft.2.2.2.2.1 ft.2.2.2.2.2.1 ft.2.2.2.2.2.2.1 ft.2.2.2.2.2.2.2) fun r47 =>
  ob1 (X0_below ft.1 ft.2.1 ft.2.2.1 ft.2.2.2.1 ft.2.2.2.2.1 ft.2.2.2.2.2.1 ft.2.2.2.2.2.2.1 ft.2.2.2.2.2.2.2) fun r54 =>
  ob1 (X5_withFraction x4_41 r47 r54) fun r57 =>
  some r57) fun J41 =>
  wh2 (fun self6 (x4_6 : Int64) (x6_6 : Int32) =>
  if p1 ≤ x6_6 then (J41 x4_6) else (ob1 (X0_partAbove ft.1 ft.2.1 ft.2.2.1 ft.2.2.2.1 ft.2.2.2.2.1 ft.2.2.2.2.2.1 ft.2.2.2.2.2.2.1 ft.2.2.2.2.2.2.2 x6_6) fun r20 =>
  ob1 (X0_below ft.1 ft.2.1 ft.2.2.1 ft.2.2.2.1 ft.2.2.2.2.1 ft.2.2.2.2.2.1 ft.2.2.2.2.2.2.1 ft.2.2.2.2.2.2.2) fun r27 =>
  ob1 (X5_withFraction x4_6 r20 r27) fun r30 =>
  self6 r30 (x6_6 + 1))) 200 p0 (0 : Int32)
theorem wX5_withFit_k0 : Cond.fieldLink RX5 35 (TX5 4).1 (TX5 4).2.1 (TX5 4).2.2.1 ∈ wsX5_withFit := by decide +kernel
theorem hiX5_withFit_5 : ∀ w ∈ u_ws RX5 TX5 11, w ∈ wsX5_withFit := fun _ h => List.mem_cons_of_mem _ (List.mem_append_left _ (List.mem_append_right _ h))
theorem hdX5_withFit : yX5_withFit.cls ≠ "java/lang/invoke/MethodHandle" ∧ yX5_withFit.cls ≠ "java/lang/invoke/VarHandle" ∧ (parseMethodDescriptor yX5_withFit.desc).map (fun d => d.parameters.length) = some 2 := by decide +kernel
set_option maxHeartbeats 4000000 in
set_option maxRecDepth 100000 in
theorem X5_withFit_ok {l : Launch} {D : va_G} {Y : Nat → ClassId}  {a : Nat → Nat} {q : Nat → Int32} {pg : Nat → Int32} {gS : Nat → Option Nat} {gU : Nat → Option Nat} {rd : RdT} {ft : FtT} {S : Nat → StT} {U : Nat → UnT} {p0 : Int64} {p1 : Int32} {r : Int64} (h : X5_withFit a q pg gS gU rd ft S U p0 p1 = some r) : MR l yX5_withFit wsX5_withFit 4 104 D Y [.ref (a 0), .long p0, .int p1] (wOff Y a q pg gS gU rd ft S U) (some (.long r)) := by
  refine MR_of (cc := cX5_withFit) (nL := 7) (ret := some .long) (lv0 := [(0, .ref (a 0)), (1, .long p0), (3, .int p1)]) (by decide) rfl (Nat.le_of_ble_eq_true rfl) rfl (fun X Q C hQ => ?_)
  unfold X5_withFit at h
  refine V_lload_n (pc := 0) C dX5_withFit_0 rfl 1 rfl ?_
  refine V_lstore (pc := 1) (lv' := [(4, .long p0), (0, .ref (a 0)), (1, .long p0), (3, .int p1)]) C dX5_withFit_1 (Nat.le_of_ble_eq_true rfl) rfl ?_
  refine V_iconst (pc := 3) (v := 0) C dX5_withFit_3 rfl ?_
  refine V_istore (pc := 4) (lv' := [(6, .int (0 : Int32)), (4, .long p0), (0, .ref (a 0)), (1, .long p0), (3, .int p1)]) C dX5_withFit_4 (Nat.le_of_ble_eq_true rfl) rfl ?_
  refine jn1_ok (P := (fun (x4_41 : Int64) => VW X D 7 Q (KR X) (0, 0) (wOff Y a q pg gS gU rd ft S U) [(0, .ref (a 0)), (4, .long x4_41)] 41 [])) (fun x4_41 h => ?_) (fun J41 hJ41 h => ?_) h
  · refine V_lload (pc := 41) C dX5_withFit_41 1 rfl ?_
    refine V_aload_n (pc := 43) C dX5_withFit_43 rfl 0 rfl ?_
    refine V_get (pc := 44) (v := .ref (a 9)) C 0 5 4 hiX5_withFit_5 rfl rfl (by decide) wX5_withFit_k0 rfl dX5_withFit_44 ?_
    obtain ⟨r47, hq, h⟩ := ob1_some h
    refine V_callVR (pc := 47) (rest := [.long x4_41]) (st2 := [.long r47, .long x4_41]) C (X0_lossAbove_ok (a := (sh a 9)) hq) gX5_withFit_X0_lossAbove rfl ⟨rfl, hdX0_lossAbove⟩ ⟨Nat.le_of_ble_eq_true rfl, Nat.le_of_ble_eq_true rfl⟩ ⟨Nat.le_refl _, Nat.le_refl _⟩ [9, 10, 11, 12, 13, 14] rfl 9 0 rfl rfl rfl (Nat.le_of_ble_eq_true rfl) dX5_withFit_47 rfl ?_
    refine V_aload_n (pc := 50) C dX5_withFit_50 rfl 0 rfl ?_
    refine V_get (pc := 51) (v := .ref (a 9)) C 0 5 4 hiX5_withFit_5 rfl rfl (by decide) wX5_withFit_k0 rfl dX5_withFit_51 ?_
    obtain ⟨r54, hq, h⟩ := ob1_some h
    refine V_callVR (pc := 54) (rest := [.long r47, .long x4_41]) (st2 := [.long r54, .long r47, .long x4_41]) C (X0_below_ok (a := (sh a 9)) hq) gX5_withFit_X0_below rfl ⟨rfl, hdX0_below⟩ ⟨Nat.le_of_ble_eq_true rfl, Nat.le_of_ble_eq_true rfl⟩ ⟨Nat.le_refl _, Nat.le_refl _⟩ [9, 10, 11, 12, 13, 14] rfl 9 0 rfl rfl rfl (Nat.le_of_ble_eq_true rfl) dX5_withFit_54 rfl ?_
    obtain ⟨r57, hq, h⟩ := ob1_some h
    refine V_callSR (pc := 57) (rest := []) (st2 := [.long r57]) C (X5_withFraction_ok hq) gX5_withFit_X5_withFraction rfl hdX5_withFraction ⟨Nat.le_of_ble_eq_true rfl, Nat.le_of_ble_eq_true rfl⟩ ⟨Nat.le_refl _, Nat.le_refl _⟩ [] rfl rfl (Nat.le_of_ble_eq_true rfl) dX5_withFit_57 rfl ?_
    cases h
    subst hQ
    exact V_lretR C dX5_withFit_60
  refine V_sub [2, 4, 1, 0] rfl (wh2_ok (P := (fun (x4_6 : Int64) (x6_6 : Int32) => VW X D 7 Q (KR X) (0, 0) (wOff Y a q pg gS gU rd ft S U) [(0, .ref (a 0)), (3, .int p1), (4, .long x4_6), (6, .int x6_6)] 6 [])) (fun self6 ih6 x4_6 x6_6 h => ?_) 200 _ _ h)
  refine V_iload (pc := 6) C dX5_withFit_6 3 rfl ?_
  refine V_iload_n (pc := 8) C dX5_withFit_8 rfl 1 rfl ?_
  refine V_icmp_ge (pc := 9) C 41 dX5_withFit_9 rfl (fun c9 => ?_) (fun c9 => ?_)
  · replace h := t_pos c9 h
    exact V_sub [0, 2] rfl (hJ41 _ h)
  · replace h := t_neg c9 h
    refine V_lload (pc := 12) C dX5_withFit_12 2 rfl ?_
    refine V_aload_n (pc := 14) C dX5_withFit_14 rfl 0 rfl ?_
    refine V_get (pc := 15) (v := .ref (a 9)) C 0 5 4 hiX5_withFit_5 rfl rfl (by decide) wX5_withFit_k0 rfl dX5_withFit_15 ?_
    refine V_iload (pc := 18) C dX5_withFit_18 3 rfl ?_
    obtain ⟨r20, hq, h⟩ := ob1_some h
    refine V_callVR (pc := 20) (rest := [.long x4_6]) (st2 := [.long r20, .long x4_6]) C (X0_partAbove_ok (a := (sh a 9)) hq) gX5_withFit_X0_partAbove rfl ⟨rfl, hdX0_partAbove⟩ ⟨Nat.le_of_ble_eq_true rfl, Nat.le_of_ble_eq_true rfl⟩ ⟨Nat.le_refl _, Nat.le_refl _⟩ [9, 10, 11, 12, 13, 14] rfl 9 0 rfl rfl rfl (Nat.le_of_ble_eq_true rfl) dX5_withFit_20 rfl ?_
    refine V_aload_n (pc := 23) C dX5_withFit_23 rfl 0 rfl ?_
    refine V_get (pc := 24) (v := .ref (a 9)) C 0 5 4 hiX5_withFit_5 rfl rfl (by decide) wX5_withFit_k0 rfl dX5_withFit_24 ?_
    obtain ⟨r27, hq, h⟩ := ob1_some h
    refine V_callVR (pc := 27) (rest := [.long r20, .long x4_6]) (st2 := [.long r27, .long r20, .long x4_6]) C (X0_below_ok (a := (sh a 9)) hq) gX5_withFit_X0_below rfl ⟨rfl, hdX0_below⟩ ⟨Nat.le_of_ble_eq_true rfl, Nat.le_of_ble_eq_true rfl⟩ ⟨Nat.le_refl _, Nat.le_refl _⟩ [9, 10, 11, 12, 13, 14] rfl 9 0 rfl rfl rfl (Nat.le_of_ble_eq_true rfl) dX5_withFit_27 rfl ?_
    obtain ⟨r30, hq, h⟩ := ob1_some h
    refine V_callSR (pc := 30) (rest := []) (st2 := [.long r30]) C (X5_withFraction_ok hq) gX5_withFit_X5_withFraction rfl hdX5_withFraction ⟨Nat.le_of_ble_eq_true rfl, Nat.le_of_ble_eq_true rfl⟩ ⟨Nat.le_refl _, Nat.le_refl _⟩ [] rfl rfl (Nat.le_of_ble_eq_true rfl) dX5_withFit_30 rfl ?_
    refine V_lstore (pc := 33) (lv' := [(4, .long r30), (0, .ref (a 0)), (3, .int p1), (6, .int x6_6)]) C dX5_withFit_33 (Nat.le_of_ble_eq_true rfl) rfl ?_
    refine V_iinc (pc := 35) (v := (x6_6 + 1)) (lv' := [(6, .int (x6_6 + 1)), (4, .long r30), (0, .ref (a 0)), (3, .int p1)]) C dX5_withFit_35 3 rfl rfl (Nat.le_of_ble_eq_true rfl) rfl ?_
    refine V_goto (pc := 38) C 6 dX5_withFit_38 rfl ?_
    exact V_sub [2, 3, 1, 0] rfl (ih6 _ _ h)
def X5_withUnit (a : Nat → Nat) (q : Nat → Int32) (pg : Nat → Int32) (gS : Nat → Option Nat) (gU : Nat → Option Nat) (rd : RdT) (ft : FtT) (S : Nat → StT) (U : Nat → UnT) (p0 : Int64) (p1 : Int32) : Option (Int64) :=
  jn1 (fun (x4_33 : Int64) => jn1 (fun (x4_67 : Int64) => some x4_67) fun J67 =>
  wh2 (fun self36 (x4_36 : Int64) (x6_36 : Int32) =>
  if (8 : Int32) ≤ x6_36 then (J67 x4_36) else (ob1 (X5_unit a q pg gS gU rd ft S U p1 ((10 : Int32) + x6_36)) fun r52 =>
  ob1 (X5_with x4_36 (Int32.toInt64 r52)) fun r56 =>
  self36 r56 (x6_36 + 1))) 200 x4_33 (0 : Int32)) fun J33 =>
  wh2 (fun self6 (x4_6 : Int64) (x6_6 : Int32) =>
  if (2 : Int32) < x6_6 then (J33 x4_6) else (ob1 (X5_unit a q pg gS gU rd ft S U p1 x6_6) fun r18 =>
  ob1 (X5_with x4_6 (Int32.toInt64 r18)) fun r22 =>
  self6 r22 (x6_6 + 1))) 200 p0 (0 : Int32)
theorem hdX5_withUnit : yX5_withUnit.cls ≠ "java/lang/invoke/MethodHandle" ∧ yX5_withUnit.cls ≠ "java/lang/invoke/VarHandle" ∧ (parseMethodDescriptor yX5_withUnit.desc).map (fun d => d.parameters.length) = some 2 := by decide +kernel
set_option maxHeartbeats 4000000 in
set_option maxRecDepth 100000 in
theorem X5_withUnit_ok {l : Launch} {D : va_G} {Y : Nat → ClassId}  {a : Nat → Nat} {q : Nat → Int32} {pg : Nat → Int32} {gS : Nat → Option Nat} {gU : Nat → Option Nat} {rd : RdT} {ft : FtT} {S : Nat → StT} {U : Nat → UnT} {p0 : Int64} {p1 : Int32} {r : Int64} (h : X5_withUnit a q pg gS gU rd ft S U p0 p1 = some r) : MR l yX5_withUnit wsX5_withUnit 3 66 D Y [.ref (a 0), .long p0, .int p1] (wOff Y a q pg gS gU rd ft S U) (some (.long r)) := by
  refine MR_of (cc := cX5_withUnit) (nL := 7) (ret := some .long) (lv0 := [(0, .ref (a 0)), (1, .long p0), (3, .int p1)]) (by decide) rfl (Nat.le_of_ble_eq_true rfl) rfl (fun X Q C hQ => ?_)
  unfold X5_withUnit at h
  refine V_lload_n (pc := 0) C dX5_withUnit_0 rfl 1 rfl ?_
  refine V_lstore (pc := 1) (lv' := [(4, .long p0), (0, .ref (a 0)), (1, .long p0), (3, .int p1)]) C dX5_withUnit_1 (Nat.le_of_ble_eq_true rfl) rfl ?_
  refine V_iconst (pc := 3) (v := 0) C dX5_withUnit_3 rfl ?_
  refine V_istore (pc := 4) (lv' := [(6, .int (0 : Int32)), (4, .long p0), (0, .ref (a 0)), (1, .long p0), (3, .int p1)]) C dX5_withUnit_4 (Nat.le_of_ble_eq_true rfl) rfl ?_
  refine jn1_ok (P := (fun (x4_33 : Int64) => VW X D 7 Q (KR X) (0, 0) (wOff Y a q pg gS gU rd ft S U) [(0, .ref (a 0)), (3, .int p1), (4, .long x4_33)] 33 [])) (fun x4_33 h => ?_) (fun J33 hJ33 h => ?_) h
  · refine V_iconst (pc := 33) (v := 0) C dX5_withUnit_33 rfl ?_
    refine V_istore (pc := 34) (lv' := [(6, .int (0 : Int32)), (0, .ref (a 0)), (3, .int p1), (4, .long x4_33)]) C dX5_withUnit_34 (Nat.le_of_ble_eq_true rfl) rfl ?_
    refine jn1_ok (P := (fun (x4_67 : Int64) => VW X D 7 Q (KR X) (0, 0) (wOff Y a q pg gS gU rd ft S U) [(4, .long x4_67)] 67 [])) (fun x4_67 h => ?_) (fun J67 hJ67 h => ?_) h
    · refine V_lload (pc := 67) C dX5_withUnit_67 0 rfl ?_
      cases h
      subst hQ
      exact V_lretR C dX5_withUnit_69
    refine V_sub [1, 2, 3, 0] rfl (wh2_ok (P := (fun (x4_36 : Int64) (x6_36 : Int32) => VW X D 7 Q (KR X) (0, 0) (wOff Y a q pg gS gU rd ft S U) [(0, .ref (a 0)), (3, .int p1), (4, .long x4_36), (6, .int x6_36)] 36 [])) (fun self36 ih36 x4_36 x6_36 h => ?_) 200 _ _ h)
    refine V_iload (pc := 36) C dX5_withUnit_36 3 rfl ?_
    refine V_bipush (pc := 38) (v := 8) C dX5_withUnit_38 rfl ?_
    refine V_icmp_ge (pc := 40) C 67 dX5_withUnit_40 rfl (fun c40 => ?_) (fun c40 => ?_)
    · replace h := t_pos c40 h
      exact V_sub [2] rfl (hJ67 _ h)
    · replace h := t_neg c40 h
      refine V_lload (pc := 43) C dX5_withUnit_43 2 rfl ?_
      refine V_aload_n (pc := 45) C dX5_withUnit_45 rfl 0 rfl ?_
      refine V_iload_n (pc := 46) C dX5_withUnit_46 rfl 1 rfl ?_
      refine V_bipush (pc := 47) (v := 10) C dX5_withUnit_47 rfl ?_
      refine V_iload (pc := 49) C dX5_withUnit_49 3 rfl ?_
      refine V_iadd (pc := 51) C dX5_withUnit_51 ?_
      obtain ⟨r52, hq, h⟩ := ob1_some h
      refine V_callVR0 (pc := 52) (rest := [.long x4_36]) (st2 := [.int r52, .long x4_36]) C (X5_unit_ok (a := a) hq) gX5_withUnit_X5_unit rfl ⟨rfl, hdX5_unit⟩ ⟨Nat.le_of_ble_eq_true rfl, Nat.le_of_ble_eq_true rfl⟩ ⟨Nat.le_refl _, Nat.le_refl _⟩ 0 5 rfl rfl rfl (Nat.le_of_ble_eq_true rfl) dX5_withUnit_52 rfl ?_
      refine V_i2l (pc := 55) C dX5_withUnit_55 ?_
      obtain ⟨r56, hq, h⟩ := ob1_some h
      refine V_callSR (pc := 56) (rest := []) (st2 := [.long r56]) C (X5_with_ok hq) gX5_withUnit_X5_with rfl hdX5_with ⟨Nat.le_of_ble_eq_true rfl, Nat.le_of_ble_eq_true rfl⟩ ⟨Nat.le_refl _, Nat.le_refl _⟩ [] rfl rfl (Nat.le_of_ble_eq_true rfl) dX5_withUnit_56 rfl ?_
      refine V_lstore (pc := 59) (lv' := [(4, .long r56), (0, .ref (a 0)), (3, .int p1), (6, .int x6_36)]) C dX5_withUnit_59 (Nat.le_of_ble_eq_true rfl) rfl ?_
      refine V_iinc (pc := 61) (v := (x6_36 + 1)) (lv' := [(6, .int (x6_36 + 1)), (4, .long r56), (0, .ref (a 0)), (3, .int p1)]) C dX5_withUnit_61 3 rfl rfl (Nat.le_of_ble_eq_true rfl) rfl ?_
      refine V_goto (pc := 64) C 36 dX5_withUnit_64 rfl ?_
      exact V_sub [2, 3, 1, 0] rfl (ih36 _ _ h)
  refine V_sub [2, 4, 1, 0] rfl (wh2_ok (P := (fun (x4_6 : Int64) (x6_6 : Int32) => VW X D 7 Q (KR X) (0, 0) (wOff Y a q pg gS gU rd ft S U) [(0, .ref (a 0)), (3, .int p1), (4, .long x4_6), (6, .int x6_6)] 6 [])) (fun self6 ih6 x4_6 x6_6 h => ?_) 200 _ _ h)
  refine V_iload (pc := 6) C dX5_withUnit_6 3 rfl ?_
  refine V_iconst (pc := 8) (v := 2) C dX5_withUnit_8 rfl ?_
  refine V_icmp_gt (pc := 9) C 33 dX5_withUnit_9 rfl (fun c9 => ?_) (fun c9 => ?_)
  · replace h := t_pos c9 h
    exact V_sub [0, 1, 2] rfl (hJ33 _ h)
  · replace h := t_neg c9 h
    refine V_lload (pc := 12) C dX5_withUnit_12 2 rfl ?_
    refine V_aload_n (pc := 14) C dX5_withUnit_14 rfl 0 rfl ?_
    refine V_iload_n (pc := 15) C dX5_withUnit_15 rfl 1 rfl ?_
    refine V_iload (pc := 16) C dX5_withUnit_16 3 rfl ?_
    obtain ⟨r18, hq, h⟩ := ob1_some h
    refine V_callVR0 (pc := 18) (rest := [.long x4_6]) (st2 := [.int r18, .long x4_6]) C (X5_unit_ok (a := a) hq) gX5_withUnit_X5_unit rfl ⟨rfl, hdX5_unit⟩ ⟨Nat.le_of_ble_eq_true rfl, Nat.le_of_ble_eq_true rfl⟩ ⟨Nat.le_refl _, Nat.le_refl _⟩ 0 5 rfl rfl rfl (Nat.le_of_ble_eq_true rfl) dX5_withUnit_18 rfl ?_
    refine V_i2l (pc := 21) C dX5_withUnit_21 ?_
    obtain ⟨r22, hq, h⟩ := ob1_some h
    refine V_callSR (pc := 22) (rest := []) (st2 := [.long r22]) C (X5_with_ok hq) gX5_withUnit_X5_with rfl hdX5_with ⟨Nat.le_of_ble_eq_true rfl, Nat.le_of_ble_eq_true rfl⟩ ⟨Nat.le_refl _, Nat.le_refl _⟩ [] rfl rfl (Nat.le_of_ble_eq_true rfl) dX5_withUnit_22 rfl ?_
    refine V_lstore (pc := 25) (lv' := [(4, .long r22), (0, .ref (a 0)), (3, .int p1), (6, .int x6_6)]) C dX5_withUnit_25 (Nat.le_of_ble_eq_true rfl) rfl ?_
    refine V_iinc (pc := 27) (v := (x6_6 + 1)) (lv' := [(6, .int (x6_6 + 1)), (4, .long r22), (0, .ref (a 0)), (3, .int p1)]) C dX5_withUnit_27 3 rfl rfl (Nat.le_of_ble_eq_true rfl) rfl ?_
    refine V_goto (pc := 30) C 6 dX5_withUnit_30 rfl ?_
    exact V_sub [2, 3, 1, 0] rfl (ih6 _ _ h)
def X5_withStorm (a : Nat → Nat) (q : Nat → Int32) (pg : Nat → Int32) (gS : Nat → Option Nat) (gU : Nat → Option Nat) (rd : RdT) (ft : FtT) (S : Nat → StT) (U : Nat → UnT) (p0 : Int64) (p1 : Int32) : Option (Int64) :=
  jn1 (fun (x4_33 : Int64) => jn1 (fun (x4_66 : Int64) => jn1 (fun (x4_100 : Int64) => ob1 (X5_divided a q pg gS gU rd ft S U p1 (0 : Int32)) fun r105 =>
  ob1 (X5_with x4_100 (Int32.toInt64 r105)) fun r109 =>
  jn1 (fun (x4_148 : Int64) => some x4_148) fun J148 =>
  wh2 (fun self117 (x4_117 : Int64) (x6_117 : Int32) =>
  if (8 : Int32) ≤ x6_117 then (J148 x4_117) else (ob1 (X5_divided a q pg gS gU rd ft S U p1 ((10 : Int32) + x6_117)) fun r133 =>
  ob1 (X5_with x4_117 (Int32.toInt64 r133)) fun r137 =>
  self117 r137 (x6_117 + 1))) 200 r109 (0 : Int32)) fun J100 =>
  wh2 (fun self69 (x4_69 : Int64) (x6_69 : Int32) =>
  if (8 : Int32) ≤ x6_69 then (J100 x4_69) else (ob1 (X5_storm a q pg gS gU rd ft S U p1 ((20 : Int32) + x6_69)) fun r85 =>
  ob1 (X5_with x4_69 (Int32.toInt64 r85)) fun r89 =>
  self69 r89 (x6_69 + 1))) 200 x4_66 (0 : Int32)) fun J66 =>
  wh2 (fun self36 (x4_36 : Int64) (x6_36 : Int32) =>
  if (3 : Int32) ≤ x6_36 then (J66 x4_36) else (ob1 (X5_storm a q pg gS gU rd ft S U p1 ((10 : Int32) + x6_36)) fun r51 =>
  ob1 (X5_with x4_36 (Int32.toInt64 r51)) fun r55 =>
  self36 r55 (x6_36 + 1))) 200 x4_33 (0 : Int32)) fun J33 =>
  wh2 (fun self6 (x4_6 : Int64) (x6_6 : Int32) =>
  if (3 : Int32) < x6_6 then (J33 x4_6) else (ob1 (X5_storm a q pg gS gU rd ft S U p1 x6_6) fun r18 =>
  ob1 (X5_with x4_6 (Int32.toInt64 r18)) fun r22 =>
  self6 r22 (x6_6 + 1))) 200 p0 (0 : Int32)
theorem hdX5_withStorm : yX5_withStorm.cls ≠ "java/lang/invoke/MethodHandle" ∧ yX5_withStorm.cls ≠ "java/lang/invoke/VarHandle" ∧ (parseMethodDescriptor yX5_withStorm.desc).map (fun d => d.parameters.length) = some 2 := by decide +kernel
set_option maxHeartbeats 4000000 in
set_option maxRecDepth 100000 in
theorem X5_withStorm_ok {l : Launch} {D : va_G} {Y : Nat → ClassId}  {a : Nat → Nat} {q : Nat → Int32} {pg : Nat → Int32} {gS : Nat → Option Nat} {gU : Nat → Option Nat} {rd : RdT} {ft : FtT} {S : Nat → StT} {U : Nat → UnT} {p0 : Int64} {p1 : Int32} {r : Int64} (h : X5_withStorm a q pg gS gU rd ft S U p0 p1 = some r) : MR l yX5_withStorm wsX5_withStorm 3 66 D Y [.ref (a 0), .long p0, .int p1] (wOff Y a q pg gS gU rd ft S U) (some (.long r)) := by
  refine MR_of (cc := cX5_withStorm) (nL := 7) (ret := some .long) (lv0 := [(0, .ref (a 0)), (1, .long p0), (3, .int p1)]) (by decide) rfl (Nat.le_of_ble_eq_true rfl) rfl (fun X Q C hQ => ?_)
  unfold X5_withStorm at h
  refine V_lload_n (pc := 0) C dX5_withStorm_0 rfl 1 rfl ?_
  refine V_lstore (pc := 1) (lv' := [(4, .long p0), (0, .ref (a 0)), (1, .long p0), (3, .int p1)]) C dX5_withStorm_1 (Nat.le_of_ble_eq_true rfl) rfl ?_
  refine V_iconst (pc := 3) (v := 0) C dX5_withStorm_3 rfl ?_
  refine V_istore (pc := 4) (lv' := [(6, .int (0 : Int32)), (4, .long p0), (0, .ref (a 0)), (1, .long p0), (3, .int p1)]) C dX5_withStorm_4 (Nat.le_of_ble_eq_true rfl) rfl ?_
  refine jn1_ok (P := (fun (x4_33 : Int64) => VW X D 7 Q (KR X) (0, 0) (wOff Y a q pg gS gU rd ft S U) [(0, .ref (a 0)), (3, .int p1), (4, .long x4_33)] 33 [])) (fun x4_33 h => ?_) (fun J33 hJ33 h => ?_) h
  · refine V_iconst (pc := 33) (v := 0) C dX5_withStorm_33 rfl ?_
    refine V_istore (pc := 34) (lv' := [(6, .int (0 : Int32)), (0, .ref (a 0)), (3, .int p1), (4, .long x4_33)]) C dX5_withStorm_34 (Nat.le_of_ble_eq_true rfl) rfl ?_
    refine jn1_ok (P := (fun (x4_66 : Int64) => VW X D 7 Q (KR X) (0, 0) (wOff Y a q pg gS gU rd ft S U) [(0, .ref (a 0)), (3, .int p1), (4, .long x4_66)] 66 [])) (fun x4_66 h => ?_) (fun J66 hJ66 h => ?_) h
    · refine V_iconst (pc := 66) (v := 0) C dX5_withStorm_66 rfl ?_
      refine V_istore (pc := 67) (lv' := [(6, .int (0 : Int32)), (0, .ref (a 0)), (3, .int p1), (4, .long x4_66)]) C dX5_withStorm_67 (Nat.le_of_ble_eq_true rfl) rfl ?_
      refine jn1_ok (P := (fun (x4_100 : Int64) => VW X D 7 Q (KR X) (0, 0) (wOff Y a q pg gS gU rd ft S U) [(0, .ref (a 0)), (3, .int p1), (4, .long x4_100)] 100 [])) (fun x4_100 h => ?_) (fun J100 hJ100 h => ?_) h
      · refine V_lload (pc := 100) C dX5_withStorm_100 2 rfl ?_
        refine V_aload_n (pc := 102) C dX5_withStorm_102 rfl 0 rfl ?_
        refine V_iload_n (pc := 103) C dX5_withStorm_103 rfl 1 rfl ?_
        refine V_iconst (pc := 104) (v := 0) C dX5_withStorm_104 rfl ?_
        obtain ⟨r105, hq, h⟩ := ob1_some h
        refine V_callVR0 (pc := 105) (rest := [.long x4_100]) (st2 := [.int r105, .long x4_100]) C (X5_divided_ok (a := a) hq) gX5_withStorm_X5_divided rfl ⟨rfl, hdX5_divided⟩ ⟨Nat.le_of_ble_eq_true rfl, Nat.le_of_ble_eq_true rfl⟩ ⟨Nat.le_refl _, Nat.le_refl _⟩ 0 5 rfl rfl rfl (Nat.le_of_ble_eq_true rfl) dX5_withStorm_105 rfl ?_
        refine V_i2l (pc := 108) C dX5_withStorm_108 ?_
        obtain ⟨r109, hq, h⟩ := ob1_some h
        refine V_callSR (pc := 109) (rest := []) (st2 := [.long r109]) C (X5_with_ok hq) gX5_withStorm_X5_with rfl hdX5_with ⟨Nat.le_of_ble_eq_true rfl, Nat.le_of_ble_eq_true rfl⟩ ⟨Nat.le_refl _, Nat.le_refl _⟩ [] rfl rfl (Nat.le_of_ble_eq_true rfl) dX5_withStorm_109 rfl ?_
        refine V_lstore (pc := 112) (lv' := [(4, .long r109), (0, .ref (a 0)), (3, .int p1)]) C dX5_withStorm_112 (Nat.le_of_ble_eq_true rfl) rfl ?_
        refine V_iconst (pc := 114) (v := 0) C dX5_withStorm_114 rfl ?_
        refine V_istore (pc := 115) (lv' := [(6, .int (0 : Int32)), (4, .long r109), (0, .ref (a 0)), (3, .int p1)]) C dX5_withStorm_115 (Nat.le_of_ble_eq_true rfl) rfl ?_
        refine jn1_ok (P := (fun (x4_148 : Int64) => VW X D 7 Q (KR X) (0, 0) (wOff Y a q pg gS gU rd ft S U) [(4, .long x4_148)] 148 [])) (fun x4_148 h => ?_) (fun J148 hJ148 h => ?_) h
        · refine V_lload (pc := 148) C dX5_withStorm_148 0 rfl ?_
          cases h
          subst hQ
          exact V_lretR C dX5_withStorm_150
        refine V_sub [2, 3, 1, 0] rfl (wh2_ok (P := (fun (x4_117 : Int64) (x6_117 : Int32) => VW X D 7 Q (KR X) (0, 0) (wOff Y a q pg gS gU rd ft S U) [(0, .ref (a 0)), (3, .int p1), (4, .long x4_117), (6, .int x6_117)] 117 [])) (fun self117 ih117 x4_117 x6_117 h => ?_) 200 _ _ h)
        refine V_iload (pc := 117) C dX5_withStorm_117 3 rfl ?_
        refine V_bipush (pc := 119) (v := 8) C dX5_withStorm_119 rfl ?_
        refine V_icmp_ge (pc := 121) C 148 dX5_withStorm_121 rfl (fun c121 => ?_) (fun c121 => ?_)
        · replace h := t_pos c121 h
          exact V_sub [2] rfl (hJ148 _ h)
        · replace h := t_neg c121 h
          refine V_lload (pc := 124) C dX5_withStorm_124 2 rfl ?_
          refine V_aload_n (pc := 126) C dX5_withStorm_126 rfl 0 rfl ?_
          refine V_iload_n (pc := 127) C dX5_withStorm_127 rfl 1 rfl ?_
          refine V_bipush (pc := 128) (v := 10) C dX5_withStorm_128 rfl ?_
          refine V_iload (pc := 130) C dX5_withStorm_130 3 rfl ?_
          refine V_iadd (pc := 132) C dX5_withStorm_132 ?_
          obtain ⟨r133, hq, h⟩ := ob1_some h
          refine V_callVR0 (pc := 133) (rest := [.long x4_117]) (st2 := [.int r133, .long x4_117]) C (X5_divided_ok (a := a) hq) gX5_withStorm_X5_divided rfl ⟨rfl, hdX5_divided⟩ ⟨Nat.le_of_ble_eq_true rfl, Nat.le_of_ble_eq_true rfl⟩ ⟨Nat.le_refl _, Nat.le_refl _⟩ 0 5 rfl rfl rfl (Nat.le_of_ble_eq_true rfl) dX5_withStorm_133 rfl ?_
          refine V_i2l (pc := 136) C dX5_withStorm_136 ?_
          obtain ⟨r137, hq, h⟩ := ob1_some h
          refine V_callSR (pc := 137) (rest := []) (st2 := [.long r137]) C (X5_with_ok hq) gX5_withStorm_X5_with rfl hdX5_with ⟨Nat.le_of_ble_eq_true rfl, Nat.le_of_ble_eq_true rfl⟩ ⟨Nat.le_refl _, Nat.le_refl _⟩ [] rfl rfl (Nat.le_of_ble_eq_true rfl) dX5_withStorm_137 rfl ?_
          refine V_lstore (pc := 140) (lv' := [(4, .long r137), (0, .ref (a 0)), (3, .int p1), (6, .int x6_117)]) C dX5_withStorm_140 (Nat.le_of_ble_eq_true rfl) rfl ?_
          refine V_iinc (pc := 142) (v := (x6_117 + 1)) (lv' := [(6, .int (x6_117 + 1)), (4, .long r137), (0, .ref (a 0)), (3, .int p1)]) C dX5_withStorm_142 3 rfl rfl (Nat.le_of_ble_eq_true rfl) rfl ?_
          refine V_goto (pc := 145) C 117 dX5_withStorm_145 rfl ?_
          exact V_sub [2, 3, 1, 0] rfl (ih117 _ _ h)
      refine V_sub [1, 2, 3, 0] rfl (wh2_ok (P := (fun (x4_69 : Int64) (x6_69 : Int32) => VW X D 7 Q (KR X) (0, 0) (wOff Y a q pg gS gU rd ft S U) [(0, .ref (a 0)), (3, .int p1), (4, .long x4_69), (6, .int x6_69)] 69 [])) (fun self69 ih69 x4_69 x6_69 h => ?_) 200 _ _ h)
      refine V_iload (pc := 69) C dX5_withStorm_69 3 rfl ?_
      refine V_bipush (pc := 71) (v := 8) C dX5_withStorm_71 rfl ?_
      refine V_icmp_ge (pc := 73) C 100 dX5_withStorm_73 rfl (fun c73 => ?_) (fun c73 => ?_)
      · replace h := t_pos c73 h
        exact V_sub [0, 1, 2] rfl (hJ100 _ h)
      · replace h := t_neg c73 h
        refine V_lload (pc := 76) C dX5_withStorm_76 2 rfl ?_
        refine V_aload_n (pc := 78) C dX5_withStorm_78 rfl 0 rfl ?_
        refine V_iload_n (pc := 79) C dX5_withStorm_79 rfl 1 rfl ?_
        refine V_bipush (pc := 80) (v := 20) C dX5_withStorm_80 rfl ?_
        refine V_iload (pc := 82) C dX5_withStorm_82 3 rfl ?_
        refine V_iadd (pc := 84) C dX5_withStorm_84 ?_
        obtain ⟨r85, hq, h⟩ := ob1_some h
        refine V_callVR0 (pc := 85) (rest := [.long x4_69]) (st2 := [.int r85, .long x4_69]) C (X5_storm_ok (a := a) hq) gX5_withStorm_X5_storm rfl ⟨rfl, hdX5_storm⟩ ⟨Nat.le_of_ble_eq_true rfl, Nat.le_of_ble_eq_true rfl⟩ ⟨Nat.le_refl _, Nat.le_refl _⟩ 0 5 rfl rfl rfl (Nat.le_of_ble_eq_true rfl) dX5_withStorm_85 rfl ?_
        refine V_i2l (pc := 88) C dX5_withStorm_88 ?_
        obtain ⟨r89, hq, h⟩ := ob1_some h
        refine V_callSR (pc := 89) (rest := []) (st2 := [.long r89]) C (X5_with_ok hq) gX5_withStorm_X5_with rfl hdX5_with ⟨Nat.le_of_ble_eq_true rfl, Nat.le_of_ble_eq_true rfl⟩ ⟨Nat.le_refl _, Nat.le_refl _⟩ [] rfl rfl (Nat.le_of_ble_eq_true rfl) dX5_withStorm_89 rfl ?_
        refine V_lstore (pc := 92) (lv' := [(4, .long r89), (0, .ref (a 0)), (3, .int p1), (6, .int x6_69)]) C dX5_withStorm_92 (Nat.le_of_ble_eq_true rfl) rfl ?_
        refine V_iinc (pc := 94) (v := (x6_69 + 1)) (lv' := [(6, .int (x6_69 + 1)), (4, .long r89), (0, .ref (a 0)), (3, .int p1)]) C dX5_withStorm_94 3 rfl rfl (Nat.le_of_ble_eq_true rfl) rfl ?_
        refine V_goto (pc := 97) C 69 dX5_withStorm_97 rfl ?_
        exact V_sub [2, 3, 1, 0] rfl (ih69 _ _ h)
    refine V_sub [1, 2, 3, 0] rfl (wh2_ok (P := (fun (x4_36 : Int64) (x6_36 : Int32) => VW X D 7 Q (KR X) (0, 0) (wOff Y a q pg gS gU rd ft S U) [(0, .ref (a 0)), (3, .int p1), (4, .long x4_36), (6, .int x6_36)] 36 [])) (fun self36 ih36 x4_36 x6_36 h => ?_) 200 _ _ h)
    refine V_iload (pc := 36) C dX5_withStorm_36 3 rfl ?_
    refine V_iconst (pc := 38) (v := 3) C dX5_withStorm_38 rfl ?_
    refine V_icmp_ge (pc := 39) C 66 dX5_withStorm_39 rfl (fun c39 => ?_) (fun c39 => ?_)
    · replace h := t_pos c39 h
      exact V_sub [0, 1, 2] rfl (hJ66 _ h)
    · replace h := t_neg c39 h
      refine V_lload (pc := 42) C dX5_withStorm_42 2 rfl ?_
      refine V_aload_n (pc := 44) C dX5_withStorm_44 rfl 0 rfl ?_
      refine V_iload_n (pc := 45) C dX5_withStorm_45 rfl 1 rfl ?_
      refine V_bipush (pc := 46) (v := 10) C dX5_withStorm_46 rfl ?_
      refine V_iload (pc := 48) C dX5_withStorm_48 3 rfl ?_
      refine V_iadd (pc := 50) C dX5_withStorm_50 ?_
      obtain ⟨r51, hq, h⟩ := ob1_some h
      refine V_callVR0 (pc := 51) (rest := [.long x4_36]) (st2 := [.int r51, .long x4_36]) C (X5_storm_ok (a := a) hq) gX5_withStorm_X5_storm rfl ⟨rfl, hdX5_storm⟩ ⟨Nat.le_of_ble_eq_true rfl, Nat.le_of_ble_eq_true rfl⟩ ⟨Nat.le_refl _, Nat.le_refl _⟩ 0 5 rfl rfl rfl (Nat.le_of_ble_eq_true rfl) dX5_withStorm_51 rfl ?_
      refine V_i2l (pc := 54) C dX5_withStorm_54 ?_
      obtain ⟨r55, hq, h⟩ := ob1_some h
      refine V_callSR (pc := 55) (rest := []) (st2 := [.long r55]) C (X5_with_ok hq) gX5_withStorm_X5_with rfl hdX5_with ⟨Nat.le_of_ble_eq_true rfl, Nat.le_of_ble_eq_true rfl⟩ ⟨Nat.le_refl _, Nat.le_refl _⟩ [] rfl rfl (Nat.le_of_ble_eq_true rfl) dX5_withStorm_55 rfl ?_
      refine V_lstore (pc := 58) (lv' := [(4, .long r55), (0, .ref (a 0)), (3, .int p1), (6, .int x6_36)]) C dX5_withStorm_58 (Nat.le_of_ble_eq_true rfl) rfl ?_
      refine V_iinc (pc := 60) (v := (x6_36 + 1)) (lv' := [(6, .int (x6_36 + 1)), (4, .long r55), (0, .ref (a 0)), (3, .int p1)]) C dX5_withStorm_60 3 rfl rfl (Nat.le_of_ble_eq_true rfl) rfl ?_
      refine V_goto (pc := 63) C 36 dX5_withStorm_63 rfl ?_
      exact V_sub [2, 3, 1, 0] rfl (ih36 _ _ h)
  refine V_sub [2, 4, 1, 0] rfl (wh2_ok (P := (fun (x4_6 : Int64) (x6_6 : Int32) => VW X D 7 Q (KR X) (0, 0) (wOff Y a q pg gS gU rd ft S U) [(0, .ref (a 0)), (3, .int p1), (4, .long x4_6), (6, .int x6_6)] 6 [])) (fun self6 ih6 x4_6 x6_6 h => ?_) 200 _ _ h)
  refine V_iload (pc := 6) C dX5_withStorm_6 3 rfl ?_
  refine V_iconst (pc := 8) (v := 3) C dX5_withStorm_8 rfl ?_
  refine V_icmp_gt (pc := 9) C 33 dX5_withStorm_9 rfl (fun c9 => ?_) (fun c9 => ?_)
  · replace h := t_pos c9 h
    exact V_sub [0, 1, 2] rfl (hJ33 _ h)
  · replace h := t_neg c9 h
    refine V_lload (pc := 12) C dX5_withStorm_12 2 rfl ?_
    refine V_aload_n (pc := 14) C dX5_withStorm_14 rfl 0 rfl ?_
    refine V_iload_n (pc := 15) C dX5_withStorm_15 rfl 1 rfl ?_
    refine V_iload (pc := 16) C dX5_withStorm_16 3 rfl ?_
    obtain ⟨r18, hq, h⟩ := ob1_some h
    refine V_callVR0 (pc := 18) (rest := [.long x4_6]) (st2 := [.int r18, .long x4_6]) C (X5_storm_ok (a := a) hq) gX5_withStorm_X5_storm rfl ⟨rfl, hdX5_storm⟩ ⟨Nat.le_of_ble_eq_true rfl, Nat.le_of_ble_eq_true rfl⟩ ⟨Nat.le_refl _, Nat.le_refl _⟩ 0 5 rfl rfl rfl (Nat.le_of_ble_eq_true rfl) dX5_withStorm_18 rfl ?_
    refine V_i2l (pc := 21) C dX5_withStorm_21 ?_
    obtain ⟨r22, hq, h⟩ := ob1_some h
    refine V_callSR (pc := 22) (rest := []) (st2 := [.long r22]) C (X5_with_ok hq) gX5_withStorm_X5_with rfl hdX5_with ⟨Nat.le_of_ble_eq_true rfl, Nat.le_of_ble_eq_true rfl⟩ ⟨Nat.le_refl _, Nat.le_refl _⟩ [] rfl rfl (Nat.le_of_ble_eq_true rfl) dX5_withStorm_22 rfl ?_
    refine V_lstore (pc := 25) (lv' := [(4, .long r22), (0, .ref (a 0)), (3, .int p1), (6, .int x6_6)]) C dX5_withStorm_25 (Nat.le_of_ble_eq_true rfl) rfl ?_
    refine V_iinc (pc := 27) (v := (x6_6 + 1)) (lv' := [(6, .int (x6_6 + 1)), (4, .long r22), (0, .ref (a 0)), (3, .int p1)]) C dX5_withStorm_27 3 rfl rfl (Nat.le_of_ble_eq_true rfl) rfl ?_
    refine V_goto (pc := 30) C 6 dX5_withStorm_30 rfl ?_
    exact V_sub [2, 3, 1, 0] rfl (ih6 _ _ h)
def X5_digest (a : Nat → Nat) (q : Nat → Int32) (pg : Nat → Int32) (gS : Nat → Option Nat) (gU : Nat → Option Nat) (rd : RdT) (ft : FtT) (S : Nat → StT) (U : Nat → UnT) : Option (Int64 × FtT) :=
  jn1 (fun (x1_27 : Int64) => jn1 (fun (x1_50 : Int64) => jn1 (fun (x1_97 : Int64) => jn2 (fun (x1_137 : Int64) (mft_137 : FtT) => jn1 (fun (x1_165 : Int64) => jn1 (fun (x1_190 : Int64) => some (x1_190, mft_137)) fun J190 =>
  wh2 (fun self167 (x1_167 : Int64) (x3_167 : Int32) =>
  if (6 : Int32) ≤ x3_167 then (J190 x1_167) else (ob1 (X5_count a q pg gS gU rd mft_137 S U x3_167) fun r176 =>
  ob1 (X5_with x1_167 (Int32.toInt64 r176)) fun r180 =>
  self167 r180 (x3_167 + 1))) 200 x1_165 (0 : Int32)) fun J165 =>
  wh2 (fun self139 (x1_139 : Int64) (x3_139 : Int32) =>
  if (q 5) ≤ x3_139 then (J165 x1_139) else (chk (inB x3_139 40) (ob1 (X5_with x1_139 (Int32.toInt64 (pg (Int32.toNatClampNeg x3_139)))) fun r155 =>
  self139 r155 (x3_139 + 1)))) 200 x1_137 (0 : Int32)) fun J137 =>
  wh3 (fun self99 (x1_99 : Int64) (x3_99 : Int32) (mft_99 : FtT) =>
  if (4 : Int32) < x3_99 then (J137 x1_99 mft_99) else (if (q 6) ≤ 0 then (J137 x1_99 mft_99) else (ob1 (X5_fitStorms a q pg gS gU rd mft_99 S U (((1 : Int32) <<< ((q 6) &&& 31)) - (1 : Int32)) x3_99) fun oft_121 =>
  ob1 (X5_withFit a q pg gS gU rd oft_121 S U x1_99 x3_99) fun r127 =>
  self99 r127 (x3_99 + 1) oft_121))) 200 x1_97 (1 : Int32) ft) fun J97 =>
  wh2 (fun self52 (x1_52 : Int64) (x3_52 : Int32) =>
  if (q 7) ≤ x3_52 then (J97 x1_52) else (jn1 (fun (x1_91 : Int64) => self52 x1_91 (x3_52 + 1)) fun J91 =>
  wh2 (fun self63 (x1_63 : Int64) (x4_63 : Int32) =>
  if (q 6) ≤ x4_63 then (J91 x1_63) else (ob1 (X5_missed a q pg gS gU rd ft S U x3_52 x4_63) fun r77 =>
  ob1 (X5_with x1_63 (Int32.toInt64 r77)) fun r81 =>
  self63 r81 (x4_63 + 1))) 200 x1_52 (0 : Int32))) 200 x1_50 (0 : Int32)) fun J50 =>
  wh2 (fun self29 (x1_29 : Int64) (x3_29 : Int32) =>
  if (q 7) ≤ x3_29 then (J50 x1_29) else (ob1 (X5_withUnit a q pg gS gU rd ft S U x1_29 x3_29) fun r40 =>
  self29 r40 (x3_29 + 1))) 200 x1_27 (0 : Int32)) fun J27 =>
  wh2 (fun self6 (x1_6 : Int64) (x3_6 : Int32) =>
  if (q 6) ≤ x3_6 then (J27 x1_6) else (ob1 (X5_withStorm a q pg gS gU rd ft S U x1_6 x3_6) fun r17 =>
  self6 r17 (x3_6 + 1))) 200 (1619 : Int64) (0 : Int32)
theorem wX5_digest_k0 : Cond.constantLong RX5 185 (1619) ∈ wsX5_digest := by decide +kernel
theorem wX5_digest_k1 : Cond.fieldLink RX5 42 (TX5 5).1 (TX5 5).2.1 (TX5 5).2.2.1 ∈ wsX5_digest := by decide +kernel
theorem hiX5_digest_5 : ∀ w ∈ u_ws RX5 TX5 11, w ∈ wsX5_digest := fun _ h => List.mem_cons_of_mem _ (List.mem_append_left _ (List.mem_append_left _ (List.mem_append_left _ (List.mem_append_left _ (List.mem_append_right _ h)))))
theorem wX5_digest_k3 : Cond.fieldLink RX5 9 (TX5 0).1 (TX5 0).2.1 (TX5 0).2.2.1 ∈ wsX5_digest := by decide +kernel
theorem wX5_digest_k4 : Cond.fieldLink RX5 179 (TX5 6).1 (TX5 6).2.1 (TX5 6).2.2.1 ∈ wsX5_digest := by decide +kernel
theorem wX5_digest_k5 : Cond.fieldLink RX5 169 (TX5 7).1 (TX5 7).2.1 (TX5 7).2.2.1 ∈ wsX5_digest := by decide +kernel
theorem hdX5_digest : yX5_digest.cls ≠ "java/lang/invoke/MethodHandle" ∧ yX5_digest.cls ≠ "java/lang/invoke/VarHandle" ∧ (parseMethodDescriptor yX5_digest.desc).map (fun d => d.parameters.length) = some 0 := by decide +kernel
set_option maxHeartbeats 4000000 in
set_option maxRecDepth 100000 in
theorem X5_digest_ok {l : Launch} {D : va_G} {Y : Nat → ClassId}  {a : Nat → Nat} {q : Nat → Int32} {pg : Nat → Int32} {gS : Nat → Option Nat} {gU : Nat → Option Nat} {rd : RdT} {ft : FtT} {S : Nat → StT} {U : Nat → UnT} {r : Int64} {uft : FtT} (h : X5_digest a q pg gS gU rd ft S U = some (r, uft)) : MW l yX5_digest wsX5_digest 6 138 D Y [.ref (a 0)] (wOff Y a q pg gS gU rd ft S U) (wOff Y a q pg gS gU rd uft S U) (some (.long r)) := by
  refine MW_of (cc := cX5_digest) (nL := 5) (ret := some .long) (lv0 := [(0, .ref (a 0))]) (by decide) rfl (Nat.le_of_ble_eq_true rfl) rfl rfl (fun X Af Q C hA hQ => ?_)
  unfold X5_digest at h
  refine V_ldc2 (pc := 0) (v := 1619) C dX5_digest_0 wX5_digest_k0 ?_
  refine V_lstore_n (pc := 3) (lv' := [(1, .long (1619 : Int64)), (0, .ref (a 0))]) C dX5_digest_3 rfl (Nat.le_of_ble_eq_true rfl) rfl ?_
  refine V_iconst (pc := 4) (v := 0) C dX5_digest_4 rfl ?_
  refine V_istore_n (pc := 5) (lv' := [(3, .int (0 : Int32)), (1, .long (1619 : Int64)), (0, .ref (a 0))]) C dX5_digest_5 rfl (Nat.le_of_ble_eq_true rfl) rfl ?_
  refine jn1_ok (P := (fun (x1_27 : Int64) => VW X D 5 Q (KM Af X) (0, 0) (wOff Y a q pg gS gU rd ft S U) [(0, .ref (a 0)), (1, .long x1_27)] 27 [])) (fun x1_27 h => ?_) (fun J27 hJ27 h => ?_) h
  · refine V_iconst (pc := 27) (v := 0) C dX5_digest_27 rfl ?_
    refine V_istore_n (pc := 28) (lv' := [(3, .int (0 : Int32)), (0, .ref (a 0)), (1, .long x1_27)]) C dX5_digest_28 rfl (Nat.le_of_ble_eq_true rfl) rfl ?_
    refine jn1_ok (P := (fun (x1_50 : Int64) => VW X D 5 Q (KM Af X) (0, 0) (wOff Y a q pg gS gU rd ft S U) [(0, .ref (a 0)), (1, .long x1_50)] 50 [])) (fun x1_50 h => ?_) (fun J50 hJ50 h => ?_) h
    · refine V_iconst (pc := 50) (v := 0) C dX5_digest_50 rfl ?_
      refine V_istore_n (pc := 51) (lv' := [(3, .int (0 : Int32)), (0, .ref (a 0)), (1, .long x1_50)]) C dX5_digest_51 rfl (Nat.le_of_ble_eq_true rfl) rfl ?_
      refine jn1_ok (P := (fun (x1_97 : Int64) => VW X D 5 Q (KM Af X) (0, 0) (wOff Y a q pg gS gU rd ft S U) [(0, .ref (a 0)), (1, .long x1_97)] 97 [])) (fun x1_97 h => ?_) (fun J97 hJ97 h => ?_) h
      · refine V_iconst (pc := 97) (v := 1) C dX5_digest_97 rfl ?_
        refine V_istore_n (pc := 98) (lv' := [(3, .int (1 : Int32)), (0, .ref (a 0)), (1, .long x1_97)]) C dX5_digest_98 rfl (Nat.le_of_ble_eq_true rfl) rfl ?_
        refine jn2_ok (P := (fun (x1_137 : Int64) (mft_137 : FtT) => VW X D 5 Q (KM Af X) (0, 0) (wOff Y a q pg gS gU rd mft_137 S U) [(0, .ref (a 0)), (1, .long x1_137)] 137 [])) (fun x1_137 mft_137 h => ?_) (fun J137 hJ137 h => ?_) h
        · refine V_iconst (pc := 137) (v := 0) C dX5_digest_137 rfl ?_
          refine V_istore_n (pc := 138) (lv' := [(3, .int (0 : Int32)), (0, .ref (a 0)), (1, .long x1_137)]) C dX5_digest_138 rfl (Nat.le_of_ble_eq_true rfl) rfl ?_
          refine jn1_ok (P := (fun (x1_165 : Int64) => VW X D 5 Q (KM Af X) (0, 0) (wOff Y a q pg gS gU rd mft_137 S U) [(0, .ref (a 0)), (1, .long x1_165)] 165 [])) (fun x1_165 h => ?_) (fun J165 hJ165 h => ?_) h
          · refine V_iconst (pc := 165) (v := 0) C dX5_digest_165 rfl ?_
            refine V_istore_n (pc := 166) (lv' := [(3, .int (0 : Int32)), (0, .ref (a 0)), (1, .long x1_165)]) C dX5_digest_166 rfl (Nat.le_of_ble_eq_true rfl) rfl ?_
            refine jn1_ok (P := (fun (x1_190 : Int64) => VW X D 5 Q (KM Af X) (0, 0) (wOff Y a q pg gS gU rd mft_137 S U) [(1, .long x1_190)] 190 [])) (fun x1_190 h => ?_) (fun J190 hJ190 h => ?_) h
            · refine V_lload_n (pc := 190) C dX5_digest_190 rfl 0 rfl ?_
              cases h
              subst hQ
              exact V_lretW C dX5_digest_191
            refine V_sub [1, 2, 0] rfl (wh2_ok (P := (fun (x1_167 : Int64) (x3_167 : Int32) => VW X D 5 Q (KM Af X) (0, 0) (wOff Y a q pg gS gU rd mft_137 S U) [(0, .ref (a 0)), (1, .long x1_167), (3, .int x3_167)] 167 [])) (fun self167 ih167 x1_167 x3_167 h => ?_) 200 _ _ h)
            refine V_iload_n (pc := 167) C dX5_digest_167 rfl 2 rfl ?_
            refine V_bipush (pc := 168) (v := 6) C dX5_digest_168 rfl ?_
            refine V_icmp_ge (pc := 170) C 190 dX5_digest_170 rfl (fun c170 => ?_) (fun c170 => ?_)
            · replace h := t_pos c170 h
              exact V_sub [1] rfl (hJ190 _ h)
            · replace h := t_neg c170 h
              refine V_lload_n (pc := 173) C dX5_digest_173 rfl 1 rfl ?_
              refine V_aload_n (pc := 174) C dX5_digest_174 rfl 0 rfl ?_
              refine V_iload_n (pc := 175) C dX5_digest_175 rfl 2 rfl ?_
              obtain ⟨r176, hq, h⟩ := ob1_some h
              refine V_callVR0 (pc := 176) (rest := [.long x1_167]) (st2 := [.int r176, .long x1_167]) C (X5_count_ok (a := a) hq) gX5_digest_X5_count rfl ⟨rfl, hdX5_count⟩ ⟨Nat.le_of_ble_eq_true rfl, Nat.le_of_ble_eq_true rfl⟩ ⟨Nat.le_refl _, Nat.le_refl _⟩ 0 5 rfl rfl rfl (Nat.le_of_ble_eq_true rfl) dX5_digest_176 rfl ?_
              refine V_i2l (pc := 179) C dX5_digest_179 ?_
              obtain ⟨r180, hq, h⟩ := ob1_some h
              refine V_callSR (pc := 180) (rest := []) (st2 := [.long r180]) C (X5_with_ok hq) gX5_digest_X5_with rfl hdX5_with ⟨Nat.le_of_ble_eq_true rfl, Nat.le_of_ble_eq_true rfl⟩ ⟨Nat.le_refl _, Nat.le_refl _⟩ [] rfl rfl (Nat.le_of_ble_eq_true rfl) dX5_digest_180 rfl ?_
              refine V_lstore_n (pc := 183) (lv' := [(1, .long r180), (0, .ref (a 0)), (3, .int x3_167)]) C dX5_digest_183 rfl (Nat.le_of_ble_eq_true rfl) rfl ?_
              refine V_iinc (pc := 184) (v := (x3_167 + 1)) (lv' := [(3, .int (x3_167 + 1)), (1, .long r180), (0, .ref (a 0))]) C dX5_digest_184 2 rfl rfl (Nat.le_of_ble_eq_true rfl) rfl ?_
              refine V_goto (pc := 187) C 167 dX5_digest_187 rfl ?_
              exact V_sub [2, 1, 0] rfl (ih167 _ _ h)
          refine V_sub [1, 2, 0] rfl (wh2_ok (P := (fun (x1_139 : Int64) (x3_139 : Int32) => VW X D 5 Q (KM Af X) (0, 0) (wOff Y a q pg gS gU rd mft_137 S U) [(0, .ref (a 0)), (1, .long x1_139), (3, .int x3_139)] 139 [])) (fun self139 ih139 x1_139 x3_139 h => ?_) 200 _ _ h)
          refine V_iload_n (pc := 139) C dX5_digest_139 rfl 2 rfl ?_
          refine V_aload_n (pc := 140) C dX5_digest_140 rfl 0 rfl ?_
          refine V_get (pc := 141) (v := .int (q 5)) C 0 5 5 hiX5_digest_5 rfl rfl (by decide) wX5_digest_k1 rfl dX5_digest_141 ?_
          refine V_icmp_ge (pc := 144) C 165 dX5_digest_144 rfl (fun c144 => ?_) (fun c144 => ?_)
          · replace h := t_pos c144 h
            exact V_sub [0, 1] rfl (hJ165 _ h)
          · replace h := t_neg c144 h
            refine V_lload_n (pc := 147) C dX5_digest_147 rfl 1 rfl ?_
            refine V_aload_n (pc := 148) C dX5_digest_148 rfl 0 rfl ?_
            refine V_get (pc := 149) (v := .ref (a 1)) C 0 5 0 hiX5_digest_5 rfl rfl (by decide) wX5_digest_k3 rfl dX5_digest_149 ?_
            refine V_iload_n (pc := 152) C dX5_digest_152 rfl 2 rfl ?_
            obtain ⟨b153, h⟩ := chk_some h
            refine V_iald (pc := 153) C 1 rfl b153 dX5_digest_153 ?_
            refine V_i2l (pc := 154) C dX5_digest_154 ?_
            obtain ⟨r155, hq, h⟩ := ob1_some h
            refine V_callSR (pc := 155) (rest := []) (st2 := [.long r155]) C (X5_with_ok hq) gX5_digest_X5_with rfl hdX5_with ⟨Nat.le_of_ble_eq_true rfl, Nat.le_of_ble_eq_true rfl⟩ ⟨Nat.le_refl _, Nat.le_refl _⟩ [] rfl rfl (Nat.le_of_ble_eq_true rfl) dX5_digest_155 rfl ?_
            refine V_lstore_n (pc := 158) (lv' := [(1, .long r155), (0, .ref (a 0)), (3, .int x3_139)]) C dX5_digest_158 rfl (Nat.le_of_ble_eq_true rfl) rfl ?_
            refine V_iinc (pc := 159) (v := (x3_139 + 1)) (lv' := [(3, .int (x3_139 + 1)), (1, .long r155), (0, .ref (a 0))]) C dX5_digest_159 2 rfl rfl (Nat.le_of_ble_eq_true rfl) rfl ?_
            refine V_goto (pc := 162) C 139 dX5_digest_162 rfl ?_
            exact V_sub [2, 1, 0] rfl (ih139 _ _ h)
        refine V_sub [1, 2, 0] rfl (wh3_ok (P := (fun (x1_99 : Int64) (x3_99 : Int32) (mft_99 : FtT) => VW X D 5 Q (KM Af X) (0, 0) (wOff Y a q pg gS gU rd mft_99 S U) [(0, .ref (a 0)), (1, .long x1_99), (3, .int x3_99)] 99 [])) (fun self99 ih99 x1_99 x3_99 mft_99 h => ?_) 200 _ _ _ h)
        refine V_iload_n (pc := 99) C dX5_digest_99 rfl 2 rfl ?_
        refine V_iconst (pc := 100) (v := 4) C dX5_digest_100 rfl ?_
        refine V_icmp_gt (pc := 101) C 137 dX5_digest_101 rfl (fun c101 => ?_) (fun c101 => ?_)
        · replace h := t_pos c101 h
          exact V_sub [0, 1] rfl (hJ137 _ _ h)
        · replace h := t_neg c101 h
          refine V_aload_n (pc := 104) C dX5_digest_104 rfl 0 rfl ?_
          refine V_get (pc := 105) (v := .int (q 6)) C 0 5 6 hiX5_digest_5 rfl rfl (by decide) wX5_digest_k4 rfl dX5_digest_105 ?_
          refine V_if_le (pc := 108) C 137 dX5_digest_108 rfl (fun c108 => ?_) (fun c108 => ?_)
          · replace h := t_pos c108 h
            exact V_sub [0, 1] rfl (hJ137 _ _ h)
          · replace h := t_neg c108 h
            refine V_aload_n (pc := 111) C dX5_digest_111 rfl 0 rfl ?_
            refine V_iconst (pc := 112) (v := 1) C dX5_digest_112 rfl ?_
            refine V_aload_n (pc := 113) C dX5_digest_113 rfl 0 rfl ?_
            refine V_get (pc := 114) (v := .int (q 6)) C 0 5 6 hiX5_digest_5 rfl rfl (by decide) wX5_digest_k4 rfl dX5_digest_114 ?_
            refine V_ishl (pc := 117) C dX5_digest_117 ?_
            refine V_iconst (pc := 118) (v := 1) C dX5_digest_118 rfl ?_
            refine V_isub (pc := 119) C dX5_digest_119 ?_
            refine V_iload_n (pc := 120) C dX5_digest_120 rfl 2 rfl ?_
            obtain ⟨oft_121, hq, h⟩ := ob1_some h
            refine V_callVW0 (pc := 121) (rest := []) (st2 := []) (ws' := wOff Y a q pg gS gU rd oft_121 S U) C hA (X5_fitStorms_ok (a := a) hq) gX5_digest_X5_fitStorms rfl ⟨rfl, hdX5_fitStorms⟩ ⟨Nat.le_of_ble_eq_true rfl, Nat.le_of_ble_eq_true rfl⟩ ⟨Nat.le_refl _, Nat.le_refl _⟩ 0 5 rfl rfl rfl (Nat.le_of_ble_eq_true rfl) dX5_digest_121 rfl rfl ?_
            refine V_aload_n (pc := 124) C dX5_digest_124 rfl 0 rfl ?_
            refine V_lload_n (pc := 125) C dX5_digest_125 rfl 1 rfl ?_
            refine V_iload_n (pc := 126) C dX5_digest_126 rfl 2 rfl ?_
            obtain ⟨r127, hq, h⟩ := ob1_some h
            refine V_callVR0 (pc := 127) (rest := []) (st2 := [.long r127]) C (X5_withFit_ok (a := a) hq) gX5_digest_X5_withFit rfl ⟨rfl, hdX5_withFit⟩ ⟨Nat.le_of_ble_eq_true rfl, Nat.le_of_ble_eq_true rfl⟩ ⟨Nat.le_refl _, Nat.le_refl _⟩ 0 5 rfl rfl rfl (Nat.le_of_ble_eq_true rfl) dX5_digest_127 rfl ?_
            refine V_lstore_n (pc := 130) (lv' := [(1, .long r127), (0, .ref (a 0)), (3, .int x3_99)]) C dX5_digest_130 rfl (Nat.le_of_ble_eq_true rfl) rfl ?_
            refine V_iinc (pc := 131) (v := (x3_99 + 1)) (lv' := [(3, .int (x3_99 + 1)), (1, .long r127), (0, .ref (a 0))]) C dX5_digest_131 2 rfl rfl (Nat.le_of_ble_eq_true rfl) rfl ?_
            refine V_goto (pc := 134) C 99 dX5_digest_134 rfl ?_
            exact V_sub [2, 1, 0] rfl (ih99 _ _ _ h)
      refine V_sub [1, 2, 0] rfl (wh2_ok (P := (fun (x1_52 : Int64) (x3_52 : Int32) => VW X D 5 Q (KM Af X) (0, 0) (wOff Y a q pg gS gU rd ft S U) [(0, .ref (a 0)), (1, .long x1_52), (3, .int x3_52)] 52 [])) (fun self52 ih52 x1_52 x3_52 h => ?_) 200 _ _ h)
      refine V_iload_n (pc := 52) C dX5_digest_52 rfl 2 rfl ?_
      refine V_aload_n (pc := 53) C dX5_digest_53 rfl 0 rfl ?_
      refine V_get (pc := 54) (v := .int (q 7)) C 0 5 7 hiX5_digest_5 rfl rfl (by decide) wX5_digest_k5 rfl dX5_digest_54 ?_
      refine V_icmp_ge (pc := 57) C 97 dX5_digest_57 rfl (fun c57 => ?_) (fun c57 => ?_)
      · replace h := t_pos c57 h
        exact V_sub [0, 1] rfl (hJ97 _ h)
      · replace h := t_neg c57 h
        refine V_iconst (pc := 60) (v := 0) C dX5_digest_60 rfl ?_
        refine V_istore (pc := 61) (lv' := [(4, .int (0 : Int32)), (0, .ref (a 0)), (1, .long x1_52), (3, .int x3_52)]) C dX5_digest_61 (Nat.le_of_ble_eq_true rfl) rfl ?_
        refine jn1_ok (P := (fun (x1_91 : Int64) => VW X D 5 Q (KM Af X) (0, 0) (wOff Y a q pg gS gU rd ft S U) [(0, .ref (a 0)), (1, .long x1_91), (3, .int x3_52)] 91 [])) (fun x1_91 h => ?_) (fun J91 hJ91 h => ?_) h
        · refine V_iinc (pc := 91) (v := (x3_52 + 1)) (lv' := [(3, .int (x3_52 + 1)), (0, .ref (a 0)), (1, .long x1_91)]) C dX5_digest_91 2 rfl rfl (Nat.le_of_ble_eq_true rfl) rfl ?_
          refine V_goto (pc := 94) C 52 dX5_digest_94 rfl ?_
          exact V_sub [1, 2, 0] rfl (ih52 _ _ h)
        refine V_sub [1, 2, 3, 0] rfl (wh2_ok (P := (fun (x1_63 : Int64) (x4_63 : Int32) => VW X D 5 Q (KM Af X) (0, 0) (wOff Y a q pg gS gU rd ft S U) [(0, .ref (a 0)), (1, .long x1_63), (3, .int x3_52), (4, .int x4_63)] 63 [])) (fun self63 ih63 x1_63 x4_63 h => ?_) 200 _ _ h)
        refine V_iload (pc := 63) C dX5_digest_63 3 rfl ?_
        refine V_aload_n (pc := 65) C dX5_digest_65 rfl 0 rfl ?_
        refine V_get (pc := 66) (v := .int (q 6)) C 0 5 6 hiX5_digest_5 rfl rfl (by decide) wX5_digest_k4 rfl dX5_digest_66 ?_
        refine V_icmp_ge (pc := 69) C 91 dX5_digest_69 rfl (fun c69 => ?_) (fun c69 => ?_)
        · replace h := t_pos c69 h
          exact V_sub [0, 1, 2] rfl (hJ91 _ h)
        · replace h := t_neg c69 h
          refine V_lload_n (pc := 72) C dX5_digest_72 rfl 1 rfl ?_
          refine V_aload_n (pc := 73) C dX5_digest_73 rfl 0 rfl ?_
          refine V_iload_n (pc := 74) C dX5_digest_74 rfl 2 rfl ?_
          refine V_iload (pc := 75) C dX5_digest_75 3 rfl ?_
          obtain ⟨r77, hq, h⟩ := ob1_some h
          refine V_callVR0 (pc := 77) (rest := [.long x1_63]) (st2 := [.int r77, .long x1_63]) C (X5_missed_ok (a := a) hq) gX5_digest_X5_missed rfl ⟨rfl, hdX5_missed⟩ ⟨Nat.le_of_ble_eq_true rfl, Nat.le_of_ble_eq_true rfl⟩ ⟨Nat.le_refl _, Nat.le_refl _⟩ 0 5 rfl rfl rfl (Nat.le_of_ble_eq_true rfl) dX5_digest_77 rfl ?_
          refine V_i2l (pc := 80) C dX5_digest_80 ?_
          obtain ⟨r81, hq, h⟩ := ob1_some h
          refine V_callSR (pc := 81) (rest := []) (st2 := [.long r81]) C (X5_with_ok hq) gX5_digest_X5_with rfl hdX5_with ⟨Nat.le_of_ble_eq_true rfl, Nat.le_of_ble_eq_true rfl⟩ ⟨Nat.le_refl _, Nat.le_refl _⟩ [] rfl rfl (Nat.le_of_ble_eq_true rfl) dX5_digest_81 rfl ?_
          refine V_lstore_n (pc := 84) (lv' := [(1, .long r81), (0, .ref (a 0)), (3, .int x3_52), (4, .int x4_63)]) C dX5_digest_84 rfl (Nat.le_of_ble_eq_true rfl) rfl ?_
          refine V_iinc (pc := 85) (v := (x4_63 + 1)) (lv' := [(4, .int (x4_63 + 1)), (1, .long r81), (0, .ref (a 0)), (3, .int x3_52)]) C dX5_digest_85 3 rfl rfl (Nat.le_of_ble_eq_true rfl) rfl ?_
          refine V_goto (pc := 88) C 63 dX5_digest_88 rfl ?_
          exact V_sub [2, 1, 3, 0] rfl (ih63 _ _ h)
    refine V_sub [1, 2, 0] rfl (wh2_ok (P := (fun (x1_29 : Int64) (x3_29 : Int32) => VW X D 5 Q (KM Af X) (0, 0) (wOff Y a q pg gS gU rd ft S U) [(0, .ref (a 0)), (1, .long x1_29), (3, .int x3_29)] 29 [])) (fun self29 ih29 x1_29 x3_29 h => ?_) 200 _ _ h)
    refine V_iload_n (pc := 29) C dX5_digest_29 rfl 2 rfl ?_
    refine V_aload_n (pc := 30) C dX5_digest_30 rfl 0 rfl ?_
    refine V_get (pc := 31) (v := .int (q 7)) C 0 5 7 hiX5_digest_5 rfl rfl (by decide) wX5_digest_k5 rfl dX5_digest_31 ?_
    refine V_icmp_ge (pc := 34) C 50 dX5_digest_34 rfl (fun c34 => ?_) (fun c34 => ?_)
    · replace h := t_pos c34 h
      exact V_sub [0, 1] rfl (hJ50 _ h)
    · replace h := t_neg c34 h
      refine V_aload_n (pc := 37) C dX5_digest_37 rfl 0 rfl ?_
      refine V_lload_n (pc := 38) C dX5_digest_38 rfl 1 rfl ?_
      refine V_iload_n (pc := 39) C dX5_digest_39 rfl 2 rfl ?_
      obtain ⟨r40, hq, h⟩ := ob1_some h
      refine V_callVR0 (pc := 40) (rest := []) (st2 := [.long r40]) C (X5_withUnit_ok (a := a) hq) gX5_digest_X5_withUnit rfl ⟨rfl, hdX5_withUnit⟩ ⟨Nat.le_of_ble_eq_true rfl, Nat.le_of_ble_eq_true rfl⟩ ⟨Nat.le_refl _, Nat.le_refl _⟩ 0 5 rfl rfl rfl (Nat.le_of_ble_eq_true rfl) dX5_digest_40 rfl ?_
      refine V_lstore_n (pc := 43) (lv' := [(1, .long r40), (0, .ref (a 0)), (3, .int x3_29)]) C dX5_digest_43 rfl (Nat.le_of_ble_eq_true rfl) rfl ?_
      refine V_iinc (pc := 44) (v := (x3_29 + 1)) (lv' := [(3, .int (x3_29 + 1)), (1, .long r40), (0, .ref (a 0))]) C dX5_digest_44 2 rfl rfl (Nat.le_of_ble_eq_true rfl) rfl ?_
      refine V_goto (pc := 47) C 29 dX5_digest_47 rfl ?_
      exact V_sub [2, 1, 0] rfl (ih29 _ _ h)
  refine V_sub [2, 1, 0] rfl (wh2_ok (P := (fun (x1_6 : Int64) (x3_6 : Int32) => VW X D 5 Q (KM Af X) (0, 0) (wOff Y a q pg gS gU rd ft S U) [(0, .ref (a 0)), (1, .long x1_6), (3, .int x3_6)] 6 [])) (fun self6 ih6 x1_6 x3_6 h => ?_) 200 _ _ h)
  refine V_iload_n (pc := 6) C dX5_digest_6 rfl 2 rfl ?_
  refine V_aload_n (pc := 7) C dX5_digest_7 rfl 0 rfl ?_
  refine V_get (pc := 8) (v := .int (q 6)) C 0 5 6 hiX5_digest_5 rfl rfl (by decide) wX5_digest_k4 rfl dX5_digest_8 ?_
  refine V_icmp_ge (pc := 11) C 27 dX5_digest_11 rfl (fun c11 => ?_) (fun c11 => ?_)
  · replace h := t_pos c11 h
    exact V_sub [0, 1] rfl (hJ27 _ h)
  · replace h := t_neg c11 h
    refine V_aload_n (pc := 14) C dX5_digest_14 rfl 0 rfl ?_
    refine V_lload_n (pc := 15) C dX5_digest_15 rfl 1 rfl ?_
    refine V_iload_n (pc := 16) C dX5_digest_16 rfl 2 rfl ?_
    obtain ⟨r17, hq, h⟩ := ob1_some h
    refine V_callVR0 (pc := 17) (rest := []) (st2 := [.long r17]) C (X5_withStorm_ok (a := a) hq) gX5_digest_X5_withStorm rfl ⟨rfl, hdX5_withStorm⟩ ⟨Nat.le_of_ble_eq_true rfl, Nat.le_of_ble_eq_true rfl⟩ ⟨Nat.le_refl _, Nat.le_refl _⟩ 0 5 rfl rfl rfl (Nat.le_of_ble_eq_true rfl) dX5_digest_17 rfl ?_
    refine V_lstore_n (pc := 20) (lv' := [(1, .long r17), (0, .ref (a 0)), (3, .int x3_6)]) C dX5_digest_20 rfl (Nat.le_of_ble_eq_true rfl) rfl ?_
    refine V_iinc (pc := 21) (v := (x3_6 + 1)) (lv' := [(3, .int (x3_6 + 1)), (1, .long r17), (0, .ref (a 0))]) C dX5_digest_21 2 rfl rfl (Nat.le_of_ble_eq_true rfl) rfl ?_
    refine V_goto (pc := 24) C 6 dX5_digest_24 rfl ?_
    exact V_sub [2, 1, 0] rfl (ih6 _ _ h)
