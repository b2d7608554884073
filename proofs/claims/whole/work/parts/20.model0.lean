def X6_within (p0 : Int32) (p1 : Int32) (p2 : Int32) : Option (Int32) :=
  if p0 < p1 then (some (0 : Int32)) else (if p2 < p0 then (some (0 : Int32)) else (some (1 : Int32)))
theorem hdX6_within : yX6_within.cls ≠ "java/lang/invoke/MethodHandle" ∧ yX6_within.cls ≠ "java/lang/invoke/VarHandle" ∧ (parseMethodDescriptor yX6_within.desc).map (fun d => d.parameters.length) = some 3 := by decide +kernel
set_option maxHeartbeats 4000000 in
set_option maxRecDepth 100000 in
theorem X6_within_ok {l : Launch} {D : va_G} {Y : Nat → ClassId}  {p0 : Int32} {p1 : Int32} {p2 : Int32} {r : Int32} (h : X6_within p0 p1 p2 = some r) : MR l yX6_within wsX6_within 0 0 D Y [.int p0, .int p1, .int p2] ([]) (some (.int r)) := by
  refine MR_of (cc := cX6_within) (nL := 3) (ret := some .boolean) (lv0 := [(0, .int p0), (1, .int p1), (2, .int p2)]) (by decide) rfl (Nat.le_of_ble_eq_true rfl) rfl (fun X Q C hQ => ?_)
  unfold X6_within at h
  refine V_iload_n (pc := 0) C dX6_within_0 rfl 0 rfl ?_
  refine V_iload_n (pc := 1) C dX6_within_1 rfl 1 rfl ?_
  refine V_icmp_lt (pc := 2) C 14 dX6_within_2 rfl (fun c2 => ?_) (fun c2 => ?_)
  · replace h := t_pos c2 h
    refine V_iconst (pc := 14) (v := 0) C dX6_within_14 rfl ?_
    cases h
    subst hQ
    exact V_zretR C (by decide) dX6_within_15
  · replace h := t_neg c2 h
    refine V_iload_n (pc := 5) C dX6_within_5 rfl 0 rfl ?_
    refine V_iload_n (pc := 6) C dX6_within_6 rfl 2 rfl ?_
    refine V_icmp_gt (pc := 7) C 14 dX6_within_7 rfl (fun c7 => ?_) (fun c7 => ?_)
    · replace h := t_pos c7 h
      refine V_iconst (pc := 14) (v := 0) C dX6_within_14 rfl ?_
      cases h
      subst hQ
      exact V_zretR C (by decide) dX6_within_15
    · replace h := t_neg c7 h
      refine V_iconst (pc := 10) (v := 1) C dX6_within_10 rfl ?_
      refine V_goto (pc := 11) C 15 dX6_within_11 rfl ?_
      cases h
      subst hQ
      exact V_zretR C (by decide) dX6_within_15
def X6_letter (I : Nat → Int32) (A : Nat → Nat → Int32) (F : Nat → Int64) (L : Nat → Nat → Int64) (p0 : Int32) : Option (Int32 × Int32 × (Nat → Int32)) :=
  ob1 (X6_within p0 (32 : Int32) (126 : Int32)) fun r5 =>
  if r5 = 0 then (some ((-1000003 : Int32), (I 0), (A 1))) else (if (I 0) = (40 : Int32) then (some ((-1000005 : Int32), (I 0), (A 1))) else (chk (inB (I 0) 40) (some (((I 0) + (1 : Int32)), ((I 0) + (1 : Int32)), (upd (A 1) (Int32.toNatClampNeg (I 0)) p0)))))
theorem wX6_letter_k0 : Cond.fieldLink RX6 64 (TX6 0).1 (TX6 0).2.1 (TX6 0).2.2.1 ∈ wsX6_letter := by decide +kernel
theorem hiX6_letter_6 : ∀ w ∈ u_ws RX6 TX6 33, w ∈ wsX6_letter := fun _ h => List.mem_cons_of_mem _ (List.mem_append_right _ h)
theorem wX6_letter_k2 : Cond.fieldLink RX6 7 (TX6 1).1 (TX6 1).2.1 (TX6 1).2.2.1 ∈ wsX6_letter := by decide +kernel
theorem wX6_letter_k3 : Cond.constant RX6 68 (-1000005) ∈ wsX6_letter := by decide +kernel
theorem wX6_letter_k4 : Cond.constant RX6 63 (-1000003) ∈ wsX6_letter := by decide +kernel
theorem hdX6_letter : yX6_letter.cls ≠ "java/lang/invoke/MethodHandle" ∧ yX6_letter.cls ≠ "java/lang/invoke/VarHandle" ∧ (parseMethodDescriptor yX6_letter.desc).map (fun d => d.parameters.length) = some 1 := by decide +kernel
set_option maxHeartbeats 4000000 in
set_option maxRecDepth 100000 in
theorem X6_letter_ok {l : Launch} {D : va_G} {Y : Nat → ClassId} {a : Nat → Nat} {I : Nat → Int32} {A : Nat → Nat → Int32} {F : Nat → Int64} {L : Nat → Nat → Int64} {p0 : Int32} {r : Int32} {uI0 : Int32} {uA1 : Nat → Int32} (h : X6_letter I A F L p0 = some (r, uI0, uA1)) : MW l yX6_letter wsX6_letter 1 22 D Y [.ref (a 0), .int p0] (wM Y a I A F L) (wM Y a (up I 0 uI0) (up A 1 uA1) F L) (some (.int r)) := by
  refine MW_of (cc := cX6_letter) (nL := 2) (ret := some .int) (lv0 := [(0, .ref (a 0)), (1, .int p0)]) (by decide) rfl (Nat.le_of_ble_eq_true rfl) rfl rfl (fun X Af Q C hA hQ => ?_)
  unfold X6_letter at h
  refine V_iload_n (pc := 0) C dX6_letter_0 rfl 1 rfl ?_
  refine V_bipush (pc := 1) (v := 32) C dX6_letter_1 rfl ?_
  refine V_bipush (pc := 3) (v := 126) C dX6_letter_3 rfl ?_
  obtain ⟨r5, hq, h⟩ := ob1_some h
  refine V_callSR (pc := 5) (rest := []) (st2 := [.int r5]) C (X6_within_ok hq) gX6_letter_X6_within rfl hdX6_within ⟨Nat.le_of_ble_eq_true rfl, Nat.le_of_ble_eq_true rfl⟩ ⟨Nat.le_refl _, Nat.le_refl _⟩ [] rfl rfl (Nat.le_of_ble_eq_true rfl) dX6_letter_5 rfl ?_
  refine V_if_ne (pc := 8) C 14 dX6_letter_8 rfl (fun c8 => ?_) (fun c8 => ?_)
  · replace h := t_neg c8 h
    refine V_aload_n (pc := 14) C dX6_letter_14 rfl 0 rfl ?_
    refine V_get (pc := 15) (v := .int (I 0)) C 0 6 0 hiX6_letter_6 rfl rfl (by decide) wX6_letter_k0 rfl dX6_letter_15 ?_
    refine V_bipush (pc := 18) (v := 40) C dX6_letter_18 rfl ?_
    refine V_icmp_ne (pc := 20) C 26 dX6_letter_20 rfl (fun c20 => ?_) (fun c20 => ?_)
    · replace h := t_neg c20 h
      refine V_aload_n (pc := 26) C dX6_letter_26 rfl 0 rfl ?_
      refine V_get (pc := 27) (v := .ref (a 1)) C 0 6 1 hiX6_letter_6 rfl rfl (by decide) wX6_letter_k2 rfl dX6_letter_27 ?_
      refine V_aload_n (pc := 30) C dX6_letter_30 rfl 0 rfl ?_
      refine V_get (pc := 31) (v := .int (I 0)) C 0 6 0 hiX6_letter_6 rfl rfl (by decide) wX6_letter_k0 rfl dX6_letter_31 ?_
      refine V_iload_n (pc := 34) C dX6_letter_34 rfl 1 rfl ?_
      obtain ⟨b35, h⟩ := chk_some h
      refine V_iast (pc := 35) (ws' := wM Y a I (up A 1 (upd (A 1) (Int32.toNatClampNeg (I 0)) p0)) F L) C 1 rfl b35 dX6_letter_35 rfl ?_
      refine V_aload_n (pc := 36) C dX6_letter_36 rfl 0 rfl ?_
      refine V_dup (pc := 37) C dX6_letter_37 rfl ?_
      refine V_get (pc := 38) (v := .int (I 0)) C 0 6 0 hiX6_letter_6 rfl rfl (by decide) wX6_letter_k0 rfl dX6_letter_38 ?_
      refine V_iconst (pc := 41) (v := 1) C dX6_letter_41 rfl ?_
      refine V_iadd (pc := 42) C dX6_letter_42 ?_
      refine V_put (pc := 43) (ws' := wM Y a (up I 0 ((I 0) + (1 : Int32))) (up A 1 (upd (A 1) (Int32.toNatClampNeg (I 0)) p0)) F L) C 0 6 0 hiX6_letter_6 tyX6_ok nmX6 rfl rfl (by decide) wX6_letter_k0 rfl rfl rfl (Nat.le_of_ble_eq_true rfl) dX6_letter_43 rfl ?_
      refine V_aload_n (pc := 46) C dX6_letter_46 rfl 0 rfl ?_
      refine V_get (pc := 47) (v := .int ((I 0) + (1 : Int32))) C 0 6 0 hiX6_letter_6 rfl rfl (by decide) wX6_letter_k0 rfl dX6_letter_47 ?_
      cases h
      subst hQ
      exact V_iretW C dX6_letter_50
    · replace h := t_pos c20 h
      refine V_ldc (pc := 23) (v := -1000005) C dX6_letter_23 wX6_letter_k3 ?_
      cases h
      subst hQ
      exact V_iretW C dX6_letter_25
  · replace h := t_pos c8 h
    refine V_ldc (pc := 11) (v := -1000003) C dX6_letter_11 wX6_letter_k4 ?_
    cases h
    subst hQ
    exact V_iretW C dX6_letter_13
def X6_blank (I : Nat → Int32) (A : Nat → Nat → Int32) (F : Nat → Int64) (L : Nat → Nat → Int64) : Option (Int32 × Int32) :=
  some ((I 0), (0 : Int32))
theorem wX6_blank_k0 : Cond.fieldLink RX6 64 (TX6 0).1 (TX6 0).2.1 (TX6 0).2.2.1 ∈ wsX6_blank := by decide +kernel
theorem hiX6_blank_6 : ∀ w ∈ u_ws RX6 TX6 33, w ∈ wsX6_blank := fun _ h => List.mem_cons_of_mem _ (List.mem_append_right _ h)
theorem hdX6_blank : yX6_blank.cls ≠ "java/lang/invoke/MethodHandle" ∧ yX6_blank.cls ≠ "java/lang/invoke/VarHandle" ∧ (parseMethodDescriptor yX6_blank.desc).map (fun d => d.parameters.length) = some 0 := by decide +kernel
set_option maxHeartbeats 4000000 in
set_option maxRecDepth 100000 in
theorem X6_blank_ok {l : Launch} {D : va_G} {Y : Nat → ClassId} {a : Nat → Nat} {I : Nat → Int32} {A : Nat → Nat → Int32} {F : Nat → Int64} {L : Nat → Nat → Int64} {r : Int32} {uI0 : Int32} (h : X6_blank I A F L = some (r, uI0)) : MW l yX6_blank wsX6_blank 0 0 D Y [.ref (a 0)] (wM Y a I A F L) (wM Y a (up I 0 uI0) A F L) (some (.int r)) := by
  refine MW_of (cc := cX6_blank) (nL := 2) (ret := some .int) (lv0 := [(0, .ref (a 0))]) (by decide) rfl (Nat.le_of_ble_eq_true rfl) rfl rfl (fun X Af Q C hA hQ => ?_)
  unfold X6_blank at h
  refine V_aload_n (pc := 0) C dX6_blank_0 rfl 0 rfl ?_
  refine V_get (pc := 1) (v := .int (I 0)) C 0 6 0 hiX6_blank_6 rfl rfl (by decide) wX6_blank_k0 rfl dX6_blank_1 ?_
  refine V_istore_n (pc := 4) (lv' := [(1, .int (I 0)), (0, .ref (a 0))]) C dX6_blank_4 rfl (Nat.le_of_ble_eq_true rfl) rfl ?_
  refine V_aload_n (pc := 5) C dX6_blank_5 rfl 1 rfl ?_
  refine V_iconst (pc := 6) (v := 0) C dX6_blank_6 rfl ?_
  refine V_put (pc := 7) (ws' := wM Y a (up I 0 (0 : Int32)) A F L) C 0 6 0 hiX6_blank_6 tyX6_ok nmX6 rfl rfl (by decide) wX6_blank_k0 rfl rfl rfl (Nat.le_of_ble_eq_true rfl) dX6_blank_7 rfl ?_
  refine V_iload_n (pc := 10) C dX6_blank_10 rfl 0 rfl ?_
  cases h
  subst hQ
  exact V_iretW C dX6_blank_11
def X6_goesTo (I : Nat → Int32) (A : Nat → Nat → Int32) (F : Nat → Int64) (L : Nat → Nat → Int64) (p0 : Int32) : Option (Int32 × Int32 × Int32 × Int32) :=
  some ((1 : Int32), p0, (0 : Int32), (0 : Int32))
theorem wX6_goesTo_k0 : Cond.fieldLink RX6 69 (TX6 14).1 (TX6 14).2.1 (TX6 14).2.2.1 ∈ wsX6_goesTo := by decide +kernel
theorem hiX6_goesTo_6 : ∀ w ∈ u_ws RX6 TX6 33, w ∈ wsX6_goesTo := fun _ h => List.mem_cons_of_mem _ (List.mem_append_right _ h)
theorem wX6_goesTo_k2 : Cond.fieldLink RX6 72 (TX6 21).1 (TX6 21).2.1 (TX6 21).2.2.1 ∈ wsX6_goesTo := by decide +kernel
theorem wX6_goesTo_k3 : Cond.fieldLink RX6 75 (TX6 22).1 (TX6 22).2.1 (TX6 22).2.2.1 ∈ wsX6_goesTo := by decide +kernel
theorem hdX6_goesTo : yX6_goesTo.cls ≠ "java/lang/invoke/MethodHandle" ∧ yX6_goesTo.cls ≠ "java/lang/invoke/VarHandle" ∧ (parseMethodDescriptor yX6_goesTo.desc).map (fun d => d.parameters.length) = some 1 := by decide +kernel
set_option maxHeartbeats 4000000 in
set_option maxRecDepth 100000 in
theorem X6_goesTo_ok {l : Launch} {D : va_G} {Y : Nat → ClassId} {a : Nat → Nat} {I : Nat → Int32} {A : Nat → Nat → Int32} {F : Nat → Int64} {L : Nat → Nat → Int64} {p0 : Int32} {r : Int32} {uI14 : Int32} {uI21 : Int32} {uI22 : Int32} (h : X6_goesTo I A F L p0 = some (r, uI14, uI21, uI22)) : MW l yX6_goesTo wsX6_goesTo 0 0 D Y [.ref (a 0), .int p0] (wM Y a I A F L) (wM Y a (up (up (up I 14 uI14) 21 uI21) 22 uI22) A F L) (some (.int r)) := by
  refine MW_of (cc := cX6_goesTo) (nL := 2) (ret := some .boolean) (lv0 := [(0, .ref (a 0)), (1, .int p0)]) (by decide) rfl (Nat.le_of_ble_eq_true rfl) rfl rfl (fun X Af Q C hA hQ => ?_)
  unfold X6_goesTo at h
  refine V_aload_n (pc := 0) C dX6_goesTo_0 rfl 0 rfl ?_
  refine V_iload_n (pc := 1) C dX6_goesTo_1 rfl 1 rfl ?_
  refine V_put (pc := 2) (ws' := wM Y a (up I 14 p0) A F L) C 0 6 14 hiX6_goesTo_6 tyX6_ok nmX6 rfl rfl (by decide) wX6_goesTo_k0 rfl rfl rfl (Nat.le_of_ble_eq_true rfl) dX6_goesTo_2 rfl ?_
  refine V_aload_n (pc := 5) C dX6_goesTo_5 rfl 0 rfl ?_
  refine V_iconst (pc := 6) (v := 0) C dX6_goesTo_6 rfl ?_
  refine V_put (pc := 7) (ws' := wM Y a (up (up I 14 p0) 21 (0 : Int32)) A F L) C 0 6 21 hiX6_goesTo_6 tyX6_ok nmX6 rfl rfl (by decide) wX6_goesTo_k2 rfl rfl rfl (Nat.le_of_ble_eq_true rfl) dX6_goesTo_7 rfl ?_
  refine V_aload_n (pc := 10) C dX6_goesTo_10 rfl 0 rfl ?_
  refine V_iconst (pc := 11) (v := 0) C dX6_goesTo_11 rfl ?_
  refine V_put (pc := 12) (ws' := wM Y a (up (up (up I 14 p0) 21 (0 : Int32)) 22 (0 : Int32)) A F L) C 0 6 22 hiX6_goesTo_6 tyX6_ok nmX6 rfl rfl (by decide) wX6_goesTo_k3 rfl rfl rfl (Nat.le_of_ble_eq_true rfl) dX6_goesTo_12 rfl ?_
  refine V_iconst (pc := 15) (v := 1) C dX6_goesTo_15 rfl ?_
  cases h
  subst hQ
  exact V_zretW C (by decide) dX6_goesTo_16
def X6_begins (I : Nat → Int32) (A : Nat → Nat → Int32) (F : Nat → Int64) (L : Nat → Nat → Int64) (p0 : Int32) : Option (Int32 × Int32 × Int32 × Int32 × Int32 × Int32 × Int32) :=
  jn1 (fun (s12_1 : Int32) => chk (isB s12_1) (jn0 (jn1 (fun (s50_1 : Int32) => ob4 (X6_goesTo (up (up (up I 15 s12_1) 17 (0 : Int32)) 19 (0 : Int32)) A F L s50_1) fun r50 oI14_50 oI21_50 oI22_50 =>
  if r50 = 0 then (some ((0 : Int32), oI14_50, s12_1, (0 : Int32), (0 : Int32), oI21_50, oI22_50)) else (some ((1 : Int32), oI14_50, s12_1, (0 : Int32), (0 : Int32), oI21_50, oI22_50))) fun J50 =>
  if s12_1 = 0 then (J50 (1 : Int32)) else (J50 (2 : Int32))) fun J37 =>
  if p0 = (114 : Int32) then (J37) else (if p0 = (117 : Int32) then (J37) else (some ((0 : Int32), (I 14), s12_1, (0 : Int32), (0 : Int32), (I 21), (I 22)))))) fun J12 =>
  if p0 = (117 : Int32) then (J12 (1 : Int32)) else (J12 (0 : Int32))
theorem wX6_begins_k0 : Cond.fieldLink RX6 78 (TX6 15).1 (TX6 15).2.1 (TX6 15).2.2.1 ∈ wsX6_begins := by decide +kernel
theorem hiX6_begins_6 : ∀ w ∈ u_ws RX6 TX6 33, w ∈ wsX6_begins := fun _ h => List.mem_cons_of_mem _ (List.mem_append_right _ h)
theorem wX6_begins_k2 : Cond.fieldLink RX6 82 (TX6 17).1 (TX6 17).2.1 (TX6 17).2.2.1 ∈ wsX6_begins := by decide +kernel
theorem wX6_begins_k3 : Cond.fieldLink RX6 85 (TX6 19).1 (TX6 19).2.1 (TX6 19).2.2.1 ∈ wsX6_begins := by decide +kernel
theorem hdX6_begins : yX6_begins.cls ≠ "java/lang/invoke/MethodHandle" ∧ yX6_begins.cls ≠ "java/lang/invoke/VarHandle" ∧ (parseMethodDescriptor yX6_begins.desc).map (fun d => d.parameters.length) = some 1 := by decide +kernel
set_option maxHeartbeats 4000000 in
set_option maxRecDepth 100000 in
theorem X6_begins_ok {l : Launch} {D : va_G} {Y : Nat → ClassId} {a : Nat → Nat} {I : Nat → Int32} {A : Nat → Nat → Int32} {F : Nat → Int64} {L : Nat → Nat → Int64} {p0 : Int32} {r : Int32} {uI14 : Int32} {uI15 : Int32} {uI17 : Int32} {uI19 : Int32} {uI21 : Int32} {uI22 : Int32} (h : X6_begins I A F L p0 = some (r, uI14, uI15, uI17, uI19, uI21, uI22)) : MW l yX6_begins wsX6_begins 1 21 D Y [.ref (a 0), .int p0] (wM Y a I A F L) (wM Y a (up (up (up (up (up (up I 14 uI14) 15 uI15) 17 uI17) 19 uI19) 21 uI21) 22 uI22) A F L) (some (.int r)) := by
  refine MW_of (cc := cX6_begins) (nL := 2) (ret := some .boolean) (lv0 := [(0, .ref (a 0)), (1, .int p0)]) (by decide) rfl (Nat.le_of_ble_eq_true rfl) rfl rfl (fun X Af Q C hA hQ => ?_)
  unfold X6_begins at h
  refine V_aload_n (pc := 0) C dX6_begins_0 rfl 0 rfl ?_
  refine V_iload_n (pc := 1) C dX6_begins_1 rfl 1 rfl ?_
  refine V_bipush (pc := 2) (v := 117) C dX6_begins_2 rfl ?_
  refine jn1_ok (P := (fun (s12_1 : Int32) => VW X D 2 Q (KM Af X) (0, 0) (wM Y a I A F L) [(0, .ref (a 0)), (1, .int p0)] 12 [.int s12_1, .ref (a 0)])) (fun s12_1 h => ?_) (fun J12 hJ12 h => ?_) h
  · obtain ⟨b12, h⟩ := chk_some h
    refine V_put (pc := 12) (ws' := wM Y a (up I 15 s12_1) A F L) C 0 6 15 hiX6_begins_6 tyX6_ok nmX6 rfl rfl (by decide) wX6_begins_k0 rfl (isB_n b12) (isB_f b12) (Nat.le_of_ble_eq_true rfl) dX6_begins_12 rfl ?_
    refine V_aload_n (pc := 15) C dX6_begins_15 rfl 0 rfl ?_
    refine V_iconst (pc := 16) (v := 0) C dX6_begins_16 rfl ?_
    refine V_put (pc := 17) (ws' := wM Y a (up (up I 15 s12_1) 17 (0 : Int32)) A F L) C 0 6 17 hiX6_begins_6 tyX6_ok nmX6 rfl rfl (by decide) wX6_begins_k2 rfl rfl rfl (Nat.le_of_ble_eq_true rfl) dX6_begins_17 rfl ?_
    refine V_aload_n (pc := 20) C dX6_begins_20 rfl 0 rfl ?_
    refine V_iconst (pc := 21) (v := 0) C dX6_begins_21 rfl ?_
    refine V_put (pc := 22) (ws' := wM Y a (up (up (up I 15 s12_1) 17 (0 : Int32)) 19 (0 : Int32)) A F L) C 0 6 19 hiX6_begins_6 tyX6_ok nmX6 rfl rfl (by decide) wX6_begins_k3 rfl rfl rfl (Nat.le_of_ble_eq_true rfl) dX6_begins_22 rfl ?_
    refine V_iload_n (pc := 25) C dX6_begins_25 rfl 1 rfl ?_
    refine V_bipush (pc := 26) (v := 114) C dX6_begins_26 rfl ?_
    refine jn0_ok (P := (VW X D 2 Q (KM Af X) (0, 0) (wM Y a (up (up (up I 15 s12_1) 17 (0 : Int32)) 19 (0 : Int32)) A F L) [(0, .ref (a 0))] 37 [])) (fun h => ?_) (fun J37 hJ37 h => ?_) h
    · refine V_aload_n (pc := 37) C dX6_begins_37 rfl 0 rfl ?_
      refine V_aload_n (pc := 38) C dX6_begins_38 rfl 0 rfl ?_
      refine V_get (pc := 39) (v := .int s12_1) C 0 6 15 hiX6_begins_6 rfl rfl (by decide) wX6_begins_k0 rfl dX6_begins_39 ?_
      refine jn1_ok (P := (fun (s50_1 : Int32) => VW X D 2 Q (KM Af X) (0, 0) (wM Y a (up (up (up I 15 s12_1) 17 (0 : Int32)) 19 (0 : Int32)) A F L) [] 50 [.int s50_1, .ref (a 0)])) (fun s50_1 h => ?_) (fun J50 hJ50 h => ?_) h
      · obtain ⟨r50, oI14_50, oI21_50, oI22_50, hq, h⟩ := ob4_some h
        refine V_callVW0 (pc := 50) (rest := []) (st2 := [.int r50]) (ws' := wM Y a (up (up (up (up (up (up I 15 s12_1) 17 (0 : Int32)) 19 (0 : Int32)) 14 oI14_50) 21 oI21_50) 22 oI22_50) A F L) C hA (X6_goesTo_ok (a := a) hq) gX6_begins_X6_goesTo rfl ⟨rfl, hdX6_goesTo⟩ ⟨Nat.le_of_ble_eq_true rfl, Nat.le_of_ble_eq_true rfl⟩ ⟨Nat.le_refl _, Nat.le_refl _⟩ 0 6 rfl rfl rfl (Nat.le_of_ble_eq_true rfl) dX6_begins_50 rfl rfl ?_
        refine V_if_eq (pc := 53) C 60 dX6_begins_53 rfl (fun c53 => ?_) (fun c53 => ?_)
        · replace h := t_pos c53 h
          refine V_iconst (pc := 60) (v := 0) C dX6_begins_60 rfl ?_
          cases h
          subst hQ
          exact V_zretW C (by decide) dX6_begins_61
        · replace h := t_neg c53 h
          refine V_iconst (pc := 56) (v := 1) C dX6_begins_56 rfl ?_
          refine V_goto (pc := 57) C 61 dX6_begins_57 rfl ?_
          cases h
          subst hQ
          exact V_zretW C (by decide) dX6_begins_61
      refine V_if_eq (pc := 42) C 49 dX6_begins_42 rfl (fun c42 => ?_) (fun c42 => ?_)
      · replace h := t_pos c42 h
        refine V_iconst (pc := 49) (v := 1) C dX6_begins_49 rfl ?_
        exact V_sub [] rfl (hJ50 _ h)
      · replace h := t_neg c42 h
        refine V_iconst (pc := 45) (v := 2) C dX6_begins_45 rfl ?_
        refine V_goto (pc := 46) C 50 dX6_begins_46 rfl ?_
        exact V_sub [] rfl (hJ50 _ h)
    refine V_icmp_eq (pc := 28) C 37 dX6_begins_28 rfl (fun c28 => ?_) (fun c28 => ?_)
    · replace h := t_pos c28 h
      exact V_sub [0] rfl (hJ37 h)
    · replace h := t_neg c28 h
      refine V_iload_n (pc := 31) C dX6_begins_31 rfl 1 rfl ?_
      refine V_bipush (pc := 32) (v := 117) C dX6_begins_32 rfl ?_
      refine V_icmp_ne (pc := 34) C 60 dX6_begins_34 rfl (fun c34 => ?_) (fun c34 => ?_)
      · replace h := t_neg c34 h
        refine V_iconst (pc := 60) (v := 0) C dX6_begins_60 rfl ?_
        cases h
        subst hQ
        exact V_zretW C (by decide) dX6_begins_61
      · replace h := t_pos c34 h
        exact V_sub [0] rfl (hJ37 h)
  refine V_icmp_ne (pc := 4) C 11 dX6_begins_4 rfl (fun c4 => ?_) (fun c4 => ?_)
  · replace h := t_neg c4 h
    refine V_iconst (pc := 11) (v := 0) C dX6_begins_11 rfl ?_
    exact V_sub [0, 1] rfl (hJ12 _ h)
  · replace h := t_pos c4 h
    refine V_iconst (pc := 7) (v := 1) C dX6_begins_7 rfl ?_
    refine V_goto (pc := 8) C 12 dX6_begins_8 rfl ?_
    exact V_sub [0, 1] rfl (hJ12 _ h)
def X6_takesFigure (I : Nat → Int32) (A : Nat → Nat → Int32) (F : Nat → Int64) (L : Nat → Nat → Int64) (p0 : Int32) : Option (Int32 × Int32 × Int32) :=
  jn1 (fun (s14_0 : Int32) => jn1 (fun (s35_0 : Int32) => jn1 (fun (s71_0 : Int32) => jn1 (fun (s96_0 : Int32) => jn1 (fun (s120_1 : Int32) => jn2 (fun (s138_1 : Int32) (s138_2 : Int32) => chk (isB s96_0) (some (s96_0, (s138_1 + s138_2), s120_1))) fun J138 =>
  if s96_0 = 0 then (J138 (I 21) (0 : Int32)) else (J138 (I 21) (1 : Int32))) fun J120 =>
  if s96_0 = 0 then (J120 (I 22)) else (J120 (((10 : Int32) * (I 22)) + p0))) fun J96 =>
  if s71_0 = 0 then (J96 (0 : Int32)) else (if s14_0 < (((10 : Int32) * (I 22)) + p0) then (J96 (0 : Int32)) else (J96 (1 : Int32)))) fun J71 =>
  if (I 21) = 0 then (if 0 < p0 then (J71 (1 : Int32)) else (if s35_0 = 0 then (J71 (1 : Int32)) else (J71 (0 : Int32)))) else (if (I 22) ≤ 0 then (J71 (0 : Int32)) else (J71 (1 : Int32)))) fun J35 =>
  if (I 14) = (1 : Int32) then (if (I 17) = 0 then (J35 (1 : Int32)) else (J35 (0 : Int32))) else (J35 (0 : Int32))) fun J14 =>
  if (I 14) = (1 : Int32) then (J14 (5 : Int32)) else (J14 (99 : Int32))
theorem wX6_takesFigure_k0 : Cond.fieldLink RX6 69 (TX6 14).1 (TX6 14).2.1 (TX6 14).2.2.1 ∈ wsX6_takesFigure := by decide +kernel
theorem hiX6_takesFigure_6 : ∀ w ∈ u_ws RX6 TX6 33, w ∈ wsX6_takesFigure := fun _ h => List.mem_cons_of_mem _ (List.mem_append_right _ h)
theorem wX6_takesFigure_k2 : Cond.fieldLink RX6 72 (TX6 21).1 (TX6 21).2.1 (TX6 21).2.2.1 ∈ wsX6_takesFigure := by decide +kernel
theorem wX6_takesFigure_k3 : Cond.fieldLink RX6 75 (TX6 22).1 (TX6 22).2.1 (TX6 22).2.2.1 ∈ wsX6_takesFigure := by decide +kernel
theorem wX6_takesFigure_k4 : Cond.fieldLink RX6 82 (TX6 17).1 (TX6 17).2.1 (TX6 17).2.2.1 ∈ wsX6_takesFigure := by decide +kernel
theorem hdX6_takesFigure : yX6_takesFigure.cls ≠ "java/lang/invoke/MethodHandle" ∧ yX6_takesFigure.cls ≠ "java/lang/invoke/VarHandle" ∧ (parseMethodDescriptor yX6_takesFigure.desc).map (fun d => d.parameters.length) = some 1 := by decide +kernel
set_option maxHeartbeats 4000000 in
set_option maxRecDepth 100000 in
theorem X6_takesFigure_ok {l : Launch} {D : va_G} {Y : Nat → ClassId} {a : Nat → Nat} {I : Nat → Int32} {A : Nat → Nat → Int32} {F : Nat → Int64} {L : Nat → Nat → Int64} {p0 : Int32} {r : Int32} {uI21 : Int32} {uI22 : Int32} (h : X6_takesFigure I A F L p0 = some (r, uI21, uI22)) : MW l yX6_takesFigure wsX6_takesFigure 0 0 D Y [.ref (a 0), .int p0] (wM Y a I A F L) (wM Y a (up (up I 21 uI21) 22 uI22) A F L) (some (.int r)) := by
  refine MW_of (cc := cX6_takesFigure) (nL := 5) (ret := some .boolean) (lv0 := [(0, .ref (a 0)), (1, .int p0)]) (by decide) rfl (Nat.le_of_ble_eq_true rfl) rfl rfl (fun X Af Q C hA hQ => ?_)
  unfold X6_takesFigure at h
  refine V_aload_n (pc := 0) C dX6_takesFigure_0 rfl 0 rfl ?_
  refine V_get (pc := 1) (v := .int (I 14)) C 0 6 14 hiX6_takesFigure_6 rfl rfl (by decide) wX6_takesFigure_k0 rfl dX6_takesFigure_1 ?_
  refine V_iconst (pc := 4) (v := 1) C dX6_takesFigure_4 rfl ?_
  refine jn1_ok (P := (fun (s14_0 : Int32) => VW X D 5 Q (KM Af X) (0, 0) (wM Y a I A F L) [(0, .ref (a 0)), (1, .int p0)] 14 [.int s14_0])) (fun s14_0 h => ?_) (fun J14 hJ14 h => ?_) h
  · refine V_istore_n (pc := 14) (lv' := [(2, .int s14_0), (0, .ref (a 0)), (1, .int p0)]) C dX6_takesFigure_14 rfl (Nat.le_of_ble_eq_true rfl) rfl ?_
    refine V_aload_n (pc := 15) C dX6_takesFigure_15 rfl 1 rfl ?_
    refine V_get (pc := 16) (v := .int (I 14)) C 0 6 14 hiX6_takesFigure_6 rfl rfl (by decide) wX6_takesFigure_k0 rfl dX6_takesFigure_16 ?_
    refine V_iconst (pc := 19) (v := 1) C dX6_takesFigure_19 rfl ?_
    refine jn1_ok (P := (fun (s35_0 : Int32) => VW X D 5 Q (KM Af X) (0, 0) (wM Y a I A F L) [(0, .ref (a 0)), (1, .int p0), (2, .int s14_0)] 35 [.int s35_0])) (fun s35_0 h => ?_) (fun J35 hJ35 h => ?_) h
    · refine V_istore_n (pc := 35) (lv' := [(3, .int s35_0), (0, .ref (a 0)), (1, .int p0), (2, .int s14_0)]) C dX6_takesFigure_35 rfl (Nat.le_of_ble_eq_true rfl) rfl ?_
      refine V_aload_n (pc := 36) C dX6_takesFigure_36 rfl 1 rfl ?_
      refine V_get (pc := 37) (v := .int (I 21)) C 0 6 21 hiX6_takesFigure_6 rfl rfl (by decide) wX6_takesFigure_k2 rfl dX6_takesFigure_37 ?_
      refine jn1_ok (P := (fun (s71_0 : Int32) => VW X D 5 Q (KM Af X) (0, 0) (wM Y a I A F L) [(0, .ref (a 0)), (1, .int p0), (2, .int s14_0)] 71 [.int s71_0])) (fun s71_0 h => ?_) (fun J71 hJ71 h => ?_) h
      · refine V_istore (pc := 71) (lv' := [(4, .int s71_0), (0, .ref (a 0)), (1, .int p0), (2, .int s14_0)]) C dX6_takesFigure_71 (Nat.le_of_ble_eq_true rfl) rfl ?_
        refine V_iload (pc := 73) C dX6_takesFigure_73 0 rfl ?_
        refine jn1_ok (P := (fun (s96_0 : Int32) => VW X D 5 Q (KM Af X) (0, 0) (wM Y a I A F L) [(0, .ref (a 0)), (1, .int p0)] 96 [.int s96_0])) (fun s96_0 h => ?_) (fun J96 hJ96 h => ?_) h
        · refine V_istore (pc := 96) (lv' := [(4, .int s96_0), (0, .ref (a 0)), (1, .int p0)]) C dX6_takesFigure_96 (Nat.le_of_ble_eq_true rfl) rfl ?_
          refine V_aload_n (pc := 98) C dX6_takesFigure_98 rfl 1 rfl ?_
          refine V_iload (pc := 99) C dX6_takesFigure_99 0 rfl ?_
          refine jn1_ok (P := (fun (s120_1 : Int32) => VW X D 5 Q (KM Af X) (0, 0) (wM Y a I A F L) [(0, .ref (a 0)), (4, .int s96_0)] 120 [.int s120_1, .ref (a 0)])) (fun s120_1 h => ?_) (fun J120 hJ120 h => ?_) h
          · refine V_put (pc := 120) (ws' := wM Y a (up I 22 s120_1) A F L) C 0 6 22 hiX6_takesFigure_6 tyX6_ok nmX6 rfl rfl (by decide) wX6_takesFigure_k3 rfl rfl rfl (Nat.le_of_ble_eq_true rfl) dX6_takesFigure_120 rfl ?_
            refine V_aload_n (pc := 123) C dX6_takesFigure_123 rfl 0 rfl ?_
            refine V_dup (pc := 124) C dX6_takesFigure_124 rfl ?_
            refine V_get (pc := 125) (v := .int (I 21)) C 0 6 21 hiX6_takesFigure_6 rfl rfl (by decide) wX6_takesFigure_k2 rfl dX6_takesFigure_125 ?_
            refine V_iload (pc := 128) C dX6_takesFigure_128 1 rfl ?_
            refine jn2_ok (P := (fun (s138_1 : Int32) (s138_2 : Int32) => VW X D 5 Q (KM Af X) (0, 0) (wM Y a (up I 22 s120_1) A F L) [(4, .int s96_0)] 138 [.int s138_2, .int s138_1, .ref (a 0)])) (fun s138_1 s138_2 h => ?_) (fun J138 hJ138 h => ?_) h
            · refine V_iadd (pc := 138) C dX6_takesFigure_138 ?_
              refine V_put (pc := 139) (ws' := wM Y a (up (up I 22 s120_1) 21 (s138_1 + s138_2)) A F L) C 0 6 21 hiX6_takesFigure_6 tyX6_ok nmX6 rfl rfl (by decide) wX6_takesFigure_k2 rfl rfl rfl (Nat.le_of_ble_eq_true rfl) dX6_takesFigure_139 rfl ?_
              refine V_iload (pc := 142) C dX6_takesFigure_142 0 rfl ?_
              obtain ⟨b144, h⟩ := chk_some h
              cases h
              subst hQ
              exact V_zretW C (isB_n b144) dX6_takesFigure_144
            refine V_if_eq (pc := 130) C 137 dX6_takesFigure_130 rfl (fun c130 => ?_) (fun c130 => ?_)
            · replace h := t_pos c130 h
              refine V_iconst (pc := 137) (v := 0) C dX6_takesFigure_137 rfl ?_
              exact V_sub [1] rfl (hJ138 _ _ h)
            · replace h := t_neg c130 h
              refine V_iconst (pc := 133) (v := 1) C dX6_takesFigure_133 rfl ?_
              refine V_goto (pc := 134) C 138 dX6_takesFigure_134 rfl ?_
              exact V_sub [1] rfl (hJ138 _ _ h)
          refine V_if_eq (pc := 101) C 116 dX6_takesFigure_101 rfl (fun c101 => ?_) (fun c101 => ?_)
          · replace h := t_pos c101 h
            refine V_aload_n (pc := 116) C dX6_takesFigure_116 rfl 1 rfl ?_
            refine V_get (pc := 117) (v := .int (I 22)) C 0 6 22 hiX6_takesFigure_6 rfl rfl (by decide) wX6_takesFigure_k3 rfl dX6_takesFigure_117 ?_
            exact V_sub [1, 0] rfl (hJ120 _ h)
          · replace h := t_neg c101 h
            refine V_bipush (pc := 104) (v := 10) C dX6_takesFigure_104 rfl ?_
            refine V_aload_n (pc := 106) C dX6_takesFigure_106 rfl 1 rfl ?_
            refine V_get (pc := 107) (v := .int (I 22)) C 0 6 22 hiX6_takesFigure_6 rfl rfl (by decide) wX6_takesFigure_k3 rfl dX6_takesFigure_107 ?_
            refine V_imul (pc := 110) C dX6_takesFigure_110 ?_
            refine V_iload_n (pc := 111) C dX6_takesFigure_111 rfl 2 rfl ?_
            refine V_iadd (pc := 112) C dX6_takesFigure_112 ?_
            refine V_goto (pc := 113) C 120 dX6_takesFigure_113 rfl ?_
            exact V_sub [1, 0] rfl (hJ120 _ h)
        refine V_if_eq (pc := 75) C 95 dX6_takesFigure_75 rfl (fun c75 => ?_) (fun c75 => ?_)
        · replace h := t_pos c75 h
          refine V_iconst (pc := 95) (v := 0) C dX6_takesFigure_95 rfl ?_
          exact V_sub [1, 2] rfl (hJ96 _ h)
        · replace h := t_neg c75 h
          refine V_bipush (pc := 78) (v := 10) C dX6_takesFigure_78 rfl ?_
          refine V_aload_n (pc := 80) C dX6_takesFigure_80 rfl 1 rfl ?_
          refine V_get (pc := 81) (v := .int (I 22)) C 0 6 22 hiX6_takesFigure_6 rfl rfl (by decide) wX6_takesFigure_k3 rfl dX6_takesFigure_81 ?_
          refine V_imul (pc := 84) C dX6_takesFigure_84 ?_
          refine V_iload_n (pc := 85) C dX6_takesFigure_85 rfl 2 rfl ?_
          refine V_iadd (pc := 86) C dX6_takesFigure_86 ?_
          refine V_iload_n (pc := 87) C dX6_takesFigure_87 rfl 3 rfl ?_
          refine V_icmp_gt (pc := 88) C 95 dX6_takesFigure_88 rfl (fun c88 => ?_) (fun c88 => ?_)
          · replace h := t_pos c88 h
            refine V_iconst (pc := 95) (v := 0) C dX6_takesFigure_95 rfl ?_
            exact V_sub [1, 2] rfl (hJ96 _ h)
          · replace h := t_neg c88 h
            refine V_iconst (pc := 91) (v := 1) C dX6_takesFigure_91 rfl ?_
            refine V_goto (pc := 92) C 96 dX6_takesFigure_92 rfl ?_
            exact V_sub [1, 2] rfl (hJ96 _ h)
      refine V_if_ne (pc := 40) C 59 dX6_takesFigure_40 rfl (fun c40 => ?_) (fun c40 => ?_)
      · replace h := t_neg c40 h
        refine V_aload_n (pc := 59) C dX6_takesFigure_59 rfl 1 rfl ?_
        refine V_get (pc := 60) (v := .int (I 22)) C 0 6 22 hiX6_takesFigure_6 rfl rfl (by decide) wX6_takesFigure_k3 rfl dX6_takesFigure_60 ?_
        refine V_if_le (pc := 63) C 70 dX6_takesFigure_63 rfl (fun c63 => ?_) (fun c63 => ?_)
        · replace h := t_pos c63 h
          refine V_iconst (pc := 70) (v := 0) C dX6_takesFigure_70 rfl ?_
          exact V_sub [1, 2, 3] rfl (hJ71 _ h)
        · replace h := t_neg c63 h
          refine V_iconst (pc := 66) (v := 1) C dX6_takesFigure_66 rfl ?_
          refine V_goto (pc := 67) C 71 dX6_takesFigure_67 rfl ?_
          exact V_sub [1, 2, 3] rfl (hJ71 _ h)
      · replace h := t_pos c40 h
        refine V_iload_n (pc := 43) C dX6_takesFigure_43 rfl 2 rfl ?_
        refine V_if_gt (pc := 44) C 51 dX6_takesFigure_44 rfl (fun c44 => ?_) (fun c44 => ?_)
        · replace h := t_pos c44 h
          refine V_iconst (pc := 51) (v := 1) C dX6_takesFigure_51 rfl ?_
          refine V_goto (pc := 52) C 71 dX6_takesFigure_52 rfl ?_
          exact V_sub [1, 2, 3] rfl (hJ71 _ h)
        · replace h := t_neg c44 h
          refine V_iload_n (pc := 47) C dX6_takesFigure_47 rfl 0 rfl ?_
          refine V_if_ne (pc := 48) C 55 dX6_takesFigure_48 rfl (fun c48 => ?_) (fun c48 => ?_)
          · replace h := t_neg c48 h
            refine V_iconst (pc := 55) (v := 0) C dX6_takesFigure_55 rfl ?_
            refine V_goto (pc := 56) C 71 dX6_takesFigure_56 rfl ?_
            exact V_sub [1, 2, 3] rfl (hJ71 _ h)
          · replace h := t_pos c48 h
            refine V_iconst (pc := 51) (v := 1) C dX6_takesFigure_51 rfl ?_
            refine V_goto (pc := 52) C 71 dX6_takesFigure_52 rfl ?_
            exact V_sub [1, 2, 3] rfl (hJ71 _ h)
    refine V_icmp_ne (pc := 20) C 34 dX6_takesFigure_20 rfl (fun c20 => ?_) (fun c20 => ?_)
    · replace h := t_neg c20 h
      refine V_iconst (pc := 34) (v := 0) C dX6_takesFigure_34 rfl ?_
      exact V_sub [1, 2, 0] rfl (hJ35 _ h)
    · replace h := t_pos c20 h
      refine V_aload_n (pc := 23) C dX6_takesFigure_23 rfl 1 rfl ?_
      refine V_get (pc := 24) (v := .int (I 17)) C 0 6 17 hiX6_takesFigure_6 rfl rfl (by decide) wX6_takesFigure_k4 rfl dX6_takesFigure_24 ?_
      refine V_if_ne (pc := 27) C 34 dX6_takesFigure_27 rfl (fun c27 => ?_) (fun c27 => ?_)
      · replace h := t_neg c27 h
        refine V_iconst (pc := 34) (v := 0) C dX6_takesFigure_34 rfl ?_
        exact V_sub [1, 2, 0] rfl (hJ35 _ h)
      · replace h := t_pos c27 h
        refine V_iconst (pc := 30) (v := 1) C dX6_takesFigure_30 rfl ?_
        refine V_goto (pc := 31) C 35 dX6_takesFigure_31 rfl ?_
        exact V_sub [1, 2, 0] rfl (hJ35 _ h)
  refine V_icmp_ne (pc := 5) C 12 dX6_takesFigure_5 rfl (fun c5 => ?_) (fun c5 => ?_)
  · replace h := t_neg c5 h
    refine V_bipush (pc := 12) (v := 99) C dX6_takesFigure_12 rfl ?_
    exact V_sub [0, 1] rfl (hJ14 _ h)
  · replace h := t_pos c5 h
    refine V_iconst (pc := 8) (v := 5) C dX6_takesFigure_8 rfl ?_
    refine V_goto (pc := 9) C 14 dX6_takesFigure_9 rfl ?_
    exact V_sub [0, 1] rfl (hJ14 _ h)
def X6_keepNumber (I : Nat → Int32) (A : Nat → Nat → Int32) (F : Nat → Int64) (L : Nat → Nat → Int64) : Option (Int32 × (Nat → Int32) × Int32 × (Nat → Int32)) :=
  if (I 14) = (1 : Int32) then (chk (inB (I 17) 3) (some (((I 17) + (1 : Int32)), (upd (A 18) (Int32.toNatClampNeg (I 17)) (I 22)), (I 19), (A 20)))) else (chk (inB (I 19) 8) (some ((I 17), (A 18), ((I 19) + (1 : Int32)), (upd (A 20) (Int32.toNatClampNeg (I 19)) (I 22)))))
theorem wX6_keepNumber_k0 : Cond.fieldLink RX6 69 (TX6 14).1 (TX6 14).2.1 (TX6 14).2.2.1 ∈ wsX6_keepNumber := by decide +kernel
theorem hiX6_keepNumber_6 : ∀ w ∈ u_ws RX6 TX6 33, w ∈ wsX6_keepNumber := fun _ h => List.mem_cons_of_mem _ (List.mem_append_right _ h)
theorem wX6_keepNumber_k2 : Cond.fieldLink RX6 37 (TX6 20).1 (TX6 20).2.1 (TX6 20).2.2.1 ∈ wsX6_keepNumber := by decide +kernel
theorem wX6_keepNumber_k3 : Cond.fieldLink RX6 85 (TX6 19).1 (TX6 19).2.1 (TX6 19).2.2.1 ∈ wsX6_keepNumber := by decide +kernel
theorem wX6_keepNumber_k4 : Cond.fieldLink RX6 75 (TX6 22).1 (TX6 22).2.1 (TX6 22).2.2.1 ∈ wsX6_keepNumber := by decide +kernel
theorem wX6_keepNumber_k5 : Cond.fieldLink RX6 34 (TX6 18).1 (TX6 18).2.1 (TX6 18).2.2.1 ∈ wsX6_keepNumber := by decide +kernel
theorem wX6_keepNumber_k6 : Cond.fieldLink RX6 82 (TX6 17).1 (TX6 17).2.1 (TX6 17).2.2.1 ∈ wsX6_keepNumber := by decide +kernel
theorem hdX6_keepNumber : yX6_keepNumber.cls ≠ "java/lang/invoke/MethodHandle" ∧ yX6_keepNumber.cls ≠ "java/lang/invoke/VarHandle" ∧ (parseMethodDescriptor yX6_keepNumber.desc).map (fun d => d.parameters.length) = some 0 := by decide +kernel
set_option maxHeartbeats 4000000 in
set_option maxRecDepth 100000 in
theorem X6_keepNumber_ok {l : Launch} {D : va_G} {Y : Nat → ClassId} {a : Nat → Nat} {I : Nat → Int32} {A : Nat → Nat → Int32} {F : Nat → Int64} {L : Nat → Nat → Int64} {uI17 : Int32} {uA18 : Nat → Int32} {uI19 : Int32} {uA20 : Nat → Int32} (h : X6_keepNumber I A F L = some (uI17, uA18, uI19, uA20)) : MW l yX6_keepNumber wsX6_keepNumber 0 0 D Y [.ref (a 0)] (wM Y a I A F L) (wM Y a (up (up I 17 uI17) 19 uI19) (up (up A 18 uA18) 20 uA20) F L) none := by
  refine MW_of (cc := cX6_keepNumber) (nL := 1) (ret := none) (lv0 := [(0, .ref (a 0))]) (by decide) rfl (Nat.le_of_ble_eq_true rfl) rfl rfl (fun X Af Q C hA hQ => ?_)
  unfold X6_keepNumber at h
  refine V_aload_n (pc := 0) C dX6_keepNumber_0 rfl 0 rfl ?_
  refine V_get (pc := 1) (v := .int (I 14)) C 0 6 14 hiX6_keepNumber_6 rfl rfl (by decide) wX6_keepNumber_k0 rfl dX6_keepNumber_1 ?_
  refine V_iconst (pc := 4) (v := 1) C dX6_keepNumber_4 rfl ?_
  refine V_icmp_ne (pc := 5) C 34 dX6_keepNumber_5 rfl (fun c5 => ?_) (fun c5 => ?_)
  · replace h := t_neg c5 h
    refine V_aload_n (pc := 34) C dX6_keepNumber_34 rfl 0 rfl ?_
    refine V_get (pc := 35) (v := .ref (a 10)) C 0 6 20 hiX6_keepNumber_6 rfl rfl (by decide) wX6_keepNumber_k2 rfl dX6_keepNumber_35 ?_
    refine V_aload_n (pc := 38) C dX6_keepNumber_38 rfl 0 rfl ?_
    refine V_get (pc := 39) (v := .int (I 19)) C 0 6 19 hiX6_keepNumber_6 rfl rfl (by decide) wX6_keepNumber_k3 rfl dX6_keepNumber_39 ?_
    refine V_aload_n (pc := 42) C dX6_keepNumber_42 rfl 0 rfl ?_
    refine V_get (pc := 43) (v := .int (I 22)) C 0 6 22 hiX6_keepNumber_6 rfl rfl (by decide) wX6_keepNumber_k4 rfl dX6_keepNumber_43 ?_
    obtain ⟨b46, h⟩ := chk_some h
    refine V_iast (pc := 46) (ws' := wM Y a I (up A 20 (upd (A 20) (Int32.toNatClampNeg (I 19)) (I 22))) F L) C 10 rfl b46 dX6_keepNumber_46 rfl ?_
    refine V_aload_n (pc := 47) C dX6_keepNumber_47 rfl 0 rfl ?_
    refine V_dup (pc := 48) C dX6_keepNumber_48 rfl ?_
    refine V_get (pc := 49) (v := .int (I 19)) C 0 6 19 hiX6_keepNumber_6 rfl rfl (by decide) wX6_keepNumber_k3 rfl dX6_keepNumber_49 ?_
    refine V_iconst (pc := 52) (v := 1) C dX6_keepNumber_52 rfl ?_
    refine V_iadd (pc := 53) C dX6_keepNumber_53 ?_
    refine V_put (pc := 54) (ws' := wM Y a (up I 19 ((I 19) + (1 : Int32))) (up A 20 (upd (A 20) (Int32.toNatClampNeg (I 19)) (I 22))) F L) C 0 6 19 hiX6_keepNumber_6 tyX6_ok nmX6 rfl rfl (by decide) wX6_keepNumber_k3 rfl rfl rfl (Nat.le_of_ble_eq_true rfl) dX6_keepNumber_54 rfl ?_
    cases h
    subst hQ
    exact V_vretW C dX6_keepNumber_57
  · replace h := t_pos c5 h
    refine V_aload_n (pc := 8) C dX6_keepNumber_8 rfl 0 rfl ?_
    refine V_get (pc := 9) (v := .ref (a 9)) C 0 6 18 hiX6_keepNumber_6 rfl rfl (by decide) wX6_keepNumber_k5 rfl dX6_keepNumber_9 ?_
    refine V_aload_n (pc := 12) C dX6_keepNumber_12 rfl 0 rfl ?_
    refine V_get (pc := 13) (v := .int (I 17)) C 0 6 17 hiX6_keepNumber_6 rfl rfl (by decide) wX6_keepNumber_k6 rfl dX6_keepNumber_13 ?_
    refine V_aload_n (pc := 16) C dX6_keepNumber_16 rfl 0 rfl ?_
    refine V_get (pc := 17) (v := .int (I 22)) C 0 6 22 hiX6_keepNumber_6 rfl rfl (by decide) wX6_keepNumber_k4 rfl dX6_keepNumber_17 ?_
    obtain ⟨b20, h⟩ := chk_some h
    refine V_iast (pc := 20) (ws' := wM Y a I (up A 18 (upd (A 18) (Int32.toNatClampNeg (I 17)) (I 22))) F L) C 9 rfl b20 dX6_keepNumber_20 rfl ?_
    refine V_aload_n (pc := 21) C dX6_keepNumber_21 rfl 0 rfl ?_
    refine V_dup (pc := 22) C dX6_keepNumber_22 rfl ?_
    refine V_get (pc := 23) (v := .int (I 17)) C 0 6 17 hiX6_keepNumber_6 rfl rfl (by decide) wX6_keepNumber_k6 rfl dX6_keepNumber_23 ?_
    refine V_iconst (pc := 26) (v := 1) C dX6_keepNumber_26 rfl ?_
    refine V_iadd (pc := 27) C dX6_keepNumber_27 ?_
    refine V_put (pc := 28) (ws' := wM Y a (up I 17 ((I 17) + (1 : Int32))) (up A 18 (upd (A 18) (Int32.toNatClampNeg (I 17)) (I 22))) F L) C 0 6 17 hiX6_keepNumber_6 tyX6_ok nmX6 rfl rfl (by decide) wX6_keepNumber_k6 rfl rfl rfl (Nat.le_of_ble_eq_true rfl) dX6_keepNumber_28 rfl ?_
    refine V_goto (pc := 31) C 57 dX6_keepNumber_31 rfl ?_
    cases h
    subst hQ
    exact V_vretW C dX6_keepNumber_57
def X6_takesInRow (I : Nat → Int32) (A : Nat → Nat → Int32) (F : Nat → Int64) (L : Nat → Nat → Int64) (p0 : Int32) : Option (Int32 × Int32 × Int32 × (Nat → Int32) × Int32 × (Nat → Int32) × Int32 × Int32) :=
  ob1 (X6_within p0 (48 : Int32) (57 : Int32)) fun r5 =>
  if r5 = 0 then (jn1 (fun (s39_0 : Int32) => jn1 (fun (s71_0 : Int32) => jn1 (fun (s91_0 : Int32) => if (I 21) = 0 then (some ((0 : Int32), (I 14), (I 17), (A 18), (I 19), (A 20), (I 21), (I 22))) else (jn0 (ob4 (X6_keepNumber I A F L) fun oI17_112 oA18_112 oI19_112 oA20_112 =>
  jn1 (fun (s129_1 : Int32) => ob4 (X6_goesTo (up (up I 17 oI17_112) 19 oI19_112) (up (up A 18 oA18_112) 20 oA20_112) F L s129_1) fun r129 oI14_129 oI21_129 oI22_129 =>
  chk (isB r129) (some (r129, oI14_129, oI17_112, oA18_112, oI19_112, oA20_112, oI21_129, oI22_129))) fun J129 =>
  if s91_0 = 0 then (J129 (I 14)) else (J129 (4 : Int32))) fun J111 =>
  if s71_0 = 0 then (if s91_0 = 0 then (some ((0 : Int32), (I 14), (I 17), (A 18), (I 19), (A 20), (I 21), (I 22))) else (J111)) else (J111))) fun J91 =>
  if p0 = (58 : Int32) then (if (I 14) = (1 : Int32) then (J91 (1 : Int32)) else (J91 (0 : Int32))) else (J91 (0 : Int32))) fun J71 =>
  if p0 = (44 : Int32) then (jn2 (fun (s63_0 : Int32) (s63_1 : Int32) => if s63_1 ≤ s63_0 then (J71 (0 : Int32)) else (J71 (1 : Int32))) fun J63 =>
  if (I 14) = (1 : Int32) then (J63 (s39_0 + (1 : Int32)) (3 : Int32)) else (J63 (s39_0 + (1 : Int32)) (8 : Int32))) else (J71 (0 : Int32))) fun J39 =>
  if (I 14) = (1 : Int32) then (J39 (I 17)) else (J39 (I 19))) else (ob3 (X6_takesFigure I A F L (p0 - (48 : Int32))) fun r16 oI21_16 oI22_16 =>
  chk (isB r16) (some (r16, (I 14), (I 17), (A 18), (I 19), (A 20), oI21_16, oI22_16)))
theorem wX6_takesInRow_k0 : Cond.fieldLink RX6 69 (TX6 14).1 (TX6 14).2.1 (TX6 14).2.2.1 ∈ wsX6_takesInRow := by decide +kernel
theorem hiX6_takesInRow_6 : ∀ w ∈ u_ws RX6 TX6 33, w ∈ wsX6_takesInRow := fun _ h => List.mem_cons_of_mem _ (List.mem_append_right _ h)
theorem wX6_takesInRow_k2 : Cond.fieldLink RX6 72 (TX6 21).1 (TX6 21).2.1 (TX6 21).2.2.1 ∈ wsX6_takesInRow := by decide +kernel
theorem wX6_takesInRow_k3 : Cond.fieldLink RX6 85 (TX6 19).1 (TX6 19).2.1 (TX6 19).2.2.1 ∈ wsX6_takesInRow := by decide +kernel
theorem wX6_takesInRow_k4 : Cond.fieldLink RX6 82 (TX6 17).1 (TX6 17).2.1 (TX6 17).2.2.1 ∈ wsX6_takesInRow := by decide +kernel
theorem hdX6_takesInRow : yX6_takesInRow.cls ≠ "java/lang/invoke/MethodHandle" ∧ yX6_takesInRow.cls ≠ "java/lang/invoke/VarHandle" ∧ (parseMethodDescriptor yX6_takesInRow.desc).map (fun d => d.parameters.length) = some 1 := by decide +kernel
set_option maxHeartbeats 4000000 in
set_option maxRecDepth 100000 in
theorem X6_takesInRow_ok {l : Launch} {D : va_G} {Y : Nat → ClassId} {a : Nat → Nat} {I : Nat → Int32} {A : Nat → Nat → Int32} {F : Nat → Int64} {L : Nat → Nat → Int64} {p0 : Int32} {r : Int32} {uI14 : Int32} {uI17 : Int32} {uA18 : Nat → Int32} {uI19 : Int32} {uA20 : Nat → Int32} {uI21 : Int32} {uI22 : Int32} (h : X6_takesInRow I A F L p0 = some (r, uI14, uI17, uA18, uI19, uA20, uI21, uI22)) : MW l yX6_takesInRow wsX6_takesInRow 1 24 D Y [.ref (a 0), .int p0] (wM Y a I A F L) (wM Y a (up (up (up (up (up I 14 uI14) 17 uI17) 19 uI19) 21 uI21) 22 uI22) (up (up A 18 uA18) 20 uA20) F L) (some (.int r)) := by
  refine MW_of (cc := cX6_takesInRow) (nL := 5) (ret := some .boolean) (lv0 := [(0, .ref (a 0)), (1, .int p0)]) (by decide) rfl (Nat.le_of_ble_eq_true rfl) rfl rfl (fun X Af Q C hA hQ => ?_)
  unfold X6_takesInRow at h
  refine V_iload_n (pc := 0) C dX6_takesInRow_0 rfl 1 rfl ?_
  refine V_bipush (pc := 1) (v := 48) C dX6_takesInRow_1 rfl ?_
  refine V_bipush (pc := 3) (v := 57) C dX6_takesInRow_3 rfl ?_
  obtain ⟨r5, hq, h⟩ := ob1_some h
  refine V_callSR (pc := 5) (rest := []) (st2 := [.int r5]) C (X6_within_ok hq) gX6_takesInRow_X6_within rfl hdX6_within ⟨Nat.le_of_ble_eq_true rfl, Nat.le_of_ble_eq_true rfl⟩ ⟨Nat.le_refl _, Nat.le_refl _⟩ [] rfl rfl (Nat.le_of_ble_eq_true rfl) dX6_takesInRow_5 rfl ?_
  refine V_if_eq (pc := 8) C 20 dX6_takesInRow_8 rfl (fun c8 => ?_) (fun c8 => ?_)
  · replace h := t_pos c8 h
    refine V_aload_n (pc := 20) C dX6_takesInRow_20 rfl 0 rfl ?_
    refine V_get (pc := 21) (v := .int (I 14)) C 0 6 14 hiX6_takesInRow_6 rfl rfl (by decide) wX6_takesInRow_k0 rfl dX6_takesInRow_21 ?_
    refine V_iconst (pc := 24) (v := 1) C dX6_takesInRow_24 rfl ?_
    refine jn1_ok (P := (fun (s39_0 : Int32) => VW X D 5 Q (KM Af X) (0, 0) (wM Y a I A F L) [(0, .ref (a 0)), (1, .int p0)] 39 [.int s39_0])) (fun s39_0 h => ?_) (fun J39 hJ39 h => ?_) h
    · refine V_istore_n (pc := 39) (lv' := [(2, .int s39_0), (0, .ref (a 0)), (1, .int p0)]) C dX6_takesInRow_39 rfl (Nat.le_of_ble_eq_true rfl) rfl ?_
      refine V_iload_n (pc := 40) C dX6_takesInRow_40 rfl 2 rfl ?_
      refine V_bipush (pc := 41) (v := 44) C dX6_takesInRow_41 rfl ?_
      refine jn1_ok (P := (fun (s71_0 : Int32) => VW X D 5 Q (KM Af X) (0, 0) (wM Y a I A F L) [(0, .ref (a 0)), (1, .int p0)] 71 [.int s71_0])) (fun s71_0 h => ?_) (fun J71 hJ71 h => ?_) h
      · refine V_istore_n (pc := 71) (lv' := [(3, .int s71_0), (0, .ref (a 0)), (1, .int p0)]) C dX6_takesInRow_71 rfl (Nat.le_of_ble_eq_true rfl) rfl ?_
        refine V_iload_n (pc := 72) C dX6_takesInRow_72 rfl 2 rfl ?_
        refine V_bipush (pc := 73) (v := 58) C dX6_takesInRow_73 rfl ?_
        refine jn1_ok (P := (fun (s91_0 : Int32) => VW X D 5 Q (KM Af X) (0, 0) (wM Y a I A F L) [(0, .ref (a 0)), (3, .int s71_0)] 91 [.int s91_0])) (fun s91_0 h => ?_) (fun J91 hJ91 h => ?_) h
        · refine V_istore (pc := 91) (lv' := [(4, .int s91_0), (0, .ref (a 0)), (3, .int s71_0)]) C dX6_takesInRow_91 (Nat.le_of_ble_eq_true rfl) rfl ?_
          refine V_aload_n (pc := 93) C dX6_takesInRow_93 rfl 1 rfl ?_
          refine V_get (pc := 94) (v := .int (I 21)) C 0 6 21 hiX6_takesInRow_6 rfl rfl (by decide) wX6_takesInRow_k2 rfl dX6_takesInRow_94 ?_
          refine V_if_eq (pc := 97) C 109 dX6_takesInRow_97 rfl (fun c97 => ?_) (fun c97 => ?_)
          · replace h := t_pos c97 h
            refine V_iconst (pc := 109) (v := 0) C dX6_takesInRow_109 rfl ?_
            cases h
            subst hQ
            exact V_zretW C (by decide) dX6_takesInRow_110
          · replace h := t_neg c97 h
            refine V_iload_n (pc := 100) C dX6_takesInRow_100 rfl 2 rfl ?_
            refine jn0_ok (P := (VW X D 5 Q (KM Af X) (0, 0) (wM Y a I A F L) [(0, .ref (a 0)), (4, .int s91_0)] 111 [])) (fun h => ?_) (fun J111 hJ111 h => ?_) h
            · refine V_aload_n (pc := 111) C dX6_takesInRow_111 rfl 0 rfl ?_
              obtain ⟨oI17_112, oA18_112, oI19_112, oA20_112, hq, h⟩ := ob4_some h
              refine V_callVW0 (pc := 112) (rest := []) (st2 := []) (ws' := wM Y a (up (up I 17 oI17_112) 19 oI19_112) (up (up A 18 oA18_112) 20 oA20_112) F L) C hA (X6_keepNumber_ok (a := a) hq) gX6_takesInRow_X6_keepNumber rfl ⟨rfl, hdX6_keepNumber⟩ ⟨Nat.le_of_ble_eq_true rfl, Nat.le_of_ble_eq_true rfl⟩ ⟨Nat.le_refl _, Nat.le_refl _⟩ 0 6 rfl rfl rfl (Nat.le_of_ble_eq_true rfl) dX6_takesInRow_112 rfl rfl ?_
              refine V_aload_n (pc := 115) C dX6_takesInRow_115 rfl 0 rfl ?_
              refine V_iload (pc := 116) C dX6_takesInRow_116 1 rfl ?_
              refine jn1_ok (P := (fun (s129_1 : Int32) => VW X D 5 Q (KM Af X) (0, 0) (wM Y a (up (up I 17 oI17_112) 19 oI19_112) (up (up A 18 oA18_112) 20 oA20_112) F L) [] 129 [.int s129_1, .ref (a 0)])) (fun s129_1 h => ?_) (fun J129 hJ129 h => ?_) h
              · obtain ⟨r129, oI14_129, oI21_129, oI22_129, hq, h⟩ := ob4_some h
                refine V_callVW0 (pc := 129) (rest := []) (st2 := [.int r129]) (ws' := wM Y a (up (up (up (up (up I 17 oI17_112) 19 oI19_112) 14 oI14_129) 21 oI21_129) 22 oI22_129) (up (up A 18 oA18_112) 20 oA20_112) F L) C hA (X6_goesTo_ok (a := a) hq) gX6_takesInRow_X6_goesTo rfl ⟨rfl, hdX6_goesTo⟩ ⟨Nat.le_of_ble_eq_true rfl, Nat.le_of_ble_eq_true rfl⟩ ⟨Nat.le_refl _, Nat.le_refl _⟩ 0 6 rfl rfl rfl (Nat.le_of_ble_eq_true rfl) dX6_takesInRow_129 rfl rfl ?_
                obtain ⟨b132, h⟩ := chk_some h
                cases h
                subst hQ
                exact V_zretW C (isB_n b132) dX6_takesInRow_132
              refine V_if_eq (pc := 118) C 125 dX6_takesInRow_118 rfl (fun c118 => ?_) (fun c118 => ?_)
              · replace h := t_pos c118 h
                refine V_aload_n (pc := 125) C dX6_takesInRow_125 rfl 0 rfl ?_
                refine V_get (pc := 126) (v := .int (I 14)) C 0 6 14 hiX6_takesInRow_6 rfl rfl (by decide) wX6_takesInRow_k0 rfl dX6_takesInRow_126 ?_
                exact V_sub [] rfl (hJ129 _ h)
              · replace h := t_neg c118 h
                refine V_iconst (pc := 121) (v := 4) C dX6_takesInRow_121 rfl ?_
                refine V_goto (pc := 122) C 129 dX6_takesInRow_122 rfl ?_
                exact V_sub [] rfl (hJ129 _ h)
            refine V_if_ne (pc := 101) C 111 dX6_takesInRow_101 rfl (fun c101 => ?_) (fun c101 => ?_)
            · replace h := t_neg c101 h
              exact V_sub [1, 0] rfl (hJ111 h)
            · replace h := t_pos c101 h
              refine V_iload (pc := 104) C dX6_takesInRow_104 0 rfl ?_
              refine V_if_ne (pc := 106) C 111 dX6_takesInRow_106 rfl (fun c106 => ?_) (fun c106 => ?_)
              · replace h := t_neg c106 h
                exact V_sub [1, 0] rfl (hJ111 h)
              · replace h := t_pos c106 h
                refine V_iconst (pc := 109) (v := 0) C dX6_takesInRow_109 rfl ?_
                cases h
                subst hQ
                exact V_zretW C (by decide) dX6_takesInRow_110
        refine V_icmp_ne (pc := 75) C 90 dX6_takesInRow_75 rfl (fun c75 => ?_) (fun c75 => ?_)
        · replace h := t_neg c75 h
          refine V_iconst (pc := 90) (v := 0) C dX6_takesInRow_90 rfl ?_
          exact V_sub [1, 0] rfl (hJ91 _ h)
        · replace h := t_pos c75 h
          refine V_aload_n (pc := 78) C dX6_takesInRow_78 rfl 1 rfl ?_
          refine V_get (pc := 79) (v := .int (I 14)) C 0 6 14 hiX6_takesInRow_6 rfl rfl (by decide) wX6_takesInRow_k0 rfl dX6_takesInRow_79 ?_
          refine V_iconst (pc := 82) (v := 1) C dX6_takesInRow_82 rfl ?_
          refine V_icmp_ne (pc := 83) C 90 dX6_takesInRow_83 rfl (fun c83 => ?_) (fun c83 => ?_)
          · replace h := t_neg c83 h
            refine V_iconst (pc := 90) (v := 0) C dX6_takesInRow_90 rfl ?_
            exact V_sub [1, 0] rfl (hJ91 _ h)
          · replace h := t_pos c83 h
            refine V_iconst (pc := 86) (v := 1) C dX6_takesInRow_86 rfl ?_
            refine V_goto (pc := 87) C 91 dX6_takesInRow_87 rfl ?_
            exact V_sub [1, 0] rfl (hJ91 _ h)
      refine V_icmp_ne (pc := 43) C 70 dX6_takesInRow_43 rfl (fun c43 => ?_) (fun c43 => ?_)
      · replace h := t_neg c43 h
        refine V_iconst (pc := 70) (v := 0) C dX6_takesInRow_70 rfl ?_
        exact V_sub [1, 2] rfl (hJ71 _ h)
      · replace h := t_pos c43 h
        refine V_iload_n (pc := 46) C dX6_takesInRow_46 rfl 0 rfl ?_
        refine V_iconst (pc := 47) (v := 1) C dX6_takesInRow_47 rfl ?_
        refine V_iadd (pc := 48) C dX6_takesInRow_48 ?_
        refine V_aload_n (pc := 49) C dX6_takesInRow_49 rfl 1 rfl ?_
        refine V_get (pc := 50) (v := .int (I 14)) C 0 6 14 hiX6_takesInRow_6 rfl rfl (by decide) wX6_takesInRow_k0 rfl dX6_takesInRow_50 ?_
        refine V_iconst (pc := 53) (v := 1) C dX6_takesInRow_53 rfl ?_
        refine jn2_ok (P := (fun (s63_0 : Int32) (s63_1 : Int32) => VW X D 5 Q (KM Af X) (0, 0) (wM Y a I A F L) [(0, .ref (a 0)), (1, .int p0)] 63 [.int s63_1, .int s63_0])) (fun s63_0 s63_1 h => ?_) (fun J63 hJ63 h => ?_) h
        · refine V_icmp_ge (pc := 63) C 70 dX6_takesInRow_63 rfl (fun c63 => ?_) (fun c63 => ?_)
          · replace h := t_pos c63 h
            refine V_iconst (pc := 70) (v := 0) C dX6_takesInRow_70 rfl ?_
            exact V_sub [0, 1] rfl (hJ71 _ h)
          · replace h := t_neg c63 h
            refine V_iconst (pc := 66) (v := 1) C dX6_takesInRow_66 rfl ?_
            refine V_goto (pc := 67) C 71 dX6_takesInRow_67 rfl ?_
            exact V_sub [0, 1] rfl (hJ71 _ h)
        refine V_icmp_ne (pc := 54) C 61 dX6_takesInRow_54 rfl (fun c54 => ?_) (fun c54 => ?_)
        · replace h := t_neg c54 h
          refine V_bipush (pc := 61) (v := 8) C dX6_takesInRow_61 rfl ?_
          exact V_sub [1, 2] rfl (hJ63 _ _ h)
        · replace h := t_pos c54 h
          refine V_iconst (pc := 57) (v := 3) C dX6_takesInRow_57 rfl ?_
          refine V_goto (pc := 58) C 63 dX6_takesInRow_58 rfl ?_
          exact V_sub [1, 2] rfl (hJ63 _ _ h)
    refine V_icmp_ne (pc := 25) C 35 dX6_takesInRow_25 rfl (fun c25 => ?_) (fun c25 => ?_)
    · replace h := t_neg c25 h
      refine V_aload_n (pc := 35) C dX6_takesInRow_35 rfl 0 rfl ?_
      refine V_get (pc := 36) (v := .int (I 19)) C 0 6 19 hiX6_takesInRow_6 rfl rfl (by decide) wX6_takesInRow_k3 rfl dX6_takesInRow_36 ?_
      exact V_sub [0, 1] rfl (hJ39 _ h)
    · replace h := t_pos c25 h
      refine V_aload_n (pc := 28) C dX6_takesInRow_28 rfl 0 rfl ?_
      refine V_get (pc := 29) (v := .int (I 17)) C 0 6 17 hiX6_takesInRow_6 rfl rfl (by decide) wX6_takesInRow_k4 rfl dX6_takesInRow_29 ?_
      refine V_goto (pc := 32) C 39 dX6_takesInRow_32 rfl ?_
      exact V_sub [0, 1] rfl (hJ39 _ h)
  · replace h := t_neg c8 h
    refine V_aload_n (pc := 11) C dX6_takesInRow_11 rfl 0 rfl ?_
    refine V_iload_n (pc := 12) C dX6_takesInRow_12 rfl 1 rfl ?_
    refine V_bipush (pc := 13) (v := 48) C dX6_takesInRow_13 rfl ?_
    refine V_isub (pc := 15) C dX6_takesInRow_15 ?_
    obtain ⟨r16, oI21_16, oI22_16, hq, h⟩ := ob3_some h
    refine V_callVW0 (pc := 16) (rest := []) (st2 := [.int r16]) (ws' := wM Y a (up (up I 21 oI21_16) 22 oI22_16) A F L) C hA (X6_takesFigure_ok (a := a) hq) gX6_takesInRow_X6_takesFigure rfl ⟨rfl, hdX6_takesFigure⟩ ⟨Nat.le_of_ble_eq_true rfl, Nat.le_of_ble_eq_true rfl⟩ ⟨Nat.le_refl _, Nat.le_refl _⟩ 0 6 rfl rfl rfl (Nat.le_of_ble_eq_true rfl) dX6_takesInRow_16 rfl rfl ?_
    obtain ⟨b19, h⟩ := chk_some h
    cases h
    subst hQ
    exact V_zretW C (isB_n b19) dX6_takesInRow_19
def X6_takes (I : Nat → Int32) (A : Nat → Nat → Int32) (F : Nat → Int64) (L : Nat → Nat → Int64) (p0 : Int32) : Option (Int32 × Int32 × Int32 × Int32 × Int32 × (Nat → Int32) × Int32 × (Nat → Int32) × Int32 × Int32) :=
  if (I 14) = 0 then (ob7 (X6_begins I A F L p0) fun r9 oI14_9 oI15_9 oI17_9 oI19_9 oI21_9 oI22_9 =>
  chk (isB r9) (some (r9, oI14_9, oI15_9, (I 16), oI17_9, (A 18), oI19_9, (A 20), oI21_9, oI22_9))) else (if (I 14) = (2 : Int32) then (ob1 (X6_within (p0 - (48 : Int32)) (1 : Int32) (4 : Int32)) fun r35 =>
  if r35 = 0 then (some ((0 : Int32), (I 14), (I 15), (p0 - (48 : Int32)), (I 17), (A 18), (I 19), (A 20), (I 21), (I 22))) else (ob4 (X6_goesTo (up I 16 (p0 - (48 : Int32))) A F L (3 : Int32)) fun r43 oI14_43 oI21_43 oI22_43 =>
  if r43 = 0 then (some ((0 : Int32), oI14_43, (I 15), (p0 - (48 : Int32)), (I 17), (A 18), (I 19), (A 20), oI21_43, oI22_43)) else (some ((1 : Int32), oI14_43, (I 15), (p0 - (48 : Int32)), (I 17), (A 18), (I 19), (A 20), oI21_43, oI22_43)))) else (if (I 14) = (3 : Int32) then (if p0 = (58 : Int32) then (ob4 (X6_goesTo I A F L (4 : Int32)) fun r71 oI14_71 oI21_71 oI22_71 =>
  if r71 = 0 then (some ((0 : Int32), oI14_71, (I 15), (I 16), (I 17), (A 18), (I 19), (A 20), oI21_71, oI22_71)) else (some ((1 : Int32), oI14_71, (I 15), (I 16), (I 17), (A 18), (I 19), (A 20), oI21_71, oI22_71))) else (some ((0 : Int32), (I 14), (I 15), (I 16), (I 17), (A 18), (I 19), (A 20), (I 21), (I 22)))) else (ob8 (X6_takesInRow I A F L p0) fun r85 oI14_85 oI17_85 oA18_85 oI19_85 oA20_85 oI21_85 oI22_85 =>
  chk (isB r85) (some (r85, oI14_85, (I 15), (I 16), oI17_85, oA18_85, oI19_85, oA20_85, oI21_85, oI22_85)))))
theorem wX6_takes_k0 : Cond.fieldLink RX6 69 (TX6 14).1 (TX6 14).2.1 (TX6 14).2.2.1 ∈ wsX6_takes := by decide +kernel
theorem hiX6_takes_6 : ∀ w ∈ u_ws RX6 TX6 33, w ∈ wsX6_takes := fun _ h => List.mem_cons_of_mem _ (List.mem_append_right _ h)
theorem wX6_takes_k2 : Cond.fieldLink RX6 101 (TX6 16).1 (TX6 16).2.1 (TX6 16).2.2.1 ∈ wsX6_takes := by decide +kernel
theorem hdX6_takes : yX6_takes.cls ≠ "java/lang/invoke/MethodHandle" ∧ yX6_takes.cls ≠ "java/lang/invoke/VarHandle" ∧ (parseMethodDescriptor yX6_takes.desc).map (fun d => d.parameters.length) = some 1 := by decide +kernel
set_option maxHeartbeats 4000000 in
set_option maxRecDepth 100000 in
theorem X6_takes_ok {l : Launch} {D : va_G} {Y : Nat → ClassId} {a : Nat → Nat} {I : Nat → Int32} {A : Nat → Nat → Int32} {F : Nat → Int64} {L : Nat → Nat → Int64} {p0 : Int32} {r : Int32} {uI14 : Int32} {uI15 : Int32} {uI16 : Int32} {uI17 : Int32} {uA18 : Nat → Int32} {uI19 : Int32} {uA20 : Nat → Int32} {uI21 : Int32} {uI22 : Int32} (h : X6_takes I A F L p0 = some (r, uI14, uI15, uI16, uI17, uA18, uI19, uA20, uI21, uI22)) : MW l yX6_takes wsX6_takes 2 48 D Y [.ref (a 0), .int p0] (wM Y a I A F L) (wM Y a (up (up (up (up (up (up (up I 14 uI14) 15 uI15) 16 uI16) 17 uI17) 19 uI19) 21 uI21) 22 uI22) (up (up A 18 uA18) 20 uA20) F L) (some (.int r)) := by
  refine MW_of (cc := cX6_takes) (nL := 2) (ret := some .boolean) (lv0 := [(0, .ref (a 0)), (1, .int p0)]) (by decide) rfl (Nat.le_of_ble_eq_true rfl) rfl rfl (fun X Af Q C hA hQ => ?_)
  unfold X6_takes at h
  refine V_aload_n (pc := 0) C dX6_takes_0 rfl 0 rfl ?_
  refine V_get (pc := 1) (v := .int (I 14)) C 0 6 14 hiX6_takes_6 rfl rfl (by decide) wX6_takes_k0 rfl dX6_takes_1 ?_
  refine V_if_ne (pc := 4) C 13 dX6_takes_4 rfl (fun c4 => ?_) (fun c4 => ?_)
  · replace h := t_neg c4 h
    refine V_aload_n (pc := 13) C dX6_takes_13 rfl 0 rfl ?_
    refine V_get (pc := 14) (v := .int (I 14)) C 0 6 14 hiX6_takes_6 rfl rfl (by decide) wX6_takes_k0 rfl dX6_takes_14 ?_
    refine V_iconst (pc := 17) (v := 2) C dX6_takes_17 rfl ?_
    refine V_icmp_ne (pc := 18) C 55 dX6_takes_18 rfl (fun c18 => ?_) (fun c18 => ?_)
    · replace h := t_neg c18 h
      refine V_aload_n (pc := 55) C dX6_takes_55 rfl 0 rfl ?_
      refine V_get (pc := 56) (v := .int (I 14)) C 0 6 14 hiX6_takes_6 rfl rfl (by decide) wX6_takes_k0 rfl dX6_takes_56 ?_
      refine V_iconst (pc := 59) (v := 3) C dX6_takes_59 rfl ?_
      refine V_icmp_ne (pc := 60) C 83 dX6_takes_60 rfl (fun c60 => ?_) (fun c60 => ?_)
      · replace h := t_neg c60 h
        refine V_aload_n (pc := 83) C dX6_takes_83 rfl 0 rfl ?_
        refine V_iload_n (pc := 84) C dX6_takes_84 rfl 1 rfl ?_
        obtain ⟨r85, oI14_85, oI17_85, oA18_85, oI19_85, oA20_85, oI21_85, oI22_85, hq, h⟩ := ob8_some h
        refine V_callVW0 (pc := 85) (rest := []) (st2 := [.int r85]) (ws' := wM Y a (up (up (up (up (up I 14 oI14_85) 17 oI17_85) 19 oI19_85) 21 oI21_85) 22 oI22_85) (up (up A 18 oA18_85) 20 oA20_85) F L) C hA (X6_takesInRow_ok (a := a) hq) gX6_takes_X6_takesInRow rfl ⟨rfl, hdX6_takesInRow⟩ ⟨Nat.le_of_ble_eq_true rfl, Nat.le_of_ble_eq_true rfl⟩ ⟨Nat.le_refl _, Nat.le_refl _⟩ 0 6 rfl rfl rfl (Nat.le_of_ble_eq_true rfl) dX6_takes_85 rfl rfl ?_
        obtain ⟨b88, h⟩ := chk_some h
        cases h
        subst hQ
        exact V_zretW C (isB_n b88) dX6_takes_88
      · replace h := t_pos c60 h
        refine V_iload_n (pc := 63) C dX6_takes_63 rfl 1 rfl ?_
        refine V_bipush (pc := 64) (v := 58) C dX6_takes_64 rfl ?_
        refine V_icmp_ne (pc := 66) C 81 dX6_takes_66 rfl (fun c66 => ?_) (fun c66 => ?_)
        · replace h := t_neg c66 h
          refine V_iconst (pc := 81) (v := 0) C dX6_takes_81 rfl ?_
          cases h
          subst hQ
          exact V_zretW C (by decide) dX6_takes_82
        · replace h := t_pos c66 h
          refine V_aload_n (pc := 69) C dX6_takes_69 rfl 0 rfl ?_
          refine V_iconst (pc := 70) (v := 4) C dX6_takes_70 rfl ?_
          obtain ⟨r71, oI14_71, oI21_71, oI22_71, hq, h⟩ := ob4_some h
          refine V_callVW0 (pc := 71) (rest := []) (st2 := [.int r71]) (ws' := wM Y a (up (up (up I 14 oI14_71) 21 oI21_71) 22 oI22_71) A F L) C hA (X6_goesTo_ok (a := a) hq) gX6_takes_X6_goesTo rfl ⟨rfl, hdX6_goesTo⟩ ⟨Nat.le_of_ble_eq_true rfl, Nat.le_of_ble_eq_true rfl⟩ ⟨Nat.le_refl _, Nat.le_refl _⟩ 0 6 rfl rfl rfl (Nat.le_of_ble_eq_true rfl) dX6_takes_71 rfl rfl ?_
          refine V_if_eq (pc := 74) C 81 dX6_takes_74 rfl (fun c74 => ?_) (fun c74 => ?_)
          · replace h := t_pos c74 h
            refine V_iconst (pc := 81) (v := 0) C dX6_takes_81 rfl ?_
            cases h
            subst hQ
            exact V_zretW C (by decide) dX6_takes_82
          · replace h := t_neg c74 h
            refine V_iconst (pc := 77) (v := 1) C dX6_takes_77 rfl ?_
            refine V_goto (pc := 78) C 82 dX6_takes_78 rfl ?_
            cases h
            subst hQ
            exact V_zretW C (by decide) dX6_takes_82
    · replace h := t_pos c18 h
      refine V_aload_n (pc := 21) C dX6_takes_21 rfl 0 rfl ?_
      refine V_iload_n (pc := 22) C dX6_takes_22 rfl 1 rfl ?_
      refine V_bipush (pc := 23) (v := 48) C dX6_takes_23 rfl ?_
      refine V_isub (pc := 25) C dX6_takes_25 ?_
      refine V_put (pc := 26) (ws' := wM Y a (up I 16 (p0 - (48 : Int32))) A F L) C 0 6 16 hiX6_takes_6 tyX6_ok nmX6 rfl rfl (by decide) wX6_takes_k2 rfl rfl rfl (Nat.le_of_ble_eq_true rfl) dX6_takes_26 rfl ?_
      refine V_aload_n (pc := 29) C dX6_takes_29 rfl 0 rfl ?_
      refine V_get (pc := 30) (v := .int (p0 - (48 : Int32))) C 0 6 16 hiX6_takes_6 rfl rfl (by decide) wX6_takes_k2 rfl dX6_takes_30 ?_
      refine V_iconst (pc := 33) (v := 1) C dX6_takes_33 rfl ?_
      refine V_iconst (pc := 34) (v := 4) C dX6_takes_34 rfl ?_
      obtain ⟨r35, hq, h⟩ := ob1_some h
      refine V_callSR (pc := 35) (rest := []) (st2 := [.int r35]) C (X6_within_ok hq) gX6_takes_X6_within rfl hdX6_within ⟨Nat.le_of_ble_eq_true rfl, Nat.le_of_ble_eq_true rfl⟩ ⟨Nat.le_refl _, Nat.le_refl _⟩ [] rfl rfl (Nat.le_of_ble_eq_true rfl) dX6_takes_35 rfl ?_
      refine V_if_eq (pc := 38) C 53 dX6_takes_38 rfl (fun c38 => ?_) (fun c38 => ?_)
      · replace h := t_pos c38 h
        refine V_iconst (pc := 53) (v := 0) C dX6_takes_53 rfl ?_
        cases h
        subst hQ
        exact V_zretW C (by decide) dX6_takes_54
      · replace h := t_neg c38 h
        refine V_aload_n (pc := 41) C dX6_takes_41 rfl 0 rfl ?_
        refine V_iconst (pc := 42) (v := 3) C dX6_takes_42 rfl ?_
        obtain ⟨r43, oI14_43, oI21_43, oI22_43, hq, h⟩ := ob4_some h
        refine V_callVW0 (pc := 43) (rest := []) (st2 := [.int r43]) (ws' := wM Y a (up (up (up (up I 16 (p0 - (48 : Int32))) 14 oI14_43) 21 oI21_43) 22 oI22_43) A F L) C hA (X6_goesTo_ok (a := a) hq) gX6_takes_X6_goesTo rfl ⟨rfl, hdX6_goesTo⟩ ⟨Nat.le_of_ble_eq_true rfl, Nat.le_of_ble_eq_true rfl⟩ ⟨Nat.le_refl _, Nat.le_refl _⟩ 0 6 rfl rfl rfl (Nat.le_of_ble_eq_true rfl) dX6_takes_43 rfl rfl ?_
        refine V_if_eq (pc := 46) C 53 dX6_takes_46 rfl (fun c46 => ?_) (fun c46 => ?_)
        · replace h := t_pos c46 h
          refine V_iconst (pc := 53) (v := 0) C dX6_takes_53 rfl ?_
          cases h
          subst hQ
          exact V_zretW C (by decide) dX6_takes_54
        · replace h := t_neg c46 h
          refine V_iconst (pc := 49) (v := 1) C dX6_takes_49 rfl ?_
          refine V_goto (pc := 50) C 54 dX6_takes_50 rfl ?_
          cases h
          subst hQ
          exact V_zretW C (by decide) dX6_takes_54
  · replace h := t_pos c4 h
    refine V_aload_n (pc := 7) C dX6_takes_7 rfl 0 rfl ?_
    refine V_iload_n (pc := 8) C dX6_takes_8 rfl 1 rfl ?_
    obtain ⟨r9, oI14_9, oI15_9, oI17_9, oI19_9, oI21_9, oI22_9, hq, h⟩ := ob7_some h
    refine V_callVW0 (pc := 9) (rest := []) (st2 := [.int r9]) (ws' := wM Y a (up (up (up (up (up (up I 14 oI14_9) 15 oI15_9) 17 oI17_9) 19 oI19_9) 21 oI21_9) 22 oI22_9) A F L) C hA (X6_begins_ok (a := a) hq) gX6_takes_X6_begins rfl ⟨rfl, hdX6_begins⟩ ⟨Nat.le_of_ble_eq_true rfl, Nat.le_of_ble_eq_true rfl⟩ ⟨Nat.le_refl _, Nat.le_refl _⟩ 0 6 rfl rfl rfl (Nat.le_of_ble_eq_true rfl) dX6_takes_9 rfl rfl ?_
    obtain ⟨b12, h⟩ := chk_some h
    cases h
    subst hQ
    exact V_zretW C (isB_n b12) dX6_takes_12
