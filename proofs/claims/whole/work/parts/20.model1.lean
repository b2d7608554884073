def X6_goAlong (I : Nat → Int32) (A : Nat → Nat → Int32) (F : Nat → Int64) (L : Nat → Nat → Int64) : Option (Int32 × Int32 × Int32 × Int32 × Int32 × (Nat → Int32) × Int32 × (Nat → Int32) × Int32 × Int32) :=
  ob4 (X6_goesTo I A F L (0 : Int32)) fun r2 oI14_2 oI21_2 oI22_2 =>
  jn10 (fun (x1_35 : Int32) (mI14_35 : Int32) (mI15_35 : Int32) (mI16_35 : Int32) (mI17_35 : Int32) (mA18_35 : Nat → Int32) (mI19_35 : Int32) (mA20_35 : Nat → Int32) (mI21_35 : Int32) (mI22_35 : Int32) => some (x1_35, mI14_35, mI15_35, mI16_35, mI17_35, mA18_35, mI19_35, mA20_35, mI21_35, mI22_35)) fun J35 =>
  wh10 (fun self8 (x1_8 : Int32) (mI14_8 : Int32) (mI15_8 : Int32) (mI16_8 : Int32) (mI17_8 : Int32) (mA18_8 : Nat → Int32) (mI19_8 : Int32) (mA20_8 : Nat → Int32) (mI21_8 : Int32) (mI22_8 : Int32) =>
  if (I 0) ≤ x1_8 then (J35 x1_8 mI14_8 mI15_8 mI16_8 mI17_8 mA18_8 mI19_8 mA20_8 mI21_8 mI22_8) else (chk (inB x1_8 40) (ob10 (X6_takes (up (up (up (up (up (up (up I 14 mI14_8) 21 mI21_8) 22 mI22_8) 15 mI15_8) 16 mI16_8) 17 mI17_8) 19 mI19_8) (up (up A 18 mA18_8) 20 mA20_8) F L ((A 1) (Int32.toNatClampNeg x1_8))) fun r23 oI14_23 oI15_23 oI16_23 oI17_23 oA18_23 oI19_23 oA20_23 oI21_23 oI22_23 =>
  if r23 = 0 then (J35 x1_8 oI14_23 oI15_23 oI16_23 oI17_23 oA18_23 oI19_23 oA20_23 oI21_23 oI22_23) else (self8 (x1_8 + 1) oI14_23 oI15_23 oI16_23 oI17_23 oA18_23 oI19_23 oA20_23 oI21_23 oI22_23)))) 200 (0 : Int32) oI14_2 (I 15) (I 16) (I 17) (A 18) (I 19) (A 20) oI21_2 oI22_2
theorem wX6_goAlong_k0 : Cond.fieldLink RX6 64 (TX6 0).1 (TX6 0).2.1 (TX6 0).2.2.1 ∈ wsX6_goAlong := by decide +kernel
theorem hiX6_goAlong_6 : ∀ w ∈ u_ws RX6 TX6 33, w ∈ wsX6_goAlong := fun _ h => List.mem_cons_of_mem _ (List.mem_append_right _ h)
theorem wX6_goAlong_k2 : Cond.fieldLink RX6 7 (TX6 1).1 (TX6 1).2.1 (TX6 1).2.2.1 ∈ wsX6_goAlong := by decide +kernel
theorem hdX6_goAlong : yX6_goAlong.cls ≠ "java/lang/invoke/MethodHandle" ∧ yX6_goAlong.cls ≠ "java/lang/invoke/VarHandle" ∧ (parseMethodDescriptor yX6_goAlong.desc).map (fun d => d.parameters.length) = some 0 := by decide +kernel
set_option maxHeartbeats 4000000 in
set_option maxRecDepth 100000 in
theorem X6_goAlong_ok {l : Launch} {D : va_G} {Y : Nat → ClassId} {a : Nat → Nat} {I : Nat → Int32} {A : Nat → Nat → Int32} {F : Nat → Int64} {L : Nat → Nat → Int64} {r : Int32} {uI14 : Int32} {uI15 : Int32} {uI16 : Int32} {uI17 : Int32} {uA18 : Nat → Int32} {uI19 : Int32} {uA20 : Nat → Int32} {uI21 : Int32} {uI22 : Int32} (h : X6_goAlong I A F L = some (r, uI14, uI15, uI16, uI17, uA18, uI19, uA20, uI21, uI22)) : MW l yX6_goAlong wsX6_goAlong 3 69 D Y [.ref (a 0)] (wM Y a I A F L) (wM Y a (up (up (up (up (up (up (up I 14 uI14) 15 uI15) 16 uI16) 17 uI17) 19 uI19) 21 uI21) 22 uI22) (up (up A 18 uA18) 20 uA20) F L) (some (.int r)) := by
  refine MW_of (cc := cX6_goAlong) (nL := 2) (ret := some .int) (lv0 := [(0, .ref (a 0))]) (by decide) rfl (Nat.le_of_ble_eq_true rfl) rfl rfl (fun X Af Q C hA hQ => ?_)
  unfold X6_goAlong at h
  refine V_aload_n (pc := 0) C dX6_goAlong_0 rfl 0 rfl ?_
  refine V_iconst (pc := 1) (v := 0) C dX6_goAlong_1 rfl ?_
  obtain ⟨r2, oI14_2, oI21_2, oI22_2, hq, h⟩ := ob4_some h
  refine V_callVW0 (pc := 2) (rest := []) (st2 := [.int r2]) (ws' := wM Y a (up (up (up I 14 oI14_2) 21 oI21_2) 22 oI22_2) A F L) C hA (X6_goesTo_ok (a := a) hq) gX6_goAlong_X6_goesTo rfl ⟨rfl, hdX6_goesTo⟩ ⟨Nat.le_of_ble_eq_true rfl, Nat.le_of_ble_eq_true rfl⟩ ⟨Nat.le_refl _, Nat.le_refl _⟩ 0 6 rfl rfl rfl (Nat.le_of_ble_eq_true rfl) dX6_goAlong_2 rfl rfl ?_
  refine V_pop (pc := 5) C dX6_goAlong_5 rfl ?_
  refine V_iconst (pc := 6) (v := 0) C dX6_goAlong_6 rfl ?_
  refine V_istore_n (pc := 7) (lv' := [(1, .int (0 : Int32)), (0, .ref (a 0))]) C dX6_goAlong_7 rfl (Nat.le_of_ble_eq_true rfl) rfl ?_
  refine jn10_ok (P := (fun (x1_35 : Int32) (mI14_35 : Int32) (mI15_35 : Int32) (mI16_35 : Int32) (mI17_35 : Int32) (mA18_35 : Nat → Int32) (mI19_35 : Int32) (mA20_35 : Nat → Int32) (mI21_35 : Int32) (mI22_35 : Int32) => VW X D 2 Q (KM Af X) (0, 0) (wM Y a (up (up (up (up (up (up (up I 14 mI14_35) 21 mI21_35) 22 mI22_35) 15 mI15_35) 16 mI16_35) 17 mI17_35) 19 mI19_35) (up (up A 18 mA18_35) 20 mA20_35) F L) [(1, .int x1_35)] 35 [])) (fun x1_35 mI14_35 mI15_35 mI16_35 mI17_35 mA18_35 mI19_35 mA20_35 mI21_35 mI22_35 h => ?_) (fun J35 hJ35 h => ?_) h
  · refine V_iload_n (pc := 35) C dX6_goAlong_35 rfl 0 rfl ?_
    cases h
    subst hQ
    exact V_iretW C dX6_goAlong_36
  refine V_sub [1, 0] rfl (wh10_ok (P := (fun (x1_8 : Int32) (mI14_8 : Int32) (mI15_8 : Int32) (mI16_8 : Int32) (mI17_8 : Int32) (mA18_8 : Nat → Int32) (mI19_8 : Int32) (mA20_8 : Nat → Int32) (mI21_8 : Int32) (mI22_8 : Int32) => VW X D 2 Q (KM Af X) (0, 0) (wM Y a (up (up (up (up (up (up (up I 14 mI14_8) 21 mI21_8) 22 mI22_8) 15 mI15_8) 16 mI16_8) 17 mI17_8) 19 mI19_8) (up (up A 18 mA18_8) 20 mA20_8) F L) [(0, .ref (a 0)), (1, .int x1_8)] 8 [])) (fun self8 ih8 x1_8 mI14_8 mI15_8 mI16_8 mI17_8 mA18_8 mI19_8 mA20_8 mI21_8 mI22_8 h => ?_) 200 _ _ _ _ _ _ _ _ _ _ h)
  refine V_iload_n (pc := 8) C dX6_goAlong_8 rfl 1 rfl ?_
  refine V_aload_n (pc := 9) C dX6_goAlong_9 rfl 0 rfl ?_
  refine V_get (pc := 10) (v := .int (I 0)) C 0 6 0 hiX6_goAlong_6 rfl rfl (by decide) wX6_goAlong_k0 rfl dX6_goAlong_10 ?_
  refine V_icmp_ge (pc := 13) C 35 dX6_goAlong_13 rfl (fun c13 => ?_) (fun c13 => ?_)
  · replace h := t_pos c13 h
    exact V_sub [1] rfl (hJ35 _ _ _ _ _ _ _ _ _ _ h)
  · replace h := t_neg c13 h
    refine V_aload_n (pc := 16) C dX6_goAlong_16 rfl 0 rfl ?_
    refine V_aload_n (pc := 17) C dX6_goAlong_17 rfl 0 rfl ?_
    refine V_get (pc := 18) (v := .ref (a 1)) C 0 6 1 hiX6_goAlong_6 rfl rfl (by decide) wX6_goAlong_k2 rfl dX6_goAlong_18 ?_
    refine V_iload_n (pc := 21) C dX6_goAlong_21 rfl 1 rfl ?_
    obtain ⟨b22, h⟩ := chk_some h
    refine V_iald (pc := 22) C 1 rfl b22 dX6_goAlong_22 ?_
    obtain ⟨r23, oI14_23, oI15_23, oI16_23, oI17_23, oA18_23, oI19_23, oA20_23, oI21_23, oI22_23, hq, h⟩ := ob10_some h
    refine V_callVW0 (pc := 23) (rest := []) (st2 := [.int r23]) (ws' := wM Y a (up (up (up (up (up (up (up I 14 oI14_23) 21 oI21_23) 22 oI22_23) 15 oI15_23) 16 oI16_23) 17 oI17_23) 19 oI19_23) (up (up A 18 oA18_23) 20 oA20_23) F L) C hA (X6_takes_ok (a := a) hq) gX6_goAlong_X6_takes rfl ⟨rfl, hdX6_takes⟩ ⟨Nat.le_of_ble_eq_true rfl, Nat.le_of_ble_eq_true rfl⟩ ⟨Nat.le_refl _, Nat.le_refl _⟩ 0 6 rfl rfl rfl (Nat.le_of_ble_eq_true rfl) dX6_goAlong_23 rfl rfl ?_
    refine V_if_eq (pc := 26) C 35 dX6_goAlong_26 rfl (fun c26 => ?_) (fun c26 => ?_)
    · replace h := t_pos c26 h
      exact V_sub [1] rfl (hJ35 _ _ _ _ _ _ _ _ _ _ h)
    · replace h := t_neg c26 h
      refine V_iinc (pc := 29) (v := (x1_8 + 1)) (lv' := [(1, .int (x1_8 + 1)), (0, .ref (a 0))]) C dX6_goAlong_29 1 rfl rfl (Nat.le_of_ble_eq_true rfl) rfl ?_
      refine V_goto (pc := 32) C 8 dX6_goAlong_32 rfl ?_
      exact V_sub [1, 0] rfl (ih8 _ _ _ _ _ _ _ _ _ _ h)
def X6_fault (I : Nat → Int32) (A : Nat → Nat → Int32) (F : Nat → Int64) (L : Nat → Nat → Int64) : Option (Int32 × Int32 × Int32 × Int32 × Int32 × (Nat → Int32) × Int32 × (Nat → Int32) × Int32 × Int32) :=
  ob10 (X6_goAlong I A F L) fun r1 oI14_1 oI15_1 oI16_1 oI17_1 oA18_1 oI19_1 oA20_1 oI21_1 oI22_1 =>
  some (r1, oI14_1, oI15_1, oI16_1, oI17_1, oA18_1, oI19_1, oA20_1, oI21_1, oI22_1)
theorem hdX6_fault : yX6_fault.cls ≠ "java/lang/invoke/MethodHandle" ∧ yX6_fault.cls ≠ "java/lang/invoke/VarHandle" ∧ (parseMethodDescriptor yX6_fault.desc).map (fun d => d.parameters.length) = some 0 := by decide +kernel
set_option maxHeartbeats 4000000 in
set_option maxRecDepth 100000 in
theorem X6_fault_ok {l : Launch} {D : va_G} {Y : Nat → ClassId} {a : Nat → Nat} {I : Nat → Int32} {A : Nat → Nat → Int32} {F : Nat → Int64} {L : Nat → Nat → Int64} {r : Int32} {uI14 : Int32} {uI15 : Int32} {uI16 : Int32} {uI17 : Int32} {uA18 : Nat → Int32} {uI19 : Int32} {uA20 : Nat → Int32} {uI21 : Int32} {uI22 : Int32} (h : X6_fault I A F L = some (r, uI14, uI15, uI16, uI17, uA18, uI19, uA20, uI21, uI22)) : MW l yX6_fault wsX6_fault 4 90 D Y [.ref (a 0)] (wM Y a I A F L) (wM Y a (up (up (up (up (up (up (up I 14 uI14) 15 uI15) 16 uI16) 17 uI17) 19 uI19) 21 uI21) 22 uI22) (up (up A 18 uA18) 20 uA20) F L) (some (.int r)) := by
  refine MW_of (cc := cX6_fault) (nL := 1) (ret := some .int) (lv0 := [(0, .ref (a 0))]) (by decide) rfl (Nat.le_of_ble_eq_true rfl) rfl rfl (fun X Af Q C hA hQ => ?_)
  unfold X6_fault at h
  refine V_aload_n (pc := 0) C dX6_fault_0 rfl 0 rfl ?_
  obtain ⟨r1, oI14_1, oI15_1, oI16_1, oI17_1, oA18_1, oI19_1, oA20_1, oI21_1, oI22_1, hq, h⟩ := ob10_some h
  refine V_callVW0 (pc := 1) (rest := []) (st2 := [.int r1]) (ws' := wM Y a (up (up (up (up (up (up (up I 14 oI14_1) 15 oI15_1) 16 oI16_1) 17 oI17_1) 19 oI19_1) 21 oI21_1) 22 oI22_1) (up (up A 18 oA18_1) 20 oA20_1) F L) C hA (X6_goAlong_ok (a := a) hq) gX6_fault_X6_goAlong rfl ⟨rfl, hdX6_goAlong⟩ ⟨Nat.le_of_ble_eq_true rfl, Nat.le_of_ble_eq_true rfl⟩ ⟨Nat.le_refl _, Nat.le_refl _⟩ 0 6 rfl rfl rfl (Nat.le_of_ble_eq_true rfl) dX6_fault_1 rfl rfl ?_
  cases h
  subst hQ
  exact V_iretW C dX6_fault_4
def X6_takeStorm (I : Nat → Int32) (A : Nat → Nat → Int32) (F : Nat → Int64) (L : Nat → Nat → Int64) : Option (Int32 × Int32 × (Nat → Int32) × (Nat → Int32) × (Nat → Int32) × (Nat → Int32)) :=
  chk (inB (I 2) 3) (chk (inB (I 2) 3) (jn1 (fun (mA4_70 : Nat → Int32) => jn1 (fun (mA6_116 : Nat → Int32) => some ((((I 2) + (1 : Int32)) - (1 : Int32)), ((I 2) + (1 : Int32)), (upd (A 3) (Int32.toNatClampNeg (I 2)) (I 17)), mA4_70, (upd (A 5) (Int32.toNatClampNeg (I 2)) (I 19)), mA6_116)) fun J116 =>
  wh2 (fun self72 (x1_72 : Int32) (mA6_72 : Nat → Int32) =>
  if (8 : Int32) ≤ x1_72 then (J116 mA6_72) else (jn2 (fun (s109_1 : Int32) (s109_2 : Int32) => chk (inB s109_1 24) (self72 (x1_72 + 1) (upd mA6_72 (Int32.toNatClampNeg s109_1) s109_2))) fun J109 =>
  if (I 19) ≤ x1_72 then (J109 (((8 : Int32) * (I 2)) + x1_72) (0 : Int32)) else (chk (inB x1_72 8) (J109 (((8 : Int32) * (I 2)) + x1_72) ((A 20) (Int32.toNatClampNeg x1_72)))))) 200 (0 : Int32) (A 6)) fun J70 =>
  wh2 (fun self28 (x1_28 : Int32) (mA4_28 : Nat → Int32) =>
  if (3 : Int32) ≤ x1_28 then (J70 mA4_28) else (jn2 (fun (s63_1 : Int32) (s63_2 : Int32) => chk (inB s63_1 9) (self28 (x1_28 + 1) (upd mA4_28 (Int32.toNatClampNeg s63_1) s63_2))) fun J63 =>
  if (I 17) ≤ x1_28 then (J63 (((3 : Int32) * (I 2)) + x1_28) (0 : Int32)) else (chk (inB x1_28 3) (J63 (((3 : Int32) * (I 2)) + x1_28) ((A 18) (Int32.toNatClampNeg x1_28)))))) 200 (0 : Int32) (A 4)))
theorem wX6_takeStorm_k0 : Cond.fieldLink RX6 13 (TX6 3).1 (TX6 3).2.1 (TX6 3).2.2.1 ∈ wsX6_takeStorm := by decide +kernel
theorem hiX6_takeStorm_6 : ∀ w ∈ u_ws RX6 TX6 33, w ∈ wsX6_takeStorm := fun _ h => List.mem_cons_of_mem _ (List.mem_append_right _ h)
theorem wX6_takeStorm_k2 : Cond.fieldLink RX6 114 (TX6 2).1 (TX6 2).2.1 (TX6 2).2.2.1 ∈ wsX6_takeStorm := by decide +kernel
theorem wX6_takeStorm_k3 : Cond.fieldLink RX6 82 (TX6 17).1 (TX6 17).2.1 (TX6 17).2.2.1 ∈ wsX6_takeStorm := by decide +kernel
theorem wX6_takeStorm_k4 : Cond.fieldLink RX6 19 (TX6 5).1 (TX6 5).2.1 (TX6 5).2.2.1 ∈ wsX6_takeStorm := by decide +kernel
theorem wX6_takeStorm_k5 : Cond.fieldLink RX6 85 (TX6 19).1 (TX6 19).2.1 (TX6 19).2.2.1 ∈ wsX6_takeStorm := by decide +kernel
theorem wX6_takeStorm_k6 : Cond.fieldLink RX6 22 (TX6 6).1 (TX6 6).2.1 (TX6 6).2.2.1 ∈ wsX6_takeStorm := by decide +kernel
theorem wX6_takeStorm_k7 : Cond.fieldLink RX6 37 (TX6 20).1 (TX6 20).2.1 (TX6 20).2.2.1 ∈ wsX6_takeStorm := by decide +kernel
theorem wX6_takeStorm_k8 : Cond.fieldLink RX6 16 (TX6 4).1 (TX6 4).2.1 (TX6 4).2.2.1 ∈ wsX6_takeStorm := by decide +kernel
theorem wX6_takeStorm_k9 : Cond.fieldLink RX6 34 (TX6 18).1 (TX6 18).2.1 (TX6 18).2.2.1 ∈ wsX6_takeStorm := by decide +kernel
theorem hdX6_takeStorm : yX6_takeStorm.cls ≠ "java/lang/invoke/MethodHandle" ∧ yX6_takeStorm.cls ≠ "java/lang/invoke/VarHandle" ∧ (parseMethodDescriptor yX6_takeStorm.desc).map (fun d => d.parameters.length) = some 0 := by decide +kernel
set_option maxHeartbeats 4000000 in
set_option maxRecDepth 100000 in
theorem X6_takeStorm_ok {l : Launch} {D : va_G} {Y : Nat → ClassId} {a : Nat → Nat} {I : Nat → Int32} {A : Nat → Nat → Int32} {F : Nat → Int64} {L : Nat → Nat → Int64} {r : Int32} {uI2 : Int32} {uA3 : Nat → Int32} {uA4 : Nat → Int32} {uA5 : Nat → Int32} {uA6 : Nat → Int32} (h : X6_takeStorm I A F L = some (r, uI2, uA3, uA4, uA5, uA6)) : MW l yX6_takeStorm wsX6_takeStorm 0 0 D Y [.ref (a 0)] (wM Y a I A F L) (wM Y a (up I 2 uI2) (up (up (up (up A 3 uA3) 4 uA4) 5 uA5) 6 uA6) F L) (some (.int r)) := by
  refine MW_of (cc := cX6_takeStorm) (nL := 2) (ret := some .int) (lv0 := [(0, .ref (a 0))]) (by decide) rfl (Nat.le_of_ble_eq_true rfl) rfl rfl (fun X Af Q C hA hQ => ?_)
  unfold X6_takeStorm at h
  refine V_aload_n (pc := 0) C dX6_takeStorm_0 rfl 0 rfl ?_
  refine V_get (pc := 1) (v := .ref (a 2)) C 0 6 3 hiX6_takeStorm_6 rfl rfl (by decide) wX6_takeStorm_k0 rfl dX6_takeStorm_1 ?_
  refine V_aload_n (pc := 4) C dX6_takeStorm_4 rfl 0 rfl ?_
  refine V_get (pc := 5) (v := .int (I 2)) C 0 6 2 hiX6_takeStorm_6 rfl rfl (by decide) wX6_takeStorm_k2 rfl dX6_takeStorm_5 ?_
  refine V_aload_n (pc := 8) C dX6_takeStorm_8 rfl 0 rfl ?_
  refine V_get (pc := 9) (v := .int (I 17)) C 0 6 17 hiX6_takeStorm_6 rfl rfl (by decide) wX6_takeStorm_k3 rfl dX6_takeStorm_9 ?_
  obtain ⟨b12, h⟩ := chk_some h
  refine V_iast (pc := 12) (ws' := wM Y a I (up A 3 (upd (A 3) (Int32.toNatClampNeg (I 2)) (I 17))) F L) C 2 rfl b12 dX6_takeStorm_12 rfl ?_
  refine V_aload_n (pc := 13) C dX6_takeStorm_13 rfl 0 rfl ?_
  refine V_get (pc := 14) (v := .ref (a 4)) C 0 6 5 hiX6_takeStorm_6 rfl rfl (by decide) wX6_takeStorm_k4 rfl dX6_takeStorm_14 ?_
  refine V_aload_n (pc := 17) C dX6_takeStorm_17 rfl 0 rfl ?_
  refine V_get (pc := 18) (v := .int (I 2)) C 0 6 2 hiX6_takeStorm_6 rfl rfl (by decide) wX6_takeStorm_k2 rfl dX6_takeStorm_18 ?_
  refine V_aload_n (pc := 21) C dX6_takeStorm_21 rfl 0 rfl ?_
  refine V_get (pc := 22) (v := .int (I 19)) C 0 6 19 hiX6_takeStorm_6 rfl rfl (by decide) wX6_takeStorm_k5 rfl dX6_takeStorm_22 ?_
  obtain ⟨b25, h⟩ := chk_some h
  refine V_iast (pc := 25) (ws' := wM Y a I (up (up A 3 (upd (A 3) (Int32.toNatClampNeg (I 2)) (I 17))) 5 (upd (A 5) (Int32.toNatClampNeg (I 2)) (I 19))) F L) C 4 rfl b25 dX6_takeStorm_25 rfl ?_
  refine V_iconst (pc := 26) (v := 0) C dX6_takeStorm_26 rfl ?_
  refine V_istore_n (pc := 27) (lv' := [(1, .int (0 : Int32)), (0, .ref (a 0))]) C dX6_takeStorm_27 rfl (Nat.le_of_ble_eq_true rfl) rfl ?_
  refine jn1_ok (P := (fun (mA4_70 : Nat → Int32) => VW X D 2 Q (KM Af X) (0, 0) (wM Y a I (up (up (up A 3 (upd (A 3) (Int32.toNatClampNeg (I 2)) (I 17))) 5 (upd (A 5) (Int32.toNatClampNeg (I 2)) (I 19))) 4 mA4_70) F L) [(0, .ref (a 0))] 70 [])) (fun mA4_70 h => ?_) (fun J70 hJ70 h => ?_) h
  · refine V_iconst (pc := 70) (v := 0) C dX6_takeStorm_70 rfl ?_
    refine V_istore_n (pc := 71) (lv' := [(1, .int (0 : Int32)), (0, .ref (a 0))]) C dX6_takeStorm_71 rfl (Nat.le_of_ble_eq_true rfl) rfl ?_
    refine jn1_ok (P := (fun (mA6_116 : Nat → Int32) => VW X D 2 Q (KM Af X) (0, 0) (wM Y a I (up (up (up (up A 3 (upd (A 3) (Int32.toNatClampNeg (I 2)) (I 17))) 5 (upd (A 5) (Int32.toNatClampNeg (I 2)) (I 19))) 4 mA4_70) 6 mA6_116) F L) [(0, .ref (a 0))] 116 [])) (fun mA6_116 h => ?_) (fun J116 hJ116 h => ?_) h
    · refine V_aload_n (pc := 116) C dX6_takeStorm_116 rfl 0 rfl ?_
      refine V_dup (pc := 117) C dX6_takeStorm_117 rfl ?_
      refine V_get (pc := 118) (v := .int (I 2)) C 0 6 2 hiX6_takeStorm_6 rfl rfl (by decide) wX6_takeStorm_k2 rfl dX6_takeStorm_118 ?_
      refine V_iconst (pc := 121) (v := 1) C dX6_takeStorm_121 rfl ?_
      refine V_iadd (pc := 122) C dX6_takeStorm_122 ?_
      refine V_put (pc := 123) (ws' := wM Y a (up I 2 ((I 2) + (1 : Int32))) (up (up (up (up A 3 (upd (A 3) (Int32.toNatClampNeg (I 2)) (I 17))) 5 (upd (A 5) (Int32.toNatClampNeg (I 2)) (I 19))) 4 mA4_70) 6 mA6_116) F L) C 0 6 2 hiX6_takeStorm_6 tyX6_ok nmX6 rfl rfl (by decide) wX6_takeStorm_k2 rfl rfl rfl (Nat.le_of_ble_eq_true rfl) dX6_takeStorm_123 rfl ?_
      refine V_aload_n (pc := 126) C dX6_takeStorm_126 rfl 0 rfl ?_
      refine V_get (pc := 127) (v := .int ((I 2) + (1 : Int32))) C 0 6 2 hiX6_takeStorm_6 rfl rfl (by decide) wX6_takeStorm_k2 rfl dX6_takeStorm_127 ?_
      refine V_iconst (pc := 130) (v := 1) C dX6_takeStorm_130 rfl ?_
      refine V_isub (pc := 131) C dX6_takeStorm_131 ?_
      cases h
      subst hQ
      exact V_iretW C dX6_takeStorm_132
    refine V_sub [1, 0] rfl (wh2_ok (P := (fun (x1_72 : Int32) (mA6_72 : Nat → Int32) => VW X D 2 Q (KM Af X) (0, 0) (wM Y a I (up (up (up (up A 3 (upd (A 3) (Int32.toNatClampNeg (I 2)) (I 17))) 5 (upd (A 5) (Int32.toNatClampNeg (I 2)) (I 19))) 4 mA4_70) 6 mA6_72) F L) [(0, .ref (a 0)), (1, .int x1_72)] 72 [])) (fun self72 ih72 x1_72 mA6_72 h => ?_) 200 _ _ h)
    refine V_iload_n (pc := 72) C dX6_takeStorm_72 rfl 1 rfl ?_
    refine V_bipush (pc := 73) (v := 8) C dX6_takeStorm_73 rfl ?_
    refine V_icmp_ge (pc := 75) C 116 dX6_takeStorm_75 rfl (fun c75 => ?_) (fun c75 => ?_)
    · replace h := t_pos c75 h
      exact V_sub [0] rfl (hJ116 _ h)
    · replace h := t_neg c75 h
      refine V_aload_n (pc := 78) C dX6_takeStorm_78 rfl 0 rfl ?_
      refine V_get (pc := 79) (v := .ref (a 5)) C 0 6 6 hiX6_takeStorm_6 rfl rfl (by decide) wX6_takeStorm_k6 rfl dX6_takeStorm_79 ?_
      refine V_bipush (pc := 82) (v := 8) C dX6_takeStorm_82 rfl ?_
      refine V_aload_n (pc := 84) C dX6_takeStorm_84 rfl 0 rfl ?_
      refine V_get (pc := 85) (v := .int (I 2)) C 0 6 2 hiX6_takeStorm_6 rfl rfl (by decide) wX6_takeStorm_k2 rfl dX6_takeStorm_85 ?_
      refine V_imul (pc := 88) C dX6_takeStorm_88 ?_
      refine V_iload_n (pc := 89) C dX6_takeStorm_89 rfl 1 rfl ?_
      refine V_iadd (pc := 90) C dX6_takeStorm_90 ?_
      refine V_iload_n (pc := 91) C dX6_takeStorm_91 rfl 1 rfl ?_
      refine V_aload_n (pc := 92) C dX6_takeStorm_92 rfl 0 rfl ?_
      refine V_get (pc := 93) (v := .int (I 19)) C 0 6 19 hiX6_takeStorm_6 rfl rfl (by decide) wX6_takeStorm_k5 rfl dX6_takeStorm_93 ?_
      refine jn2_ok (P := (fun (s109_1 : Int32) (s109_2 : Int32) => VW X D 2 Q (KM Af X) (0, 0) (wM Y a I (up (up (up (up A 3 (upd (A 3) (Int32.toNatClampNeg (I 2)) (I 17))) 5 (upd (A 5) (Int32.toNatClampNeg (I 2)) (I 19))) 4 mA4_70) 6 mA6_72) F L) [(0, .ref (a 0)), (1, .int x1_72)] 109 [.int s109_2, .int s109_1, .ref (a 5)])) (fun s109_1 s109_2 h => ?_) (fun J109 hJ109 h => ?_) h
      · obtain ⟨b109, h⟩ := chk_some h
        refine V_iast (pc := 109) (ws' := wM Y a I (up (up (up (up A 3 (upd (A 3) (Int32.toNatClampNeg (I 2)) (I 17))) 5 (upd (A 5) (Int32.toNatClampNeg (I 2)) (I 19))) 4 mA4_70) 6 (upd mA6_72 (Int32.toNatClampNeg s109_1) s109_2)) F L) C 5 rfl b109 dX6_takeStorm_109 rfl ?_
        refine V_iinc (pc := 110) (v := (x1_72 + 1)) (lv' := [(1, .int (x1_72 + 1)), (0, .ref (a 0))]) C dX6_takeStorm_110 1 rfl rfl (Nat.le_of_ble_eq_true rfl) rfl ?_
        refine V_goto (pc := 113) C 72 dX6_takeStorm_113 rfl ?_
        exact V_sub [1, 0] rfl (ih72 _ _ h)
      refine V_icmp_ge (pc := 96) C 108 dX6_takeStorm_96 rfl (fun c96 => ?_) (fun c96 => ?_)
      · replace h := t_pos c96 h
        refine V_iconst (pc := 108) (v := 0) C dX6_takeStorm_108 rfl ?_
        exact V_sub [0, 1] rfl (hJ109 _ _ h)
      · replace h := t_neg c96 h
        refine V_aload_n (pc := 99) C dX6_takeStorm_99 rfl 0 rfl ?_
        refine V_get (pc := 100) (v := .ref (a 10)) C 0 6 20 hiX6_takeStorm_6 rfl rfl (by decide) wX6_takeStorm_k7 rfl dX6_takeStorm_100 ?_
        refine V_iload_n (pc := 103) C dX6_takeStorm_103 rfl 1 rfl ?_
        obtain ⟨b104, h⟩ := chk_some h
        refine V_iald (pc := 104) C 10 rfl b104 dX6_takeStorm_104 ?_
        refine V_goto (pc := 105) C 109 dX6_takeStorm_105 rfl ?_
        exact V_sub [0, 1] rfl (hJ109 _ _ h)
  refine V_sub [1, 0] rfl (wh2_ok (P := (fun (x1_28 : Int32) (mA4_28 : Nat → Int32) => VW X D 2 Q (KM Af X) (0, 0) (wM Y a I (up (up (up A 3 (upd (A 3) (Int32.toNatClampNeg (I 2)) (I 17))) 5 (upd (A 5) (Int32.toNatClampNeg (I 2)) (I 19))) 4 mA4_28) F L) [(0, .ref (a 0)), (1, .int x1_28)] 28 [])) (fun self28 ih28 x1_28 mA4_28 h => ?_) 200 _ _ h)
  refine V_iload_n (pc := 28) C dX6_takeStorm_28 rfl 1 rfl ?_
  refine V_iconst (pc := 29) (v := 3) C dX6_takeStorm_29 rfl ?_
  refine V_icmp_ge (pc := 30) C 70 dX6_takeStorm_30 rfl (fun c30 => ?_) (fun c30 => ?_)
  · replace h := t_pos c30 h
    exact V_sub [0] rfl (hJ70 _ h)
  · replace h := t_neg c30 h
    refine V_aload_n (pc := 33) C dX6_takeStorm_33 rfl 0 rfl ?_
    refine V_get (pc := 34) (v := .ref (a 3)) C 0 6 4 hiX6_takeStorm_6 rfl rfl (by decide) wX6_takeStorm_k8 rfl dX6_takeStorm_34 ?_
    refine V_iconst (pc := 37) (v := 3) C dX6_takeStorm_37 rfl ?_
    refine V_aload_n (pc := 38) C dX6_takeStorm_38 rfl 0 rfl ?_
    refine V_get (pc := 39) (v := .int (I 2)) C 0 6 2 hiX6_takeStorm_6 rfl rfl (by decide) wX6_takeStorm_k2 rfl dX6_takeStorm_39 ?_
    refine V_imul (pc := 42) C dX6_takeStorm_42 ?_
    refine V_iload_n (pc := 43) C dX6_takeStorm_43 rfl 1 rfl ?_
    refine V_iadd (pc := 44) C dX6_takeStorm_44 ?_
    refine V_iload_n (pc := 45) C dX6_takeStorm_45 rfl 1 rfl ?_
    refine V_aload_n (pc := 46) C dX6_takeStorm_46 rfl 0 rfl ?_
    refine V_get (pc := 47) (v := .int (I 17)) C 0 6 17 hiX6_takeStorm_6 rfl rfl (by decide) wX6_takeStorm_k3 rfl dX6_takeStorm_47 ?_
    refine jn2_ok (P := (fun (s63_1 : Int32) (s63_2 : Int32) => VW X D 2 Q (KM Af X) (0, 0) (wM Y a I (up (up (up A 3 (upd (A 3) (Int32.toNatClampNeg (I 2)) (I 17))) 5 (upd (A 5) (Int32.toNatClampNeg (I 2)) (I 19))) 4 mA4_28) F L) [(0, .ref (a 0)), (1, .int x1_28)] 63 [.int s63_2, .int s63_1, .ref (a 3)])) (fun s63_1 s63_2 h => ?_) (fun J63 hJ63 h => ?_) h
    · obtain ⟨b63, h⟩ := chk_some h
      refine V_iast (pc := 63) (ws' := wM Y a I (up (up (up A 3 (upd (A 3) (Int32.toNatClampNeg (I 2)) (I 17))) 5 (upd (A 5) (Int32.toNatClampNeg (I 2)) (I 19))) 4 (upd mA4_28 (Int32.toNatClampNeg s63_1) s63_2)) F L) C 3 rfl b63 dX6_takeStorm_63 rfl ?_
      refine V_iinc (pc := 64) (v := (x1_28 + 1)) (lv' := [(1, .int (x1_28 + 1)), (0, .ref (a 0))]) C dX6_takeStorm_64 1 rfl rfl (Nat.le_of_ble_eq_true rfl) rfl ?_
      refine V_goto (pc := 67) C 28 dX6_takeStorm_67 rfl ?_
      exact V_sub [1, 0] rfl (ih28 _ _ h)
    refine V_icmp_ge (pc := 50) C 62 dX6_takeStorm_50 rfl (fun c50 => ?_) (fun c50 => ?_)
    · replace h := t_pos c50 h
      refine V_iconst (pc := 62) (v := 0) C dX6_takeStorm_62 rfl ?_
      exact V_sub [0, 1] rfl (hJ63 _ _ h)
    · replace h := t_neg c50 h
      refine V_aload_n (pc := 53) C dX6_takeStorm_53 rfl 0 rfl ?_
      refine V_get (pc := 54) (v := .ref (a 9)) C 0 6 18 hiX6_takeStorm_6 rfl rfl (by decide) wX6_takeStorm_k9 rfl dX6_takeStorm_54 ?_
      refine V_iload_n (pc := 57) C dX6_takeStorm_57 rfl 1 rfl ?_
      obtain ⟨b58, h⟩ := chk_some h
      refine V_iald (pc := 58) C 9 rfl b58 dX6_takeStorm_58 ?_
      refine V_goto (pc := 59) C 63 dX6_takeStorm_59 rfl ?_
      exact V_sub [0, 1] rfl (hJ63 _ _ h)
def X6_takeUnit (I : Nat → Int32) (A : Nat → Nat → Int32) (F : Nat → Int64) (L : Nat → Nat → Int64) : Option (Int32 × Int32 × (Nat → Int32) × (Nat → Int32) × (Nat → Int32)) :=
  chk (inB (I 7) 4) (chk (inB (I 7) 4) (jn1 (fun (mA10_72 : Nat → Int32) => some ((((I 7) + (1 : Int32)) - (1 : Int32)), ((I 7) + (1 : Int32)), (upd (A 8) (Int32.toNatClampNeg (I 7)) (I 16)), (upd (A 9) (Int32.toNatClampNeg (I 7)) (I 19)), mA10_72)) fun J72 =>
  wh2 (fun self28 (x1_28 : Int32) (mA10_28 : Nat → Int32) =>
  if (8 : Int32) ≤ x1_28 then (J72 mA10_28) else (jn2 (fun (s65_1 : Int32) (s65_2 : Int32) => chk (inB s65_1 32) (self28 (x1_28 + 1) (upd mA10_28 (Int32.toNatClampNeg s65_1) s65_2))) fun J65 =>
  if (I 19) ≤ x1_28 then (J65 (((8 : Int32) * (I 7)) + x1_28) (0 : Int32)) else (chk (inB x1_28 8) (J65 (((8 : Int32) * (I 7)) + x1_28) ((A 20) (Int32.toNatClampNeg x1_28)))))) 200 (0 : Int32) (A 10)))
theorem wX6_takeUnit_k0 : Cond.fieldLink RX6 25 (TX6 8).1 (TX6 8).2.1 (TX6 8).2.2.1 ∈ wsX6_takeUnit := by decide +kernel
theorem hiX6_takeUnit_6 : ∀ w ∈ u_ws RX6 TX6 33, w ∈ wsX6_takeUnit := fun _ h => List.mem_cons_of_mem _ (List.mem_append_right _ h)
theorem wX6_takeUnit_k2 : Cond.fieldLink RX6 117 (TX6 7).1 (TX6 7).2.1 (TX6 7).2.2.1 ∈ wsX6_takeUnit := by decide +kernel
theorem wX6_takeUnit_k3 : Cond.fieldLink RX6 101 (TX6 16).1 (TX6 16).2.1 (TX6 16).2.2.1 ∈ wsX6_takeUnit := by decide +kernel
theorem wX6_takeUnit_k4 : Cond.fieldLink RX6 28 (TX6 9).1 (TX6 9).2.1 (TX6 9).2.2.1 ∈ wsX6_takeUnit := by decide +kernel
theorem wX6_takeUnit_k5 : Cond.fieldLink RX6 85 (TX6 19).1 (TX6 19).2.1 (TX6 19).2.2.1 ∈ wsX6_takeUnit := by decide +kernel
theorem wX6_takeUnit_k6 : Cond.fieldLink RX6 31 (TX6 10).1 (TX6 10).2.1 (TX6 10).2.2.1 ∈ wsX6_takeUnit := by decide +kernel
theorem wX6_takeUnit_k7 : Cond.fieldLink RX6 37 (TX6 20).1 (TX6 20).2.1 (TX6 20).2.2.1 ∈ wsX6_takeUnit := by decide +kernel
theorem hdX6_takeUnit : yX6_takeUnit.cls ≠ "java/lang/invoke/MethodHandle" ∧ yX6_takeUnit.cls ≠ "java/lang/invoke/VarHandle" ∧ (parseMethodDescriptor yX6_takeUnit.desc).map (fun d => d.parameters.length) = some 0 := by decide +kernel
set_option maxHeartbeats 4000000 in
set_option maxRecDepth 100000 in
theorem X6_takeUnit_ok {l : Launch} {D : va_G} {Y : Nat → ClassId} {a : Nat → Nat} {I : Nat → Int32} {A : Nat → Nat → Int32} {F : Nat → Int64} {L : Nat → Nat → Int64} {r : Int32} {uI7 : Int32} {uA8 : Nat → Int32} {uA9 : Nat → Int32} {uA10 : Nat → Int32} (h : X6_takeUnit I A F L = some (r, uI7, uA8, uA9, uA10)) : MW l yX6_takeUnit wsX6_takeUnit 0 0 D Y [.ref (a 0)] (wM Y a I A F L) (wM Y a (up I 7 uI7) (up (up (up A 8 uA8) 9 uA9) 10 uA10) F L) (some (.int r)) := by
  refine MW_of (cc := cX6_takeUnit) (nL := 2) (ret := some .int) (lv0 := [(0, .ref (a 0))]) (by decide) rfl (Nat.le_of_ble_eq_true rfl) rfl rfl (fun X Af Q C hA hQ => ?_)
  unfold X6_takeUnit at h
  refine V_aload_n (pc := 0) C dX6_takeUnit_0 rfl 0 rfl ?_
  refine V_get (pc := 1) (v := .ref (a 6)) C 0 6 8 hiX6_takeUnit_6 rfl rfl (by decide) wX6_takeUnit_k0 rfl dX6_takeUnit_1 ?_
  refine V_aload_n (pc := 4) C dX6_takeUnit_4 rfl 0 rfl ?_
  refine V_get (pc := 5) (v := .int (I 7)) C 0 6 7 hiX6_takeUnit_6 rfl rfl (by decide) wX6_takeUnit_k2 rfl dX6_takeUnit_5 ?_
  refine V_aload_n (pc := 8) C dX6_takeUnit_8 rfl 0 rfl ?_
  refine V_get (pc := 9) (v := .int (I 16)) C 0 6 16 hiX6_takeUnit_6 rfl rfl (by decide) wX6_takeUnit_k3 rfl dX6_takeUnit_9 ?_
  obtain ⟨b12, h⟩ := chk_some h
  refine V_iast (pc := 12) (ws' := wM Y a I (up A 8 (upd (A 8) (Int32.toNatClampNeg (I 7)) (I 16))) F L) C 6 rfl b12 dX6_takeUnit_12 rfl ?_
  refine V_aload_n (pc := 13) C dX6_takeUnit_13 rfl 0 rfl ?_
  refine V_get (pc := 14) (v := .ref (a 7)) C 0 6 9 hiX6_takeUnit_6 rfl rfl (by decide) wX6_takeUnit_k4 rfl dX6_takeUnit_14 ?_
  refine V_aload_n (pc := 17) C dX6_takeUnit_17 rfl 0 rfl ?_
  refine V_get (pc := 18) (v := .int (I 7)) C 0 6 7 hiX6_takeUnit_6 rfl rfl (by decide) wX6_takeUnit_k2 rfl dX6_takeUnit_18 ?_
  refine V_aload_n (pc := 21) C dX6_takeUnit_21 rfl 0 rfl ?_
  refine V_get (pc := 22) (v := .int (I 19)) C 0 6 19 hiX6_takeUnit_6 rfl rfl (by decide) wX6_takeUnit_k5 rfl dX6_takeUnit_22 ?_
  obtain ⟨b25, h⟩ := chk_some h
  refine V_iast (pc := 25) (ws' := wM Y a I (up (up A 8 (upd (A 8) (Int32.toNatClampNeg (I 7)) (I 16))) 9 (upd (A 9) (Int32.toNatClampNeg (I 7)) (I 19))) F L) C 7 rfl b25 dX6_takeUnit_25 rfl ?_
  refine V_iconst (pc := 26) (v := 0) C dX6_takeUnit_26 rfl ?_
  refine V_istore_n (pc := 27) (lv' := [(1, .int (0 : Int32)), (0, .ref (a 0))]) C dX6_takeUnit_27 rfl (Nat.le_of_ble_eq_true rfl) rfl ?_
  refine jn1_ok (P := (fun (mA10_72 : Nat → Int32) => VW X D 2 Q (KM Af X) (0, 0) (wM Y a I (up (up (up A 8 (upd (A 8) (Int32.toNatClampNeg (I 7)) (I 16))) 9 (upd (A 9) (Int32.toNatClampNeg (I 7)) (I 19))) 10 mA10_72) F L) [(0, .ref (a 0))] 72 [])) (fun mA10_72 h => ?_) (fun J72 hJ72 h => ?_) h
  · refine V_aload_n (pc := 72) C dX6_takeUnit_72 rfl 0 rfl ?_
    refine V_dup (pc := 73) C dX6_takeUnit_73 rfl ?_
    refine V_get (pc := 74) (v := .int (I 7)) C 0 6 7 hiX6_takeUnit_6 rfl rfl (by decide) wX6_takeUnit_k2 rfl dX6_takeUnit_74 ?_
    refine V_iconst (pc := 77) (v := 1) C dX6_takeUnit_77 rfl ?_
    refine V_iadd (pc := 78) C dX6_takeUnit_78 ?_
    refine V_put (pc := 79) (ws' := wM Y a (up I 7 ((I 7) + (1 : Int32))) (up (up (up A 8 (upd (A 8) (Int32.toNatClampNeg (I 7)) (I 16))) 9 (upd (A 9) (Int32.toNatClampNeg (I 7)) (I 19))) 10 mA10_72) F L) C 0 6 7 hiX6_takeUnit_6 tyX6_ok nmX6 rfl rfl (by decide) wX6_takeUnit_k2 rfl rfl rfl (Nat.le_of_ble_eq_true rfl) dX6_takeUnit_79 rfl ?_
    refine V_aload_n (pc := 82) C dX6_takeUnit_82 rfl 0 rfl ?_
    refine V_get (pc := 83) (v := .int ((I 7) + (1 : Int32))) C 0 6 7 hiX6_takeUnit_6 rfl rfl (by decide) wX6_takeUnit_k2 rfl dX6_takeUnit_83 ?_
    refine V_iconst (pc := 86) (v := 1) C dX6_takeUnit_86 rfl ?_
    refine V_isub (pc := 87) C dX6_takeUnit_87 ?_
    cases h
    subst hQ
    exact V_iretW C dX6_takeUnit_88
  refine V_sub [1, 0] rfl (wh2_ok (P := (fun (x1_28 : Int32) (mA10_28 : Nat → Int32) => VW X D 2 Q (KM Af X) (0, 0) (wM Y a I (up (up (up A 8 (upd (A 8) (Int32.toNatClampNeg (I 7)) (I 16))) 9 (upd (A 9) (Int32.toNatClampNeg (I 7)) (I 19))) 10 mA10_28) F L) [(0, .ref (a 0)), (1, .int x1_28)] 28 [])) (fun self28 ih28 x1_28 mA10_28 h => ?_) 200 _ _ h)
  refine V_iload_n (pc := 28) C dX6_takeUnit_28 rfl 1 rfl ?_
  refine V_bipush (pc := 29) (v := 8) C dX6_takeUnit_29 rfl ?_
  refine V_icmp_ge (pc := 31) C 72 dX6_takeUnit_31 rfl (fun c31 => ?_) (fun c31 => ?_)
  · replace h := t_pos c31 h
    exact V_sub [0] rfl (hJ72 _ h)
  · replace h := t_neg c31 h
    refine V_aload_n (pc := 34) C dX6_takeUnit_34 rfl 0 rfl ?_
    refine V_get (pc := 35) (v := .ref (a 8)) C 0 6 10 hiX6_takeUnit_6 rfl rfl (by decide) wX6_takeUnit_k6 rfl dX6_takeUnit_35 ?_
    refine V_bipush (pc := 38) (v := 8) C dX6_takeUnit_38 rfl ?_
    refine V_aload_n (pc := 40) C dX6_takeUnit_40 rfl 0 rfl ?_
    refine V_get (pc := 41) (v := .int (I 7)) C 0 6 7 hiX6_takeUnit_6 rfl rfl (by decide) wX6_takeUnit_k2 rfl dX6_takeUnit_41 ?_
    refine V_imul (pc := 44) C dX6_takeUnit_44 ?_
    refine V_iload_n (pc := 45) C dX6_takeUnit_45 rfl 1 rfl ?_
    refine V_iadd (pc := 46) C dX6_takeUnit_46 ?_
    refine V_iload_n (pc := 47) C dX6_takeUnit_47 rfl 1 rfl ?_
    refine V_aload_n (pc := 48) C dX6_takeUnit_48 rfl 0 rfl ?_
    refine V_get (pc := 49) (v := .int (I 19)) C 0 6 19 hiX6_takeUnit_6 rfl rfl (by decide) wX6_takeUnit_k5 rfl dX6_takeUnit_49 ?_
    refine jn2_ok (P := (fun (s65_1 : Int32) (s65_2 : Int32) => VW X D 2 Q (KM Af X) (0, 0) (wM Y a I (up (up (up A 8 (upd (A 8) (Int32.toNatClampNeg (I 7)) (I 16))) 9 (upd (A 9) (Int32.toNatClampNeg (I 7)) (I 19))) 10 mA10_28) F L) [(0, .ref (a 0)), (1, .int x1_28)] 65 [.int s65_2, .int s65_1, .ref (a 8)])) (fun s65_1 s65_2 h => ?_) (fun J65 hJ65 h => ?_) h
    · obtain ⟨b65, h⟩ := chk_some h
      refine V_iast (pc := 65) (ws' := wM Y a I (up (up (up A 8 (upd (A 8) (Int32.toNatClampNeg (I 7)) (I 16))) 9 (upd (A 9) (Int32.toNatClampNeg (I 7)) (I 19))) 10 (upd mA10_28 (Int32.toNatClampNeg s65_1) s65_2)) F L) C 8 rfl b65 dX6_takeUnit_65 rfl ?_
      refine V_iinc (pc := 66) (v := (x1_28 + 1)) (lv' := [(1, .int (x1_28 + 1)), (0, .ref (a 0))]) C dX6_takeUnit_66 1 rfl rfl (Nat.le_of_ble_eq_true rfl) rfl ?_
      refine V_goto (pc := 69) C 28 dX6_takeUnit_69 rfl ?_
      exact V_sub [1, 0] rfl (ih28 _ _ h)
    refine V_icmp_ge (pc := 52) C 64 dX6_takeUnit_52 rfl (fun c52 => ?_) (fun c52 => ?_)
    · replace h := t_pos c52 h
      refine V_iconst (pc := 64) (v := 0) C dX6_takeUnit_64 rfl ?_
      exact V_sub [0, 1] rfl (hJ65 _ _ h)
    · replace h := t_neg c52 h
      refine V_aload_n (pc := 55) C dX6_takeUnit_55 rfl 0 rfl ?_
      refine V_get (pc := 56) (v := .ref (a 10)) C 0 6 20 hiX6_takeUnit_6 rfl rfl (by decide) wX6_takeUnit_k7 rfl dX6_takeUnit_56 ?_
      refine V_iload_n (pc := 59) C dX6_takeUnit_59 rfl 1 rfl ?_
      obtain ⟨b60, h⟩ := chk_some h
      refine V_iald (pc := 60) C 10 rfl b60 dX6_takeUnit_60 ?_
      refine V_goto (pc := 61) C 65 dX6_takeUnit_61 rfl ?_
      exact V_sub [0, 1] rfl (hJ65 _ _ h)
def X6_take (I : Nat → Int32) (A : Nat → Nat → Int32) (F : Nat → Int64) (L : Nat → Nat → Int64) : Option (Int32 × Int32 × Int32 × (Nat → Int32) × (Nat → Int32) × (Nat → Int32) × (Nat → Int32) × Int32 × (Nat → Int32) × (Nat → Int32) × (Nat → Int32) × Int32 × Int32 × Int32 × Int32 × Int32 × (Nat → Int32) × Int32 × (Nat → Int32) × Int32 × Int32) :=
  ob10 (X6_goAlong I A F L) fun r1 oI14_1 oI15_1 oI16_1 oI17_1 oA18_1 oI19_1 oA20_1 oI21_1 oI22_1 =>
  if r1 < (I 0) then (some ((-1000004 : Int32), (I 0), (I 2), (A 3), (A 4), (A 5), (A 6), (I 7), (A 8), (A 9), (A 10), (I 11), oI14_1, oI15_1, oI16_1, oI17_1, oA18_1, oI19_1, oA20_1, oI21_1, oI22_1)) else (if oI14_1 = (4 : Int32) then (if oI21_1 = 0 then (some ((-1000004 : Int32), (I 0), (I 2), (A 3), (A 4), (A 5), (A 6), (I 7), (A 8), (A 9), (A 10), (I 11), oI14_1, oI15_1, oI16_1, oI17_1, oA18_1, oI19_1, oA20_1, oI21_1, oI22_1)) else (jn0 (ob4 (X6_keepNumber (up (up (up (up (up (up (up I 14 oI14_1) 15 oI15_1) 16 oI16_1) 17 oI17_1) 19 oI19_1) 21 oI21_1) 22 oI22_1) (up (up A 18 oA18_1) 20 oA20_1) F L) fun oI17_59 oA18_59 oI19_59 oA20_59 =>
  if oI15_1 = 0 then (ob6 (X6_takeStorm (up (up (up (up (up (up (up (up (up I 14 oI14_1) 15 oI15_1) 16 oI16_1) 17 oI17_59) 19 oI19_59) 21 oI21_1) 22 oI22_1) 0 (0 : Int32)) 11 ((I 11) + (1 : Int32))) (up (up A 18 oA18_59) 20 oA20_59) F L) fun r92 oI2_92 oA3_92 oA4_92 oA5_92 oA6_92 =>
  some (r92, (0 : Int32), oI2_92, oA3_92, oA4_92, oA5_92, oA6_92, (I 7), (A 8), (A 9), (A 10), ((I 11) + (1 : Int32)), oI14_1, oI15_1, oI16_1, oI17_59, oA18_59, oI19_59, oA20_59, oI21_1, oI22_1)) else (ob5 (X6_takeUnit (up (up (up (up (up (up (up (up (up I 14 oI14_1) 15 oI15_1) 16 oI16_1) 17 oI17_59) 19 oI19_59) 21 oI21_1) 22 oI22_1) 0 (0 : Int32)) 11 ((I 11) + (1 : Int32))) (up (up A 18 oA18_59) 20 oA20_59) F L) fun r85 oI7_85 oA8_85 oA9_85 oA10_85 =>
  some (r85, (0 : Int32), (I 2), (A 3), (A 4), (A 5), (A 6), oI7_85, oA8_85, oA9_85, oA10_85, ((I 11) + (1 : Int32)), oI14_1, oI15_1, oI16_1, oI17_59, oA18_59, oI19_59, oA20_59, oI21_1, oI22_1))) fun J58 =>
  if oI15_1 = 0 then (if (I 2) = (3 : Int32) then (some ((-1000005 : Int32), (I 0), (I 2), (A 3), (A 4), (A 5), (A 6), (I 7), (A 8), (A 9), (A 10), (I 11), oI14_1, oI15_1, oI16_1, oI17_1, oA18_1, oI19_1, oA20_1, oI21_1, oI22_1)) else (J58)) else (if (I 7) = (4 : Int32) then (some ((-1000005 : Int32), (I 0), (I 2), (A 3), (A 4), (A 5), (A 6), (I 7), (A 8), (A 9), (A 10), (I 11), oI14_1, oI15_1, oI16_1, oI17_1, oA18_1, oI19_1, oA20_1, oI21_1, oI22_1)) else (J58)))) else (some ((-1000004 : Int32), (I 0), (I 2), (A 3), (A 4), (A 5), (A 6), (I 7), (A 8), (A 9), (A 10), (I 11), oI14_1, oI15_1, oI16_1, oI17_1, oA18_1, oI19_1, oA20_1, oI21_1, oI22_1)))
theorem wX6_take_k0 : Cond.fieldLink RX6 64 (TX6 0).1 (TX6 0).2.1 (TX6 0).2.2.1 ∈ wsX6_take := by decide +kernel
theorem hiX6_take_6 : ∀ w ∈ u_ws RX6 TX6 33, w ∈ wsX6_take := fun _ h => List.mem_cons_of_mem _ (List.mem_append_right _ h)
theorem wX6_take_k2 : Cond.constant RX6 120 (-1000004) ∈ wsX6_take := by decide +kernel
theorem wX6_take_k3 : Cond.fieldLink RX6 69 (TX6 14).1 (TX6 14).2.1 (TX6 14).2.2.1 ∈ wsX6_take := by decide +kernel
theorem wX6_take_k4 : Cond.fieldLink RX6 72 (TX6 21).1 (TX6 21).2.1 (TX6 21).2.2.1 ∈ wsX6_take := by decide +kernel
theorem wX6_take_k5 : Cond.fieldLink RX6 78 (TX6 15).1 (TX6 15).2.1 (TX6 15).2.2.1 ∈ wsX6_take := by decide +kernel
theorem wX6_take_k6 : Cond.fieldLink RX6 121 (TX6 11).1 (TX6 11).2.1 (TX6 11).2.2.1 ∈ wsX6_take := by decide +kernel
theorem wX6_take_k7 : Cond.fieldLink RX6 114 (TX6 2).1 (TX6 2).2.1 (TX6 2).2.2.1 ∈ wsX6_take := by decide +kernel
theorem wX6_take_k8 : Cond.constant RX6 68 (-1000005) ∈ wsX6_take := by decide +kernel
theorem wX6_take_k9 : Cond.fieldLink RX6 117 (TX6 7).1 (TX6 7).2.1 (TX6 7).2.2.1 ∈ wsX6_take := by decide +kernel
theorem hdX6_take : yX6_take.cls ≠ "java/lang/invoke/MethodHandle" ∧ yX6_take.cls ≠ "java/lang/invoke/VarHandle" ∧ (parseMethodDescriptor yX6_take.desc).map (fun d => d.parameters.length) = some 0 := by decide +kernel
set_option maxHeartbeats 4000000 in
set_option maxRecDepth 100000 in
theorem X6_take_ok {l : Launch} {D : va_G} {Y : Nat → ClassId} {a : Nat → Nat} {I : Nat → Int32} {A : Nat → Nat → Int32} {F : Nat → Int64} {L : Nat → Nat → Int64} {r : Int32} {uI0 : Int32} {uI2 : Int32} {uA3 : Nat → Int32} {uA4 : Nat → Int32} {uA5 : Nat → Int32} {uA6 : Nat → Int32} {uI7 : Int32} {uA8 : Nat → Int32} {uA9 : Nat → Int32} {uA10 : Nat → Int32} {uI11 : Int32} {uI14 : Int32} {uI15 : Int32} {uI16 : Int32} {uI17 : Int32} {uA18 : Nat → Int32} {uI19 : Int32} {uA20 : Nat → Int32} {uI21 : Int32} {uI22 : Int32} (h : X6_take I A F L = some (r, uI0, uI2, uA3, uA4, uA5, uA6, uI7, uA8, uA9, uA10, uI11, uI14, uI15, uI16, uI17, uA18, uI19, uA20, uI21, uI22)) : MW l yX6_take wsX6_take 4 90 D Y [.ref (a 0)] (wM Y a I A F L) (wM Y a (up (up (up (up (up (up (up (up (up (up (up I 0 uI0) 2 uI2) 7 uI7) 11 uI11) 14 uI14) 15 uI15) 16 uI16) 17 uI17) 19 uI19) 21 uI21) 22 uI22) (up (up (up (up (up (up (up (up (up A 3 uA3) 4 uA4) 5 uA5) 6 uA6) 8 uA8) 9 uA9) 10 uA10) 18 uA18) 20 uA20) F L) (some (.int r)) := by
  refine MW_of (cc := cX6_take) (nL := 1) (ret := some .int) (lv0 := [(0, .ref (a 0))]) (by decide) rfl (Nat.le_of_ble_eq_true rfl) rfl rfl (fun X Af Q C hA hQ => ?_)
  unfold X6_take at h
  refine V_aload_n (pc := 0) C dX6_take_0 rfl 0 rfl ?_
  obtain ⟨r1, oI14_1, oI15_1, oI16_1, oI17_1, oA18_1, oI19_1, oA20_1, oI21_1, oI22_1, hq, h⟩ := ob10_some h
  refine V_callVW0 (pc := 1) (rest := []) (st2 := [.int r1]) (ws' := wM Y a (up (up (up (up (up (up (up I 14 oI14_1) 15 oI15_1) 16 oI16_1) 17 oI17_1) 19 oI19_1) 21 oI21_1) 22 oI22_1) (up (up A 18 oA18_1) 20 oA20_1) F L) C hA (X6_goAlong_ok (a := a) hq) gX6_take_X6_goAlong rfl ⟨rfl, hdX6_goAlong⟩ ⟨Nat.le_of_ble_eq_true rfl, Nat.le_of_ble_eq_true rfl⟩ ⟨Nat.le_refl _, Nat.le_refl _⟩ 0 6 rfl rfl rfl (Nat.le_of_ble_eq_true rfl) dX6_take_1 rfl rfl ?_
  refine V_aload_n (pc := 4) C dX6_take_4 rfl 0 rfl ?_
  refine V_get (pc := 5) (v := .int (I 0)) C 0 6 0 hiX6_take_6 rfl rfl (by decide) wX6_take_k0 rfl dX6_take_5 ?_
  refine V_icmp_lt (pc := 8) C 26 dX6_take_8 rfl (fun c8 => ?_) (fun c8 => ?_)
  · replace h := t_pos c8 h
    refine V_ldc (pc := 26) (v := -1000004) C dX6_take_26 wX6_take_k2 ?_
    cases h
    subst hQ
    exact V_iretW C dX6_take_28
  · replace h := t_neg c8 h
    refine V_aload_n (pc := 11) C dX6_take_11 rfl 0 rfl ?_
    refine V_get (pc := 12) (v := .int oI14_1) C 0 6 14 hiX6_take_6 rfl rfl (by decide) wX6_take_k3 rfl dX6_take_12 ?_
    refine V_iconst (pc := 15) (v := 4) C dX6_take_15 rfl ?_
    refine V_icmp_ne (pc := 16) C 26 dX6_take_16 rfl (fun c16 => ?_) (fun c16 => ?_)
    · replace h := t_neg c16 h
      refine V_ldc (pc := 26) (v := -1000004) C dX6_take_26 wX6_take_k2 ?_
      cases h
      subst hQ
      exact V_iretW C dX6_take_28
    · replace h := t_pos c16 h
      refine V_aload_n (pc := 19) C dX6_take_19 rfl 0 rfl ?_
      refine V_get (pc := 20) (v := .int oI21_1) C 0 6 21 hiX6_take_6 rfl rfl (by decide) wX6_take_k4 rfl dX6_take_20 ?_
      refine V_if_ne (pc := 23) C 29 dX6_take_23 rfl (fun c23 => ?_) (fun c23 => ?_)
      · replace h := t_neg c23 h
        refine V_aload_n (pc := 29) C dX6_take_29 rfl 0 rfl ?_
        refine V_get (pc := 30) (v := .int oI15_1) C 0 6 15 hiX6_take_6 rfl rfl (by decide) wX6_take_k5 rfl dX6_take_30 ?_
        refine jn0_ok (P := (VW X D 1 Q (KM Af X) (0, 0) (wM Y a (up (up (up (up (up (up (up I 14 oI14_1) 15 oI15_1) 16 oI16_1) 17 oI17_1) 19 oI19_1) 21 oI21_1) 22 oI22_1) (up (up A 18 oA18_1) 20 oA20_1) F L) [(0, .ref (a 0))] 58 [])) (fun h => ?_) (fun J58 hJ58 h => ?_) h
        · refine V_aload_n (pc := 58) C dX6_take_58 rfl 0 rfl ?_
          obtain ⟨oI17_59, oA18_59, oI19_59, oA20_59, hq, h⟩ := ob4_some h
          refine V_callVW0 (pc := 59) (rest := []) (st2 := []) (ws' := wM Y a (up (up (up (up (up (up (up I 14 oI14_1) 15 oI15_1) 16 oI16_1) 17 oI17_59) 19 oI19_59) 21 oI21_1) 22 oI22_1) (up (up A 18 oA18_59) 20 oA20_59) F L) C hA (X6_keepNumber_ok (a := a) hq) gX6_take_X6_keepNumber rfl ⟨rfl, hdX6_keepNumber⟩ ⟨Nat.le_of_ble_eq_true rfl, Nat.le_of_ble_eq_true rfl⟩ ⟨Nat.le_refl _, Nat.le_refl _⟩ 0 6 rfl rfl rfl (Nat.le_of_ble_eq_true rfl) dX6_take_59 rfl rfl ?_
          refine V_aload_n (pc := 62) C dX6_take_62 rfl 0 rfl ?_
          refine V_iconst (pc := 63) (v := 0) C dX6_take_63 rfl ?_
          refine V_put (pc := 64) (ws' := wM Y a (up (up (up (up (up (up (up (up I 14 oI14_1) 15 oI15_1) 16 oI16_1) 17 oI17_59) 19 oI19_59) 21 oI21_1) 22 oI22_1) 0 (0 : Int32)) (up (up A 18 oA18_59) 20 oA20_59) F L) C 0 6 0 hiX6_take_6 tyX6_ok nmX6 rfl rfl (by decide) wX6_take_k0 rfl rfl rfl (Nat.le_of_ble_eq_true rfl) dX6_take_64 rfl ?_
          refine V_aload_n (pc := 67) C dX6_take_67 rfl 0 rfl ?_
          refine V_dup (pc := 68) C dX6_take_68 rfl ?_
          refine V_get (pc := 69) (v := .int (I 11)) C 0 6 11 hiX6_take_6 rfl rfl (by decide) wX6_take_k6 rfl dX6_take_69 ?_
          refine V_iconst (pc := 72) (v := 1) C dX6_take_72 rfl ?_
          refine V_iadd (pc := 73) C dX6_take_73 ?_
          refine V_put (pc := 74) (ws' := wM Y a (up (up (up (up (up (up (up (up (up I 14 oI14_1) 15 oI15_1) 16 oI16_1) 17 oI17_59) 19 oI19_59) 21 oI21_1) 22 oI22_1) 0 (0 : Int32)) 11 ((I 11) + (1 : Int32))) (up (up A 18 oA18_59) 20 oA20_59) F L) C 0 6 11 hiX6_take_6 tyX6_ok nmX6 rfl rfl (by decide) wX6_take_k6 rfl rfl rfl (Nat.le_of_ble_eq_true rfl) dX6_take_74 rfl ?_
          refine V_aload_n (pc := 77) C dX6_take_77 rfl 0 rfl ?_
          refine V_get (pc := 78) (v := .int oI15_1) C 0 6 15 hiX6_take_6 rfl rfl (by decide) wX6_take_k5 rfl dX6_take_78 ?_
          refine V_if_eq (pc := 81) C 91 dX6_take_81 rfl (fun c81 => ?_) (fun c81 => ?_)
          · replace h := t_pos c81 h
            refine V_aload_n (pc := 91) C dX6_take_91 rfl 0 rfl ?_
            obtain ⟨r92, oI2_92, oA3_92, oA4_92, oA5_92, oA6_92, hq, h⟩ := ob6_some h
            refine V_callVW0 (pc := 92) (rest := []) (st2 := [.int r92]) (ws' := wM Y a (up (up (up (up (up (up (up (up (up (up I 14 oI14_1) 15 oI15_1) 16 oI16_1) 17 oI17_59) 19 oI19_59) 21 oI21_1) 22 oI22_1) 0 (0 : Int32)) 11 ((I 11) + (1 : Int32))) 2 oI2_92) (up (up (up (up (up (up A 18 oA18_59) 20 oA20_59) 3 oA3_92) 4 oA4_92) 5 oA5_92) 6 oA6_92) F L) C hA (X6_takeStorm_ok (a := a) hq) gX6_take_X6_takeStorm rfl ⟨rfl, hdX6_takeStorm⟩ ⟨Nat.le_of_ble_eq_true rfl, Nat.le_of_ble_eq_true rfl⟩ ⟨Nat.le_refl _, Nat.le_refl _⟩ 0 6 rfl rfl rfl (Nat.le_of_ble_eq_true rfl) dX6_take_92 rfl rfl ?_
            cases h
            subst hQ
            exact V_iretW C dX6_take_95
          · replace h := t_neg c81 h
            refine V_aload_n (pc := 84) C dX6_take_84 rfl 0 rfl ?_
            obtain ⟨r85, oI7_85, oA8_85, oA9_85, oA10_85, hq, h⟩ := ob5_some h
            refine V_callVW0 (pc := 85) (rest := []) (st2 := [.int r85]) (ws' := wM Y a (up (up (up (up (up (up (up (up (up (up I 14 oI14_1) 15 oI15_1) 16 oI16_1) 17 oI17_59) 19 oI19_59) 21 oI21_1) 22 oI22_1) 0 (0 : Int32)) 11 ((I 11) + (1 : Int32))) 7 oI7_85) (up (up (up (up (up A 18 oA18_59) 20 oA20_59) 8 oA8_85) 9 oA9_85) 10 oA10_85) F L) C hA (X6_takeUnit_ok (a := a) hq) gX6_take_X6_takeUnit rfl ⟨rfl, hdX6_takeUnit⟩ ⟨Nat.le_of_ble_eq_true rfl, Nat.le_of_ble_eq_true rfl⟩ ⟨Nat.le_refl _, Nat.le_refl _⟩ 0 6 rfl rfl rfl (Nat.le_of_ble_eq_true rfl) dX6_take_85 rfl rfl ?_
            refine V_goto (pc := 88) C 95 dX6_take_88 rfl ?_
            cases h
            subst hQ
            exact V_iretW C dX6_take_95
        refine V_if_eq (pc := 33) C 47 dX6_take_33 rfl (fun c33 => ?_) (fun c33 => ?_)
        · replace h := t_pos c33 h
          refine V_aload_n (pc := 47) C dX6_take_47 rfl 0 rfl ?_
          refine V_get (pc := 48) (v := .int (I 2)) C 0 6 2 hiX6_take_6 rfl rfl (by decide) wX6_take_k7 rfl dX6_take_48 ?_
          refine V_iconst (pc := 51) (v := 3) C dX6_take_51 rfl ?_
          refine V_icmp_ne (pc := 52) C 58 dX6_take_52 rfl (fun c52 => ?_) (fun c52 => ?_)
          · replace h := t_neg c52 h
            exact V_sub [0] rfl (hJ58 h)
          · replace h := t_pos c52 h
            refine V_ldc (pc := 55) (v := -1000005) C dX6_take_55 wX6_take_k8 ?_
            cases h
            subst hQ
            exact V_iretW C dX6_take_57
        · replace h := t_neg c33 h
          refine V_aload_n (pc := 36) C dX6_take_36 rfl 0 rfl ?_
          refine V_get (pc := 37) (v := .int (I 7)) C 0 6 7 hiX6_take_6 rfl rfl (by decide) wX6_take_k9 rfl dX6_take_37 ?_
          refine V_iconst (pc := 40) (v := 4) C dX6_take_40 rfl ?_
          refine V_icmp_ne (pc := 41) C 58 dX6_take_41 rfl (fun c41 => ?_) (fun c41 => ?_)
          · replace h := t_neg c41 h
            exact V_sub [0] rfl (hJ58 h)
          · replace h := t_pos c41 h
            refine V_goto (pc := 44) C 55 dX6_take_44 rfl ?_
            refine V_ldc (pc := 55) (v := -1000005) C dX6_take_55 wX6_take_k8 ?_
            cases h
            subst hQ
            exact V_iretW C dX6_take_57
      · replace h := t_pos c23 h
        refine V_ldc (pc := 26) (v := -1000004) C dX6_take_26 wX6_take_k2 ?_
        cases h
        subst hQ
        exact V_iretW C dX6_take_28
def X6_dropStorm (I : Nat → Int32) (A : Nat → Nat → Int32) (F : Nat → Int64) (L : Nat → Nat → Int64) (p0 : Int32) : Option (Int32 × Int32 × (Nat → Int32) × (Nat → Int32) × (Nat → Int32) × (Nat → Int32)) :=
  jn4 (fun (mA3_128 : Nat → Int32) (mA4_128 : Nat → Int32) (mA5_128 : Nat → Int32) (mA6_128 : Nat → Int32) => some (((I 2) - (1 : Int32)), ((I 2) - (1 : Int32)), mA3_128, mA4_128, mA5_128, mA6_128)) fun J128 =>
  wh5 (fun self12 (x2_12 : Int32) (mA3_12 : Nat → Int32) (mA4_12 : Nat → Int32) (mA5_12 : Nat → Int32) (mA6_12 : Nat → Int32) =>
  if ((I 2) - (1 : Int32)) ≤ x2_12 then (J128 mA3_12 mA4_12 mA5_12 mA6_12) else (chk (inB (x2_12 + (1 : Int32)) 3) (chk (inB x2_12 3) (chk (inB (x2_12 + (1 : Int32)) 3) (chk (inB x2_12 3) (jn1 (fun (mA4_83 : Nat → Int32) => jn1 (fun (mA6_122 : Nat → Int32) => self12 (x2_12 + 1) (upd mA3_12 (Int32.toNatClampNeg x2_12) (mA3_12 (Int32.toNatClampNeg (x2_12 + (1 : Int32))))) mA4_83 (upd mA5_12 (Int32.toNatClampNeg x2_12) (mA5_12 (Int32.toNatClampNeg (x2_12 + (1 : Int32))))) mA6_122) fun J122 =>
  wh2 (fun self85 (x3_85 : Int32) (mA6_85 : Nat → Int32) =>
  if (8 : Int32) ≤ x3_85 then (J122 mA6_85) else (chk (inB ((((8 : Int32) * x2_12) + (8 : Int32)) + x3_85) 24) (chk (inB (((8 : Int32) * x2_12) + x3_85) 24) (self85 (x3_85 + 1) (upd mA6_85 (Int32.toNatClampNeg (((8 : Int32) * x2_12) + x3_85)) (mA6_85 (Int32.toNatClampNeg ((((8 : Int32) * x2_12) + (8 : Int32)) + x3_85)))))))) 200 (0 : Int32) mA6_12) fun J83 =>
  wh2 (fun self50 (x3_50 : Int32) (mA4_50 : Nat → Int32) =>
  if (3 : Int32) ≤ x3_50 then (J83 mA4_50) else (chk (inB ((((3 : Int32) * x2_12) + (3 : Int32)) + x3_50) 9) (chk (inB (((3 : Int32) * x2_12) + x3_50) 9) (self50 (x3_50 + 1) (upd mA4_50 (Int32.toNatClampNeg (((3 : Int32) * x2_12) + x3_50)) (mA4_50 (Int32.toNatClampNeg ((((3 : Int32) * x2_12) + (3 : Int32)) + x3_50)))))))) 200 (0 : Int32) mA4_12)))))) 200 p0 (A 3) (A 4) (A 5) (A 6)
theorem wX6_dropStorm_k0 : Cond.fieldLink RX6 114 (TX6 2).1 (TX6 2).2.1 (TX6 2).2.2.1 ∈ wsX6_dropStorm := by decide +kernel
theorem hiX6_dropStorm_6 : ∀ w ∈ u_ws RX6 TX6 33, w ∈ wsX6_dropStorm := fun _ h => List.mem_cons_of_mem _ (List.mem_append_right _ h)
theorem wX6_dropStorm_k2 : Cond.fieldLink RX6 13 (TX6 3).1 (TX6 3).2.1 (TX6 3).2.2.1 ∈ wsX6_dropStorm := by decide +kernel
theorem wX6_dropStorm_k3 : Cond.fieldLink RX6 19 (TX6 5).1 (TX6 5).2.1 (TX6 5).2.2.1 ∈ wsX6_dropStorm := by decide +kernel
theorem wX6_dropStorm_k4 : Cond.fieldLink RX6 22 (TX6 6).1 (TX6 6).2.1 (TX6 6).2.2.1 ∈ wsX6_dropStorm := by decide +kernel
theorem wX6_dropStorm_k5 : Cond.fieldLink RX6 16 (TX6 4).1 (TX6 4).2.1 (TX6 4).2.2.1 ∈ wsX6_dropStorm := by decide +kernel
theorem hdX6_dropStorm : yX6_dropStorm.cls ≠ "java/lang/invoke/MethodHandle" ∧ yX6_dropStorm.cls ≠ "java/lang/invoke/VarHandle" ∧ (parseMethodDescriptor yX6_dropStorm.desc).map (fun d => d.parameters.length) = some 1 := by decide +kernel
set_option maxHeartbeats 4000000 in
set_option maxRecDepth 100000 in
theorem X6_dropStorm_ok {l : Launch} {D : va_G} {Y : Nat → ClassId} {a : Nat → Nat} {I : Nat → Int32} {A : Nat → Nat → Int32} {F : Nat → Int64} {L : Nat → Nat → Int64} {p0 : Int32} {r : Int32} {uI2 : Int32} {uA3 : Nat → Int32} {uA4 : Nat → Int32} {uA5 : Nat → Int32} {uA6 : Nat → Int32} (h : X6_dropStorm I A F L p0 = some (r, uI2, uA3, uA4, uA5, uA6)) : MW l yX6_dropStorm wsX6_dropStorm 0 0 D Y [.ref (a 0), .int p0] (wM Y a I A F L) (wM Y a (up I 2 uI2) (up (up (up (up A 3 uA3) 4 uA4) 5 uA5) 6 uA6) F L) (some (.int r)) := by
  refine MW_of (cc := cX6_dropStorm) (nL := 4) (ret := some .int) (lv0 := [(0, .ref (a 0)), (1, .int p0)]) (by decide) rfl (Nat.le_of_ble_eq_true rfl) rfl rfl (fun X Af Q C hA hQ => ?_)
  unfold X6_dropStorm at h
  refine V_aload_n (pc := 0) C dX6_dropStorm_0 rfl 0 rfl ?_
  refine V_dup (pc := 1) C dX6_dropStorm_1 rfl ?_
  refine V_get (pc := 2) (v := .int (I 2)) C 0 6 2 hiX6_dropStorm_6 rfl rfl (by decide) wX6_dropStorm_k0 rfl dX6_dropStorm_2 ?_
  refine V_iconst (pc := 5) (v := 1) C dX6_dropStorm_5 rfl ?_
  refine V_isub (pc := 6) C dX6_dropStorm_6 ?_
  refine V_put (pc := 7) (ws' := wM Y a (up I 2 ((I 2) - (1 : Int32))) A F L) C 0 6 2 hiX6_dropStorm_6 tyX6_ok nmX6 rfl rfl (by decide) wX6_dropStorm_k0 rfl rfl rfl (Nat.le_of_ble_eq_true rfl) dX6_dropStorm_7 rfl ?_
  refine V_iload_n (pc := 10) C dX6_dropStorm_10 rfl 1 rfl ?_
  refine V_istore_n (pc := 11) (lv' := [(2, .int p0), (0, .ref (a 0)), (1, .int p0)]) C dX6_dropStorm_11 rfl (Nat.le_of_ble_eq_true rfl) rfl ?_
  refine jn4_ok (P := (fun (mA3_128 : Nat → Int32) (mA4_128 : Nat → Int32) (mA5_128 : Nat → Int32) (mA6_128 : Nat → Int32) => VW X D 4 Q (KM Af X) (0, 0) (wM Y a (up I 2 ((I 2) - (1 : Int32))) (up (up (up (up A 3 mA3_128) 4 mA4_128) 5 mA5_128) 6 mA6_128) F L) [(0, .ref (a 0))] 128 [])) (fun mA3_128 mA4_128 mA5_128 mA6_128 h => ?_) (fun J128 hJ128 h => ?_) h
  · refine V_aload_n (pc := 128) C dX6_dropStorm_128 rfl 0 rfl ?_
    refine V_get (pc := 129) (v := .int ((I 2) - (1 : Int32))) C 0 6 2 hiX6_dropStorm_6 rfl rfl (by decide) wX6_dropStorm_k0 rfl dX6_dropStorm_129 ?_
    cases h
    subst hQ
    exact V_iretW C dX6_dropStorm_132
  refine V_sub [1, 0] rfl (wh5_ok (P := (fun (x2_12 : Int32) (mA3_12 : Nat → Int32) (mA4_12 : Nat → Int32) (mA5_12 : Nat → Int32) (mA6_12 : Nat → Int32) => VW X D 4 Q (KM Af X) (0, 0) (wM Y a (up I 2 ((I 2) - (1 : Int32))) (up (up (up (up A 3 mA3_12) 4 mA4_12) 5 mA5_12) 6 mA6_12) F L) [(0, .ref (a 0)), (2, .int x2_12)] 12 [])) (fun self12 ih12 x2_12 mA3_12 mA4_12 mA5_12 mA6_12 h => ?_) 200 _ _ _ _ _ h)
  refine V_iload_n (pc := 12) C dX6_dropStorm_12 rfl 1 rfl ?_
  refine V_aload_n (pc := 13) C dX6_dropStorm_13 rfl 0 rfl ?_
  refine V_get (pc := 14) (v := .int ((I 2) - (1 : Int32))) C 0 6 2 hiX6_dropStorm_6 rfl rfl (by decide) wX6_dropStorm_k0 rfl dX6_dropStorm_14 ?_
  refine V_icmp_ge (pc := 17) C 128 dX6_dropStorm_17 rfl (fun c17 => ?_) (fun c17 => ?_)
  · replace h := t_pos c17 h
    exact V_sub [0] rfl (hJ128 _ _ _ _ h)
  · replace h := t_neg c17 h
    refine V_aload_n (pc := 20) C dX6_dropStorm_20 rfl 0 rfl ?_
    refine V_get (pc := 21) (v := .ref (a 2)) C 0 6 3 hiX6_dropStorm_6 rfl rfl (by decide) wX6_dropStorm_k2 rfl dX6_dropStorm_21 ?_
    refine V_iload_n (pc := 24) C dX6_dropStorm_24 rfl 1 rfl ?_
    refine V_aload_n (pc := 25) C dX6_dropStorm_25 rfl 0 rfl ?_
    refine V_get (pc := 26) (v := .ref (a 2)) C 0 6 3 hiX6_dropStorm_6 rfl rfl (by decide) wX6_dropStorm_k2 rfl dX6_dropStorm_26 ?_
    refine V_iload_n (pc := 29) C dX6_dropStorm_29 rfl 1 rfl ?_
    refine V_iconst (pc := 30) (v := 1) C dX6_dropStorm_30 rfl ?_
    refine V_iadd (pc := 31) C dX6_dropStorm_31 ?_
    obtain ⟨b32, h⟩ := chk_some h
    refine V_iald (pc := 32) C 2 rfl b32 dX6_dropStorm_32 ?_
    obtain ⟨b33, h⟩ := chk_some h
    refine V_iast (pc := 33) (ws' := wM Y a (up I 2 ((I 2) - (1 : Int32))) (up (up (up (up A 3 (upd mA3_12 (Int32.toNatClampNeg x2_12) (mA3_12 (Int32.toNatClampNeg (x2_12 + (1 : Int32)))))) 4 mA4_12) 5 mA5_12) 6 mA6_12) F L) C 2 rfl b33 dX6_dropStorm_33 rfl ?_
    refine V_aload_n (pc := 34) C dX6_dropStorm_34 rfl 0 rfl ?_
    refine V_get (pc := 35) (v := .ref (a 4)) C 0 6 5 hiX6_dropStorm_6 rfl rfl (by decide) wX6_dropStorm_k3 rfl dX6_dropStorm_35 ?_
    refine V_iload_n (pc := 38) C dX6_dropStorm_38 rfl 1 rfl ?_
    refine V_aload_n (pc := 39) C dX6_dropStorm_39 rfl 0 rfl ?_
    refine V_get (pc := 40) (v := .ref (a 4)) C 0 6 5 hiX6_dropStorm_6 rfl rfl (by decide) wX6_dropStorm_k3 rfl dX6_dropStorm_40 ?_
    refine V_iload_n (pc := 43) C dX6_dropStorm_43 rfl 1 rfl ?_
    refine V_iconst (pc := 44) (v := 1) C dX6_dropStorm_44 rfl ?_
    refine V_iadd (pc := 45) C dX6_dropStorm_45 ?_
    obtain ⟨b46, h⟩ := chk_some h
    refine V_iald (pc := 46) C 4 rfl b46 dX6_dropStorm_46 ?_
    obtain ⟨b47, h⟩ := chk_some h
    refine V_iast (pc := 47) (ws' := wM Y a (up I 2 ((I 2) - (1 : Int32))) (up (up (up (up A 3 (upd mA3_12 (Int32.toNatClampNeg x2_12) (mA3_12 (Int32.toNatClampNeg (x2_12 + (1 : Int32)))))) 4 mA4_12) 5 (upd mA5_12 (Int32.toNatClampNeg x2_12) (mA5_12 (Int32.toNatClampNeg (x2_12 + (1 : Int32)))))) 6 mA6_12) F L) C 4 rfl b47 dX6_dropStorm_47 rfl ?_
    refine V_iconst (pc := 48) (v := 0) C dX6_dropStorm_48 rfl ?_
    refine V_istore_n (pc := 49) (lv' := [(3, .int (0 : Int32)), (0, .ref (a 0)), (2, .int x2_12)]) C dX6_dropStorm_49 rfl (Nat.le_of_ble_eq_true rfl) rfl ?_
    refine jn1_ok (P := (fun (mA4_83 : Nat → Int32) => VW X D 4 Q (KM Af X) (0, 0) (wM Y a (up I 2 ((I 2) - (1 : Int32))) (up (up (up (up A 3 (upd mA3_12 (Int32.toNatClampNeg x2_12) (mA3_12 (Int32.toNatClampNeg (x2_12 + (1 : Int32)))))) 4 mA4_83) 5 (upd mA5_12 (Int32.toNatClampNeg x2_12) (mA5_12 (Int32.toNatClampNeg (x2_12 + (1 : Int32)))))) 6 mA6_12) F L) [(0, .ref (a 0)), (2, .int x2_12)] 83 [])) (fun mA4_83 h => ?_) (fun J83 hJ83 h => ?_) h
    · refine V_iconst (pc := 83) (v := 0) C dX6_dropStorm_83 rfl ?_
      refine V_istore_n (pc := 84) (lv' := [(3, .int (0 : Int32)), (0, .ref (a 0)), (2, .int x2_12)]) C dX6_dropStorm_84 rfl (Nat.le_of_ble_eq_true rfl) rfl ?_
      refine jn1_ok (P := (fun (mA6_122 : Nat → Int32) => VW X D 4 Q (KM Af X) (0, 0) (wM Y a (up I 2 ((I 2) - (1 : Int32))) (up (up (up (up A 3 (upd mA3_12 (Int32.toNatClampNeg x2_12) (mA3_12 (Int32.toNatClampNeg (x2_12 + (1 : Int32)))))) 4 mA4_83) 5 (upd mA5_12 (Int32.toNatClampNeg x2_12) (mA5_12 (Int32.toNatClampNeg (x2_12 + (1 : Int32)))))) 6 mA6_122) F L) [(0, .ref (a 0)), (2, .int x2_12)] 122 [])) (fun mA6_122 h => ?_) (fun J122 hJ122 h => ?_) h
      · refine V_iinc (pc := 122) (v := (x2_12 + 1)) (lv' := [(2, .int (x2_12 + 1)), (0, .ref (a 0))]) C dX6_dropStorm_122 1 rfl rfl (Nat.le_of_ble_eq_true rfl) rfl ?_
        refine V_goto (pc := 125) C 12 dX6_dropStorm_125 rfl ?_
        exact V_sub [1, 0] rfl (ih12 _ _ _ _ _ h)
      refine V_sub [1, 2, 0] rfl (wh2_ok (P := (fun (x3_85 : Int32) (mA6_85 : Nat → Int32) => VW X D 4 Q (KM Af X) (0, 0) (wM Y a (up I 2 ((I 2) - (1 : Int32))) (up (up (up (up A 3 (upd mA3_12 (Int32.toNatClampNeg x2_12) (mA3_12 (Int32.toNatClampNeg (x2_12 + (1 : Int32)))))) 4 mA4_83) 5 (upd mA5_12 (Int32.toNatClampNeg x2_12) (mA5_12 (Int32.toNatClampNeg (x2_12 + (1 : Int32)))))) 6 mA6_85) F L) [(0, .ref (a 0)), (2, .int x2_12), (3, .int x3_85)] 85 [])) (fun self85 ih85 x3_85 mA6_85 h => ?_) 200 _ _ h)
      refine V_iload_n (pc := 85) C dX6_dropStorm_85 rfl 2 rfl ?_
      refine V_bipush (pc := 86) (v := 8) C dX6_dropStorm_86 rfl ?_
      refine V_icmp_ge (pc := 88) C 122 dX6_dropStorm_88 rfl (fun c88 => ?_) (fun c88 => ?_)
      · replace h := t_pos c88 h
        exact V_sub [0, 1] rfl (hJ122 _ h)
      · replace h := t_neg c88 h
        refine V_aload_n (pc := 91) C dX6_dropStorm_91 rfl 0 rfl ?_
        refine V_get (pc := 92) (v := .ref (a 5)) C 0 6 6 hiX6_dropStorm_6 rfl rfl (by decide) wX6_dropStorm_k4 rfl dX6_dropStorm_92 ?_
        refine V_bipush (pc := 95) (v := 8) C dX6_dropStorm_95 rfl ?_
        refine V_iload_n (pc := 97) C dX6_dropStorm_97 rfl 1 rfl ?_
        refine V_imul (pc := 98) C dX6_dropStorm_98 ?_
        refine V_iload_n (pc := 99) C dX6_dropStorm_99 rfl 2 rfl ?_
        refine V_iadd (pc := 100) C dX6_dropStorm_100 ?_
        refine V_aload_n (pc := 101) C dX6_dropStorm_101 rfl 0 rfl ?_
        refine V_get (pc := 102) (v := .ref (a 5)) C 0 6 6 hiX6_dropStorm_6 rfl rfl (by decide) wX6_dropStorm_k4 rfl dX6_dropStorm_102 ?_
        refine V_bipush (pc := 105) (v := 8) C dX6_dropStorm_105 rfl ?_
        refine V_iload_n (pc := 107) C dX6_dropStorm_107 rfl 1 rfl ?_
        refine V_imul (pc := 108) C dX6_dropStorm_108 ?_
        refine V_bipush (pc := 109) (v := 8) C dX6_dropStorm_109 rfl ?_
        refine V_iadd (pc := 111) C dX6_dropStorm_111 ?_
        refine V_iload_n (pc := 112) C dX6_dropStorm_112 rfl 2 rfl ?_
        refine V_iadd (pc := 113) C dX6_dropStorm_113 ?_
        obtain ⟨b114, h⟩ := chk_some h
        refine V_iald (pc := 114) C 5 rfl b114 dX6_dropStorm_114 ?_
        obtain ⟨b115, h⟩ := chk_some h
        refine V_iast (pc := 115) (ws' := wM Y a (up I 2 ((I 2) - (1 : Int32))) (up (up (up (up A 3 (upd mA3_12 (Int32.toNatClampNeg x2_12) (mA3_12 (Int32.toNatClampNeg (x2_12 + (1 : Int32)))))) 4 mA4_83) 5 (upd mA5_12 (Int32.toNatClampNeg x2_12) (mA5_12 (Int32.toNatClampNeg (x2_12 + (1 : Int32)))))) 6 (upd mA6_85 (Int32.toNatClampNeg (((8 : Int32) * x2_12) + x3_85)) (mA6_85 (Int32.toNatClampNeg ((((8 : Int32) * x2_12) + (8 : Int32)) + x3_85))))) F L) C 5 rfl b115 dX6_dropStorm_115 rfl ?_
        refine V_iinc (pc := 116) (v := (x3_85 + 1)) (lv' := [(3, .int (x3_85 + 1)), (0, .ref (a 0)), (2, .int x2_12)]) C dX6_dropStorm_116 2 rfl rfl (Nat.le_of_ble_eq_true rfl) rfl ?_
        refine V_goto (pc := 119) C 85 dX6_dropStorm_119 rfl ?_
        exact V_sub [1, 2, 0] rfl (ih85 _ _ h)
    refine V_sub [1, 2, 0] rfl (wh2_ok (P := (fun (x3_50 : Int32) (mA4_50 : Nat → Int32) => VW X D 4 Q (KM Af X) (0, 0) (wM Y a (up I 2 ((I 2) - (1 : Int32))) (up (up (up (up A 3 (upd mA3_12 (Int32.toNatClampNeg x2_12) (mA3_12 (Int32.toNatClampNeg (x2_12 + (1 : Int32)))))) 4 mA4_50) 5 (upd mA5_12 (Int32.toNatClampNeg x2_12) (mA5_12 (Int32.toNatClampNeg (x2_12 + (1 : Int32)))))) 6 mA6_12) F L) [(0, .ref (a 0)), (2, .int x2_12), (3, .int x3_50)] 50 [])) (fun self50 ih50 x3_50 mA4_50 h => ?_) 200 _ _ h)
    refine V_iload_n (pc := 50) C dX6_dropStorm_50 rfl 2 rfl ?_
    refine V_iconst (pc := 51) (v := 3) C dX6_dropStorm_51 rfl ?_
    refine V_icmp_ge (pc := 52) C 83 dX6_dropStorm_52 rfl (fun c52 => ?_) (fun c52 => ?_)
    · replace h := t_pos c52 h
      exact V_sub [0, 1] rfl (hJ83 _ h)
    · replace h := t_neg c52 h
      refine V_aload_n (pc := 55) C dX6_dropStorm_55 rfl 0 rfl ?_
      refine V_get (pc := 56) (v := .ref (a 3)) C 0 6 4 hiX6_dropStorm_6 rfl rfl (by decide) wX6_dropStorm_k5 rfl dX6_dropStorm_56 ?_
      refine V_iconst (pc := 59) (v := 3) C dX6_dropStorm_59 rfl ?_
      refine V_iload_n (pc := 60) C dX6_dropStorm_60 rfl 1 rfl ?_
      refine V_imul (pc := 61) C dX6_dropStorm_61 ?_
      refine V_iload_n (pc := 62) C dX6_dropStorm_62 rfl 2 rfl ?_
      refine V_iadd (pc := 63) C dX6_dropStorm_63 ?_
      refine V_aload_n (pc := 64) C dX6_dropStorm_64 rfl 0 rfl ?_
      refine V_get (pc := 65) (v := .ref (a 3)) C 0 6 4 hiX6_dropStorm_6 rfl rfl (by decide) wX6_dropStorm_k5 rfl dX6_dropStorm_65 ?_
      refine V_iconst (pc := 68) (v := 3) C dX6_dropStorm_68 rfl ?_
      refine V_iload_n (pc := 69) C dX6_dropStorm_69 rfl 1 rfl ?_
      refine V_imul (pc := 70) C dX6_dropStorm_70 ?_
      refine V_iconst (pc := 71) (v := 3) C dX6_dropStorm_71 rfl ?_
      refine V_iadd (pc := 72) C dX6_dropStorm_72 ?_
      refine V_iload_n (pc := 73) C dX6_dropStorm_73 rfl 2 rfl ?_
      refine V_iadd (pc := 74) C dX6_dropStorm_74 ?_
      obtain ⟨b75, h⟩ := chk_some h
      refine V_iald (pc := 75) C 3 rfl b75 dX6_dropStorm_75 ?_
      obtain ⟨b76, h⟩ := chk_some h
      refine V_iast (pc := 76) (ws' := wM Y a (up I 2 ((I 2) - (1 : Int32))) (up (up (up (up A 3 (upd mA3_12 (Int32.toNatClampNeg x2_12) (mA3_12 (Int32.toNatClampNeg (x2_12 + (1 : Int32)))))) 4 (upd mA4_50 (Int32.toNatClampNeg (((3 : Int32) * x2_12) + x3_50)) (mA4_50 (Int32.toNatClampNeg ((((3 : Int32) * x2_12) + (3 : Int32)) + x3_50))))) 5 (upd mA5_12 (Int32.toNatClampNeg x2_12) (mA5_12 (Int32.toNatClampNeg (x2_12 + (1 : Int32)))))) 6 mA6_12) F L) C 3 rfl b76 dX6_dropStorm_76 rfl ?_
      refine V_iinc (pc := 77) (v := (x3_50 + 1)) (lv' := [(3, .int (x3_50 + 1)), (0, .ref (a 0)), (2, .int x2_12)]) C dX6_dropStorm_77 2 rfl rfl (Nat.le_of_ble_eq_true rfl) rfl ?_
      refine V_goto (pc := 80) C 50 dX6_dropStorm_80 rfl ?_
      exact V_sub [1, 2, 0] rfl (ih50 _ _ h)
