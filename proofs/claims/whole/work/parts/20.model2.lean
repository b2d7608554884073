def X6_dropUnit (I : Nat → Int32) (A : Nat → Nat → Int32) (F : Nat → Int64) (L : Nat → Nat → Int64) (p0 : Int32) : Option (Int32 × Int32 × (Nat → Int32) × (Nat → Int32) × (Nat → Int32)) :=
  jn3 (fun (mA8_93 : Nat → Int32) (mA9_93 : Nat → Int32) (mA10_93 : Nat → Int32) => some (((I 7) - (1 : Int32)), ((I 7) - (1 : Int32)), mA8_93, mA9_93, mA10_93)) fun J93 =>
  wh4 (fun self12 (x2_12 : Int32) (mA8_12 : Nat → Int32) (mA9_12 : Nat → Int32) (mA10_12 : Nat → Int32) =>
  if ((I 7) - (1 : Int32)) ≤ x2_12 then (J93 mA8_12 mA9_12 mA10_12) else (chk (inB (x2_12 + (1 : Int32)) 4) (chk (inB x2_12 4) (chk (inB (x2_12 + (1 : Int32)) 4) (chk (inB x2_12 4) (jn1 (fun (mA10_87 : Nat → Int32) => self12 (x2_12 + 1) (upd mA8_12 (Int32.toNatClampNeg x2_12) (mA8_12 (Int32.toNatClampNeg (x2_12 + (1 : Int32))))) (upd mA9_12 (Int32.toNatClampNeg x2_12) (mA9_12 (Int32.toNatClampNeg (x2_12 + (1 : Int32))))) mA10_87) fun J87 =>
  wh2 (fun self50 (x3_50 : Int32) (mA10_50 : Nat → Int32) =>
  if (8 : Int32) ≤ x3_50 then (J87 mA10_50) else (chk (inB ((((8 : Int32) * x2_12) + (8 : Int32)) + x3_50) 32) (chk (inB (((8 : Int32) * x2_12) + x3_50) 32) (self50 (x3_50 + 1) (upd mA10_50 (Int32.toNatClampNeg (((8 : Int32) * x2_12) + x3_50)) (mA10_50 (Int32.toNatClampNeg ((((8 : Int32) * x2_12) + (8 : Int32)) + x3_50)))))))) 200 (0 : Int32) mA10_12)))))) 200 p0 (A 8) (A 9) (A 10)
theorem wX6_dropUnit_k0 : Cond.fieldLink RX6 117 (TX6 7).1 (TX6 7).2.1 (TX6 7).2.2.1 ∈ wsX6_dropUnit := by decide +kernel
theorem hiX6_dropUnit_6 : ∀ w ∈ u_ws RX6 TX6 33, w ∈ wsX6_dropUnit := fun _ h => List.mem_cons_of_mem _ (List.mem_append_right _ h)
theorem wX6_dropUnit_k2 : Cond.fieldLink RX6 25 (TX6 8).1 (TX6 8).2.1 (TX6 8).2.2.1 ∈ wsX6_dropUnit := by decide +kernel
theorem wX6_dropUnit_k3 : Cond.fieldLink RX6 28 (TX6 9).1 (TX6 9).2.1 (TX6 9).2.2.1 ∈ wsX6_dropUnit := by decide +kernel
theorem wX6_dropUnit_k4 : Cond.fieldLink RX6 31 (TX6 10).1 (TX6 10).2.1 (TX6 10).2.2.1 ∈ wsX6_dropUnit := by decide +kernel
theorem hdX6_dropUnit : yX6_dropUnit.cls ≠ "java/lang/invoke/MethodHandle" ∧ yX6_dropUnit.cls ≠ "java/lang/invoke/VarHandle" ∧ (parseMethodDescriptor yX6_dropUnit.desc).map (fun d => d.parameters.length) = some 1 := by decide +kernel
set_option maxHeartbeats 4000000 in
set_option maxRecDepth 100000 in
theorem X6_dropUnit_ok {l : Launch} {D : va_G} {Y : Nat → ClassId} {a : Nat → Nat} {I : Nat → Int32} {A : Nat → Nat → Int32} {F : Nat → Int64} {L : Nat → Nat → Int64} {p0 : Int32} {r : Int32} {uI7 : Int32} {uA8 : Nat → Int32} {uA9 : Nat → Int32} {uA10 : Nat → Int32} (h : X6_dropUnit I A F L p0 = some (r, uI7, uA8, uA9, uA10)) : MW l yX6_dropUnit wsX6_dropUnit 0 0 D Y [.ref (a 0), .int p0] (wM Y a I A F L) (wM Y a (up I 7 uI7) (up (up (up A 8 uA8) 9 uA9) 10 uA10) F L) (some (.int r)) := by
  refine MW_of (cc := cX6_dropUnit) (nL := 4) (ret := some .int) (lv0 := [(0, .ref (a 0)), (1, .int p0)]) (by decide) rfl (Nat.le_of_ble_eq_true rfl) rfl rfl (fun X Af Q C hA hQ => ?_)
  unfold X6_dropUnit at h
  refine V_aload_n (pc := 0) C dX6_dropUnit_0 rfl 0 rfl ?_
  refine V_dup (pc := 1) C dX6_dropUnit_1 rfl ?_
  refine V_get (pc := 2) (v := .int (I 7)) C 0 6 7 hiX6_dropUnit_6 rfl rfl (by decide) wX6_dropUnit_k0 rfl dX6_dropUnit_2 ?_
  refine V_iconst (pc := 5) (v := 1) C dX6_dropUnit_5 rfl ?_
  refine V_isub (pc := 6) C dX6_dropUnit_6 ?_
  refine V_put (pc := 7) (ws' := wM Y a (up I 7 ((I 7) - (1 : Int32))) A F L) C 0 6 7 hiX6_dropUnit_6 tyX6_ok nmX6 rfl rfl (by decide) wX6_dropUnit_k0 rfl rfl rfl (Nat.le_of_ble_eq_true rfl) dX6_dropUnit_7 rfl ?_
  refine V_iload_n (pc := 10) C dX6_dropUnit_10 rfl 1 rfl ?_
  refine V_istore_n (pc := 11) (lv' := [(2, .int p0), (0, .ref (a 0)), (1, .int p0)]) C dX6_dropUnit_11 rfl (Nat.le_of_ble_eq_true rfl) rfl ?_
  refine jn3_ok (P := (fun (mA8_93 : Nat → Int32) (mA9_93 : Nat → Int32) (mA10_93 : Nat → Int32) => VW X D 4 Q (KM Af X) (0, 0) (wM Y a (up I 7 ((I 7) - (1 : Int32))) (up (up (up A 8 mA8_93) 9 mA9_93) 10 mA10_93) F L) [(0, .ref (a 0))] 93 [])) (fun mA8_93 mA9_93 mA10_93 h => ?_) (fun J93 hJ93 h => ?_) h
  · refine V_aload_n (pc := 93) C dX6_dropUnit_93 rfl 0 rfl ?_
    refine V_get (pc := 94) (v := .int ((I 7) - (1 : Int32))) C 0 6 7 hiX6_dropUnit_6 rfl rfl (by decide) wX6_dropUnit_k0 rfl dX6_dropUnit_94 ?_
    cases h
    subst hQ
    exact V_iretW C dX6_dropUnit_97
  refine V_sub [1, 0] rfl (wh4_ok (P := (fun (x2_12 : Int32) (mA8_12 : Nat → Int32) (mA9_12 : Nat → Int32) (mA10_12 : Nat → Int32) => VW X D 4 Q (KM Af X) (0, 0) (wM Y a (up I 7 ((I 7) - (1 : Int32))) (up (up (up A 8 mA8_12) 9 mA9_12) 10 mA10_12) F L) [(0, .ref (a 0)), (2, .int x2_12)] 12 [])) (fun self12 ih12 x2_12 mA8_12 mA9_12 mA10_12 h => ?_) 200 _ _ _ _ h)
  refine V_iload_n (pc := 12) C dX6_dropUnit_12 rfl 1 rfl ?_
  refine V_aload_n (pc := 13) C dX6_dropUnit_13 rfl 0 rfl ?_
  refine V_get (pc := 14) (v := .int ((I 7) - (1 : Int32))) C 0 6 7 hiX6_dropUnit_6 rfl rfl (by decide) wX6_dropUnit_k0 rfl dX6_dropUnit_14 ?_
  refine V_icmp_ge (pc := 17) C 93 dX6_dropUnit_17 rfl (fun c17 => ?_) (fun c17 => ?_)
  · replace h := t_pos c17 h
    exact V_sub [0] rfl (hJ93 _ _ _ h)
  · replace h := t_neg c17 h
    refine V_aload_n (pc := 20) C dX6_dropUnit_20 rfl 0 rfl ?_
    refine V_get (pc := 21) (v := .ref (a 6)) C 0 6 8 hiX6_dropUnit_6 rfl rfl (by decide) wX6_dropUnit_k2 rfl dX6_dropUnit_21 ?_
    refine V_iload_n (pc := 24) C dX6_dropUnit_24 rfl 1 rfl ?_
    refine V_aload_n (pc := 25) C dX6_dropUnit_25 rfl 0 rfl ?_
    refine V_get (pc := 26) (v := .ref (a 6)) C 0 6 8 hiX6_dropUnit_6 rfl rfl (by decide) wX6_dropUnit_k2 rfl dX6_dropUnit_26 ?_
    refine V_iload_n (pc := 29) C dX6_dropUnit_29 rfl 1 rfl ?_
    refine V_iconst (pc := 30) (v := 1) C dX6_dropUnit_30 rfl ?_
    refine V_iadd (pc := 31) C dX6_dropUnit_31 ?_
    obtain ⟨b32, h⟩ := chk_some h
    refine V_iald (pc := 32) C 6 rfl b32 dX6_dropUnit_32 ?_
    obtain ⟨b33, h⟩ := chk_some h
    refine V_iast (pc := 33) (ws' := wM Y a (up I 7 ((I 7) - (1 : Int32))) (up (up (up A 8 (upd mA8_12 (Int32.toNatClampNeg x2_12) (mA8_12 (Int32.toNatClampNeg (x2_12 + (1 : Int32)))))) 9 mA9_12) 10 mA10_12) F L) C 6 rfl b33 dX6_dropUnit_33 rfl ?_
    refine V_aload_n (pc := 34) C dX6_dropUnit_34 rfl 0 rfl ?_
    refine V_get (pc := 35) (v := .ref (a 7)) C 0 6 9 hiX6_dropUnit_6 rfl rfl (by decide) wX6_dropUnit_k3 rfl dX6_dropUnit_35 ?_
    refine V_iload_n (pc := 38) C dX6_dropUnit_38 rfl 1 rfl ?_
    refine V_aload_n (pc := 39) C dX6_dropUnit_39 rfl 0 rfl ?_
    refine V_get (pc := 40) (v := .ref (a 7)) C 0 6 9 hiX6_dropUnit_6 rfl rfl (by decide) wX6_dropUnit_k3 rfl dX6_dropUnit_40 ?_
    refine V_iload_n (pc := 43) C dX6_dropUnit_43 rfl 1 rfl ?_
    refine V_iconst (pc := 44) (v := 1) C dX6_dropUnit_44 rfl ?_
    refine V_iadd (pc := 45) C dX6_dropUnit_45 ?_
    obtain ⟨b46, h⟩ := chk_some h
    refine V_iald (pc := 46) C 7 rfl b46 dX6_dropUnit_46 ?_
    obtain ⟨b47, h⟩ := chk_some h
    refine V_iast (pc := 47) (ws' := wM Y a (up I 7 ((I 7) - (1 : Int32))) (up (up (up A 8 (upd mA8_12 (Int32.toNatClampNeg x2_12) (mA8_12 (Int32.toNatClampNeg (x2_12 + (1 : Int32)))))) 9 (upd mA9_12 (Int32.toNatClampNeg x2_12) (mA9_12 (Int32.toNatClampNeg (x2_12 + (1 : Int32)))))) 10 mA10_12) F L) C 7 rfl b47 dX6_dropUnit_47 rfl ?_
    refine V_iconst (pc := 48) (v := 0) C dX6_dropUnit_48 rfl ?_
    refine V_istore_n (pc := 49) (lv' := [(3, .int (0 : Int32)), (0, .ref (a 0)), (2, .int x2_12)]) C dX6_dropUnit_49 rfl (Nat.le_of_ble_eq_true rfl) rfl ?_
    refine jn1_ok (P := (fun (mA10_87 : Nat → Int32) => VW X D 4 Q (KM Af X) (0, 0) (wM Y a (up I 7 ((I 7) - (1 : Int32))) (up (up (up A 8 (upd mA8_12 (Int32.toNatClampNeg x2_12) (mA8_12 (Int32.toNatClampNeg (x2_12 + (1 : Int32)))))) 9 (upd mA9_12 (Int32.toNatClampNeg x2_12) (mA9_12 (Int32.toNatClampNeg (x2_12 + (1 : Int32)))))) 10 mA10_87) F L) [(0, .ref (a 0)), (2, .int x2_12)] 87 [])) (fun mA10_87 h => ?_) (fun J87 hJ87 h => ?_) h
    · refine V_iinc (pc := 87) (v := (x2_12 + 1)) (lv' := [(2, .int (x2_12 + 1)), (0, .ref (a 0))]) C dX6_dropUnit_87 1 rfl rfl (Nat.le_of_ble_eq_true rfl) rfl ?_
      refine V_goto (pc := 90) C 12 dX6_dropUnit_90 rfl ?_
      exact V_sub [1, 0] rfl (ih12 _ _ _ _ h)
    refine V_sub [1, 2, 0] rfl (wh2_ok (P := (fun (x3_50 : Int32) (mA10_50 : Nat → Int32) => VW X D 4 Q (KM Af X) (0, 0) (wM Y a (up I 7 ((I 7) - (1 : Int32))) (up (up (up A 8 (upd mA8_12 (Int32.toNatClampNeg x2_12) (mA8_12 (Int32.toNatClampNeg (x2_12 + (1 : Int32)))))) 9 (upd mA9_12 (Int32.toNatClampNeg x2_12) (mA9_12 (Int32.toNatClampNeg (x2_12 + (1 : Int32)))))) 10 mA10_50) F L) [(0, .ref (a 0)), (2, .int x2_12), (3, .int x3_50)] 50 [])) (fun self50 ih50 x3_50 mA10_50 h => ?_) 200 _ _ h)
    refine V_iload_n (pc := 50) C dX6_dropUnit_50 rfl 2 rfl ?_
    refine V_bipush (pc := 51) (v := 8) C dX6_dropUnit_51 rfl ?_
    refine V_icmp_ge (pc := 53) C 87 dX6_dropUnit_53 rfl (fun c53 => ?_) (fun c53 => ?_)
    · replace h := t_pos c53 h
      exact V_sub [0, 1] rfl (hJ87 _ h)
    · replace h := t_neg c53 h
      refine V_aload_n (pc := 56) C dX6_dropUnit_56 rfl 0 rfl ?_
      refine V_get (pc := 57) (v := .ref (a 8)) C 0 6 10 hiX6_dropUnit_6 rfl rfl (by decide) wX6_dropUnit_k4 rfl dX6_dropUnit_57 ?_
      refine V_bipush (pc := 60) (v := 8) C dX6_dropUnit_60 rfl ?_
      refine V_iload_n (pc := 62) C dX6_dropUnit_62 rfl 1 rfl ?_
      refine V_imul (pc := 63) C dX6_dropUnit_63 ?_
      refine V_iload_n (pc := 64) C dX6_dropUnit_64 rfl 2 rfl ?_
      refine V_iadd (pc := 65) C dX6_dropUnit_65 ?_
      refine V_aload_n (pc := 66) C dX6_dropUnit_66 rfl 0 rfl ?_
      refine V_get (pc := 67) (v := .ref (a 8)) C 0 6 10 hiX6_dropUnit_6 rfl rfl (by decide) wX6_dropUnit_k4 rfl dX6_dropUnit_67 ?_
      refine V_bipush (pc := 70) (v := 8) C dX6_dropUnit_70 rfl ?_
      refine V_iload_n (pc := 72) C dX6_dropUnit_72 rfl 1 rfl ?_
      refine V_imul (pc := 73) C dX6_dropUnit_73 ?_
      refine V_bipush (pc := 74) (v := 8) C dX6_dropUnit_74 rfl ?_
      refine V_iadd (pc := 76) C dX6_dropUnit_76 ?_
      refine V_iload_n (pc := 77) C dX6_dropUnit_77 rfl 2 rfl ?_
      refine V_iadd (pc := 78) C dX6_dropUnit_78 ?_
      obtain ⟨b79, h⟩ := chk_some h
      refine V_iald (pc := 79) C 8 rfl b79 dX6_dropUnit_79 ?_
      obtain ⟨b80, h⟩ := chk_some h
      refine V_iast (pc := 80) (ws' := wM Y a (up I 7 ((I 7) - (1 : Int32))) (up (up (up A 8 (upd mA8_12 (Int32.toNatClampNeg x2_12) (mA8_12 (Int32.toNatClampNeg (x2_12 + (1 : Int32)))))) 9 (upd mA9_12 (Int32.toNatClampNeg x2_12) (mA9_12 (Int32.toNatClampNeg (x2_12 + (1 : Int32)))))) 10 (upd mA10_50 (Int32.toNatClampNeg (((8 : Int32) * x2_12) + x3_50)) (mA10_50 (Int32.toNatClampNeg ((((8 : Int32) * x2_12) + (8 : Int32)) + x3_50))))) F L) C 8 rfl b80 dX6_dropUnit_80 rfl ?_
      refine V_iinc (pc := 81) (v := (x3_50 + 1)) (lv' := [(3, .int (x3_50 + 1)), (0, .ref (a 0)), (2, .int x2_12)]) C dX6_dropUnit_81 2 rfl rfl (Nat.le_of_ble_eq_true rfl) rfl ?_
      refine V_goto (pc := 84) C 50 dX6_dropUnit_84 rfl ?_
      exact V_sub [1, 2, 0] rfl (ih50 _ _ h)
def X6_isStorm (I : Nat → Int32) (A : Nat → Nat → Int32) (F : Nat → Int64) (L : Nat → Nat → Int64) (p0 : Int32) : Option (Int32) :=
  ob1 (X6_within p0 (0 : Int32) ((I 2) - (1 : Int32))) fun r8 =>
  chk (isB r8) (some r8)
theorem wX6_isStorm_k0 : Cond.fieldLink RX6 114 (TX6 2).1 (TX6 2).2.1 (TX6 2).2.2.1 ∈ wsX6_isStorm := by decide +kernel
theorem hiX6_isStorm_6 : ∀ w ∈ u_ws RX6 TX6 33, w ∈ wsX6_isStorm := fun _ h => List.mem_cons_of_mem _ (List.mem_append_right _ h)
theorem hdX6_isStorm : yX6_isStorm.cls ≠ "java/lang/invoke/MethodHandle" ∧ yX6_isStorm.cls ≠ "java/lang/invoke/VarHandle" ∧ (parseMethodDescriptor yX6_isStorm.desc).map (fun d => d.parameters.length) = some 1 := by decide +kernel
set_option maxHeartbeats 4000000 in
set_option maxRecDepth 100000 in
theorem X6_isStorm_ok {l : Launch} {D : va_G} {Y : Nat → ClassId} {a : Nat → Nat} {I : Nat → Int32} {A : Nat → Nat → Int32} {F : Nat → Int64} {L : Nat → Nat → Int64} {p0 : Int32} {r : Int32} (h : X6_isStorm I A F L p0 = some r) : MR l yX6_isStorm wsX6_isStorm 1 22 D Y [.ref (a 0), .int p0] (wM Y a I A F L) (some (.int r)) := by
  refine MR_of (cc := cX6_isStorm) (nL := 2) (ret := some .boolean) (lv0 := [(0, .ref (a 0)), (1, .int p0)]) (by decide) rfl (Nat.le_of_ble_eq_true rfl) rfl (fun X Q C hQ => ?_)
  unfold X6_isStorm at h
  refine V_iload_n (pc := 0) C dX6_isStorm_0 rfl 1 rfl ?_
  refine V_iconst (pc := 1) (v := 0) C dX6_isStorm_1 rfl ?_
  refine V_aload_n (pc := 2) C dX6_isStorm_2 rfl 0 rfl ?_
  refine V_get (pc := 3) (v := .int (I 2)) C 0 6 2 hiX6_isStorm_6 rfl rfl (by decide) wX6_isStorm_k0 rfl dX6_isStorm_3 ?_
  refine V_iconst (pc := 6) (v := 1) C dX6_isStorm_6 rfl ?_
  refine V_isub (pc := 7) C dX6_isStorm_7 ?_
  obtain ⟨r8, hq, h⟩ := ob1_some h
  refine V_callSR (pc := 8) (rest := []) (st2 := [.int r8]) C (X6_within_ok hq) gX6_isStorm_X6_within rfl hdX6_within ⟨Nat.le_of_ble_eq_true rfl, Nat.le_of_ble_eq_true rfl⟩ ⟨Nat.le_refl _, Nat.le_refl _⟩ [] rfl rfl (Nat.le_of_ble_eq_true rfl) dX6_isStorm_8 rfl ?_
  obtain ⟨b11, h⟩ := chk_some h
  cases h
  subst hQ
  exact V_zretR C (isB_n b11) dX6_isStorm_11
def X6_isUnitThere (I : Nat → Int32) (A : Nat → Nat → Int32) (F : Nat → Int64) (L : Nat → Nat → Int64) (p0 : Int32) : Option (Int32) :=
  ob1 (X6_within p0 (0 : Int32) ((I 7) - (1 : Int32))) fun r8 =>
  chk (isB r8) (some r8)
theorem wX6_isUnitThere_k0 : Cond.fieldLink RX6 117 (TX6 7).1 (TX6 7).2.1 (TX6 7).2.2.1 ∈ wsX6_isUnitThere := by decide +kernel
theorem hiX6_isUnitThere_6 : ∀ w ∈ u_ws RX6 TX6 33, w ∈ wsX6_isUnitThere := fun _ h => List.mem_cons_of_mem _ (List.mem_append_right _ h)
theorem hdX6_isUnitThere : yX6_isUnitThere.cls ≠ "java/lang/invoke/MethodHandle" ∧ yX6_isUnitThere.cls ≠ "java/lang/invoke/VarHandle" ∧ (parseMethodDescriptor yX6_isUnitThere.desc).map (fun d => d.parameters.length) = some 1 := by decide +kernel
set_option maxHeartbeats 4000000 in
set_option maxRecDepth 100000 in
theorem X6_isUnitThere_ok {l : Launch} {D : va_G} {Y : Nat → ClassId} {a : Nat → Nat} {I : Nat → Int32} {A : Nat → Nat → Int32} {F : Nat → Int64} {L : Nat → Nat → Int64} {p0 : Int32} {r : Int32} (h : X6_isUnitThere I A F L p0 = some r) : MR l yX6_isUnitThere wsX6_isUnitThere 1 22 D Y [.ref (a 0), .int p0] (wM Y a I A F L) (some (.int r)) := by
  refine MR_of (cc := cX6_isUnitThere) (nL := 2) (ret := some .boolean) (lv0 := [(0, .ref (a 0)), (1, .int p0)]) (by decide) rfl (Nat.le_of_ble_eq_true rfl) rfl (fun X Q C hQ => ?_)
  unfold X6_isUnitThere at h
  refine V_iload_n (pc := 0) C dX6_isUnitThere_0 rfl 1 rfl ?_
  refine V_iconst (pc := 1) (v := 0) C dX6_isUnitThere_1 rfl ?_
  refine V_aload_n (pc := 2) C dX6_isUnitThere_2 rfl 0 rfl ?_
  refine V_get (pc := 3) (v := .int (I 7)) C 0 6 7 hiX6_isUnitThere_6 rfl rfl (by decide) wX6_isUnitThere_k0 rfl dX6_isUnitThere_3 ?_
  refine V_iconst (pc := 6) (v := 1) C dX6_isUnitThere_6 rfl ?_
  refine V_isub (pc := 7) C dX6_isUnitThere_7 ?_
  obtain ⟨r8, hq, h⟩ := ob1_some h
  refine V_callSR (pc := 8) (rest := []) (st2 := [.int r8]) C (X6_within_ok hq) gX6_isUnitThere_X6_within rfl hdX6_within ⟨Nat.le_of_ble_eq_true rfl, Nat.le_of_ble_eq_true rfl⟩ ⟨Nat.le_refl _, Nat.le_refl _⟩ [] rfl rfl (Nat.le_of_ble_eq_true rfl) dX6_isUnitThere_8 rfl ?_
  obtain ⟨b11, h⟩ := chk_some h
  cases h
  subst hQ
  exact V_zretR C (isB_n b11) dX6_isUnitThere_11
def X6_drop (I : Nat → Int32) (A : Nat → Nat → Int32) (F : Nat → Int64) (L : Nat → Nat → Int64) (p0 : Int32) (p1 : Int32) : Option (Int32 × Int32 × (Nat → Int32) × (Nat → Int32) × (Nat → Int32) × (Nat → Int32) × Int32 × (Nat → Int32) × (Nat → Int32) × (Nat → Int32) × Int32) :=
  jn0 (if p0 = 0 then (ob6 (X6_dropStorm (up I 12 ((I 12) + (1 : Int32))) A F L p1) fun r50 oI2_50 oA3_50 oA4_50 oA5_50 oA6_50 =>
  some (r50, oI2_50, oA3_50, oA4_50, oA5_50, oA6_50, (I 7), (A 8), (A 9), (A 10), ((I 12) + (1 : Int32)))) else (ob5 (X6_dropUnit (up I 12 ((I 12) + (1 : Int32))) A F L p1) fun r42 oI7_42 oA8_42 oA9_42 oA10_42 =>
  some (r42, (I 2), (A 3), (A 4), (A 5), (A 6), oI7_42, oA8_42, oA9_42, oA10_42, ((I 12) + (1 : Int32))))) fun J26 =>
  if p0 = 0 then (ob1 (X6_isStorm I A F L p1) fun r17 =>
  if r17 = 0 then (some ((-1000002 : Int32), (I 2), (A 3), (A 4), (A 5), (A 6), (I 7), (A 8), (A 9), (A 10), (I 12))) else (J26)) else (ob1 (X6_isUnitThere I A F L p1) fun r6 =>
  if r6 = 0 then (some ((-1000002 : Int32), (I 2), (A 3), (A 4), (A 5), (A 6), (I 7), (A 8), (A 9), (A 10), (I 12))) else (J26))
theorem wX6_drop_k0 : Cond.fieldLink RX6 137 (TX6 12).1 (TX6 12).2.1 (TX6 12).2.2.1 ∈ wsX6_drop := by decide +kernel
theorem hiX6_drop_6 : ∀ w ∈ u_ws RX6 TX6 33, w ∈ wsX6_drop := fun _ h => List.mem_cons_of_mem _ (List.mem_append_right _ h)
theorem wX6_drop_k2 : Cond.constant RX6 136 (-1000002) ∈ wsX6_drop := by decide +kernel
theorem hdX6_drop : yX6_drop.cls ≠ "java/lang/invoke/MethodHandle" ∧ yX6_drop.cls ≠ "java/lang/invoke/VarHandle" ∧ (parseMethodDescriptor yX6_drop.desc).map (fun d => d.parameters.length) = some 2 := by decide +kernel
set_option maxHeartbeats 4000000 in
set_option maxRecDepth 100000 in
theorem X6_drop_ok {l : Launch} {D : va_G} {Y : Nat → ClassId} {a : Nat → Nat} {I : Nat → Int32} {A : Nat → Nat → Int32} {F : Nat → Int64} {L : Nat → Nat → Int64} {p0 : Int32} {p1 : Int32} {r : Int32} {uI2 : Int32} {uA3 : Nat → Int32} {uA4 : Nat → Int32} {uA5 : Nat → Int32} {uA6 : Nat → Int32} {uI7 : Int32} {uA8 : Nat → Int32} {uA9 : Nat → Int32} {uA10 : Nat → Int32} {uI12 : Int32} (h : X6_drop I A F L p0 p1 = some (r, uI2, uA3, uA4, uA5, uA6, uI7, uA8, uA9, uA10, uI12)) : MW l yX6_drop wsX6_drop 2 43 D Y [.ref (a 0), .int p0, .int p1] (wM Y a I A F L) (wM Y a (up (up (up I 2 uI2) 7 uI7) 12 uI12) (up (up (up (up (up (up (up A 3 uA3) 4 uA4) 5 uA5) 6 uA6) 8 uA8) 9 uA9) 10 uA10) F L) (some (.int r)) := by
  refine MW_of (cc := cX6_drop) (nL := 3) (ret := some .int) (lv0 := [(0, .ref (a 0)), (1, .int p0), (2, .int p1)]) (by decide) rfl (Nat.le_of_ble_eq_true rfl) rfl rfl (fun X Af Q C hA hQ => ?_)
  unfold X6_drop at h
  refine V_iload_n (pc := 0) C dX6_drop_0 rfl 1 rfl ?_
  refine jn0_ok (P := (VW X D 3 Q (KM Af X) (0, 0) (wM Y a I A F L) [(0, .ref (a 0)), (1, .int p0), (2, .int p1)] 26 [])) (fun h => ?_) (fun J26 hJ26 h => ?_) h
  · refine V_aload_n (pc := 26) C dX6_drop_26 rfl 0 rfl ?_
    refine V_dup (pc := 27) C dX6_drop_27 rfl ?_
    refine V_get (pc := 28) (v := .int (I 12)) C 0 6 12 hiX6_drop_6 rfl rfl (by decide) wX6_drop_k0 rfl dX6_drop_28 ?_
    refine V_iconst (pc := 31) (v := 1) C dX6_drop_31 rfl ?_
    refine V_iadd (pc := 32) C dX6_drop_32 ?_
    refine V_put (pc := 33) (ws' := wM Y a (up I 12 ((I 12) + (1 : Int32))) A F L) C 0 6 12 hiX6_drop_6 tyX6_ok nmX6 rfl rfl (by decide) wX6_drop_k0 rfl rfl rfl (Nat.le_of_ble_eq_true rfl) dX6_drop_33 rfl ?_
    refine V_iload_n (pc := 36) C dX6_drop_36 rfl 1 rfl ?_
    refine V_if_eq (pc := 37) C 48 dX6_drop_37 rfl (fun c37 => ?_) (fun c37 => ?_)
    · replace h := t_pos c37 h
      refine V_aload_n (pc := 48) C dX6_drop_48 rfl 0 rfl ?_
      refine V_iload_n (pc := 49) C dX6_drop_49 rfl 2 rfl ?_
      obtain ⟨r50, oI2_50, oA3_50, oA4_50, oA5_50, oA6_50, hq, h⟩ := ob6_some h
      refine V_callVW0 (pc := 50) (rest := []) (st2 := [.int r50]) (ws' := wM Y a (up (up I 12 ((I 12) + (1 : Int32))) 2 oI2_50) (up (up (up (up A 3 oA3_50) 4 oA4_50) 5 oA5_50) 6 oA6_50) F L) C hA (X6_dropStorm_ok (a := a) hq) gX6_drop_X6_dropStorm rfl ⟨rfl, hdX6_dropStorm⟩ ⟨Nat.le_of_ble_eq_true rfl, Nat.le_of_ble_eq_true rfl⟩ ⟨Nat.le_refl _, Nat.le_refl _⟩ 0 6 rfl rfl rfl (Nat.le_of_ble_eq_true rfl) dX6_drop_50 rfl rfl ?_
      cases h
      subst hQ
      exact V_iretW C dX6_drop_53
    · replace h := t_neg c37 h
      refine V_aload_n (pc := 40) C dX6_drop_40 rfl 0 rfl ?_
      refine V_iload_n (pc := 41) C dX6_drop_41 rfl 2 rfl ?_
      obtain ⟨r42, oI7_42, oA8_42, oA9_42, oA10_42, hq, h⟩ := ob5_some h
      refine V_callVW0 (pc := 42) (rest := []) (st2 := [.int r42]) (ws' := wM Y a (up (up I 12 ((I 12) + (1 : Int32))) 7 oI7_42) (up (up (up A 8 oA8_42) 9 oA9_42) 10 oA10_42) F L) C hA (X6_dropUnit_ok (a := a) hq) gX6_drop_X6_dropUnit rfl ⟨rfl, hdX6_dropUnit⟩ ⟨Nat.le_of_ble_eq_true rfl, Nat.le_of_ble_eq_true rfl⟩ ⟨Nat.le_refl _, Nat.le_refl _⟩ 0 6 rfl rfl rfl (Nat.le_of_ble_eq_true rfl) dX6_drop_42 rfl rfl ?_
      refine V_goto (pc := 45) C 53 dX6_drop_45 rfl ?_
      cases h
      subst hQ
      exact V_iretW C dX6_drop_53
  refine V_if_eq (pc := 1) C 15 dX6_drop_1 rfl (fun c1 => ?_) (fun c1 => ?_)
  · replace h := t_pos c1 h
    refine V_aload_n (pc := 15) C dX6_drop_15 rfl 0 rfl ?_
    refine V_iload_n (pc := 16) C dX6_drop_16 rfl 2 rfl ?_
    obtain ⟨r17, hq, h⟩ := ob1_some h
    refine V_callVR0 (pc := 17) (rest := []) (st2 := [.int r17]) C (X6_isStorm_ok (a := a) hq) gX6_drop_X6_isStorm rfl ⟨rfl, hdX6_isStorm⟩ ⟨Nat.le_of_ble_eq_true rfl, Nat.le_of_ble_eq_true rfl⟩ ⟨Nat.le_refl _, Nat.le_refl _⟩ 0 6 rfl rfl rfl (Nat.le_of_ble_eq_true rfl) dX6_drop_17 rfl ?_
    refine V_if_ne (pc := 20) C 26 dX6_drop_20 rfl (fun c20 => ?_) (fun c20 => ?_)
    · replace h := t_neg c20 h
      exact V_sub [0, 1, 2] rfl (hJ26 h)
    · replace h := t_pos c20 h
      refine V_ldc (pc := 23) (v := -1000002) C dX6_drop_23 wX6_drop_k2 ?_
      cases h
      subst hQ
      exact V_iretW C dX6_drop_25
  · replace h := t_neg c1 h
    refine V_aload_n (pc := 4) C dX6_drop_4 rfl 0 rfl ?_
    refine V_iload_n (pc := 5) C dX6_drop_5 rfl 2 rfl ?_
    obtain ⟨r6, hq, h⟩ := ob1_some h
    refine V_callVR0 (pc := 6) (rest := []) (st2 := [.int r6]) C (X6_isUnitThere_ok (a := a) hq) gX6_drop_X6_isUnitThere rfl ⟨rfl, hdX6_isUnitThere⟩ ⟨Nat.le_of_ble_eq_true rfl, Nat.le_of_ble_eq_true rfl⟩ ⟨Nat.le_refl _, Nat.le_refl _⟩ 0 6 rfl rfl rfl (Nat.le_of_ble_eq_true rfl) dX6_drop_6 rfl ?_
    refine V_if_ne (pc := 9) C 26 dX6_drop_9 rfl (fun c9 => ?_) (fun c9 => ?_)
    · replace h := t_neg c9 h
      exact V_sub [0, 1, 2] rfl (hJ26 h)
    · replace h := t_pos c9 h
      refine V_goto (pc := 12) C 23 dX6_drop_12 rfl ?_
      refine V_ldc (pc := 23) (v := -1000002) C dX6_drop_23 wX6_drop_k2 ?_
      cases h
      subst hQ
      exact V_iretW C dX6_drop_25
def X6_rainAt (I : Nat → Int32) (A : Nat → Nat → Int32) (F : Nat → Int64) (L : Nat → Nat → Int64) (p0 : Int32) (p1 : Int32) : Option (Int32) :=
  ob1 (X6_within p1 (0 : Int32) (2 : Int32)) fun r3 =>
  if r3 = 0 then (some (0 : Int32)) else (chk (inB (((3 : Int32) * p0) + p1) 9) (some ((A 4) (Int32.toNatClampNeg (((3 : Int32) * p0) + p1)))))
theorem wX6_rainAt_k0 : Cond.fieldLink RX6 16 (TX6 4).1 (TX6 4).2.1 (TX6 4).2.2.1 ∈ wsX6_rainAt := by decide +kernel
theorem hiX6_rainAt_6 : ∀ w ∈ u_ws RX6 TX6 33, w ∈ wsX6_rainAt := fun _ h => List.mem_cons_of_mem _ (List.mem_append_right _ h)
theorem hdX6_rainAt : yX6_rainAt.cls ≠ "java/lang/invoke/MethodHandle" ∧ yX6_rainAt.cls ≠ "java/lang/invoke/VarHandle" ∧ (parseMethodDescriptor yX6_rainAt.desc).map (fun d => d.parameters.length) = some 2 := by decide +kernel
set_option maxHeartbeats 4000000 in
set_option maxRecDepth 100000 in
theorem X6_rainAt_ok {l : Launch} {D : va_G} {Y : Nat → ClassId} {a : Nat → Nat} {I : Nat → Int32} {A : Nat → Nat → Int32} {F : Nat → Int64} {L : Nat → Nat → Int64} {p0 : Int32} {p1 : Int32} {r : Int32} (h : X6_rainAt I A F L p0 p1 = some r) : MR l yX6_rainAt wsX6_rainAt 1 22 D Y [.ref (a 0), .int p0, .int p1] (wM Y a I A F L) (some (.int r)) := by
  refine MR_of (cc := cX6_rainAt) (nL := 3) (ret := some .int) (lv0 := [(0, .ref (a 0)), (1, .int p0), (2, .int p1)]) (by decide) rfl (Nat.le_of_ble_eq_true rfl) rfl (fun X Q C hQ => ?_)
  unfold X6_rainAt at h
  refine V_iload_n (pc := 0) C dX6_rainAt_0 rfl 2 rfl ?_
  refine V_iconst (pc := 1) (v := 0) C dX6_rainAt_1 rfl ?_
  refine V_iconst (pc := 2) (v := 2) C dX6_rainAt_2 rfl ?_
  obtain ⟨r3, hq, h⟩ := ob1_some h
  refine V_callSR (pc := 3) (rest := []) (st2 := [.int r3]) C (X6_within_ok hq) gX6_rainAt_X6_within rfl hdX6_within ⟨Nat.le_of_ble_eq_true rfl, Nat.le_of_ble_eq_true rfl⟩ ⟨Nat.le_refl _, Nat.le_refl _⟩ [] rfl rfl (Nat.le_of_ble_eq_true rfl) dX6_rainAt_3 rfl ?_
  refine V_if_eq (pc := 6) C 22 dX6_rainAt_6 rfl (fun c6 => ?_) (fun c6 => ?_)
  · replace h := t_pos c6 h
    refine V_iconst (pc := 22) (v := 0) C dX6_rainAt_22 rfl ?_
    cases h
    subst hQ
    exact V_iretR C dX6_rainAt_23
  · replace h := t_neg c6 h
    refine V_aload_n (pc := 9) C dX6_rainAt_9 rfl 0 rfl ?_
    refine V_get (pc := 10) (v := .ref (a 3)) C 0 6 4 hiX6_rainAt_6 rfl rfl (by decide) wX6_rainAt_k0 rfl dX6_rainAt_10 ?_
    refine V_iconst (pc := 13) (v := 3) C dX6_rainAt_13 rfl ?_
    refine V_iload_n (pc := 14) C dX6_rainAt_14 rfl 1 rfl ?_
    refine V_imul (pc := 15) C dX6_rainAt_15 ?_
    refine V_iload_n (pc := 16) C dX6_rainAt_16 rfl 2 rfl ?_
    refine V_iadd (pc := 17) C dX6_rainAt_17 ?_
    obtain ⟨b18, h⟩ := chk_some h
    refine V_iald (pc := 18) C 3 rfl b18 dX6_rainAt_18 ?_
    refine V_goto (pc := 19) C 23 dX6_rainAt_19 rfl ?_
    cases h
    subst hQ
    exact V_iretR C dX6_rainAt_23
def X6_runoffAt (I : Nat → Int32) (A : Nat → Nat → Int32) (F : Nat → Int64) (L : Nat → Nat → Int64) (p0 : Int32) (p1 : Int32) : Option (Int32) :=
  ob1 (X6_within p1 (0 : Int32) (7 : Int32)) fun r4 =>
  if r4 = 0 then (some (0 : Int32)) else (chk (inB (((8 : Int32) * p0) + p1) 24) (some ((A 6) (Int32.toNatClampNeg (((8 : Int32) * p0) + p1)))))
theorem wX6_runoffAt_k0 : Cond.fieldLink RX6 22 (TX6 6).1 (TX6 6).2.1 (TX6 6).2.2.1 ∈ wsX6_runoffAt := by decide +kernel
theorem hiX6_runoffAt_6 : ∀ w ∈ u_ws RX6 TX6 33, w ∈ wsX6_runoffAt := fun _ h => List.mem_cons_of_mem _ (List.mem_append_right _ h)
theorem hdX6_runoffAt : yX6_runoffAt.cls ≠ "java/lang/invoke/MethodHandle" ∧ yX6_runoffAt.cls ≠ "java/lang/invoke/VarHandle" ∧ (parseMethodDescriptor yX6_runoffAt.desc).map (fun d => d.parameters.length) = some 2 := by decide +kernel
set_option maxHeartbeats 4000000 in
set_option maxRecDepth 100000 in
theorem X6_runoffAt_ok {l : Launch} {D : va_G} {Y : Nat → ClassId} {a : Nat → Nat} {I : Nat → Int32} {A : Nat → Nat → Int32} {F : Nat → Int64} {L : Nat → Nat → Int64} {p0 : Int32} {p1 : Int32} {r : Int32} (h : X6_runoffAt I A F L p0 p1 = some r) : MR l yX6_runoffAt wsX6_runoffAt 1 22 D Y [.ref (a 0), .int p0, .int p1] (wM Y a I A F L) (some (.int r)) := by
  refine MR_of (cc := cX6_runoffAt) (nL := 3) (ret := some .int) (lv0 := [(0, .ref (a 0)), (1, .int p0), (2, .int p1)]) (by decide) rfl (Nat.le_of_ble_eq_true rfl) rfl (fun X Q C hQ => ?_)
  unfold X6_runoffAt at h
  refine V_iload_n (pc := 0) C dX6_runoffAt_0 rfl 2 rfl ?_
  refine V_iconst (pc := 1) (v := 0) C dX6_runoffAt_1 rfl ?_
  refine V_bipush (pc := 2) (v := 7) C dX6_runoffAt_2 rfl ?_
  obtain ⟨r4, hq, h⟩ := ob1_some h
  refine V_callSR (pc := 4) (rest := []) (st2 := [.int r4]) C (X6_within_ok hq) gX6_runoffAt_X6_within rfl hdX6_within ⟨Nat.le_of_ble_eq_true rfl, Nat.le_of_ble_eq_true rfl⟩ ⟨Nat.le_refl _, Nat.le_refl _⟩ [] rfl rfl (Nat.le_of_ble_eq_true rfl) dX6_runoffAt_4 rfl ?_
  refine V_if_eq (pc := 7) C 24 dX6_runoffAt_7 rfl (fun c7 => ?_) (fun c7 => ?_)
  · replace h := t_pos c7 h
    refine V_iconst (pc := 24) (v := 0) C dX6_runoffAt_24 rfl ?_
    cases h
    subst hQ
    exact V_iretR C dX6_runoffAt_25
  · replace h := t_neg c7 h
    refine V_aload_n (pc := 10) C dX6_runoffAt_10 rfl 0 rfl ?_
    refine V_get (pc := 11) (v := .ref (a 5)) C 0 6 6 hiX6_runoffAt_6 rfl rfl (by decide) wX6_runoffAt_k0 rfl dX6_runoffAt_11 ?_
    refine V_bipush (pc := 14) (v := 8) C dX6_runoffAt_14 rfl ?_
    refine V_iload_n (pc := 16) C dX6_runoffAt_16 rfl 1 rfl ?_
    refine V_imul (pc := 17) C dX6_runoffAt_17 ?_
    refine V_iload_n (pc := 18) C dX6_runoffAt_18 rfl 2 rfl ?_
    refine V_iadd (pc := 19) C dX6_runoffAt_19 ?_
    obtain ⟨b20, h⟩ := chk_some h
    refine V_iald (pc := 20) C 5 rfl b20 dX6_runoffAt_20 ?_
    refine V_goto (pc := 21) C 25 dX6_runoffAt_21 rfl ?_
    cases h
    subst hQ
    exact V_iretR C dX6_runoffAt_25
def X6_rainAll (I : Nat → Int32) (A : Nat → Nat → Int32) (F : Nat → Int64) (L : Nat → Nat → Int64) (p0 : Int32) : Option (Int32) :=
  ob1 (X6_rainAt I A F L p0 (0 : Int32)) fun r3 =>
  ob1 (X6_rainAt I A F L p0 (1 : Int32)) fun r9 =>
  ob1 (X6_rainAt I A F L p0 (2 : Int32)) fun r16 =>
  some ((r3 + r9) + r16)
theorem hdX6_rainAll : yX6_rainAll.cls ≠ "java/lang/invoke/MethodHandle" ∧ yX6_rainAll.cls ≠ "java/lang/invoke/VarHandle" ∧ (parseMethodDescriptor yX6_rainAll.desc).map (fun d => d.parameters.length) = some 1 := by decide +kernel
set_option maxHeartbeats 4000000 in
set_option maxRecDepth 100000 in
theorem X6_rainAll_ok {l : Launch} {D : va_G} {Y : Nat → ClassId} {a : Nat → Nat} {I : Nat → Int32} {A : Nat → Nat → Int32} {F : Nat → Int64} {L : Nat → Nat → Int64} {p0 : Int32} {r : Int32} (h : X6_rainAll I A F L p0 = some r) : MR l yX6_rainAll wsX6_rainAll 2 44 D Y [.ref (a 0), .int p0] (wM Y a I A F L) (some (.int r)) := by
  refine MR_of (cc := cX6_rainAll) (nL := 2) (ret := some .int) (lv0 := [(0, .ref (a 0)), (1, .int p0)]) (by decide) rfl (Nat.le_of_ble_eq_true rfl) rfl (fun X Q C hQ => ?_)
  unfold X6_rainAll at h
  refine V_aload_n (pc := 0) C dX6_rainAll_0 rfl 0 rfl ?_
  refine V_iload_n (pc := 1) C dX6_rainAll_1 rfl 1 rfl ?_
  refine V_iconst (pc := 2) (v := 0) C dX6_rainAll_2 rfl ?_
  obtain ⟨r3, hq, h⟩ := ob1_some h
  refine V_callVR0 (pc := 3) (rest := []) (st2 := [.int r3]) C (X6_rainAt_ok (a := a) hq) gX6_rainAll_X6_rainAt rfl ⟨rfl, hdX6_rainAt⟩ ⟨Nat.le_of_ble_eq_true rfl, Nat.le_of_ble_eq_true rfl⟩ ⟨Nat.le_refl _, Nat.le_refl _⟩ 0 6 rfl rfl rfl (Nat.le_of_ble_eq_true rfl) dX6_rainAll_3 rfl ?_
  refine V_aload_n (pc := 6) C dX6_rainAll_6 rfl 0 rfl ?_
  refine V_iload_n (pc := 7) C dX6_rainAll_7 rfl 1 rfl ?_
  refine V_iconst (pc := 8) (v := 1) C dX6_rainAll_8 rfl ?_
  obtain ⟨r9, hq, h⟩ := ob1_some h
  refine V_callVR0 (pc := 9) (rest := [.int r3]) (st2 := [.int r9, .int r3]) C (X6_rainAt_ok (a := a) hq) gX6_rainAll_X6_rainAt rfl ⟨rfl, hdX6_rainAt⟩ ⟨Nat.le_of_ble_eq_true rfl, Nat.le_of_ble_eq_true rfl⟩ ⟨Nat.le_refl _, Nat.le_refl _⟩ 0 6 rfl rfl rfl (Nat.le_of_ble_eq_true rfl) dX6_rainAll_9 rfl ?_
  refine V_iadd (pc := 12) C dX6_rainAll_12 ?_
  refine V_aload_n (pc := 13) C dX6_rainAll_13 rfl 0 rfl ?_
  refine V_iload_n (pc := 14) C dX6_rainAll_14 rfl 1 rfl ?_
  refine V_iconst (pc := 15) (v := 2) C dX6_rainAll_15 rfl ?_
  obtain ⟨r16, hq, h⟩ := ob1_some h
  refine V_callVR0 (pc := 16) (rest := [.int (r3 + r9)]) (st2 := [.int r16, .int (r3 + r9)]) C (X6_rainAt_ok (a := a) hq) gX6_rainAll_X6_rainAt rfl ⟨rfl, hdX6_rainAt⟩ ⟨Nat.le_of_ble_eq_true rfl, Nat.le_of_ble_eq_true rfl⟩ ⟨Nat.le_refl _, Nat.le_refl _⟩ 0 6 rfl rfl rfl (Nat.le_of_ble_eq_true rfl) dX6_rainAll_16 rfl ?_
  refine V_iadd (pc := 19) C dX6_rainAll_19 ?_
  cases h
  subst hQ
  exact V_iretR C dX6_rainAll_20
def X6_runoffAll (I : Nat → Int32) (A : Nat → Nat → Int32) (F : Nat → Int64) (L : Nat → Nat → Int64) (p0 : Int32) : Option (Int32) :=
  jn1 (fun (x2_25 : Int32) => some x2_25) fun J25 =>
  wh2 (fun self4 (x2_4 : Int32) (x3_4 : Int32) =>
  if (8 : Int32) ≤ x3_4 then (J25 x2_4) else (ob1 (X6_runoffAt I A F L p0 x3_4) fun r14 =>
  self4 (x2_4 + r14) (x3_4 + 1))) 200 (0 : Int32) (0 : Int32)
theorem hdX6_runoffAll : yX6_runoffAll.cls ≠ "java/lang/invoke/MethodHandle" ∧ yX6_runoffAll.cls ≠ "java/lang/invoke/VarHandle" ∧ (parseMethodDescriptor yX6_runoffAll.desc).map (fun d => d.parameters.length) = some 1 := by decide +kernel
set_option maxHeartbeats 4000000 in
set_option maxRecDepth 100000 in
theorem X6_runoffAll_ok {l : Launch} {D : va_G} {Y : Nat → ClassId} {a : Nat → Nat} {I : Nat → Int32} {A : Nat → Nat → Int32} {F : Nat → Int64} {L : Nat → Nat → Int64} {p0 : Int32} {r : Int32} (h : X6_runoffAll I A F L p0 = some r) : MR l yX6_runoffAll wsX6_runoffAll 2 44 D Y [.ref (a 0), .int p0] (wM Y a I A F L) (some (.int r)) := by
  refine MR_of (cc := cX6_runoffAll) (nL := 4) (ret := some .int) (lv0 := [(0, .ref (a 0)), (1, .int p0)]) (by decide) rfl (Nat.le_of_ble_eq_true rfl) rfl (fun X Q C hQ => ?_)
  unfold X6_runoffAll at h
  refine V_iconst (pc := 0) (v := 0) C dX6_runoffAll_0 rfl ?_
  refine V_istore_n (pc := 1) (lv' := [(2, .int (0 : Int32)), (0, .ref (a 0)), (1, .int p0)]) C dX6_runoffAll_1 rfl (Nat.le_of_ble_eq_true rfl) rfl ?_
  refine V_iconst (pc := 2) (v := 0) C dX6_runoffAll_2 rfl ?_
  refine V_istore_n (pc := 3) (lv' := [(3, .int (0 : Int32)), (2, .int (0 : Int32)), (0, .ref (a 0)), (1, .int p0)]) C dX6_runoffAll_3 rfl (Nat.le_of_ble_eq_true rfl) rfl ?_
  refine jn1_ok (P := (fun (x2_25 : Int32) => VW X D 4 Q (KR X) (0, 0) (wM Y a I A F L) [(2, .int x2_25)] 25 [])) (fun x2_25 h => ?_) (fun J25 hJ25 h => ?_) h
  · refine V_iload_n (pc := 25) C dX6_runoffAll_25 rfl 0 rfl ?_
    cases h
    subst hQ
    exact V_iretR C dX6_runoffAll_26
  refine V_sub [2, 3, 1, 0] rfl (wh2_ok (P := (fun (x2_4 : Int32) (x3_4 : Int32) => VW X D 4 Q (KR X) (0, 0) (wM Y a I A F L) [(0, .ref (a 0)), (1, .int p0), (2, .int x2_4), (3, .int x3_4)] 4 [])) (fun self4 ih4 x2_4 x3_4 h => ?_) 200 _ _ h)
  refine V_iload_n (pc := 4) C dX6_runoffAll_4 rfl 3 rfl ?_
  refine V_bipush (pc := 5) (v := 8) C dX6_runoffAll_5 rfl ?_
  refine V_icmp_ge (pc := 7) C 25 dX6_runoffAll_7 rfl (fun c7 => ?_) (fun c7 => ?_)
  · replace h := t_pos c7 h
    exact V_sub [2] rfl (hJ25 _ h)
  · replace h := t_neg c7 h
    refine V_iload_n (pc := 10) C dX6_runoffAll_10 rfl 2 rfl ?_
    refine V_aload_n (pc := 11) C dX6_runoffAll_11 rfl 0 rfl ?_
    refine V_iload_n (pc := 12) C dX6_runoffAll_12 rfl 1 rfl ?_
    refine V_iload_n (pc := 13) C dX6_runoffAll_13 rfl 3 rfl ?_
    obtain ⟨r14, hq, h⟩ := ob1_some h
    refine V_callVR0 (pc := 14) (rest := [.int x2_4]) (st2 := [.int r14, .int x2_4]) C (X6_runoffAt_ok (a := a) hq) gX6_runoffAll_X6_runoffAt rfl ⟨rfl, hdX6_runoffAt⟩ ⟨Nat.le_of_ble_eq_true rfl, Nat.le_of_ble_eq_true rfl⟩ ⟨Nat.le_refl _, Nat.le_refl _⟩ 0 6 rfl rfl rfl (Nat.le_of_ble_eq_true rfl) dX6_runoffAll_14 rfl ?_
    refine V_iadd (pc := 17) C dX6_runoffAll_17 ?_
    refine V_istore_n (pc := 18) (lv' := [(2, .int (x2_4 + r14)), (0, .ref (a 0)), (1, .int p0), (3, .int x3_4)]) C dX6_runoffAll_18 rfl (Nat.le_of_ble_eq_true rfl) rfl ?_
    refine V_iinc (pc := 19) (v := (x3_4 + 1)) (lv' := [(3, .int (x3_4 + 1)), (2, .int (x2_4 + r14)), (0, .ref (a 0)), (1, .int p0)]) C dX6_runoffAll_19 3 rfl rfl (Nat.le_of_ble_eq_true rfl) rfl ?_
    refine V_goto (pc := 22) C 4 dX6_runoffAll_22 rfl ?_
    exact V_sub [2, 3, 1, 0] rfl (ih4 _ _ h)
def X6_stormNow (I : Nat → Int32) (A : Nat → Nat → Int32) (F : Nat → Int64) (L : Nat → Nat → Int64) (p0 : Int32) (p1 : Int32) : Option (Int32) :=
  if p1 = 0 then (chk (inB p0 3) (some ((A 3) (Int32.toNatClampNeg p0)))) else (if p1 = 1 then (chk (inB p0 3) (some ((A 5) (Int32.toNatClampNeg p0)))) else (if p1 = 2 then (ob1 (X6_rainAll I A F L p0) fun r48 =>
  some r48) else (if p1 = 3 then (ob1 (X6_runoffAll I A F L p0) fun r54 =>
  some r54) else (if (20 : Int32) ≤ p1 then (ob1 (X6_runoffAt I A F L p0 (p1 - (20 : Int32))) fun r82 =>
  some r82) else (ob1 (X6_rainAt I A F L p0 (p1 - (10 : Int32))) fun r70 =>
  some r70)))))
theorem wX6_stormNow_k0 : Cond.fieldLink RX6 19 (TX6 5).1 (TX6 5).2.1 (TX6 5).2.2.1 ∈ wsX6_stormNow := by decide +kernel
theorem hiX6_stormNow_6 : ∀ w ∈ u_ws RX6 TX6 33, w ∈ wsX6_stormNow := fun _ h => List.mem_cons_of_mem _ (List.mem_append_right _ h)
theorem wX6_stormNow_k2 : Cond.fieldLink RX6 13 (TX6 3).1 (TX6 3).2.1 (TX6 3).2.2.1 ∈ wsX6_stormNow := by decide +kernel
theorem hdX6_stormNow : yX6_stormNow.cls ≠ "java/lang/invoke/MethodHandle" ∧ yX6_stormNow.cls ≠ "java/lang/invoke/VarHandle" ∧ (parseMethodDescriptor yX6_stormNow.desc).map (fun d => d.parameters.length) = some 2 := by decide +kernel
set_option maxHeartbeats 4000000 in
set_option maxRecDepth 100000 in
theorem X6_stormNow_ok {l : Launch} {D : va_G} {Y : Nat → ClassId} {a : Nat → Nat} {I : Nat → Int32} {A : Nat → Nat → Int32} {F : Nat → Int64} {L : Nat → Nat → Int64} {p0 : Int32} {p1 : Int32} {r : Int32} (h : X6_stormNow I A F L p0 p1 = some r) : MR l yX6_stormNow wsX6_stormNow 3 67 D Y [.ref (a 0), .int p0, .int p1] (wM Y a I A F L) (some (.int r)) := by
  refine MR_of (cc := cX6_stormNow) (nL := 3) (ret := some .int) (lv0 := [(0, .ref (a 0)), (1, .int p0), (2, .int p1)]) (by decide) rfl (Nat.le_of_ble_eq_true rfl) rfl (fun X Q C hQ => ?_)
  unfold X6_stormNow at h
  refine V_iload_n (pc := 0) C dX6_stormNow_0 rfl 2 rfl ?_
  by_cases e1_0 : p1 = 0
  · replace h := t_pos e1_0 h
    refine V_top (congrArg Value.int e1_0) ?_
    refine V_tableIn (pc := 1) C 32 dX6_stormNow_1 (by decide) (by decide) rfl rfl ?_
    refine V_aload_n (pc := 32) C dX6_stormNow_32 rfl 0 rfl ?_
    refine V_get (pc := 33) (v := .ref (a 2)) C 0 6 3 hiX6_stormNow_6 rfl rfl (by decide) wX6_stormNow_k2 rfl dX6_stormNow_33 ?_
    refine V_iload_n (pc := 36) C dX6_stormNow_36 rfl 1 rfl ?_
    obtain ⟨b37, h⟩ := chk_some h
    refine V_iald (pc := 37) C 2 rfl b37 dX6_stormNow_37 ?_
    cases h
    subst hQ
    exact V_iretR C dX6_stormNow_38
  replace h := t_neg e1_0 h
  by_cases e1_1 : p1 = 1
  · replace h := t_pos e1_1 h
    refine V_top (congrArg Value.int e1_1) ?_
    refine V_tableIn (pc := 1) C 39 dX6_stormNow_1 (by decide) (by decide) rfl rfl ?_
    refine V_aload_n (pc := 39) C dX6_stormNow_39 rfl 0 rfl ?_
    refine V_get (pc := 40) (v := .ref (a 4)) C 0 6 5 hiX6_stormNow_6 rfl rfl (by decide) wX6_stormNow_k0 rfl dX6_stormNow_40 ?_
    refine V_iload_n (pc := 43) C dX6_stormNow_43 rfl 1 rfl ?_
    obtain ⟨b44, h⟩ := chk_some h
    refine V_iald (pc := 44) C 4 rfl b44 dX6_stormNow_44 ?_
    cases h
    subst hQ
    exact V_iretR C dX6_stormNow_45
  replace h := t_neg e1_1 h
  by_cases e1_2 : p1 = 2
  · replace h := t_pos e1_2 h
    refine V_top (congrArg Value.int e1_2) ?_
    refine V_tableIn (pc := 1) C 46 dX6_stormNow_1 (by decide) (by decide) rfl rfl ?_
    refine V_aload_n (pc := 46) C dX6_stormNow_46 rfl 0 rfl ?_
    refine V_iload_n (pc := 47) C dX6_stormNow_47 rfl 1 rfl ?_
    obtain ⟨r48, hq, h⟩ := ob1_some h
    refine V_callVR0 (pc := 48) (rest := []) (st2 := [.int r48]) C (X6_rainAll_ok (a := a) hq) gX6_stormNow_X6_rainAll rfl ⟨rfl, hdX6_rainAll⟩ ⟨Nat.le_of_ble_eq_true rfl, Nat.le_of_ble_eq_true rfl⟩ ⟨Nat.le_refl _, Nat.le_refl _⟩ 0 6 rfl rfl rfl (Nat.le_of_ble_eq_true rfl) dX6_stormNow_48 rfl ?_
    cases h
    subst hQ
    exact V_iretR C dX6_stormNow_51
  replace h := t_neg e1_2 h
  by_cases e1_3 : p1 = 3
  · replace h := t_pos e1_3 h
    refine V_top (congrArg Value.int e1_3) ?_
    refine V_tableIn (pc := 1) C 52 dX6_stormNow_1 (by decide) (by decide) rfl rfl ?_
    refine V_aload_n (pc := 52) C dX6_stormNow_52 rfl 0 rfl ?_
    refine V_iload_n (pc := 53) C dX6_stormNow_53 rfl 1 rfl ?_
    obtain ⟨r54, hq, h⟩ := ob1_some h
    refine V_callVR0 (pc := 54) (rest := []) (st2 := [.int r54]) C (X6_runoffAll_ok (a := a) hq) gX6_stormNow_X6_runoffAll rfl ⟨rfl, hdX6_runoffAll⟩ ⟨Nat.le_of_ble_eq_true rfl, Nat.le_of_ble_eq_true rfl⟩ ⟨Nat.le_refl _, Nat.le_refl _⟩ 0 6 rfl rfl rfl (Nat.le_of_ble_eq_true rfl) dX6_stormNow_54 rfl ?_
    cases h
    subst hQ
    exact V_iretR C dX6_stormNow_57
  replace h := t_neg e1_3 h
  have e1 : Int32.toInt p1 < 0 ∨ 3 < Int32.toInt p1 := by have n0 := lv_neT (a := 0) e1_0 rfl; have n1 := lv_neT (a := 1) e1_1 rfl; have n2 := lv_neT (a := 2) e1_2 rfl; have n3 := lv_neT (a := 3) e1_3 rfl; omega
  refine V_tableOut (pc := 1) C 58 dX6_stormNow_1 e1 rfl ?_
  refine V_iload_n (pc := 58) C dX6_stormNow_58 rfl 2 rfl ?_
  refine V_bipush (pc := 59) (v := 20) C dX6_stormNow_59 rfl ?_
  refine V_icmp_ge (pc := 61) C 76 dX6_stormNow_61 rfl (fun c61 => ?_) (fun c61 => ?_)
  · replace h := t_pos c61 h
    refine V_aload_n (pc := 76) C dX6_stormNow_76 rfl 0 rfl ?_
    refine V_iload_n (pc := 77) C dX6_stormNow_77 rfl 1 rfl ?_
    refine V_iload_n (pc := 78) C dX6_stormNow_78 rfl 2 rfl ?_
    refine V_bipush (pc := 79) (v := 20) C dX6_stormNow_79 rfl ?_
    refine V_isub (pc := 81) C dX6_stormNow_81 ?_
    obtain ⟨r82, hq, h⟩ := ob1_some h
    refine V_callVR0 (pc := 82) (rest := []) (st2 := [.int r82]) C (X6_runoffAt_ok (a := a) hq) gX6_stormNow_X6_runoffAt rfl ⟨rfl, hdX6_runoffAt⟩ ⟨Nat.le_of_ble_eq_true rfl, Nat.le_of_ble_eq_true rfl⟩ ⟨Nat.le_refl _, Nat.le_refl _⟩ 0 6 rfl rfl rfl (Nat.le_of_ble_eq_true rfl) dX6_stormNow_82 rfl ?_
    cases h
    subst hQ
    exact V_iretR C dX6_stormNow_85
  · replace h := t_neg c61 h
    refine V_aload_n (pc := 64) C dX6_stormNow_64 rfl 0 rfl ?_
    refine V_iload_n (pc := 65) C dX6_stormNow_65 rfl 1 rfl ?_
    refine V_iload_n (pc := 66) C dX6_stormNow_66 rfl 2 rfl ?_
    refine V_bipush (pc := 67) (v := 10) C dX6_stormNow_67 rfl ?_
    refine V_isub (pc := 69) C dX6_stormNow_69 ?_
    obtain ⟨r70, hq, h⟩ := ob1_some h
    refine V_callVR0 (pc := 70) (rest := []) (st2 := [.int r70]) C (X6_rainAt_ok (a := a) hq) gX6_stormNow_X6_rainAt rfl ⟨rfl, hdX6_rainAt⟩ ⟨Nat.le_of_ble_eq_true rfl, Nat.le_of_ble_eq_true rfl⟩ ⟨Nat.le_refl _, Nat.le_refl _⟩ 0 6 rfl rfl rfl (Nat.le_of_ble_eq_true rfl) dX6_stormNow_70 rfl ?_
    refine V_goto (pc := 73) C 85 dX6_stormNow_73 rfl ?_
    cases h
    subst hQ
    exact V_iretR C dX6_stormNow_85
def X6_storm (I : Nat → Int32) (A : Nat → Nat → Int32) (F : Nat → Int64) (L : Nat → Nat → Int64) (p0 : Int32) (p1 : Int32) : Option (Int32) :=
  ob1 (X6_isStorm I A F L p0) fun r2 =>
  if r2 = 0 then (some (-1000002 : Int32)) else (ob1 (X6_within p1 (0 : Int32) (3 : Int32)) fun r14 =>
  jn1 (fun (s47_0 : Int32) => if s47_0 = 0 then (some (-1000003 : Int32)) else (ob1 (X6_stormNow I A F L p0 p1) fun r55 =>
  some r55)) fun J47 =>
  if r14 = 0 then (ob1 (X6_within p1 (10 : Int32) (12 : Int32)) fun r25 =>
  if r25 = 0 then (ob1 (X6_within p1 (20 : Int32) (27 : Int32)) fun r36 =>
  if r36 = 0 then (J47 (0 : Int32)) else (J47 (1 : Int32))) else (J47 (1 : Int32))) else (J47 (1 : Int32)))
theorem wX6_storm_k0 : Cond.constant RX6 63 (-1000003) ∈ wsX6_storm := by decide +kernel
theorem wX6_storm_k1 : Cond.constant RX6 136 (-1000002) ∈ wsX6_storm := by decide +kernel
theorem hdX6_storm : yX6_storm.cls ≠ "java/lang/invoke/MethodHandle" ∧ yX6_storm.cls ≠ "java/lang/invoke/VarHandle" ∧ (parseMethodDescriptor yX6_storm.desc).map (fun d => d.parameters.length) = some 2 := by decide +kernel
set_option maxHeartbeats 4000000 in
set_option maxRecDepth 100000 in
theorem X6_storm_ok {l : Launch} {D : va_G} {Y : Nat → ClassId} {a : Nat → Nat} {I : Nat → Int32} {A : Nat → Nat → Int32} {F : Nat → Int64} {L : Nat → Nat → Int64} {p0 : Int32} {p1 : Int32} {r : Int32} (h : X6_storm I A F L p0 p1 = some r) : MR l yX6_storm wsX6_storm 4 89 D Y [.ref (a 0), .int p0, .int p1] (wM Y a I A F L) (some (.int r)) := by
  refine MR_of (cc := cX6_storm) (nL := 4) (ret := some .int) (lv0 := [(0, .ref (a 0)), (1, .int p0), (2, .int p1)]) (by decide) rfl (Nat.le_of_ble_eq_true rfl) rfl (fun X Q C hQ => ?_)
  unfold X6_storm at h
  refine V_aload_n (pc := 0) C dX6_storm_0 rfl 0 rfl ?_
  refine V_iload_n (pc := 1) C dX6_storm_1 rfl 1 rfl ?_
  obtain ⟨r2, hq, h⟩ := ob1_some h
  refine V_callVR0 (pc := 2) (rest := []) (st2 := [.int r2]) C (X6_isStorm_ok (a := a) hq) gX6_storm_X6_isStorm rfl ⟨rfl, hdX6_isStorm⟩ ⟨Nat.le_of_ble_eq_true rfl, Nat.le_of_ble_eq_true rfl⟩ ⟨Nat.le_refl _, Nat.le_refl _⟩ 0 6 rfl rfl rfl (Nat.le_of_ble_eq_true rfl) dX6_storm_2 rfl ?_
  refine V_if_ne (pc := 5) C 11 dX6_storm_5 rfl (fun c5 => ?_) (fun c5 => ?_)
  · replace h := t_neg c5 h
    refine V_iload_n (pc := 11) C dX6_storm_11 rfl 2 rfl ?_
    refine V_iconst (pc := 12) (v := 0) C dX6_storm_12 rfl ?_
    refine V_iconst (pc := 13) (v := 3) C dX6_storm_13 rfl ?_
    obtain ⟨r14, hq, h⟩ := ob1_some h
    refine V_callSR (pc := 14) (rest := []) (st2 := [.int r14]) C (X6_within_ok hq) gX6_storm_X6_within rfl hdX6_within ⟨Nat.le_of_ble_eq_true rfl, Nat.le_of_ble_eq_true rfl⟩ ⟨Nat.le_refl _, Nat.le_refl _⟩ [] rfl rfl (Nat.le_of_ble_eq_true rfl) dX6_storm_14 rfl ?_
    refine jn1_ok (P := (fun (s47_0 : Int32) => VW X D 4 Q (KR X) (0, 0) (wM Y a I A F L) [(0, .ref (a 0)), (1, .int p0), (2, .int p1)] 47 [.int s47_0])) (fun s47_0 h => ?_) (fun J47 hJ47 h => ?_) h
    · refine V_istore_n (pc := 47) (lv' := [(3, .int s47_0), (0, .ref (a 0)), (1, .int p0), (2, .int p1)]) C dX6_storm_47 rfl (Nat.le_of_ble_eq_true rfl) rfl ?_
      refine V_iload_n (pc := 48) C dX6_storm_48 rfl 0 rfl ?_
      refine V_if_eq (pc := 49) C 61 dX6_storm_49 rfl (fun c49 => ?_) (fun c49 => ?_)
      · replace h := t_pos c49 h
        refine V_ldc (pc := 61) (v := -1000003) C dX6_storm_61 wX6_storm_k0 ?_
        cases h
        subst hQ
        exact V_iretR C dX6_storm_63
      · replace h := t_neg c49 h
        refine V_aload_n (pc := 52) C dX6_storm_52 rfl 1 rfl ?_
        refine V_iload_n (pc := 53) C dX6_storm_53 rfl 2 rfl ?_
        refine V_iload_n (pc := 54) C dX6_storm_54 rfl 3 rfl ?_
        obtain ⟨r55, hq, h⟩ := ob1_some h
        refine V_callVR0 (pc := 55) (rest := []) (st2 := [.int r55]) C (X6_stormNow_ok (a := a) hq) gX6_storm_X6_stormNow rfl ⟨rfl, hdX6_stormNow⟩ ⟨Nat.le_of_ble_eq_true rfl, Nat.le_of_ble_eq_true rfl⟩ ⟨Nat.le_refl _, Nat.le_refl _⟩ 0 6 rfl rfl rfl (Nat.le_of_ble_eq_true rfl) dX6_storm_55 rfl ?_
        refine V_goto (pc := 58) C 63 dX6_storm_58 rfl ?_
        cases h
        subst hQ
        exact V_iretR C dX6_storm_63
    refine V_if_ne (pc := 17) C 42 dX6_storm_17 rfl (fun c17 => ?_) (fun c17 => ?_)
    · replace h := t_neg c17 h
      refine V_iconst (pc := 42) (v := 1) C dX6_storm_42 rfl ?_
      refine V_goto (pc := 43) C 47 dX6_storm_43 rfl ?_
      exact V_sub [0, 1, 2] rfl (hJ47 _ h)
    · replace h := t_pos c17 h
      refine V_iload_n (pc := 20) C dX6_storm_20 rfl 2 rfl ?_
      refine V_bipush (pc := 21) (v := 10) C dX6_storm_21 rfl ?_
      refine V_bipush (pc := 23) (v := 12) C dX6_storm_23 rfl ?_
      obtain ⟨r25, hq, h⟩ := ob1_some h
      refine V_callSR (pc := 25) (rest := []) (st2 := [.int r25]) C (X6_within_ok hq) gX6_storm_X6_within rfl hdX6_within ⟨Nat.le_of_ble_eq_true rfl, Nat.le_of_ble_eq_true rfl⟩ ⟨Nat.le_refl _, Nat.le_refl _⟩ [] rfl rfl (Nat.le_of_ble_eq_true rfl) dX6_storm_25 rfl ?_
      refine V_if_ne (pc := 28) C 42 dX6_storm_28 rfl (fun c28 => ?_) (fun c28 => ?_)
      · replace h := t_neg c28 h
        refine V_iconst (pc := 42) (v := 1) C dX6_storm_42 rfl ?_
        refine V_goto (pc := 43) C 47 dX6_storm_43 rfl ?_
        exact V_sub [0, 1, 2] rfl (hJ47 _ h)
      · replace h := t_pos c28 h
        refine V_iload_n (pc := 31) C dX6_storm_31 rfl 2 rfl ?_
        refine V_bipush (pc := 32) (v := 20) C dX6_storm_32 rfl ?_
        refine V_bipush (pc := 34) (v := 27) C dX6_storm_34 rfl ?_
        obtain ⟨r36, hq, h⟩ := ob1_some h
        refine V_callSR (pc := 36) (rest := []) (st2 := [.int r36]) C (X6_within_ok hq) gX6_storm_X6_within rfl hdX6_within ⟨Nat.le_of_ble_eq_true rfl, Nat.le_of_ble_eq_true rfl⟩ ⟨Nat.le_refl _, Nat.le_refl _⟩ [] rfl rfl (Nat.le_of_ble_eq_true rfl) dX6_storm_36 rfl ?_
        refine V_if_eq (pc := 39) C 46 dX6_storm_39 rfl (fun c39 => ?_) (fun c39 => ?_)
        · replace h := t_pos c39 h
          refine V_iconst (pc := 46) (v := 0) C dX6_storm_46 rfl ?_
          exact V_sub [0, 1, 2] rfl (hJ47 _ h)
        · replace h := t_neg c39 h
          refine V_iconst (pc := 42) (v := 1) C dX6_storm_42 rfl ?_
          refine V_goto (pc := 43) C 47 dX6_storm_43 rfl ?_
          exact V_sub [0, 1, 2] rfl (hJ47 _ h)
  · replace h := t_pos c5 h
    refine V_ldc (pc := 8) (v := -1000002) C dX6_storm_8 wX6_storm_k1 ?_
    cases h
    subst hQ
    exact V_iretR C dX6_storm_10
def X6_isDivided (I : Nat → Int32) (A : Nat → Nat → Int32) (F : Nat → Int64) (L : Nat → Nat → Int64) (p0 : Int32) : Option (Int32 × Int32 × (Nat → Int32)) :=
  chk (inB p0 3) (chk (inB p0 3) (if (1 : Int32) ≤ ((((A 5) (Int32.toNatClampNeg p0)) - ((A 3) (Int32.toNatClampNeg p0))) + (1 : Int32)) then (wh2 (fun self31 (x2_31 : Int32) (mA24_31 : Nat → Int32) =>
  chk (inB p0 3) (if ((A 5) (Int32.toNatClampNeg p0)) ≤ x2_31 then (some ((1 : Int32), ((((A 5) (Int32.toNatClampNeg p0)) - ((A 3) (Int32.toNatClampNeg p0))) + (1 : Int32)), mA24_31)) else (ob1 (X6_runoffAt (up I 23 ((((A 5) (Int32.toNatClampNeg p0)) - ((A 3) (Int32.toNatClampNeg p0))) + (1 : Int32))) (up A 24 mA24_31) F L p0 x2_31) fun r44 =>
  jn1 (fun (x3_109 : Int32) => jn0 (jn2 (fun (s162_1 : Int32) (s162_2 : Int32) => chk (inB s162_1 8) (self31 (x2_31 + 1) (upd mA24_31 (Int32.toNatClampNeg s162_1) s162_2))) fun J162 =>
  if ((((A 5) (Int32.toNatClampNeg p0)) - ((A 3) (Int32.toNatClampNeg p0))) + (1 : Int32)) ≤ x2_31 then (J162 x2_31 (0 : Int32)) else (ob1 (X6_rainAt (up I 23 ((((A 5) (Int32.toNatClampNeg p0)) - ((A 3) (Int32.toNatClampNeg p0))) + (1 : Int32))) (up A 24 mA24_31) F L p0 (0 : Int32)) fun r154 =>
  chk (ne0 r154) (J162 x2_31 (x3_109 / r154)))) fun J137 =>
  if ((((A 5) (Int32.toNatClampNeg p0)) - ((A 3) (Int32.toNatClampNeg p0))) + (1 : Int32)) ≤ x2_31 then (if x3_109 = 0 then (J137) else (some ((0 : Int32), ((((A 5) (Int32.toNatClampNeg p0)) - ((A 3) (Int32.toNatClampNeg p0))) + (1 : Int32)), mA24_31))) else (ob1 (X6_rainAt (up I 23 ((((A 5) (Int32.toNatClampNeg p0)) - ((A 3) (Int32.toNatClampNeg p0))) + (1 : Int32))) (up A 24 mA24_31) F L p0 (0 : Int32)) fun r121 =>
  chk (ne0 r121) (if (x3_109 - x3_109 / r121 * r121) = 0 then (J137) else (some ((0 : Int32), ((((A 5) (Int32.toNatClampNeg p0)) - ((A 3) (Int32.toNatClampNeg p0))) + (1 : Int32)), mA24_31))))) fun J109 =>
  wh2 (fun self51 (x3_51 : Int32) (x4_51 : Int32) =>
  chk (inB p0 3) (if ((A 3) (Int32.toNatClampNeg p0)) ≤ x4_51 then (J109 x3_51) else (ob1 (X6_within (x2_31 - x4_51) (0 : Int32) (((((A 5) (Int32.toNatClampNeg p0)) - ((A 3) (Int32.toNatClampNeg p0))) + (1 : Int32)) - (1 : Int32))) fun r74 =>
  jn2 (fun (s101_0 : Int32) (s101_1 : Int32) => self51 (s101_0 - s101_1) (x4_51 + 1)) fun J101 =>
  if r74 = 0 then (J101 x3_51 (0 : Int32)) else (ob1 (X6_rainAt (up I 23 ((((A 5) (Int32.toNatClampNeg p0)) - ((A 3) (Int32.toNatClampNeg p0))) + (1 : Int32))) (up A 24 mA24_31) F L p0 x4_51) fun r84 =>
  chk (inB (x2_31 - x4_51) 8) (J101 x3_51 (r84 * (mA24_31 (Int32.toNatClampNeg (x2_31 - x4_51))))))))) 200 r44 (1 : Int32)))) 200 (0 : Int32) (A 24)) else (some ((0 : Int32), ((((A 5) (Int32.toNatClampNeg p0)) - ((A 3) (Int32.toNatClampNeg p0))) + (1 : Int32)), (A 24)))))
theorem wX6_isDivided_k0 : Cond.fieldLink RX6 19 (TX6 5).1 (TX6 5).2.1 (TX6 5).2.2.1 ∈ wsX6_isDivided := by decide +kernel
theorem hiX6_isDivided_6 : ∀ w ∈ u_ws RX6 TX6 33, w ∈ wsX6_isDivided := fun _ h => List.mem_cons_of_mem _ (List.mem_append_right _ h)
theorem wX6_isDivided_k2 : Cond.fieldLink RX6 13 (TX6 3).1 (TX6 3).2.1 (TX6 3).2.2.1 ∈ wsX6_isDivided := by decide +kernel
theorem wX6_isDivided_k3 : Cond.fieldLink RX6 163 (TX6 23).1 (TX6 23).2.1 (TX6 23).2.2.1 ∈ wsX6_isDivided := by decide +kernel
theorem wX6_isDivided_k4 : Cond.fieldLink RX6 40 (TX6 24).1 (TX6 24).2.1 (TX6 24).2.2.1 ∈ wsX6_isDivided := by decide +kernel
theorem hdX6_isDivided : yX6_isDivided.cls ≠ "java/lang/invoke/MethodHandle" ∧ yX6_isDivided.cls ≠ "java/lang/invoke/VarHandle" ∧ (parseMethodDescriptor yX6_isDivided.desc).map (fun d => d.parameters.length) = some 1 := by decide +kernel
set_option maxHeartbeats 4000000 in
set_option maxRecDepth 100000 in
theorem X6_isDivided_ok {l : Launch} {D : va_G} {Y : Nat → ClassId} {a : Nat → Nat} {I : Nat → Int32} {A : Nat → Nat → Int32} {F : Nat → Int64} {L : Nat → Nat → Int64} {p0 : Int32} {r : Int32} {uI23 : Int32} {uA24 : Nat → Int32} (h : X6_isDivided I A F L p0 = some (r, uI23, uA24)) : MW l yX6_isDivided wsX6_isDivided 2 44 D Y [.ref (a 0), .int p0] (wM Y a I A F L) (wM Y a (up I 23 uI23) (up A 24 uA24) F L) (some (.int r)) := by
  refine MW_of (cc := cX6_isDivided) (nL := 5) (ret := some .boolean) (lv0 := [(0, .ref (a 0)), (1, .int p0)]) (by decide) rfl (Nat.le_of_ble_eq_true rfl) rfl rfl (fun X Af Q C hA hQ => ?_)
  unfold X6_isDivided at h
  refine V_aload_n (pc := 0) C dX6_isDivided_0 rfl 0 rfl ?_
  refine V_aload_n (pc := 1) C dX6_isDivided_1 rfl 0 rfl ?_
  refine V_get (pc := 2) (v := .ref (a 4)) C 0 6 5 hiX6_isDivided_6 rfl rfl (by decide) wX6_isDivided_k0 rfl dX6_isDivided_2 ?_
  refine V_iload_n (pc := 5) C dX6_isDivided_5 rfl 1 rfl ?_
  obtain ⟨b6, h⟩ := chk_some h
  refine V_iald (pc := 6) C 4 rfl b6 dX6_isDivided_6 ?_
  refine V_aload_n (pc := 7) C dX6_isDivided_7 rfl 0 rfl ?_
  refine V_get (pc := 8) (v := .ref (a 2)) C 0 6 3 hiX6_isDivided_6 rfl rfl (by decide) wX6_isDivided_k2 rfl dX6_isDivided_8 ?_
  refine V_iload_n (pc := 11) C dX6_isDivided_11 rfl 1 rfl ?_
  obtain ⟨b12, h⟩ := chk_some h
  refine V_iald (pc := 12) C 2 rfl b12 dX6_isDivided_12 ?_
  refine V_isub (pc := 13) C dX6_isDivided_13 ?_
  refine V_iconst (pc := 14) (v := 1) C dX6_isDivided_14 rfl ?_
  refine V_iadd (pc := 15) C dX6_isDivided_15 ?_
  refine V_put (pc := 16) (ws' := wM Y a (up I 23 ((((A 5) (Int32.toNatClampNeg p0)) - ((A 3) (Int32.toNatClampNeg p0))) + (1 : Int32))) A F L) C 0 6 23 hiX6_isDivided_6 tyX6_ok nmX6 rfl rfl (by decide) wX6_isDivided_k3 rfl rfl rfl (Nat.le_of_ble_eq_true rfl) dX6_isDivided_16 rfl ?_
  refine V_aload_n (pc := 19) C dX6_isDivided_19 rfl 0 rfl ?_
  refine V_get (pc := 20) (v := .int ((((A 5) (Int32.toNatClampNeg p0)) - ((A 3) (Int32.toNatClampNeg p0))) + (1 : Int32))) C 0 6 23 hiX6_isDivided_6 rfl rfl (by decide) wX6_isDivided_k3 rfl dX6_isDivided_20 ?_
  refine V_iconst (pc := 23) (v := 1) C dX6_isDivided_23 rfl ?_
  refine V_icmp_ge (pc := 24) C 29 dX6_isDivided_24 rfl (fun c24 => ?_) (fun c24 => ?_)
  · replace h := t_pos c24 h
    refine V_iconst (pc := 29) (v := 0) C dX6_isDivided_29 rfl ?_
    refine V_istore_n (pc := 30) (lv' := [(2, .int (0 : Int32)), (0, .ref (a 0)), (1, .int p0)]) C dX6_isDivided_30 rfl (Nat.le_of_ble_eq_true rfl) rfl ?_
    refine V_sub [1, 2, 0] rfl (wh2_ok (P := (fun (x2_31 : Int32) (mA24_31 : Nat → Int32) => VW X D 5 Q (KM Af X) (0, 0) (wM Y a (up I 23 ((((A 5) (Int32.toNatClampNeg p0)) - ((A 3) (Int32.toNatClampNeg p0))) + (1 : Int32))) (up A 24 mA24_31) F L) [(0, .ref (a 0)), (1, .int p0), (2, .int x2_31)] 31 [])) (fun self31 ih31 x2_31 mA24_31 h => ?_) 200 _ _ h)
    refine V_iload_n (pc := 31) C dX6_isDivided_31 rfl 2 rfl ?_
    refine V_aload_n (pc := 32) C dX6_isDivided_32 rfl 0 rfl ?_
    refine V_get (pc := 33) (v := .ref (a 4)) C 0 6 5 hiX6_isDivided_6 rfl rfl (by decide) wX6_isDivided_k0 rfl dX6_isDivided_33 ?_
    refine V_iload_n (pc := 36) C dX6_isDivided_36 rfl 1 rfl ?_
    obtain ⟨b37, h⟩ := chk_some h
    refine V_iald (pc := 37) C 4 rfl b37 dX6_isDivided_37 ?_
    refine V_icmp_ge (pc := 38) C 169 dX6_isDivided_38 rfl (fun c38 => ?_) (fun c38 => ?_)
    · replace h := t_pos c38 h
      refine V_iconst (pc := 169) (v := 1) C dX6_isDivided_169 rfl ?_
      cases h
      subst hQ
      exact V_zretW C (by decide) dX6_isDivided_170
    · replace h := t_neg c38 h
      refine V_aload_n (pc := 41) C dX6_isDivided_41 rfl 0 rfl ?_
      refine V_iload_n (pc := 42) C dX6_isDivided_42 rfl 1 rfl ?_
      refine V_iload_n (pc := 43) C dX6_isDivided_43 rfl 2 rfl ?_
      obtain ⟨r44, hq, h⟩ := ob1_some h
      refine V_callVR0 (pc := 44) (rest := []) (st2 := [.int r44]) C (X6_runoffAt_ok (a := a) hq) gX6_isDivided_X6_runoffAt rfl ⟨rfl, hdX6_runoffAt⟩ ⟨Nat.le_of_ble_eq_true rfl, Nat.le_of_ble_eq_true rfl⟩ ⟨Nat.le_refl _, Nat.le_refl _⟩ 0 6 rfl rfl rfl (Nat.le_of_ble_eq_true rfl) dX6_isDivided_44 rfl ?_
      refine V_istore_n (pc := 47) (lv' := [(3, .int r44), (0, .ref (a 0)), (1, .int p0), (2, .int x2_31)]) C dX6_isDivided_47 rfl (Nat.le_of_ble_eq_true rfl) rfl ?_
      refine V_iconst (pc := 48) (v := 1) C dX6_isDivided_48 rfl ?_
      refine V_istore (pc := 49) (lv' := [(4, .int (1 : Int32)), (3, .int r44), (0, .ref (a 0)), (1, .int p0), (2, .int x2_31)]) C dX6_isDivided_49 (Nat.le_of_ble_eq_true rfl) rfl ?_
      refine jn1_ok (P := (fun (x3_109 : Int32) => VW X D 5 Q (KM Af X) (0, 0) (wM Y a (up I 23 ((((A 5) (Int32.toNatClampNeg p0)) - ((A 3) (Int32.toNatClampNeg p0))) + (1 : Int32))) (up A 24 mA24_31) F L) [(0, .ref (a 0)), (1, .int p0), (2, .int x2_31), (3, .int x3_109)] 109 [])) (fun x3_109 h => ?_) (fun J109 hJ109 h => ?_) h
      · refine V_iload_n (pc := 109) C dX6_isDivided_109 rfl 2 rfl ?_
        refine V_aload_n (pc := 110) C dX6_isDivided_110 rfl 0 rfl ?_
        refine V_get (pc := 111) (v := .int ((((A 5) (Int32.toNatClampNeg p0)) - ((A 3) (Int32.toNatClampNeg p0))) + (1 : Int32))) C 0 6 23 hiX6_isDivided_6 rfl rfl (by decide) wX6_isDivided_k3 rfl dX6_isDivided_111 ?_
        refine jn0_ok (P := (VW X D 5 Q (KM Af X) (0, 0) (wM Y a (up I 23 ((((A 5) (Int32.toNatClampNeg p0)) - ((A 3) (Int32.toNatClampNeg p0))) + (1 : Int32))) (up A 24 mA24_31) F L) [(0, .ref (a 0)), (1, .int p0), (2, .int x2_31), (3, .int x3_109)] 137 [])) (fun h => ?_) (fun J137 hJ137 h => ?_) h
        · refine V_aload_n (pc := 137) C dX6_isDivided_137 rfl 0 rfl ?_
          refine V_get (pc := 138) (v := .ref (a 11)) C 0 6 24 hiX6_isDivided_6 rfl rfl (by decide) wX6_isDivided_k4 rfl dX6_isDivided_138 ?_
          refine V_iload_n (pc := 141) C dX6_isDivided_141 rfl 2 rfl ?_
          refine V_iload_n (pc := 142) C dX6_isDivided_142 rfl 2 rfl ?_
          refine V_aload_n (pc := 143) C dX6_isDivided_143 rfl 0 rfl ?_
          refine V_get (pc := 144) (v := .int ((((A 5) (Int32.toNatClampNeg p0)) - ((A 3) (Int32.toNatClampNeg p0))) + (1 : Int32))) C 0 6 23 hiX6_isDivided_6 rfl rfl (by decide) wX6_isDivided_k3 rfl dX6_isDivided_144 ?_
          refine jn2_ok (P := (fun (s162_1 : Int32) (s162_2 : Int32) => VW X D 5 Q (KM Af X) (0, 0) (wM Y a (up I 23 ((((A 5) (Int32.toNatClampNeg p0)) - ((A 3) (Int32.toNatClampNeg p0))) + (1 : Int32))) (up A 24 mA24_31) F L) [(0, .ref (a 0)), (1, .int p0), (2, .int x2_31)] 162 [.int s162_2, .int s162_1, .ref (a 11)])) (fun s162_1 s162_2 h => ?_) (fun J162 hJ162 h => ?_) h
          · obtain ⟨b162, h⟩ := chk_some h
            refine V_iast (pc := 162) (ws' := wM Y a (up I 23 ((((A 5) (Int32.toNatClampNeg p0)) - ((A 3) (Int32.toNatClampNeg p0))) + (1 : Int32))) (up A 24 (upd mA24_31 (Int32.toNatClampNeg s162_1) s162_2)) F L) C 11 rfl b162 dX6_isDivided_162 rfl ?_
            refine V_iinc (pc := 163) (v := (x2_31 + 1)) (lv' := [(2, .int (x2_31 + 1)), (0, .ref (a 0)), (1, .int p0)]) C dX6_isDivided_163 2 rfl rfl (Nat.le_of_ble_eq_true rfl) rfl ?_
            refine V_goto (pc := 166) C 31 dX6_isDivided_166 rfl ?_
            exact V_sub [1, 2, 0] rfl (ih31 _ _ h)
          refine V_icmp_ge (pc := 147) C 161 dX6_isDivided_147 rfl (fun c147 => ?_) (fun c147 => ?_)
          · replace h := t_pos c147 h
            refine V_iconst (pc := 161) (v := 0) C dX6_isDivided_161 rfl ?_
            exact V_sub [0, 1, 2] rfl (hJ162 _ _ h)
          · replace h := t_neg c147 h
            refine V_iload_n (pc := 150) C dX6_isDivided_150 rfl 3 rfl ?_
            refine V_aload_n (pc := 151) C dX6_isDivided_151 rfl 0 rfl ?_
            refine V_iload_n (pc := 152) C dX6_isDivided_152 rfl 1 rfl ?_
            refine V_iconst (pc := 153) (v := 0) C dX6_isDivided_153 rfl ?_
            obtain ⟨r154, hq, h⟩ := ob1_some h
            refine V_callVR0 (pc := 154) (rest := [.int x3_109, .int x2_31, .ref (a 11)]) (st2 := [.int r154, .int x3_109, .int x2_31, .ref (a 11)]) C (X6_rainAt_ok (a := a) hq) gX6_isDivided_X6_rainAt rfl ⟨rfl, hdX6_rainAt⟩ ⟨Nat.le_of_ble_eq_true rfl, Nat.le_of_ble_eq_true rfl⟩ ⟨Nat.le_refl _, Nat.le_refl _⟩ 0 6 rfl rfl rfl (Nat.le_of_ble_eq_true rfl) dX6_isDivided_154 rfl ?_
            obtain ⟨b157, h⟩ := chk_some h
            refine V_idiv (pc := 157) C dX6_isDivided_157 (ne0_n b157) ?_
            refine V_goto (pc := 158) C 162 dX6_isDivided_158 rfl ?_
            exact V_sub [0, 1, 2] rfl (hJ162 _ _ h)
        refine V_icmp_ge (pc := 114) C 131 dX6_isDivided_114 rfl (fun c114 => ?_) (fun c114 => ?_)
        · replace h := t_pos c114 h
          refine V_iload_n (pc := 131) C dX6_isDivided_131 rfl 3 rfl ?_
          refine V_if_eq (pc := 132) C 137 dX6_isDivided_132 rfl (fun c132 => ?_) (fun c132 => ?_)
          · replace h := t_pos c132 h
            exact V_sub [0, 1, 2, 3] rfl (hJ137 h)
          · replace h := t_neg c132 h
            refine V_iconst (pc := 135) (v := 0) C dX6_isDivided_135 rfl ?_
            cases h
            subst hQ
            exact V_zretW C (by decide) dX6_isDivided_136
        · replace h := t_neg c114 h
          refine V_iload_n (pc := 117) C dX6_isDivided_117 rfl 3 rfl ?_
          refine V_aload_n (pc := 118) C dX6_isDivided_118 rfl 0 rfl ?_
          refine V_iload_n (pc := 119) C dX6_isDivided_119 rfl 1 rfl ?_
          refine V_iconst (pc := 120) (v := 0) C dX6_isDivided_120 rfl ?_
          obtain ⟨r121, hq, h⟩ := ob1_some h
          refine V_callVR0 (pc := 121) (rest := [.int x3_109]) (st2 := [.int r121, .int x3_109]) C (X6_rainAt_ok (a := a) hq) gX6_isDivided_X6_rainAt rfl ⟨rfl, hdX6_rainAt⟩ ⟨Nat.le_of_ble_eq_true rfl, Nat.le_of_ble_eq_true rfl⟩ ⟨Nat.le_refl _, Nat.le_refl _⟩ 0 6 rfl rfl rfl (Nat.le_of_ble_eq_true rfl) dX6_isDivided_121 rfl ?_
          obtain ⟨b124, h⟩ := chk_some h
          refine V_irem (pc := 124) C dX6_isDivided_124 (ne0_n b124) ?_
          refine V_if_eq (pc := 125) C 137 dX6_isDivided_125 rfl (fun c125 => ?_) (fun c125 => ?_)
          · replace h := t_pos c125 h
            exact V_sub [0, 1, 2, 3] rfl (hJ137 h)
          · replace h := t_neg c125 h
            refine V_goto (pc := 128) C 135 dX6_isDivided_128 rfl ?_
            refine V_iconst (pc := 135) (v := 0) C dX6_isDivided_135 rfl ?_
            cases h
            subst hQ
            exact V_zretW C (by decide) dX6_isDivided_136
      refine V_sub [2, 3, 4, 1, 0] rfl (wh2_ok (P := (fun (x3_51 : Int32) (x4_51 : Int32) => VW X D 5 Q (KM Af X) (0, 0) (wM Y a (up I 23 ((((A 5) (Int32.toNatClampNeg p0)) - ((A 3) (Int32.toNatClampNeg p0))) + (1 : Int32))) (up A 24 mA24_31) F L) [(0, .ref (a 0)), (1, .int p0), (2, .int x2_31), (3, .int x3_51), (4, .int x4_51)] 51 [])) (fun self51 ih51 x3_51 x4_51 h => ?_) 200 _ _ h)
      refine V_iload (pc := 51) C dX6_isDivided_51 4 rfl ?_
      refine V_aload_n (pc := 53) C dX6_isDivided_53 rfl 0 rfl ?_
      refine V_get (pc := 54) (v := .ref (a 2)) C 0 6 3 hiX6_isDivided_6 rfl rfl (by decide) wX6_isDivided_k2 rfl dX6_isDivided_54 ?_
      refine V_iload_n (pc := 57) C dX6_isDivided_57 rfl 1 rfl ?_
      obtain ⟨b58, h⟩ := chk_some h
      refine V_iald (pc := 58) C 2 rfl b58 dX6_isDivided_58 ?_
      refine V_icmp_ge (pc := 59) C 109 dX6_isDivided_59 rfl (fun c59 => ?_) (fun c59 => ?_)
      · replace h := t_pos c59 h
        exact V_sub [0, 1, 2, 3] rfl (hJ109 _ h)
      · replace h := t_neg c59 h
        refine V_iload_n (pc := 62) C dX6_isDivided_62 rfl 3 rfl ?_
        refine V_iload_n (pc := 63) C dX6_isDivided_63 rfl 2 rfl ?_
        refine V_iload (pc := 64) C dX6_isDivided_64 4 rfl ?_
        refine V_isub (pc := 66) C dX6_isDivided_66 ?_
        refine V_iconst (pc := 67) (v := 0) C dX6_isDivided_67 rfl ?_
        refine V_aload_n (pc := 68) C dX6_isDivided_68 rfl 0 rfl ?_
        refine V_get (pc := 69) (v := .int ((((A 5) (Int32.toNatClampNeg p0)) - ((A 3) (Int32.toNatClampNeg p0))) + (1 : Int32))) C 0 6 23 hiX6_isDivided_6 rfl rfl (by decide) wX6_isDivided_k3 rfl dX6_isDivided_69 ?_
        refine V_iconst (pc := 72) (v := 1) C dX6_isDivided_72 rfl ?_
        refine V_isub (pc := 73) C dX6_isDivided_73 ?_
        obtain ⟨r74, hq, h⟩ := ob1_some h
        refine V_callSR (pc := 74) (rest := [.int x3_51]) (st2 := [.int r74, .int x3_51]) C (X6_within_ok hq) gX6_isDivided_X6_within rfl hdX6_within ⟨Nat.le_of_ble_eq_true rfl, Nat.le_of_ble_eq_true rfl⟩ ⟨Nat.le_refl _, Nat.le_refl _⟩ [] rfl rfl (Nat.le_of_ble_eq_true rfl) dX6_isDivided_74 rfl ?_
        refine jn2_ok (P := (fun (s101_0 : Int32) (s101_1 : Int32) => VW X D 5 Q (KM Af X) (0, 0) (wM Y a (up I 23 ((((A 5) (Int32.toNatClampNeg p0)) - ((A 3) (Int32.toNatClampNeg p0))) + (1 : Int32))) (up A 24 mA24_31) F L) [(0, .ref (a 0)), (1, .int p0), (2, .int x2_31), (4, .int x4_51)] 101 [.int s101_1, .int s101_0])) (fun s101_0 s101_1 h => ?_) (fun J101 hJ101 h => ?_) h
        · refine V_isub (pc := 101) C dX6_isDivided_101 ?_
          refine V_istore_n (pc := 102) (lv' := [(3, .int (s101_0 - s101_1)), (0, .ref (a 0)), (1, .int p0), (2, .int x2_31), (4, .int x4_51)]) C dX6_isDivided_102 rfl (Nat.le_of_ble_eq_true rfl) rfl ?_
          refine V_iinc (pc := 103) (v := (x4_51 + 1)) (lv' := [(4, .int (x4_51 + 1)), (3, .int (s101_0 - s101_1)), (0, .ref (a 0)), (1, .int p0), (2, .int x2_31)]) C dX6_isDivided_103 4 rfl rfl (Nat.le_of_ble_eq_true rfl) rfl ?_
          refine V_goto (pc := 106) C 51 dX6_isDivided_106 rfl ?_
          exact V_sub [2, 3, 4, 1, 0] rfl (ih51 _ _ h)
        refine V_if_eq (pc := 77) C 100 dX6_isDivided_77 rfl (fun c77 => ?_) (fun c77 => ?_)
        · replace h := t_pos c77 h
          refine V_iconst (pc := 100) (v := 0) C dX6_isDivided_100 rfl ?_
          exact V_sub [0, 1, 2, 4] rfl (hJ101 _ _ h)
        · replace h := t_neg c77 h
          refine V_aload_n (pc := 80) C dX6_isDivided_80 rfl 0 rfl ?_
          refine V_iload_n (pc := 81) C dX6_isDivided_81 rfl 1 rfl ?_
          refine V_iload (pc := 82) C dX6_isDivided_82 4 rfl ?_
          obtain ⟨r84, hq, h⟩ := ob1_some h
          refine V_callVR0 (pc := 84) (rest := [.int x3_51]) (st2 := [.int r84, .int x3_51]) C (X6_rainAt_ok (a := a) hq) gX6_isDivided_X6_rainAt rfl ⟨rfl, hdX6_rainAt⟩ ⟨Nat.le_of_ble_eq_true rfl, Nat.le_of_ble_eq_true rfl⟩ ⟨Nat.le_refl _, Nat.le_refl _⟩ 0 6 rfl rfl rfl (Nat.le_of_ble_eq_true rfl) dX6_isDivided_84 rfl ?_
          refine V_aload_n (pc := 87) C dX6_isDivided_87 rfl 0 rfl ?_
          refine V_get (pc := 88) (v := .ref (a 11)) C 0 6 24 hiX6_isDivided_6 rfl rfl (by decide) wX6_isDivided_k4 rfl dX6_isDivided_88 ?_
          refine V_iload_n (pc := 91) C dX6_isDivided_91 rfl 2 rfl ?_
          refine V_iload (pc := 92) C dX6_isDivided_92 4 rfl ?_
          refine V_isub (pc := 94) C dX6_isDivided_94 ?_
          obtain ⟨b95, h⟩ := chk_some h
          refine V_iald (pc := 95) C 11 rfl b95 dX6_isDivided_95 ?_
          refine V_imul (pc := 96) C dX6_isDivided_96 ?_
          refine V_goto (pc := 97) C 101 dX6_isDivided_97 rfl ?_
          exact V_sub [0, 1, 2, 4] rfl (hJ101 _ _ h)
  · replace h := t_neg c24 h
    refine V_iconst (pc := 27) (v := 0) C dX6_isDivided_27 rfl ?_
    cases h
    subst hQ
    exact V_zretW C (by decide) dX6_isDivided_28
