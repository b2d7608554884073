def X6_howMany (I : Nat → Int32) (A : Nat → Nat → Int32) (F : Nat → Int64) (L : Nat → Nat → Int64) (p0 : Int32) : Option (Int32) :=
  if p0 = 0 then (some (I 2)) else (if p0 = 1 then (some (I 7)) else (if p0 = 2 then (some (I 0)) else (if p0 = 3 then (some (I 11)) else (if p0 = 4 then (some (I 12)) else (if p0 = 5 then (some (I 13)) else (some (-1000003 : Int32)))))))
theorem wX6_howMany_k0 : Cond.constant RX6 63 (-1000003) ∈ wsX6_howMany := by decide +kernel
theorem wX6_howMany_k1 : Cond.fieldLink RX6 256 (TX6 13).1 (TX6 13).2.1 (TX6 13).2.2.1 ∈ wsX6_howMany := by decide +kernel
theorem hiX6_howMany_6 : ∀ w ∈ u_ws RX6 TX6 33, w ∈ wsX6_howMany := fun _ h => List.mem_cons_of_mem _ (List.mem_append_right _ h)
theorem wX6_howMany_k3 : Cond.fieldLink RX6 137 (TX6 12).1 (TX6 12).2.1 (TX6 12).2.2.1 ∈ wsX6_howMany := by decide +kernel
theorem wX6_howMany_k4 : Cond.fieldLink RX6 121 (TX6 11).1 (TX6 11).2.1 (TX6 11).2.2.1 ∈ wsX6_howMany := by decide +kernel
theorem wX6_howMany_k5 : Cond.fieldLink RX6 64 (TX6 0).1 (TX6 0).2.1 (TX6 0).2.2.1 ∈ wsX6_howMany := by decide +kernel
theorem wX6_howMany_k6 : Cond.fieldLink RX6 117 (TX6 7).1 (TX6 7).2.1 (TX6 7).2.2.1 ∈ wsX6_howMany := by decide +kernel
theorem wX6_howMany_k7 : Cond.fieldLink RX6 114 (TX6 2).1 (TX6 2).2.1 (TX6 2).2.2.1 ∈ wsX6_howMany := by decide +kernel
theorem hdX6_howMany : yX6_howMany.cls ≠ "java/lang/invoke/MethodHandle" ∧ yX6_howMany.cls ≠ "java/lang/invoke/VarHandle" ∧ (parseMethodDescriptor yX6_howMany.desc).map (fun d => d.parameters.length) = some 1 := by decide +kernel
set_option maxHeartbeats 4000000 in
set_option maxRecDepth 100000 in
theorem X6_howMany_ok {l : Launch} {D : va_G} {Y : Nat → ClassId} {a : Nat → Nat} {I : Nat → Int32} {A : Nat → Nat → Int32} {F : Nat → Int64} {L : Nat → Nat → Int64} {p0 : Int32} {r : Int32} (h : X6_howMany I A F L p0 = some r) : MR l yX6_howMany wsX6_howMany 0 0 D Y [.ref (a 0), .int p0] (wM Y a I A F L) (some (.int r)) := by
  refine MR_of (cc := cX6_howMany) (nL := 2) (ret := some .int) (lv0 := [(0, .ref (a 0)), (1, .int p0)]) (by decide) rfl (Nat.le_of_ble_eq_true rfl) rfl (fun X Q C hQ => ?_)
  unfold X6_howMany at h
  refine V_iload_n (pc := 0) C dX6_howMany_0 rfl 1 rfl ?_
  by_cases e1_0 : p0 = 0
  · replace h := t_pos e1_0 h
    refine V_top (congrArg Value.int e1_0) ?_
    refine V_tableIn (pc := 1) C 40 dX6_howMany_1 (by decide) (by decide) rfl rfl ?_
    refine V_aload_n (pc := 40) C dX6_howMany_40 rfl 0 rfl ?_
    refine V_get (pc := 41) (v := .int (I 2)) C 0 6 2 hiX6_howMany_6 rfl rfl (by decide) wX6_howMany_k7 rfl dX6_howMany_41 ?_
    cases h
    subst hQ
    exact V_iretR C dX6_howMany_44
  replace h := t_neg e1_0 h
  by_cases e1_1 : p0 = 1
  · replace h := t_pos e1_1 h
    refine V_top (congrArg Value.int e1_1) ?_
    refine V_tableIn (pc := 1) C 45 dX6_howMany_1 (by decide) (by decide) rfl rfl ?_
    refine V_aload_n (pc := 45) C dX6_howMany_45 rfl 0 rfl ?_
    refine V_get (pc := 46) (v := .int (I 7)) C 0 6 7 hiX6_howMany_6 rfl rfl (by decide) wX6_howMany_k6 rfl dX6_howMany_46 ?_
    cases h
    subst hQ
    exact V_iretR C dX6_howMany_49
  replace h := t_neg e1_1 h
  by_cases e1_2 : p0 = 2
  · replace h := t_pos e1_2 h
    refine V_top (congrArg Value.int e1_2) ?_
    refine V_tableIn (pc := 1) C 50 dX6_howMany_1 (by decide) (by decide) rfl rfl ?_
    refine V_aload_n (pc := 50) C dX6_howMany_50 rfl 0 rfl ?_
    refine V_get (pc := 51) (v := .int (I 0)) C 0 6 0 hiX6_howMany_6 rfl rfl (by decide) wX6_howMany_k5 rfl dX6_howMany_51 ?_
    cases h
    subst hQ
    exact V_iretR C dX6_howMany_54
  replace h := t_neg e1_2 h
  by_cases e1_3 : p0 = 3
  · replace h := t_pos e1_3 h
    refine V_top (congrArg Value.int e1_3) ?_
    refine V_tableIn (pc := 1) C 55 dX6_howMany_1 (by decide) (by decide) rfl rfl ?_
    refine V_aload_n (pc := 55) C dX6_howMany_55 rfl 0 rfl ?_
    refine V_get (pc := 56) (v := .int (I 11)) C 0 6 11 hiX6_howMany_6 rfl rfl (by decide) wX6_howMany_k4 rfl dX6_howMany_56 ?_
    cases h
    subst hQ
    exact V_iretR C dX6_howMany_59
  replace h := t_neg e1_3 h
  by_cases e1_4 : p0 = 4
  · replace h := t_pos e1_4 h
    refine V_top (congrArg Value.int e1_4) ?_
    refine V_tableIn (pc := 1) C 60 dX6_howMany_1 (by decide) (by decide) rfl rfl ?_
    refine V_aload_n (pc := 60) C dX6_howMany_60 rfl 0 rfl ?_
    refine V_get (pc := 61) (v := .int (I 12)) C 0 6 12 hiX6_howMany_6 rfl rfl (by decide) wX6_howMany_k3 rfl dX6_howMany_61 ?_
    cases h
    subst hQ
    exact V_iretR C dX6_howMany_64
  replace h := t_neg e1_4 h
  by_cases e1_5 : p0 = 5
  · replace h := t_pos e1_5 h
    refine V_top (congrArg Value.int e1_5) ?_
    refine V_tableIn (pc := 1) C 65 dX6_howMany_1 (by decide) (by decide) rfl rfl ?_
    refine V_aload_n (pc := 65) C dX6_howMany_65 rfl 0 rfl ?_
    refine V_get (pc := 66) (v := .int (I 13)) C 0 6 13 hiX6_howMany_6 rfl rfl (by decide) wX6_howMany_k1 rfl dX6_howMany_66 ?_
    cases h
    subst hQ
    exact V_iretR C dX6_howMany_69
  replace h := t_neg e1_5 h
  have e1 : Int32.toInt p0 < 0 ∨ 5 < Int32.toInt p0 := by have n0 := lv_neT (a := 0) e1_0 rfl; have n1 := lv_neT (a := 1) e1_1 rfl; have n2 := lv_neT (a := 2) e1_2 rfl; have n3 := lv_neT (a := 3) e1_3 rfl; have n4 := lv_neT (a := 4) e1_4 rfl; have n5 := lv_neT (a := 5) e1_5 rfl; omega
  refine V_tableOut (pc := 1) C 70 dX6_howMany_1 e1 rfl ?_
  refine V_ldc (pc := 70) (v := -1000003) C dX6_howMany_70 wX6_howMany_k0 ?_
  cases h
  subst hQ
  exact V_iretR C dX6_howMany_72
def X6_count (I : Nat → Int32) (A : Nat → Nat → Int32) (F : Nat → Int64) (L : Nat → Nat → Int64) (p0 : Int32) : Option (Int32) :=
  ob1 (X6_howMany I A F L p0) fun r2 =>
  some r2
theorem hdX6_count : yX6_count.cls ≠ "java/lang/invoke/MethodHandle" ∧ yX6_count.cls ≠ "java/lang/invoke/VarHandle" ∧ (parseMethodDescriptor yX6_count.desc).map (fun d => d.parameters.length) = some 1 := by decide +kernel
set_option maxHeartbeats 4000000 in
set_option maxRecDepth 100000 in
theorem X6_count_ok {l : Launch} {D : va_G} {Y : Nat → ClassId} {a : Nat → Nat} {I : Nat → Int32} {A : Nat → Nat → Int32} {F : Nat → Int64} {L : Nat → Nat → Int64} {p0 : Int32} {r : Int32} (h : X6_count I A F L p0 = some r) : MR l yX6_count wsX6_count 1 21 D Y [.ref (a 0), .int p0] (wM Y a I A F L) (some (.int r)) := by
  refine MR_of (cc := cX6_count) (nL := 2) (ret := some .int) (lv0 := [(0, .ref (a 0)), (1, .int p0)]) (by decide) rfl (Nat.le_of_ble_eq_true rfl) rfl (fun X Q C hQ => ?_)
  unfold X6_count at h
  refine V_aload_n (pc := 0) C dX6_count_0 rfl 0 rfl ?_
  refine V_iload_n (pc := 1) C dX6_count_1 rfl 1 rfl ?_
  obtain ⟨r2, hq, h⟩ := ob1_some h
  refine V_callVR0 (pc := 2) (rest := []) (st2 := [.int r2]) C (X6_howMany_ok (a := a) hq) gX6_count_X6_howMany rfl ⟨rfl, hdX6_howMany⟩ ⟨Nat.le_of_ble_eq_true rfl, Nat.le_of_ble_eq_true rfl⟩ ⟨Nat.le_refl _, Nat.le_refl _⟩ 0 6 rfl rfl rfl (Nat.le_of_ble_eq_true rfl) dX6_count_2 rfl ?_
  cases h
  subst hQ
  exact V_iretR C dX6_count_5
def X6_mix (I : Nat → Int32) (A : Nat → Nat → Int32) (F : Nat → Int64) (L : Nat → Nat → Int64) (p0 : Int64) : Option (Int64) :=
  some (((31 : Int64) * (F 32)) + p0)
theorem wX6_mix_k0 : Cond.constantLong RX6 262 (31) ∈ wsX6_mix := by decide +kernel
theorem wX6_mix_k1 : Cond.fieldLink RX6 264 (TX6 32).1 (TX6 32).2.1 (TX6 32).2.2.1 ∈ wsX6_mix := by decide +kernel
theorem hiX6_mix_6 : ∀ w ∈ u_ws RX6 TX6 33, w ∈ wsX6_mix := fun _ h => List.mem_cons_of_mem _ (List.mem_append_right _ h)
theorem hdX6_mix : yX6_mix.cls ≠ "java/lang/invoke/MethodHandle" ∧ yX6_mix.cls ≠ "java/lang/invoke/VarHandle" ∧ (parseMethodDescriptor yX6_mix.desc).map (fun d => d.parameters.length) = some 1 := by decide +kernel
set_option maxHeartbeats 4000000 in
set_option maxRecDepth 100000 in
theorem X6_mix_ok {l : Launch} {D : va_G} {Y : Nat → ClassId} {a : Nat → Nat} {I : Nat → Int32} {A : Nat → Nat → Int32} {F : Nat → Int64} {L : Nat → Nat → Int64} {p0 : Int64} {uF32 : Int64} (h : X6_mix I A F L p0 = some uF32) : MW l yX6_mix wsX6_mix 0 0 D Y [.ref (a 0), .long p0] (wM Y a I A F L) (wM Y a I A (up F 32 uF32) L) none := by
  refine MW_of (cc := cX6_mix) (nL := 3) (ret := none) (lv0 := [(0, .ref (a 0)), (1, .long p0)]) (by decide) rfl (Nat.le_of_ble_eq_true rfl) rfl rfl (fun X Af Q C hA hQ => ?_)
  unfold X6_mix at h
  refine V_aload_n (pc := 0) C dX6_mix_0 rfl 0 rfl ?_
  refine V_ldc2 (pc := 1) (v := 31) C dX6_mix_1 wX6_mix_k0 ?_
  refine V_aload_n (pc := 4) C dX6_mix_4 rfl 0 rfl ?_
  refine V_get (pc := 5) (v := .long (F 32)) C 0 6 32 hiX6_mix_6 rfl rfl (by decide) wX6_mix_k1 rfl dX6_mix_5 ?_
  refine V_lmul (pc := 8) C dX6_mix_8 ?_
  refine V_lload_n (pc := 9) C dX6_mix_9 rfl 1 rfl ?_
  refine V_ladd (pc := 10) C dX6_mix_10 ?_
  refine V_put (pc := 11) (ws' := wM Y a I A (up F 32 (((31 : Int64) * (F 32)) + p0)) L) C 0 6 32 hiX6_mix_6 tyX6_ok nmX6 rfl rfl (by decide) wX6_mix_k1 rfl rfl rfl (Nat.le_of_ble_eq_true rfl) dX6_mix_11 rfl ?_
  cases h
  subst hQ
  exact V_vretW C dX6_mix_14
def X6_mixStorm (I : Nat → Int32) (A : Nat → Nat → Int32) (F : Nat → Int64) (L : Nat → Nat → Int64) (p0 : Int32) : Option (Int32 × (Nat → Int32) × Int64) :=
  jn1 (fun (mF32_47 : Int64) => ob3 (X6_dividedNow I A (up F 32 mF32_47) L p0 (0 : Int32)) fun r51 oI23_51 oA24_51 =>
  ob1 (X6_mix (up I 23 oI23_51) (up A 24 oA24_51) (up F 32 mF32_47) L (Int32.toInt64 r51)) fun oF32_55 =>
  wh4 (fun self61 (x2_61 : Int32) (mI23_61 : Int32) (mA24_61 : Nat → Int32) (mF32_61 : Int64) =>
  if (18 : Int32) ≤ x2_61 then (some (mI23_61, mA24_61, mF32_61)) else (ob3 (X6_dividedNow (up I 23 mI23_61) (up A 24 mA24_61) (up F 32 mF32_61) L p0 x2_61) fun r71 oI23_71 oA24_71 =>
  ob1 (X6_mix (up I 23 oI23_71) (up A 24 oA24_71) (up F 32 mF32_61) L (Int32.toInt64 r71)) fun oF32_75 =>
  self61 (x2_61 + 1) oI23_71 oA24_71 oF32_75)) 200 (10 : Int32) oI23_51 oA24_51 oF32_55) fun J47 =>
  wh2 (fun self2 (x2_2 : Int32) (mF32_2 : Int64) =>
  if (28 : Int32) ≤ x2_2 then (J47 mF32_2) else (jn1 (fun (mF32_41 : Int64) => self2 (x2_2 + 1) mF32_41) fun J41 =>
  jn0 (ob1 (X6_stormNow I A (up F 32 mF32_2) L p0 x2_2) fun r34 =>
  ob1 (X6_mix I A (up F 32 mF32_2) L (Int32.toInt64 r34)) fun oF32_38 =>
  J41 oF32_38) fun J30 =>
  if x2_2 < (4 : Int32) then (J30) else (ob1 (X6_within x2_2 (10 : Int32) (12 : Int32)) fun r18 =>
  if r18 = 0 then (if x2_2 ≤ (19 : Int32) then (J41 mF32_2) else (J30)) else (J30)))) 200 (0 : Int32) (F 32)
theorem hdX6_mixStorm : yX6_mixStorm.cls ≠ "java/lang/invoke/MethodHandle" ∧ yX6_mixStorm.cls ≠ "java/lang/invoke/VarHandle" ∧ (parseMethodDescriptor yX6_mixStorm.desc).map (fun d => d.parameters.length) = some 1 := by decide +kernel
set_option maxHeartbeats 4000000 in
set_option maxRecDepth 100000 in
theorem X6_mixStorm_ok {l : Launch} {D : va_G} {Y : Nat → ClassId} {a : Nat → Nat} {I : Nat → Int32} {A : Nat → Nat → Int32} {F : Nat → Int64} {L : Nat → Nat → Int64} {p0 : Int32} {uI23 : Int32} {uA24 : Nat → Int32} {uF32 : Int64} (h : X6_mixStorm I A F L p0 = some (uI23, uA24, uF32)) : MW l yX6_mixStorm wsX6_mixStorm 4 90 D Y [.ref (a 0), .int p0] (wM Y a I A F L) (wM Y a (up I 23 uI23) (up A 24 uA24) (up F 32 uF32) L) none := by
  refine MW_of (cc := cX6_mixStorm) (nL := 3) (ret := none) (lv0 := [(0, .ref (a 0)), (1, .int p0)]) (by decide) rfl (Nat.le_of_ble_eq_true rfl) rfl rfl (fun X Af Q C hA hQ => ?_)
  unfold X6_mixStorm at h
  refine V_iconst (pc := 0) (v := 0) C dX6_mixStorm_0 rfl ?_
  refine V_istore_n (pc := 1) (lv' := [(2, .int (0 : Int32)), (0, .ref (a 0)), (1, .int p0)]) C dX6_mixStorm_1 rfl (Nat.le_of_ble_eq_true rfl) rfl ?_
  refine jn1_ok (P := (fun (mF32_47 : Int64) => VW X D 3 Q (KM Af X) (0, 0) (wM Y a I A (up F 32 mF32_47) L) [(0, .ref (a 0)), (1, .int p0)] 47 [])) (fun mF32_47 h => ?_) (fun J47 hJ47 h => ?_) h
  · refine V_aload_n (pc := 47) C dX6_mixStorm_47 rfl 0 rfl ?_
    refine V_aload_n (pc := 48) C dX6_mixStorm_48 rfl 0 rfl ?_
    refine V_iload_n (pc := 49) C dX6_mixStorm_49 rfl 1 rfl ?_
    refine V_iconst (pc := 50) (v := 0) C dX6_mixStorm_50 rfl ?_
    obtain ⟨r51, oI23_51, oA24_51, hq, h⟩ := ob3_some h
    refine V_callVW0 (pc := 51) (rest := [.ref (a 0)]) (st2 := [.int r51, .ref (a 0)]) (ws' := wM Y a (up I 23 oI23_51) (up A 24 oA24_51) (up F 32 mF32_47) L) C hA (X6_dividedNow_ok (a := a) hq) gX6_mixStorm_X6_dividedNow rfl ⟨rfl, hdX6_dividedNow⟩ ⟨Nat.le_of_ble_eq_true rfl, Nat.le_of_ble_eq_true rfl⟩ ⟨Nat.le_refl _, Nat.le_refl _⟩ 0 6 rfl rfl rfl (Nat.le_of_ble_eq_true rfl) dX6_mixStorm_51 rfl rfl ?_
    refine V_i2l (pc := 54) C dX6_mixStorm_54 ?_
    obtain ⟨oF32_55, hq, h⟩ := ob1_some h
    refine V_callVW0 (pc := 55) (rest := []) (st2 := []) (ws' := wM Y a (up I 23 oI23_51) (up A 24 oA24_51) (up F 32 oF32_55) L) C hA (X6_mix_ok (a := a) hq) gX6_mixStorm_X6_mix rfl ⟨rfl, hdX6_mix⟩ ⟨Nat.le_of_ble_eq_true rfl, Nat.le_of_ble_eq_true rfl⟩ ⟨Nat.le_refl _, Nat.le_refl _⟩ 0 6 rfl rfl rfl (Nat.le_of_ble_eq_true rfl) dX6_mixStorm_55 rfl rfl ?_
    refine V_bipush (pc := 58) (v := 10) C dX6_mixStorm_58 rfl ?_
    refine V_istore_n (pc := 60) (lv' := [(2, .int (10 : Int32)), (0, .ref (a 0)), (1, .int p0)]) C dX6_mixStorm_60 rfl (Nat.le_of_ble_eq_true rfl) rfl ?_
    refine V_sub [1, 2, 0] rfl (wh4_ok (P := (fun (x2_61 : Int32) (mI23_61 : Int32) (mA24_61 : Nat → Int32) (mF32_61 : Int64) => VW X D 3 Q (KM Af X) (0, 0) (wM Y a (up I 23 mI23_61) (up A 24 mA24_61) (up F 32 mF32_61) L) [(0, .ref (a 0)), (1, .int p0), (2, .int x2_61)] 61 [])) (fun self61 ih61 x2_61 mI23_61 mA24_61 mF32_61 h => ?_) 200 _ _ _ _ h)
    refine V_iload_n (pc := 61) C dX6_mixStorm_61 rfl 2 rfl ?_
    refine V_bipush (pc := 62) (v := 18) C dX6_mixStorm_62 rfl ?_
    refine V_icmp_ge (pc := 64) C 84 dX6_mixStorm_64 rfl (fun c64 => ?_) (fun c64 => ?_)
    · replace h := t_pos c64 h
      cases h
      subst hQ
      exact V_vretW C dX6_mixStorm_84
    · replace h := t_neg c64 h
      refine V_aload_n (pc := 67) C dX6_mixStorm_67 rfl 0 rfl ?_
      refine V_aload_n (pc := 68) C dX6_mixStorm_68 rfl 0 rfl ?_
      refine V_iload_n (pc := 69) C dX6_mixStorm_69 rfl 1 rfl ?_
      refine V_iload_n (pc := 70) C dX6_mixStorm_70 rfl 2 rfl ?_
      obtain ⟨r71, oI23_71, oA24_71, hq, h⟩ := ob3_some h
      refine V_callVW0 (pc := 71) (rest := [.ref (a 0)]) (st2 := [.int r71, .ref (a 0)]) (ws' := wM Y a (up I 23 oI23_71) (up A 24 oA24_71) (up F 32 mF32_61) L) C hA (X6_dividedNow_ok (a := a) hq) gX6_mixStorm_X6_dividedNow rfl ⟨rfl, hdX6_dividedNow⟩ ⟨Nat.le_of_ble_eq_true rfl, Nat.le_of_ble_eq_true rfl⟩ ⟨Nat.le_refl _, Nat.le_refl _⟩ 0 6 rfl rfl rfl (Nat.le_of_ble_eq_true rfl) dX6_mixStorm_71 rfl rfl ?_
      refine V_i2l (pc := 74) C dX6_mixStorm_74 ?_
      obtain ⟨oF32_75, hq, h⟩ := ob1_some h
      refine V_callVW0 (pc := 75) (rest := []) (st2 := []) (ws' := wM Y a (up I 23 oI23_71) (up A 24 oA24_71) (up F 32 oF32_75) L) C hA (X6_mix_ok (a := a) hq) gX6_mixStorm_X6_mix rfl ⟨rfl, hdX6_mix⟩ ⟨Nat.le_of_ble_eq_true rfl, Nat.le_of_ble_eq_true rfl⟩ ⟨Nat.le_refl _, Nat.le_refl _⟩ 0 6 rfl rfl rfl (Nat.le_of_ble_eq_true rfl) dX6_mixStorm_75 rfl rfl ?_
      refine V_iinc (pc := 78) (v := (x2_61 + 1)) (lv' := [(2, .int (x2_61 + 1)), (0, .ref (a 0)), (1, .int p0)]) C dX6_mixStorm_78 2 rfl rfl (Nat.le_of_ble_eq_true rfl) rfl ?_
      refine V_goto (pc := 81) C 61 dX6_mixStorm_81 rfl ?_
      exact V_sub [1, 2, 0] rfl (ih61 _ _ _ _ h)
  refine V_sub [1, 2, 0] rfl (wh2_ok (P := (fun (x2_2 : Int32) (mF32_2 : Int64) => VW X D 3 Q (KM Af X) (0, 0) (wM Y a I A (up F 32 mF32_2) L) [(0, .ref (a 0)), (1, .int p0), (2, .int x2_2)] 2 [])) (fun self2 ih2 x2_2 mF32_2 h => ?_) 200 _ _ h)
  refine V_iload_n (pc := 2) C dX6_mixStorm_2 rfl 2 rfl ?_
  refine V_bipush (pc := 3) (v := 28) C dX6_mixStorm_3 rfl ?_
  refine V_icmp_ge (pc := 5) C 47 dX6_mixStorm_5 rfl (fun c5 => ?_) (fun c5 => ?_)
  · replace h := t_pos c5 h
    exact V_sub [0, 1] rfl (hJ47 _ h)
  · replace h := t_neg c5 h
    refine V_iload_n (pc := 8) C dX6_mixStorm_8 rfl 2 rfl ?_
    refine V_iconst (pc := 9) (v := 4) C dX6_mixStorm_9 rfl ?_
    refine jn1_ok (P := (fun (mF32_41 : Int64) => VW X D 3 Q (KM Af X) (0, 0) (wM Y a I A (up F 32 mF32_41) L) [(0, .ref (a 0)), (1, .int p0), (2, .int x2_2)] 41 [])) (fun mF32_41 h => ?_) (fun J41 hJ41 h => ?_) h
    · refine V_iinc (pc := 41) (v := (x2_2 + 1)) (lv' := [(2, .int (x2_2 + 1)), (0, .ref (a 0)), (1, .int p0)]) C dX6_mixStorm_41 2 rfl rfl (Nat.le_of_ble_eq_true rfl) rfl ?_
      refine V_goto (pc := 44) C 2 dX6_mixStorm_44 rfl ?_
      exact V_sub [1, 2, 0] rfl (ih2 _ _ h)
    refine jn0_ok (P := (VW X D 3 Q (KM Af X) (0, 0) (wM Y a I A (up F 32 mF32_2) L) [(0, .ref (a 0)), (1, .int p0), (2, .int x2_2)] 30 [])) (fun h => ?_) (fun J30 hJ30 h => ?_) h
    · refine V_aload_n (pc := 30) C dX6_mixStorm_30 rfl 0 rfl ?_
      refine V_aload_n (pc := 31) C dX6_mixStorm_31 rfl 0 rfl ?_
      refine V_iload_n (pc := 32) C dX6_mixStorm_32 rfl 1 rfl ?_
      refine V_iload_n (pc := 33) C dX6_mixStorm_33 rfl 2 rfl ?_
      obtain ⟨r34, hq, h⟩ := ob1_some h
      refine V_callVR0 (pc := 34) (rest := [.ref (a 0)]) (st2 := [.int r34, .ref (a 0)]) C (X6_stormNow_ok (a := a) hq) gX6_mixStorm_X6_stormNow rfl ⟨rfl, hdX6_stormNow⟩ ⟨Nat.le_of_ble_eq_true rfl, Nat.le_of_ble_eq_true rfl⟩ ⟨Nat.le_refl _, Nat.le_refl _⟩ 0 6 rfl rfl rfl (Nat.le_of_ble_eq_true rfl) dX6_mixStorm_34 rfl ?_
      refine V_i2l (pc := 37) C dX6_mixStorm_37 ?_
      obtain ⟨oF32_38, hq, h⟩ := ob1_some h
      refine V_callVW0 (pc := 38) (rest := []) (st2 := []) (ws' := wM Y a I A (up F 32 oF32_38) L) C hA (X6_mix_ok (a := a) hq) gX6_mixStorm_X6_mix rfl ⟨rfl, hdX6_mix⟩ ⟨Nat.le_of_ble_eq_true rfl, Nat.le_of_ble_eq_true rfl⟩ ⟨Nat.le_refl _, Nat.le_refl _⟩ 0 6 rfl rfl rfl (Nat.le_of_ble_eq_true rfl) dX6_mixStorm_38 rfl rfl ?_
      exact V_sub [0, 1, 2] rfl (hJ41 _ h)
    refine V_icmp_lt (pc := 10) C 30 dX6_mixStorm_10 rfl (fun c10 => ?_) (fun c10 => ?_)
    · replace h := t_pos c10 h
      exact V_sub [0, 1, 2] rfl (hJ30 h)
    · replace h := t_neg c10 h
      refine V_iload_n (pc := 13) C dX6_mixStorm_13 rfl 2 rfl ?_
      refine V_bipush (pc := 14) (v := 10) C dX6_mixStorm_14 rfl ?_
      refine V_bipush (pc := 16) (v := 12) C dX6_mixStorm_16 rfl ?_
      obtain ⟨r18, hq, h⟩ := ob1_some h
      refine V_callSR (pc := 18) (rest := []) (st2 := [.int r18]) C (X6_within_ok hq) gX6_mixStorm_X6_within rfl hdX6_within ⟨Nat.le_of_ble_eq_true rfl, Nat.le_of_ble_eq_true rfl⟩ ⟨Nat.le_refl _, Nat.le_refl _⟩ [] rfl rfl (Nat.le_of_ble_eq_true rfl) dX6_mixStorm_18 rfl ?_
      refine V_if_ne (pc := 21) C 30 dX6_mixStorm_21 rfl (fun c21 => ?_) (fun c21 => ?_)
      · replace h := t_neg c21 h
        exact V_sub [0, 1, 2] rfl (hJ30 h)
      · replace h := t_pos c21 h
        refine V_iload_n (pc := 24) C dX6_mixStorm_24 rfl 2 rfl ?_
        refine V_bipush (pc := 25) (v := 19) C dX6_mixStorm_25 rfl ?_
        refine V_icmp_le (pc := 27) C 41 dX6_mixStorm_27 rfl (fun c27 => ?_) (fun c27 => ?_)
        · replace h := t_pos c27 h
          exact V_sub [0, 1, 2] rfl (hJ41 _ h)
        · replace h := t_neg c27 h
          exact V_sub [0, 1, 2] rfl (hJ30 h)
def X6_mixUnits (I : Nat → Int32) (A : Nat → Nat → Int32) (F : Nat → Int64) (L : Nat → Nat → Int64) : Option (Int64) :=
  jn1 (fun (mF32_52 : Int64) => wh2 (fun self54 (x1_54 : Int32) (mF32_54 : Int64) =>
  if (I 7) ≤ x1_54 then (some mF32_54) else (jn1 (fun (mF32_89 : Int64) => self54 (x1_54 + 1) mF32_89) fun J89 =>
  wh2 (fun self64 (x2_64 : Int32) (mF32_64 : Int64) =>
  if (I 2) ≤ x2_64 then (J89 mF32_64) else (ob1 (X6_missedNow I A (up F 32 mF32_64) L x1_54 x2_64) fun r76 =>
  ob1 (X6_mix I A (up F 32 mF32_64) L (Int32.toInt64 r76)) fun oF32_80 =>
  self64 (x2_64 + 1) oF32_80)) 200 (0 : Int32) mF32_54)) 200 (0 : Int32) mF32_52) fun J52 =>
  wh2 (fun self2 (x1_2 : Int32) (mF32_2 : Int64) =>
  if (I 7) ≤ x1_2 then (J52 mF32_2) else (jn1 (fun (mF32_46 : Int64) => self2 (x1_2 + 1) mF32_46) fun J46 =>
  wh2 (fun self12 (x2_12 : Int32) (mF32_12 : Int64) =>
  if (18 : Int32) ≤ x2_12 then (J46 mF32_12) else (jn1 (fun (mF32_40 : Int64) => self12 (x2_12 + 1) mF32_40) fun J40 =>
  jn0 (ob1 (X6_unitNow I A (up F 32 mF32_12) L x1_2 x2_12) fun r33 =>
  ob1 (X6_mix I A (up F 32 mF32_12) L (Int32.toInt64 r33)) fun oF32_37 =>
  J40 oF32_37) fun J29 =>
  if x2_12 < (3 : Int32) then (J29) else (if x2_12 ≤ (9 : Int32) then (J40 mF32_12) else (J29)))) 200 (0 : Int32) mF32_2)) 200 (0 : Int32) (F 32)
theorem wX6_mixUnits_k0 : Cond.fieldLink RX6 117 (TX6 7).1 (TX6 7).2.1 (TX6 7).2.2.1 ∈ wsX6_mixUnits := by decide +kernel
theorem hiX6_mixUnits_6 : ∀ w ∈ u_ws RX6 TX6 33, w ∈ wsX6_mixUnits := fun _ h => List.mem_cons_of_mem _ (List.mem_append_right _ h)
theorem wX6_mixUnits_k2 : Cond.fieldLink RX6 114 (TX6 2).1 (TX6 2).2.1 (TX6 2).2.2.1 ∈ wsX6_mixUnits := by decide +kernel
theorem hdX6_mixUnits : yX6_mixUnits.cls ≠ "java/lang/invoke/MethodHandle" ∧ yX6_mixUnits.cls ≠ "java/lang/invoke/VarHandle" ∧ (parseMethodDescriptor yX6_mixUnits.desc).map (fun d => d.parameters.length) = some 0 := by decide +kernel
set_option maxHeartbeats 4000000 in
set_option maxRecDepth 100000 in
theorem X6_mixUnits_ok {l : Launch} {D : va_G} {Y : Nat → ClassId} {a : Nat → Nat} {I : Nat → Int32} {A : Nat → Nat → Int32} {F : Nat → Int64} {L : Nat → Nat → Int64} {uF32 : Int64} (h : X6_mixUnits I A F L = some uF32) : MW l yX6_mixUnits wsX6_mixUnits 4 94 D Y [.ref (a 0)] (wM Y a I A F L) (wM Y a I A (up F 32 uF32) L) none := by
  refine MW_of (cc := cX6_mixUnits) (nL := 3) (ret := none) (lv0 := [(0, .ref (a 0))]) (by decide) rfl (Nat.le_of_ble_eq_true rfl) rfl rfl (fun X Af Q C hA hQ => ?_)
  unfold X6_mixUnits at h
  refine V_iconst (pc := 0) (v := 0) C dX6_mixUnits_0 rfl ?_
  refine V_istore_n (pc := 1) (lv' := [(1, .int (0 : Int32)), (0, .ref (a 0))]) C dX6_mixUnits_1 rfl (Nat.le_of_ble_eq_true rfl) rfl ?_
  refine jn1_ok (P := (fun (mF32_52 : Int64) => VW X D 3 Q (KM Af X) (0, 0) (wM Y a I A (up F 32 mF32_52) L) [(0, .ref (a 0))] 52 [])) (fun mF32_52 h => ?_) (fun J52 hJ52 h => ?_) h
  · refine V_iconst (pc := 52) (v := 0) C dX6_mixUnits_52 rfl ?_
    refine V_istore_n (pc := 53) (lv' := [(1, .int (0 : Int32)), (0, .ref (a 0))]) C dX6_mixUnits_53 rfl (Nat.le_of_ble_eq_true rfl) rfl ?_
    refine V_sub [1, 0] rfl (wh2_ok (P := (fun (x1_54 : Int32) (mF32_54 : Int64) => VW X D 3 Q (KM Af X) (0, 0) (wM Y a I A (up F 32 mF32_54) L) [(0, .ref (a 0)), (1, .int x1_54)] 54 [])) (fun self54 ih54 x1_54 mF32_54 h => ?_) 200 _ _ h)
    refine V_iload_n (pc := 54) C dX6_mixUnits_54 rfl 1 rfl ?_
    refine V_aload_n (pc := 55) C dX6_mixUnits_55 rfl 0 rfl ?_
    refine V_get (pc := 56) (v := .int (I 7)) C 0 6 7 hiX6_mixUnits_6 rfl rfl (by decide) wX6_mixUnits_k0 rfl dX6_mixUnits_56 ?_
    refine V_icmp_ge (pc := 59) C 95 dX6_mixUnits_59 rfl (fun c59 => ?_) (fun c59 => ?_)
    · replace h := t_pos c59 h
      cases h
      subst hQ
      exact V_vretW C dX6_mixUnits_95
    · replace h := t_neg c59 h
      refine V_iconst (pc := 62) (v := 0) C dX6_mixUnits_62 rfl ?_
      refine V_istore_n (pc := 63) (lv' := [(2, .int (0 : Int32)), (0, .ref (a 0)), (1, .int x1_54)]) C dX6_mixUnits_63 rfl (Nat.le_of_ble_eq_true rfl) rfl ?_
      refine jn1_ok (P := (fun (mF32_89 : Int64) => VW X D 3 Q (KM Af X) (0, 0) (wM Y a I A (up F 32 mF32_89) L) [(0, .ref (a 0)), (1, .int x1_54)] 89 [])) (fun mF32_89 h => ?_) (fun J89 hJ89 h => ?_) h
      · refine V_iinc (pc := 89) (v := (x1_54 + 1)) (lv' := [(1, .int (x1_54 + 1)), (0, .ref (a 0))]) C dX6_mixUnits_89 1 rfl rfl (Nat.le_of_ble_eq_true rfl) rfl ?_
        refine V_goto (pc := 92) C 54 dX6_mixUnits_92 rfl ?_
        exact V_sub [1, 0] rfl (ih54 _ _ h)
      refine V_sub [1, 2, 0] rfl (wh2_ok (P := (fun (x2_64 : Int32) (mF32_64 : Int64) => VW X D 3 Q (KM Af X) (0, 0) (wM Y a I A (up F 32 mF32_64) L) [(0, .ref (a 0)), (1, .int x1_54), (2, .int x2_64)] 64 [])) (fun self64 ih64 x2_64 mF32_64 h => ?_) 200 _ _ h)
      refine V_iload_n (pc := 64) C dX6_mixUnits_64 rfl 2 rfl ?_
      refine V_aload_n (pc := 65) C dX6_mixUnits_65 rfl 0 rfl ?_
      refine V_get (pc := 66) (v := .int (I 2)) C 0 6 2 hiX6_mixUnits_6 rfl rfl (by decide) wX6_mixUnits_k2 rfl dX6_mixUnits_66 ?_
      refine V_icmp_ge (pc := 69) C 89 dX6_mixUnits_69 rfl (fun c69 => ?_) (fun c69 => ?_)
      · replace h := t_pos c69 h
        exact V_sub [0, 1] rfl (hJ89 _ h)
      · replace h := t_neg c69 h
        refine V_aload_n (pc := 72) C dX6_mixUnits_72 rfl 0 rfl ?_
        refine V_aload_n (pc := 73) C dX6_mixUnits_73 rfl 0 rfl ?_
        refine V_iload_n (pc := 74) C dX6_mixUnits_74 rfl 1 rfl ?_
        refine V_iload_n (pc := 75) C dX6_mixUnits_75 rfl 2 rfl ?_
        obtain ⟨r76, hq, h⟩ := ob1_some h
        refine V_callVR0 (pc := 76) (rest := [.ref (a 0)]) (st2 := [.int r76, .ref (a 0)]) C (X6_missedNow_ok (a := a) hq) gX6_mixUnits_X6_missedNow rfl ⟨rfl, hdX6_missedNow⟩ ⟨Nat.le_of_ble_eq_true rfl, Nat.le_of_ble_eq_true rfl⟩ ⟨Nat.le_refl _, Nat.le_refl _⟩ 0 6 rfl rfl rfl (Nat.le_of_ble_eq_true rfl) dX6_mixUnits_76 rfl ?_
        refine V_i2l (pc := 79) C dX6_mixUnits_79 ?_
        obtain ⟨oF32_80, hq, h⟩ := ob1_some h
        refine V_callVW0 (pc := 80) (rest := []) (st2 := []) (ws' := wM Y a I A (up F 32 oF32_80) L) C hA (X6_mix_ok (a := a) hq) gX6_mixUnits_X6_mix rfl ⟨rfl, hdX6_mix⟩ ⟨Nat.le_of_ble_eq_true rfl, Nat.le_of_ble_eq_true rfl⟩ ⟨Nat.le_refl _, Nat.le_refl _⟩ 0 6 rfl rfl rfl (Nat.le_of_ble_eq_true rfl) dX6_mixUnits_80 rfl rfl ?_
        refine V_iinc (pc := 83) (v := (x2_64 + 1)) (lv' := [(2, .int (x2_64 + 1)), (0, .ref (a 0)), (1, .int x1_54)]) C dX6_mixUnits_83 2 rfl rfl (Nat.le_of_ble_eq_true rfl) rfl ?_
        refine V_goto (pc := 86) C 64 dX6_mixUnits_86 rfl ?_
        exact V_sub [1, 2, 0] rfl (ih64 _ _ h)
  refine V_sub [1, 0] rfl (wh2_ok (P := (fun (x1_2 : Int32) (mF32_2 : Int64) => VW X D 3 Q (KM Af X) (0, 0) (wM Y a I A (up F 32 mF32_2) L) [(0, .ref (a 0)), (1, .int x1_2)] 2 [])) (fun self2 ih2 x1_2 mF32_2 h => ?_) 200 _ _ h)
  refine V_iload_n (pc := 2) C dX6_mixUnits_2 rfl 1 rfl ?_
  refine V_aload_n (pc := 3) C dX6_mixUnits_3 rfl 0 rfl ?_
  refine V_get (pc := 4) (v := .int (I 7)) C 0 6 7 hiX6_mixUnits_6 rfl rfl (by decide) wX6_mixUnits_k0 rfl dX6_mixUnits_4 ?_
  refine V_icmp_ge (pc := 7) C 52 dX6_mixUnits_7 rfl (fun c7 => ?_) (fun c7 => ?_)
  · replace h := t_pos c7 h
    exact V_sub [0] rfl (hJ52 _ h)
  · replace h := t_neg c7 h
    refine V_iconst (pc := 10) (v := 0) C dX6_mixUnits_10 rfl ?_
    refine V_istore_n (pc := 11) (lv' := [(2, .int (0 : Int32)), (0, .ref (a 0)), (1, .int x1_2)]) C dX6_mixUnits_11 rfl (Nat.le_of_ble_eq_true rfl) rfl ?_
    refine jn1_ok (P := (fun (mF32_46 : Int64) => VW X D 3 Q (KM Af X) (0, 0) (wM Y a I A (up F 32 mF32_46) L) [(0, .ref (a 0)), (1, .int x1_2)] 46 [])) (fun mF32_46 h => ?_) (fun J46 hJ46 h => ?_) h
    · refine V_iinc (pc := 46) (v := (x1_2 + 1)) (lv' := [(1, .int (x1_2 + 1)), (0, .ref (a 0))]) C dX6_mixUnits_46 1 rfl rfl (Nat.le_of_ble_eq_true rfl) rfl ?_
      refine V_goto (pc := 49) C 2 dX6_mixUnits_49 rfl ?_
      exact V_sub [1, 0] rfl (ih2 _ _ h)
    refine V_sub [1, 2, 0] rfl (wh2_ok (P := (fun (x2_12 : Int32) (mF32_12 : Int64) => VW X D 3 Q (KM Af X) (0, 0) (wM Y a I A (up F 32 mF32_12) L) [(0, .ref (a 0)), (1, .int x1_2), (2, .int x2_12)] 12 [])) (fun self12 ih12 x2_12 mF32_12 h => ?_) 200 _ _ h)
    refine V_iload_n (pc := 12) C dX6_mixUnits_12 rfl 2 rfl ?_
    refine V_bipush (pc := 13) (v := 18) C dX6_mixUnits_13 rfl ?_
    refine V_icmp_ge (pc := 15) C 46 dX6_mixUnits_15 rfl (fun c15 => ?_) (fun c15 => ?_)
    · replace h := t_pos c15 h
      exact V_sub [0, 1] rfl (hJ46 _ h)
    · replace h := t_neg c15 h
      refine V_iload_n (pc := 18) C dX6_mixUnits_18 rfl 2 rfl ?_
      refine V_iconst (pc := 19) (v := 3) C dX6_mixUnits_19 rfl ?_
      refine jn1_ok (P := (fun (mF32_40 : Int64) => VW X D 3 Q (KM Af X) (0, 0) (wM Y a I A (up F 32 mF32_40) L) [(0, .ref (a 0)), (1, .int x1_2), (2, .int x2_12)] 40 [])) (fun mF32_40 h => ?_) (fun J40 hJ40 h => ?_) h
      · refine V_iinc (pc := 40) (v := (x2_12 + 1)) (lv' := [(2, .int (x2_12 + 1)), (0, .ref (a 0)), (1, .int x1_2)]) C dX6_mixUnits_40 2 rfl rfl (Nat.le_of_ble_eq_true rfl) rfl ?_
        refine V_goto (pc := 43) C 12 dX6_mixUnits_43 rfl ?_
        exact V_sub [1, 2, 0] rfl (ih12 _ _ h)
      refine jn0_ok (P := (VW X D 3 Q (KM Af X) (0, 0) (wM Y a I A (up F 32 mF32_12) L) [(0, .ref (a 0)), (1, .int x1_2), (2, .int x2_12)] 29 [])) (fun h => ?_) (fun J29 hJ29 h => ?_) h
      · refine V_aload_n (pc := 29) C dX6_mixUnits_29 rfl 0 rfl ?_
        refine V_aload_n (pc := 30) C dX6_mixUnits_30 rfl 0 rfl ?_
        refine V_iload_n (pc := 31) C dX6_mixUnits_31 rfl 1 rfl ?_
        refine V_iload_n (pc := 32) C dX6_mixUnits_32 rfl 2 rfl ?_
        obtain ⟨r33, hq, h⟩ := ob1_some h
        refine V_callVR0 (pc := 33) (rest := [.ref (a 0)]) (st2 := [.int r33, .ref (a 0)]) C (X6_unitNow_ok (a := a) hq) gX6_mixUnits_X6_unitNow rfl ⟨rfl, hdX6_unitNow⟩ ⟨Nat.le_of_ble_eq_true rfl, Nat.le_of_ble_eq_true rfl⟩ ⟨Nat.le_refl _, Nat.le_refl _⟩ 0 6 rfl rfl rfl (Nat.le_of_ble_eq_true rfl) dX6_mixUnits_33 rfl ?_
        refine V_i2l (pc := 36) C dX6_mixUnits_36 ?_
        obtain ⟨oF32_37, hq, h⟩ := ob1_some h
        refine V_callVW0 (pc := 37) (rest := []) (st2 := []) (ws' := wM Y a I A (up F 32 oF32_37) L) C hA (X6_mix_ok (a := a) hq) gX6_mixUnits_X6_mix rfl ⟨rfl, hdX6_mix⟩ ⟨Nat.le_of_ble_eq_true rfl, Nat.le_of_ble_eq_true rfl⟩ ⟨Nat.le_refl _, Nat.le_refl _⟩ 0 6 rfl rfl rfl (Nat.le_of_ble_eq_true rfl) dX6_mixUnits_37 rfl rfl ?_
        exact V_sub [0, 1, 2] rfl (hJ40 _ h)
      refine V_icmp_lt (pc := 20) C 29 dX6_mixUnits_20 rfl (fun c20 => ?_) (fun c20 => ?_)
      · replace h := t_pos c20 h
        exact V_sub [0, 1, 2] rfl (hJ29 h)
      · replace h := t_neg c20 h
        refine V_iload_n (pc := 23) C dX6_mixUnits_23 rfl 2 rfl ?_
        refine V_bipush (pc := 24) (v := 9) C dX6_mixUnits_24 rfl ?_
        refine V_icmp_le (pc := 26) C 40 dX6_mixUnits_26 rfl (fun c26 => ?_) (fun c26 => ?_)
        · replace h := t_pos c26 h
          exact V_sub [0, 1, 2] rfl (hJ40 _ h)
        · replace h := t_neg c26 h
          exact V_sub [0, 1, 2] rfl (hJ29 h)
def X6_mixBest (I : Nat → Int32) (A : Nat → Nat → Int32) (F : Nat → Int64) (L : Nat → Nat → Int64) (p0 : Int32) : Option ((Nat → Int64) × (Nat → Int64) × Int64 × (Nat → Int64) × (Nat → Int32) × Int64 × (Nat → Int64) × Int64) :=
  wh9 (fun self2 (x2_2 : Int32) (mL25_2 : Nat → Int64) (mL26_2 : Nat → Int64) (mF27_2 : Int64) (mL28_2 : Nat → Int64) (mA29_2 : Nat → Int32) (mF30_2 : Int64) (mL31_2 : Nat → Int64) (mF32_2 : Int64) =>
  if (4 : Int32) < x2_2 then (some (mL25_2, mL26_2, mF27_2, mL28_2, mA29_2, mF30_2, mL31_2, mF32_2)) else (jn8 (fun (mL25_44 : Nat → Int64) (mL26_44 : Nat → Int64) (mF27_44 : Int64) (mL28_44 : Nat → Int64) (mA29_44 : Nat → Int32) (mF30_44 : Int64) (mL31_44 : Nat → Int64) (mF32_44 : Int64) => ob8 (X6_lossNow I (up A 29 mA29_44) (up (up (up F 27 mF27_44) 30 mF30_44) 32 mF32_44) (up (up (up (up L 25 mL25_44) 26 mL26_44) 28 mL28_44) 31 mL31_44) p0 x2_2 (0 : Int32)) fun r49 oL25_49 oL26_49 oF27_49 oL28_49 oA29_49 oF30_49 oL31_49 =>
  ob1 (X6_mix I (up A 29 oA29_49) (up (up (up F 27 oF27_49) 30 oF30_49) 32 mF32_44) (up (up (up (up L 25 oL25_49) 26 oL26_49) 28 oL28_49) 31 oL31_49) r49) fun oF32_52 =>
  ob8 (X6_lossNow I (up A 29 oA29_49) (up (up (up F 27 oF27_49) 30 oF30_49) 32 oF32_52) (up (up (up (up L 25 oL25_49) 26 oL26_49) 28 oL28_49) 31 oL31_49) p0 x2_2 (1 : Int32)) fun r60 oL25_60 oL26_60 oF27_60 oL28_60 oA29_60 oF30_60 oL31_60 =>
  ob1 (X6_mix I (up A 29 oA29_60) (up (up (up F 27 oF27_60) 30 oF30_60) 32 oF32_52) (up (up (up (up L 25 oL25_60) 26 oL26_60) 28 oL28_60) 31 oL31_60) r60) fun oF32_63 =>
  self2 (x2_2 + 1) oL25_60 oL26_60 oF27_60 oL28_60 oA29_60 oF30_60 oL31_60 oF32_63) fun J44 =>
  wh9 (fun self9 (x3_9 : Int32) (mL25_9 : Nat → Int64) (mL26_9 : Nat → Int64) (mF27_9 : Int64) (mL28_9 : Nat → Int64) (mA29_9 : Nat → Int32) (mF30_9 : Int64) (mL31_9 : Nat → Int64) (mF32_9 : Int64) =>
  if x2_2 ≤ x3_9 then (J44 mL25_9 mL26_9 mF27_9 mL28_9 mA29_9 mF30_9 mL31_9 mF32_9) else (ob8 (X6_bestNow I (up A 29 mA29_9) (up (up (up F 27 mF27_9) 30 mF30_9) 32 mF32_9) (up (up (up (up L 25 mL25_9) 26 mL26_9) 28 mL28_9) 31 mL31_9) p0 x2_2 x3_9 (0 : Int32)) fun r20 oL25_20 oL26_20 oF27_20 oL28_20 oA29_20 oF30_20 oL31_20 =>
  ob1 (X6_mix I (up A 29 oA29_20) (up (up (up F 27 oF27_20) 30 oF30_20) 32 mF32_9) (up (up (up (up L 25 oL25_20) 26 oL26_20) 28 oL28_20) 31 oL31_20) r20) fun oF32_23 =>
  ob8 (X6_bestNow I (up A 29 oA29_20) (up (up (up F 27 oF27_20) 30 oF30_20) 32 oF32_23) (up (up (up (up L 25 oL25_20) 26 oL26_20) 28 oL28_20) 31 oL31_20) p0 x2_2 x3_9 (1 : Int32)) fun r32 oL25_32 oL26_32 oF27_32 oL28_32 oA29_32 oF30_32 oL31_32 =>
  ob1 (X6_mix I (up A 29 oA29_32) (up (up (up F 27 oF27_32) 30 oF30_32) 32 oF32_23) (up (up (up (up L 25 oL25_32) 26 oL26_32) 28 oL28_32) 31 oL31_32) r32) fun oF32_35 =>
  self9 (x3_9 + 1) oL25_32 oL26_32 oF27_32 oL28_32 oA29_32 oF30_32 oL31_32 oF32_35)) 200 (0 : Int32) mL25_2 mL26_2 mF27_2 mL28_2 mA29_2 mF30_2 mL31_2 mF32_2)) 200 (1 : Int32) (L 25) (L 26) (F 27) (L 28) (A 29) (F 30) (L 31) (F 32)
theorem hdX6_mixBest : yX6_mixBest.cls ≠ "java/lang/invoke/MethodHandle" ∧ yX6_mixBest.cls ≠ "java/lang/invoke/VarHandle" ∧ (parseMethodDescriptor yX6_mixBest.desc).map (fun d => d.parameters.length) = some 1 := by decide +kernel
set_option maxHeartbeats 4000000 in
set_option maxRecDepth 100000 in
theorem X6_mixBest_ok {l : Launch} {D : va_G} {Y : Nat → ClassId} {a : Nat → Nat} {I : Nat → Int32} {A : Nat → Nat → Int32} {F : Nat → Int64} {L : Nat → Nat → Int64} {p0 : Int32} {uL25 : Nat → Int64} {uL26 : Nat → Int64} {uF27 : Int64} {uL28 : Nat → Int64} {uA29 : Nat → Int32} {uF30 : Int64} {uL31 : Nat → Int64} {uF32 : Int64} (h : X6_mixBest I A F L p0 = some (uL25, uL26, uF27, uL28, uA29, uF30, uL31, uF32)) : MW l yX6_mixBest wsX6_mixBest 5 118 D Y [.ref (a 0), .int p0] (wM Y a I A F L) (wM Y a I (up A 29 uA29) (up (up (up F 27 uF27) 30 uF30) 32 uF32) (up (up (up (up L 25 uL25) 26 uL26) 28 uL28) 31 uL31)) none := by
  refine MW_of (cc := cX6_mixBest) (nL := 4) (ret := none) (lv0 := [(0, .ref (a 0)), (1, .int p0)]) (by decide) rfl (Nat.le_of_ble_eq_true rfl) rfl rfl (fun X Af Q C hA hQ => ?_)
  unfold X6_mixBest at h
  refine V_iconst (pc := 0) (v := 1) C dX6_mixBest_0 rfl ?_
  refine V_istore_n (pc := 1) (lv' := [(2, .int (1 : Int32)), (0, .ref (a 0)), (1, .int p0)]) C dX6_mixBest_1 rfl (Nat.le_of_ble_eq_true rfl) rfl ?_
  refine V_sub [1, 2, 0] rfl (wh9_ok (P := (fun (x2_2 : Int32) (mL25_2 : Nat → Int64) (mL26_2 : Nat → Int64) (mF27_2 : Int64) (mL28_2 : Nat → Int64) (mA29_2 : Nat → Int32) (mF30_2 : Int64) (mL31_2 : Nat → Int64) (mF32_2 : Int64) => VW X D 4 Q (KM Af X) (0, 0) (wM Y a I (up A 29 mA29_2) (up (up (up F 27 mF27_2) 30 mF30_2) 32 mF32_2) (up (up (up (up L 25 mL25_2) 26 mL26_2) 28 mL28_2) 31 mL31_2)) [(0, .ref (a 0)), (1, .int p0), (2, .int x2_2)] 2 [])) (fun self2 ih2 x2_2 mL25_2 mL26_2 mF27_2 mL28_2 mA29_2 mF30_2 mL31_2 mF32_2 h => ?_) 200 _ _ _ _ _ _ _ _ _ h)
  refine V_iload_n (pc := 2) C dX6_mixBest_2 rfl 2 rfl ?_
  refine V_iconst (pc := 3) (v := 4) C dX6_mixBest_3 rfl ?_
  refine V_icmp_gt (pc := 4) C 72 dX6_mixBest_4 rfl (fun c4 => ?_) (fun c4 => ?_)
  · replace h := t_pos c4 h
    cases h
    subst hQ
    exact V_vretW C dX6_mixBest_72
  · replace h := t_neg c4 h
    refine V_iconst (pc := 7) (v := 0) C dX6_mixBest_7 rfl ?_
    refine V_istore_n (pc := 8) (lv' := [(3, .int (0 : Int32)), (0, .ref (a 0)), (1, .int p0), (2, .int x2_2)]) C dX6_mixBest_8 rfl (Nat.le_of_ble_eq_true rfl) rfl ?_
    refine jn8_ok (P := (fun (mL25_44 : Nat → Int64) (mL26_44 : Nat → Int64) (mF27_44 : Int64) (mL28_44 : Nat → Int64) (mA29_44 : Nat → Int32) (mF30_44 : Int64) (mL31_44 : Nat → Int64) (mF32_44 : Int64) => VW X D 4 Q (KM Af X) (0, 0) (wM Y a I (up A 29 mA29_44) (up (up (up F 27 mF27_44) 30 mF30_44) 32 mF32_44) (up (up (up (up L 25 mL25_44) 26 mL26_44) 28 mL28_44) 31 mL31_44)) [(0, .ref (a 0)), (1, .int p0), (2, .int x2_2)] 44 [])) (fun mL25_44 mL26_44 mF27_44 mL28_44 mA29_44 mF30_44 mL31_44 mF32_44 h => ?_) (fun J44 hJ44 h => ?_) h
    · refine V_aload_n (pc := 44) C dX6_mixBest_44 rfl 0 rfl ?_
      refine V_aload_n (pc := 45) C dX6_mixBest_45 rfl 0 rfl ?_
      refine V_iload_n (pc := 46) C dX6_mixBest_46 rfl 1 rfl ?_
      refine V_iload_n (pc := 47) C dX6_mixBest_47 rfl 2 rfl ?_
      refine V_iconst (pc := 48) (v := 0) C dX6_mixBest_48 rfl ?_
      obtain ⟨r49, oL25_49, oL26_49, oF27_49, oL28_49, oA29_49, oF30_49, oL31_49, hq, h⟩ := ob8_some h
      refine V_callVW0 (pc := 49) (rest := [.ref (a 0)]) (st2 := [.long r49, .ref (a 0)]) (ws' := wM Y a I (up A 29 oA29_49) (up (up (up F 27 oF27_49) 30 oF30_49) 32 mF32_44) (up (up (up (up L 25 oL25_49) 26 oL26_49) 28 oL28_49) 31 oL31_49)) C hA (X6_lossNow_ok (a := a) hq) gX6_mixBest_X6_lossNow rfl ⟨rfl, hdX6_lossNow⟩ ⟨Nat.le_of_ble_eq_true rfl, Nat.le_of_ble_eq_true rfl⟩ ⟨Nat.le_refl _, Nat.le_refl _⟩ 0 6 rfl rfl rfl (Nat.le_of_ble_eq_true rfl) dX6_mixBest_49 rfl rfl ?_
      obtain ⟨oF32_52, hq, h⟩ := ob1_some h
      refine V_callVW0 (pc := 52) (rest := []) (st2 := []) (ws' := wM Y a I (up A 29 oA29_49) (up (up (up F 27 oF27_49) 30 oF30_49) 32 oF32_52) (up (up (up (up L 25 oL25_49) 26 oL26_49) 28 oL28_49) 31 oL31_49)) C hA (X6_mix_ok (a := a) hq) gX6_mixBest_X6_mix rfl ⟨rfl, hdX6_mix⟩ ⟨Nat.le_of_ble_eq_true rfl, Nat.le_of_ble_eq_true rfl⟩ ⟨Nat.le_refl _, Nat.le_refl _⟩ 0 6 rfl rfl rfl (Nat.le_of_ble_eq_true rfl) dX6_mixBest_52 rfl rfl ?_
      refine V_aload_n (pc := 55) C dX6_mixBest_55 rfl 0 rfl ?_
      refine V_aload_n (pc := 56) C dX6_mixBest_56 rfl 0 rfl ?_
      refine V_iload_n (pc := 57) C dX6_mixBest_57 rfl 1 rfl ?_
      refine V_iload_n (pc := 58) C dX6_mixBest_58 rfl 2 rfl ?_
      refine V_iconst (pc := 59) (v := 1) C dX6_mixBest_59 rfl ?_
      obtain ⟨r60, oL25_60, oL26_60, oF27_60, oL28_60, oA29_60, oF30_60, oL31_60, hq, h⟩ := ob8_some h
      refine V_callVW0 (pc := 60) (rest := [.ref (a 0)]) (st2 := [.long r60, .ref (a 0)]) (ws' := wM Y a I (up A 29 oA29_60) (up (up (up F 27 oF27_60) 30 oF30_60) 32 oF32_52) (up (up (up (up L 25 oL25_60) 26 oL26_60) 28 oL28_60) 31 oL31_60)) C hA (X6_lossNow_ok (a := a) hq) gX6_mixBest_X6_lossNow rfl ⟨rfl, hdX6_lossNow⟩ ⟨Nat.le_of_ble_eq_true rfl, Nat.le_of_ble_eq_true rfl⟩ ⟨Nat.le_refl _, Nat.le_refl _⟩ 0 6 rfl rfl rfl (Nat.le_of_ble_eq_true rfl) dX6_mixBest_60 rfl rfl ?_
      obtain ⟨oF32_63, hq, h⟩ := ob1_some h
      refine V_callVW0 (pc := 63) (rest := []) (st2 := []) (ws' := wM Y a I (up A 29 oA29_60) (up (up (up F 27 oF27_60) 30 oF30_60) 32 oF32_63) (up (up (up (up L 25 oL25_60) 26 oL26_60) 28 oL28_60) 31 oL31_60)) C hA (X6_mix_ok (a := a) hq) gX6_mixBest_X6_mix rfl ⟨rfl, hdX6_mix⟩ ⟨Nat.le_of_ble_eq_true rfl, Nat.le_of_ble_eq_true rfl⟩ ⟨Nat.le_refl _, Nat.le_refl _⟩ 0 6 rfl rfl rfl (Nat.le_of_ble_eq_true rfl) dX6_mixBest_63 rfl rfl ?_
      refine V_iinc (pc := 66) (v := (x2_2 + 1)) (lv' := [(2, .int (x2_2 + 1)), (0, .ref (a 0)), (1, .int p0)]) C dX6_mixBest_66 2 rfl rfl (Nat.le_of_ble_eq_true rfl) rfl ?_
      refine V_goto (pc := 69) C 2 dX6_mixBest_69 rfl ?_
      exact V_sub [1, 2, 0] rfl (ih2 _ _ _ _ _ _ _ _ _ h)
    refine V_sub [1, 2, 3, 0] rfl (wh9_ok (P := (fun (x3_9 : Int32) (mL25_9 : Nat → Int64) (mL26_9 : Nat → Int64) (mF27_9 : Int64) (mL28_9 : Nat → Int64) (mA29_9 : Nat → Int32) (mF30_9 : Int64) (mL31_9 : Nat → Int64) (mF32_9 : Int64) => VW X D 4 Q (KM Af X) (0, 0) (wM Y a I (up A 29 mA29_9) (up (up (up F 27 mF27_9) 30 mF30_9) 32 mF32_9) (up (up (up (up L 25 mL25_9) 26 mL26_9) 28 mL28_9) 31 mL31_9)) [(0, .ref (a 0)), (1, .int p0), (2, .int x2_2), (3, .int x3_9)] 9 [])) (fun self9 ih9 x3_9 mL25_9 mL26_9 mF27_9 mL28_9 mA29_9 mF30_9 mL31_9 mF32_9 h => ?_) 200 _ _ _ _ _ _ _ _ _ h)
    refine V_iload_n (pc := 9) C dX6_mixBest_9 rfl 3 rfl ?_
    refine V_iload_n (pc := 10) C dX6_mixBest_10 rfl 2 rfl ?_
    refine V_icmp_ge (pc := 11) C 44 dX6_mixBest_11 rfl (fun c11 => ?_) (fun c11 => ?_)
    · replace h := t_pos c11 h
      exact V_sub [0, 1, 2] rfl (hJ44 _ _ _ _ _ _ _ _ h)
    · replace h := t_neg c11 h
      refine V_aload_n (pc := 14) C dX6_mixBest_14 rfl 0 rfl ?_
      refine V_aload_n (pc := 15) C dX6_mixBest_15 rfl 0 rfl ?_
      refine V_iload_n (pc := 16) C dX6_mixBest_16 rfl 1 rfl ?_
      refine V_iload_n (pc := 17) C dX6_mixBest_17 rfl 2 rfl ?_
      refine V_iload_n (pc := 18) C dX6_mixBest_18 rfl 3 rfl ?_
      refine V_iconst (pc := 19) (v := 0) C dX6_mixBest_19 rfl ?_
      obtain ⟨r20, oL25_20, oL26_20, oF27_20, oL28_20, oA29_20, oF30_20, oL31_20, hq, h⟩ := ob8_some h
      refine V_callVW0 (pc := 20) (rest := [.ref (a 0)]) (st2 := [.long r20, .ref (a 0)]) (ws' := wM Y a I (up A 29 oA29_20) (up (up (up F 27 oF27_20) 30 oF30_20) 32 mF32_9) (up (up (up (up L 25 oL25_20) 26 oL26_20) 28 oL28_20) 31 oL31_20)) C hA (X6_bestNow_ok (a := a) hq) gX6_mixBest_X6_bestNow rfl ⟨rfl, hdX6_bestNow⟩ ⟨Nat.le_of_ble_eq_true rfl, Nat.le_of_ble_eq_true rfl⟩ ⟨Nat.le_refl _, Nat.le_refl _⟩ 0 6 rfl rfl rfl (Nat.le_of_ble_eq_true rfl) dX6_mixBest_20 rfl rfl ?_
      obtain ⟨oF32_23, hq, h⟩ := ob1_some h
      refine V_callVW0 (pc := 23) (rest := []) (st2 := []) (ws' := wM Y a I (up A 29 oA29_20) (up (up (up F 27 oF27_20) 30 oF30_20) 32 oF32_23) (up (up (up (up L 25 oL25_20) 26 oL26_20) 28 oL28_20) 31 oL31_20)) C hA (X6_mix_ok (a := a) hq) gX6_mixBest_X6_mix rfl ⟨rfl, hdX6_mix⟩ ⟨Nat.le_of_ble_eq_true rfl, Nat.le_of_ble_eq_true rfl⟩ ⟨Nat.le_refl _, Nat.le_refl _⟩ 0 6 rfl rfl rfl (Nat.le_of_ble_eq_true rfl) dX6_mixBest_23 rfl rfl ?_
      refine V_aload_n (pc := 26) C dX6_mixBest_26 rfl 0 rfl ?_
      refine V_aload_n (pc := 27) C dX6_mixBest_27 rfl 0 rfl ?_
      refine V_iload_n (pc := 28) C dX6_mixBest_28 rfl 1 rfl ?_
      refine V_iload_n (pc := 29) C dX6_mixBest_29 rfl 2 rfl ?_
      refine V_iload_n (pc := 30) C dX6_mixBest_30 rfl 3 rfl ?_
      refine V_iconst (pc := 31) (v := 1) C dX6_mixBest_31 rfl ?_
      obtain ⟨r32, oL25_32, oL26_32, oF27_32, oL28_32, oA29_32, oF30_32, oL31_32, hq, h⟩ := ob8_some h
      refine V_callVW0 (pc := 32) (rest := [.ref (a 0)]) (st2 := [.long r32, .ref (a 0)]) (ws' := wM Y a I (up A 29 oA29_32) (up (up (up F 27 oF27_32) 30 oF30_32) 32 oF32_23) (up (up (up (up L 25 oL25_32) 26 oL26_32) 28 oL28_32) 31 oL31_32)) C hA (X6_bestNow_ok (a := a) hq) gX6_mixBest_X6_bestNow rfl ⟨rfl, hdX6_bestNow⟩ ⟨Nat.le_of_ble_eq_true rfl, Nat.le_of_ble_eq_true rfl⟩ ⟨Nat.le_refl _, Nat.le_refl _⟩ 0 6 rfl rfl rfl (Nat.le_of_ble_eq_true rfl) dX6_mixBest_32 rfl rfl ?_
      obtain ⟨oF32_35, hq, h⟩ := ob1_some h
      refine V_callVW0 (pc := 35) (rest := []) (st2 := []) (ws' := wM Y a I (up A 29 oA29_32) (up (up (up F 27 oF27_32) 30 oF30_32) 32 oF32_35) (up (up (up (up L 25 oL25_32) 26 oL26_32) 28 oL28_32) 31 oL31_32)) C hA (X6_mix_ok (a := a) hq) gX6_mixBest_X6_mix rfl ⟨rfl, hdX6_mix⟩ ⟨Nat.le_of_ble_eq_true rfl, Nat.le_of_ble_eq_true rfl⟩ ⟨Nat.le_refl _, Nat.le_refl _⟩ 0 6 rfl rfl rfl (Nat.le_of_ble_eq_true rfl) dX6_mixBest_35 rfl rfl ?_
      refine V_iinc (pc := 38) (v := (x3_9 + 1)) (lv' := [(3, .int (x3_9 + 1)), (0, .ref (a 0)), (1, .int p0), (2, .int x2_2)]) C dX6_mixBest_38 3 rfl rfl (Nat.le_of_ble_eq_true rfl) rfl ?_
      refine V_goto (pc := 41) C 9 dX6_mixBest_41 rfl ?_
      exact V_sub [1, 2, 3, 0] rfl (ih9 _ _ _ _ _ _ _ _ _ h)
def X6_digest (I : Nat → Int32) (A : Nat → Nat → Int32) (F : Nat → Int64) (L : Nat → Nat → Int64) : Option (Int64 × Int32 × (Nat → Int32) × (Nat → Int64) × (Nat → Int64) × Int64 × (Nat → Int64) × (Nat → Int32) × Int64 × (Nat → Int64) × Int64) :=
  jn3 (fun (mI23_28 : Int32) (mA24_28 : Nat → Int32) (mF32_28 : Int64) => ob1 (X6_mixUnits (up I 23 mI23_28) (up A 24 mA24_28) (up F 32 mF32_28) L) fun oF32_29 =>
  jn8 (fun (mL25_51 : Nat → Int64) (mL26_51 : Nat → Int64) (mF27_51 : Int64) (mL28_51 : Nat → Int64) (mA29_51 : Nat → Int32) (mF30_51 : Int64) (mL31_51 : Nat → Int64) (mF32_51 : Int64) => jn1 (fun (mF32_78 : Int64) => jn1 (fun (mF32_102 : Int64) => some (mF32_102, mI23_28, mA24_28, mL25_51, mL26_51, mF27_51, mL28_51, mA29_51, mF30_51, mL31_51, mF32_102)) fun J102 =>
  wh2 (fun self80 (x1_80 : Int32) (mF32_80 : Int64) =>
  if (6 : Int32) ≤ x1_80 then (J102 mF32_80) else (ob1 (X6_howMany (up I 23 mI23_28) (up (up A 24 mA24_28) 29 mA29_51) (up (up (up F 32 mF32_80) 27 mF27_51) 30 mF30_51) (up (up (up (up L 25 mL25_51) 26 mL26_51) 28 mL28_51) 31 mL31_51) x1_80) fun r89 =>
  ob1 (X6_mix (up I 23 mI23_28) (up (up A 24 mA24_28) 29 mA29_51) (up (up (up F 32 mF32_80) 27 mF27_51) 30 mF30_51) (up (up (up (up L 25 mL25_51) 26 mL26_51) 28 mL28_51) 31 mL31_51) (Int32.toInt64 r89)) fun oF32_93 =>
  self80 (x1_80 + 1) oF32_93)) 200 (0 : Int32) mF32_78) fun J78 =>
  wh2 (fun self53 (x1_53 : Int32) (mF32_53 : Int64) =>
  if (I 0) ≤ x1_53 then (J78 mF32_53) else (chk (inB x1_53 40) (ob1 (X6_mix (up I 23 mI23_28) (up (up A 24 mA24_28) 29 mA29_51) (up (up (up F 32 mF32_53) 27 mF27_51) 30 mF30_51) (up (up (up (up L 25 mL25_51) 26 mL26_51) 28 mL28_51) 31 mL31_51) (Int32.toInt64 ((A 1) (Int32.toNatClampNeg x1_53)))) fun oF32_69 =>
  self53 (x1_53 + 1) oF32_69))) 200 (0 : Int32) mF32_51) fun J51 =>
  if (I 2) ≤ 0 then (J51 (L 25) (L 26) (F 27) (L 28) (A 29) (F 30) (L 31) oF32_29) else (ob8 (X6_mixBest (up I 23 mI23_28) (up A 24 mA24_28) (up F 32 oF32_29) L (((1 : Int32) <<< ((I 2) &&& 31)) - (1 : Int32))) fun oL25_48 oL26_48 oF27_48 oL28_48 oA29_48 oF30_48 oL31_48 oF32_48 =>
  J51 oL25_48 oL26_48 oF27_48 oL28_48 oA29_48 oF30_48 oL31_48 oF32_48)) fun J28 =>
  wh4 (fun self9 (x1_9 : Int32) (mI23_9 : Int32) (mA24_9 : Nat → Int32) (mF32_9 : Int64) =>
  if (I 2) ≤ x1_9 then (J28 mI23_9 mA24_9 mF32_9) else (ob3 (X6_mixStorm (up I 23 mI23_9) (up A 24 mA24_9) (up F 32 mF32_9) L x1_9) fun oI23_19 oA24_19 oF32_19 =>
  self9 (x1_9 + 1) oI23_19 oA24_19 oF32_19)) 200 (0 : Int32) (I 23) (A 24) (1619 : Int64)
theorem wX6_digest_k0 : Cond.constantLong RX6 271 (1619) ∈ wsX6_digest := by decide +kernel
theorem wX6_digest_k1 : Cond.fieldLink RX6 264 (TX6 32).1 (TX6 32).2.1 (TX6 32).2.2.1 ∈ wsX6_digest := by decide +kernel
theorem hiX6_digest_6 : ∀ w ∈ u_ws RX6 TX6 33, w ∈ wsX6_digest := fun _ h => List.mem_cons_of_mem _ (List.mem_append_right _ h)
theorem wX6_digest_k3 : Cond.fieldLink RX6 114 (TX6 2).1 (TX6 2).2.1 (TX6 2).2.2.1 ∈ wsX6_digest := by decide +kernel
theorem wX6_digest_k4 : Cond.fieldLink RX6 64 (TX6 0).1 (TX6 0).2.1 (TX6 0).2.2.1 ∈ wsX6_digest := by decide +kernel
theorem wX6_digest_k5 : Cond.fieldLink RX6 7 (TX6 1).1 (TX6 1).2.1 (TX6 1).2.2.1 ∈ wsX6_digest := by decide +kernel
theorem hdX6_digest : yX6_digest.cls ≠ "java/lang/invoke/MethodHandle" ∧ yX6_digest.cls ≠ "java/lang/invoke/VarHandle" ∧ (parseMethodDescriptor yX6_digest.desc).map (fun d => d.parameters.length) = some 0 := by decide +kernel
set_option maxHeartbeats 4000000 in
set_option maxRecDepth 100000 in
theorem X6_digest_ok {l : Launch} {D : va_G} {Y : Nat → ClassId} {a : Nat → Nat} {I : Nat → Int32} {A : Nat → Nat → Int32} {F : Nat → Int64} {L : Nat → Nat → Int64} {r : Int64} {uI23 : Int32} {uA24 : Nat → Int32} {uL25 : Nat → Int64} {uL26 : Nat → Int64} {uF27 : Int64} {uL28 : Nat → Int64} {uA29 : Nat → Int32} {uF30 : Int64} {uL31 : Nat → Int64} {uF32 : Int64} (h : X6_digest I A F L = some (r, uI23, uA24, uL25, uL26, uF27, uL28, uA29, uF30, uL31, uF32)) : MW l yX6_digest wsX6_digest 6 141 D Y [.ref (a 0)] (wM Y a I A F L) (wM Y a (up I 23 uI23) (up (up A 24 uA24) 29 uA29) (up (up (up F 27 uF27) 30 uF30) 32 uF32) (up (up (up (up L 25 uL25) 26 uL26) 28 uL28) 31 uL31)) (some (.long r)) := by
  refine MW_of (cc := cX6_digest) (nL := 2) (ret := some .long) (lv0 := [(0, .ref (a 0))]) (by decide) rfl (Nat.le_of_ble_eq_true rfl) rfl rfl (fun X Af Q C hA hQ => ?_)
  unfold X6_digest at h
  refine V_aload_n (pc := 0) C dX6_digest_0 rfl 0 rfl ?_
  refine V_ldc2 (pc := 1) (v := 1619) C dX6_digest_1 wX6_digest_k0 ?_
  refine V_put (pc := 4) (ws' := wM Y a I A (up F 32 (1619 : Int64)) L) C 0 6 32 hiX6_digest_6 tyX6_ok nmX6 rfl rfl (by decide) wX6_digest_k1 rfl rfl rfl (Nat.le_of_ble_eq_true rfl) dX6_digest_4 rfl ?_
  refine V_iconst (pc := 7) (v := 0) C dX6_digest_7 rfl ?_
  refine V_istore_n (pc := 8) (lv' := [(1, .int (0 : Int32)), (0, .ref (a 0))]) C dX6_digest_8 rfl (Nat.le_of_ble_eq_true rfl) rfl ?_
  refine jn3_ok (P := (fun (mI23_28 : Int32) (mA24_28 : Nat → Int32) (mF32_28 : Int64) => VW X D 2 Q (KM Af X) (0, 0) (wM Y a (up I 23 mI23_28) (up A 24 mA24_28) (up F 32 mF32_28) L) [(0, .ref (a 0))] 28 [])) (fun mI23_28 mA24_28 mF32_28 h => ?_) (fun J28 hJ28 h => ?_) h
  · refine V_aload_n (pc := 28) C dX6_digest_28 rfl 0 rfl ?_
    obtain ⟨oF32_29, hq, h⟩ := ob1_some h
    refine V_callVW0 (pc := 29) (rest := []) (st2 := []) (ws' := wM Y a (up I 23 mI23_28) (up A 24 mA24_28) (up F 32 oF32_29) L) C hA (X6_mixUnits_ok (a := a) hq) gX6_digest_X6_mixUnits rfl ⟨rfl, hdX6_mixUnits⟩ ⟨Nat.le_of_ble_eq_true rfl, Nat.le_of_ble_eq_true rfl⟩ ⟨Nat.le_refl _, Nat.le_refl _⟩ 0 6 rfl rfl rfl (Nat.le_of_ble_eq_true rfl) dX6_digest_29 rfl rfl ?_
    refine V_aload_n (pc := 32) C dX6_digest_32 rfl 0 rfl ?_
    refine V_get (pc := 33) (v := .int (I 2)) C 0 6 2 hiX6_digest_6 rfl rfl (by decide) wX6_digest_k3 rfl dX6_digest_33 ?_
    refine jn8_ok (P := (fun (mL25_51 : Nat → Int64) (mL26_51 : Nat → Int64) (mF27_51 : Int64) (mL28_51 : Nat → Int64) (mA29_51 : Nat → Int32) (mF30_51 : Int64) (mL31_51 : Nat → Int64) (mF32_51 : Int64) => VW X D 2 Q (KM Af X) (0, 0) (wM Y a (up I 23 mI23_28) (up (up A 24 mA24_28) 29 mA29_51) (up (up (up F 32 mF32_51) 27 mF27_51) 30 mF30_51) (up (up (up (up L 25 mL25_51) 26 mL26_51) 28 mL28_51) 31 mL31_51)) [(0, .ref (a 0))] 51 [])) (fun mL25_51 mL26_51 mF27_51 mL28_51 mA29_51 mF30_51 mL31_51 mF32_51 h => ?_) (fun J51 hJ51 h => ?_) h
    · refine V_iconst (pc := 51) (v := 0) C dX6_digest_51 rfl ?_
      refine V_istore_n (pc := 52) (lv' := [(1, .int (0 : Int32)), (0, .ref (a 0))]) C dX6_digest_52 rfl (Nat.le_of_ble_eq_true rfl) rfl ?_
      refine jn1_ok (P := (fun (mF32_78 : Int64) => VW X D 2 Q (KM Af X) (0, 0) (wM Y a (up I 23 mI23_28) (up (up A 24 mA24_28) 29 mA29_51) (up (up (up F 32 mF32_78) 27 mF27_51) 30 mF30_51) (up (up (up (up L 25 mL25_51) 26 mL26_51) 28 mL28_51) 31 mL31_51)) [(0, .ref (a 0))] 78 [])) (fun mF32_78 h => ?_) (fun J78 hJ78 h => ?_) h
      · refine V_iconst (pc := 78) (v := 0) C dX6_digest_78 rfl ?_
        refine V_istore_n (pc := 79) (lv' := [(1, .int (0 : Int32)), (0, .ref (a 0))]) C dX6_digest_79 rfl (Nat.le_of_ble_eq_true rfl) rfl ?_
        refine jn1_ok (P := (fun (mF32_102 : Int64) => VW X D 2 Q (KM Af X) (0, 0) (wM Y a (up I 23 mI23_28) (up (up A 24 mA24_28) 29 mA29_51) (up (up (up F 32 mF32_102) 27 mF27_51) 30 mF30_51) (up (up (up (up L 25 mL25_51) 26 mL26_51) 28 mL28_51) 31 mL31_51)) [(0, .ref (a 0))] 102 [])) (fun mF32_102 h => ?_) (fun J102 hJ102 h => ?_) h
        · refine V_aload_n (pc := 102) C dX6_digest_102 rfl 0 rfl ?_
          refine V_get (pc := 103) (v := .long mF32_102) C 0 6 32 hiX6_digest_6 rfl rfl (by decide) wX6_digest_k1 rfl dX6_digest_103 ?_
          cases h
          subst hQ
          exact V_lretW C dX6_digest_106
        refine V_sub [1, 0] rfl (wh2_ok (P := (fun (x1_80 : Int32) (mF32_80 : Int64) => VW X D 2 Q (KM Af X) (0, 0) (wM Y a (up I 23 mI23_28) (up (up A 24 mA24_28) 29 mA29_51) (up (up (up F 32 mF32_80) 27 mF27_51) 30 mF30_51) (up (up (up (up L 25 mL25_51) 26 mL26_51) 28 mL28_51) 31 mL31_51)) [(0, .ref (a 0)), (1, .int x1_80)] 80 [])) (fun self80 ih80 x1_80 mF32_80 h => ?_) 200 _ _ h)
        refine V_iload_n (pc := 80) C dX6_digest_80 rfl 1 rfl ?_
        refine V_bipush (pc := 81) (v := 6) C dX6_digest_81 rfl ?_
        refine V_icmp_ge (pc := 83) C 102 dX6_digest_83 rfl (fun c83 => ?_) (fun c83 => ?_)
        · replace h := t_pos c83 h
          exact V_sub [0] rfl (hJ102 _ h)
        · replace h := t_neg c83 h
          refine V_aload_n (pc := 86) C dX6_digest_86 rfl 0 rfl ?_
          refine V_aload_n (pc := 87) C dX6_digest_87 rfl 0 rfl ?_
          refine V_iload_n (pc := 88) C dX6_digest_88 rfl 1 rfl ?_
          obtain ⟨r89, hq, h⟩ := ob1_some h
          refine V_callVR0 (pc := 89) (rest := [.ref (a 0)]) (st2 := [.int r89, .ref (a 0)]) C (X6_howMany_ok (a := a) hq) gX6_digest_X6_howMany rfl ⟨rfl, hdX6_howMany⟩ ⟨Nat.le_of_ble_eq_true rfl, Nat.le_of_ble_eq_true rfl⟩ ⟨Nat.le_refl _, Nat.le_refl _⟩ 0 6 rfl rfl rfl (Nat.le_of_ble_eq_true rfl) dX6_digest_89 rfl ?_
          refine V_i2l (pc := 92) C dX6_digest_92 ?_
          obtain ⟨oF32_93, hq, h⟩ := ob1_some h
          refine V_callVW0 (pc := 93) (rest := []) (st2 := []) (ws' := wM Y a (up I 23 mI23_28) (up (up A 24 mA24_28) 29 mA29_51) (up (up (up F 32 oF32_93) 27 mF27_51) 30 mF30_51) (up (up (up (up L 25 mL25_51) 26 mL26_51) 28 mL28_51) 31 mL31_51)) C hA (X6_mix_ok (a := a) hq) gX6_digest_X6_mix rfl ⟨rfl, hdX6_mix⟩ ⟨Nat.le_of_ble_eq_true rfl, Nat.le_of_ble_eq_true rfl⟩ ⟨Nat.le_refl _, Nat.le_refl _⟩ 0 6 rfl rfl rfl (Nat.le_of_ble_eq_true rfl) dX6_digest_93 rfl rfl ?_
          refine V_iinc (pc := 96) (v := (x1_80 + 1)) (lv' := [(1, .int (x1_80 + 1)), (0, .ref (a 0))]) C dX6_digest_96 1 rfl rfl (Nat.le_of_ble_eq_true rfl) rfl ?_
          refine V_goto (pc := 99) C 80 dX6_digest_99 rfl ?_
          exact V_sub [1, 0] rfl (ih80 _ _ h)
      refine V_sub [1, 0] rfl (wh2_ok (P := (fun (x1_53 : Int32) (mF32_53 : Int64) => VW X D 2 Q (KM Af X) (0, 0) (wM Y a (up I 23 mI23_28) (up (up A 24 mA24_28) 29 mA29_51) (up (up (up F 32 mF32_53) 27 mF27_51) 30 mF30_51) (up (up (up (up L 25 mL25_51) 26 mL26_51) 28 mL28_51) 31 mL31_51)) [(0, .ref (a 0)), (1, .int x1_53)] 53 [])) (fun self53 ih53 x1_53 mF32_53 h => ?_) 200 _ _ h)
      refine V_iload_n (pc := 53) C dX6_digest_53 rfl 1 rfl ?_
      refine V_aload_n (pc := 54) C dX6_digest_54 rfl 0 rfl ?_
      refine V_get (pc := 55) (v := .int (I 0)) C 0 6 0 hiX6_digest_6 rfl rfl (by decide) wX6_digest_k4 rfl dX6_digest_55 ?_
      refine V_icmp_ge (pc := 58) C 78 dX6_digest_58 rfl (fun c58 => ?_) (fun c58 => ?_)
      · replace h := t_pos c58 h
        exact V_sub [0] rfl (hJ78 _ h)
      · replace h := t_neg c58 h
        refine V_aload_n (pc := 61) C dX6_digest_61 rfl 0 rfl ?_
        refine V_aload_n (pc := 62) C dX6_digest_62 rfl 0 rfl ?_
        refine V_get (pc := 63) (v := .ref (a 1)) C 0 6 1 hiX6_digest_6 rfl rfl (by decide) wX6_digest_k5 rfl dX6_digest_63 ?_
        refine V_iload_n (pc := 66) C dX6_digest_66 rfl 1 rfl ?_
        obtain ⟨b67, h⟩ := chk_some h
        refine V_iald (pc := 67) C 1 rfl b67 dX6_digest_67 ?_
        refine V_i2l (pc := 68) C dX6_digest_68 ?_
        obtain ⟨oF32_69, hq, h⟩ := ob1_some h
        refine V_callVW0 (pc := 69) (rest := []) (st2 := []) (ws' := wM Y a (up I 23 mI23_28) (up (up A 24 mA24_28) 29 mA29_51) (up (up (up F 32 oF32_69) 27 mF27_51) 30 mF30_51) (up (up (up (up L 25 mL25_51) 26 mL26_51) 28 mL28_51) 31 mL31_51)) C hA (X6_mix_ok (a := a) hq) gX6_digest_X6_mix rfl ⟨rfl, hdX6_mix⟩ ⟨Nat.le_of_ble_eq_true rfl, Nat.le_of_ble_eq_true rfl⟩ ⟨Nat.le_refl _, Nat.le_refl _⟩ 0 6 rfl rfl rfl (Nat.le_of_ble_eq_true rfl) dX6_digest_69 rfl rfl ?_
        refine V_iinc (pc := 72) (v := (x1_53 + 1)) (lv' := [(1, .int (x1_53 + 1)), (0, .ref (a 0))]) C dX6_digest_72 1 rfl rfl (Nat.le_of_ble_eq_true rfl) rfl ?_
        refine V_goto (pc := 75) C 53 dX6_digest_75 rfl ?_
        exact V_sub [1, 0] rfl (ih53 _ _ h)
    refine V_if_le (pc := 36) C 51 dX6_digest_36 rfl (fun c36 => ?_) (fun c36 => ?_)
    · replace h := t_pos c36 h
      exact V_sub [0] rfl (hJ51 _ _ _ _ _ _ _ _ h)
    · replace h := t_neg c36 h
      refine V_aload_n (pc := 39) C dX6_digest_39 rfl 0 rfl ?_
      refine V_iconst (pc := 40) (v := 1) C dX6_digest_40 rfl ?_
      refine V_aload_n (pc := 41) C dX6_digest_41 rfl 0 rfl ?_
      refine V_get (pc := 42) (v := .int (I 2)) C 0 6 2 hiX6_digest_6 rfl rfl (by decide) wX6_digest_k3 rfl dX6_digest_42 ?_
      refine V_ishl (pc := 45) C dX6_digest_45 ?_
      refine V_iconst (pc := 46) (v := 1) C dX6_digest_46 rfl ?_
      refine V_isub (pc := 47) C dX6_digest_47 ?_
      obtain ⟨oL25_48, oL26_48, oF27_48, oL28_48, oA29_48, oF30_48, oL31_48, oF32_48, hq, h⟩ := ob8_some h
      refine V_callVW0 (pc := 48) (rest := []) (st2 := []) (ws' := wM Y a (up I 23 mI23_28) (up (up A 24 mA24_28) 29 oA29_48) (up (up (up F 32 oF32_48) 27 oF27_48) 30 oF30_48) (up (up (up (up L 25 oL25_48) 26 oL26_48) 28 oL28_48) 31 oL31_48)) C hA (X6_mixBest_ok (a := a) hq) gX6_digest_X6_mixBest rfl ⟨rfl, hdX6_mixBest⟩ ⟨Nat.le_of_ble_eq_true rfl, Nat.le_of_ble_eq_true rfl⟩ ⟨Nat.le_refl _, Nat.le_refl _⟩ 0 6 rfl rfl rfl (Nat.le_of_ble_eq_true rfl) dX6_digest_48 rfl rfl ?_
      exact V_sub [0] rfl (hJ51 _ _ _ _ _ _ _ _ h)
  refine V_sub [1, 0] rfl (wh4_ok (P := (fun (x1_9 : Int32) (mI23_9 : Int32) (mA24_9 : Nat → Int32) (mF32_9 : Int64) => VW X D 2 Q (KM Af X) (0, 0) (wM Y a (up I 23 mI23_9) (up A 24 mA24_9) (up F 32 mF32_9) L) [(0, .ref (a 0)), (1, .int x1_9)] 9 [])) (fun self9 ih9 x1_9 mI23_9 mA24_9 mF32_9 h => ?_) 200 _ _ _ _ h)
  refine V_iload_n (pc := 9) C dX6_digest_9 rfl 1 rfl ?_
  refine V_aload_n (pc := 10) C dX6_digest_10 rfl 0 rfl ?_
  refine V_get (pc := 11) (v := .int (I 2)) C 0 6 2 hiX6_digest_6 rfl rfl (by decide) wX6_digest_k3 rfl dX6_digest_11 ?_
  refine V_icmp_ge (pc := 14) C 28 dX6_digest_14 rfl (fun c14 => ?_) (fun c14 => ?_)
  · replace h := t_pos c14 h
    exact V_sub [0] rfl (hJ28 _ _ _ h)
  · replace h := t_neg c14 h
    refine V_aload_n (pc := 17) C dX6_digest_17 rfl 0 rfl ?_
    refine V_iload_n (pc := 18) C dX6_digest_18 rfl 1 rfl ?_
    obtain ⟨oI23_19, oA24_19, oF32_19, hq, h⟩ := ob3_some h
    refine V_callVW0 (pc := 19) (rest := []) (st2 := []) (ws' := wM Y a (up I 23 oI23_19) (up A 24 oA24_19) (up F 32 oF32_19) L) C hA (X6_mixStorm_ok (a := a) hq) gX6_digest_X6_mixStorm rfl ⟨rfl, hdX6_mixStorm⟩ ⟨Nat.le_of_ble_eq_true rfl, Nat.le_of_ble_eq_true rfl⟩ ⟨Nat.le_refl _, Nat.le_refl _⟩ 0 6 rfl rfl rfl (Nat.le_of_ble_eq_true rfl) dX6_digest_19 rfl rfl ?_
    refine V_iinc (pc := 22) (v := (x1_9 + 1)) (lv' := [(1, .int (x1_9 + 1)), (0, .ref (a 0))]) C dX6_digest_22 1 rfl rfl (Nat.le_of_ble_eq_true rfl) rfl ?_
    refine V_goto (pc := 25) C 9 dX6_digest_25 rfl ?_
    exact V_sub [1, 0] rfl (ih9 _ _ _ _ h)
