def X6_layProducts (I : Nat → Int32) (A : Nat → Nat → Int32) (F : Nat → Int64) (L : Nat → Nat → Int64) (p0 : Int32) : Option ((Nat → Int64) × (Nat → Int64) × Int64) :=
  jn2 (fun (mL25_32 : Nat → Int64) (mL26_32 : Nat → Int64) => wh4 (fun self34 (x2_34 : Int32) (mL25_34 : Nat → Int64) (mL26_34 : Nat → Int64) (mF27_34 : Int64) =>
  if (I 2) ≤ x2_34 then (some (mL25_34, mL26_34, mF27_34)) else (jn3 (fun (mL25_157 : Nat → Int64) (mL26_157 : Nat → Int64) (mF27_157 : Int64) => self34 (x2_34 + 1) mL25_157 mL26_157 mF27_157) fun J157 =>
  wh4 (fun self44 (x3_44 : Int32) (mL25_44 : Nat → Int64) (mL26_44 : Nat → Int64) (mF27_44 : Int64) =>
  if (12 : Int32) ≤ x3_44 then (J157 mL25_44 mL26_44 mF27_44) else (if ((p0 >>> (x2_34 &&& 31)) &&& (1 : Int32)) = (1 : Int32) then (ob1 (X6_runoffAt I A (up F 27 mF27_44) (up (up L 25 mL25_44) 26 mL26_44) x2_34 x3_44) fun r67 =>
  ob1 (X6_runoffAt I A (up F 27 mF27_44) (up (up L 25 mL25_44) 26 mL26_44) x2_34 x3_44) fun r73 =>
  jn2 (fun (mL25_151 : Nat → Int64) (mL26_151 : Nat → Int64) => self44 (x3_44 + 1) mL25_151 mL26_151 (mF27_44 + (Int32.toInt64 (r67 * r73)))) fun J151 =>
  wh3 (fun self85 (x4_85 : Int32) (mL25_85 : Nat → Int64) (mL26_85 : Nat → Int64) =>
  if (4 : Int32) ≤ x4_85 then (J151 mL25_85 mL26_85) else (chk (inB x4_85 4) (ob1 (X6_rainAt I A (up F 27 (mF27_44 + (Int32.toInt64 (r67 * r73)))) (up (up L 25 mL25_85) 26 mL26_85) x2_34 x3_44) fun r102 =>
  ob1 (X6_rainAt I A (up F 27 (mF27_44 + (Int32.toInt64 (r67 * r73)))) (up (up L 25 mL25_85) 26 mL26_85) x2_34 (x3_44 - x4_85)) fun r111 =>
  chk (inB x4_85 4) (chk (inB x4_85 4) (ob1 (X6_runoffAt I A (up F 27 (mF27_44 + (Int32.toInt64 (r67 * r73)))) (up (up L 25 (vp_updL mL25_85 (Int32.toNatClampNeg x4_85) ((mL25_85 (Int32.toNatClampNeg x4_85)) + (Int32.toInt64 (r102 * r111))))) 26 mL26_85) x2_34 x3_44) fun r129 =>
  ob1 (X6_rainAt I A (up F 27 (mF27_44 + (Int32.toInt64 (r67 * r73)))) (up (up L 25 (vp_updL mL25_85 (Int32.toNatClampNeg x4_85) ((mL25_85 (Int32.toNatClampNeg x4_85)) + (Int32.toInt64 (r102 * r111))))) 26 mL26_85) x2_34 (x3_44 - x4_85)) fun r138 =>
  chk (inB x4_85 4) (self85 (x4_85 + 1) (vp_updL mL25_85 (Int32.toNatClampNeg x4_85) ((mL25_85 (Int32.toNatClampNeg x4_85)) + (Int32.toInt64 (r102 * r111)))) (vp_updL mL26_85 (Int32.toNatClampNeg x4_85) ((mL26_85 (Int32.toNatClampNeg x4_85)) + (Int32.toInt64 (r129 * r138)))))))))) 200 (0 : Int32) mL25_44 mL26_44) else (J157 mL25_44 mL26_44 mF27_44))) 200 (0 : Int32) mL25_34 mL26_34 mF27_34)) 200 (0 : Int32) mL25_32 mL26_32 (0 : Int64)) fun J32 =>
  wh3 (fun self7 (x2_7 : Int32) (mL25_7 : Nat → Int64) (mL26_7 : Nat → Int64) =>
  if (4 : Int32) ≤ x2_7 then (J32 mL25_7 mL26_7) else (chk (inB x2_7 4) (chk (inB x2_7 4) (self7 (x2_7 + 1) (vp_updL mL25_7 (Int32.toNatClampNeg x2_7) (0 : Int64)) (vp_updL mL26_7 (Int32.toNatClampNeg x2_7) (0 : Int64)))))) 200 (0 : Int32) (L 25) (L 26)
theorem wX6_layProducts_k0 : Cond.fieldLink RX6 200 (TX6 27).1 (TX6 27).2.1 (TX6 27).2.2.1 ∈ wsX6_layProducts := by decide +kernel
theorem hiX6_layProducts_6 : ∀ w ∈ u_ws RX6 TX6 33, w ∈ wsX6_layProducts := fun _ h => List.mem_cons_of_mem _ (List.mem_append_right _ h)
theorem wX6_layProducts_k2 : Cond.fieldLink RX6 114 (TX6 2).1 (TX6 2).2.1 (TX6 2).2.2.1 ∈ wsX6_layProducts := by decide +kernel
theorem wX6_layProducts_k3 : Cond.fieldLink RX6 43 (TX6 25).1 (TX6 25).2.1 (TX6 25).2.2.1 ∈ wsX6_layProducts := by decide +kernel
theorem wX6_layProducts_k4 : Cond.fieldLink RX6 47 (TX6 26).1 (TX6 26).2.1 (TX6 26).2.2.1 ∈ wsX6_layProducts := by decide +kernel
theorem hdX6_layProducts : yX6_layProducts.cls ≠ "java/lang/invoke/MethodHandle" ∧ yX6_layProducts.cls ≠ "java/lang/invoke/VarHandle" ∧ (parseMethodDescriptor yX6_layProducts.desc).map (fun d => d.parameters.length) = some 1 := by decide +kernel
set_option maxHeartbeats 4000000 in
set_option maxRecDepth 100000 in
theorem X6_layProducts_ok {l : Launch} {D : va_G} {Y : Nat → ClassId} {a : Nat → Nat} {I : Nat → Int32} {A : Nat → Nat → Int32} {F : Nat → Int64} {L : Nat → Nat → Int64} {p0 : Int32} {uL25 : Nat → Int64} {uL26 : Nat → Int64} {uF27 : Int64} (h : X6_layProducts I A F L p0 = some (uL25, uL26, uF27)) : MW l yX6_layProducts wsX6_layProducts 2 44 D Y [.ref (a 0), .int p0] (wM Y a I A F L) (wM Y a I A (up F 27 uF27) (up (up L 25 uL25) 26 uL26)) none := by
  refine MW_of (cc := cX6_layProducts) (nL := 5) (ret := none) (lv0 := [(0, .ref (a 0)), (1, .int p0)]) (by decide) rfl (Nat.le_of_ble_eq_true rfl) rfl rfl (fun X Af Q C hA hQ => ?_)
  unfold X6_layProducts at h
  refine V_aload_n (pc := 0) C dX6_layProducts_0 rfl 0 rfl ?_
  refine V_lconst (pc := 1) (v := 0) C dX6_layProducts_1 rfl ?_
  refine V_put (pc := 2) (ws' := wM Y a I A (up F 27 (0 : Int64)) L) C 0 6 27 hiX6_layProducts_6 tyX6_ok nmX6 rfl rfl (by decide) wX6_layProducts_k0 rfl rfl rfl (Nat.le_of_ble_eq_true rfl) dX6_layProducts_2 rfl ?_
  refine V_iconst (pc := 5) (v := 0) C dX6_layProducts_5 rfl ?_
  refine V_istore_n (pc := 6) (lv' := [(2, .int (0 : Int32)), (0, .ref (a 0)), (1, .int p0)]) C dX6_layProducts_6 rfl (Nat.le_of_ble_eq_true rfl) rfl ?_
  refine jn2_ok (P := (fun (mL25_32 : Nat → Int64) (mL26_32 : Nat → Int64) => VW X D 5 Q (KM Af X) (0, 0) (wM Y a I A (up F 27 (0 : Int64)) (up (up L 25 mL25_32) 26 mL26_32)) [(0, .ref (a 0)), (1, .int p0)] 32 [])) (fun mL25_32 mL26_32 h => ?_) (fun J32 hJ32 h => ?_) h
  · refine V_iconst (pc := 32) (v := 0) C dX6_layProducts_32 rfl ?_
    refine V_istore_n (pc := 33) (lv' := [(2, .int (0 : Int32)), (0, .ref (a 0)), (1, .int p0)]) C dX6_layProducts_33 rfl (Nat.le_of_ble_eq_true rfl) rfl ?_
    refine V_sub [1, 2, 0] rfl (wh4_ok (P := (fun (x2_34 : Int32) (mL25_34 : Nat → Int64) (mL26_34 : Nat → Int64) (mF27_34 : Int64) => VW X D 5 Q (KM Af X) (0, 0) (wM Y a I A (up F 27 mF27_34) (up (up L 25 mL25_34) 26 mL26_34)) [(0, .ref (a 0)), (1, .int p0), (2, .int x2_34)] 34 [])) (fun self34 ih34 x2_34 mL25_34 mL26_34 mF27_34 h => ?_) 200 _ _ _ _ h)
    refine V_iload_n (pc := 34) C dX6_layProducts_34 rfl 2 rfl ?_
    refine V_aload_n (pc := 35) C dX6_layProducts_35 rfl 0 rfl ?_
    refine V_get (pc := 36) (v := .int (I 2)) C 0 6 2 hiX6_layProducts_6 rfl rfl (by decide) wX6_layProducts_k2 rfl dX6_layProducts_36 ?_
    refine V_icmp_ge (pc := 39) C 163 dX6_layProducts_39 rfl (fun c39 => ?_) (fun c39 => ?_)
    · replace h := t_pos c39 h
      cases h
      subst hQ
      exact V_vretW C dX6_layProducts_163
    · replace h := t_neg c39 h
      refine V_iconst (pc := 42) (v := 0) C dX6_layProducts_42 rfl ?_
      refine V_istore_n (pc := 43) (lv' := [(3, .int (0 : Int32)), (0, .ref (a 0)), (1, .int p0), (2, .int x2_34)]) C dX6_layProducts_43 rfl (Nat.le_of_ble_eq_true rfl) rfl ?_
      refine jn3_ok (P := (fun (mL25_157 : Nat → Int64) (mL26_157 : Nat → Int64) (mF27_157 : Int64) => VW X D 5 Q (KM Af X) (0, 0) (wM Y a I A (up F 27 mF27_157) (up (up L 25 mL25_157) 26 mL26_157)) [(0, .ref (a 0)), (1, .int p0), (2, .int x2_34)] 157 [])) (fun mL25_157 mL26_157 mF27_157 h => ?_) (fun J157 hJ157 h => ?_) h
      · refine V_iinc (pc := 157) (v := (x2_34 + 1)) (lv' := [(2, .int (x2_34 + 1)), (0, .ref (a 0)), (1, .int p0)]) C dX6_layProducts_157 2 rfl rfl (Nat.le_of_ble_eq_true rfl) rfl ?_
        refine V_goto (pc := 160) C 34 dX6_layProducts_160 rfl ?_
        exact V_sub [1, 2, 0] rfl (ih34 _ _ _ _ h)
      refine V_sub [1, 2, 3, 0] rfl (wh4_ok (P := (fun (x3_44 : Int32) (mL25_44 : Nat → Int64) (mL26_44 : Nat → Int64) (mF27_44 : Int64) => VW X D 5 Q (KM Af X) (0, 0) (wM Y a I A (up F 27 mF27_44) (up (up L 25 mL25_44) 26 mL26_44)) [(0, .ref (a 0)), (1, .int p0), (2, .int x2_34), (3, .int x3_44)] 44 [])) (fun self44 ih44 x3_44 mL25_44 mL26_44 mF27_44 h => ?_) 200 _ _ _ _ h)
      refine V_iload_n (pc := 44) C dX6_layProducts_44 rfl 3 rfl ?_
      refine V_bipush (pc := 45) (v := 12) C dX6_layProducts_45 rfl ?_
      refine V_icmp_ge (pc := 47) C 157 dX6_layProducts_47 rfl (fun c47 => ?_) (fun c47 => ?_)
      · replace h := t_pos c47 h
        exact V_sub [0, 1, 2] rfl (hJ157 _ _ _ h)
      · replace h := t_neg c47 h
        refine V_iload_n (pc := 50) C dX6_layProducts_50 rfl 1 rfl ?_
        refine V_iload_n (pc := 51) C dX6_layProducts_51 rfl 2 rfl ?_
        refine V_ishr (pc := 52) C dX6_layProducts_52 ?_
        refine V_iconst (pc := 53) (v := 1) C dX6_layProducts_53 rfl ?_
        refine V_iand (pc := 54) C dX6_layProducts_54 ?_
        refine V_iconst (pc := 55) (v := 1) C dX6_layProducts_55 rfl ?_
        refine V_icmp_ne (pc := 56) C 157 dX6_layProducts_56 rfl (fun c56 => ?_) (fun c56 => ?_)
        · replace h := t_neg c56 h
          exact V_sub [0, 1, 2] rfl (hJ157 _ _ _ h)
        · replace h := t_pos c56 h
          refine V_aload_n (pc := 59) C dX6_layProducts_59 rfl 0 rfl ?_
          refine V_dup (pc := 60) C dX6_layProducts_60 rfl ?_
          refine V_get (pc := 61) (v := .long mF27_44) C 0 6 27 hiX6_layProducts_6 rfl rfl (by decide) wX6_layProducts_k0 rfl dX6_layProducts_61 ?_
          refine V_aload_n (pc := 64) C dX6_layProducts_64 rfl 0 rfl ?_
          refine V_iload_n (pc := 65) C dX6_layProducts_65 rfl 2 rfl ?_
          refine V_iload_n (pc := 66) C dX6_layProducts_66 rfl 3 rfl ?_
          obtain ⟨r67, hq, h⟩ := ob1_some h
          refine V_callVR0 (pc := 67) (rest := [.long mF27_44, .ref (a 0)]) (st2 := [.int r67, .long mF27_44, .ref (a 0)]) C (X6_runoffAt_ok (a := a) hq) gX6_layProducts_X6_runoffAt rfl ⟨rfl, hdX6_runoffAt⟩ ⟨Nat.le_of_ble_eq_true rfl, Nat.le_of_ble_eq_true rfl⟩ ⟨Nat.le_refl _, Nat.le_refl _⟩ 0 6 rfl rfl rfl (Nat.le_of_ble_eq_true rfl) dX6_layProducts_67 rfl ?_
          refine V_aload_n (pc := 70) C dX6_layProducts_70 rfl 0 rfl ?_
          refine V_iload_n (pc := 71) C dX6_layProducts_71 rfl 2 rfl ?_
          refine V_iload_n (pc := 72) C dX6_layProducts_72 rfl 3 rfl ?_
          obtain ⟨r73, hq, h⟩ := ob1_some h
          refine V_callVR0 (pc := 73) (rest := [.int r67, .long mF27_44, .ref (a 0)]) (st2 := [.int r73, .int r67, .long mF27_44, .ref (a 0)]) C (X6_runoffAt_ok (a := a) hq) gX6_layProducts_X6_runoffAt rfl ⟨rfl, hdX6_runoffAt⟩ ⟨Nat.le_of_ble_eq_true rfl, Nat.le_of_ble_eq_true rfl⟩ ⟨Nat.le_refl _, Nat.le_refl _⟩ 0 6 rfl rfl rfl (Nat.le_of_ble_eq_true rfl) dX6_layProducts_73 rfl ?_
          refine V_imul (pc := 76) C dX6_layProducts_76 ?_
          refine V_i2l (pc := 77) C dX6_layProducts_77 ?_
          refine V_ladd (pc := 78) C dX6_layProducts_78 ?_
          refine V_put (pc := 79) (ws' := wM Y a I A (up F 27 (mF27_44 + (Int32.toInt64 (r67 * r73)))) (up (up L 25 mL25_44) 26 mL26_44)) C 0 6 27 hiX6_layProducts_6 tyX6_ok nmX6 rfl rfl (by decide) wX6_layProducts_k0 rfl rfl rfl (Nat.le_of_ble_eq_true rfl) dX6_layProducts_79 rfl ?_
          refine V_iconst (pc := 82) (v := 0) C dX6_layProducts_82 rfl ?_
          refine V_istore (pc := 83) (lv' := [(4, .int (0 : Int32)), (0, .ref (a 0)), (1, .int p0), (2, .int x2_34), (3, .int x3_44)]) C dX6_layProducts_83 (Nat.le_of_ble_eq_true rfl) rfl ?_
          refine jn2_ok (P := (fun (mL25_151 : Nat → Int64) (mL26_151 : Nat → Int64) => VW X D 5 Q (KM Af X) (0, 0) (wM Y a I A (up F 27 (mF27_44 + (Int32.toInt64 (r67 * r73)))) (up (up L 25 mL25_151) 26 mL26_151)) [(0, .ref (a 0)), (1, .int p0), (2, .int x2_34), (3, .int x3_44)] 151 [])) (fun mL25_151 mL26_151 h => ?_) (fun J151 hJ151 h => ?_) h
          · refine V_iinc (pc := 151) (v := (x3_44 + 1)) (lv' := [(3, .int (x3_44 + 1)), (0, .ref (a 0)), (1, .int p0), (2, .int x2_34)]) C dX6_layProducts_151 3 rfl rfl (Nat.le_of_ble_eq_true rfl) rfl ?_
            refine V_goto (pc := 154) C 44 dX6_layProducts_154 rfl ?_
            exact V_sub [1, 2, 3, 0] rfl (ih44 _ _ _ _ h)
          refine V_sub [1, 2, 3, 4, 0] rfl (wh3_ok (P := (fun (x4_85 : Int32) (mL25_85 : Nat → Int64) (mL26_85 : Nat → Int64) => VW X D 5 Q (KM Af X) (0, 0) (wM Y a I A (up F 27 (mF27_44 + (Int32.toInt64 (r67 * r73)))) (up (up L 25 mL25_85) 26 mL26_85)) [(0, .ref (a 0)), (1, .int p0), (2, .int x2_34), (3, .int x3_44), (4, .int x4_85)] 85 [])) (fun self85 ih85 x4_85 mL25_85 mL26_85 h => ?_) 200 _ _ _ h)
          refine V_iload (pc := 85) C dX6_layProducts_85 4 rfl ?_
          refine V_iconst (pc := 87) (v := 4) C dX6_layProducts_87 rfl ?_
          refine V_icmp_ge (pc := 88) C 151 dX6_layProducts_88 rfl (fun c88 => ?_) (fun c88 => ?_)
          · replace h := t_pos c88 h
            exact V_sub [0, 1, 2, 3] rfl (hJ151 _ _ h)
          · replace h := t_neg c88 h
            refine V_aload_n (pc := 91) C dX6_layProducts_91 rfl 0 rfl ?_
            refine V_get (pc := 92) (v := .ref (a 12)) C 0 6 25 hiX6_layProducts_6 rfl rfl (by decide) wX6_layProducts_k3 rfl dX6_layProducts_92 ?_
            refine V_iload (pc := 95) C dX6_layProducts_95 4 rfl ?_
            refine V_dup2 (pc := 97) C dX6_layProducts_97 rfl rfl ?_
            obtain ⟨b98, h⟩ := chk_some h
            refine V_lald (pc := 98) C 12 rfl b98 dX6_layProducts_98 ?_
            refine V_aload_n (pc := 99) C dX6_layProducts_99 rfl 0 rfl ?_
            refine V_iload_n (pc := 100) C dX6_layProducts_100 rfl 2 rfl ?_
            refine V_iload_n (pc := 101) C dX6_layProducts_101 rfl 3 rfl ?_
            obtain ⟨r102, hq, h⟩ := ob1_some h
            refine V_callVR0 (pc := 102) (rest := [.long (mL25_85 (Int32.toNatClampNeg x4_85)), .int x4_85, .ref (a 12)]) (st2 := [.int r102, .long (mL25_85 (Int32.toNatClampNeg x4_85)), .int x4_85, .ref (a 12)]) C (X6_rainAt_ok (a := a) hq) gX6_layProducts_X6_rainAt rfl ⟨rfl, hdX6_rainAt⟩ ⟨Nat.le_of_ble_eq_true rfl, Nat.le_of_ble_eq_true rfl⟩ ⟨Nat.le_refl _, Nat.le_refl _⟩ 0 6 rfl rfl rfl (Nat.le_of_ble_eq_true rfl) dX6_layProducts_102 rfl ?_
            refine V_aload_n (pc := 105) C dX6_layProducts_105 rfl 0 rfl ?_
            refine V_iload_n (pc := 106) C dX6_layProducts_106 rfl 2 rfl ?_
            refine V_iload_n (pc := 107) C dX6_layProducts_107 rfl 3 rfl ?_
            refine V_iload (pc := 108) C dX6_layProducts_108 4 rfl ?_
            refine V_isub (pc := 110) C dX6_layProducts_110 ?_
            obtain ⟨r111, hq, h⟩ := ob1_some h
            refine V_callVR0 (pc := 111) (rest := [.int r102, .long (mL25_85 (Int32.toNatClampNeg x4_85)), .int x4_85, .ref (a 12)]) (st2 := [.int r111, .int r102, .long (mL25_85 (Int32.toNatClampNeg x4_85)), .int x4_85, .ref (a 12)]) C (X6_rainAt_ok (a := a) hq) gX6_layProducts_X6_rainAt rfl ⟨rfl, hdX6_rainAt⟩ ⟨Nat.le_of_ble_eq_true rfl, Nat.le_of_ble_eq_true rfl⟩ ⟨Nat.le_refl _, Nat.le_refl _⟩ 0 6 rfl rfl rfl (Nat.le_of_ble_eq_true rfl) dX6_layProducts_111 rfl ?_
            refine V_imul (pc := 114) C dX6_layProducts_114 ?_
            refine V_i2l (pc := 115) C dX6_layProducts_115 ?_
            refine V_ladd (pc := 116) C dX6_layProducts_116 ?_
            obtain ⟨b117, h⟩ := chk_some h
            refine V_last (pc := 117) (ws' := wM Y a I A (up F 27 (mF27_44 + (Int32.toInt64 (r67 * r73)))) (up (up L 25 (vp_updL mL25_85 (Int32.toNatClampNeg x4_85) ((mL25_85 (Int32.toNatClampNeg x4_85)) + (Int32.toInt64 (r102 * r111))))) 26 mL26_85)) C 12 rfl b117 dX6_layProducts_117 rfl ?_
            refine V_aload_n (pc := 118) C dX6_layProducts_118 rfl 0 rfl ?_
            refine V_get (pc := 119) (v := .ref (a 13)) C 0 6 26 hiX6_layProducts_6 rfl rfl (by decide) wX6_layProducts_k4 rfl dX6_layProducts_119 ?_
            refine V_iload (pc := 122) C dX6_layProducts_122 4 rfl ?_
            refine V_dup2 (pc := 124) C dX6_layProducts_124 rfl rfl ?_
            obtain ⟨b125, h⟩ := chk_some h
            refine V_lald (pc := 125) C 13 rfl b125 dX6_layProducts_125 ?_
            refine V_aload_n (pc := 126) C dX6_layProducts_126 rfl 0 rfl ?_
            refine V_iload_n (pc := 127) C dX6_layProducts_127 rfl 2 rfl ?_
            refine V_iload_n (pc := 128) C dX6_layProducts_128 rfl 3 rfl ?_
            obtain ⟨r129, hq, h⟩ := ob1_some h
            refine V_callVR0 (pc := 129) (rest := [.long (mL26_85 (Int32.toNatClampNeg x4_85)), .int x4_85, .ref (a 13)]) (st2 := [.int r129, .long (mL26_85 (Int32.toNatClampNeg x4_85)), .int x4_85, .ref (a 13)]) C (X6_runoffAt_ok (a := a) hq) gX6_layProducts_X6_runoffAt rfl ⟨rfl, hdX6_runoffAt⟩ ⟨Nat.le_of_ble_eq_true rfl, Nat.le_of_ble_eq_true rfl⟩ ⟨Nat.le_refl _, Nat.le_refl _⟩ 0 6 rfl rfl rfl (Nat.le_of_ble_eq_true rfl) dX6_layProducts_129 rfl ?_
            refine V_aload_n (pc := 132) C dX6_layProducts_132 rfl 0 rfl ?_
            refine V_iload_n (pc := 133) C dX6_layProducts_133 rfl 2 rfl ?_
            refine V_iload_n (pc := 134) C dX6_layProducts_134 rfl 3 rfl ?_
            refine V_iload (pc := 135) C dX6_layProducts_135 4 rfl ?_
            refine V_isub (pc := 137) C dX6_layProducts_137 ?_
            obtain ⟨r138, hq, h⟩ := ob1_some h
            refine V_callVR0 (pc := 138) (rest := [.int r129, .long (mL26_85 (Int32.toNatClampNeg x4_85)), .int x4_85, .ref (a 13)]) (st2 := [.int r138, .int r129, .long (mL26_85 (Int32.toNatClampNeg x4_85)), .int x4_85, .ref (a 13)]) C (X6_rainAt_ok (a := a) hq) gX6_layProducts_X6_rainAt rfl ⟨rfl, hdX6_rainAt⟩ ⟨Nat.le_of_ble_eq_true rfl, Nat.le_of_ble_eq_true rfl⟩ ⟨Nat.le_refl _, Nat.le_refl _⟩ 0 6 rfl rfl rfl (Nat.le_of_ble_eq_true rfl) dX6_layProducts_138 rfl ?_
            refine V_imul (pc := 141) C dX6_layProducts_141 ?_
            refine V_i2l (pc := 142) C dX6_layProducts_142 ?_
            refine V_ladd (pc := 143) C dX6_layProducts_143 ?_
            obtain ⟨b144, h⟩ := chk_some h
            refine V_last (pc := 144) (ws' := wM Y a I A (up F 27 (mF27_44 + (Int32.toInt64 (r67 * r73)))) (up (up L 25 (vp_updL mL25_85 (Int32.toNatClampNeg x4_85) ((mL25_85 (Int32.toNatClampNeg x4_85)) + (Int32.toInt64 (r102 * r111))))) 26 (vp_updL mL26_85 (Int32.toNatClampNeg x4_85) ((mL26_85 (Int32.toNatClampNeg x4_85)) + (Int32.toInt64 (r129 * r138)))))) C 13 rfl b144 dX6_layProducts_144 rfl ?_
            refine V_iinc (pc := 145) (v := (x4_85 + 1)) (lv' := [(4, .int (x4_85 + 1)), (0, .ref (a 0)), (1, .int p0), (2, .int x2_34), (3, .int x3_44)]) C dX6_layProducts_145 4 rfl rfl (Nat.le_of_ble_eq_true rfl) rfl ?_
            refine V_goto (pc := 148) C 85 dX6_layProducts_148 rfl ?_
            exact V_sub [1, 2, 3, 4, 0] rfl (ih85 _ _ _ h)
  refine V_sub [1, 2, 0] rfl (wh3_ok (P := (fun (x2_7 : Int32) (mL25_7 : Nat → Int64) (mL26_7 : Nat → Int64) => VW X D 5 Q (KM Af X) (0, 0) (wM Y a I A (up F 27 (0 : Int64)) (up (up L 25 mL25_7) 26 mL26_7)) [(0, .ref (a 0)), (1, .int p0), (2, .int x2_7)] 7 [])) (fun self7 ih7 x2_7 mL25_7 mL26_7 h => ?_) 200 _ _ _ h)
  refine V_iload_n (pc := 7) C dX6_layProducts_7 rfl 2 rfl ?_
  refine V_iconst (pc := 8) (v := 4) C dX6_layProducts_8 rfl ?_
  refine V_icmp_ge (pc := 9) C 32 dX6_layProducts_9 rfl (fun c9 => ?_) (fun c9 => ?_)
  · replace h := t_pos c9 h
    exact V_sub [0, 1] rfl (hJ32 _ _ h)
  · replace h := t_neg c9 h
    refine V_aload_n (pc := 12) C dX6_layProducts_12 rfl 0 rfl ?_
    refine V_get (pc := 13) (v := .ref (a 12)) C 0 6 25 hiX6_layProducts_6 rfl rfl (by decide) wX6_layProducts_k3 rfl dX6_layProducts_13 ?_
    refine V_iload_n (pc := 16) C dX6_layProducts_16 rfl 2 rfl ?_
    refine V_lconst (pc := 17) (v := 0) C dX6_layProducts_17 rfl ?_
    obtain ⟨b18, h⟩ := chk_some h
    refine V_last (pc := 18) (ws' := wM Y a I A (up F 27 (0 : Int64)) (up (up L 25 (vp_updL mL25_7 (Int32.toNatClampNeg x2_7) (0 : Int64))) 26 mL26_7)) C 12 rfl b18 dX6_layProducts_18 rfl ?_
    refine V_aload_n (pc := 19) C dX6_layProducts_19 rfl 0 rfl ?_
    refine V_get (pc := 20) (v := .ref (a 13)) C 0 6 26 hiX6_layProducts_6 rfl rfl (by decide) wX6_layProducts_k4 rfl dX6_layProducts_20 ?_
    refine V_iload_n (pc := 23) C dX6_layProducts_23 rfl 2 rfl ?_
    refine V_lconst (pc := 24) (v := 0) C dX6_layProducts_24 rfl ?_
    obtain ⟨b25, h⟩ := chk_some h
    refine V_last (pc := 25) (ws' := wM Y a I A (up F 27 (0 : Int64)) (up (up L 25 (vp_updL mL25_7 (Int32.toNatClampNeg x2_7) (0 : Int64))) 26 (vp_updL mL26_7 (Int32.toNatClampNeg x2_7) (0 : Int64)))) C 13 rfl b25 dX6_layProducts_25 rfl ?_
    refine V_iinc (pc := 26) (v := (x2_7 + 1)) (lv' := [(2, .int (x2_7 + 1)), (0, .ref (a 0)), (1, .int p0)]) C dX6_layProducts_26 2 rfl rfl (Nat.le_of_ble_eq_true rfl) rfl ?_
    refine V_goto (pc := 29) C 7 dX6_layProducts_29 rfl ?_
    exact V_sub [1, 2, 0] rfl (ih7 _ _ _ h)
def X6_apart (p0 : Int32) (p1 : Int32) : Option (Int32) :=
  if p1 ≤ p0 then (some (p0 - p1)) else (some (p1 - p0))
theorem hdX6_apart : yX6_apart.cls ≠ "java/lang/invoke/MethodHandle" ∧ yX6_apart.cls ≠ "java/lang/invoke/VarHandle" ∧ (parseMethodDescriptor yX6_apart.desc).map (fun d => d.parameters.length) = some 2 := by decide +kernel
set_option maxHeartbeats 4000000 in
set_option maxRecDepth 100000 in
theorem X6_apart_ok {l : Launch} {D : va_G} {Y : Nat → ClassId}  {p0 : Int32} {p1 : Int32} {r : Int32} (h : X6_apart p0 p1 = some r) : MR l yX6_apart wsX6_apart 0 0 D Y [.int p0, .int p1] ([]) (some (.int r)) := by
  refine MR_of (cc := cX6_apart) (nL := 2) (ret := some .int) (lv0 := [(0, .int p0), (1, .int p1)]) (by decide) rfl (Nat.le_of_ble_eq_true rfl) rfl (fun X Q C hQ => ?_)
  unfold X6_apart at h
  refine V_iload_n (pc := 0) C dX6_apart_0 rfl 0 rfl ?_
  refine V_iload_n (pc := 1) C dX6_apart_1 rfl 1 rfl ?_
  refine V_icmp_ge (pc := 2) C 11 dX6_apart_2 rfl (fun c2 => ?_) (fun c2 => ?_)
  · replace h := t_pos c2 h
    refine V_iload_n (pc := 11) C dX6_apart_11 rfl 0 rfl ?_
    refine V_iload_n (pc := 12) C dX6_apart_12 rfl 1 rfl ?_
    refine V_isub (pc := 13) C dX6_apart_13 ?_
    cases h
    subst hQ
    exact V_iretR C dX6_apart_14
  · replace h := t_neg c2 h
    refine V_iload_n (pc := 5) C dX6_apart_5 rfl 1 rfl ?_
    refine V_iload_n (pc := 6) C dX6_apart_6 rfl 0 rfl ?_
    refine V_isub (pc := 7) C dX6_apart_7 ?_
    refine V_goto (pc := 8) C 14 dX6_apart_8 rfl ?_
    cases h
    subst hQ
    exact V_iretR C dX6_apart_14
def X6_clear (I : Nat → Int32) (A : Nat → Nat → Int32) (F : Nat → Int64) (L : Nat → Nat → Int64) (p0 : Int32) (p1 : Int32) : Option ((Nat → Int64) × Int64) :=
  chk (inB (((5 : Int32) * p0) + p0) 20) (jn1 (fun (mL28_106 : Nat → Int64) => some (mL28_106, ((L 28) (Int32.toNatClampNeg (((5 : Int32) * p0) + p0))))) fun J106 =>
  wh2 (fun self14 (x5_14 : Int32) (mL28_14 : Nat → Int64) =>
  if p1 ≤ x5_14 then (J106 mL28_14) else (chk (inB (((5 : Int32) * x5_14) + p0) 20) (jn1 (fun (mL28_100 : Nat → Int64) => self14 (x5_14 + 1) mL28_100) fun J100 =>
  wh2 (fun self36 (x8_36 : Int32) (mL28_36 : Nat → Int64) =>
  if p1 < x8_36 then (J100 mL28_36) else (if x5_14 = p0 then (J100 mL28_36) else (chk (inB (((5 : Int32) * x5_14) + x8_36) 20) (chk (inB (((5 : Int32) * p0) + x8_36) 20) (chk (ne0l (F 30)) (chk (inB (((5 : Int32) * x5_14) + x8_36) 20) (self36 (x8_36 + 1) (vp_updL mL28_36 (Int32.toNatClampNeg (((5 : Int32) * x5_14) + x8_36)) (((((L 28) (Int32.toNatClampNeg (((5 : Int32) * p0) + p0))) * (mL28_36 (Int32.toNatClampNeg (((5 : Int32) * x5_14) + x8_36)))) - ((mL28_14 (Int32.toNatClampNeg (((5 : Int32) * x5_14) + p0))) * (mL28_36 (Int32.toNatClampNeg (((5 : Int32) * p0) + x8_36))))) / (F 30)))))))))) 200 (0 : Int32) mL28_14))) 200 (0 : Int32) (L 28))
theorem wX6_clear_k0 : Cond.fieldLink RX6 50 (TX6 28).1 (TX6 28).2.1 (TX6 28).2.2.1 ∈ wsX6_clear := by decide +kernel
theorem hiX6_clear_6 : ∀ w ∈ u_ws RX6 TX6 33, w ∈ wsX6_clear := fun _ h => List.mem_cons_of_mem _ (List.mem_append_right _ h)
theorem wX6_clear_k2 : Cond.fieldLink RX6 207 (TX6 30).1 (TX6 30).2.1 (TX6 30).2.2.1 ∈ wsX6_clear := by decide +kernel
theorem hdX6_clear : yX6_clear.cls ≠ "java/lang/invoke/MethodHandle" ∧ yX6_clear.cls ≠ "java/lang/invoke/VarHandle" ∧ (parseMethodDescriptor yX6_clear.desc).map (fun d => d.parameters.length) = some 2 := by decide +kernel
set_option maxHeartbeats 4000000 in
set_option maxRecDepth 100000 in
theorem X6_clear_ok {l : Launch} {D : va_G} {Y : Nat → ClassId} {a : Nat → Nat} {I : Nat → Int32} {A : Nat → Nat → Int32} {F : Nat → Int64} {L : Nat → Nat → Int64} {p0 : Int32} {p1 : Int32} {uL28 : Nat → Int64} {uF30 : Int64} (h : X6_clear I A F L p0 p1 = some (uL28, uF30)) : MW l yX6_clear wsX6_clear 0 0 D Y [.ref (a 0), .int p0, .int p1] (wM Y a I A F L) (wM Y a I A (up F 30 uF30) (up L 28 uL28)) none := by
  refine MW_of (cc := cX6_clear) (nL := 9) (ret := none) (lv0 := [(0, .ref (a 0)), (1, .int p0), (2, .int p1)]) (by decide) rfl (Nat.le_of_ble_eq_true rfl) rfl rfl (fun X Af Q C hA hQ => ?_)
  unfold X6_clear at h
  refine V_aload_n (pc := 0) C dX6_clear_0 rfl 0 rfl ?_
  refine V_get (pc := 1) (v := .ref (a 14)) C 0 6 28 hiX6_clear_6 rfl rfl (by decide) wX6_clear_k0 rfl dX6_clear_1 ?_
  refine V_iconst (pc := 4) (v := 5) C dX6_clear_4 rfl ?_
  refine V_iload_n (pc := 5) C dX6_clear_5 rfl 1 rfl ?_
  refine V_imul (pc := 6) C dX6_clear_6 ?_
  refine V_iload_n (pc := 7) C dX6_clear_7 rfl 1 rfl ?_
  refine V_iadd (pc := 8) C dX6_clear_8 ?_
  obtain ⟨b9, h⟩ := chk_some h
  refine V_lald (pc := 9) C 14 rfl b9 dX6_clear_9 ?_
  refine V_lstore_n (pc := 10) (lv' := [(3, .long ((L 28) (Int32.toNatClampNeg (((5 : Int32) * p0) + p0)))), (0, .ref (a 0)), (1, .int p0), (2, .int p1)]) C dX6_clear_10 rfl (Nat.le_of_ble_eq_true rfl) rfl ?_
  refine V_iconst (pc := 11) (v := 0) C dX6_clear_11 rfl ?_
  refine V_istore (pc := 12) (lv' := [(5, .int (0 : Int32)), (3, .long ((L 28) (Int32.toNatClampNeg (((5 : Int32) * p0) + p0)))), (0, .ref (a 0)), (1, .int p0), (2, .int p1)]) C dX6_clear_12 (Nat.le_of_ble_eq_true rfl) rfl ?_
  refine jn1_ok (P := (fun (mL28_106 : Nat → Int64) => VW X D 9 Q (KM Af X) (0, 0) (wM Y a I A F (up L 28 mL28_106)) [(0, .ref (a 0)), (3, .long ((L 28) (Int32.toNatClampNeg (((5 : Int32) * p0) + p0))))] 106 [])) (fun mL28_106 h => ?_) (fun J106 hJ106 h => ?_) h
  · refine V_aload_n (pc := 106) C dX6_clear_106 rfl 0 rfl ?_
    refine V_lload_n (pc := 107) C dX6_clear_107 rfl 1 rfl ?_
    refine V_put (pc := 108) (ws' := wM Y a I A (up F 30 ((L 28) (Int32.toNatClampNeg (((5 : Int32) * p0) + p0)))) (up L 28 mL28_106)) C 0 6 30 hiX6_clear_6 tyX6_ok nmX6 rfl rfl (by decide) wX6_clear_k2 rfl rfl rfl (Nat.le_of_ble_eq_true rfl) dX6_clear_108 rfl ?_
    cases h
    subst hQ
    exact V_vretW C dX6_clear_111
  refine V_sub [2, 3, 4, 1, 0] rfl (wh2_ok (P := (fun (x5_14 : Int32) (mL28_14 : Nat → Int64) => VW X D 9 Q (KM Af X) (0, 0) (wM Y a I A F (up L 28 mL28_14)) [(0, .ref (a 0)), (1, .int p0), (2, .int p1), (3, .long ((L 28) (Int32.toNatClampNeg (((5 : Int32) * p0) + p0)))), (5, .int x5_14)] 14 [])) (fun self14 ih14 x5_14 mL28_14 h => ?_) 200 _ _ h)
  refine V_iload (pc := 14) C dX6_clear_14 4 rfl ?_
  refine V_iload_n (pc := 16) C dX6_clear_16 rfl 2 rfl ?_
  refine V_icmp_ge (pc := 17) C 106 dX6_clear_17 rfl (fun c17 => ?_) (fun c17 => ?_)
  · replace h := t_pos c17 h
    exact V_sub [0, 3] rfl (hJ106 _ h)
  · replace h := t_neg c17 h
    refine V_aload_n (pc := 20) C dX6_clear_20 rfl 0 rfl ?_
    refine V_get (pc := 21) (v := .ref (a 14)) C 0 6 28 hiX6_clear_6 rfl rfl (by decide) wX6_clear_k0 rfl dX6_clear_21 ?_
    refine V_iconst (pc := 24) (v := 5) C dX6_clear_24 rfl ?_
    refine V_iload (pc := 25) C dX6_clear_25 4 rfl ?_
    refine V_imul (pc := 27) C dX6_clear_27 ?_
    refine V_iload_n (pc := 28) C dX6_clear_28 rfl 1 rfl ?_
    refine V_iadd (pc := 29) C dX6_clear_29 ?_
    obtain ⟨b30, h⟩ := chk_some h
    refine V_lald (pc := 30) C 14 rfl b30 dX6_clear_30 ?_
    refine V_lstore (pc := 31) (lv' := [(6, .long (mL28_14 (Int32.toNatClampNeg (((5 : Int32) * x5_14) + p0)))), (0, .ref (a 0)), (1, .int p0), (2, .int p1), (3, .long ((L 28) (Int32.toNatClampNeg (((5 : Int32) * p0) + p0)))), (5, .int x5_14)]) C dX6_clear_31 (Nat.le_of_ble_eq_true rfl) rfl ?_
    refine V_iconst (pc := 33) (v := 0) C dX6_clear_33 rfl ?_
    refine V_istore (pc := 34) (lv' := [(8, .int (0 : Int32)), (6, .long (mL28_14 (Int32.toNatClampNeg (((5 : Int32) * x5_14) + p0)))), (0, .ref (a 0)), (1, .int p0), (2, .int p1), (3, .long ((L 28) (Int32.toNatClampNeg (((5 : Int32) * p0) + p0)))), (5, .int x5_14)]) C dX6_clear_34 (Nat.le_of_ble_eq_true rfl) rfl ?_
    refine jn1_ok (P := (fun (mL28_100 : Nat → Int64) => VW X D 9 Q (KM Af X) (0, 0) (wM Y a I A F (up L 28 mL28_100)) [(0, .ref (a 0)), (1, .int p0), (2, .int p1), (3, .long ((L 28) (Int32.toNatClampNeg (((5 : Int32) * p0) + p0)))), (5, .int x5_14)] 100 [])) (fun mL28_100 h => ?_) (fun J100 hJ100 h => ?_) h
    · refine V_iinc (pc := 100) (v := (x5_14 + 1)) (lv' := [(5, .int (x5_14 + 1)), (0, .ref (a 0)), (1, .int p0), (2, .int p1), (3, .long ((L 28) (Int32.toNatClampNeg (((5 : Int32) * p0) + p0))))]) C dX6_clear_100 4 rfl rfl (Nat.le_of_ble_eq_true rfl) rfl ?_
      refine V_goto (pc := 103) C 14 dX6_clear_103 rfl ?_
      exact V_sub [1, 2, 3, 4, 0] rfl (ih14 _ _ h)
    refine V_sub [2, 3, 4, 5, 6, 1, 0] rfl (wh2_ok (P := (fun (x8_36 : Int32) (mL28_36 : Nat → Int64) => VW X D 9 Q (KM Af X) (0, 0) (wM Y a I A F (up L 28 mL28_36)) [(0, .ref (a 0)), (1, .int p0), (2, .int p1), (3, .long ((L 28) (Int32.toNatClampNeg (((5 : Int32) * p0) + p0)))), (5, .int x5_14), (6, .long (mL28_14 (Int32.toNatClampNeg (((5 : Int32) * x5_14) + p0)))), (8, .int x8_36)] 36 [])) (fun self36 ih36 x8_36 mL28_36 h => ?_) 200 _ _ h)
    refine V_iload (pc := 36) C dX6_clear_36 6 rfl ?_
    refine V_iload_n (pc := 38) C dX6_clear_38 rfl 2 rfl ?_
    refine V_icmp_gt (pc := 39) C 100 dX6_clear_39 rfl (fun c39 => ?_) (fun c39 => ?_)
    · replace h := t_pos c39 h
      exact V_sub [0, 1, 2, 3, 4] rfl (hJ100 _ h)
    · replace h := t_neg c39 h
      refine V_iload (pc := 42) C dX6_clear_42 4 rfl ?_
      refine V_iload_n (pc := 44) C dX6_clear_44 rfl 1 rfl ?_
      refine V_icmp_eq (pc := 45) C 100 dX6_clear_45 rfl (fun c45 => ?_) (fun c45 => ?_)
      · replace h := t_pos c45 h
        exact V_sub [0, 1, 2, 3, 4] rfl (hJ100 _ h)
      · replace h := t_neg c45 h
        refine V_aload_n (pc := 48) C dX6_clear_48 rfl 0 rfl ?_
        refine V_get (pc := 49) (v := .ref (a 14)) C 0 6 28 hiX6_clear_6 rfl rfl (by decide) wX6_clear_k0 rfl dX6_clear_49 ?_
        refine V_iconst (pc := 52) (v := 5) C dX6_clear_52 rfl ?_
        refine V_iload (pc := 53) C dX6_clear_53 4 rfl ?_
        refine V_imul (pc := 55) C dX6_clear_55 ?_
        refine V_iload (pc := 56) C dX6_clear_56 6 rfl ?_
        refine V_iadd (pc := 58) C dX6_clear_58 ?_
        refine V_lload_n (pc := 59) C dX6_clear_59 rfl 3 rfl ?_
        refine V_aload_n (pc := 60) C dX6_clear_60 rfl 0 rfl ?_
        refine V_get (pc := 61) (v := .ref (a 14)) C 0 6 28 hiX6_clear_6 rfl rfl (by decide) wX6_clear_k0 rfl dX6_clear_61 ?_
        refine V_iconst (pc := 64) (v := 5) C dX6_clear_64 rfl ?_
        refine V_iload (pc := 65) C dX6_clear_65 4 rfl ?_
        refine V_imul (pc := 67) C dX6_clear_67 ?_
        refine V_iload (pc := 68) C dX6_clear_68 6 rfl ?_
        refine V_iadd (pc := 70) C dX6_clear_70 ?_
        obtain ⟨b71, h⟩ := chk_some h
        refine V_lald (pc := 71) C 14 rfl b71 dX6_clear_71 ?_
        refine V_lmul (pc := 72) C dX6_clear_72 ?_
        refine V_lload (pc := 73) C dX6_clear_73 5 rfl ?_
        refine V_aload_n (pc := 75) C dX6_clear_75 rfl 0 rfl ?_
        refine V_get (pc := 76) (v := .ref (a 14)) C 0 6 28 hiX6_clear_6 rfl rfl (by decide) wX6_clear_k0 rfl dX6_clear_76 ?_
        refine V_iconst (pc := 79) (v := 5) C dX6_clear_79 rfl ?_
        refine V_iload_n (pc := 80) C dX6_clear_80 rfl 1 rfl ?_
        refine V_imul (pc := 81) C dX6_clear_81 ?_
        refine V_iload (pc := 82) C dX6_clear_82 6 rfl ?_
        refine V_iadd (pc := 84) C dX6_clear_84 ?_
        obtain ⟨b85, h⟩ := chk_some h
        refine V_lald (pc := 85) C 14 rfl b85 dX6_clear_85 ?_
        refine V_lmul (pc := 86) C dX6_clear_86 ?_
        refine V_lsub (pc := 87) C dX6_clear_87 ?_
        refine V_aload_n (pc := 88) C dX6_clear_88 rfl 0 rfl ?_
        refine V_get (pc := 89) (v := .long (F 30)) C 0 6 30 hiX6_clear_6 rfl rfl (by decide) wX6_clear_k2 rfl dX6_clear_89 ?_
        obtain ⟨b92, h⟩ := chk_some h
        refine V_ldiv (pc := 92) C dX6_clear_92 (ne0l_n b92) ?_
        obtain ⟨b93, h⟩ := chk_some h
        refine V_last (pc := 93) (ws' := wM Y a I A F (up L 28 (vp_updL mL28_36 (Int32.toNatClampNeg (((5 : Int32) * x5_14) + x8_36)) (((((L 28) (Int32.toNatClampNeg (((5 : Int32) * p0) + p0))) * (mL28_36 (Int32.toNatClampNeg (((5 : Int32) * x5_14) + x8_36)))) - ((mL28_14 (Int32.toNatClampNeg (((5 : Int32) * x5_14) + p0))) * (mL28_36 (Int32.toNatClampNeg (((5 : Int32) * p0) + x8_36))))) / (F 30))))) C 14 rfl b93 dX6_clear_93 rfl ?_
        refine V_iinc (pc := 94) (v := (x8_36 + 1)) (lv' := [(8, .int (x8_36 + 1)), (0, .ref (a 0)), (1, .int p0), (2, .int p1), (3, .long ((L 28) (Int32.toNatClampNeg (((5 : Int32) * p0) + p0)))), (5, .int x5_14), (6, .long (mL28_14 (Int32.toNatClampNeg (((5 : Int32) * x5_14) + p0))))]) C dX6_clear_94 6 rfl rfl (Nat.le_of_ble_eq_true rfl) rfl ?_
        refine V_goto (pc := 97) C 36 dX6_clear_97 rfl ?_
        exact V_sub [1, 2, 3, 4, 5, 6, 0] rfl (ih36 _ _ h)
def X6_solve (I : Nat → Int32) (A : Nat → Nat → Int32) (F : Nat → Int64) (L : Nat → Nat → Int64) (p0 : Int32) (p1 : Int32) : Option ((Nat → Int64) × (Nat → Int32) × Int64 × (Nat → Int64)) :=
  jn3 (fun (x3_46 : Int32) (mA29_46 : Nat → Int32) (mL31_46 : Nat → Int64) => jn1 (fun (mL28_133 : Nat → Int64) => jn2 (fun (mL28_160 : Nat → Int64) (mF30_160 : Int64) => wh2 (fun self163 (x4_163 : Int32) (mL31_163 : Nat → Int64) =>
  if x3_46 ≤ x4_163 then (some (mL28_160, mA29_46, mF30_160, mL31_163)) else (chk (inB x4_163 4) (chk (inB (((5 : Int32) * x4_163) + x3_46) 20) (chk (inB (mA29_46 (Int32.toNatClampNeg x4_163)) 4) (self163 (x4_163 + 1) (vp_updL mL31_163 (Int32.toNatClampNeg (mA29_46 (Int32.toNatClampNeg x4_163))) (mL28_160 (Int32.toNatClampNeg (((5 : Int32) * x4_163) + x3_46))))))))) 200 (0 : Int32) mL31_46) fun J160 =>
  wh3 (fun self141 (x4_141 : Int32) (mL28_141 : Nat → Int64) (mF30_141 : Int64) =>
  if x3_46 ≤ x4_141 then (J160 mL28_141 mF30_141) else (ob2 (X6_clear I (up A 29 mA29_46) (up F 30 mF30_141) (up (up L 31 mL31_46) 28 mL28_141) x4_141 x3_46) fun oL28_151 oF30_151 =>
  self141 (x4_141 + 1) oL28_151 oF30_151)) 200 (0 : Int32) mL28_133 (1 : Int64)) fun J133 =>
  wh2 (fun self49 (x4_49 : Int32) (mL28_49 : Nat → Int64) =>
  if x3_46 ≤ x4_49 then (J133 mL28_49) else (jn1 (fun (mL28_104 : Nat → Int64) => chk (inB x4_49 4) (chk (inB (mA29_46 (Int32.toNatClampNeg x4_49)) 4) (chk (inB (((5 : Int32) * x4_49) + x3_46) 20) (self49 (x4_49 + 1) (vp_updL mL28_104 (Int32.toNatClampNeg (((5 : Int32) * x4_49) + x3_46)) ((L 26) (Int32.toNatClampNeg (mA29_46 (Int32.toNatClampNeg x4_49))))))))) fun J104 =>
  wh2 (fun self58 (x5_58 : Int32) (mL28_58 : Nat → Int64) =>
  if x3_46 ≤ x5_58 then (J104 mL28_58) else (chk (inB x4_49 4) (chk (inB x5_58 4) (ob1 (X6_apart (mA29_46 (Int32.toNatClampNeg x4_49)) (mA29_46 (Int32.toNatClampNeg x5_58))) fun r93 =>
  chk (inB r93 4) (chk (inB (((5 : Int32) * x4_49) + x5_58) 20) (self58 (x5_58 + 1) (vp_updL mL28_58 (Int32.toNatClampNeg (((5 : Int32) * x4_49) + x5_58)) ((L 25) (Int32.toNatClampNeg r93))))))))) 200 (0 : Int32) mL28_49)) 200 (0 : Int32) (L 28)) fun J46 =>
  wh4 (fun self5 (x3_5 : Int32) (x4_5 : Int32) (mA29_5 : Nat → Int32) (mL31_5 : Nat → Int64) =>
  if p1 ≤ x4_5 then (J46 x3_5 mA29_5 mL31_5) else (chk (inB x4_5 4) (jn2 (fun (x3_40 : Int32) (mA29_40 : Nat → Int32) => self5 x3_40 (x4_5 + 1) mA29_40 (vp_updL mL31_5 (Int32.toNatClampNeg x4_5) (0 : Int64))) fun J40 =>
  if ((p0 >>> (x4_5 &&& 31)) &&& (1 : Int32)) = (1 : Int32) then (chk (inB x3_5 4) (J40 (x3_5 + 1) (upd mA29_5 (Int32.toNatClampNeg x3_5) x4_5))) else (J40 x3_5 mA29_5)))) 200 (0 : Int32) (0 : Int32) (A 29) (L 31)
theorem wX6_solve_k0 : Cond.fieldLink RX6 207 (TX6 30).1 (TX6 30).2.1 (TX6 30).2.2.1 ∈ wsX6_solve := by decide +kernel
theorem hiX6_solve_6 : ∀ w ∈ u_ws RX6 TX6 33, w ∈ wsX6_solve := fun _ h => List.mem_cons_of_mem _ (List.mem_append_right _ h)
theorem wX6_solve_k2 : Cond.fieldLink RX6 56 (TX6 31).1 (TX6 31).2.1 (TX6 31).2.2.1 ∈ wsX6_solve := by decide +kernel
theorem wX6_solve_k3 : Cond.fieldLink RX6 53 (TX6 29).1 (TX6 29).2.1 (TX6 29).2.2.1 ∈ wsX6_solve := by decide +kernel
theorem wX6_solve_k4 : Cond.fieldLink RX6 50 (TX6 28).1 (TX6 28).2.1 (TX6 28).2.2.1 ∈ wsX6_solve := by decide +kernel
theorem wX6_solve_k5 : Cond.fieldLink RX6 47 (TX6 26).1 (TX6 26).2.1 (TX6 26).2.2.1 ∈ wsX6_solve := by decide +kernel
theorem wX6_solve_k6 : Cond.fieldLink RX6 43 (TX6 25).1 (TX6 25).2.1 (TX6 25).2.2.1 ∈ wsX6_solve := by decide +kernel
theorem hdX6_solve : yX6_solve.cls ≠ "java/lang/invoke/MethodHandle" ∧ yX6_solve.cls ≠ "java/lang/invoke/VarHandle" ∧ (parseMethodDescriptor yX6_solve.desc).map (fun d => d.parameters.length) = some 2 := by decide +kernel
set_option maxHeartbeats 4000000 in
set_option maxRecDepth 100000 in
theorem X6_solve_ok {l : Launch} {D : va_G} {Y : Nat → ClassId} {a : Nat → Nat} {I : Nat → Int32} {A : Nat → Nat → Int32} {F : Nat → Int64} {L : Nat → Nat → Int64} {p0 : Int32} {p1 : Int32} {uL28 : Nat → Int64} {uA29 : Nat → Int32} {uF30 : Int64} {uL31 : Nat → Int64} (h : X6_solve I A F L p0 p1 = some (uL28, uA29, uF30, uL31)) : MW l yX6_solve wsX6_solve 1 28 D Y [.ref (a 0), .int p0, .int p1] (wM Y a I A F L) (wM Y a I (up A 29 uA29) (up F 30 uF30) (up (up L 28 uL28) 31 uL31)) none := by
  refine MW_of (cc := cX6_solve) (nL := 6) (ret := none) (lv0 := [(0, .ref (a 0)), (1, .int p0), (2, .int p1)]) (by decide) rfl (Nat.le_of_ble_eq_true rfl) rfl rfl (fun X Af Q C hA hQ => ?_)
  unfold X6_solve at h
  refine V_iconst (pc := 0) (v := 0) C dX6_solve_0 rfl ?_
  refine V_istore_n (pc := 1) (lv' := [(3, .int (0 : Int32)), (0, .ref (a 0)), (1, .int p0), (2, .int p1)]) C dX6_solve_1 rfl (Nat.le_of_ble_eq_true rfl) rfl ?_
  refine V_iconst (pc := 2) (v := 0) C dX6_solve_2 rfl ?_
  refine V_istore (pc := 3) (lv' := [(4, .int (0 : Int32)), (3, .int (0 : Int32)), (0, .ref (a 0)), (1, .int p0), (2, .int p1)]) C dX6_solve_3 (Nat.le_of_ble_eq_true rfl) rfl ?_
  refine jn3_ok (P := (fun (x3_46 : Int32) (mA29_46 : Nat → Int32) (mL31_46 : Nat → Int64) => VW X D 6 Q (KM Af X) (0, 0) (wM Y a I (up A 29 mA29_46) F (up L 31 mL31_46)) [(0, .ref (a 0)), (3, .int x3_46)] 46 [])) (fun x3_46 mA29_46 mL31_46 h => ?_) (fun J46 hJ46 h => ?_) h
  · refine V_iconst (pc := 46) (v := 0) C dX6_solve_46 rfl ?_
    refine V_istore (pc := 47) (lv' := [(4, .int (0 : Int32)), (0, .ref (a 0)), (3, .int x3_46)]) C dX6_solve_47 (Nat.le_of_ble_eq_true rfl) rfl ?_
    refine jn1_ok (P := (fun (mL28_133 : Nat → Int64) => VW X D 6 Q (KM Af X) (0, 0) (wM Y a I (up A 29 mA29_46) F (up (up L 31 mL31_46) 28 mL28_133)) [(0, .ref (a 0)), (3, .int x3_46)] 133 [])) (fun mL28_133 h => ?_) (fun J133 hJ133 h => ?_) h
    · refine V_aload_n (pc := 133) C dX6_solve_133 rfl 0 rfl ?_
      refine V_lconst (pc := 134) (v := 1) C dX6_solve_134 rfl ?_
      refine V_put (pc := 135) (ws' := wM Y a I (up A 29 mA29_46) (up F 30 (1 : Int64)) (up (up L 31 mL31_46) 28 mL28_133)) C 0 6 30 hiX6_solve_6 tyX6_ok nmX6 rfl rfl (by decide) wX6_solve_k0 rfl rfl rfl (Nat.le_of_ble_eq_true rfl) dX6_solve_135 rfl ?_
      refine V_iconst (pc := 138) (v := 0) C dX6_solve_138 rfl ?_
      refine V_istore (pc := 139) (lv' := [(4, .int (0 : Int32)), (0, .ref (a 0)), (3, .int x3_46)]) C dX6_solve_139 (Nat.le_of_ble_eq_true rfl) rfl ?_
      refine jn2_ok (P := (fun (mL28_160 : Nat → Int64) (mF30_160 : Int64) => VW X D 6 Q (KM Af X) (0, 0) (wM Y a I (up A 29 mA29_46) (up F 30 mF30_160) (up (up L 31 mL31_46) 28 mL28_160)) [(0, .ref (a 0)), (3, .int x3_46)] 160 [])) (fun mL28_160 mF30_160 h => ?_) (fun J160 hJ160 h => ?_) h
      · refine V_iconst (pc := 160) (v := 0) C dX6_solve_160 rfl ?_
        refine V_istore (pc := 161) (lv' := [(4, .int (0 : Int32)), (0, .ref (a 0)), (3, .int x3_46)]) C dX6_solve_161 (Nat.le_of_ble_eq_true rfl) rfl ?_
        refine V_sub [1, 2, 0] rfl (wh2_ok (P := (fun (x4_163 : Int32) (mL31_163 : Nat → Int64) => VW X D 6 Q (KM Af X) (0, 0) (wM Y a I (up A 29 mA29_46) (up F 30 mF30_160) (up (up L 31 mL31_163) 28 mL28_160)) [(0, .ref (a 0)), (3, .int x3_46), (4, .int x4_163)] 163 [])) (fun self163 ih163 x4_163 mL31_163 h => ?_) 200 _ _ h)
        refine V_iload (pc := 163) C dX6_solve_163 2 rfl ?_
        refine V_iload_n (pc := 165) C dX6_solve_165 rfl 1 rfl ?_
        refine V_icmp_ge (pc := 166) C 198 dX6_solve_166 rfl (fun c166 => ?_) (fun c166 => ?_)
        · replace h := t_pos c166 h
          cases h
          subst hQ
          exact V_vretW C dX6_solve_198
        · replace h := t_neg c166 h
          refine V_aload_n (pc := 169) C dX6_solve_169 rfl 0 rfl ?_
          refine V_get (pc := 170) (v := .ref (a 16)) C 0 6 31 hiX6_solve_6 rfl rfl (by decide) wX6_solve_k2 rfl dX6_solve_170 ?_
          refine V_aload_n (pc := 173) C dX6_solve_173 rfl 0 rfl ?_
          refine V_get (pc := 174) (v := .ref (a 15)) C 0 6 29 hiX6_solve_6 rfl rfl (by decide) wX6_solve_k3 rfl dX6_solve_174 ?_
          refine V_iload (pc := 177) C dX6_solve_177 2 rfl ?_
          obtain ⟨b179, h⟩ := chk_some h
          refine V_iald (pc := 179) C 15 rfl b179 dX6_solve_179 ?_
          refine V_aload_n (pc := 180) C dX6_solve_180 rfl 0 rfl ?_
          refine V_get (pc := 181) (v := .ref (a 14)) C 0 6 28 hiX6_solve_6 rfl rfl (by decide) wX6_solve_k4 rfl dX6_solve_181 ?_
          refine V_iconst (pc := 184) (v := 5) C dX6_solve_184 rfl ?_
          refine V_iload (pc := 185) C dX6_solve_185 2 rfl ?_
          refine V_imul (pc := 187) C dX6_solve_187 ?_
          refine V_iload_n (pc := 188) C dX6_solve_188 rfl 1 rfl ?_
          refine V_iadd (pc := 189) C dX6_solve_189 ?_
          obtain ⟨b190, h⟩ := chk_some h
          refine V_lald (pc := 190) C 14 rfl b190 dX6_solve_190 ?_
          obtain ⟨b191, h⟩ := chk_some h
          refine V_last (pc := 191) (ws' := wM Y a I (up A 29 mA29_46) (up F 30 mF30_160) (up (up L 31 (vp_updL mL31_163 (Int32.toNatClampNeg (mA29_46 (Int32.toNatClampNeg x4_163))) (mL28_160 (Int32.toNatClampNeg (((5 : Int32) * x4_163) + x3_46))))) 28 mL28_160)) C 16 rfl b191 dX6_solve_191 rfl ?_
          refine V_iinc (pc := 192) (v := (x4_163 + 1)) (lv' := [(4, .int (x4_163 + 1)), (0, .ref (a 0)), (3, .int x3_46)]) C dX6_solve_192 2 rfl rfl (Nat.le_of_ble_eq_true rfl) rfl ?_
          refine V_goto (pc := 195) C 163 dX6_solve_195 rfl ?_
          exact V_sub [1, 2, 0] rfl (ih163 _ _ h)
      refine V_sub [1, 2, 0] rfl (wh3_ok (P := (fun (x4_141 : Int32) (mL28_141 : Nat → Int64) (mF30_141 : Int64) => VW X D 6 Q (KM Af X) (0, 0) (wM Y a I (up A 29 mA29_46) (up F 30 mF30_141) (up (up L 31 mL31_46) 28 mL28_141)) [(0, .ref (a 0)), (3, .int x3_46), (4, .int x4_141)] 141 [])) (fun self141 ih141 x4_141 mL28_141 mF30_141 h => ?_) 200 _ _ _ h)
      refine V_iload (pc := 141) C dX6_solve_141 2 rfl ?_
      refine V_iload_n (pc := 143) C dX6_solve_143 rfl 1 rfl ?_
      refine V_icmp_ge (pc := 144) C 160 dX6_solve_144 rfl (fun c144 => ?_) (fun c144 => ?_)
      · replace h := t_pos c144 h
        exact V_sub [0, 1] rfl (hJ160 _ _ h)
      · replace h := t_neg c144 h
        refine V_aload_n (pc := 147) C dX6_solve_147 rfl 0 rfl ?_
        refine V_iload (pc := 148) C dX6_solve_148 2 rfl ?_
        refine V_iload_n (pc := 150) C dX6_solve_150 rfl 1 rfl ?_
        obtain ⟨oL28_151, oF30_151, hq, h⟩ := ob2_some h
        refine V_callVW0 (pc := 151) (rest := []) (st2 := []) (ws' := wM Y a I (up A 29 mA29_46) (up F 30 oF30_151) (up (up L 31 mL31_46) 28 oL28_151)) C hA (X6_clear_ok (a := a) hq) gX6_solve_X6_clear rfl ⟨rfl, hdX6_clear⟩ ⟨Nat.le_of_ble_eq_true rfl, Nat.le_of_ble_eq_true rfl⟩ ⟨Nat.le_refl _, Nat.le_refl _⟩ 0 6 rfl rfl rfl (Nat.le_of_ble_eq_true rfl) dX6_solve_151 rfl rfl ?_
        refine V_iinc (pc := 154) (v := (x4_141 + 1)) (lv' := [(4, .int (x4_141 + 1)), (0, .ref (a 0)), (3, .int x3_46)]) C dX6_solve_154 2 rfl rfl (Nat.le_of_ble_eq_true rfl) rfl ?_
        refine V_goto (pc := 157) C 141 dX6_solve_157 rfl ?_
        exact V_sub [1, 2, 0] rfl (ih141 _ _ _ h)
    refine V_sub [1, 2, 0] rfl (wh2_ok (P := (fun (x4_49 : Int32) (mL28_49 : Nat → Int64) => VW X D 6 Q (KM Af X) (0, 0) (wM Y a I (up A 29 mA29_46) F (up (up L 31 mL31_46) 28 mL28_49)) [(0, .ref (a 0)), (3, .int x3_46), (4, .int x4_49)] 49 [])) (fun self49 ih49 x4_49 mL28_49 h => ?_) 200 _ _ h)
    refine V_iload (pc := 49) C dX6_solve_49 2 rfl ?_
    refine V_iload_n (pc := 51) C dX6_solve_51 rfl 1 rfl ?_
    refine V_icmp_ge (pc := 52) C 133 dX6_solve_52 rfl (fun c52 => ?_) (fun c52 => ?_)
    · replace h := t_pos c52 h
      exact V_sub [0, 1] rfl (hJ133 _ h)
    · replace h := t_neg c52 h
      refine V_iconst (pc := 55) (v := 0) C dX6_solve_55 rfl ?_
      refine V_istore (pc := 56) (lv' := [(5, .int (0 : Int32)), (0, .ref (a 0)), (3, .int x3_46), (4, .int x4_49)]) C dX6_solve_56 (Nat.le_of_ble_eq_true rfl) rfl ?_
      refine jn1_ok (P := (fun (mL28_104 : Nat → Int64) => VW X D 6 Q (KM Af X) (0, 0) (wM Y a I (up A 29 mA29_46) F (up (up L 31 mL31_46) 28 mL28_104)) [(0, .ref (a 0)), (3, .int x3_46), (4, .int x4_49)] 104 [])) (fun mL28_104 h => ?_) (fun J104 hJ104 h => ?_) h
      · refine V_aload_n (pc := 104) C dX6_solve_104 rfl 0 rfl ?_
        refine V_get (pc := 105) (v := .ref (a 14)) C 0 6 28 hiX6_solve_6 rfl rfl (by decide) wX6_solve_k4 rfl dX6_solve_105 ?_
        refine V_iconst (pc := 108) (v := 5) C dX6_solve_108 rfl ?_
        refine V_iload (pc := 109) C dX6_solve_109 2 rfl ?_
        refine V_imul (pc := 111) C dX6_solve_111 ?_
        refine V_iload_n (pc := 112) C dX6_solve_112 rfl 1 rfl ?_
        refine V_iadd (pc := 113) C dX6_solve_113 ?_
        refine V_aload_n (pc := 114) C dX6_solve_114 rfl 0 rfl ?_
        refine V_get (pc := 115) (v := .ref (a 13)) C 0 6 26 hiX6_solve_6 rfl rfl (by decide) wX6_solve_k5 rfl dX6_solve_115 ?_
        refine V_aload_n (pc := 118) C dX6_solve_118 rfl 0 rfl ?_
        refine V_get (pc := 119) (v := .ref (a 15)) C 0 6 29 hiX6_solve_6 rfl rfl (by decide) wX6_solve_k3 rfl dX6_solve_119 ?_
        refine V_iload (pc := 122) C dX6_solve_122 2 rfl ?_
        obtain ⟨b124, h⟩ := chk_some h
        refine V_iald (pc := 124) C 15 rfl b124 dX6_solve_124 ?_
        obtain ⟨b125, h⟩ := chk_some h
        refine V_lald (pc := 125) C 13 rfl b125 dX6_solve_125 ?_
        obtain ⟨b126, h⟩ := chk_some h
        refine V_last (pc := 126) (ws' := wM Y a I (up A 29 mA29_46) F (up (up L 31 mL31_46) 28 (vp_updL mL28_104 (Int32.toNatClampNeg (((5 : Int32) * x4_49) + x3_46)) ((L 26) (Int32.toNatClampNeg (mA29_46 (Int32.toNatClampNeg x4_49))))))) C 14 rfl b126 dX6_solve_126 rfl ?_
        refine V_iinc (pc := 127) (v := (x4_49 + 1)) (lv' := [(4, .int (x4_49 + 1)), (0, .ref (a 0)), (3, .int x3_46)]) C dX6_solve_127 2 rfl rfl (Nat.le_of_ble_eq_true rfl) rfl ?_
        refine V_goto (pc := 130) C 49 dX6_solve_130 rfl ?_
        exact V_sub [1, 2, 0] rfl (ih49 _ _ h)
      refine V_sub [1, 2, 3, 0] rfl (wh2_ok (P := (fun (x5_58 : Int32) (mL28_58 : Nat → Int64) => VW X D 6 Q (KM Af X) (0, 0) (wM Y a I (up A 29 mA29_46) F (up (up L 31 mL31_46) 28 mL28_58)) [(0, .ref (a 0)), (3, .int x3_46), (4, .int x4_49), (5, .int x5_58)] 58 [])) (fun self58 ih58 x5_58 mL28_58 h => ?_) 200 _ _ h)
      refine V_iload (pc := 58) C dX6_solve_58 3 rfl ?_
      refine V_iload_n (pc := 60) C dX6_solve_60 rfl 1 rfl ?_
      refine V_icmp_ge (pc := 61) C 104 dX6_solve_61 rfl (fun c61 => ?_) (fun c61 => ?_)
      · replace h := t_pos c61 h
        exact V_sub [0, 1, 2] rfl (hJ104 _ h)
      · replace h := t_neg c61 h
        refine V_aload_n (pc := 64) C dX6_solve_64 rfl 0 rfl ?_
        refine V_get (pc := 65) (v := .ref (a 14)) C 0 6 28 hiX6_solve_6 rfl rfl (by decide) wX6_solve_k4 rfl dX6_solve_65 ?_
        refine V_iconst (pc := 68) (v := 5) C dX6_solve_68 rfl ?_
        refine V_iload (pc := 69) C dX6_solve_69 2 rfl ?_
        refine V_imul (pc := 71) C dX6_solve_71 ?_
        refine V_iload (pc := 72) C dX6_solve_72 3 rfl ?_
        refine V_iadd (pc := 74) C dX6_solve_74 ?_
        refine V_aload_n (pc := 75) C dX6_solve_75 rfl 0 rfl ?_
        refine V_get (pc := 76) (v := .ref (a 12)) C 0 6 25 hiX6_solve_6 rfl rfl (by decide) wX6_solve_k6 rfl dX6_solve_76 ?_
        refine V_aload_n (pc := 79) C dX6_solve_79 rfl 0 rfl ?_
        refine V_get (pc := 80) (v := .ref (a 15)) C 0 6 29 hiX6_solve_6 rfl rfl (by decide) wX6_solve_k3 rfl dX6_solve_80 ?_
        refine V_iload (pc := 83) C dX6_solve_83 2 rfl ?_
        obtain ⟨b85, h⟩ := chk_some h
        refine V_iald (pc := 85) C 15 rfl b85 dX6_solve_85 ?_
        refine V_aload_n (pc := 86) C dX6_solve_86 rfl 0 rfl ?_
        refine V_get (pc := 87) (v := .ref (a 15)) C 0 6 29 hiX6_solve_6 rfl rfl (by decide) wX6_solve_k3 rfl dX6_solve_87 ?_
        refine V_iload (pc := 90) C dX6_solve_90 3 rfl ?_
        obtain ⟨b92, h⟩ := chk_some h
        refine V_iald (pc := 92) C 15 rfl b92 dX6_solve_92 ?_
        obtain ⟨r93, hq, h⟩ := ob1_some h
        refine V_callSR (pc := 93) (rest := [.ref (a 12), .int (((5 : Int32) * x4_49) + x5_58), .ref (a 14)]) (st2 := [.int r93, .ref (a 12), .int (((5 : Int32) * x4_49) + x5_58), .ref (a 14)]) C (X6_apart_ok hq) gX6_solve_X6_apart rfl hdX6_apart ⟨Nat.le_of_ble_eq_true rfl, Nat.le_of_ble_eq_true rfl⟩ ⟨Nat.le_refl _, Nat.le_refl _⟩ [] rfl rfl (Nat.le_of_ble_eq_true rfl) dX6_solve_93 rfl ?_
        obtain ⟨b96, h⟩ := chk_some h
        refine V_lald (pc := 96) C 12 rfl b96 dX6_solve_96 ?_
        obtain ⟨b97, h⟩ := chk_some h
        refine V_last (pc := 97) (ws' := wM Y a I (up A 29 mA29_46) F (up (up L 31 mL31_46) 28 (vp_updL mL28_58 (Int32.toNatClampNeg (((5 : Int32) * x4_49) + x5_58)) ((L 25) (Int32.toNatClampNeg r93))))) C 14 rfl b97 dX6_solve_97 rfl ?_
        refine V_iinc (pc := 98) (v := (x5_58 + 1)) (lv' := [(5, .int (x5_58 + 1)), (0, .ref (a 0)), (3, .int x3_46), (4, .int x4_49)]) C dX6_solve_98 3 rfl rfl (Nat.le_of_ble_eq_true rfl) rfl ?_
        refine V_goto (pc := 101) C 58 dX6_solve_101 rfl ?_
        exact V_sub [1, 2, 3, 0] rfl (ih58 _ _ h)
  refine V_sub [2, 3, 4, 1, 0] rfl (wh4_ok (P := (fun (x3_5 : Int32) (x4_5 : Int32) (mA29_5 : Nat → Int32) (mL31_5 : Nat → Int64) => VW X D 6 Q (KM Af X) (0, 0) (wM Y a I (up A 29 mA29_5) F (up L 31 mL31_5)) [(0, .ref (a 0)), (1, .int p0), (2, .int p1), (3, .int x3_5), (4, .int x4_5)] 5 [])) (fun self5 ih5 x3_5 x4_5 mA29_5 mL31_5 h => ?_) 200 _ _ _ _ h)
  refine V_iload (pc := 5) C dX6_solve_5 4 rfl ?_
  refine V_iload_n (pc := 7) C dX6_solve_7 rfl 2 rfl ?_
  refine V_icmp_ge (pc := 8) C 46 dX6_solve_8 rfl (fun c8 => ?_) (fun c8 => ?_)
  · replace h := t_pos c8 h
    exact V_sub [0, 3] rfl (hJ46 _ _ _ h)
  · replace h := t_neg c8 h
    refine V_aload_n (pc := 11) C dX6_solve_11 rfl 0 rfl ?_
    refine V_get (pc := 12) (v := .ref (a 16)) C 0 6 31 hiX6_solve_6 rfl rfl (by decide) wX6_solve_k2 rfl dX6_solve_12 ?_
    refine V_iload (pc := 15) C dX6_solve_15 4 rfl ?_
    refine V_lconst (pc := 17) (v := 0) C dX6_solve_17 rfl ?_
    obtain ⟨b18, h⟩ := chk_some h
    refine V_last (pc := 18) (ws' := wM Y a I (up A 29 mA29_5) F (up L 31 (vp_updL mL31_5 (Int32.toNatClampNeg x4_5) (0 : Int64)))) C 16 rfl b18 dX6_solve_18 rfl ?_
    refine V_iload_n (pc := 19) C dX6_solve_19 rfl 1 rfl ?_
    refine V_iload (pc := 20) C dX6_solve_20 4 rfl ?_
    refine V_ishr (pc := 22) C dX6_solve_22 ?_
    refine V_iconst (pc := 23) (v := 1) C dX6_solve_23 rfl ?_
    refine V_iand (pc := 24) C dX6_solve_24 ?_
    refine V_iconst (pc := 25) (v := 1) C dX6_solve_25 rfl ?_
    refine jn2_ok (P := (fun (x3_40 : Int32) (mA29_40 : Nat → Int32) => VW X D 6 Q (KM Af X) (0, 0) (wM Y a I (up A 29 mA29_40) F (up L 31 (vp_updL mL31_5 (Int32.toNatClampNeg x4_5) (0 : Int64)))) [(0, .ref (a 0)), (1, .int p0), (2, .int p1), (3, .int x3_40), (4, .int x4_5)] 40 [])) (fun x3_40 mA29_40 h => ?_) (fun J40 hJ40 h => ?_) h
    · refine V_iinc (pc := 40) (v := (x4_5 + 1)) (lv' := [(4, .int (x4_5 + 1)), (0, .ref (a 0)), (1, .int p0), (2, .int p1), (3, .int x3_40)]) C dX6_solve_40 4 rfl rfl (Nat.le_of_ble_eq_true rfl) rfl ?_
      refine V_goto (pc := 43) C 5 dX6_solve_43 rfl ?_
      exact V_sub [1, 2, 3, 4, 0] rfl (ih5 _ _ _ _ h)
    refine V_icmp_ne (pc := 26) C 40 dX6_solve_26 rfl (fun c26 => ?_) (fun c26 => ?_)
    · replace h := t_neg c26 h
      exact V_sub [0, 1, 2, 3, 4] rfl (hJ40 _ _ h)
    · replace h := t_pos c26 h
      refine V_aload_n (pc := 29) C dX6_solve_29 rfl 0 rfl ?_
      refine V_get (pc := 30) (v := .ref (a 15)) C 0 6 29 hiX6_solve_6 rfl rfl (by decide) wX6_solve_k3 rfl dX6_solve_30 ?_
      refine V_iload_n (pc := 33) C dX6_solve_33 rfl 3 rfl ?_
      refine V_iload (pc := 34) C dX6_solve_34 4 rfl ?_
      obtain ⟨b36, h⟩ := chk_some h
      refine V_iast (pc := 36) (ws' := wM Y a I (up A 29 (upd mA29_5 (Int32.toNatClampNeg x3_5) x4_5)) F (up L 31 (vp_updL mL31_5 (Int32.toNatClampNeg x4_5) (0 : Int64)))) C 15 rfl b36 dX6_solve_36 rfl ?_
      refine V_iinc (pc := 37) (v := (x3_5 + 1)) (lv' := [(3, .int (x3_5 + 1)), (0, .ref (a 0)), (1, .int p0), (2, .int p1), (4, .int x4_5)]) C dX6_solve_37 3 rfl rfl (Nat.le_of_ble_eq_true rfl) rfl ?_
      exact V_sub [1, 2, 3, 0, 4] rfl (hJ40 _ _ h)
def X6_pressAbove (I : Nat → Int32) (A : Nat → Nat → Int32) (F : Nat → Int64) (L : Nat → Nat → Int64) (p0 : Int32) (p1 : Int32) : Option (Int64) :=
  chk (inB p0 4) (jn1 (fun (x3_50 : Int64) => some x3_50) fun J50 =>
  wh2 (fun self16 (x3_16 : Int64) (x5_16 : Int32) =>
  if p1 ≤ x5_16 then (J50 x3_16) else (ob1 (X6_apart p0 x5_16) fun r30 =>
  chk (inB r30 4) (chk (inB x5_16 4) (self16 (x3_16 + (((L 25) (Int32.toNatClampNeg r30)) * ((L 31) (Int32.toNatClampNeg x5_16)))) (x5_16 + 1))))) 200 ((-((L 26) (Int32.toNatClampNeg p0))) * (F 30)) (0 : Int32))
theorem wX6_pressAbove_k0 : Cond.fieldLink RX6 47 (TX6 26).1 (TX6 26).2.1 (TX6 26).2.2.1 ∈ wsX6_pressAbove := by decide +kernel
theorem hiX6_pressAbove_6 : ∀ w ∈ u_ws RX6 TX6 33, w ∈ wsX6_pressAbove := fun _ h => List.mem_cons_of_mem _ (List.mem_append_right _ h)
theorem wX6_pressAbove_k2 : Cond.fieldLink RX6 207 (TX6 30).1 (TX6 30).2.1 (TX6 30).2.2.1 ∈ wsX6_pressAbove := by decide +kernel
theorem wX6_pressAbove_k3 : Cond.fieldLink RX6 43 (TX6 25).1 (TX6 25).2.1 (TX6 25).2.2.1 ∈ wsX6_pressAbove := by decide +kernel
theorem wX6_pressAbove_k4 : Cond.fieldLink RX6 56 (TX6 31).1 (TX6 31).2.1 (TX6 31).2.2.1 ∈ wsX6_pressAbove := by decide +kernel
theorem hdX6_pressAbove : yX6_pressAbove.cls ≠ "java/lang/invoke/MethodHandle" ∧ yX6_pressAbove.cls ≠ "java/lang/invoke/VarHandle" ∧ (parseMethodDescriptor yX6_pressAbove.desc).map (fun d => d.parameters.length) = some 2 := by decide +kernel
set_option maxHeartbeats 4000000 in
set_option maxRecDepth 100000 in
theorem X6_pressAbove_ok {l : Launch} {D : va_G} {Y : Nat → ClassId} {a : Nat → Nat} {I : Nat → Int32} {A : Nat → Nat → Int32} {F : Nat → Int64} {L : Nat → Nat → Int64} {p0 : Int32} {p1 : Int32} {r : Int64} (h : X6_pressAbove I A F L p0 p1 = some r) : MR l yX6_pressAbove wsX6_pressAbove 1 21 D Y [.ref (a 0), .int p0, .int p1] (wM Y a I A F L) (some (.long r)) := by
  refine MR_of (cc := cX6_pressAbove) (nL := 6) (ret := some .long) (lv0 := [(0, .ref (a 0)), (1, .int p0), (2, .int p1)]) (by decide) rfl (Nat.le_of_ble_eq_true rfl) rfl (fun X Q C hQ => ?_)
  unfold X6_pressAbove at h
  refine V_aload_n (pc := 0) C dX6_pressAbove_0 rfl 0 rfl ?_
  refine V_get (pc := 1) (v := .ref (a 13)) C 0 6 26 hiX6_pressAbove_6 rfl rfl (by decide) wX6_pressAbove_k0 rfl dX6_pressAbove_1 ?_
  refine V_iload_n (pc := 4) C dX6_pressAbove_4 rfl 1 rfl ?_
  obtain ⟨b5, h⟩ := chk_some h
  refine V_lald (pc := 5) C 13 rfl b5 dX6_pressAbove_5 ?_
  refine V_lneg (pc := 6) C dX6_pressAbove_6 ?_
  refine V_aload_n (pc := 7) C dX6_pressAbove_7 rfl 0 rfl ?_
  refine V_get (pc := 8) (v := .long (F 30)) C 0 6 30 hiX6_pressAbove_6 rfl rfl (by decide) wX6_pressAbove_k2 rfl dX6_pressAbove_8 ?_
  refine V_lmul (pc := 11) C dX6_pressAbove_11 ?_
  refine V_lstore_n (pc := 12) (lv' := [(3, .long ((-((L 26) (Int32.toNatClampNeg p0))) * (F 30))), (0, .ref (a 0)), (1, .int p0), (2, .int p1)]) C dX6_pressAbove_12 rfl (Nat.le_of_ble_eq_true rfl) rfl ?_
  refine V_iconst (pc := 13) (v := 0) C dX6_pressAbove_13 rfl ?_
  refine V_istore (pc := 14) (lv' := [(5, .int (0 : Int32)), (3, .long ((-((L 26) (Int32.toNatClampNeg p0))) * (F 30))), (0, .ref (a 0)), (1, .int p0), (2, .int p1)]) C dX6_pressAbove_14 (Nat.le_of_ble_eq_true rfl) rfl ?_
  refine jn1_ok (P := (fun (x3_50 : Int64) => VW X D 6 Q (KR X) (0, 0) (wM Y a I A F L) [(3, .long x3_50)] 50 [])) (fun x3_50 h => ?_) (fun J50 hJ50 h => ?_) h
  · refine V_lload_n (pc := 50) C dX6_pressAbove_50 rfl 0 rfl ?_
    cases h
    subst hQ
    exact V_lretR C dX6_pressAbove_51
  refine V_sub [2, 3, 4, 1, 0] rfl (wh2_ok (P := (fun (x3_16 : Int64) (x5_16 : Int32) => VW X D 6 Q (KR X) (0, 0) (wM Y a I A F L) [(0, .ref (a 0)), (1, .int p0), (2, .int p1), (3, .long x3_16), (5, .int x5_16)] 16 [])) (fun self16 ih16 x3_16 x5_16 h => ?_) 200 _ _ h)
  refine V_iload (pc := 16) C dX6_pressAbove_16 4 rfl ?_
  refine V_iload_n (pc := 18) C dX6_pressAbove_18 rfl 2 rfl ?_
  refine V_icmp_ge (pc := 19) C 50 dX6_pressAbove_19 rfl (fun c19 => ?_) (fun c19 => ?_)
  · replace h := t_pos c19 h
    exact V_sub [3] rfl (hJ50 _ h)
  · replace h := t_neg c19 h
    refine V_lload_n (pc := 22) C dX6_pressAbove_22 rfl 3 rfl ?_
    refine V_aload_n (pc := 23) C dX6_pressAbove_23 rfl 0 rfl ?_
    refine V_get (pc := 24) (v := .ref (a 12)) C 0 6 25 hiX6_pressAbove_6 rfl rfl (by decide) wX6_pressAbove_k3 rfl dX6_pressAbove_24 ?_
    refine V_iload_n (pc := 27) C dX6_pressAbove_27 rfl 1 rfl ?_
    refine V_iload (pc := 28) C dX6_pressAbove_28 4 rfl ?_
    obtain ⟨r30, hq, h⟩ := ob1_some h
    refine V_callSR (pc := 30) (rest := [.ref (a 12), .long x3_16]) (st2 := [.int r30, .ref (a 12), .long x3_16]) C (X6_apart_ok hq) gX6_pressAbove_X6_apart rfl hdX6_apart ⟨Nat.le_of_ble_eq_true rfl, Nat.le_of_ble_eq_true rfl⟩ ⟨Nat.le_refl _, Nat.le_refl _⟩ [] rfl rfl (Nat.le_of_ble_eq_true rfl) dX6_pressAbove_30 rfl ?_
    obtain ⟨b33, h⟩ := chk_some h
    refine V_lald (pc := 33) C 12 rfl b33 dX6_pressAbove_33 ?_
    refine V_aload_n (pc := 34) C dX6_pressAbove_34 rfl 0 rfl ?_
    refine V_get (pc := 35) (v := .ref (a 16)) C 0 6 31 hiX6_pressAbove_6 rfl rfl (by decide) wX6_pressAbove_k4 rfl dX6_pressAbove_35 ?_
    refine V_iload (pc := 38) C dX6_pressAbove_38 4 rfl ?_
    obtain ⟨b40, h⟩ := chk_some h
    refine V_lald (pc := 40) C 16 rfl b40 dX6_pressAbove_40 ?_
    refine V_lmul (pc := 41) C dX6_pressAbove_41 ?_
    refine V_ladd (pc := 42) C dX6_pressAbove_42 ?_
    refine V_lstore_n (pc := 43) (lv' := [(3, .long (x3_16 + (((L 25) (Int32.toNatClampNeg r30)) * ((L 31) (Int32.toNatClampNeg x5_16))))), (0, .ref (a 0)), (1, .int p0), (2, .int p1), (5, .int x5_16)]) C dX6_pressAbove_43 rfl (Nat.le_of_ble_eq_true rfl) rfl ?_
    refine V_iinc (pc := 44) (v := (x5_16 + 1)) (lv' := [(5, .int (x5_16 + 1)), (3, .long (x3_16 + (((L 25) (Int32.toNatClampNeg r30)) * ((L 31) (Int32.toNatClampNeg x5_16))))), (0, .ref (a 0)), (1, .int p0), (2, .int p1)]) C dX6_pressAbove_44 4 rfl rfl (Nat.le_of_ble_eq_true rfl) rfl ?_
    refine V_goto (pc := 47) C 16 dX6_pressAbove_47 rfl ?_
    exact V_sub [2, 3, 4, 1, 0] rfl (ih16 _ _ h)
def X6_isBest (I : Nat → Int32) (A : Nat → Nat → Int32) (F : Nat → Int64) (L : Nat → Nat → Int64) (p0 : Int32) : Option (Int32) :=
  jn1 (fun (x2_47 : Int32) => chk (isB x2_47) (some x2_47)) fun J47 =>
  wh2 (fun self4 (x2_4 : Int32) (x3_4 : Int32) =>
  if p0 ≤ x3_4 then (J47 x2_4) else (jn1 (fun (s40_0 : Int32) => self4 s40_0 (x3_4 + 1)) fun J40 =>
  if x2_4 = 0 then (J40 (0 : Int32)) else (chk (inB x3_4 4) (if ((L 31) (Int32.toNatClampNeg x3_4)) < (0 : Int64) then (J40 (0 : Int32)) else (ob1 (X6_pressAbove I A F L x3_4 p0) fun r27 =>
  if r27 < (0 : Int64) then (J40 (0 : Int32)) else (J40 (1 : Int32))))))) 200 (1 : Int32) (0 : Int32)
theorem wX6_isBest_k0 : Cond.fieldLink RX6 56 (TX6 31).1 (TX6 31).2.1 (TX6 31).2.2.1 ∈ wsX6_isBest := by decide +kernel
theorem hiX6_isBest_6 : ∀ w ∈ u_ws RX6 TX6 33, w ∈ wsX6_isBest := fun _ h => List.mem_cons_of_mem _ (List.mem_append_right _ h)
theorem hdX6_isBest : yX6_isBest.cls ≠ "java/lang/invoke/MethodHandle" ∧ yX6_isBest.cls ≠ "java/lang/invoke/VarHandle" ∧ (parseMethodDescriptor yX6_isBest.desc).map (fun d => d.parameters.length) = some 1 := by decide +kernel
set_option maxHeartbeats 4000000 in
set_option maxRecDepth 100000 in
theorem X6_isBest_ok {l : Launch} {D : va_G} {Y : Nat → ClassId} {a : Nat → Nat} {I : Nat → Int32} {A : Nat → Nat → Int32} {F : Nat → Int64} {L : Nat → Nat → Int64} {p0 : Int32} {r : Int32} (h : X6_isBest I A F L p0 = some r) : MR l yX6_isBest wsX6_isBest 2 46 D Y [.ref (a 0), .int p0] (wM Y a I A F L) (some (.int r)) := by
  refine MR_of (cc := cX6_isBest) (nL := 4) (ret := some .boolean) (lv0 := [(0, .ref (a 0)), (1, .int p0)]) (by decide) rfl (Nat.le_of_ble_eq_true rfl) rfl (fun X Q C hQ => ?_)
  unfold X6_isBest at h
  refine V_iconst (pc := 0) (v := 1) C dX6_isBest_0 rfl ?_
  refine V_istore_n (pc := 1) (lv' := [(2, .int (1 : Int32)), (0, .ref (a 0)), (1, .int p0)]) C dX6_isBest_1 rfl (Nat.le_of_ble_eq_true rfl) rfl ?_
  refine V_iconst (pc := 2) (v := 0) C dX6_isBest_2 rfl ?_
  refine V_istore_n (pc := 3) (lv' := [(3, .int (0 : Int32)), (2, .int (1 : Int32)), (0, .ref (a 0)), (1, .int p0)]) C dX6_isBest_3 rfl (Nat.le_of_ble_eq_true rfl) rfl ?_
  refine jn1_ok (P := (fun (x2_47 : Int32) => VW X D 4 Q (KR X) (0, 0) (wM Y a I A F L) [(2, .int x2_47)] 47 [])) (fun x2_47 h => ?_) (fun J47 hJ47 h => ?_) h
  · refine V_iload_n (pc := 47) C dX6_isBest_47 rfl 0 rfl ?_
    obtain ⟨b48, h⟩ := chk_some h
    cases h
    subst hQ
    exact V_zretR C (isB_n b48) dX6_isBest_48
  refine V_sub [2, 3, 1, 0] rfl (wh2_ok (P := (fun (x2_4 : Int32) (x3_4 : Int32) => VW X D 4 Q (KR X) (0, 0) (wM Y a I A F L) [(0, .ref (a 0)), (1, .int p0), (2, .int x2_4), (3, .int x3_4)] 4 [])) (fun self4 ih4 x2_4 x3_4 h => ?_) 200 _ _ h)
  refine V_iload_n (pc := 4) C dX6_isBest_4 rfl 3 rfl ?_
  refine V_iload_n (pc := 5) C dX6_isBest_5 rfl 1 rfl ?_
  refine V_icmp_ge (pc := 6) C 47 dX6_isBest_6 rfl (fun c6 => ?_) (fun c6 => ?_)
  · replace h := t_pos c6 h
    exact V_sub [2] rfl (hJ47 _ h)
  · replace h := t_neg c6 h
    refine V_iload_n (pc := 9) C dX6_isBest_9 rfl 2 rfl ?_
    refine jn1_ok (P := (fun (s40_0 : Int32) => VW X D 4 Q (KR X) (0, 0) (wM Y a I A F L) [(0, .ref (a 0)), (1, .int p0), (3, .int x3_4)] 40 [.int s40_0])) (fun s40_0 h => ?_) (fun J40 hJ40 h => ?_) h
    · refine V_istore_n (pc := 40) (lv' := [(2, .int s40_0), (0, .ref (a 0)), (1, .int p0), (3, .int x3_4)]) C dX6_isBest_40 rfl (Nat.le_of_ble_eq_true rfl) rfl ?_
      refine V_iinc (pc := 41) (v := (x3_4 + 1)) (lv' := [(3, .int (x3_4 + 1)), (2, .int s40_0), (0, .ref (a 0)), (1, .int p0)]) C dX6_isBest_41 3 rfl rfl (Nat.le_of_ble_eq_true rfl) rfl ?_
      refine V_goto (pc := 44) C 4 dX6_isBest_44 rfl ?_
      exact V_sub [2, 3, 1, 0] rfl (ih4 _ _ h)
    refine V_if_eq (pc := 10) C 39 dX6_isBest_10 rfl (fun c10 => ?_) (fun c10 => ?_)
    · replace h := t_pos c10 h
      refine V_iconst (pc := 39) (v := 0) C dX6_isBest_39 rfl ?_
      exact V_sub [0, 1, 3] rfl (hJ40 _ h)
    · replace h := t_neg c10 h
      refine V_aload_n (pc := 13) C dX6_isBest_13 rfl 0 rfl ?_
      refine V_get (pc := 14) (v := .ref (a 16)) C 0 6 31 hiX6_isBest_6 rfl rfl (by decide) wX6_isBest_k0 rfl dX6_isBest_14 ?_
      refine V_iload_n (pc := 17) C dX6_isBest_17 rfl 3 rfl ?_
      obtain ⟨b18, h⟩ := chk_some h
      refine V_lald (pc := 18) C 16 rfl b18 dX6_isBest_18 ?_
      refine V_lconst (pc := 19) (v := 0) C dX6_isBest_19 rfl ?_
      refine V_lcmp (pc := 20) C dX6_isBest_20 ?_
      refine V_lif_lt (pc := 21) C 39 dX6_isBest_21 rfl (fun c21 => ?_) (fun c21 => ?_)
      · replace h := t_pos c21 h
        refine V_iconst (pc := 39) (v := 0) C dX6_isBest_39 rfl ?_
        exact V_sub [0, 1, 3] rfl (hJ40 _ h)
      · replace h := t_neg c21 h
        refine V_aload_n (pc := 24) C dX6_isBest_24 rfl 0 rfl ?_
        refine V_iload_n (pc := 25) C dX6_isBest_25 rfl 3 rfl ?_
        refine V_iload_n (pc := 26) C dX6_isBest_26 rfl 1 rfl ?_
        obtain ⟨r27, hq, h⟩ := ob1_some h
        refine V_callVR0 (pc := 27) (rest := []) (st2 := [.long r27]) C (X6_pressAbove_ok (a := a) hq) gX6_isBest_X6_pressAbove rfl ⟨rfl, hdX6_pressAbove⟩ ⟨Nat.le_of_ble_eq_true rfl, Nat.le_of_ble_eq_true rfl⟩ ⟨Nat.le_refl _, Nat.le_refl _⟩ 0 6 rfl rfl rfl (Nat.le_of_ble_eq_true rfl) dX6_isBest_27 rfl ?_
        refine V_lconst (pc := 30) (v := 0) C dX6_isBest_30 rfl ?_
        refine V_lcmp (pc := 31) C dX6_isBest_31 ?_
        refine V_lif_lt (pc := 32) C 39 dX6_isBest_32 rfl (fun c32 => ?_) (fun c32 => ?_)
        · replace h := t_pos c32 h
          refine V_iconst (pc := 39) (v := 0) C dX6_isBest_39 rfl ?_
          exact V_sub [0, 1, 3] rfl (hJ40 _ h)
        · replace h := t_neg c32 h
          refine V_iconst (pc := 35) (v := 1) C dX6_isBest_35 rfl ?_
          refine V_goto (pc := 36) C 40 dX6_isBest_36 rfl ?_
          exact V_sub [0, 1, 3] rfl (hJ40 _ h)
