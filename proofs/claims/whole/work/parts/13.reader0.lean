def X1_begin (pl : Int32) (ln : Int32) (ou : Int32) (im : Int32) (n1 : Int32) (f1 : Nat → Int32) (n2 : Int32) (f2 : Nat → Int32) : Option (Int32 × Int32 × Int32 × Int32 × Int32 × Int32) :=
  ob1 (X2_clear n1 f1) fun on_4 =>
  ob1 (X2_clear n2 f2) fun on_11 =>
  some ((0 : Int32), (1 : Int32), (0 : Int32), (0 : Int32), on_4, on_11)
theorem wX1_begin_k0 : Cond.fieldLink RX1 12 (TX1 0).1 (TX1 0).2.1 (TX1 0).2.2.1 ∈ wsX1_begin := by decide +kernel
theorem hiX1_begin_1 : ∀ w ∈ u_ws RX1 TX1 6, w ∈ wsX1_begin := fun _ h => List.mem_cons_of_mem _ (List.mem_append_left _ (List.mem_append_right _ h))
theorem wX1_begin_k2 : Cond.fieldLink RX1 18 (TX1 1).1 (TX1 1).2.1 (TX1 1).2.2.1 ∈ wsX1_begin := by decide +kernel
theorem wX1_begin_k3 : Cond.fieldLink RX1 28 (TX1 2).1 (TX1 2).2.1 (TX1 2).2.2.1 ∈ wsX1_begin := by decide +kernel
theorem wX1_begin_k4 : Cond.fieldLink RX1 39 (TX1 3).1 (TX1 3).2.1 (TX1 3).2.2.1 ∈ wsX1_begin := by decide +kernel
theorem wX1_begin_k5 : Cond.fieldLink RX1 36 (TX1 4).1 (TX1 4).2.1 (TX1 4).2.2.1 ∈ wsX1_begin := by decide +kernel
theorem wX1_begin_k6 : Cond.fieldLink RX1 32 (TX1 5).1 (TX1 5).2.1 (TX1 5).2.2.1 ∈ wsX1_begin := by decide +kernel
theorem hdX1_begin : yX1_begin.cls ≠ "java/lang/invoke/MethodHandle" ∧ yX1_begin.cls ≠ "java/lang/invoke/VarHandle" ∧ (parseMethodDescriptor yX1_begin.desc).map (fun d => d.parameters.length) = some 0 := by decide +kernel
set_option maxHeartbeats 4000000 in
set_option maxRecDepth 100000 in
theorem X1_begin_ok {l : Launch} {D : va_G} {Y : Nat → ClassId} {a : Nat → Nat} {pl : Int32} {ln : Int32} {ou : Int32} {im : Int32} {n1 : Int32} {f1 : Nat → Int32} {n2 : Int32} {f2 : Nat → Int32} {upl : Int32} {uln : Int32} {uou : Int32} {uim : Int32} {un1 : Int32} {un2 : Int32} (h : X1_begin pl ln ou im n1 f1 n2 f2 = some (upl, uln, uou, uim, un1, un2)) : MW l yX1_begin wsX1_begin 1 20 D Y [.ref (a 0)] (wReader Y a pl ln ou im n1 f1 n2 f2) (wReader Y a upl uln uou uim un1 f1 un2 f2) none := by
  refine MW_of (cc := cX1_begin) (nL := 1) (ret := none) (lv0 := [(0, .ref (a 0))]) (by decide) rfl (Nat.le_of_ble_eq_true rfl) rfl rfl (fun X Af Q C hA hQ => ?_)
  unfold X1_begin at h
  refine V_aload_n (pc := 0) C dX1_begin_0 rfl 0 rfl ?_
  refine V_get (pc := 1) (v := .ref (a 1)) C 0 1 0 hiX1_begin_1 rfl rfl (by decide) wX1_begin_k0 rfl dX1_begin_1 ?_
  obtain ⟨on_4, hq, h⟩ := ob1_some h
  refine V_callVW (pc := 4) (rest := []) (st2 := []) (ws' := wReader Y a pl ln ou im on_4 f1 n2 f2) C hA (X2_clear_ok (a := (a 1)) (b := (a 2)) hq) gX1_begin_X2_clear rfl ⟨rfl, hdX2_clear⟩ ⟨Nat.le_of_ble_eq_true rfl, Nat.le_of_ble_eq_true rfl⟩ ⟨Nat.le_refl _, Nat.le_refl _⟩ [1, 2] rfl rfl 1 2 rfl rfl rfl (Nat.le_of_ble_eq_true rfl) dX1_begin_4 rfl rfl ?_
  refine V_aload_n (pc := 7) C dX1_begin_7 rfl 0 rfl ?_
  refine V_get (pc := 8) (v := .ref (a 3)) C 0 1 1 hiX1_begin_1 rfl rfl (by decide) wX1_begin_k2 rfl dX1_begin_8 ?_
  obtain ⟨on_11, hq, h⟩ := ob1_some h
  refine V_callVW (pc := 11) (rest := []) (st2 := []) (ws' := wReader Y a pl ln ou im on_4 f1 on_11 f2) C hA (X2_clear_ok (a := (a 3)) (b := (a 4)) hq) gX1_begin_X2_clear rfl ⟨rfl, hdX2_clear⟩ ⟨Nat.le_of_ble_eq_true rfl, Nat.le_of_ble_eq_true rfl⟩ ⟨Nat.le_refl _, Nat.le_refl _⟩ [3, 4] rfl rfl 3 2 rfl rfl rfl (Nat.le_of_ble_eq_true rfl) dX1_begin_11 rfl rfl ?_
  refine V_aload_n (pc := 14) C dX1_begin_14 rfl 0 rfl ?_
  refine V_iconst (pc := 15) (v := 0) C dX1_begin_15 rfl ?_
  refine V_put (pc := 16) (ws' := wReader Y a (0 : Int32) ln ou im on_4 f1 on_11 f2) C 0 1 2 hiX1_begin_1 tyX1_ok nmX1 rfl rfl (by decide) wX1_begin_k3 rfl rfl rfl (Nat.le_of_ble_eq_true rfl) dX1_begin_16 rfl ?_
  refine V_aload_n (pc := 19) C dX1_begin_19 rfl 0 rfl ?_
  refine V_iconst (pc := 20) (v := 1) C dX1_begin_20 rfl ?_
  refine V_put (pc := 21) (ws' := wReader Y a (0 : Int32) (1 : Int32) ou im on_4 f1 on_11 f2) C 0 1 3 hiX1_begin_1 tyX1_ok nmX1 rfl rfl (by decide) wX1_begin_k4 rfl rfl rfl (Nat.le_of_ble_eq_true rfl) dX1_begin_21 rfl ?_
  refine V_aload_n (pc := 24) C dX1_begin_24 rfl 0 rfl ?_
  refine V_iconst (pc := 25) (v := 0) C dX1_begin_25 rfl ?_
  refine V_put (pc := 26) (ws' := wReader Y a (0 : Int32) (1 : Int32) (0 : Int32) im on_4 f1 on_11 f2) C 0 1 4 hiX1_begin_1 tyX1_ok nmX1 rfl rfl (by decide) wX1_begin_k5 rfl (by decide) (by decide) (Nat.le_of_ble_eq_true rfl) dX1_begin_26 rfl ?_
  refine V_aload_n (pc := 29) C dX1_begin_29 rfl 0 rfl ?_
  refine V_iconst (pc := 30) (v := 0) C dX1_begin_30 rfl ?_
  refine V_put (pc := 31) (ws' := wReader Y a (0 : Int32) (1 : Int32) (0 : Int32) (0 : Int32) on_4 f1 on_11 f2) C 0 1 5 hiX1_begin_1 tyX1_ok nmX1 rfl rfl (by decide) wX1_begin_k6 rfl (by decide) (by decide) (Nat.le_of_ble_eq_true rfl) dX1_begin_31 rfl ?_
  cases h
  subst hQ
  exact V_vretW C dX1_begin_34
def X1_takesFigure_row (pl : Int32) (ln : Int32) (ou : Int32) (im : Int32) (n1 : Int32) (f1 : Nat → Int32) (n2 : Int32) (f2 : Nat → Int32) (p1 : Int32) (p2 : Int32) : Option (Int32 × Int32 × Int32 × (Nat → Int32)) :=
  jn1 (fun (s15_0 : Int32) => jn1 (fun (s43_0 : Int32) => if s43_0 = 0 then (if ((s15_0 * (10 : Int32)) + p1) ≤ p2 then (jn2 (fun (mn2_80 : Int32) (mf2_80 : Nat → Int32) => some ((1 : Int32), (1 : Int32), mn2_80, mf2_80)) fun J80 =>
  if im = 0 then (ob2 (X2_add n2 f2 ((s15_0 * (10 : Int32)) + p1)) fun on_77 of_77 =>
  J80 on_77 of_77) else (ob1 (X2_setLast n2 f2 ((s15_0 * (10 : Int32)) + p1)) fun of_68 =>
  J80 n2 of_68)) else (some ((0 : Int32), im, n2, f2))) else (some ((0 : Int32), im, n2, f2))) fun J43 =>
  if im = 0 then (J43 (0 : Int32)) else (if s15_0 = 0 then (J43 (1 : Int32)) else (J43 (0 : Int32)))) fun J15 =>
  if im = 0 then (J15 (0 : Int32)) else (ob1 (X2_last n2 f2) fun r8 =>
  J15 r8)
theorem wX1_takesFigure_k0 : Cond.fieldLink RX1 32 (TX1 5).1 (TX1 5).2.1 (TX1 5).2.2.1 ∈ wsX1_takesFigure := by decide +kernel
theorem hiX1_takesFigure_1 : ∀ w ∈ u_ws RX1 TX1 6, w ∈ wsX1_takesFigure := fun _ h => List.mem_cons_of_mem _ (List.mem_append_left _ (List.mem_append_right _ h))
theorem hdX1_takesFigure : yX1_takesFigure.cls ≠ "java/lang/invoke/MethodHandle" ∧ yX1_takesFigure.cls ≠ "java/lang/invoke/VarHandle" ∧ (parseMethodDescriptor yX1_takesFigure.desc).map (fun d => d.parameters.length) = some 3 := by decide +kernel
set_option maxHeartbeats 4000000 in
set_option maxRecDepth 100000 in
theorem X1_takesFigure_row_ok {l : Launch} {D : va_G} {Y : Nat → ClassId} {a : Nat → Nat} {pl : Int32} {ln : Int32} {ou : Int32} {im : Int32} {n1 : Int32} {f1 : Nat → Int32} {n2 : Int32} {f2 : Nat → Int32} {p1 : Int32} {p2 : Int32} {r : Int32} {uim : Int32} {un2 : Int32} {uf2 : Nat → Int32} (h : X1_takesFigure_row pl ln ou im n1 f1 n2 f2 p1 p2 = some (r, uim, un2, uf2)) : MW l yX1_takesFigure wsX1_takesFigure 1 21 D Y [.ref (a 0), .ref (a 3), .int p1, .int p2] (wReader Y a pl ln ou im n1 f1 n2 f2) (wReader Y a pl ln ou uim n1 f1 un2 uf2) (some (.int r)) := by
  refine MW_of (cc := cX1_takesFigure) (nL := 7) (ret := some .boolean) (lv0 := [(0, .ref (a 0)), (1, .ref (a 3)), (2, .int p1), (3, .int p2)]) (by decide) rfl (Nat.le_of_ble_eq_true rfl) rfl rfl (fun X Af Q C hA hQ => ?_)
  unfold X1_takesFigure_row at h
  refine V_aload_n (pc := 0) C dX1_takesFigure_0 rfl 0 rfl ?_
  refine V_get (pc := 1) (v := .int im) C 0 1 5 hiX1_takesFigure_1 rfl rfl (by decide) wX1_takesFigure_k0 rfl dX1_takesFigure_1 ?_
  refine jn1_ok (P := (fun (s15_0 : Int32) => VW X D 7 Q (KM Af X) (0, 0) (wReader Y a pl ln ou im n1 f1 n2 f2) [(0, .ref (a 0)), (1, .ref (a 3)), (2, .int p1), (3, .int p2)] 15 [.int s15_0])) (fun s15_0 h => ?_) (fun J15 hJ15 h => ?_) h
  · refine V_istore (pc := 15) (lv' := [(4, .int s15_0), (0, .ref (a 0)), (1, .ref (a 3)), (2, .int p1), (3, .int p2)]) C dX1_takesFigure_15 (Nat.le_of_ble_eq_true rfl) rfl ?_
    refine V_iload (pc := 17) C dX1_takesFigure_17 0 rfl ?_
    refine V_bipush (pc := 19) (v := 10) C dX1_takesFigure_19 rfl ?_
    refine V_imul (pc := 21) C dX1_takesFigure_21 ?_
    refine V_iload_n (pc := 22) C dX1_takesFigure_22 rfl 3 rfl ?_
    refine V_iadd (pc := 23) C dX1_takesFigure_23 ?_
    refine V_istore (pc := 24) (lv' := [(5, .int ((s15_0 * (10 : Int32)) + p1)), (4, .int s15_0), (0, .ref (a 0)), (1, .ref (a 3)), (2, .int p1), (3, .int p2)]) C dX1_takesFigure_24 (Nat.le_of_ble_eq_true rfl) rfl ?_
    refine V_aload_n (pc := 26) C dX1_takesFigure_26 rfl 2 rfl ?_
    refine V_get (pc := 27) (v := .int im) C 0 1 5 hiX1_takesFigure_1 rfl rfl (by decide) wX1_takesFigure_k0 rfl dX1_takesFigure_27 ?_
    refine jn1_ok (P := (fun (s43_0 : Int32) => VW X D 7 Q (KM Af X) (0, 0) (wReader Y a pl ln ou im n1 f1 n2 f2) [(0, .ref (a 0)), (1, .ref (a 3)), (3, .int p2), (5, .int ((s15_0 * (10 : Int32)) + p1))] 43 [.int s43_0])) (fun s43_0 h => ?_) (fun J43 hJ43 h => ?_) h
    · refine V_istore (pc := 43) (lv' := [(6, .int s43_0), (0, .ref (a 0)), (1, .ref (a 3)), (3, .int p2), (5, .int ((s15_0 * (10 : Int32)) + p1))]) C dX1_takesFigure_43 (Nat.le_of_ble_eq_true rfl) rfl ?_
      refine V_iload (pc := 45) C dX1_takesFigure_45 0 rfl ?_
      refine V_if_ne (pc := 47) C 56 dX1_takesFigure_47 rfl (fun c47 => ?_) (fun c47 => ?_)
      · replace h := t_neg c47 h
        refine V_iconst (pc := 56) (v := 0) C dX1_takesFigure_56 rfl ?_
        cases h
        subst hQ
        exact V_zretW C (by decide) dX1_takesFigure_57
      · replace h := t_pos c47 h
        refine V_iload (pc := 50) C dX1_takesFigure_50 4 rfl ?_
        refine V_iload_n (pc := 52) C dX1_takesFigure_52 rfl 3 rfl ?_
        refine V_icmp_le (pc := 53) C 58 dX1_takesFigure_53 rfl (fun c53 => ?_) (fun c53 => ?_)
        · replace h := t_pos c53 h
          refine V_aload_n (pc := 58) C dX1_takesFigure_58 rfl 1 rfl ?_
          refine V_get (pc := 59) (v := .int im) C 0 1 5 hiX1_takesFigure_1 rfl rfl (by decide) wX1_takesFigure_k0 rfl dX1_takesFigure_59 ?_
          refine jn2_ok (P := (fun (mn2_80 : Int32) (mf2_80 : Nat → Int32) => VW X D 7 Q (KM Af X) (0, 0) (wReader Y a pl ln ou im n1 f1 mn2_80 mf2_80) [(0, .ref (a 0))] 80 [])) (fun mn2_80 mf2_80 h => ?_) (fun J80 hJ80 h => ?_) h
          · refine V_aload_n (pc := 80) C dX1_takesFigure_80 rfl 0 rfl ?_
            refine V_iconst (pc := 81) (v := 1) C dX1_takesFigure_81 rfl ?_
            refine V_put (pc := 82) (ws' := wReader Y a pl ln ou (1 : Int32) n1 f1 mn2_80 mf2_80) C 0 1 5 hiX1_takesFigure_1 tyX1_ok nmX1 rfl rfl (by decide) wX1_takesFigure_k0 rfl (by decide) (by decide) (Nat.le_of_ble_eq_true rfl) dX1_takesFigure_82 rfl ?_
            refine V_iconst (pc := 85) (v := 1) C dX1_takesFigure_85 rfl ?_
            cases h
            subst hQ
            exact V_zretW C (by decide) dX1_takesFigure_86
          refine V_if_eq (pc := 62) C 74 dX1_takesFigure_62 rfl (fun c62 => ?_) (fun c62 => ?_)
          · replace h := t_pos c62 h
            refine V_aload_n (pc := 74) C dX1_takesFigure_74 rfl 2 rfl ?_
            refine V_iload (pc := 75) C dX1_takesFigure_75 4 rfl ?_
            obtain ⟨on_77, of_77, hq, h⟩ := ob2_some h
            refine V_callVW (pc := 77) (rest := []) (st2 := []) (ws' := wReader Y a pl ln ou im n1 f1 on_77 of_77) C hA (X2_add_ok (a := (a 3)) (b := (a 4)) hq) gX1_takesFigure_X2_add rfl ⟨rfl, hdX2_add⟩ ⟨Nat.le_of_ble_eq_true rfl, Nat.le_of_ble_eq_true rfl⟩ ⟨Nat.le_refl _, Nat.le_refl _⟩ [3, 4] rfl rfl 3 2 rfl rfl rfl (Nat.le_of_ble_eq_true rfl) dX1_takesFigure_77 rfl rfl ?_
            exact V_sub [1] rfl (hJ80 _ _ h)
          · replace h := t_neg c62 h
            refine V_aload_n (pc := 65) C dX1_takesFigure_65 rfl 2 rfl ?_
            refine V_iload (pc := 66) C dX1_takesFigure_66 4 rfl ?_
            obtain ⟨of_68, hq, h⟩ := ob1_some h
            refine V_callVW (pc := 68) (rest := []) (st2 := []) (ws' := wReader Y a pl ln ou im n1 f1 n2 of_68) C hA (X2_setLast_ok (a := (a 3)) (b := (a 4)) hq) gX1_takesFigure_X2_setLast rfl ⟨rfl, hdX2_setLast⟩ ⟨Nat.le_of_ble_eq_true rfl, Nat.le_of_ble_eq_true rfl⟩ ⟨Nat.le_refl _, Nat.le_refl _⟩ [3, 4] rfl rfl 3 2 rfl rfl rfl (Nat.le_of_ble_eq_true rfl) dX1_takesFigure_68 rfl rfl ?_
            refine V_goto (pc := 71) C 80 dX1_takesFigure_71 rfl ?_
            exact V_sub [1] rfl (hJ80 _ _ h)
        · replace h := t_neg c53 h
          refine V_iconst (pc := 56) (v := 0) C dX1_takesFigure_56 rfl ?_
          cases h
          subst hQ
          exact V_zretW C (by decide) dX1_takesFigure_57
    refine V_if_eq (pc := 30) C 42 dX1_takesFigure_30 rfl (fun c30 => ?_) (fun c30 => ?_)
    · replace h := t_pos c30 h
      refine V_iconst (pc := 42) (v := 0) C dX1_takesFigure_42 rfl ?_
      exact V_sub [2, 3, 5, 0] rfl (hJ43 _ h)
    · replace h := t_neg c30 h
      refine V_iload (pc := 33) C dX1_takesFigure_33 1 rfl ?_
      refine V_if_ne (pc := 35) C 42 dX1_takesFigure_35 rfl (fun c35 => ?_) (fun c35 => ?_)
      · replace h := t_neg c35 h
        refine V_iconst (pc := 42) (v := 0) C dX1_takesFigure_42 rfl ?_
        exact V_sub [2, 3, 5, 0] rfl (hJ43 _ h)
      · replace h := t_pos c35 h
        refine V_iconst (pc := 38) (v := 1) C dX1_takesFigure_38 rfl ?_
        refine V_goto (pc := 39) C 43 dX1_takesFigure_39 rfl ?_
        exact V_sub [2, 3, 5, 0] rfl (hJ43 _ h)
  refine V_if_eq (pc := 4) C 14 dX1_takesFigure_4 rfl (fun c4 => ?_) (fun c4 => ?_)
  · replace h := t_pos c4 h
    refine V_iconst (pc := 14) (v := 0) C dX1_takesFigure_14 rfl ?_
    exact V_sub [0, 1, 2, 3] rfl (hJ15 _ h)
  · replace h := t_neg c4 h
    refine V_aload_n (pc := 7) C dX1_takesFigure_7 rfl 1 rfl ?_
    obtain ⟨r8, hq, h⟩ := ob1_some h
    refine V_callVR (pc := 8) (rest := []) (st2 := [.int r8]) C (X2_last_ok (a := (a 3)) (b := (a 4)) hq) gX1_takesFigure_X2_last rfl ⟨rfl, hdX2_last⟩ ⟨Nat.le_of_ble_eq_true rfl, Nat.le_of_ble_eq_true rfl⟩ ⟨Nat.le_refl _, Nat.le_refl _⟩ [3, 4] rfl 3 2 rfl rfl rfl (Nat.le_of_ble_eq_true rfl) dX1_takesFigure_8 rfl ?_
    refine V_goto (pc := 11) C 15 dX1_takesFigure_11 rfl ?_
    exact V_sub [0, 1, 2, 3] rfl (hJ15 _ h)
def X1_numbersGoOnWith_row (pl : Int32) (ln : Int32) (ou : Int32) (im : Int32) (n1 : Int32) (f1 : Nat → Int32) (n2 : Int32) (f2 : Nat → Int32) (p1 : Int32) (p2 : Int32) (p3 : Int32) : Option (Int32 × Int32 × Int32 × (Nat → Int32)) :=
  if p1 = (44 : Int32) then (jn1 (fun (s26_0 : Int32) => chk (isB s26_0) (some (s26_0, (0 : Int32), n2, f2))) fun J26 =>
  if im = 0 then (J26 (0 : Int32)) else (ob1 (X2_size n2 f2) fun r14 =>
  if p2 ≤ r14 then (J26 (0 : Int32)) else (J26 (1 : Int32)))) else (if p1 < (48 : Int32) then (some ((0 : Int32), im, n2, f2)) else (if p1 ≤ (57 : Int32) then (ob4 (X1_takesFigure_row pl ln ou im n1 f1 n2 f2 (p1 - (48 : Int32)) p3) fun r58 oim_58 on2_58 of2_58 =>
  chk (isB r58) (some (r58, oim_58, on2_58, of2_58))) else (some ((0 : Int32), im, n2, f2))))
theorem wX1_numbersGoOnWith_k0 : Cond.fieldLink RX1 32 (TX1 5).1 (TX1 5).2.1 (TX1 5).2.2.1 ∈ wsX1_numbersGoOnWith := by decide +kernel
theorem hiX1_numbersGoOnWith_1 : ∀ w ∈ u_ws RX1 TX1 6, w ∈ wsX1_numbersGoOnWith := fun _ h => List.mem_cons_of_mem _ (List.mem_append_left _ (List.mem_append_right _ h))
theorem hdX1_numbersGoOnWith : yX1_numbersGoOnWith.cls ≠ "java/lang/invoke/MethodHandle" ∧ yX1_numbersGoOnWith.cls ≠ "java/lang/invoke/VarHandle" ∧ (parseMethodDescriptor yX1_numbersGoOnWith.desc).map (fun d => d.parameters.length) = some 4 := by decide +kernel
set_option maxHeartbeats 4000000 in
set_option maxRecDepth 100000 in
theorem X1_numbersGoOnWith_row_ok {l : Launch} {D : va_G} {Y : Nat → ClassId} {a : Nat → Nat} {pl : Int32} {ln : Int32} {ou : Int32} {im : Int32} {n1 : Int32} {f1 : Nat → Int32} {n2 : Int32} {f2 : Nat → Int32} {p1 : Int32} {p2 : Int32} {p3 : Int32} {r : Int32} {uim : Int32} {un2 : Int32} {uf2 : Nat → Int32} (h : X1_numbersGoOnWith_row pl ln ou im n1 f1 n2 f2 p1 p2 p3 = some (r, uim, un2, uf2)) : MW l yX1_numbersGoOnWith wsX1_numbersGoOnWith 2 47 D Y [.ref (a 0), .ref (a 3), .int p1, .int p2, .int p3] (wReader Y a pl ln ou im n1 f1 n2 f2) (wReader Y a pl ln ou uim n1 f1 un2 uf2) (some (.int r)) := by
  refine MW_of (cc := cX1_numbersGoOnWith) (nL := 6) (ret := some .boolean) (lv0 := [(0, .ref (a 0)), (1, .ref (a 3)), (2, .int p1), (3, .int p2), (4, .int p3)]) (by decide) rfl (Nat.le_of_ble_eq_true rfl) rfl rfl (fun X Af Q C hA hQ => ?_)
  unfold X1_numbersGoOnWith_row at h
  refine V_iload_n (pc := 0) C dX1_numbersGoOnWith_0 rfl 2 rfl ?_
  refine V_bipush (pc := 1) (v := 44) C dX1_numbersGoOnWith_1 rfl ?_
  refine V_icmp_ne (pc := 3) C 36 dX1_numbersGoOnWith_3 rfl (fun c3 => ?_) (fun c3 => ?_)
  · replace h := t_neg c3 h
    refine V_iload_n (pc := 36) C dX1_numbersGoOnWith_36 rfl 2 rfl ?_
    refine V_bipush (pc := 37) (v := 48) C dX1_numbersGoOnWith_37 rfl ?_
    refine V_icmp_lt (pc := 39) C 48 dX1_numbersGoOnWith_39 rfl (fun c39 => ?_) (fun c39 => ?_)
    · replace h := t_pos c39 h
      refine V_iconst (pc := 48) (v := 0) C dX1_numbersGoOnWith_48 rfl ?_
      cases h
      subst hQ
      exact V_zretW C (by decide) dX1_numbersGoOnWith_49
    · replace h := t_neg c39 h
      refine V_iload_n (pc := 42) C dX1_numbersGoOnWith_42 rfl 2 rfl ?_
      refine V_bipush (pc := 43) (v := 57) C dX1_numbersGoOnWith_43 rfl ?_
      refine V_icmp_le (pc := 45) C 50 dX1_numbersGoOnWith_45 rfl (fun c45 => ?_) (fun c45 => ?_)
      · replace h := t_pos c45 h
        refine V_aload_n (pc := 50) C dX1_numbersGoOnWith_50 rfl 0 rfl ?_
        refine V_aload_n (pc := 51) C dX1_numbersGoOnWith_51 rfl 1 rfl ?_
        refine V_iload_n (pc := 52) C dX1_numbersGoOnWith_52 rfl 2 rfl ?_
        refine V_bipush (pc := 53) (v := 48) C dX1_numbersGoOnWith_53 rfl ?_
        refine V_isub (pc := 55) C dX1_numbersGoOnWith_55 ?_
        refine V_iload (pc := 56) C dX1_numbersGoOnWith_56 4 rfl ?_
        obtain ⟨r58, oim_58, on2_58, of2_58, hq, h⟩ := ob4_some h
        refine V_callVW (pc := 58) (rest := []) (st2 := [.int r58]) (ws' := wReader Y a pl ln ou oim_58 n1 f1 on2_58 of2_58) C hA (X1_takesFigure_row_ok (a := a) hq) gX1_numbersGoOnWith_X1_takesFigure rfl ⟨rfl, hdX1_takesFigure⟩ ⟨Nat.le_of_ble_eq_true rfl, Nat.le_of_ble_eq_true rfl⟩ ⟨Nat.le_refl _, Nat.le_refl _⟩ [0, 1, 2, 3, 4] rfl rfl 0 1 rfl rfl rfl (Nat.le_of_ble_eq_true rfl) dX1_numbersGoOnWith_58 rfl rfl ?_
        obtain ⟨b61, h⟩ := chk_some h
        cases h
        subst hQ
        exact V_zretW C (isB_n b61) dX1_numbersGoOnWith_61
      · replace h := t_neg c45 h
        refine V_iconst (pc := 48) (v := 0) C dX1_numbersGoOnWith_48 rfl ?_
        cases h
        subst hQ
        exact V_zretW C (by decide) dX1_numbersGoOnWith_49
  · replace h := t_pos c3 h
    refine V_aload_n (pc := 6) C dX1_numbersGoOnWith_6 rfl 0 rfl ?_
    refine V_get (pc := 7) (v := .int im) C 0 1 5 hiX1_numbersGoOnWith_1 rfl rfl (by decide) wX1_numbersGoOnWith_k0 rfl dX1_numbersGoOnWith_7 ?_
    refine jn1_ok (P := (fun (s26_0 : Int32) => VW X D 6 Q (KM Af X) (0, 0) (wReader Y a pl ln ou im n1 f1 n2 f2) [(0, .ref (a 0))] 26 [.int s26_0])) (fun s26_0 h => ?_) (fun J26 hJ26 h => ?_) h
    · refine V_istore (pc := 26) (lv' := [(5, .int s26_0), (0, .ref (a 0))]) C dX1_numbersGoOnWith_26 (Nat.le_of_ble_eq_true rfl) rfl ?_
      refine V_aload_n (pc := 28) C dX1_numbersGoOnWith_28 rfl 1 rfl ?_
      refine V_iconst (pc := 29) (v := 0) C dX1_numbersGoOnWith_29 rfl ?_
      refine V_put (pc := 30) (ws' := wReader Y a pl ln ou (0 : Int32) n1 f1 n2 f2) C 0 1 5 hiX1_numbersGoOnWith_1 tyX1_ok nmX1 rfl rfl (by decide) wX1_numbersGoOnWith_k0 rfl (by decide) (by decide) (Nat.le_of_ble_eq_true rfl) dX1_numbersGoOnWith_30 rfl ?_
      refine V_iload (pc := 33) C dX1_numbersGoOnWith_33 0 rfl ?_
      obtain ⟨b35, h⟩ := chk_some h
      cases h
      subst hQ
      exact V_zretW C (isB_n b35) dX1_numbersGoOnWith_35
    refine V_if_eq (pc := 10) C 25 dX1_numbersGoOnWith_10 rfl (fun c10 => ?_) (fun c10 => ?_)
    · replace h := t_pos c10 h
      refine V_iconst (pc := 25) (v := 0) C dX1_numbersGoOnWith_25 rfl ?_
      exact V_sub [0] rfl (hJ26 _ h)
    · replace h := t_neg c10 h
      refine V_aload_n (pc := 13) C dX1_numbersGoOnWith_13 rfl 1 rfl ?_
      obtain ⟨r14, hq, h⟩ := ob1_some h
      refine V_callVR (pc := 14) (rest := []) (st2 := [.int r14]) C (X2_size_ok (a := (a 3)) (b := (a 4)) hq) gX1_numbersGoOnWith_X2_size rfl ⟨rfl, hdX2_size⟩ ⟨Nat.le_of_ble_eq_true rfl, Nat.le_of_ble_eq_true rfl⟩ ⟨Nat.le_refl _, Nat.le_refl _⟩ [3, 4] rfl 3 2 rfl rfl rfl (Nat.le_of_ble_eq_true rfl) dX1_numbersGoOnWith_14 rfl ?_
      refine V_iload_n (pc := 17) C dX1_numbersGoOnWith_17 rfl 3 rfl ?_
      refine V_icmp_ge (pc := 18) C 25 dX1_numbersGoOnWith_18 rfl (fun c18 => ?_) (fun c18 => ?_)
      · replace h := t_pos c18 h
        refine V_iconst (pc := 25) (v := 0) C dX1_numbersGoOnWith_25 rfl ?_
        exact V_sub [0] rfl (hJ26 _ h)
      · replace h := t_neg c18 h
        refine V_iconst (pc := 21) (v := 1) C dX1_numbersGoOnWith_21 rfl ?_
        refine V_goto (pc := 22) C 26 dX1_numbersGoOnWith_22 rfl ?_
        exact V_sub [0] rfl (hJ26 _ h)
def X1_takesColon (pl : Int32) (ln : Int32) (ou : Int32) (im : Int32) (n1 : Int32) (f1 : Nat → Int32) (n2 : Int32) (f2 : Nat → Int32) (p0 : Int32) : Option (Int32 × Int32 × Int32) :=
  if p0 = (58 : Int32) then (some ((1 : Int32), (4 : Int32), (0 : Int32))) else (some ((0 : Int32), (4 : Int32), (0 : Int32)))
theorem wX1_takesColon_k0 : Cond.fieldLink RX1 28 (TX1 2).1 (TX1 2).2.1 (TX1 2).2.2.1 ∈ wsX1_takesColon := by decide +kernel
theorem hiX1_takesColon_1 : ∀ w ∈ u_ws RX1 TX1 6, w ∈ wsX1_takesColon := fun _ h => List.mem_cons_of_mem _ (List.mem_append_right _ h)
theorem wX1_takesColon_k2 : Cond.fieldLink RX1 32 (TX1 5).1 (TX1 5).2.1 (TX1 5).2.2.1 ∈ wsX1_takesColon := by decide +kernel
theorem hdX1_takesColon : yX1_takesColon.cls ≠ "java/lang/invoke/MethodHandle" ∧ yX1_takesColon.cls ≠ "java/lang/invoke/VarHandle" ∧ (parseMethodDescriptor yX1_takesColon.desc).map (fun d => d.parameters.length) = some 1 := by decide +kernel
set_option maxHeartbeats 4000000 in
set_option maxRecDepth 100000 in
theorem X1_takesColon_ok {l : Launch} {D : va_G} {Y : Nat → ClassId} {a : Nat → Nat} {pl : Int32} {ln : Int32} {ou : Int32} {im : Int32} {n1 : Int32} {f1 : Nat → Int32} {n2 : Int32} {f2 : Nat → Int32} {p0 : Int32} {r : Int32} {upl : Int32} {uim : Int32} (h : X1_takesColon pl ln ou im n1 f1 n2 f2 p0 = some (r, upl, uim)) : MW l yX1_takesColon wsX1_takesColon 0 0 D Y [.ref (a 0), .int p0] (wReader Y a pl ln ou im n1 f1 n2 f2) (wReader Y a upl ln ou uim n1 f1 n2 f2) (some (.int r)) := by
  refine MW_of (cc := cX1_takesColon) (nL := 2) (ret := some .boolean) (lv0 := [(0, .ref (a 0)), (1, .int p0)]) (by decide) rfl (Nat.le_of_ble_eq_true rfl) rfl rfl (fun X Af Q C hA hQ => ?_)
  unfold X1_takesColon at h
  refine V_aload_n (pc := 0) C dX1_takesColon_0 rfl 0 rfl ?_
  refine V_iconst (pc := 1) (v := 4) C dX1_takesColon_1 rfl ?_
  refine V_put (pc := 2) (ws' := wReader Y a (4 : Int32) ln ou im n1 f1 n2 f2) C 0 1 2 hiX1_takesColon_1 tyX1_ok nmX1 rfl rfl (by decide) wX1_takesColon_k0 rfl rfl rfl (Nat.le_of_ble_eq_true rfl) dX1_takesColon_2 rfl ?_
  refine V_aload_n (pc := 5) C dX1_takesColon_5 rfl 0 rfl ?_
  refine V_iconst (pc := 6) (v := 0) C dX1_takesColon_6 rfl ?_
  refine V_put (pc := 7) (ws' := wReader Y a (4 : Int32) ln ou (0 : Int32) n1 f1 n2 f2) C 0 1 5 hiX1_takesColon_1 tyX1_ok nmX1 rfl rfl (by decide) wX1_takesColon_k2 rfl (by decide) (by decide) (Nat.le_of_ble_eq_true rfl) dX1_takesColon_7 rfl ?_
  refine V_iload_n (pc := 10) C dX1_takesColon_10 rfl 1 rfl ?_
  refine V_bipush (pc := 11) (v := 58) C dX1_takesColon_11 rfl ?_
  refine V_icmp_ne (pc := 13) C 20 dX1_takesColon_13 rfl (fun c13 => ?_) (fun c13 => ?_)
  · replace h := t_neg c13 h
    refine V_iconst (pc := 20) (v := 0) C dX1_takesColon_20 rfl ?_
    cases h
    subst hQ
    exact V_zretW C (by decide) dX1_takesColon_21
  · replace h := t_pos c13 h
    refine V_iconst (pc := 16) (v := 1) C dX1_takesColon_16 rfl ?_
    refine V_goto (pc := 17) C 21 dX1_takesColon_17 rfl ?_
    cases h
    subst hQ
    exact V_zretW C (by decide) dX1_takesColon_21
def X5_isLength (p0 : Int32) : Option (Int32) :=
  if p0 < (1 : Int32) then (some (0 : Int32)) else (if (4 : Int32) < p0 then (some (0 : Int32)) else (some (1 : Int32)))
theorem hdX5_isLength : yX5_isLength.cls ≠ "java/lang/invoke/MethodHandle" ∧ yX5_isLength.cls ≠ "java/lang/invoke/VarHandle" ∧ (parseMethodDescriptor yX5_isLength.desc).map (fun d => d.parameters.length) = some 1 := by decide +kernel
set_option maxHeartbeats 4000000 in
set_option maxRecDepth 100000 in
theorem X5_isLength_ok {l : Launch} {D : va_G} {Y : Nat → ClassId}  {p0 : Int32} {r : Int32} (h : X5_isLength p0 = some r) : MR l yX5_isLength wsX5_isLength 0 0 D Y [.int p0] ([]) (some (.int r)) := by
  refine MR_of (cc := cX5_isLength) (nL := 1) (ret := some .boolean) (lv0 := [(0, .int p0)]) (by decide) rfl (Nat.le_of_ble_eq_true rfl) rfl (fun X Q C hQ => ?_)
  unfold X5_isLength at h
  refine V_iload_n (pc := 0) C dX5_isLength_0 rfl 0 rfl ?_
  refine V_iconst (pc := 1) (v := 1) C dX5_isLength_1 rfl ?_
  refine V_icmp_lt (pc := 2) C 14 dX5_isLength_2 rfl (fun c2 => ?_) (fun c2 => ?_)
  · replace h := t_pos c2 h
    refine V_iconst (pc := 14) (v := 0) C dX5_isLength_14 rfl ?_
    cases h
    subst hQ
    exact V_zretR C (by decide) dX5_isLength_15
  · replace h := t_neg c2 h
    refine V_iload_n (pc := 5) C dX5_isLength_5 rfl 0 rfl ?_
    refine V_iconst (pc := 6) (v := 4) C dX5_isLength_6 rfl ?_
    refine V_icmp_gt (pc := 7) C 14 dX5_isLength_7 rfl (fun c7 => ?_) (fun c7 => ?_)
    · replace h := t_pos c7 h
      refine V_iconst (pc := 14) (v := 0) C dX5_isLength_14 rfl ?_
      cases h
      subst hQ
      exact V_zretR C (by decide) dX5_isLength_15
    · replace h := t_neg c7 h
      refine V_iconst (pc := 10) (v := 1) C dX5_isLength_10 rfl ?_
      refine V_goto (pc := 11) C 15 dX5_isLength_11 rfl ?_
      cases h
      subst hQ
      exact V_zretR C (by decide) dX5_isLength_15
def X1_takesLength (pl : Int32) (ln : Int32) (ou : Int32) (im : Int32) (n1 : Int32) (f1 : Nat → Int32) (n2 : Int32) (f2 : Nat → Int32) (p0 : Int32) : Option (Int32 × Int32 × Int32) :=
  ob1 (X5_isLength p0) fun r11 =>
  chk (isB r11) (some (r11, (3 : Int32), p0))
theorem wX1_takesLength_k0 : Cond.fieldLink RX1 39 (TX1 3).1 (TX1 3).2.1 (TX1 3).2.2.1 ∈ wsX1_takesLength := by decide +kernel
theorem hiX1_takesLength_1 : ∀ w ∈ u_ws RX1 TX1 6, w ∈ wsX1_takesLength := fun _ h => List.mem_cons_of_mem _ (List.mem_append_right _ h)
theorem wX1_takesLength_k2 : Cond.fieldLink RX1 28 (TX1 2).1 (TX1 2).2.1 (TX1 2).2.2.1 ∈ wsX1_takesLength := by decide +kernel
theorem wX1_takesLength_k3 : Cond.static yX5_isLength ∈ wsX1_takesLength := by decide +kernel
theorem wX1_takesLength_k4 : Cond.initialized yX5_isLength.cls ∈ wsX1_takesLength := by decide +kernel
theorem hdX1_takesLength : yX1_takesLength.cls ≠ "java/lang/invoke/MethodHandle" ∧ yX1_takesLength.cls ≠ "java/lang/invoke/VarHandle" ∧ (parseMethodDescriptor yX1_takesLength.desc).map (fun d => d.parameters.length) = some 1 := by decide +kernel
set_option maxHeartbeats 4000000 in
set_option maxRecDepth 100000 in
theorem X1_takesLength_ok {l : Launch} {D : va_G} {Y : Nat → ClassId} {a : Nat → Nat} {pl : Int32} {ln : Int32} {ou : Int32} {im : Int32} {n1 : Int32} {f1 : Nat → Int32} {n2 : Int32} {f2 : Nat → Int32} {p0 : Int32} {r : Int32} {upl : Int32} {uln : Int32} (h : X1_takesLength pl ln ou im n1 f1 n2 f2 p0 = some (r, upl, uln)) : MW l yX1_takesLength wsX1_takesLength 1 20 D Y [.ref (a 0), .int p0] (wReader Y a pl ln ou im n1 f1 n2 f2) (wReader Y a upl uln ou im n1 f1 n2 f2) (some (.int r)) := by
  refine MW_of (cc := cX1_takesLength) (nL := 2) (ret := some .boolean) (lv0 := [(0, .ref (a 0)), (1, .int p0)]) (by decide) rfl (Nat.le_of_ble_eq_true rfl) rfl rfl (fun X Af Q C hA hQ => ?_)
  unfold X1_takesLength at h
  refine V_aload_n (pc := 0) C dX1_takesLength_0 rfl 0 rfl ?_
  refine V_iload_n (pc := 1) C dX1_takesLength_1 rfl 1 rfl ?_
  refine V_put (pc := 2) (ws' := wReader Y a pl p0 ou im n1 f1 n2 f2) C 0 1 3 hiX1_takesLength_1 tyX1_ok nmX1 rfl rfl (by decide) wX1_takesLength_k0 rfl rfl rfl (Nat.le_of_ble_eq_true rfl) dX1_takesLength_2 rfl ?_
  refine V_aload_n (pc := 5) C dX1_takesLength_5 rfl 0 rfl ?_
  refine V_iconst (pc := 6) (v := 3) C dX1_takesLength_6 rfl ?_
  refine V_put (pc := 7) (ws' := wReader Y a (3 : Int32) p0 ou im n1 f1 n2 f2) C 0 1 2 hiX1_takesLength_1 tyX1_ok nmX1 rfl rfl (by decide) wX1_takesLength_k2 rfl rfl rfl (Nat.le_of_ble_eq_true rfl) dX1_takesLength_7 rfl ?_
  refine V_iload_n (pc := 10) C dX1_takesLength_10 rfl 1 rfl ?_
  obtain ⟨r11, hq, h⟩ := ob1_some h
  refine V_callNR (pc := 11) (rest := []) (st2 := [.int r11]) C (X5_isLength_ok hq) gX1_takesLength_X5_isLength_n65 C.2.1.2.2.2.2.2.2.2.2 wX1_takesLength_k3 wX1_takesLength_k4 rfl hdX5_isLength ⟨Nat.le_of_ble_eq_true rfl, Nat.le_of_ble_eq_true rfl⟩ ⟨Nat.le_refl _, Nat.le_refl _⟩ [] rfl rfl (Nat.le_of_ble_eq_true rfl) dX1_takesLength_11 rfl ?_
  obtain ⟨b14, h⟩ := chk_some h
  cases h
  subst hQ
  exact V_zretW C (isB_n b14) dX1_takesLength_14
def X1_takesFigure_rain (pl : Int32) (ln : Int32) (ou : Int32) (im : Int32) (n1 : Int32) (f1 : Nat → Int32) (n2 : Int32) (f2 : Nat → Int32) (p1 : Int32) (p2 : Int32) : Option (Int32 × Int32 × Int32 × (Nat → Int32)) :=
  jn1 (fun (s15_0 : Int32) => jn1 (fun (s43_0 : Int32) => if s43_0 = 0 then (if ((s15_0 * (10 : Int32)) + p1) ≤ p2 then (jn2 (fun (mn1_80 : Int32) (mf1_80 : Nat → Int32) => some ((1 : Int32), (1 : Int32), mn1_80, mf1_80)) fun J80 =>
  if im = 0 then (ob2 (X2_add n1 f1 ((s15_0 * (10 : Int32)) + p1)) fun on_77 of_77 =>
  J80 on_77 of_77) else (ob1 (X2_setLast n1 f1 ((s15_0 * (10 : Int32)) + p1)) fun of_68 =>
  J80 n1 of_68)) else (some ((0 : Int32), im, n1, f1))) else (some ((0 : Int32), im, n1, f1))) fun J43 =>
  if im = 0 then (J43 (0 : Int32)) else (if s15_0 = 0 then (J43 (1 : Int32)) else (J43 (0 : Int32)))) fun J15 =>
  if im = 0 then (J15 (0 : Int32)) else (ob1 (X2_last n1 f1) fun r8 =>
  J15 r8)
set_option maxHeartbeats 4000000 in
set_option maxRecDepth 100000 in
theorem X1_takesFigure_rain_ok {l : Launch} {D : va_G} {Y : Nat → ClassId} {a : Nat → Nat} {pl : Int32} {ln : Int32} {ou : Int32} {im : Int32} {n1 : Int32} {f1 : Nat → Int32} {n2 : Int32} {f2 : Nat → Int32} {p1 : Int32} {p2 : Int32} {r : Int32} {uim : Int32} {un1 : Int32} {uf1 : Nat → Int32} (h : X1_takesFigure_rain pl ln ou im n1 f1 n2 f2 p1 p2 = some (r, uim, un1, uf1)) : MW l yX1_takesFigure wsX1_takesFigure 1 21 D Y [.ref (a 0), .ref (a 1), .int p1, .int p2] (wReader Y a pl ln ou im n1 f1 n2 f2) (wReader Y a pl ln ou uim un1 uf1 n2 f2) (some (.int r)) := by
  refine MW_of (cc := cX1_takesFigure) (nL := 7) (ret := some .boolean) (lv0 := [(0, .ref (a 0)), (1, .ref (a 1)), (2, .int p1), (3, .int p2)]) (by decide) rfl (Nat.le_of_ble_eq_true rfl) rfl rfl (fun X Af Q C hA hQ => ?_)
  unfold X1_takesFigure_rain at h
  refine V_aload_n (pc := 0) C dX1_takesFigure_0 rfl 0 rfl ?_
  refine V_get (pc := 1) (v := .int im) C 0 1 5 hiX1_takesFigure_1 rfl rfl (by decide) wX1_takesFigure_k0 rfl dX1_takesFigure_1 ?_
  refine jn1_ok (P := (fun (s15_0 : Int32) => VW X D 7 Q (KM Af X) (0, 0) (wReader Y a pl ln ou im n1 f1 n2 f2) [(0, .ref (a 0)), (1, .ref (a 1)), (2, .int p1), (3, .int p2)] 15 [.int s15_0])) (fun s15_0 h => ?_) (fun J15 hJ15 h => ?_) h
  · refine V_istore (pc := 15) (lv' := [(4, .int s15_0), (0, .ref (a 0)), (1, .ref (a 1)), (2, .int p1), (3, .int p2)]) C dX1_takesFigure_15 (Nat.le_of_ble_eq_true rfl) rfl ?_
    refine V_iload (pc := 17) C dX1_takesFigure_17 0 rfl ?_
    refine V_bipush (pc := 19) (v := 10) C dX1_takesFigure_19 rfl ?_
    refine V_imul (pc := 21) C dX1_takesFigure_21 ?_
    refine V_iload_n (pc := 22) C dX1_takesFigure_22 rfl 3 rfl ?_
    refine V_iadd (pc := 23) C dX1_takesFigure_23 ?_
    refine V_istore (pc := 24) (lv' := [(5, .int ((s15_0 * (10 : Int32)) + p1)), (4, .int s15_0), (0, .ref (a 0)), (1, .ref (a 1)), (2, .int p1), (3, .int p2)]) C dX1_takesFigure_24 (Nat.le_of_ble_eq_true rfl) rfl ?_
    refine V_aload_n (pc := 26) C dX1_takesFigure_26 rfl 2 rfl ?_
    refine V_get (pc := 27) (v := .int im) C 0 1 5 hiX1_takesFigure_1 rfl rfl (by decide) wX1_takesFigure_k0 rfl dX1_takesFigure_27 ?_
    refine jn1_ok (P := (fun (s43_0 : Int32) => VW X D 7 Q (KM Af X) (0, 0) (wReader Y a pl ln ou im n1 f1 n2 f2) [(0, .ref (a 0)), (1, .ref (a 1)), (3, .int p2), (5, .int ((s15_0 * (10 : Int32)) + p1))] 43 [.int s43_0])) (fun s43_0 h => ?_) (fun J43 hJ43 h => ?_) h
    · refine V_istore (pc := 43) (lv' := [(6, .int s43_0), (0, .ref (a 0)), (1, .ref (a 1)), (3, .int p2), (5, .int ((s15_0 * (10 : Int32)) + p1))]) C dX1_takesFigure_43 (Nat.le_of_ble_eq_true rfl) rfl ?_
      refine V_iload (pc := 45) C dX1_takesFigure_45 0 rfl ?_
      refine V_if_ne (pc := 47) C 56 dX1_takesFigure_47 rfl (fun c47 => ?_) (fun c47 => ?_)
      · replace h := t_neg c47 h
        refine V_iconst (pc := 56) (v := 0) C dX1_takesFigure_56 rfl ?_
        cases h
        subst hQ
        exact V_zretW C (by decide) dX1_takesFigure_57
      · replace h := t_pos c47 h
        refine V_iload (pc := 50) C dX1_takesFigure_50 4 rfl ?_
        refine V_iload_n (pc := 52) C dX1_takesFigure_52 rfl 3 rfl ?_
        refine V_icmp_le (pc := 53) C 58 dX1_takesFigure_53 rfl (fun c53 => ?_) (fun c53 => ?_)
        · replace h := t_pos c53 h
          refine V_aload_n (pc := 58) C dX1_takesFigure_58 rfl 1 rfl ?_
          refine V_get (pc := 59) (v := .int im) C 0 1 5 hiX1_takesFigure_1 rfl rfl (by decide) wX1_takesFigure_k0 rfl dX1_takesFigure_59 ?_
          refine jn2_ok (P := (fun (mn1_80 : Int32) (mf1_80 : Nat → Int32) => VW X D 7 Q (KM Af X) (0, 0) (wReader Y a pl ln ou im mn1_80 mf1_80 n2 f2) [(0, .ref (a 0))] 80 [])) (fun mn1_80 mf1_80 h => ?_) (fun J80 hJ80 h => ?_) h
          · refine V_aload_n (pc := 80) C dX1_takesFigure_80 rfl 0 rfl ?_
            refine V_iconst (pc := 81) (v := 1) C dX1_takesFigure_81 rfl ?_
            refine V_put (pc := 82) (ws' := wReader Y a pl ln ou (1 : Int32) mn1_80 mf1_80 n2 f2) C 0 1 5 hiX1_takesFigure_1 tyX1_ok nmX1 rfl rfl (by decide) wX1_takesFigure_k0 rfl (by decide) (by decide) (Nat.le_of_ble_eq_true rfl) dX1_takesFigure_82 rfl ?_
            refine V_iconst (pc := 85) (v := 1) C dX1_takesFigure_85 rfl ?_
            cases h
            subst hQ
            exact V_zretW C (by decide) dX1_takesFigure_86
          refine V_if_eq (pc := 62) C 74 dX1_takesFigure_62 rfl (fun c62 => ?_) (fun c62 => ?_)
          · replace h := t_pos c62 h
            refine V_aload_n (pc := 74) C dX1_takesFigure_74 rfl 2 rfl ?_
            refine V_iload (pc := 75) C dX1_takesFigure_75 4 rfl ?_
            obtain ⟨on_77, of_77, hq, h⟩ := ob2_some h
            refine V_callVW (pc := 77) (rest := []) (st2 := []) (ws' := wReader Y a pl ln ou im on_77 of_77 n2 f2) C hA (X2_add_ok (a := (a 1)) (b := (a 2)) hq) gX1_takesFigure_X2_add rfl ⟨rfl, hdX2_add⟩ ⟨Nat.le_of_ble_eq_true rfl, Nat.le_of_ble_eq_true rfl⟩ ⟨Nat.le_refl _, Nat.le_refl _⟩ [1, 2] rfl rfl 1 2 rfl rfl rfl (Nat.le_of_ble_eq_true rfl) dX1_takesFigure_77 rfl rfl ?_
            exact V_sub [1] rfl (hJ80 _ _ h)
          · replace h := t_neg c62 h
            refine V_aload_n (pc := 65) C dX1_takesFigure_65 rfl 2 rfl ?_
            refine V_iload (pc := 66) C dX1_takesFigure_66 4 rfl ?_
            obtain ⟨of_68, hq, h⟩ := ob1_some h
            refine V_callVW (pc := 68) (rest := []) (st2 := []) (ws' := wReader Y a pl ln ou im n1 of_68 n2 f2) C hA (X2_setLast_ok (a := (a 1)) (b := (a 2)) hq) gX1_takesFigure_X2_setLast rfl ⟨rfl, hdX2_setLast⟩ ⟨Nat.le_of_ble_eq_true rfl, Nat.le_of_ble_eq_true rfl⟩ ⟨Nat.le_refl _, Nat.le_refl _⟩ [1, 2] rfl rfl 1 2 rfl rfl rfl (Nat.le_of_ble_eq_true rfl) dX1_takesFigure_68 rfl rfl ?_
            refine V_goto (pc := 71) C 80 dX1_takesFigure_71 rfl ?_
            exact V_sub [1] rfl (hJ80 _ _ h)
        · replace h := t_neg c53 h
          refine V_iconst (pc := 56) (v := 0) C dX1_takesFigure_56 rfl ?_
          cases h
          subst hQ
          exact V_zretW C (by decide) dX1_takesFigure_57
    refine V_if_eq (pc := 30) C 42 dX1_takesFigure_30 rfl (fun c30 => ?_) (fun c30 => ?_)
    · replace h := t_pos c30 h
      refine V_iconst (pc := 42) (v := 0) C dX1_takesFigure_42 rfl ?_
      exact V_sub [2, 3, 5, 0] rfl (hJ43 _ h)
    · replace h := t_neg c30 h
      refine V_iload (pc := 33) C dX1_takesFigure_33 1 rfl ?_
      refine V_if_ne (pc := 35) C 42 dX1_takesFigure_35 rfl (fun c35 => ?_) (fun c35 => ?_)
      · replace h := t_neg c35 h
        refine V_iconst (pc := 42) (v := 0) C dX1_takesFigure_42 rfl ?_
        exact V_sub [2, 3, 5, 0] rfl (hJ43 _ h)
      · replace h := t_pos c35 h
        refine V_iconst (pc := 38) (v := 1) C dX1_takesFigure_38 rfl ?_
        refine V_goto (pc := 39) C 43 dX1_takesFigure_39 rfl ?_
        exact V_sub [2, 3, 5, 0] rfl (hJ43 _ h)
  refine V_if_eq (pc := 4) C 14 dX1_takesFigure_4 rfl (fun c4 => ?_) (fun c4 => ?_)
  · replace h := t_pos c4 h
    refine V_iconst (pc := 14) (v := 0) C dX1_takesFigure_14 rfl ?_
    exact V_sub [0, 1, 2, 3] rfl (hJ15 _ h)
  · replace h := t_neg c4 h
    refine V_aload_n (pc := 7) C dX1_takesFigure_7 rfl 1 rfl ?_
    obtain ⟨r8, hq, h⟩ := ob1_some h
    refine V_callVR (pc := 8) (rest := []) (st2 := [.int r8]) C (X2_last_ok (a := (a 1)) (b := (a 2)) hq) gX1_takesFigure_X2_last rfl ⟨rfl, hdX2_last⟩ ⟨Nat.le_of_ble_eq_true rfl, Nat.le_of_ble_eq_true rfl⟩ ⟨Nat.le_refl _, Nat.le_refl _⟩ [1, 2] rfl 1 2 rfl rfl rfl (Nat.le_of_ble_eq_true rfl) dX1_takesFigure_8 rfl ?_
    refine V_goto (pc := 11) C 15 dX1_takesFigure_11 rfl ?_
    exact V_sub [0, 1, 2, 3] rfl (hJ15 _ h)
def X1_numbersGoOnWith_rain (pl : Int32) (ln : Int32) (ou : Int32) (im : Int32) (n1 : Int32) (f1 : Nat → Int32) (n2 : Int32) (f2 : Nat → Int32) (p1 : Int32) (p2 : Int32) (p3 : Int32) : Option (Int32 × Int32 × Int32 × (Nat → Int32)) :=
  if p1 = (44 : Int32) then (jn1 (fun (s26_0 : Int32) => chk (isB s26_0) (some (s26_0, (0 : Int32), n1, f1))) fun J26 =>
  if im = 0 then (J26 (0 : Int32)) else (ob1 (X2_size n1 f1) fun r14 =>
  if p2 ≤ r14 then (J26 (0 : Int32)) else (J26 (1 : Int32)))) else (if p1 < (48 : Int32) then (some ((0 : Int32), im, n1, f1)) else (if p1 ≤ (57 : Int32) then (ob4 (X1_takesFigure_rain pl ln ou im n1 f1 n2 f2 (p1 - (48 : Int32)) p3) fun r58 oim_58 on1_58 of1_58 =>
  chk (isB r58) (some (r58, oim_58, on1_58, of1_58))) else (some ((0 : Int32), im, n1, f1))))
set_option maxHeartbeats 4000000 in
set_option maxRecDepth 100000 in
theorem X1_numbersGoOnWith_rain_ok {l : Launch} {D : va_G} {Y : Nat → ClassId} {a : Nat → Nat} {pl : Int32} {ln : Int32} {ou : Int32} {im : Int32} {n1 : Int32} {f1 : Nat → Int32} {n2 : Int32} {f2 : Nat → Int32} {p1 : Int32} {p2 : Int32} {p3 : Int32} {r : Int32} {uim : Int32} {un1 : Int32} {uf1 : Nat → Int32} (h : X1_numbersGoOnWith_rain pl ln ou im n1 f1 n2 f2 p1 p2 p3 = some (r, uim, un1, uf1)) : MW l yX1_numbersGoOnWith wsX1_numbersGoOnWith 2 47 D Y [.ref (a 0), .ref (a 1), .int p1, .int p2, .int p3] (wReader Y a pl ln ou im n1 f1 n2 f2) (wReader Y a pl ln ou uim un1 uf1 n2 f2) (some (.int r)) := by
  refine MW_of (cc := cX1_numbersGoOnWith) (nL := 6) (ret := some .boolean) (lv0 := [(0, .ref (a 0)), (1, .ref (a 1)), (2, .int p1), (3, .int p2), (4, .int p3)]) (by decide) rfl (Nat.le_of_ble_eq_true rfl) rfl rfl (fun X Af Q C hA hQ => ?_)
  unfold X1_numbersGoOnWith_rain at h
  refine V_iload_n (pc := 0) C dX1_numbersGoOnWith_0 rfl 2 rfl ?_
  refine V_bipush (pc := 1) (v := 44) C dX1_numbersGoOnWith_1 rfl ?_
  refine V_icmp_ne (pc := 3) C 36 dX1_numbersGoOnWith_3 rfl (fun c3 => ?_) (fun c3 => ?_)
  · replace h := t_neg c3 h
    refine V_iload_n (pc := 36) C dX1_numbersGoOnWith_36 rfl 2 rfl ?_
    refine V_bipush (pc := 37) (v := 48) C dX1_numbersGoOnWith_37 rfl ?_
    refine V_icmp_lt (pc := 39) C 48 dX1_numbersGoOnWith_39 rfl (fun c39 => ?_) (fun c39 => ?_)
    · replace h := t_pos c39 h
      refine V_iconst (pc := 48) (v := 0) C dX1_numbersGoOnWith_48 rfl ?_
      cases h
      subst hQ
      exact V_zretW C (by decide) dX1_numbersGoOnWith_49
    · replace h := t_neg c39 h
      refine V_iload_n (pc := 42) C dX1_numbersGoOnWith_42 rfl 2 rfl ?_
      refine V_bipush (pc := 43) (v := 57) C dX1_numbersGoOnWith_43 rfl ?_
      refine V_icmp_le (pc := 45) C 50 dX1_numbersGoOnWith_45 rfl (fun c45 => ?_) (fun c45 => ?_)
      · replace h := t_pos c45 h
        refine V_aload_n (pc := 50) C dX1_numbersGoOnWith_50 rfl 0 rfl ?_
        refine V_aload_n (pc := 51) C dX1_numbersGoOnWith_51 rfl 1 rfl ?_
        refine V_iload_n (pc := 52) C dX1_numbersGoOnWith_52 rfl 2 rfl ?_
        refine V_bipush (pc := 53) (v := 48) C dX1_numbersGoOnWith_53 rfl ?_
        refine V_isub (pc := 55) C dX1_numbersGoOnWith_55 ?_
        refine V_iload (pc := 56) C dX1_numbersGoOnWith_56 4 rfl ?_
        obtain ⟨r58, oim_58, on1_58, of1_58, hq, h⟩ := ob4_some h
        refine V_callVW (pc := 58) (rest := []) (st2 := [.int r58]) (ws' := wReader Y a pl ln ou oim_58 on1_58 of1_58 n2 f2) C hA (X1_takesFigure_rain_ok (a := a) hq) gX1_numbersGoOnWith_X1_takesFigure rfl ⟨rfl, hdX1_takesFigure⟩ ⟨Nat.le_of_ble_eq_true rfl, Nat.le_of_ble_eq_true rfl⟩ ⟨Nat.le_refl _, Nat.le_refl _⟩ [0, 1, 2, 3, 4] rfl rfl 0 1 rfl rfl rfl (Nat.le_of_ble_eq_true rfl) dX1_numbersGoOnWith_58 rfl rfl ?_
        obtain ⟨b61, h⟩ := chk_some h
        cases h
        subst hQ
        exact V_zretW C (isB_n b61) dX1_numbersGoOnWith_61
      · replace h := t_neg c45 h
        refine V_iconst (pc := 48) (v := 0) C dX1_numbersGoOnWith_48 rfl ?_
        cases h
        subst hQ
        exact V_zretW C (by decide) dX1_numbersGoOnWith_49
  · replace h := t_pos c3 h
    refine V_aload_n (pc := 6) C dX1_numbersGoOnWith_6 rfl 0 rfl ?_
    refine V_get (pc := 7) (v := .int im) C 0 1 5 hiX1_numbersGoOnWith_1 rfl rfl (by decide) wX1_numbersGoOnWith_k0 rfl dX1_numbersGoOnWith_7 ?_
    refine jn1_ok (P := (fun (s26_0 : Int32) => VW X D 6 Q (KM Af X) (0, 0) (wReader Y a pl ln ou im n1 f1 n2 f2) [(0, .ref (a 0))] 26 [.int s26_0])) (fun s26_0 h => ?_) (fun J26 hJ26 h => ?_) h
    · refine V_istore (pc := 26) (lv' := [(5, .int s26_0), (0, .ref (a 0))]) C dX1_numbersGoOnWith_26 (Nat.le_of_ble_eq_true rfl) rfl ?_
      refine V_aload_n (pc := 28) C dX1_numbersGoOnWith_28 rfl 1 rfl ?_
      refine V_iconst (pc := 29) (v := 0) C dX1_numbersGoOnWith_29 rfl ?_
      refine V_put (pc := 30) (ws' := wReader Y a pl ln ou (0 : Int32) n1 f1 n2 f2) C 0 1 5 hiX1_numbersGoOnWith_1 tyX1_ok nmX1 rfl rfl (by decide) wX1_numbersGoOnWith_k0 rfl (by decide) (by decide) (Nat.le_of_ble_eq_true rfl) dX1_numbersGoOnWith_30 rfl ?_
      refine V_iload (pc := 33) C dX1_numbersGoOnWith_33 0 rfl ?_
      obtain ⟨b35, h⟩ := chk_some h
      cases h
      subst hQ
      exact V_zretW C (isB_n b35) dX1_numbersGoOnWith_35
    refine V_if_eq (pc := 10) C 25 dX1_numbersGoOnWith_10 rfl (fun c10 => ?_) (fun c10 => ?_)
    · replace h := t_pos c10 h
      refine V_iconst (pc := 25) (v := 0) C dX1_numbersGoOnWith_25 rfl ?_
      exact V_sub [0] rfl (hJ26 _ h)
    · replace h := t_neg c10 h
      refine V_aload_n (pc := 13) C dX1_numbersGoOnWith_13 rfl 1 rfl ?_
      obtain ⟨r14, hq, h⟩ := ob1_some h
      refine V_callVR (pc := 14) (rest := []) (st2 := [.int r14]) C (X2_size_ok (a := (a 1)) (b := (a 2)) hq) gX1_numbersGoOnWith_X2_size rfl ⟨rfl, hdX2_size⟩ ⟨Nat.le_of_ble_eq_true rfl, Nat.le_of_ble_eq_true rfl⟩ ⟨Nat.le_refl _, Nat.le_refl _⟩ [1, 2] rfl 1 2 rfl rfl rfl (Nat.le_of_ble_eq_true rfl) dX1_numbersGoOnWith_14 rfl ?_
      refine V_iload_n (pc := 17) C dX1_numbersGoOnWith_17 rfl 3 rfl ?_
      refine V_icmp_ge (pc := 18) C 25 dX1_numbersGoOnWith_18 rfl (fun c18 => ?_) (fun c18 => ?_)
      · replace h := t_pos c18 h
        refine V_iconst (pc := 25) (v := 0) C dX1_numbersGoOnWith_25 rfl ?_
        exact V_sub [0] rfl (hJ26 _ h)
      · replace h := t_neg c18 h
        refine V_iconst (pc := 21) (v := 1) C dX1_numbersGoOnWith_21 rfl ?_
        refine V_goto (pc := 22) C 26 dX1_numbersGoOnWith_22 rfl ?_
        exact V_sub [0] rfl (hJ26 _ h)
def X1_rainGoesOnWith (pl : Int32) (ln : Int32) (ou : Int32) (im : Int32) (n1 : Int32) (f1 : Nat → Int32) (n2 : Int32) (f2 : Nat → Int32) (p0 : Int32) : Option (Int32 × Int32 × Int32 × Int32 × (Nat → Int32)) :=
  if p0 = (58 : Int32) then (if im = 0 then (some ((0 : Int32), pl, im, n1, f1)) else (ob3 (X1_takesColon pl ln ou im n1 f1 n2 f2 p0) fun r15 opl_15 oim_15 =>
  if r15 = 0 then (some ((0 : Int32), opl_15, oim_15, n1, f1)) else (some ((1 : Int32), opl_15, oim_15, n1, f1)))) else (jn0 (ob4 (X1_numbersGoOnWith_rain pl ln ou im n1 f1 n2 f2 p0 (3 : Int32) (5 : Int32)) fun r53 oim_53 on1_53 of1_53 =>
  chk (isB r53) (some (r53, pl, oim_53, on1_53, of1_53))) fun J45 =>
  if p0 = (48 : Int32) then (ob1 (X2_size n1 f1) fun r37 =>
  if r37 = 0 then (some ((0 : Int32), pl, im, n1, f1)) else (J45)) else (J45))
theorem wX1_rainGoesOnWith_k0 : Cond.fieldLink RX1 12 (TX1 0).1 (TX1 0).2.1 (TX1 0).2.2.1 ∈ wsX1_rainGoesOnWith := by decide +kernel
theorem hiX1_rainGoesOnWith_1 : ∀ w ∈ u_ws RX1 TX1 6, w ∈ wsX1_rainGoesOnWith := fun _ h => List.mem_cons_of_mem _ (List.mem_append_left _ (List.mem_append_right _ h))
theorem wX1_rainGoesOnWith_k2 : Cond.fieldLink RX1 32 (TX1 5).1 (TX1 5).2.1 (TX1 5).2.2.1 ∈ wsX1_rainGoesOnWith := by decide +kernel
theorem hdX1_rainGoesOnWith : yX1_rainGoesOnWith.cls ≠ "java/lang/invoke/MethodHandle" ∧ yX1_rainGoesOnWith.cls ≠ "java/lang/invoke/VarHandle" ∧ (parseMethodDescriptor yX1_rainGoesOnWith.desc).map (fun d => d.parameters.length) = some 1 := by decide +kernel
set_option maxHeartbeats 4000000 in
set_option maxRecDepth 100000 in
theorem X1_rainGoesOnWith_ok {l : Launch} {D : va_G} {Y : Nat → ClassId} {a : Nat → Nat} {pl : Int32} {ln : Int32} {ou : Int32} {im : Int32} {n1 : Int32} {f1 : Nat → Int32} {n2 : Int32} {f2 : Nat → Int32} {p0 : Int32} {r : Int32} {upl : Int32} {uim : Int32} {un1 : Int32} {uf1 : Nat → Int32} (h : X1_rainGoesOnWith pl ln ou im n1 f1 n2 f2 p0 = some (r, upl, uim, un1, uf1)) : MW l yX1_rainGoesOnWith wsX1_rainGoesOnWith 3 72 D Y [.ref (a 0), .int p0] (wReader Y a pl ln ou im n1 f1 n2 f2) (wReader Y a upl ln ou uim un1 uf1 n2 f2) (some (.int r)) := by
  refine MW_of (cc := cX1_rainGoesOnWith) (nL := 2) (ret := some .boolean) (lv0 := [(0, .ref (a 0)), (1, .int p0)]) (by decide) rfl (Nat.le_of_ble_eq_true rfl) rfl rfl (fun X Af Q C hA hQ => ?_)
  unfold X1_rainGoesOnWith at h
  refine V_iload_n (pc := 0) C dX1_rainGoesOnWith_0 rfl 1 rfl ?_
  refine V_bipush (pc := 1) (v := 58) C dX1_rainGoesOnWith_1 rfl ?_
  refine V_icmp_ne (pc := 3) C 27 dX1_rainGoesOnWith_3 rfl (fun c3 => ?_) (fun c3 => ?_)
  · replace h := t_neg c3 h
    refine V_iload_n (pc := 27) C dX1_rainGoesOnWith_27 rfl 1 rfl ?_
    refine V_bipush (pc := 28) (v := 48) C dX1_rainGoesOnWith_28 rfl ?_
    refine jn0_ok (P := (VW X D 2 Q (KM Af X) (0, 0) (wReader Y a pl ln ou im n1 f1 n2 f2) [(0, .ref (a 0)), (1, .int p0)] 45 [])) (fun h => ?_) (fun J45 hJ45 h => ?_) h
    · refine V_aload_n (pc := 45) C dX1_rainGoesOnWith_45 rfl 0 rfl ?_
      refine V_aload_n (pc := 46) C dX1_rainGoesOnWith_46 rfl 0 rfl ?_
      refine V_get (pc := 47) (v := .ref (a 1)) C 0 1 0 hiX1_rainGoesOnWith_1 rfl rfl (by decide) wX1_rainGoesOnWith_k0 rfl dX1_rainGoesOnWith_47 ?_
      refine V_iload_n (pc := 50) C dX1_rainGoesOnWith_50 rfl 1 rfl ?_
      refine V_iconst (pc := 51) (v := 3) C dX1_rainGoesOnWith_51 rfl ?_
      refine V_iconst (pc := 52) (v := 5) C dX1_rainGoesOnWith_52 rfl ?_
      obtain ⟨r53, oim_53, on1_53, of1_53, hq, h⟩ := ob4_some h
      refine V_callVW (pc := 53) (rest := []) (st2 := [.int r53]) (ws' := wReader Y a pl ln ou oim_53 on1_53 of1_53 n2 f2) C hA (X1_numbersGoOnWith_rain_ok (a := a) hq) gX1_rainGoesOnWith_X1_numbersGoOnWith rfl ⟨rfl, hdX1_numbersGoOnWith⟩ ⟨Nat.le_of_ble_eq_true rfl, Nat.le_of_ble_eq_true rfl⟩ ⟨Nat.le_refl _, Nat.le_refl _⟩ [0, 1, 2, 3, 4] rfl rfl 0 1 rfl rfl rfl (Nat.le_of_ble_eq_true rfl) dX1_rainGoesOnWith_53 rfl rfl ?_
      obtain ⟨b56, h⟩ := chk_some h
      cases h
      subst hQ
      exact V_zretW C (isB_n b56) dX1_rainGoesOnWith_56
    refine V_icmp_ne (pc := 30) C 45 dX1_rainGoesOnWith_30 rfl (fun c30 => ?_) (fun c30 => ?_)
    · replace h := t_neg c30 h
      exact V_sub [0, 1] rfl (hJ45 h)
    · replace h := t_pos c30 h
      refine V_aload_n (pc := 33) C dX1_rainGoesOnWith_33 rfl 0 rfl ?_
      refine V_get (pc := 34) (v := .ref (a 1)) C 0 1 0 hiX1_rainGoesOnWith_1 rfl rfl (by decide) wX1_rainGoesOnWith_k0 rfl dX1_rainGoesOnWith_34 ?_
      obtain ⟨r37, hq, h⟩ := ob1_some h
      refine V_callVR (pc := 37) (rest := []) (st2 := [.int r37]) C (X2_size_ok (a := (a 1)) (b := (a 2)) hq) gX1_rainGoesOnWith_X2_size rfl ⟨rfl, hdX2_size⟩ ⟨Nat.le_of_ble_eq_true rfl, Nat.le_of_ble_eq_true rfl⟩ ⟨Nat.le_refl _, Nat.le_refl _⟩ [1, 2] rfl 1 2 rfl rfl rfl (Nat.le_of_ble_eq_true rfl) dX1_rainGoesOnWith_37 rfl ?_
      refine V_if_ne (pc := 40) C 45 dX1_rainGoesOnWith_40 rfl (fun c40 => ?_) (fun c40 => ?_)
      · replace h := t_neg c40 h
        exact V_sub [0, 1] rfl (hJ45 h)
      · replace h := t_pos c40 h
        refine V_iconst (pc := 43) (v := 0) C dX1_rainGoesOnWith_43 rfl ?_
        cases h
        subst hQ
        exact V_zretW C (by decide) dX1_rainGoesOnWith_44
  · replace h := t_pos c3 h
    refine V_aload_n (pc := 6) C dX1_rainGoesOnWith_6 rfl 0 rfl ?_
    refine V_get (pc := 7) (v := .int im) C 0 1 5 hiX1_rainGoesOnWith_1 rfl rfl (by decide) wX1_rainGoesOnWith_k2 rfl dX1_rainGoesOnWith_7 ?_
    refine V_if_eq (pc := 10) C 25 dX1_rainGoesOnWith_10 rfl (fun c10 => ?_) (fun c10 => ?_)
    · replace h := t_pos c10 h
      refine V_iconst (pc := 25) (v := 0) C dX1_rainGoesOnWith_25 rfl ?_
      cases h
      subst hQ
      exact V_zretW C (by decide) dX1_rainGoesOnWith_26
    · replace h := t_neg c10 h
      refine V_aload_n (pc := 13) C dX1_rainGoesOnWith_13 rfl 0 rfl ?_
      refine V_iload_n (pc := 14) C dX1_rainGoesOnWith_14 rfl 1 rfl ?_
      obtain ⟨r15, opl_15, oim_15, hq, h⟩ := ob3_some h
      refine V_callVW (pc := 15) (rest := []) (st2 := [.int r15]) (ws' := wReader Y a opl_15 ln ou oim_15 n1 f1 n2 f2) C hA (X1_takesColon_ok (a := a) hq) gX1_rainGoesOnWith_X1_takesColon rfl ⟨rfl, hdX1_takesColon⟩ ⟨Nat.le_of_ble_eq_true rfl, Nat.le_of_ble_eq_true rfl⟩ ⟨Nat.le_refl _, Nat.le_refl _⟩ [0, 1, 2, 3, 4] rfl rfl 0 1 rfl rfl rfl (Nat.le_of_ble_eq_true rfl) dX1_rainGoesOnWith_15 rfl rfl ?_
      refine V_if_eq (pc := 18) C 25 dX1_rainGoesOnWith_18 rfl (fun c18 => ?_) (fun c18 => ?_)
      · replace h := t_pos c18 h
        refine V_iconst (pc := 25) (v := 0) C dX1_rainGoesOnWith_25 rfl ?_
        cases h
        subst hQ
        exact V_zretW C (by decide) dX1_rainGoesOnWith_26
      · replace h := t_neg c18 h
        refine V_iconst (pc := 21) (v := 1) C dX1_rainGoesOnWith_21 rfl ?_
        refine V_goto (pc := 22) C 26 dX1_rainGoesOnWith_22 rfl ?_
        cases h
        subst hQ
        exact V_zretW C (by decide) dX1_rainGoesOnWith_26
def X1_startsWith (pl : Int32) (ln : Int32) (ou : Int32) (im : Int32) (n1 : Int32) (f1 : Nat → Int32) (n2 : Int32) (f2 : Nat → Int32) (p0 : Int32) : Option (Int32 × Int32 × Int32) :=
  jn1 (fun (s12_1 : Int32) => chk (isB s12_1) (jn1 (fun (s28_1 : Int32) => if s12_1 = 0 then (if p0 = (114 : Int32) then (some ((1 : Int32), s28_1, s12_1)) else (some ((0 : Int32), s28_1, s12_1))) else (some ((1 : Int32), s28_1, s12_1))) fun J28 =>
  if s12_1 = 0 then (J28 (1 : Int32)) else (J28 (2 : Int32)))) fun J12 =>
  if p0 = (117 : Int32) then (J12 (1 : Int32)) else (J12 (0 : Int32))
theorem wX1_startsWith_k0 : Cond.fieldLink RX1 36 (TX1 4).1 (TX1 4).2.1 (TX1 4).2.2.1 ∈ wsX1_startsWith := by decide +kernel
theorem hiX1_startsWith_1 : ∀ w ∈ u_ws RX1 TX1 6, w ∈ wsX1_startsWith := fun _ h => List.mem_cons_of_mem _ (List.mem_append_right _ h)
theorem wX1_startsWith_k2 : Cond.fieldLink RX1 28 (TX1 2).1 (TX1 2).2.1 (TX1 2).2.2.1 ∈ wsX1_startsWith := by decide +kernel
theorem hdX1_startsWith : yX1_startsWith.cls ≠ "java/lang/invoke/MethodHandle" ∧ yX1_startsWith.cls ≠ "java/lang/invoke/VarHandle" ∧ (parseMethodDescriptor yX1_startsWith.desc).map (fun d => d.parameters.length) = some 1 := by decide +kernel
set_option maxHeartbeats 4000000 in
set_option maxRecDepth 100000 in
theorem X1_startsWith_ok {l : Launch} {D : va_G} {Y : Nat → ClassId} {a : Nat → Nat} {pl : Int32} {ln : Int32} {ou : Int32} {im : Int32} {n1 : Int32} {f1 : Nat → Int32} {n2 : Int32} {f2 : Nat → Int32} {p0 : Int32} {r : Int32} {upl : Int32} {uou : Int32} (h : X1_startsWith pl ln ou im n1 f1 n2 f2 p0 = some (r, upl, uou)) : MW l yX1_startsWith wsX1_startsWith 0 0 D Y [.ref (a 0), .int p0] (wReader Y a pl ln ou im n1 f1 n2 f2) (wReader Y a upl ln uou im n1 f1 n2 f2) (some (.int r)) := by
  refine MW_of (cc := cX1_startsWith) (nL := 2) (ret := some .boolean) (lv0 := [(0, .ref (a 0)), (1, .int p0)]) (by decide) rfl (Nat.le_of_ble_eq_true rfl) rfl rfl (fun X Af Q C hA hQ => ?_)
  unfold X1_startsWith at h
  refine V_aload_n (pc := 0) C dX1_startsWith_0 rfl 0 rfl ?_
  refine V_iload_n (pc := 1) C dX1_startsWith_1 rfl 1 rfl ?_
  refine V_bipush (pc := 2) (v := 117) C dX1_startsWith_2 rfl ?_
  refine jn1_ok (P := (fun (s12_1 : Int32) => VW X D 2 Q (KM Af X) (0, 0) (wReader Y a pl ln ou im n1 f1 n2 f2) [(0, .ref (a 0)), (1, .int p0)] 12 [.int s12_1, .ref (a 0)])) (fun s12_1 h => ?_) (fun J12 hJ12 h => ?_) h
  · obtain ⟨b12, h⟩ := chk_some h
    refine V_put (pc := 12) (ws' := wReader Y a pl ln s12_1 im n1 f1 n2 f2) C 0 1 4 hiX1_startsWith_1 tyX1_ok nmX1 rfl rfl (by decide) wX1_startsWith_k0 rfl (isB_n b12) (isB_f b12) (Nat.le_of_ble_eq_true rfl) dX1_startsWith_12 rfl ?_
    refine V_aload_n (pc := 15) C dX1_startsWith_15 rfl 0 rfl ?_
    refine V_aload_n (pc := 16) C dX1_startsWith_16 rfl 0 rfl ?_
    refine V_get (pc := 17) (v := .int s12_1) C 0 1 4 hiX1_startsWith_1 rfl rfl (by decide) wX1_startsWith_k0 rfl dX1_startsWith_17 ?_
    refine jn1_ok (P := (fun (s28_1 : Int32) => VW X D 2 Q (KM Af X) (0, 0) (wReader Y a pl ln s12_1 im n1 f1 n2 f2) [(0, .ref (a 0)), (1, .int p0)] 28 [.int s28_1, .ref (a 0)])) (fun s28_1 h => ?_) (fun J28 hJ28 h => ?_) h
    · refine V_put (pc := 28) (ws' := wReader Y a s28_1 ln s12_1 im n1 f1 n2 f2) C 0 1 2 hiX1_startsWith_1 tyX1_ok nmX1 rfl rfl (by decide) wX1_startsWith_k2 rfl rfl rfl (Nat.le_of_ble_eq_true rfl) dX1_startsWith_28 rfl ?_
      refine V_aload_n (pc := 31) C dX1_startsWith_31 rfl 0 rfl ?_
      refine V_get (pc := 32) (v := .int s12_1) C 0 1 4 hiX1_startsWith_1 rfl rfl (by decide) wX1_startsWith_k0 rfl dX1_startsWith_32 ?_
      refine V_if_ne (pc := 35) C 44 dX1_startsWith_35 rfl (fun c35 => ?_) (fun c35 => ?_)
      · replace h := t_neg c35 h
        refine V_iconst (pc := 44) (v := 1) C dX1_startsWith_44 rfl ?_
        refine V_goto (pc := 45) C 49 dX1_startsWith_45 rfl ?_
        cases h
        subst hQ
        exact V_zretW C (by decide) dX1_startsWith_49
      · replace h := t_pos c35 h
        refine V_iload_n (pc := 38) C dX1_startsWith_38 rfl 1 rfl ?_
        refine V_bipush (pc := 39) (v := 114) C dX1_startsWith_39 rfl ?_
        refine V_icmp_ne (pc := 41) C 48 dX1_startsWith_41 rfl (fun c41 => ?_) (fun c41 => ?_)
        · replace h := t_neg c41 h
          refine V_iconst (pc := 48) (v := 0) C dX1_startsWith_48 rfl ?_
          cases h
          subst hQ
          exact V_zretW C (by decide) dX1_startsWith_49
        · replace h := t_pos c41 h
          refine V_iconst (pc := 44) (v := 1) C dX1_startsWith_44 rfl ?_
          refine V_goto (pc := 45) C 49 dX1_startsWith_45 rfl ?_
          cases h
          subst hQ
          exact V_zretW C (by decide) dX1_startsWith_49
    refine V_if_eq (pc := 20) C 27 dX1_startsWith_20 rfl (fun c20 => ?_) (fun c20 => ?_)
    · replace h := t_pos c20 h
      refine V_iconst (pc := 27) (v := 1) C dX1_startsWith_27 rfl ?_
      exact V_sub [0, 1] rfl (hJ28 _ h)
    · replace h := t_neg c20 h
      refine V_iconst (pc := 23) (v := 2) C dX1_startsWith_23 rfl ?_
      refine V_goto (pc := 24) C 28 dX1_startsWith_24 rfl ?_
      exact V_sub [0, 1] rfl (hJ28 _ h)
  refine V_icmp_ne (pc := 4) C 11 dX1_startsWith_4 rfl (fun c4 => ?_) (fun c4 => ?_)
  · replace h := t_neg c4 h
    refine V_iconst (pc := 11) (v := 0) C dX1_startsWith_11 rfl ?_
    exact V_sub [0, 1] rfl (hJ12 _ h)
  · replace h := t_pos c4 h
    refine V_iconst (pc := 7) (v := 1) C dX1_startsWith_7 rfl ?_
    refine V_goto (pc := 8) C 12 dX1_startsWith_8 rfl ?_
    exact V_sub [0, 1] rfl (hJ12 _ h)
def X1_goesOnWith (pl : Int32) (ln : Int32) (ou : Int32) (im : Int32) (n1 : Int32) (f1 : Nat → Int32) (n2 : Int32) (f2 : Nat → Int32) (p0 : Int32) : Option (Int32 × Int32 × Int32 × Int32 × Int32 × Int32 × (Nat → Int32) × Int32 × (Nat → Int32)) :=
  if pl = 0 then (ob3 (X1_startsWith pl ln ou im n1 f1 n2 f2 p0) fun r38 opl_38 oou_38 =>
  chk (isB r38) (some (r38, opl_38, ln, oou_38, im, n1, f1, n2, f2))) else (if pl = 1 then (ob5 (X1_rainGoesOnWith pl ln ou im n1 f1 n2 f2 p0) fun r44 opl_44 oim_44 on1_44 of1_44 =>
  chk (isB r44) (some (r44, opl_44, ln, ou, oim_44, on1_44, of1_44, n2, f2))) else (if pl = 2 then (ob3 (X1_takesLength pl ln ou im n1 f1 n2 f2 (p0 - (48 : Int32))) fun r53 opl_53 oln_53 =>
  chk (isB r53) (some (r53, opl_53, oln_53, ou, im, n1, f1, n2, f2))) else (if pl = 3 then (ob3 (X1_takesColon pl ln ou im n1 f1 n2 f2 p0) fun r59 opl_59 oim_59 =>
  chk (isB r59) (some (r59, opl_59, ln, ou, oim_59, n1, f1, n2, f2))) else (ob4 (X1_numbersGoOnWith_row pl ln ou im n1 f1 n2 f2 p0 (8 : Int32) (99 : Int32)) fun r73 oim_73 on2_73 of2_73 =>
  chk (isB r73) (some (r73, pl, ln, ou, oim_73, n1, f1, on2_73, of2_73))))))
theorem wX1_goesOnWith_k0 : Cond.fieldLink RX1 28 (TX1 2).1 (TX1 2).2.1 (TX1 2).2.2.1 ∈ wsX1_goesOnWith := by decide +kernel
theorem hiX1_goesOnWith_1 : ∀ w ∈ u_ws RX1 TX1 6, w ∈ wsX1_goesOnWith := fun _ h => List.mem_cons_of_mem _ (List.mem_append_left _ (List.mem_append_right _ h))
theorem wX1_goesOnWith_k2 : Cond.fieldLink RX1 18 (TX1 1).1 (TX1 1).2.1 (TX1 1).2.2.1 ∈ wsX1_goesOnWith := by decide +kernel
theorem hdX1_goesOnWith : yX1_goesOnWith.cls ≠ "java/lang/invoke/MethodHandle" ∧ yX1_goesOnWith.cls ≠ "java/lang/invoke/VarHandle" ∧ (parseMethodDescriptor yX1_goesOnWith.desc).map (fun d => d.parameters.length) = some 1 := by decide +kernel
set_option maxHeartbeats 4000000 in
set_option maxRecDepth 100000 in
theorem X1_goesOnWith_ok {l : Launch} {D : va_G} {Y : Nat → ClassId} {a : Nat → Nat} {pl : Int32} {ln : Int32} {ou : Int32} {im : Int32} {n1 : Int32} {f1 : Nat → Int32} {n2 : Int32} {f2 : Nat → Int32} {p0 : Int32} {r : Int32} {upl : Int32} {uln : Int32} {uou : Int32} {uim : Int32} {un1 : Int32} {uf1 : Nat → Int32} {un2 : Int32} {uf2 : Nat → Int32} (h : X1_goesOnWith pl ln ou im n1 f1 n2 f2 p0 = some (r, upl, uln, uou, uim, un1, uf1, un2, uf2)) : MW l yX1_goesOnWith wsX1_goesOnWith 4 93 D Y [.ref (a 0), .int p0] (wReader Y a pl ln ou im n1 f1 n2 f2) (wReader Y a upl uln uou uim un1 uf1 un2 uf2) (some (.int r)) := by
  refine MW_of (cc := cX1_goesOnWith) (nL := 2) (ret := some .boolean) (lv0 := [(0, .ref (a 0)), (1, .int p0)]) (by decide) rfl (Nat.le_of_ble_eq_true rfl) rfl rfl (fun X Af Q C hA hQ => ?_)
  unfold X1_goesOnWith at h
  refine V_aload_n (pc := 0) C dX1_goesOnWith_0 rfl 0 rfl ?_
  refine V_get (pc := 1) (v := .int pl) C 0 1 2 hiX1_goesOnWith_1 rfl rfl (by decide) wX1_goesOnWith_k0 rfl dX1_goesOnWith_1 ?_
  by_cases e4_0 : pl = 0
  · replace h := t_pos e4_0 h
    refine V_top (congrArg Value.int e4_0) ?_
    refine V_tableIn (pc := 4) C 36 dX1_goesOnWith_4 (by decide) (by decide) rfl rfl ?_
    refine V_aload_n (pc := 36) C dX1_goesOnWith_36 rfl 0 rfl ?_
    refine V_iload_n (pc := 37) C dX1_goesOnWith_37 rfl 1 rfl ?_
    obtain ⟨r38, opl_38, oou_38, hq, h⟩ := ob3_some h
    refine V_callVW (pc := 38) (rest := []) (st2 := [.int r38]) (ws' := wReader Y a opl_38 ln oou_38 im n1 f1 n2 f2) C hA (X1_startsWith_ok (a := a) hq) gX1_goesOnWith_X1_startsWith rfl ⟨rfl, hdX1_startsWith⟩ ⟨Nat.le_of_ble_eq_true rfl, Nat.le_of_ble_eq_true rfl⟩ ⟨Nat.le_refl _, Nat.le_refl _⟩ [0, 1, 2, 3, 4] rfl rfl 0 1 rfl rfl rfl (Nat.le_of_ble_eq_true rfl) dX1_goesOnWith_38 rfl rfl ?_
    obtain ⟨b41, h⟩ := chk_some h
    cases h
    subst hQ
    exact V_zretW C (isB_n b41) dX1_goesOnWith_41
  replace h := t_neg e4_0 h
  by_cases e4_1 : pl = 1
  · replace h := t_pos e4_1 h
    refine V_top (congrArg Value.int e4_1) ?_
    refine V_tableIn (pc := 4) C 42 dX1_goesOnWith_4 (by decide) (by decide) rfl rfl ?_
    refine V_aload_n (pc := 42) C dX1_goesOnWith_42 rfl 0 rfl ?_
    refine V_iload_n (pc := 43) C dX1_goesOnWith_43 rfl 1 rfl ?_
    obtain ⟨r44, opl_44, oim_44, on1_44, of1_44, hq, h⟩ := ob5_some h
    refine V_callVW (pc := 44) (rest := []) (st2 := [.int r44]) (ws' := wReader Y a opl_44 ln ou oim_44 on1_44 of1_44 n2 f2) C hA (X1_rainGoesOnWith_ok (a := a) hq) gX1_goesOnWith_X1_rainGoesOnWith rfl ⟨rfl, hdX1_rainGoesOnWith⟩ ⟨Nat.le_of_ble_eq_true rfl, Nat.le_of_ble_eq_true rfl⟩ ⟨Nat.le_refl _, Nat.le_refl _⟩ [0, 1, 2, 3, 4] rfl rfl 0 1 rfl rfl rfl (Nat.le_of_ble_eq_true rfl) dX1_goesOnWith_44 rfl rfl ?_
    obtain ⟨b47, h⟩ := chk_some h
    cases h
    subst hQ
    exact V_zretW C (isB_n b47) dX1_goesOnWith_47
  replace h := t_neg e4_1 h
  by_cases e4_2 : pl = 2
  · replace h := t_pos e4_2 h
    refine V_top (congrArg Value.int e4_2) ?_
    refine V_tableIn (pc := 4) C 48 dX1_goesOnWith_4 (by decide) (by decide) rfl rfl ?_
    refine V_aload_n (pc := 48) C dX1_goesOnWith_48 rfl 0 rfl ?_
    refine V_iload_n (pc := 49) C dX1_goesOnWith_49 rfl 1 rfl ?_
    refine V_bipush (pc := 50) (v := 48) C dX1_goesOnWith_50 rfl ?_
    refine V_isub (pc := 52) C dX1_goesOnWith_52 ?_
    obtain ⟨r53, opl_53, oln_53, hq, h⟩ := ob3_some h
    refine V_callVW (pc := 53) (rest := []) (st2 := [.int r53]) (ws' := wReader Y a opl_53 oln_53 ou im n1 f1 n2 f2) C hA (X1_takesLength_ok (a := a) hq) gX1_goesOnWith_X1_takesLength rfl ⟨rfl, hdX1_takesLength⟩ ⟨Nat.le_of_ble_eq_true rfl, Nat.le_of_ble_eq_true rfl⟩ ⟨Nat.le_refl _, Nat.le_refl _⟩ [0, 1, 2, 3, 4] rfl rfl 0 1 rfl rfl rfl (Nat.le_of_ble_eq_true rfl) dX1_goesOnWith_53 rfl rfl ?_
    obtain ⟨b56, h⟩ := chk_some h
    cases h
    subst hQ
    exact V_zretW C (isB_n b56) dX1_goesOnWith_56
  replace h := t_neg e4_2 h
  by_cases e4_3 : pl = 3
  · replace h := t_pos e4_3 h
    refine V_top (congrArg Value.int e4_3) ?_
    refine V_tableIn (pc := 4) C 57 dX1_goesOnWith_4 (by decide) (by decide) rfl rfl ?_
    refine V_aload_n (pc := 57) C dX1_goesOnWith_57 rfl 0 rfl ?_
    refine V_iload_n (pc := 58) C dX1_goesOnWith_58 rfl 1 rfl ?_
    obtain ⟨r59, opl_59, oim_59, hq, h⟩ := ob3_some h
    refine V_callVW (pc := 59) (rest := []) (st2 := [.int r59]) (ws' := wReader Y a opl_59 ln ou oim_59 n1 f1 n2 f2) C hA (X1_takesColon_ok (a := a) hq) gX1_goesOnWith_X1_takesColon rfl ⟨rfl, hdX1_takesColon⟩ ⟨Nat.le_of_ble_eq_true rfl, Nat.le_of_ble_eq_true rfl⟩ ⟨Nat.le_refl _, Nat.le_refl _⟩ [0, 1, 2, 3, 4] rfl rfl 0 1 rfl rfl rfl (Nat.le_of_ble_eq_true rfl) dX1_goesOnWith_59 rfl rfl ?_
    obtain ⟨b62, h⟩ := chk_some h
    cases h
    subst hQ
    exact V_zretW C (isB_n b62) dX1_goesOnWith_62
  replace h := t_neg e4_3 h
  have e4 : Int32.toInt pl < 0 ∨ 3 < Int32.toInt pl := by have n0 := lv_neT (a := 0) e4_0 rfl; have n1 := lv_neT (a := 1) e4_1 rfl; have n2 := lv_neT (a := 2) e4_2 rfl; have n3 := lv_neT (a := 3) e4_3 rfl; omega
  refine V_tableOut (pc := 4) C 63 dX1_goesOnWith_4 e4 rfl ?_
  refine V_aload_n (pc := 63) C dX1_goesOnWith_63 rfl 0 rfl ?_
  refine V_aload_n (pc := 64) C dX1_goesOnWith_64 rfl 0 rfl ?_
  refine V_get (pc := 65) (v := .ref (a 3)) C 0 1 1 hiX1_goesOnWith_1 rfl rfl (by decide) wX1_goesOnWith_k2 rfl dX1_goesOnWith_65 ?_
  refine V_iload_n (pc := 68) C dX1_goesOnWith_68 rfl 1 rfl ?_
  refine V_bipush (pc := 69) (v := 8) C dX1_goesOnWith_69 rfl ?_
  refine V_bipush (pc := 71) (v := 99) C dX1_goesOnWith_71 rfl ?_
  obtain ⟨r73, oim_73, on2_73, of2_73, hq, h⟩ := ob4_some h
  refine V_callVW (pc := 73) (rest := []) (st2 := [.int r73]) (ws' := wReader Y a pl ln ou oim_73 n1 f1 on2_73 of2_73) C hA (X1_numbersGoOnWith_row_ok (a := a) hq) gX1_goesOnWith_X1_numbersGoOnWith rfl ⟨rfl, hdX1_numbersGoOnWith⟩ ⟨Nat.le_of_ble_eq_true rfl, Nat.le_of_ble_eq_true rfl⟩ ⟨Nat.le_refl _, Nat.le_refl _⟩ [0, 1, 2, 3, 4] rfl rfl 0 1 rfl rfl rfl (Nat.le_of_ble_eq_true rfl) dX1_goesOnWith_73 rfl rfl ?_
  obtain ⟨b76, h⟩ := chk_some h
  cases h
  subst hQ
  exact V_zretW C (isB_n b76) dX1_goesOnWith_76
