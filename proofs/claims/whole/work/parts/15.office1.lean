def X5_hasUnit (a : Nat → Nat) (q : Nat → Int32) (pg : Nat → Int32) (gS : Nat → Option Nat) (gU : Nat → Option Nat) (rd : RdT) (ft : FtT) (S : Nat → StT) (U : Nat → UnT) (p0 : Int32) : Option (Int32) :=
  if p0 < 0 then (some (0 : Int32)) else (if (q 7) ≤ p0 then (some (0 : Int32)) else (some (1 : Int32)))
theorem wX5_hasUnit_k0 : Cond.fieldLink RX5 169 (TX5 7).1 (TX5 7).2.1 (TX5 7).2.2.1 ∈ wsX5_hasUnit := by decide +kernel
theorem hiX5_hasUnit_5 : ∀ w ∈ u_ws RX5 TX5 11, w ∈ wsX5_hasUnit := fun _ h => List.mem_cons_of_mem _ (List.mem_append_right _ h)
theorem hdX5_hasUnit : yX5_hasUnit.cls ≠ "java/lang/invoke/MethodHandle" ∧ yX5_hasUnit.cls ≠ "java/lang/invoke/VarHandle" ∧ (parseMethodDescriptor yX5_hasUnit.desc).map (fun d => d.parameters.length) = some 1 := by decide +kernel
set_option maxHeartbeats 4000000 in
set_option maxRecDepth 100000 in
theorem X5_hasUnit_ok {l : Launch} {D : va_G} {Y : Nat → ClassId}  {a : Nat → Nat} {q : Nat → Int32} {pg : Nat → Int32} {gS : Nat → Option Nat} {gU : Nat → Option Nat} {rd : RdT} {ft : FtT} {S : Nat → StT} {U : Nat → UnT} {p0 : Int32} {r : Int32} (h : X5_hasUnit a q pg gS gU rd ft S U p0 = some r) : MR l yX5_hasUnit wsX5_hasUnit 0 0 D Y [.ref (a 0), .int p0] (wOff Y a q pg gS gU rd ft S U) (some (.int r)) := by
  refine MR_of (cc := cX5_hasUnit) (nL := 2) (ret := some .boolean) (lv0 := [(0, .ref (a 0)), (1, .int p0)]) (by decide) rfl (Nat.le_of_ble_eq_true rfl) rfl (fun X Q C hQ => ?_)
  unfold X5_hasUnit at h
  refine V_iload_n (pc := 0) C dX5_hasUnit_0 rfl 1 rfl ?_
  refine V_if_lt (pc := 1) C 16 dX5_hasUnit_1 rfl (fun c1 => ?_) (fun c1 => ?_)
  · replace h := t_pos c1 h
    refine V_iconst (pc := 16) (v := 0) C dX5_hasUnit_16 rfl ?_
    cases h
    subst hQ
    exact V_zretR C (by decide) dX5_hasUnit_17
  · replace h := t_neg c1 h
    refine V_iload_n (pc := 4) C dX5_hasUnit_4 rfl 1 rfl ?_
    refine V_aload_n (pc := 5) C dX5_hasUnit_5 rfl 0 rfl ?_
    refine V_get (pc := 6) (v := .int (q 7)) C 0 5 7 hiX5_hasUnit_5 rfl rfl (by decide) wX5_hasUnit_k0 rfl dX5_hasUnit_6 ?_
    refine V_icmp_ge (pc := 9) C 16 dX5_hasUnit_9 rfl (fun c9 => ?_) (fun c9 => ?_)
    · replace h := t_pos c9 h
      refine V_iconst (pc := 16) (v := 0) C dX5_hasUnit_16 rfl ?_
      cases h
      subst hQ
      exact V_zretR C (by decide) dX5_hasUnit_17
    · replace h := t_neg c9 h
      refine V_iconst (pc := 12) (v := 1) C dX5_hasUnit_12 rfl ?_
      refine V_goto (pc := 13) C 17 dX5_hasUnit_13 rfl ?_
      cases h
      subst hQ
      exact V_zretR C (by decide) dX5_hasUnit_17
def X5_dropUnit (a : Nat → Nat) (q : Nat → Int32) (pg : Nat → Int32) (gS : Nat → Option Nat) (gU : Nat → Option Nat) (rd : RdT) (ft : FtT) (S : Nat → StT) (U : Nat → UnT) (p0 : Int32) : Option (Int32 × Int32 × Int32 × (Nat → Option Nat)) :=
  ob1 (X5_hasUnit a q pg gS gU rd ft S U p0) fun r2 =>
  if r2 = 0 then (some ((-1000002 : Int32), (q 7), (q 9), gU)) else (chk (inB p0 4) (if gU (Int32.toNatClampNeg p0) = some (a 36) then (jn1 (fun (mgU_50 : Nat → Option Nat) => chk (inB ((q 7) - (1 : Int32)) 4) (some (((q 7) - (1 : Int32)), ((q 7) - (1 : Int32)), ((q 9) + (1 : Int32)), (va_up mgU_50 (Int32.toNatClampNeg ((q 7) - (1 : Int32))) (some (a 36)))))) fun J50 =>
  wh2 (fun self20 (x3_20 : Int32) (mgU_20 : Nat → Option Nat) =>
  if ((q 7) - (1 : Int32)) ≤ x3_20 then (J50 mgU_20) else (chk (inB (x3_20 + (1 : Int32)) 4) (if mgU_20 (Int32.toNatClampNeg (x3_20 + (1 : Int32))) = some (a 36) then (chk (inB x3_20 4) (self20 (x3_20 + 1) (va_up mgU_20 (Int32.toNatClampNeg x3_20) (some (a 36))))) else (if mgU_20 (Int32.toNatClampNeg (x3_20 + (1 : Int32))) = some (a 39) then (chk (inB x3_20 4) (self20 (x3_20 + 1) (va_up mgU_20 (Int32.toNatClampNeg x3_20) (some (a 39))))) else (if mgU_20 (Int32.toNatClampNeg (x3_20 + (1 : Int32))) = some (a 42) then (chk (inB x3_20 4) (self20 (x3_20 + 1) (va_up mgU_20 (Int32.toNatClampNeg x3_20) (some (a 42))))) else (if mgU_20 (Int32.toNatClampNeg (x3_20 + (1 : Int32))) = some (a 45) then (chk (inB x3_20 4) (self20 (x3_20 + 1) (va_up mgU_20 (Int32.toNatClampNeg x3_20) (some (a 45))))) else (none))))))) 200 p0 gU) else (if gU (Int32.toNatClampNeg p0) = some (a 39) then (jn1 (fun (mgU_50 : Nat → Option Nat) => chk (inB ((q 7) - (1 : Int32)) 4) (some (((q 7) - (1 : Int32)), ((q 7) - (1 : Int32)), ((q 9) + (1 : Int32)), (va_up mgU_50 (Int32.toNatClampNeg ((q 7) - (1 : Int32))) (some (a 39)))))) fun J50 =>
  wh2 (fun self20 (x3_20 : Int32) (mgU_20 : Nat → Option Nat) =>
  if ((q 7) - (1 : Int32)) ≤ x3_20 then (J50 mgU_20) else (chk (inB (x3_20 + (1 : Int32)) 4) (if mgU_20 (Int32.toNatClampNeg (x3_20 + (1 : Int32))) = some (a 36) then (chk (inB x3_20 4) (self20 (x3_20 + 1) (va_up mgU_20 (Int32.toNatClampNeg x3_20) (some (a 36))))) else (if mgU_20 (Int32.toNatClampNeg (x3_20 + (1 : Int32))) = some (a 39) then (chk (inB x3_20 4) (self20 (x3_20 + 1) (va_up mgU_20 (Int32.toNatClampNeg x3_20) (some (a 39))))) else (if mgU_20 (Int32.toNatClampNeg (x3_20 + (1 : Int32))) = some (a 42) then (chk (inB x3_20 4) (self20 (x3_20 + 1) (va_up mgU_20 (Int32.toNatClampNeg x3_20) (some (a 42))))) else (if mgU_20 (Int32.toNatClampNeg (x3_20 + (1 : Int32))) = some (a 45) then (chk (inB x3_20 4) (self20 (x3_20 + 1) (va_up mgU_20 (Int32.toNatClampNeg x3_20) (some (a 45))))) else (none))))))) 200 p0 gU) else (if gU (Int32.toNatClampNeg p0) = some (a 42) then (jn1 (fun (mgU_50 : Nat → Option Nat) => chk (inB ((q 7) - (1 : Int32)) 4) (some (((q 7) - (1 : Int32)), ((q 7) - (1 : Int32)), ((q 9) + (1 : Int32)), (va_up mgU_50 (Int32.toNatClampNeg ((q 7) - (1 : Int32))) (some (a 42)))))) fun J50 =>
  wh2 (fun self20 (x3_20 : Int32) (mgU_20 : Nat → Option Nat) =>
  if ((q 7) - (1 : Int32)) ≤ x3_20 then (J50 mgU_20) else (chk (inB (x3_20 + (1 : Int32)) 4) (if mgU_20 (Int32.toNatClampNeg (x3_20 + (1 : Int32))) = some (a 36) then (chk (inB x3_20 4) (self20 (x3_20 + 1) (va_up mgU_20 (Int32.toNatClampNeg x3_20) (some (a 36))))) else (if mgU_20 (Int32.toNatClampNeg (x3_20 + (1 : Int32))) = some (a 39) then (chk (inB x3_20 4) (self20 (x3_20 + 1) (va_up mgU_20 (Int32.toNatClampNeg x3_20) (some (a 39))))) else (if mgU_20 (Int32.toNatClampNeg (x3_20 + (1 : Int32))) = some (a 42) then (chk (inB x3_20 4) (self20 (x3_20 + 1) (va_up mgU_20 (Int32.toNatClampNeg x3_20) (some (a 42))))) else (if mgU_20 (Int32.toNatClampNeg (x3_20 + (1 : Int32))) = some (a 45) then (chk (inB x3_20 4) (self20 (x3_20 + 1) (va_up mgU_20 (Int32.toNatClampNeg x3_20) (some (a 45))))) else (none))))))) 200 p0 gU) else (if gU (Int32.toNatClampNeg p0) = some (a 45) then (jn1 (fun (mgU_50 : Nat → Option Nat) => chk (inB ((q 7) - (1 : Int32)) 4) (some (((q 7) - (1 : Int32)), ((q 7) - (1 : Int32)), ((q 9) + (1 : Int32)), (va_up mgU_50 (Int32.toNatClampNeg ((q 7) - (1 : Int32))) (some (a 45)))))) fun J50 =>
  wh2 (fun self20 (x3_20 : Int32) (mgU_20 : Nat → Option Nat) =>
  if ((q 7) - (1 : Int32)) ≤ x3_20 then (J50 mgU_20) else (chk (inB (x3_20 + (1 : Int32)) 4) (if mgU_20 (Int32.toNatClampNeg (x3_20 + (1 : Int32))) = some (a 36) then (chk (inB x3_20 4) (self20 (x3_20 + 1) (va_up mgU_20 (Int32.toNatClampNeg x3_20) (some (a 36))))) else (if mgU_20 (Int32.toNatClampNeg (x3_20 + (1 : Int32))) = some (a 39) then (chk (inB x3_20 4) (self20 (x3_20 + 1) (va_up mgU_20 (Int32.toNatClampNeg x3_20) (some (a 39))))) else (if mgU_20 (Int32.toNatClampNeg (x3_20 + (1 : Int32))) = some (a 42) then (chk (inB x3_20 4) (self20 (x3_20 + 1) (va_up mgU_20 (Int32.toNatClampNeg x3_20) (some (a 42))))) else (if mgU_20 (Int32.toNatClampNeg (x3_20 + (1 : Int32))) = some (a 45) then (chk (inB x3_20 4) (self20 (x3_20 + 1) (va_up mgU_20 (Int32.toNatClampNeg x3_20) (some (a 45))))) else (none))))))) 200 p0 gU) else (none))))))
theorem wX5_dropUnit_k0 : Cond.fieldLink RX5 21 (TX5 2).1 (TX5 2).2.1 (TX5 2).2.2.1 ∈ wsX5_dropUnit := by decide +kernel
theorem hiX5_dropUnit_5 : ∀ w ∈ u_ws RX5 TX5 11, w ∈ wsX5_dropUnit := fun _ h => List.mem_cons_of_mem _ (List.mem_append_right _ h)
theorem wX5_dropUnit_k2 : Cond.fieldLink RX5 169 (TX5 7).1 (TX5 7).2.1 (TX5 7).2.2.1 ∈ wsX5_dropUnit := by decide +kernel
theorem wX5_dropUnit_k3 : Cond.fieldLink RX5 182 (TX5 9).1 (TX5 9).2.1 (TX5 9).2.2.1 ∈ wsX5_dropUnit := by decide +kernel
theorem wX5_dropUnit_k4 : Cond.constant RX5 80 (-1000002) ∈ wsX5_dropUnit := by decide +kernel
theorem hdX5_dropUnit : yX5_dropUnit.cls ≠ "java/lang/invoke/MethodHandle" ∧ yX5_dropUnit.cls ≠ "java/lang/invoke/VarHandle" ∧ (parseMethodDescriptor yX5_dropUnit.desc).map (fun d => d.parameters.length) = some 1 := by decide +kernel
set_option maxHeartbeats 4000000 in
set_option maxRecDepth 100000 in
theorem X5_dropUnit_ok {l : Launch} {D : va_G} {Y : Nat → ClassId}  {a : Nat → Nat} {q : Nat → Int32} {pg : Nat → Int32} {gS : Nat → Option Nat} {gU : Nat → Option Nat} {rd : RdT} {ft : FtT} {S : Nat → StT} {U : Nat → UnT} {p0 : Int32} {r : Int32} {uq7 : Int32} {uq9 : Int32} {ugU : Nat → Option Nat} (h : X5_dropUnit a q pg gS gU rd ft S U p0 = some (r, uq7, uq9, ugU)) : MW l yX5_dropUnit wsX5_dropUnit 1 21 D Y [.ref (a 0), .int p0] (wOff Y a q pg gS gU rd ft S U) (wOff Y a (up (up q 7 uq7) 9 uq9) pg gS ugU rd ft S U) (some (.int r)) := by
  refine MW_of (cc := cX5_dropUnit) (nL := 4) (ret := some .int) (lv0 := [(0, .ref (a 0)), (1, .int p0)]) (by decide) rfl (Nat.le_of_ble_eq_true rfl) rfl rfl (fun X Af Q C hA hQ => ?_)
  unfold X5_dropUnit at h
  refine V_aload_n (pc := 0) C dX5_dropUnit_0 rfl 0 rfl ?_
  refine V_iload_n (pc := 1) C dX5_dropUnit_1 rfl 1 rfl ?_
  obtain ⟨r2, hq, h⟩ := ob1_some h
  refine V_callVR0 (pc := 2) (rest := []) (st2 := [.int r2]) C (X5_hasUnit_ok (a := a) hq) gX5_dropUnit_X5_hasUnit rfl ⟨rfl, hdX5_hasUnit⟩ ⟨Nat.le_of_ble_eq_true rfl, Nat.le_of_ble_eq_true rfl⟩ ⟨Nat.le_refl _, Nat.le_refl _⟩ 0 5 rfl rfl rfl (Nat.le_of_ble_eq_true rfl) dX5_dropUnit_2 rfl ?_
  refine V_if_ne (pc := 5) C 11 dX5_dropUnit_5 rfl (fun c5 => ?_) (fun c5 => ?_)
  · replace h := t_neg c5 h
    refine V_aload_n (pc := 11) C dX5_dropUnit_11 rfl 0 rfl ?_
    refine V_get (pc := 12) (v := .ref (a 3)) C 0 5 2 hiX5_dropUnit_5 rfl rfl (by decide) wX5_dropUnit_k0 rfl dX5_dropUnit_12 ?_
    refine V_iload_n (pc := 15) C dX5_dropUnit_15 rfl 1 rfl ?_
    obtain ⟨b16, h⟩ := chk_some h
    by_cases e16 : gU (Int32.toNatClampNeg p0) = some (a 36)
    · replace h := t_pos e16 h
      refine V_aald (pc := 16) C 3 3 rfl rfl b16 e16 dX5_dropUnit_16 ?_
      refine V_astore_n (pc := 17) (lv' := [(2, .ref (a 36)), (0, .ref (a 0)), (1, .int p0)]) C dX5_dropUnit_17 rfl (Nat.le_of_ble_eq_true rfl) rfl ?_
      refine V_iload_n (pc := 18) C dX5_dropUnit_18 rfl 2 rfl ?_
      refine V_istore_n (pc := 19) (lv' := [(3, .int p0), (2, .ref (a 36)), (0, .ref (a 0)), (1, .int p0)]) C dX5_dropUnit_19 rfl (Nat.le_of_ble_eq_true rfl) rfl ?_
      refine jn1_ok (P := (fun (mgU_50 : Nat → Option Nat) => VW X D 4 Q (KM Af X) (0, 0) (wOff Y a q pg gS mgU_50 rd ft S U) [(0, .ref (a 0)), (2, .ref (a 36))] 50 [])) (fun mgU_50 h => ?_) (fun J50 hJ50 h => ?_) h
      · refine V_aload_n (pc := 50) C dX5_dropUnit_50 rfl 0 rfl ?_
        refine V_dup (pc := 51) C dX5_dropUnit_51 rfl ?_
        refine V_get (pc := 52) (v := .int (q 7)) C 0 5 7 hiX5_dropUnit_5 rfl rfl (by decide) wX5_dropUnit_k2 rfl dX5_dropUnit_52 ?_
        refine V_iconst (pc := 55) (v := 1) C dX5_dropUnit_55 rfl ?_
        refine V_isub (pc := 56) C dX5_dropUnit_56 ?_
        refine V_put (pc := 57) (ws' := wOff Y a (up q 7 ((q 7) - (1 : Int32))) pg gS mgU_50 rd ft S U) C 0 5 7 hiX5_dropUnit_5 tyX5_ok nmX5 rfl rfl (by decide) wX5_dropUnit_k2 rfl rfl rfl (Nat.le_of_ble_eq_true rfl) dX5_dropUnit_57 rfl ?_
        refine V_aload_n (pc := 60) C dX5_dropUnit_60 rfl 0 rfl ?_
        refine V_get (pc := 61) (v := .ref (a 3)) C 0 5 2 hiX5_dropUnit_5 rfl rfl (by decide) wX5_dropUnit_k0 rfl dX5_dropUnit_61 ?_
        refine V_aload_n (pc := 64) C dX5_dropUnit_64 rfl 0 rfl ?_
        refine V_get (pc := 65) (v := .int ((q 7) - (1 : Int32))) C 0 5 7 hiX5_dropUnit_5 rfl rfl (by decide) wX5_dropUnit_k2 rfl dX5_dropUnit_65 ?_
        refine V_aload_n (pc := 68) C dX5_dropUnit_68 rfl 1 rfl ?_
        obtain ⟨b69, h⟩ := chk_some h
        refine V_aast (pc := 69) (ws' := wOff Y a (up q 7 ((q 7) - (1 : Int32))) pg gS (va_up mgU_50 (Int32.toNatClampNeg ((q 7) - (1 : Int32))) (some (a 36))) rd ft S U) C 3 3 36 4 rfl rfl rfl rfl b69 dX5_dropUnit_69 rfl ?_
        refine V_aload_n (pc := 70) C dX5_dropUnit_70 rfl 0 rfl ?_
        refine V_dup (pc := 71) C dX5_dropUnit_71 rfl ?_
        refine V_get (pc := 72) (v := .int (q 9)) C 0 5 9 hiX5_dropUnit_5 rfl rfl (by decide) wX5_dropUnit_k3 rfl dX5_dropUnit_72 ?_
        refine V_iconst (pc := 75) (v := 1) C dX5_dropUnit_75 rfl ?_
        refine V_iadd (pc := 76) C dX5_dropUnit_76 ?_
        refine V_put (pc := 77) (ws' := wOff Y a (up (up q 7 ((q 7) - (1 : Int32))) 9 ((q 9) + (1 : Int32))) pg gS (va_up mgU_50 (Int32.toNatClampNeg ((q 7) - (1 : Int32))) (some (a 36))) rd ft S U) C 0 5 9 hiX5_dropUnit_5 tyX5_ok nmX5 rfl rfl (by decide) wX5_dropUnit_k3 rfl rfl rfl (Nat.le_of_ble_eq_true rfl) dX5_dropUnit_77 rfl ?_
        refine V_aload_n (pc := 80) C dX5_dropUnit_80 rfl 0 rfl ?_
        refine V_get (pc := 81) (v := .int ((q 7) - (1 : Int32))) C 0 5 7 hiX5_dropUnit_5 rfl rfl (by decide) wX5_dropUnit_k2 rfl dX5_dropUnit_81 ?_
        cases h
        subst hQ
        exact V_iretW C dX5_dropUnit_84
      refine V_sub [2, 1, 0] rfl (wh2_ok (P := (fun (x3_20 : Int32) (mgU_20 : Nat → Option Nat) => VW X D 4 Q (KM Af X) (0, 0) (wOff Y a q pg gS mgU_20 rd ft S U) [(0, .ref (a 0)), (2, .ref (a 36)), (3, .int x3_20)] 20 [])) (fun self20 ih20 x3_20 mgU_20 h => ?_) 200 _ _ h)
      refine V_iload_n (pc := 20) C dX5_dropUnit_20 rfl 2 rfl ?_
      refine V_aload_n (pc := 21) C dX5_dropUnit_21 rfl 0 rfl ?_
      refine V_get (pc := 22) (v := .int (q 7)) C 0 5 7 hiX5_dropUnit_5 rfl rfl (by decide) wX5_dropUnit_k2 rfl dX5_dropUnit_22 ?_
      refine V_iconst (pc := 25) (v := 1) C dX5_dropUnit_25 rfl ?_
      refine V_isub (pc := 26) C dX5_dropUnit_26 ?_
      refine V_icmp_ge (pc := 27) C 50 dX5_dropUnit_27 rfl (fun c27 => ?_) (fun c27 => ?_)
      · replace h := t_pos c27 h
        exact V_sub [0, 1] rfl (hJ50 _ h)
      · replace h := t_neg c27 h
        refine V_aload_n (pc := 30) C dX5_dropUnit_30 rfl 0 rfl ?_
        refine V_get (pc := 31) (v := .ref (a 3)) C 0 5 2 hiX5_dropUnit_5 rfl rfl (by decide) wX5_dropUnit_k0 rfl dX5_dropUnit_31 ?_
        refine V_iload_n (pc := 34) C dX5_dropUnit_34 rfl 2 rfl ?_
        refine V_aload_n (pc := 35) C dX5_dropUnit_35 rfl 0 rfl ?_
        refine V_get (pc := 36) (v := .ref (a 3)) C 0 5 2 hiX5_dropUnit_5 rfl rfl (by decide) wX5_dropUnit_k0 rfl dX5_dropUnit_36 ?_
        refine V_iload_n (pc := 39) C dX5_dropUnit_39 rfl 2 rfl ?_
        refine V_iconst (pc := 40) (v := 1) C dX5_dropUnit_40 rfl ?_
        refine V_iadd (pc := 41) C dX5_dropUnit_41 ?_
        obtain ⟨b42, h⟩ := chk_some h
        by_cases e42 : mgU_20 (Int32.toNatClampNeg (x3_20 + (1 : Int32))) = some (a 36)
        · replace h := t_pos e42 h
          refine V_aald (pc := 42) C 3 3 rfl rfl b42 e42 dX5_dropUnit_42 ?_
          obtain ⟨b43, h⟩ := chk_some h
          refine V_aast (pc := 43) (ws' := wOff Y a q pg gS (va_up mgU_20 (Int32.toNatClampNeg x3_20) (some (a 36))) rd ft S U) C 3 3 36 4 rfl rfl rfl rfl b43 dX5_dropUnit_43 rfl ?_
          refine V_iinc (pc := 44) (v := (x3_20 + 1)) (lv' := [(3, .int (x3_20 + 1)), (0, .ref (a 0)), (2, .ref (a 36))]) C dX5_dropUnit_44 2 rfl rfl (Nat.le_of_ble_eq_true rfl) rfl ?_
          refine V_goto (pc := 47) C 20 dX5_dropUnit_47 rfl ?_
          exact V_sub [1, 2, 0] rfl (ih20 _ _ h)
        replace h := t_neg e42 h
        by_cases e42 : mgU_20 (Int32.toNatClampNeg (x3_20 + (1 : Int32))) = some (a 39)
        · replace h := t_pos e42 h
          refine V_aald (pc := 42) C 3 3 rfl rfl b42 e42 dX5_dropUnit_42 ?_
          obtain ⟨b43, h⟩ := chk_some h
          refine V_aast (pc := 43) (ws' := wOff Y a q pg gS (va_up mgU_20 (Int32.toNatClampNeg x3_20) (some (a 39))) rd ft S U) C 3 3 39 4 rfl rfl rfl rfl b43 dX5_dropUnit_43 rfl ?_
          refine V_iinc (pc := 44) (v := (x3_20 + 1)) (lv' := [(3, .int (x3_20 + 1)), (0, .ref (a 0)), (2, .ref (a 36))]) C dX5_dropUnit_44 2 rfl rfl (Nat.le_of_ble_eq_true rfl) rfl ?_
          refine V_goto (pc := 47) C 20 dX5_dropUnit_47 rfl ?_
          exact V_sub [1, 2, 0] rfl (ih20 _ _ h)
        replace h := t_neg e42 h
        by_cases e42 : mgU_20 (Int32.toNatClampNeg (x3_20 + (1 : Int32))) = some (a 42)
        · replace h := t_pos e42 h
          refine V_aald (pc := 42) C 3 3 rfl rfl b42 e42 dX5_dropUnit_42 ?_
          obtain ⟨b43, h⟩ := chk_some h
          refine V_aast (pc := 43) (ws' := wOff Y a q pg gS (va_up mgU_20 (Int32.toNatClampNeg x3_20) (some (a 42))) rd ft S U) C 3 3 42 4 rfl rfl rfl rfl b43 dX5_dropUnit_43 rfl ?_
          refine V_iinc (pc := 44) (v := (x3_20 + 1)) (lv' := [(3, .int (x3_20 + 1)), (0, .ref (a 0)), (2, .ref (a 36))]) C dX5_dropUnit_44 2 rfl rfl (Nat.le_of_ble_eq_true rfl) rfl ?_
          refine V_goto (pc := 47) C 20 dX5_dropUnit_47 rfl ?_
          exact V_sub [1, 2, 0] rfl (ih20 _ _ h)
        replace h := t_neg e42 h
        by_cases e42 : mgU_20 (Int32.toNatClampNeg (x3_20 + (1 : Int32))) = some (a 45)
        · replace h := t_pos e42 h
          refine V_aald (pc := 42) C 3 3 rfl rfl b42 e42 dX5_dropUnit_42 ?_
          obtain ⟨b43, h⟩ := chk_some h
          refine V_aast (pc := 43) (ws' := wOff Y a q pg gS (va_up mgU_20 (Int32.toNatClampNeg x3_20) (some (a 45))) rd ft S U) C 3 3 45 4 rfl rfl rfl rfl b43 dX5_dropUnit_43 rfl ?_
          refine V_iinc (pc := 44) (v := (x3_20 + 1)) (lv' := [(3, .int (x3_20 + 1)), (0, .ref (a 0)), (2, .ref (a 36))]) C dX5_dropUnit_44 2 rfl rfl (Nat.le_of_ble_eq_true rfl) rfl ?_
          refine V_goto (pc := 47) C 20 dX5_dropUnit_47 rfl ?_
          exact V_sub [1, 2, 0] rfl (ih20 _ _ h)
        replace h := t_neg e42 h
        cases h
    replace h := t_neg e16 h
    by_cases e16 : gU (Int32.toNatClampNeg p0) = some (a 39)
    · replace h := t_pos e16 h
      refine V_aald (pc := 16) C 3 3 rfl rfl b16 e16 dX5_dropUnit_16 ?_
      refine V_astore_n (pc := 17) (lv' := [(2, .ref (a 39)), (0, .ref (a 0)), (1, .int p0)]) C dX5_dropUnit_17 rfl (Nat.le_of_ble_eq_true rfl) rfl ?_
      refine V_iload_n (pc := 18) C dX5_dropUnit_18 rfl 2 rfl ?_
      refine V_istore_n (pc := 19) (lv' := [(3, .int p0), (2, .ref (a 39)), (0, .ref (a 0)), (1, .int p0)]) C dX5_dropUnit_19 rfl (Nat.le_of_ble_eq_true rfl) rfl ?_
      refine jn1_ok (P := (fun (mgU_50 : Nat → Option Nat) => VW X D 4 Q (KM Af X) (0, 0) (wOff Y a q pg gS mgU_50 rd ft S U) [(0, .ref (a 0)), (2, .ref (a 39))] 50 [])) (fun mgU_50 h => ?_) (fun J50 hJ50 h => ?_) h
      · refine V_aload_n (pc := 50) C dX5_dropUnit_50 rfl 0 rfl ?_
        refine V_dup (pc := 51) C dX5_dropUnit_51 rfl ?_
        refine V_get (pc := 52) (v := .int (q 7)) C 0 5 7 hiX5_dropUnit_5 rfl rfl (by decide) wX5_dropUnit_k2 rfl dX5_dropUnit_52 ?_
        refine V_iconst (pc := 55) (v := 1) C dX5_dropUnit_55 rfl ?_
        refine V_isub (pc := 56) C dX5_dropUnit_56 ?_
        refine V_put (pc := 57) (ws' := wOff Y a (up q 7 ((q 7) - (1 : Int32))) pg gS mgU_50 rd ft S U) C 0 5 7 hiX5_dropUnit_5 tyX5_ok nmX5 rfl rfl (by decide) wX5_dropUnit_k2 rfl rfl rfl (Nat.le_of_ble_eq_true rfl) dX5_dropUnit_57 rfl ?_
        refine V_aload_n (pc := 60) C dX5_dropUnit_60 rfl 0 rfl ?_
        refine V_get (pc := 61) (v := .ref (a 3)) C 0 5 2 hiX5_dropUnit_5 rfl rfl (by decide) wX5_dropUnit_k0 rfl dX5_dropUnit_61 ?_
        refine V_aload_n (pc := 64) C dX5_dropUnit_64 rfl 0 rfl ?_
        refine V_get (pc := 65) (v := .int ((q 7) - (1 : Int32))) C 0 5 7 hiX5_dropUnit_5 rfl rfl (by decide) wX5_dropUnit_k2 rfl dX5_dropUnit_65 ?_
        refine V_aload_n (pc := 68) C dX5_dropUnit_68 rfl 1 rfl ?_
        obtain ⟨b69, h⟩ := chk_some h
        refine V_aast (pc := 69) (ws' := wOff Y a (up q 7 ((q 7) - (1 : Int32))) pg gS (va_up mgU_50 (Int32.toNatClampNeg ((q 7) - (1 : Int32))) (some (a 39))) rd ft S U) C 3 3 39 4 rfl rfl rfl rfl b69 dX5_dropUnit_69 rfl ?_
        refine V_aload_n (pc := 70) C dX5_dropUnit_70 rfl 0 rfl ?_
        refine V_dup (pc := 71) C dX5_dropUnit_71 rfl ?_
        refine V_get (pc := 72) (v := .int (q 9)) C 0 5 9 hiX5_dropUnit_5 rfl rfl (by decide) wX5_dropUnit_k3 rfl dX5_dropUnit_72 ?_
        refine V_iconst (pc := 75) (v := 1) C dX5_dropUnit_75 rfl ?_
        refine V_iadd (pc := 76) C dX5_dropUnit_76 ?_
        refine V_put (pc := 77) (ws' := wOff Y a (up (up q 7 ((q 7) - (1 : Int32))) 9 ((q 9) + (1 : Int32))) pg gS (va_up mgU_50 (Int32.toNatClampNeg ((q 7) - (1 : Int32))) (some (a 39))) rd ft S U) C 0 5 9 hiX5_dropUnit_5 tyX5_ok nmX5 rfl rfl (by decide) wX5_dropUnit_k3 rfl rfl rfl (Nat.le_of_ble_eq_true rfl) dX5_dropUnit_77 rfl ?_
        refine V_aload_n (pc := 80) C dX5_dropUnit_80 rfl 0 rfl ?_
        refine V_get (pc := 81) (v := .int ((q 7) - (1 : Int32))) C 0 5 7 hiX5_dropUnit_5 rfl rfl (by decide) wX5_dropUnit_k2 rfl dX5_dropUnit_81 ?_
        cases h
        subst hQ
        exact V_iretW C dX5_dropUnit_84
      refine V_sub [2, 1, 0] rfl (wh2_ok (P := (fun (x3_20 : Int32) (mgU_20 : Nat → Option Nat) => VW X D 4 Q (KM Af X) (0, 0) (wOff Y a q pg gS mgU_20 rd ft S U) [(0, .ref (a 0)), (2, .ref (a 39)), (3, .int x3_20)] 20 [])) (fun self20 ih20 x3_20 mgU_20 h => ?_) 200 _ _ h)
      refine V_iload_n (pc := 20) C dX5_dropUnit_20 rfl 2 rfl ?_
      refine V_aload_n (pc := 21) C dX5_dropUnit_21 rfl 0 rfl ?_
      refine V_get (pc := 22) (v := .int (q 7)) C 0 5 7 hiX5_dropUnit_5 rfl rfl (by decide) wX5_dropUnit_k2 rfl dX5_dropUnit_22 ?_
      refine V_iconst (pc := 25) (v := 1) C dX5_dropUnit_25 rfl ?_
      refine V_isub (pc := 26) C dX5_dropUnit_26 ?_
      refine V_icmp_ge (pc := 27) C 50 dX5_dropUnit_27 rfl (fun c27 => ?_) (fun c27 => ?_)
      · replace h := t_pos c27 h
        exact V_sub [0, 1] rfl (hJ50 _ h)
      · replace h := t_neg c27 h
        refine V_aload_n (pc := 30) C dX5_dropUnit_30 rfl 0 rfl ?_
        refine V_get (pc := 31) (v := .ref (a 3)) C 0 5 2 hiX5_dropUnit_5 rfl rfl (by decide) wX5_dropUnit_k0 rfl dX5_dropUnit_31 ?_
        refine V_iload_n (pc := 34) C dX5_dropUnit_34 rfl 2 rfl ?_
        refine V_aload_n (pc := 35) C dX5_dropUnit_35 rfl 0 rfl ?_
        refine V_get (pc := 36) (v := .ref (a 3)) C 0 5 2 hiX5_dropUnit_5 rfl rfl (by decide) wX5_dropUnit_k0 rfl dX5_dropUnit_36 ?_
        refine V_iload_n (pc := 39) C dX5_dropUnit_39 rfl 2 rfl ?_
        refine V_iconst (pc := 40) (v := 1) C dX5_dropUnit_40 rfl ?_
        refine V_iadd (pc := 41) C dX5_dropUnit_41 ?_
        obtain ⟨b42, h⟩ := chk_some h
        by_cases e42 : mgU_20 (Int32.toNatClampNeg (x3_20 + (1 : Int32))) = some (a 36)
        · replace h := t_pos e42 h
          refine V_aald (pc := 42) C 3 3 rfl rfl b42 e42 dX5_dropUnit_42 ?_
          obtain ⟨b43, h⟩ := chk_some h
          refine V_aast (pc := 43) (ws' := wOff Y a q pg gS (va_up mgU_20 (Int32.toNatClampNeg x3_20) (some (a 36))) rd ft S U) C 3 3 36 4 rfl rfl rfl rfl b43 dX5_dropUnit_43 rfl ?_
          refine V_iinc (pc := 44) (v := (x3_20 + 1)) (lv' := [(3, .int (x3_20 + 1)), (0, .ref (a 0)), (2, .ref (a 39))]) C dX5_dropUnit_44 2 rfl rfl (Nat.le_of_ble_eq_true rfl) rfl ?_
          refine V_goto (pc := 47) C 20 dX5_dropUnit_47 rfl ?_
          exact V_sub [1, 2, 0] rfl (ih20 _ _ h)
        replace h := t_neg e42 h
        by_cases e42 : mgU_20 (Int32.toNatClampNeg (x3_20 + (1 : Int32))) = some (a 39)
        · replace h := t_pos e42 h
          refine V_aald (pc := 42) C 3 3 rfl rfl b42 e42 dX5_dropUnit_42 ?_
          obtain ⟨b43, h⟩ := chk_some h
          refine V_aast (pc := 43) (ws' := wOff Y a q pg gS (va_up mgU_20 (Int32.toNatClampNeg x3_20) (some (a 39))) rd ft S U) C 3 3 39 4 rfl rfl rfl rfl b43 dX5_dropUnit_43 rfl ?_
          refine V_iinc (pc := 44) (v := (x3_20 + 1)) (lv' := [(3, .int (x3_20 + 1)), (0, .ref (a 0)), (2, .ref (a 39))]) C dX5_dropUnit_44 2 rfl rfl (Nat.le_of_ble_eq_true rfl) rfl ?_
          refine V_goto (pc := 47) C 20 dX5_dropUnit_47 rfl ?_
          exact V_sub [1, 2, 0] rfl (ih20 _ _ h)
        replace h := t_neg e42 h
        by_cases e42 : mgU_20 (Int32.toNatClampNeg (x3_20 + (1 : Int32))) = some (a 42)
        · replace h := t_pos e42 h
          refine V_aald (pc := 42) C 3 3 rfl rfl b42 e42 dX5_dropUnit_42 ?_
          obtain ⟨b43, h⟩ := chk_some h
          refine V_aast (pc := 43) (ws' := wOff Y a q pg gS (va_up mgU_20 (Int32.toNatClampNeg x3_20) (some (a 42))) rd ft S U) C 3 3 42 4 rfl rfl rfl rfl b43 dX5_dropUnit_43 rfl ?_
          refine V_iinc (pc := 44) (v := (x3_20 + 1)) (lv' := [(3, .int (x3_20 + 1)), (0, .ref (a 0)), (2, .ref (a 39))]) C dX5_dropUnit_44 2 rfl rfl (Nat.le_of_ble_eq_true rfl) rfl ?_
          refine V_goto (pc := 47) C 20 dX5_dropUnit_47 rfl ?_
          exact V_sub [1, 2, 0] rfl (ih20 _ _ h)
        replace h := t_neg e42 h
        by_cases e42 : mgU_20 (Int32.toNatClampNeg (x3_20 + (1 : Int32))) = some (a 45)
        · replace h := t_pos e42 h
          refine V_aald (pc := 42) C 3 3 rfl rfl b42 e42 dX5_dropUnit_42 ?_
          obtain ⟨b43, h⟩ := chk_some h
          refine V_aast (pc := 43) (ws' := wOff Y a q pg gS (va_up mgU_20 (Int32.toNatClampNeg x3_20) (some (a 45))) rd ft S U) C 3 3 45 4 rfl rfl rfl rfl b43 dX5_dropUnit_43 rfl ?_
          refine V_iinc (pc := 44) (v := (x3_20 + 1)) (lv' := [(3, .int (x3_20 + 1)), (0, .ref (a 0)), (2, .ref (a 39))]) C dX5_dropUnit_44 2 rfl rfl (Nat.le_of_ble_eq_true rfl) rfl ?_
          refine V_goto (pc := 47) C 20 dX5_dropUnit_47 rfl ?_
          exact V_sub [1, 2, 0] rfl (ih20 _ _ h)
        replace h := t_neg e42 h
        cases h
    replace h := t_neg e16 h
    by_cases e16 : gU (Int32.toNatClampNeg p0) = some (a 42)
    · replace h := t_pos e16 h
      refine V_aald (pc := 16) C 3 3 rfl rfl b16 e16 dX5_dropUnit_16 ?_
      refine V_astore_n (pc := 17) (lv' := [(2, .ref (a 42)), (0, .ref (a 0)), (1, .int p0)]) C dX5_dropUnit_17 rfl (Nat.le_of_ble_eq_true rfl) rfl ?_
      refine V_iload_n (pc := 18) C dX5_dropUnit_18 rfl 2 rfl ?_
      refine V_istore_n (pc := 19) (lv' := [(3, .int p0), (2, .ref (a 42)), (0, .ref (a 0)), (1, .int p0)]) C dX5_dropUnit_19 rfl (Nat.le_of_ble_eq_true rfl) rfl ?_
      refine jn1_ok (P := (fun (mgU_50 : Nat → Option Nat) => VW X D 4 Q (KM Af X) (0, 0) (wOff Y a q pg gS mgU_50 rd ft S U) [(0, .ref (a 0)), (2, .ref (a 42))] 50 [])) (fun mgU_50 h => ?_) (fun J50 hJ50 h => ?_) h
      · refine V_aload_n (pc := 50) C dX5_dropUnit_50 rfl 0 rfl ?_
        refine V_dup (pc := 51) C dX5_dropUnit_51 rfl ?_
        refine V_get (pc := 52) (v := .int (q 7)) C 0 5 7 hiX5_dropUnit_5 rfl rfl (by decide) wX5_dropUnit_k2 rfl dX5_dropUnit_52 ?_
        refine V_iconst (pc := 55) (v := 1) C dX5_dropUnit_55 rfl ?_
        refine V_isub (pc := 56) C dX5_dropUnit_56 ?_
        refine V_put (pc := 57) (ws' := wOff Y a (up q 7 ((q 7) - (1 : Int32))) pg gS mgU_50 rd ft S U) C 0 5 7 hiX5_dropUnit_5 tyX5_ok nmX5 rfl rfl (by decide) wX5_dropUnit_k2 rfl rfl rfl (Nat.le_of_ble_eq_true rfl) dX5_dropUnit_57 rfl ?_
        refine V_aload_n (pc := 60) C dX5_dropUnit_60 rfl 0 rfl ?_
        refine V_get (pc := 61) (v := .ref (a 3)) C 0 5 2 hiX5_dropUnit_5 rfl rfl (by decide) wX5_dropUnit_k0 rfl dX5_dropUnit_61 ?_
        refine V_aload_n (pc := 64) C dX5_dropUnit_64 rfl 0 rfl ?_
        refine V_get (pc := 65) (v := .int ((q 7) - (1 : Int32))) C 0 5 7 hiX5_dropUnit_5 rfl rfl (by decide) wX5_dropUnit_k2 rfl dX5_dropUnit_65 ?_
        refine V_aload_n (pc := 68) C dX5_dropUnit_68 rfl 1 rfl ?_
        obtain ⟨b69, h⟩ := chk_some h
        refine V_aast (pc := 69) (ws' := wOff Y a (up q 7 ((q 7) - (1 : Int32))) pg gS (va_up mgU_50 (Int32.toNatClampNeg ((q 7) - (1 : Int32))) (some (a 42))) rd ft S U) C 3 3 42 4 rfl rfl rfl rfl b69 dX5_dropUnit_69 rfl ?_
        refine V_aload_n (pc := 70) C dX5_dropUnit_70 rfl 0 rfl ?_
        refine V_dup (pc := 71) C dX5_dropUnit_71 rfl ?_
        refine V_get (pc := 72) (v := .int (q 9)) C 0 5 9 hiX5_dropUnit_5 rfl rfl (by decide) wX5_dropUnit_k3 rfl dX5_dropUnit_72 ?_
        refine V_iconst (pc := 75) (v := 1) C dX5_dropUnit_75 rfl ?_
        refine V_iadd (pc := 76) C dX5_dropUnit_76 ?_
        refine V_put (pc := 77) (ws' := wOff Y a (up (up q 7 ((q 7) - (1 : Int32))) 9 ((q 9) + (1 : Int32))) pg gS (va_up mgU_50 (Int32.toNatClampNeg ((q 7) - (1 : Int32))) (some (a 42))) rd ft S U) C 0 5 9 hiX5_dropUnit_5 tyX5_ok nmX5 rfl rfl (by decide) wX5_dropUnit_k3 rfl rfl rfl (Nat.le_of_ble_eq_true rfl) dX5_dropUnit_77 rfl ?_
        refine V_aload_n (pc := 80) C dX5_dropUnit_80 rfl 0 rfl ?_
        refine V_get (pc := 81) (v := .int ((q 7) - (1 : Int32))) C 0 5 7 hiX5_dropUnit_5 rfl rfl (by decide) wX5_dropUnit_k2 rfl dX5_dropUnit_81 ?_
        cases h
        subst hQ
        exact V_iretW C dX5_dropUnit_84
      refine V_sub [2, 1, 0] rfl (wh2_ok (P := (fun (x3_20 : Int32) (mgU_20 : Nat → Option Nat) => VW X D 4 Q (KM Af X) (0, 0) (wOff Y a q pg gS mgU_20 rd ft S U) [(0, .ref (a 0)), (2, .ref (a 42)), (3, .int x3_20)] 20 [])) (fun self20 ih20 x3_20 mgU_20 h => ?_) 200 _ _ h)
      refine V_iload_n (pc := 20) C dX5_dropUnit_20 rfl 2 rfl ?_
      refine V_aload_n (pc := 21) C dX5_dropUnit_21 rfl 0 rfl ?_
      refine V_get (pc := 22) (v := .int (q 7)) C 0 5 7 hiX5_dropUnit_5 rfl rfl (by decide) wX5_dropUnit_k2 rfl dX5_dropUnit_22 ?_
      refine V_iconst (pc := 25) (v := 1) C dX5_dropUnit_25 rfl ?_
      refine V_isub (pc := 26) C dX5_dropUnit_26 ?_
      refine V_icmp_ge (pc := 27) C 50 dX5_dropUnit_27 rfl (fun c27 => ?_) (fun c27 => ?_)
      · replace h := t_pos c27 h
        exact V_sub [0, 1] rfl (hJ50 _ h)
      · replace h := t_neg c27 h
        refine V_aload_n (pc := 30) C dX5_dropUnit_30 rfl 0 rfl ?_
        refine V_get (pc := 31) (v := .ref (a 3)) C 0 5 2 hiX5_dropUnit_5 rfl rfl (by decide) wX5_dropUnit_k0 rfl dX5_dropUnit_31 ?_
        refine V_iload_n (pc := 34) C dX5_dropUnit_34 rfl 2 rfl ?_
        refine V_aload_n (pc := 35) C dX5_dropUnit_35 rfl 0 rfl ?_
        refine V_get (pc := 36) (v := .ref (a 3)) C 0 5 2 hiX5_dropUnit_5 rfl rfl (by decide) wX5_dropUnit_k0 rfl dX5_dropUnit_36 ?_
        refine V_iload_n (pc := 39) C dX5_dropUnit_39 rfl 2 rfl ?_
        refine V_iconst (pc := 40) (v := 1) C dX5_dropUnit_40 rfl ?_
        refine V_iadd (pc := 41) C dX5_dropUnit_41 ?_
        obtain ⟨b42, h⟩ := chk_some h
        by_cases e42 : mgU_20 (Int32.toNatClampNeg (x3_20 + (1 : Int32))) = some (a 36)
        · replace h := t_pos e42 h
          refine V_aald (pc := 42) C 3 3 rfl rfl b42 e42 dX5_dropUnit_42 ?_
          obtain ⟨b43, h⟩ := chk_some h
          refine V_aast (pc := 43) (ws' := wOff Y a q pg gS (va_up mgU_20 (Int32.toNatClampNeg x3_20) (some (a 36))) rd ft S U) C 3 3 36 4 rfl rfl rfl rfl b43 dX5_dropUnit_43 rfl ?_
          refine V_iinc (pc := 44) (v := (x3_20 + 1)) (lv' := [(3, .int (x3_20 + 1)), (0, .ref (a 0)), (2, .ref (a 42))]) C dX5_dropUnit_44 2 rfl rfl (Nat.le_of_ble_eq_true rfl) rfl ?_
          refine V_goto (pc := 47) C 20 dX5_dropUnit_47 rfl ?_
          exact V_sub [1, 2, 0] rfl (ih20 _ _ h)
        replace h := t_neg e42 h
        by_cases e42 : mgU_20 (Int32.toNatClampNeg (x3_20 + (1 : Int32))) = some (a 39)
        · replace h := t_pos e42 h
          refine V_aald (pc := 42) C 3 3 rfl rfl b42 e42 dX5_dropUnit_42 ?_
          obtain ⟨b43, h⟩ := chk_some h
          refine V_aast (pc := 43) (ws' := wOff Y a q pg gS (va_up mgU_20 (Int32.toNatClampNeg x3_20) (some (a 39))) rd ft S U) C 3 3 39 4 rfl rfl rfl rfl b43 dX5_dropUnit_43 rfl ?_
          refine V_iinc (pc := 44) (v := (x3_20 + 1)) (lv' := [(3, .int (x3_20 + 1)), (0, .ref (a 0)), (2, .ref (a 42))]) C dX5_dropUnit_44 2 rfl rfl (Nat.le_of_ble_eq_true rfl) rfl ?_
          refine V_goto (pc := 47) C 20 dX5_dropUnit_47 rfl ?_
          exact V_sub [1, 2, 0] rfl (ih20 _ _ h)
        replace h := t_neg e42 h
        by_cases e42 : mgU_20 (Int32.toNatClampNeg (x3_20 + (1 : Int32))) = some (a 42)
        · replace h := t_pos e42 h
          refine V_aald (pc := 42) C 3 3 rfl rfl b42 e42 dX5_dropUnit_42 ?_
          obtain ⟨b43, h⟩ := chk_some h
          refine V_aast (pc := 43) (ws' := wOff Y a q pg gS (va_up mgU_20 (Int32.toNatClampNeg x3_20) (some (a 42))) rd ft S U) C 3 3 42 4 rfl rfl rfl rfl b43 dX5_dropUnit_43 rfl ?_
          refine V_iinc (pc := 44) (v := (x3_20 + 1)) (lv' := [(3, .int (x3_20 + 1)), (0, .ref (a 0)), (2, .ref (a 42))]) C dX5_dropUnit_44 2 rfl rfl (Nat.le_of_ble_eq_true rfl) rfl ?_
          refine V_goto (pc := 47) C 20 dX5_dropUnit_47 rfl ?_
          exact V_sub [1, 2, 0] rfl (ih20 _ _ h)
        replace h := t_neg e42 h
        by_cases e42 : mgU_20 (Int32.toNatClampNeg (x3_20 + (1 : Int32))) = some (a 45)
        · replace h := t_pos e42 h
          refine V_aald (pc := 42) C 3 3 rfl rfl b42 e42 dX5_dropUnit_42 ?_
          obtain ⟨b43, h⟩ := chk_some h
          refine V_aast (pc := 43) (ws' := wOff Y a q pg gS (va_up mgU_20 (Int32.toNatClampNeg x3_20) (some (a 45))) rd ft S U) C 3 3 45 4 rfl rfl rfl rfl b43 dX5_dropUnit_43 rfl ?_
          refine V_iinc (pc := 44) (v := (x3_20 + 1)) (lv' := [(3, .int (x3_20 + 1)), (0, .ref (a 0)), (2, .ref (a 42))]) C dX5_dropUnit_44 2 rfl rfl (Nat.le_of_ble_eq_true rfl) rfl ?_
          refine V_goto (pc := 47) C 20 dX5_dropUnit_47 rfl ?_
          exact V_sub [1, 2, 0] rfl (ih20 _ _ h)
        replace h := t_neg e42 h
        cases h
    replace h := t_neg e16 h
    by_cases e16 : gU (Int32.toNatClampNeg p0) = some (a 45)
    · replace h := t_pos e16 h
      refine V_aald (pc := 16) C 3 3 rfl rfl b16 e16 dX5_dropUnit_16 ?_
      refine V_astore_n (pc := 17) (lv' := [(2, .ref (a 45)), (0, .ref (a 0)), (1, .int p0)]) C dX5_dropUnit_17 rfl (Nat.le_of_ble_eq_true rfl) rfl ?_
      refine V_iload_n (pc := 18) C dX5_dropUnit_18 rfl 2 rfl ?_
      refine V_istore_n (pc := 19) (lv' := [(3, .int p0), (2, .ref (a 45)), (0, .ref (a 0)), (1, .int p0)]) C dX5_dropUnit_19 rfl (Nat.le_of_ble_eq_true rfl) rfl ?_
      refine jn1_ok (P := (fun (mgU_50 : Nat → Option Nat) => VW X D 4 Q (KM Af X) (0, 0) (wOff Y a q pg gS mgU_50 rd ft S U) [(0, .ref (a 0)), (2, .ref (a 45))] 50 [])) (fun mgU_50 h => ?_) (fun J50 hJ50 h => ?_) h
      · refine V_aload_n (pc := 50) C dX5_dropUnit_50 rfl 0 rfl ?_
        refine V_dup (pc := 51) C dX5_dropUnit_51 rfl ?_
        refine V_get (pc := 52) (v := .int (q 7)) C 0 5 7 hiX5_dropUnit_5 rfl rfl (by decide) wX5_dropUnit_k2 rfl dX5_dropUnit_52 ?_
        refine V_iconst (pc := 55) (v := 1) C dX5_dropUnit_55 rfl ?_
        refine V_isub (pc := 56) C dX5_dropUnit_56 ?_
        refine V_put (pc := 57) (ws' := wOff Y a (up q 7 ((q 7) - (1 : Int32))) pg gS mgU_50 rd ft S U) C 0 5 7 hiX5_dropUnit_5 tyX5_ok nmX5 rfl rfl (by decide) wX5_dropUnit_k2 rfl rfl rfl (Nat.le_of_ble_eq_true rfl) dX5_dropUnit_57 rfl ?_
        refine V_aload_n (pc := 60) C dX5_dropUnit_60 rfl 0 rfl ?_
        refine V_get (pc := 61) (v := .ref (a 3)) C 0 5 2 hiX5_dropUnit_5 rfl rfl (by decide) wX5_dropUnit_k0 rfl dX5_dropUnit_61 ?_
        refine V_aload_n (pc := 64) C dX5_dropUnit_64 rfl 0 rfl ?_
        refine V_get (pc := 65) (v := .int ((q 7) - (1 : Int32))) C 0 5 7 hiX5_dropUnit_5 rfl rfl (by decide) wX5_dropUnit_k2 rfl dX5_dropUnit_65 ?_
        refine V_aload_n (pc := 68) C dX5_dropUnit_68 rfl 1 rfl ?_
        obtain ⟨b69, h⟩ := chk_some h
        refine V_aast (pc := 69) (ws' := wOff Y a (up q 7 ((q 7) - (1 : Int32))) pg gS (va_up mgU_50 (Int32.toNatClampNeg ((q 7) - (1 : Int32))) (some (a 45))) rd ft S U) C 3 3 45 4 rfl rfl rfl rfl b69 dX5_dropUnit_69 rfl ?_
        refine V_aload_n (pc := 70) C dX5_dropUnit_70 rfl 0 rfl ?_
        refine V_dup (pc := 71) C dX5_dropUnit_71 rfl ?_
        refine V_get (pc := 72) (v := .int (q 9)) C 0 5 9 hiX5_dropUnit_5 rfl rfl (by decide) wX5_dropUnit_k3 rfl dX5_dropUnit_72 ?_
        refine V_iconst (pc := 75) (v := 1) C dX5_dropUnit_75 rfl ?_
        refine V_iadd (pc := 76) C dX5_dropUnit_76 ?_
        refine V_put (pc := 77) (ws' := wOff Y a (up (up q 7 ((q 7) - (1 : Int32))) 9 ((q 9) + (1 : Int32))) pg gS (va_up mgU_50 (Int32.toNatClampNeg ((q 7) - (1 : Int32))) (some (a 45))) rd ft S U) C 0 5 9 hiX5_dropUnit_5 tyX5_ok nmX5 rfl rfl (by decide) wX5_dropUnit_k3 rfl rfl rfl (Nat.le_of_ble_eq_true rfl) dX5_dropUnit_77 rfl ?_
        refine V_aload_n (pc := 80) C dX5_dropUnit_80 rfl 0 rfl ?_
        refine V_get (pc := 81) (v := .int ((q 7) - (1 : Int32))) C 0 5 7 hiX5_dropUnit_5 rfl rfl (by decide) wX5_dropUnit_k2 rfl dX5_dropUnit_81 ?_
        cases h
        subst hQ
        exact V_iretW C dX5_dropUnit_84
      refine V_sub [2, 1, 0] rfl (wh2_ok (P := (fun (x3_20 : Int32) (mgU_20 : Nat → Option Nat) => VW X D 4 Q (KM Af X) (0, 0) (wOff Y a q pg gS mgU_20 rd ft S U) [(0, .ref (a 0)), (2, .ref (a 45)), (3, .int x3_20)] 20 [])) (fun self20 ih20 x3_20 mgU_20 h => ?_) 200 _ _ h)
      refine V_iload_n (pc := 20) C dX5_dropUnit_20 rfl 2 rfl ?_
      refine V_aload_n (pc := 21) C dX5_dropUnit_21 rfl 0 rfl ?_
      refine V_get (pc := 22) (v := .int (q 7)) C 0 5 7 hiX5_dropUnit_5 rfl rfl (by decide) wX5_dropUnit_k2 rfl dX5_dropUnit_22 ?_
      refine V_iconst (pc := 25) (v := 1) C dX5_dropUnit_25 rfl ?_
      refine V_isub (pc := 26) C dX5_dropUnit_26 ?_
      refine V_icmp_ge (pc := 27) C 50 dX5_dropUnit_27 rfl (fun c27 => ?_) (fun c27 => ?_)
      · replace h := t_pos c27 h
        exact V_sub [0, 1] rfl (hJ50 _ h)
      · replace h := t_neg c27 h
        refine V_aload_n (pc := 30) C dX5_dropUnit_30 rfl 0 rfl ?_
        refine V_get (pc := 31) (v := .ref (a 3)) C 0 5 2 hiX5_dropUnit_5 rfl rfl (by decide) wX5_dropUnit_k0 rfl dX5_dropUnit_31 ?_
        refine V_iload_n (pc := 34) C dX5_dropUnit_34 rfl 2 rfl ?_
        refine V_aload_n (pc := 35) C dX5_dropUnit_35 rfl 0 rfl ?_
        refine V_get (pc := 36) (v := .ref (a 3)) C 0 5 2 hiX5_dropUnit_5 rfl rfl (by decide) wX5_dropUnit_k0 rfl dX5_dropUnit_36 ?_
        refine V_iload_n (pc := 39) C dX5_dropUnit_39 rfl 2 rfl ?_
        refine V_iconst (pc := 40) (v := 1) C dX5_dropUnit_40 rfl ?_
        refine V_iadd (pc := 41) C dX5_dropUnit_41 ?_
        obtain ⟨b42, h⟩ := chk_some h
        by_cases e42 : mgU_20 (Int32.toNatClampNeg (x3_20 + (1 : Int32))) = some (a 36)
        · replace h := t_pos e42 h
          refine V_aald (pc := 42) C 3 3 rfl rfl b42 e42 dX5_dropUnit_42 ?_
          obtain ⟨b43, h⟩ := chk_some h
          refine V_aast (pc := 43) (ws' := wOff Y a q pg gS (va_up mgU_20 (Int32.toNatClampNeg x3_20) (some (a 36))) rd ft S U) C 3 3 36 4 rfl rfl rfl rfl b43 dX5_dropUnit_43 rfl ?_
          refine V_iinc (pc := 44) (v := (x3_20 + 1)) (lv' := [(3, .int (x3_20 + 1)), (0, .ref (a 0)), (2, .ref (a 45))]) C dX5_dropUnit_44 2 rfl rfl (Nat.le_of_ble_eq_true rfl) rfl ?_
          refine V_goto (pc := 47) C 20 dX5_dropUnit_47 rfl ?_
          exact V_sub [1, 2, 0] rfl (ih20 _ _ h)
        replace h := t_neg e42 h
        by_cases e42 : mgU_20 (Int32.toNatClampNeg (x3_20 + (1 : Int32))) = some (a 39)
        · replace h := t_pos e42 h
          refine V_aald (pc := 42) C 3 3 rfl rfl b42 e42 dX5_dropUnit_42 ?_
          obtain ⟨b43, h⟩ := chk_some h
          refine V_aast (pc := 43) (ws' := wOff Y a q pg gS (va_up mgU_20 (Int32.toNatClampNeg x3_20) (some (a 39))) rd ft S U) C 3 3 39 4 rfl rfl rfl rfl b43 dX5_dropUnit_43 rfl ?_
          refine V_iinc (pc := 44) (v := (x3_20 + 1)) (lv' := [(3, .int (x3_20 + 1)), (0, .ref (a 0)), (2, .ref (a 45))]) C dX5_dropUnit_44 2 rfl rfl (Nat.le_of_ble_eq_true rfl) rfl ?_
          refine V_goto (pc := 47) C 20 dX5_dropUnit_47 rfl ?_
          exact V_sub [1, 2, 0] rfl (ih20 _ _ h)
        replace h := t_neg e42 h
        by_cases e42 : mgU_20 (Int32.toNatClampNeg (x3_20 + (1 : Int32))) = some (a 42)
        · replace h := t_pos e42 h
          refine V_aald (pc := 42) C 3 3 rfl rfl b42 e42 dX5_dropUnit_42 ?_
          obtain ⟨b43, h⟩ := chk_some h
          refine V_aast (pc := 43) (ws' := wOff Y a q pg gS (va_up mgU_20 (Int32.toNatClampNeg x3_20) (some (a 42))) rd ft S U) C 3 3 42 4 rfl rfl rfl rfl b43 dX5_dropUnit_43 rfl ?_
          refine V_iinc (pc := 44) (v := (x3_20 + 1)) (lv' := [(3, .int (x3_20 + 1)), (0, .ref (a 0)), (2, .ref (a 45))]) C dX5_dropUnit_44 2 rfl rfl (Nat.le_of_ble_eq_true rfl) rfl ?_
          refine V_goto (pc := 47) C 20 dX5_dropUnit_47 rfl ?_
          exact V_sub [1, 2, 0] rfl (ih20 _ _ h)
        replace h := t_neg e42 h
        by_cases e42 : mgU_20 (Int32.toNatClampNeg (x3_20 + (1 : Int32))) = some (a 45)
        · replace h := t_pos e42 h
          refine V_aald (pc := 42) C 3 3 rfl rfl b42 e42 dX5_dropUnit_42 ?_
          obtain ⟨b43, h⟩ := chk_some h
          refine V_aast (pc := 43) (ws' := wOff Y a q pg gS (va_up mgU_20 (Int32.toNatClampNeg x3_20) (some (a 45))) rd ft S U) C 3 3 45 4 rfl rfl rfl rfl b43 dX5_dropUnit_43 rfl ?_
          refine V_iinc (pc := 44) (v := (x3_20 + 1)) (lv' := [(3, .int (x3_20 + 1)), (0, .ref (a 0)), (2, .ref (a 45))]) C dX5_dropUnit_44 2 rfl rfl (Nat.le_of_ble_eq_true rfl) rfl ?_
          refine V_goto (pc := 47) C 20 dX5_dropUnit_47 rfl ?_
          exact V_sub [1, 2, 0] rfl (ih20 _ _ h)
        replace h := t_neg e42 h
        cases h
    replace h := t_neg e16 h
    cases h
  · replace h := t_pos c5 h
    refine V_ldc (pc := 8) (v := -1000002) C dX5_dropUnit_8 wX5_dropUnit_k4 ?_
    cases h
    subst hQ
    exact V_iretW C dX5_dropUnit_10
def X5_drop (a : Nat → Nat) (q : Nat → Int32) (pg : Nat → Int32) (gS : Nat → Option Nat) (gU : Nat → Option Nat) (rd : RdT) (ft : FtT) (S : Nat → StT) (U : Nat → UnT) (p0 : Int32) (p1 : Int32) : Option (Int32 × Int32 × Int32 × Int32 × (Nat → Option Nat) × (Nat → Option Nat)) :=
  if p0 = 0 then (ob4 (X5_dropStorm a q pg gS gU rd ft S U p1) fun r14 oq6_14 oq9_14 ogS_14 =>
  some (r14, oq6_14, (q 7), oq9_14, ogS_14, gU)) else (ob4 (X5_dropUnit a q pg gS gU rd ft S U p1) fun r6 oq7_6 oq9_6 ogU_6 =>
  some (r6, (q 6), oq7_6, oq9_6, gS, ogU_6))
theorem hdX5_drop : yX5_drop.cls ≠ "java/lang/invoke/MethodHandle" ∧ yX5_drop.cls ≠ "java/lang/invoke/VarHandle" ∧ (parseMethodDescriptor yX5_drop.desc).map (fun d => d.parameters.length) = some 2 := by decide +kernel
set_option maxHeartbeats 4000000 in
set_option maxRecDepth 100000 in
theorem X5_drop_ok {l : Launch} {D : va_G} {Y : Nat → ClassId}  {a : Nat → Nat} {q : Nat → Int32} {pg : Nat → Int32} {gS : Nat → Option Nat} {gU : Nat → Option Nat} {rd : RdT} {ft : FtT} {S : Nat → StT} {U : Nat → UnT} {p0 : Int32} {p1 : Int32} {r : Int32} {uq6 : Int32} {uq7 : Int32} {uq9 : Int32} {ugS : Nat → Option Nat} {ugU : Nat → Option Nat} (h : X5_drop a q pg gS gU rd ft S U p0 p1 = some (r, uq6, uq7, uq9, ugS, ugU)) : MW l yX5_drop wsX5_drop 2 44 D Y [.ref (a 0), .int p0, .int p1] (wOff Y a q pg gS gU rd ft S U) (wOff Y a (up (up (up q 6 uq6) 7 uq7) 9 uq9) pg ugS ugU rd ft S U) (some (.int r)) := by
  refine MW_of (cc := cX5_drop) (nL := 3) (ret := some .int) (lv0 := [(0, .ref (a 0)), (1, .int p0), (2, .int p1)]) (by decide) rfl (Nat.le_of_ble_eq_true rfl) rfl rfl (fun X Af Q C hA hQ => ?_)
  unfold X5_drop at h
  refine V_iload_n (pc := 0) C dX5_drop_0 rfl 1 rfl ?_
  refine V_if_eq (pc := 1) C 12 dX5_drop_1 rfl (fun c1 => ?_) (fun c1 => ?_)
  · replace h := t_pos c1 h
    refine V_aload_n (pc := 12) C dX5_drop_12 rfl 0 rfl ?_
    refine V_iload_n (pc := 13) C dX5_drop_13 rfl 2 rfl ?_
    obtain ⟨r14, oq6_14, oq9_14, ogS_14, hq, h⟩ := ob4_some h
    refine V_callVW0 (pc := 14) (rest := []) (st2 := [.int r14]) (ws' := wOff Y a (up (up q 6 oq6_14) 9 oq9_14) pg ogS_14 gU rd ft S U) C hA (X5_dropStorm_ok (a := a) hq) gX5_drop_X5_dropStorm rfl ⟨rfl, hdX5_dropStorm⟩ ⟨Nat.le_of_ble_eq_true rfl, Nat.le_of_ble_eq_true rfl⟩ ⟨Nat.le_refl _, Nat.le_refl _⟩ 0 5 rfl rfl rfl (Nat.le_of_ble_eq_true rfl) dX5_drop_14 rfl rfl ?_
    cases h
    subst hQ
    exact V_iretW C dX5_drop_17
  · replace h := t_neg c1 h
    refine V_aload_n (pc := 4) C dX5_drop_4 rfl 0 rfl ?_
    refine V_iload_n (pc := 5) C dX5_drop_5 rfl 2 rfl ?_
    obtain ⟨r6, oq7_6, oq9_6, ogU_6, hq, h⟩ := ob4_some h
    refine V_callVW0 (pc := 6) (rest := []) (st2 := [.int r6]) (ws' := wOff Y a (up (up q 7 oq7_6) 9 oq9_6) pg gS ogU_6 rd ft S U) C hA (X5_dropUnit_ok (a := a) hq) gX5_drop_X5_dropUnit rfl ⟨rfl, hdX5_dropUnit⟩ ⟨Nat.le_of_ble_eq_true rfl, Nat.le_of_ble_eq_true rfl⟩ ⟨Nat.le_refl _, Nat.le_refl _⟩ 0 5 rfl rfl rfl (Nat.le_of_ble_eq_true rfl) dX5_drop_6 rfl rfl ?_
    refine V_goto (pc := 9) C 17 dX5_drop_9 rfl ?_
    cases h
    subst hQ
    exact V_iretW C dX5_drop_17
def X5_storm (a : Nat → Nat) (q : Nat → Int32) (pg : Nat → Int32) (gS : Nat → Option Nat) (gU : Nat → Option Nat) (rd : RdT) (ft : FtT) (S : Nat → StT) (U : Nat → UnT) (p0 : Int32) (p1 : Int32) : Option (Int32) :=
  ob1 (X5_hasStorm a q pg gS gU rd ft S U p0) fun r2 =>
  if r2 = 0 then (some (-1000002 : Int32)) else (chk (inB p0 3) (if gS (Int32.toNatClampNeg p0) = some (a 15) then (jn0 (jn0 (if p1 = 0 then (ob1 (X2_size ((S 0).1) ((S 0).2.1)) fun r100 =>
  some r100) else (if p1 = 1 then (ob1 (X2_size ((S 0).2.2.1) ((S 0).2.2.2.1)) fun r108 =>
  some r108) else (if p1 = 2 then (ob1 (X2_total ((S 0).1) ((S 0).2.1)) fun r116 =>
  some r116) else (if p1 = 3 then (ob1 (X2_total ((S 0).2.2.1) ((S 0).2.2.2.1)) fun r124 =>
  some r124) else (some (-1000003 : Int32)))))) fun J66 =>
  if p1 < (20 : Int32) then (J66) else (if (28 : Int32) ≤ p1 then (J66) else (ob1 (X2_at ((S 0).2.2.1) ((S 0).2.2.2.1) (p1 - (20 : Int32))) fun r62 =>
  some r62))) fun J42 =>
  if p1 < (10 : Int32) then (J42) else (if (13 : Int32) ≤ p1 then (J42) else (ob1 (X2_at ((S 0).1) ((S 0).2.1) (p1 - (10 : Int32))) fun r38 =>
  some r38))) else (if gS (Int32.toNatClampNeg p0) = some (a 22) then (jn0 (jn0 (if p1 = 0 then (ob1 (X2_size ((S 1).1) ((S 1).2.1)) fun r100 =>
  some r100) else (if p1 = 1 then (ob1 (X2_size ((S 1).2.2.1) ((S 1).2.2.2.1)) fun r108 =>
  some r108) else (if p1 = 2 then (ob1 (X2_total ((S 1).1) ((S 1).2.1)) fun r116 =>
  some r116) else (if p1 = 3 then (ob1 (X2_total ((S 1).2.2.1) ((S 1).2.2.2.1)) fun r124 =>
  some r124) else (some (-1000003 : Int32)))))) fun J66 =>
  if p1 < (20 : Int32) then (J66) else (if (28 : Int32) ≤ p1 then (J66) else (ob1 (X2_at ((S 1).2.2.1) ((S 1).2.2.2.1) (p1 - (20 : Int32))) fun r62 =>
  some r62))) fun J42 =>
  if p1 < (10 : Int32) then (J42) else (if (13 : Int32) ≤ p1 then (J42) else (ob1 (X2_at ((S 1).1) ((S 1).2.1) (p1 - (10 : Int32))) fun r38 =>
  some r38))) else (if gS (Int32.toNatClampNeg p0) = some (a 29) then (jn0 (jn0 (if p1 = 0 then (ob1 (X2_size ((S 2).1) ((S 2).2.1)) fun r100 =>
  some r100) else (if p1 = 1 then (ob1 (X2_size ((S 2).2.2.1) ((S 2).2.2.2.1)) fun r108 =>
  some r108) else (if p1 = 2 then (ob1 (X2_total ((S 2).1) ((S 2).2.1)) fun r116 =>
  some r116) else (if p1 = 3 then (ob1 (X2_total ((S 2).2.2.1) ((S 2).2.2.2.1)) fun r124 =>
  some r124) else (some (-1000003 : Int32)))))) fun J66 =>
  if p1 < (20 : Int32) then (J66) else (if (28 : Int32) ≤ p1 then (J66) else (ob1 (X2_at ((S 2).2.2.1) ((S 2).2.2.2.1) (p1 - (20 : Int32))) fun r62 =>
  some r62))) fun J42 =>
  if p1 < (10 : Int32) then (J42) else (if (13 : Int32) ≤ p1 then (J42) else (ob1 (X2_at ((S 2).1) ((S 2).2.1) (p1 - (10 : Int32))) fun r38 =>
  some r38))) else (none)))))
theorem wX5_storm_k0 : Cond.fieldLink RX5 15 (TX5 1).1 (TX5 1).2.1 (TX5 1).2.2.1 ∈ wsX5_storm := by decide +kernel
theorem hiX5_storm_5 : ∀ w ∈ u_ws RX5 TX5 11, w ∈ wsX5_storm := fun _ h => List.mem_cons_of_mem _ (List.mem_append_left _ (List.mem_append_left _ (List.mem_append_right _ h)))
theorem wX5_storm_k2 : Cond.constant RX5 41 (-1000003) ∈ wsX5_storm := by decide +kernel
theorem wX5_storm_k3 : Cond.fieldLink RX5 90 (TX3 1).1 (TX3 1).2.1 (TX3 1).2.2.1 ∈ wsX5_storm := by decide +kernel
theorem hiX5_storm_3 : ∀ w ∈ u_ws RX3 TX3 4, w ∈ wsX5_storm := fun _ h => List.mem_cons_of_mem _ (List.mem_append_left _ (List.mem_append_right _ h))
theorem wX5_storm_k5 : Cond.fieldLink RX5 81 (TX3 0).1 (TX3 0).2.1 (TX3 0).2.2.1 ∈ wsX5_storm := by decide +kernel
theorem wX5_storm_k6 : Cond.constant RX5 80 (-1000002) ∈ wsX5_storm := by decide +kernel
theorem hdX5_storm : yX5_storm.cls ≠ "java/lang/invoke/MethodHandle" ∧ yX5_storm.cls ≠ "java/lang/invoke/VarHandle" ∧ (parseMethodDescriptor yX5_storm.desc).map (fun d => d.parameters.length) = some 2 := by decide +kernel
set_option maxHeartbeats 4000000 in
set_option maxRecDepth 100000 in
theorem X5_storm_ok {l : Launch} {D : va_G} {Y : Nat → ClassId}  {a : Nat → Nat} {q : Nat → Int32} {pg : Nat → Int32} {gS : Nat → Option Nat} {gU : Nat → Option Nat} {rd : RdT} {ft : FtT} {S : Nat → StT} {U : Nat → UnT} {p0 : Int32} {p1 : Int32} {r : Int32} (h : X5_storm a q pg gS gU rd ft S U p0 p1 = some r) : MR l yX5_storm wsX5_storm 2 43 D Y [.ref (a 0), .int p0, .int p1] (wOff Y a q pg gS gU rd ft S U) (some (.int r)) := by
  refine MR_of (cc := cX5_storm) (nL := 4) (ret := some .int) (lv0 := [(0, .ref (a 0)), (1, .int p0), (2, .int p1)]) (by decide) rfl (Nat.le_of_ble_eq_true rfl) rfl (fun X Q C hQ => ?_)
  unfold X5_storm at h
  refine V_aload_n (pc := 0) C dX5_storm_0 rfl 0 rfl ?_
  refine V_iload_n (pc := 1) C dX5_storm_1 rfl 1 rfl ?_
  obtain ⟨r2, hq, h⟩ := ob1_some h
  refine V_callVR0 (pc := 2) (rest := []) (st2 := [.int r2]) C (X5_hasStorm_ok (a := a) hq) gX5_storm_X5_hasStorm rfl ⟨rfl, hdX5_hasStorm⟩ ⟨Nat.le_of_ble_eq_true rfl, Nat.le_of_ble_eq_true rfl⟩ ⟨Nat.le_refl _, Nat.le_refl _⟩ 0 5 rfl rfl rfl (Nat.le_of_ble_eq_true rfl) dX5_storm_2 rfl ?_
  refine V_if_ne (pc := 5) C 11 dX5_storm_5 rfl (fun c5 => ?_) (fun c5 => ?_)
  · replace h := t_neg c5 h
    refine V_aload_n (pc := 11) C dX5_storm_11 rfl 0 rfl ?_
    refine V_get (pc := 12) (v := .ref (a 2)) C 0 5 1 hiX5_storm_5 rfl rfl (by decide) wX5_storm_k0 rfl dX5_storm_12 ?_
    refine V_iload_n (pc := 15) C dX5_storm_15 rfl 1 rfl ?_
    obtain ⟨b16, h⟩ := chk_some h
    by_cases e16 : gS (Int32.toNatClampNeg p0) = some (a 15)
    · replace h := t_pos e16 h
      refine V_aald (pc := 16) C 2 2 rfl rfl b16 e16 dX5_storm_16 ?_
      refine V_astore_n (pc := 17) (lv' := [(3, .ref (a 15)), (0, .ref (a 0)), (1, .int p0), (2, .int p1)]) C dX5_storm_17 rfl (Nat.le_of_ble_eq_true rfl) rfl ?_
      refine V_iload_n (pc := 18) C dX5_storm_18 rfl 3 rfl ?_
      refine V_bipush (pc := 19) (v := 10) C dX5_storm_19 rfl ?_
      refine jn0_ok (P := (VW X D 4 Q (KR X) (0, 0) (wOff Y a q pg gS gU rd ft S U) [(2, .int p1), (3, .ref (a 15))] 42 [])) (fun h => ?_) (fun J42 hJ42 h => ?_) h
      · refine V_iload_n (pc := 42) C dX5_storm_42 rfl 0 rfl ?_
        refine V_bipush (pc := 43) (v := 20) C dX5_storm_43 rfl ?_
        refine jn0_ok (P := (VW X D 4 Q (KR X) (0, 0) (wOff Y a q pg gS gU rd ft S U) [(2, .int p1), (3, .ref (a 15))] 66 [])) (fun h => ?_) (fun J66 hJ66 h => ?_) h
        · refine V_iload_n (pc := 66) C dX5_storm_66 rfl 0 rfl ?_
          by_cases e67_0 : p1 = 0
          · replace h := t_pos e67_0 h
            refine V_top (congrArg Value.int e67_0) ?_
            refine V_tableIn (pc := 67) C 96 dX5_storm_67 (by decide) (by decide) rfl rfl ?_
            refine V_aload_n (pc := 96) C dX5_storm_96 rfl 1 rfl ?_
            refine V_get (pc := 97) (v := .ref (a 16)) C 15 3 0 hiX5_storm_3 rfl rfl (by decide) wX5_storm_k5 rfl dX5_storm_97 ?_
            obtain ⟨r100, hq, h⟩ := ob1_some h
            refine V_callVR (pc := 100) (rest := []) (st2 := [.int r100]) C (X2_size_ok (a := (a 16)) (b := (a 17)) hq) gX5_storm_X2_size rfl ⟨rfl, hdX2_size⟩ ⟨Nat.le_of_ble_eq_true rfl, Nat.le_of_ble_eq_true rfl⟩ ⟨Nat.le_refl _, Nat.le_refl _⟩ [16, 17] rfl 16 2 rfl rfl rfl (Nat.le_of_ble_eq_true rfl) dX5_storm_100 rfl ?_
            cases h
            subst hQ
            exact V_iretR C dX5_storm_103
          replace h := t_neg e67_0 h
          by_cases e67_1 : p1 = 1
          · replace h := t_pos e67_1 h
            refine V_top (congrArg Value.int e67_1) ?_
            refine V_tableIn (pc := 67) C 104 dX5_storm_67 (by decide) (by decide) rfl rfl ?_
            refine V_aload_n (pc := 104) C dX5_storm_104 rfl 1 rfl ?_
            refine V_get (pc := 105) (v := .ref (a 18)) C 15 3 1 hiX5_storm_3 rfl rfl (by decide) wX5_storm_k3 rfl dX5_storm_105 ?_
            obtain ⟨r108, hq, h⟩ := ob1_some h
            refine V_callVR (pc := 108) (rest := []) (st2 := [.int r108]) C (X2_size_ok (a := (a 18)) (b := (a 19)) hq) gX5_storm_X2_size rfl ⟨rfl, hdX2_size⟩ ⟨Nat.le_of_ble_eq_true rfl, Nat.le_of_ble_eq_true rfl⟩ ⟨Nat.le_refl _, Nat.le_refl _⟩ [18, 19] rfl 18 2 rfl rfl rfl (Nat.le_of_ble_eq_true rfl) dX5_storm_108 rfl ?_
            cases h
            subst hQ
            exact V_iretR C dX5_storm_111
          replace h := t_neg e67_1 h
          by_cases e67_2 : p1 = 2
          · replace h := t_pos e67_2 h
            refine V_top (congrArg Value.int e67_2) ?_
            refine V_tableIn (pc := 67) C 112 dX5_storm_67 (by decide) (by decide) rfl rfl ?_
            refine V_aload_n (pc := 112) C dX5_storm_112 rfl 1 rfl ?_
            refine V_get (pc := 113) (v := .ref (a 16)) C 15 3 0 hiX5_storm_3 rfl rfl (by decide) wX5_storm_k5 rfl dX5_storm_113 ?_
            obtain ⟨r116, hq, h⟩ := ob1_some h
            refine V_callVR (pc := 116) (rest := []) (st2 := [.int r116]) C (X2_total_ok (a := (a 16)) (b := (a 17)) hq) gX5_storm_X2_total rfl ⟨rfl, hdX2_total⟩ ⟨Nat.le_of_ble_eq_true rfl, Nat.le_of_ble_eq_true rfl⟩ ⟨Nat.le_refl _, Nat.le_refl _⟩ [16, 17] rfl 16 2 rfl rfl rfl (Nat.le_of_ble_eq_true rfl) dX5_storm_116 rfl ?_
            cases h
            subst hQ
            exact V_iretR C dX5_storm_119
          replace h := t_neg e67_2 h
          by_cases e67_3 : p1 = 3
          · replace h := t_pos e67_3 h
            refine V_top (congrArg Value.int e67_3) ?_
            refine V_tableIn (pc := 67) C 120 dX5_storm_67 (by decide) (by decide) rfl rfl ?_
            refine V_aload_n (pc := 120) C dX5_storm_120 rfl 1 rfl ?_
            refine V_get (pc := 121) (v := .ref (a 18)) C 15 3 1 hiX5_storm_3 rfl rfl (by decide) wX5_storm_k3 rfl dX5_storm_121 ?_
            obtain ⟨r124, hq, h⟩ := ob1_some h
            refine V_callVR (pc := 124) (rest := []) (st2 := [.int r124]) C (X2_total_ok (a := (a 18)) (b := (a 19)) hq) gX5_storm_X2_total rfl ⟨rfl, hdX2_total⟩ ⟨Nat.le_of_ble_eq_true rfl, Nat.le_of_ble_eq_true rfl⟩ ⟨Nat.le_refl _, Nat.le_refl _⟩ [18, 19] rfl 18 2 rfl rfl rfl (Nat.le_of_ble_eq_true rfl) dX5_storm_124 rfl ?_
            cases h
            subst hQ
            exact V_iretR C dX5_storm_127
          replace h := t_neg e67_3 h
          have e67 : Int32.toInt p1 < 0 ∨ 3 < Int32.toInt p1 := by have n0 := lv_neT (a := 0) e67_0 rfl; have n1 := lv_neT (a := 1) e67_1 rfl; have n2 := lv_neT (a := 2) e67_2 rfl; have n3 := lv_neT (a := 3) e67_3 rfl; omega
          refine V_tableOut (pc := 67) C 128 dX5_storm_67 e67 rfl ?_
          refine V_ldc (pc := 128) (v := -1000003) C dX5_storm_128 wX5_storm_k2 ?_
          cases h
          subst hQ
          exact V_iretR C dX5_storm_130
        refine V_icmp_lt (pc := 45) C 66 dX5_storm_45 rfl (fun c45 => ?_) (fun c45 => ?_)
        · replace h := t_pos c45 h
          exact V_sub [0, 1] rfl (hJ66 h)
        · replace h := t_neg c45 h
          refine V_iload_n (pc := 48) C dX5_storm_48 rfl 0 rfl ?_
          refine V_bipush (pc := 49) (v := 28) C dX5_storm_49 rfl ?_
          refine V_icmp_ge (pc := 51) C 66 dX5_storm_51 rfl (fun c51 => ?_) (fun c51 => ?_)
          · replace h := t_pos c51 h
            exact V_sub [0, 1] rfl (hJ66 h)
          · replace h := t_neg c51 h
            refine V_aload_n (pc := 54) C dX5_storm_54 rfl 1 rfl ?_
            refine V_get (pc := 55) (v := .ref (a 18)) C 15 3 1 hiX5_storm_3 rfl rfl (by decide) wX5_storm_k3 rfl dX5_storm_55 ?_
            refine V_iload_n (pc := 58) C dX5_storm_58 rfl 0 rfl ?_
            refine V_bipush (pc := 59) (v := 20) C dX5_storm_59 rfl ?_
            refine V_isub (pc := 61) C dX5_storm_61 ?_
            obtain ⟨r62, hq, h⟩ := ob1_some h
            refine V_callVR (pc := 62) (rest := []) (st2 := [.int r62]) C (X2_at_ok (a := (a 18)) (b := (a 19)) hq) gX5_storm_X2_at rfl ⟨rfl, hdX2_at⟩ ⟨Nat.le_of_ble_eq_true rfl, Nat.le_of_ble_eq_true rfl⟩ ⟨Nat.le_refl _, Nat.le_refl _⟩ [18, 19] rfl 18 2 rfl rfl rfl (Nat.le_of_ble_eq_true rfl) dX5_storm_62 rfl ?_
            cases h
            subst hQ
            exact V_iretR C dX5_storm_65
      refine V_icmp_lt (pc := 21) C 42 dX5_storm_21 rfl (fun c21 => ?_) (fun c21 => ?_)
      · replace h := t_pos c21 h
        exact V_sub [3, 0] rfl (hJ42 h)
      · replace h := t_neg c21 h
        refine V_iload_n (pc := 24) C dX5_storm_24 rfl 3 rfl ?_
        refine V_bipush (pc := 25) (v := 13) C dX5_storm_25 rfl ?_
        refine V_icmp_ge (pc := 27) C 42 dX5_storm_27 rfl (fun c27 => ?_) (fun c27 => ?_)
        · replace h := t_pos c27 h
          exact V_sub [3, 0] rfl (hJ42 h)
        · replace h := t_neg c27 h
          refine V_aload_n (pc := 30) C dX5_storm_30 rfl 0 rfl ?_
          refine V_get (pc := 31) (v := .ref (a 16)) C 15 3 0 hiX5_storm_3 rfl rfl (by decide) wX5_storm_k5 rfl dX5_storm_31 ?_
          refine V_iload_n (pc := 34) C dX5_storm_34 rfl 3 rfl ?_
          refine V_bipush (pc := 35) (v := 10) C dX5_storm_35 rfl ?_
          refine V_isub (pc := 37) C dX5_storm_37 ?_
          obtain ⟨r38, hq, h⟩ := ob1_some h
          refine V_callVR (pc := 38) (rest := []) (st2 := [.int r38]) C (X2_at_ok (a := (a 16)) (b := (a 17)) hq) gX5_storm_X2_at rfl ⟨rfl, hdX2_at⟩ ⟨Nat.le_of_ble_eq_true rfl, Nat.le_of_ble_eq_true rfl⟩ ⟨Nat.le_refl _, Nat.le_refl _⟩ [16, 17] rfl 16 2 rfl rfl rfl (Nat.le_of_ble_eq_true rfl) dX5_storm_38 rfl ?_
          cases h
          subst hQ
          exact V_iretR C dX5_storm_41
    replace h := t_neg e16 h
    by_cases e16 : gS (Int32.toNatClampNeg p0) = some (a 22)
    · replace h := t_pos e16 h
      refine V_aald (pc := 16) C 2 2 rfl rfl b16 e16 dX5_storm_16 ?_
      refine V_astore_n (pc := 17) (lv' := [(3, .ref (a 22)), (0, .ref (a 0)), (1, .int p0), (2, .int p1)]) C dX5_storm_17 rfl (Nat.le_of_ble_eq_true rfl) rfl ?_
      refine V_iload_n (pc := 18) C dX5_storm_18 rfl 3 rfl ?_
      refine V_bipush (pc := 19) (v := 10) C dX5_storm_19 rfl ?_
      refine jn0_ok (P := (VW X D 4 Q (KR X) (0, 0) (wOff Y a q pg gS gU rd ft S U) [(2, .int p1), (3, .ref (a 22))] 42 [])) (fun h => ?_) (fun J42 hJ42 h => ?_) h
      · refine V_iload_n (pc := 42) C dX5_storm_42 rfl 0 rfl ?_
        refine V_bipush (pc := 43) (v := 20) C dX5_storm_43 rfl ?_
        refine jn0_ok (P := (VW X D 4 Q (KR X) (0, 0) (wOff Y a q pg gS gU rd ft S U) [(2, .int p1), (3, .ref (a 22))] 66 [])) (fun h => ?_) (fun J66 hJ66 h => ?_) h
        · refine V_iload_n (pc := 66) C dX5_storm_66 rfl 0 rfl ?_
          by_cases e67_0 : p1 = 0
          · replace h := t_pos e67_0 h
            refine V_top (congrArg Value.int e67_0) ?_
            refine V_tableIn (pc := 67) C 96 dX5_storm_67 (by decide) (by decide) rfl rfl ?_
            refine V_aload_n (pc := 96) C dX5_storm_96 rfl 1 rfl ?_
            refine V_get (pc := 97) (v := .ref (a 23)) C 22 3 0 hiX5_storm_3 rfl rfl (by decide) wX5_storm_k5 rfl dX5_storm_97 ?_
            obtain ⟨r100, hq, h⟩ := ob1_some h
            refine V_callVR (pc := 100) (rest := []) (st2 := [.int r100]) C (X2_size_ok (a := (a 23)) (b := (a 24)) hq) gX5_storm_X2_size rfl ⟨rfl, hdX2_size⟩ ⟨Nat.le_of_ble_eq_true rfl, Nat.le_of_ble_eq_true rfl⟩ ⟨Nat.le_refl _, Nat.le_refl _⟩ [23, 24] rfl 23 2 rfl rfl rfl (Nat.le_of_ble_eq_true rfl) dX5_storm_100 rfl ?_
            cases h
            subst hQ
            exact V_iretR C dX5_storm_103
          replace h := t_neg e67_0 h
          by_cases e67_1 : p1 = 1
          · replace h := t_pos e67_1 h
            refine V_top (congrArg Value.int e67_1) ?_
            refine V_tableIn (pc := 67) C 104 dX5_storm_67 (by decide) (by decide) rfl rfl ?_
            refine V_aload_n (pc := 104) C dX5_storm_104 rfl 1 rfl ?_
            refine V_get (pc := 105) (v := .ref (a 25)) C 22 3 1 hiX5_storm_3 rfl rfl (by decide) wX5_storm_k3 rfl dX5_storm_105 ?_
            obtain ⟨r108, hq, h⟩ := ob1_some h
            refine V_callVR (pc := 108) (rest := []) (st2 := [.int r108]) C (X2_size_ok (a := (a 25)) (b := (a 26)) hq) gX5_storm_X2_size rfl ⟨rfl, hdX2_size⟩ ⟨Nat.le_of_ble_eq_true rfl, Nat.le_of_ble_eq_true rfl⟩ ⟨Nat.le_refl _, Nat.le_refl _⟩ [25, 26] rfl 25 2 rfl rfl rfl (Nat.le_of_ble_eq_true rfl) dX5_storm_108 rfl ?_
            cases h
            subst hQ
            exact V_iretR C dX5_storm_111
          replace h := t_neg e67_1 h
          by_cases e67_2 : p1 = 2
          · replace h := t_pos e67_2 h
            refine V_top (congrArg Value.int e67_2) ?_
            refine V_tableIn (pc := 67) C 112 dX5_storm_67 (by decide) (by decide) rfl rfl ?_
            refine V_aload_n (pc := 112) C dX5_storm_112 rfl 1 rfl ?_
            refine V_get (pc := 113) (v := .ref (a 23)) C 22 3 0 hiX5_storm_3 rfl rfl (by decide) wX5_storm_k5 rfl dX5_storm_113 ?_
            obtain ⟨r116, hq, h⟩ := ob1_some h
            refine V_callVR (pc := 116) (rest := []) (st2 := [.int r116]) C (X2_total_ok (a := (a 23)) (b := (a 24)) hq) gX5_storm_X2_total rfl ⟨rfl, hdX2_total⟩ ⟨Nat.le_of_ble_eq_true rfl, Nat.le_of_ble_eq_true rfl⟩ ⟨Nat.le_refl _, Nat.le_refl _⟩ [23, 24] rfl 23 2 rfl rfl rfl (Nat.le_of_ble_eq_true rfl) dX5_storm_116 rfl ?_
            cases h
            subst hQ
            exact V_iretR C dX5_storm_119
          replace h := t_neg e67_2 h
          by_cases e67_3 : p1 = 3
          · replace h := t_pos e67_3 h
            refine V_top (congrArg Value.int e67_3) ?_
            refine V_tableIn (pc := 67) C 120 dX5_storm_67 (by decide) (by decide) rfl rfl ?_
            refine V_aload_n (pc := 120) C dX5_storm_120 rfl 1 rfl ?_
            refine V_get (pc := 121) (v := .ref (a 25)) C 22 3 1 hiX5_storm_3 rfl rfl (by decide) wX5_storm_k3 rfl dX5_storm_121 ?_
            obtain ⟨r124, hq, h⟩ := ob1_some h
            refine V_callVR (pc := 124) (rest := []) (st2 := [.int r124]) C (X2_total_ok (a := (a 25)) (b := (a 26)) hq) gX5_storm_X2_total rfl ⟨rfl, hdX2_total⟩ ⟨Nat.le_of_ble_eq_true rfl, Nat.le_of_ble_eq_true rfl⟩ ⟨Nat.le_refl _, Nat.le_refl _⟩ [25, 26] rfl 25 2 rfl rfl rfl (Nat.le_of_ble_eq_true rfl) dX5_storm_124 rfl ?_
            cases h
            subst hQ
            exact V_iretR C dX5_storm_127
          replace h := t_neg e67_3 h
          have e67 : Int32.toInt p1 < 0 ∨ 3 < Int32.toInt p1 := by have n0 := lv_neT (a := 0) e67_0 rfl; have n1 := lv_neT (a := 1) e67_1 rfl; have n2 := lv_neT (a := 2) e67_2 rfl; have n3 := lv_neT (a := 3) e67_3 rfl; omega
          refine V_tableOut (pc := 67) C 128 dX5_storm_67 e67 rfl ?_
          refine V_ldc (pc := 128) (v := -1000003) C dX5_storm_128 wX5_storm_k2 ?_
          cases h
          subst hQ
          exact V_iretR C dX5_storm_130
        refine V_icmp_lt (pc := 45) C 66 dX5_storm_45 rfl (fun c45 => ?_) (fun c45 => ?_)
        · replace h := t_pos c45 h
          exact V_sub [0, 1] rfl (hJ66 h)
        · replace h := t_neg c45 h
          refine V_iload_n (pc := 48) C dX5_storm_48 rfl 0 rfl ?_
          refine V_bipush (pc := 49) (v := 28) C dX5_storm_49 rfl ?_
          refine V_icmp_ge (pc := 51) C 66 dX5_storm_51 rfl (fun c51 => ?_) (fun c51 => ?_)
          · replace h := t_pos c51 h
            exact V_sub [0, 1] rfl (hJ66 h)
          · replace h := t_neg c51 h
            refine V_aload_n (pc := 54) C dX5_storm_54 rfl 1 rfl ?_
            refine V_get (pc := 55) (v := .ref (a 25)) C 22 3 1 hiX5_storm_3 rfl rfl (by decide) wX5_storm_k3 rfl dX5_storm_55 ?_
            refine V_iload_n (pc := 58) C dX5_storm_58 rfl 0 rfl ?_
            refine V_bipush (pc := 59) (v := 20) C dX5_storm_59 rfl ?_
            refine V_isub (pc := 61) C dX5_storm_61 ?_
            obtain ⟨r62, hq, h⟩ := ob1_some h
            refine V_callVR (pc := 62) (rest := []) (st2 := [.int r62]) C (X2_at_ok (a := (a 25)) (b := (a 26)) hq) gX5_storm_X2_at rfl ⟨rfl, hdX2_at⟩ ⟨Nat.le_of_ble_eq_true rfl, Nat.le_of_ble_eq_true rfl⟩ ⟨Nat.le_refl _, Nat.le_refl _⟩ [25, 26] rfl 25 2 rfl rfl rfl (Nat.le_of_ble_eq_true rfl) dX5_storm_62 rfl ?_
            cases h
            subst hQ
            exact V_iretR C dX5_storm_65
      refine V_icmp_lt (pc := 21) C 42 dX5_storm_21 rfl (fun c21 => ?_) (fun c21 => ?_)
      · replace h := t_pos c21 h
        exact V_sub [3, 0] rfl (hJ42 h)
      · replace h := t_neg c21 h
        refine V_iload_n (pc := 24) C dX5_storm_24 rfl 3 rfl ?_
        refine V_bipush (pc := 25) (v := 13) C dX5_storm_25 rfl ?_
        refine V_icmp_ge (pc := 27) C 42 dX5_storm_27 rfl (fun c27 => ?_) (fun c27 => ?_)
        · replace h := t_pos c27 h
          exact V_sub [3, 0] rfl (hJ42 h)
        · replace h := t_neg c27 h
          refine V_aload_n (pc := 30) C dX5_storm_30 rfl 0 rfl ?_
          refine V_get (pc := 31) (v := .ref (a 23)) C 22 3 0 hiX5_storm_3 rfl rfl (by decide) wX5_storm_k5 rfl dX5_storm_31 ?_
          refine V_iload_n (pc := 34) C dX5_storm_34 rfl 3 rfl ?_
          refine V_bipush (pc := 35) (v := 10) C dX5_storm_35 rfl ?_
          refine V_isub (pc := 37) C dX5_storm_37 ?_
          obtain ⟨r38, hq, h⟩ := ob1_some h
          refine V_callVR (pc := 38) (rest := []) (st2 := [.int r38]) C (X2_at_ok (a := (a 23)) (b := (a 24)) hq) gX5_storm_X2_at rfl ⟨rfl, hdX2_at⟩ ⟨Nat.le_of_ble_eq_true rfl, Nat.le_of_ble_eq_true rfl⟩ ⟨Nat.le_refl _, Nat.le_refl _⟩ [23, 24] rfl 23 2 rfl rfl rfl (Nat.le_of_ble_eq_true rfl) dX5_storm_38 rfl ?_
          cases h
          subst hQ
          exact V_iretR C dX5_storm_41
    replace h := t_neg e16 h
    by_cases e16 : gS (Int32.toNatClampNeg p0) = some (a 29)
    · replace h := t_pos e16 h
      refine V_aald (pc := 16) C 2 2 rfl rfl b16 e16 dX5_storm_16 ?_
      refine V_astore_n (pc := 17) (lv' := [(3, .ref (a 29)), (0, .ref (a 0)), (1, .int p0), (2, .int p1)]) C dX5_storm_17 rfl (Nat.le_of_ble_eq_true rfl) rfl ?_
      refine V_iload_n (pc := 18) C dX5_storm_18 rfl 3 rfl ?_
      refine V_bipush (pc := 19) (v := 10) C dX5_storm_19 rfl ?_
      refine jn0_ok (P := (VW X D 4 Q (KR X) (0, 0) (wOff Y a q pg gS gU rd ft S U) [(2, .int p1), (3, .ref (a 29))] 42 [])) (fun h => ?_) (fun J42 hJ42 h => ?_) h
      · refine V_iload_n (pc := 42) C dX5_storm_42 rfl 0 rfl ?_
        refine V_bipush (pc := 43) (v := 20) C dX5_storm_43 rfl ?_
        refine jn0_ok (P := (VW X D 4 Q (KR X) (0, 0) (wOff Y a q pg gS gU rd ft S U) [(2, .int p1), (3, .ref (a 29))] 66 [])) (fun h => ?_) (fun J66 hJ66 h => ?_) h
        · refine V_iload_n (pc := 66) C dX5_storm_66 rfl 0 rfl ?_
          by_cases e67_0 : p1 = 0
          · replace h := t_pos e67_0 h
            refine V_top (congrArg Value.int e67_0) ?_
            refine V_tableIn (pc := 67) C 96 dX5_storm_67 (by decide) (by decide) rfl rfl ?_
            refine V_aload_n (pc := 96) C dX5_storm_96 rfl 1 rfl ?_
            refine V_get (pc := 97) (v := .ref (a 30)) C 29 3 0 hiX5_storm_3 rfl rfl (by decide) wX5_storm_k5 rfl dX5_storm_97 ?_
            obtain ⟨r100, hq, h⟩ := ob1_some h
            refine V_callVR (pc := 100) (rest := []) (st2 := [.int r100]) C (X2_size_ok (a := (a 30)) (b := (a 31)) hq) gX5_storm_X2_size rfl ⟨rfl, hdX2_size⟩ ⟨Nat.le_of_ble_eq_true rfl, Nat.le_of_ble_eq_true rfl⟩ ⟨Nat.le_refl _, Nat.le_refl _⟩ [30, 31] rfl 30 2 rfl rfl rfl (Nat.le_of_ble_eq_true rfl) dX5_storm_100 rfl ?_
            cases h
            subst hQ
            exact V_iretR C dX5_storm_103
          replace h := t_neg e67_0 h
          by_cases e67_1 : p1 = 1
          · replace h := t_pos e67_1 h
            refine V_top (congrArg Value.int e67_1) ?_
            refine V_tableIn (pc := 67) C 104 dX5_storm_67 (by decide) (by decide) rfl rfl ?_
            refine V_aload_n (pc := 104) C dX5_storm_104 rfl 1 rfl ?_
            refine V_get (pc := 105) (v := .ref (a 32)) C 29 3 1 hiX5_storm_3 rfl rfl (by decide) wX5_storm_k3 rfl dX5_storm_105 ?_
            obtain ⟨r108, hq, h⟩ := ob1_some h
            refine V_callVR (pc := 108) (rest := []) (st2 := [.int r108]) C (X2_size_ok (a := (a 32)) (b := (a 33)) hq) gX5_storm_X2_size rfl ⟨rfl, hdX2_size⟩ ⟨Nat.le_of_ble_eq_true rfl, Nat.le_of_ble_eq_true rfl⟩ ⟨Nat.le_refl _, Nat.le_refl _⟩ [32, 33] rfl 32 2 rfl rfl rfl (Nat.le_of_ble_eq_true rfl) dX5_storm_108 rfl ?_
            cases h
            subst hQ
            exact V_iretR C dX5_storm_111
          replace h := t_neg e67_1 h
          by_cases e67_2 : p1 = 2
          · replace h := t_pos e67_2 h
            refine V_top (congrArg Value.int e67_2) ?_
            refine V_tableIn (pc := 67) C 112 dX5_storm_67 (by decide) (by decide) rfl rfl ?_
            refine V_aload_n (pc := 112) C dX5_storm_112 rfl 1 rfl ?_
            refine V_get (pc := 113) (v := .ref (a 30)) C 29 3 0 hiX5_storm_3 rfl rfl (by decide) wX5_storm_k5 rfl dX5_storm_113 ?_
            obtain ⟨r116, hq, h⟩ := ob1_some h
            refine V_callVR (pc := 116) (rest := []) (st2 := [.int r116]) C (X2_total_ok (a := (a 30)) (b := (a 31)) hq) gX5_storm_X2_total rfl ⟨rfl, hdX2_total⟩ ⟨Nat.le_of_ble_eq_true rfl, Nat.le_of_ble_eq_true rfl⟩ ⟨Nat.le_refl _, Nat.le_refl _⟩ [30, 31] rfl 30 2 rfl rfl rfl (Nat.le_of_ble_eq_true rfl) dX5_storm_116 rfl ?_
            cases h
            subst hQ
            exact V_iretR C dX5_storm_119
          replace h := t_neg e67_2 h
          by_cases e67_3 : p1 = 3
          · replace h := t_pos e67_3 h
            refine V_top (congrArg Value.int e67_3) ?_
            refine V_tableIn (pc := 67) C 120 dX5_storm_67 (by decide) (by decide) rfl rfl ?_
            refine V_aload_n (pc := 120) C dX5_storm_120 rfl 1 rfl ?_
            refine V_get (pc := 121) (v := .ref (a 32)) C 29 3 1 hiX5_storm_3 rfl rfl (by decide) wX5_storm_k3 rfl dX5_storm_121 ?_
            obtain ⟨r124, hq, h⟩ := ob1_some h
            refine V_callVR (pc := 124) (rest := []) (st2 := [.int r124]) C (X2_total_ok (a := (a 32)) (b := (a 33)) hq) gX5_storm_X2_total rfl ⟨rfl, hdX2_total⟩ ⟨Nat.le_of_ble_eq_true rfl, Nat.le_of_ble_eq_true rfl⟩ ⟨Nat.le_refl _, Nat.le_refl _⟩ [32, 33] rfl 32 2 rfl rfl rfl (Nat.le_of_ble_eq_true rfl) dX5_storm_124 rfl ?_
            cases h
            subst hQ
            exact V_iretR C dX5_storm_127
          replace h := t_neg e67_3 h
          have e67 : Int32.toInt p1 < 0 ∨ 3 < Int32.toInt p1 := by have n0 := lv_neT (a := 0) e67_0 rfl; have n1 := lv_neT (a := 1) e67_1 rfl; have n2 := lv_neT (a := 2) e67_2 rfl; have n3 := lv_neT (a := 3) e67_3 rfl; omega
          refine V_tableOut (pc := 67) C 128 dX5_storm_67 e67 rfl ?_
          refine V_ldc (pc := 128) (v := -1000003) C dX5_storm_128 wX5_storm_k2 ?_
          cases h
          subst hQ
          exact V_iretR C dX5_storm_130
        refine V_icmp_lt (pc := 45) C 66 dX5_storm_45 rfl (fun c45 => ?_) (fun c45 => ?_)
        · replace h := t_pos c45 h
          exact V_sub [0, 1] rfl (hJ66 h)
        · replace h := t_neg c45 h
          refine V_iload_n (pc := 48) C dX5_storm_48 rfl 0 rfl ?_
          refine V_bipush (pc := 49) (v := 28) C dX5_storm_49 rfl ?_
          refine V_icmp_ge (pc := 51) C 66 dX5_storm_51 rfl (fun c51 => ?_) (fun c51 => ?_)
          · replace h := t_pos c51 h
            exact V_sub [0, 1] rfl (hJ66 h)
          · replace h := t_neg c51 h
            refine V_aload_n (pc := 54) C dX5_storm_54 rfl 1 rfl ?_
            refine V_get (pc := 55) (v := .ref (a 32)) C 29 3 1 hiX5_storm_3 rfl rfl (by decide) wX5_storm_k3 rfl dX5_storm_55 ?_
            refine V_iload_n (pc := 58) C dX5_storm_58 rfl 0 rfl ?_
            refine V_bipush (pc := 59) (v := 20) C dX5_storm_59 rfl ?_
            refine V_isub (pc := 61) C dX5_storm_61 ?_
            obtain ⟨r62, hq, h⟩ := ob1_some h
            refine V_callVR (pc := 62) (rest := []) (st2 := [.int r62]) C (X2_at_ok (a := (a 32)) (b := (a 33)) hq) gX5_storm_X2_at rfl ⟨rfl, hdX2_at⟩ ⟨Nat.le_of_ble_eq_true rfl, Nat.le_of_ble_eq_true rfl⟩ ⟨Nat.le_refl _, Nat.le_refl _⟩ [32, 33] rfl 32 2 rfl rfl rfl (Nat.le_of_ble_eq_true rfl) dX5_storm_62 rfl ?_
            cases h
            subst hQ
            exact V_iretR C dX5_storm_65
      refine V_icmp_lt (pc := 21) C 42 dX5_storm_21 rfl (fun c21 => ?_) (fun c21 => ?_)
      · replace h := t_pos c21 h
        exact V_sub [3, 0] rfl (hJ42 h)
      · replace h := t_neg c21 h
        refine V_iload_n (pc := 24) C dX5_storm_24 rfl 3 rfl ?_
        refine V_bipush (pc := 25) (v := 13) C dX5_storm_25 rfl ?_
        refine V_icmp_ge (pc := 27) C 42 dX5_storm_27 rfl (fun c27 => ?_) (fun c27 => ?_)
        · replace h := t_pos c27 h
          exact V_sub [3, 0] rfl (hJ42 h)
        · replace h := t_neg c27 h
          refine V_aload_n (pc := 30) C dX5_storm_30 rfl 0 rfl ?_
          refine V_get (pc := 31) (v := .ref (a 30)) C 29 3 0 hiX5_storm_3 rfl rfl (by decide) wX5_storm_k5 rfl dX5_storm_31 ?_
          refine V_iload_n (pc := 34) C dX5_storm_34 rfl 3 rfl ?_
          refine V_bipush (pc := 35) (v := 10) C dX5_storm_35 rfl ?_
          refine V_isub (pc := 37) C dX5_storm_37 ?_
          obtain ⟨r38, hq, h⟩ := ob1_some h
          refine V_callVR (pc := 38) (rest := []) (st2 := [.int r38]) C (X2_at_ok (a := (a 30)) (b := (a 31)) hq) gX5_storm_X2_at rfl ⟨rfl, hdX2_at⟩ ⟨Nat.le_of_ble_eq_true rfl, Nat.le_of_ble_eq_true rfl⟩ ⟨Nat.le_refl _, Nat.le_refl _⟩ [30, 31] rfl 30 2 rfl rfl rfl (Nat.le_of_ble_eq_true rfl) dX5_storm_38 rfl ?_
          cases h
          subst hQ
          exact V_iretR C dX5_storm_41
    replace h := t_neg e16 h
    cases h
  · replace h := t_pos c5 h
    refine V_ldc (pc := 8) (v := -1000002) C dX5_storm_8 wX5_storm_k6 ?_
    cases h
    subst hQ
    exact V_iretR C dX5_storm_10
