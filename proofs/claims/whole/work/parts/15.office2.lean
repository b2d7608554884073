def X5_divided (a : Nat → Nat) (q : Nat → Int32) (pg : Nat → Int32) (gS : Nat → Option Nat) (gU : Nat → Option Nat) (rd : RdT) (ft : FtT) (S : Nat → StT) (U : Nat → UnT) (p0 : Int32) (p1 : Int32) : Option (Int32) :=
  ob1 (X5_hasStorm a q pg gS gU rd ft S U p0) fun r2 =>
  if r2 = 0 then (some (-1000002 : Int32)) else (jn1 (fun (s33_0 : Int32) => jn0 (chk (inB p0 3) (if gS (Int32.toNatClampNeg p0) = some (a 15) then (ob1 (X3_goesEvenly ((S 0).1) ((S 0).2.1) ((S 0).2.2.1) ((S 0).2.2.2.1) ((S 0).2.2.2.2.1) ((S 0).2.2.2.2.2.1) ((S 0).2.2.2.2.2.2)) fun r57 =>
  if r57 = 0 then (some (-1000001 : Int32)) else (if p1 = 0 then (ob1 (X2_size ((S 0).2.2.2.2.1) ((S 0).2.2.2.2.2.1)) fun r75 =>
  some r75) else (ob1 (X2_size ((S 0).2.2.2.2.1) ((S 0).2.2.2.2.2.1)) fun r85 =>
  if r85 ≤ (p1 - (10 : Int32)) then (some (-1000001 : Int32)) else (ob1 (X2_at ((S 0).2.2.2.2.1) ((S 0).2.2.2.2.2.1) (p1 - (10 : Int32))) fun r97 =>
  some r97)))) else (if gS (Int32.toNatClampNeg p0) = some (a 22) then (ob1 (X3_goesEvenly ((S 1).1) ((S 1).2.1) ((S 1).2.2.1) ((S 1).2.2.2.1) ((S 1).2.2.2.2.1) ((S 1).2.2.2.2.2.1) ((S 1).2.2.2.2.2.2)) fun r57 =>
  if r57 = 0 then (some (-1000001 : Int32)) else (if p1 = 0 then (ob1 (X2_size ((S 1).2.2.2.2.1) ((S 1).2.2.2.2.2.1)) fun r75 =>
  some r75) else (ob1 (X2_size ((S 1).2.2.2.2.1) ((S 1).2.2.2.2.2.1)) fun r85 =>
  if r85 ≤ (p1 - (10 : Int32)) then (some (-1000001 : Int32)) else (ob1 (X2_at ((S 1).2.2.2.2.1) ((S 1).2.2.2.2.2.1) (p1 - (10 : Int32))) fun r97 =>
  some r97)))) else (if gS (Int32.toNatClampNeg p0) = some (a 29) then (ob1 (X3_goesEvenly ((S 2).1) ((S 2).2.1) ((S 2).2.2.1) ((S 2).2.2.2.1) ((S 2).2.2.2.2.1) ((S 2).2.2.2.2.2.1) ((S 2).2.2.2.2.2.2)) fun r57 =>
  if r57 = 0 then (some (-1000001 : Int32)) else (if p1 = 0 then (ob1 (X2_size ((S 2).2.2.2.2.1) ((S 2).2.2.2.2.2.1)) fun r75 =>
  some r75) else (ob1 (X2_size ((S 2).2.2.2.2.1) ((S 2).2.2.2.2.2.1)) fun r85 =>
  if r85 ≤ (p1 - (10 : Int32)) then (some (-1000001 : Int32)) else (ob1 (X2_at ((S 2).2.2.2.2.1) ((S 2).2.2.2.2.2.1) (p1 - (10 : Int32))) fun r97 =>
  some r97)))) else (none))))) fun J47 =>
  if p1 = 0 then (J47) else (if s33_0 = 0 then (some (-1000003 : Int32)) else (J47))) fun J33 =>
  if p1 < (10 : Int32) then (J33 (0 : Int32)) else (if (18 : Int32) ≤ p1 then (J33 (0 : Int32)) else (J33 (1 : Int32))))
theorem wX5_divided_k0 : Cond.fieldLink RX5 15 (TX5 1).1 (TX5 1).2.1 (TX5 1).2.2.1 ∈ wsX5_divided := by decide +kernel
theorem hiX5_divided_5 : ∀ w ∈ u_ws RX5 TX5 11, w ∈ wsX5_divided := fun _ h => List.mem_cons_of_mem _ (List.mem_append_left _ (List.mem_append_left _ (List.mem_append_right _ h)))
theorem wX5_divided_k2 : Cond.fieldLink RX5 103 (TX3 2).1 (TX3 2).2.1 (TX3 2).2.2.1 ∈ wsX5_divided := by decide +kernel
theorem hiX5_divided_3 : ∀ w ∈ u_ws RX3 TX3 4, w ∈ wsX5_divided := fun _ h => List.mem_cons_of_mem _ (List.mem_append_left _ (List.mem_append_right _ h))
theorem wX5_divided_k4 : Cond.constant RX5 102 (-1000001) ∈ wsX5_divided := by decide +kernel
theorem wX5_divided_k5 : Cond.constant RX5 41 (-1000003) ∈ wsX5_divided := by decide +kernel
theorem wX5_divided_k6 : Cond.constant RX5 80 (-1000002) ∈ wsX5_divided := by decide +kernel
theorem hdX5_divided : yX5_divided.cls ≠ "java/lang/invoke/MethodHandle" ∧ yX5_divided.cls ≠ "java/lang/invoke/VarHandle" ∧ (parseMethodDescriptor yX5_divided.desc).map (fun d => d.parameters.length) = some 2 := by decide +kernel
set_option maxHeartbeats 4000000 in
set_option maxRecDepth 100000 in
theorem X5_divided_ok {l : Launch} {D : va_G} {Y : Nat → ClassId}  {a : Nat → Nat} {q : Nat → Int32} {pg : Nat → Int32} {gS : Nat → Option Nat} {gU : Nat → Option Nat} {rd : RdT} {ft : FtT} {S : Nat → StT} {U : Nat → UnT} {p0 : Int32} {p1 : Int32} {r : Int32} (h : X5_divided a q pg gS gU rd ft S U p0 p1 = some r) : MR l yX5_divided wsX5_divided 1 21 D Y [.ref (a 0), .int p0, .int p1] (wOff Y a q pg gS gU rd ft S U) (some (.int r)) := by
  refine MR_of (cc := cX5_divided) (nL := 6) (ret := some .int) (lv0 := [(0, .ref (a 0)), (1, .int p0), (2, .int p1)]) (by decide) rfl (Nat.le_of_ble_eq_true rfl) rfl (fun X Q C hQ => ?_)
  unfold X5_divided at h
  refine V_aload_n (pc := 0) C dX5_divided_0 rfl 0 rfl ?_
  refine V_iload_n (pc := 1) C dX5_divided_1 rfl 1 rfl ?_
  obtain ⟨r2, hq, h⟩ := ob1_some h
  refine V_callVR0 (pc := 2) (rest := []) (st2 := [.int r2]) C (X5_hasStorm_ok (a := a) hq) gX5_divided_X5_hasStorm rfl ⟨rfl, hdX5_hasStorm⟩ ⟨Nat.le_of_ble_eq_true rfl, Nat.le_of_ble_eq_true rfl⟩ ⟨Nat.le_refl _, Nat.le_refl _⟩ 0 5 rfl rfl rfl (Nat.le_of_ble_eq_true rfl) dX5_divided_2 rfl ?_
  refine V_if_ne (pc := 5) C 11 dX5_divided_5 rfl (fun c5 => ?_) (fun c5 => ?_)
  · replace h := t_neg c5 h
    refine V_iload_n (pc := 11) C dX5_divided_11 rfl 2 rfl ?_
    refine V_bipush (pc := 12) (v := 10) C dX5_divided_12 rfl ?_
    refine V_isub (pc := 14) C dX5_divided_14 ?_
    refine V_istore_n (pc := 15) (lv' := [(3, .int (p1 - (10 : Int32))), (0, .ref (a 0)), (1, .int p0), (2, .int p1)]) C dX5_divided_15 rfl (Nat.le_of_ble_eq_true rfl) rfl ?_
    refine V_iload_n (pc := 16) C dX5_divided_16 rfl 3 rfl ?_
    refine V_bipush (pc := 17) (v := 10) C dX5_divided_17 rfl ?_
    refine jn1_ok (P := (fun (s33_0 : Int32) => VW X D 6 Q (KR X) (0, 0) (wOff Y a q pg gS gU rd ft S U) [(0, .ref (a 0)), (1, .int p0), (2, .int p1), (3, .int (p1 - (10 : Int32)))] 33 [.int s33_0])) (fun s33_0 h => ?_) (fun J33 hJ33 h => ?_) h
    · refine V_istore (pc := 33) (lv' := [(4, .int s33_0), (0, .ref (a 0)), (1, .int p0), (2, .int p1), (3, .int (p1 - (10 : Int32)))]) C dX5_divided_33 (Nat.le_of_ble_eq_true rfl) rfl ?_
      refine V_iload_n (pc := 35) C dX5_divided_35 rfl 3 rfl ?_
      refine jn0_ok (P := (VW X D 6 Q (KR X) (0, 0) (wOff Y a q pg gS gU rd ft S U) [(0, .ref (a 0)), (1, .int p0), (2, .int p1), (3, .int (p1 - (10 : Int32)))] 47 [])) (fun h => ?_) (fun J47 hJ47 h => ?_) h
      · refine V_aload_n (pc := 47) C dX5_divided_47 rfl 0 rfl ?_
        refine V_get (pc := 48) (v := .ref (a 2)) C 0 5 1 hiX5_divided_5 rfl rfl (by decide) wX5_divided_k0 rfl dX5_divided_48 ?_
        refine V_iload_n (pc := 51) C dX5_divided_51 rfl 1 rfl ?_
        obtain ⟨b52, h⟩ := chk_some h
        by_cases e52 : gS (Int32.toNatClampNeg p0) = some (a 15)
        · replace h := t_pos e52 h
          refine V_aald (pc := 52) C 2 2 rfl rfl b52 e52 dX5_divided_52 ?_
          refine V_astore (pc := 53) (lv' := [(5, .ref (a 15)), (0, .ref (a 0)), (1, .int p0), (2, .int p1), (3, .int (p1 - (10 : Int32)))]) C dX5_divided_53 (Nat.le_of_ble_eq_true rfl) rfl ?_
          refine V_aload (pc := 55) C dX5_divided_55 0 rfl ?_
          obtain ⟨r57, hq, h⟩ := ob1_some h
          refine V_callVR (pc := 57) (rest := []) (st2 := [.int r57]) C (X3_goesEvenly_ok (a := (sh a 15)) hq) gX5_divided_X3_goesEvenly rfl ⟨rfl, hdX3_goesEvenly⟩ ⟨Nat.le_of_ble_eq_true rfl, Nat.le_of_ble_eq_true rfl⟩ ⟨Nat.le_refl _, Nat.le_refl _⟩ [15, 16, 17, 18, 19, 20, 21] rfl 15 3 rfl rfl rfl (Nat.le_of_ble_eq_true rfl) dX5_divided_57 rfl ?_
          refine V_if_ne (pc := 60) C 66 dX5_divided_60 rfl (fun c60 => ?_) (fun c60 => ?_)
          · replace h := t_neg c60 h
            refine V_iload_n (pc := 66) C dX5_divided_66 rfl 3 rfl ?_
            refine V_if_ne (pc := 67) C 79 dX5_divided_67 rfl (fun c67 => ?_) (fun c67 => ?_)
            · replace h := t_neg c67 h
              refine V_iload_n (pc := 79) C dX5_divided_79 rfl 4 rfl ?_
              refine V_aload (pc := 80) C dX5_divided_80 0 rfl ?_
              refine V_get (pc := 82) (v := .ref (a 20)) C 15 3 2 hiX5_divided_3 rfl rfl (by decide) wX5_divided_k2 rfl dX5_divided_82 ?_
              obtain ⟨r85, hq, h⟩ := ob1_some h
              refine V_callVR (pc := 85) (rest := [.int (p1 - (10 : Int32))]) (st2 := [.int r85, .int (p1 - (10 : Int32))]) C (X2_size_ok (a := (a 20)) (b := (a 21)) hq) gX5_divided_X2_size rfl ⟨rfl, hdX2_size⟩ ⟨Nat.le_of_ble_eq_true rfl, Nat.le_of_ble_eq_true rfl⟩ ⟨Nat.le_refl _, Nat.le_refl _⟩ [20, 21] rfl 20 2 rfl rfl rfl (Nat.le_of_ble_eq_true rfl) dX5_divided_85 rfl ?_
              refine V_icmp_ge (pc := 88) C 103 dX5_divided_88 rfl (fun c88 => ?_) (fun c88 => ?_)
              · replace h := t_pos c88 h
                refine V_ldc (pc := 103) (v := -1000001) C dX5_divided_103 wX5_divided_k4 ?_
                cases h
                subst hQ
                exact V_iretR C dX5_divided_105
              · replace h := t_neg c88 h
                refine V_aload (pc := 91) C dX5_divided_91 0 rfl ?_
                refine V_get (pc := 93) (v := .ref (a 20)) C 15 3 2 hiX5_divided_3 rfl rfl (by decide) wX5_divided_k2 rfl dX5_divided_93 ?_
                refine V_iload_n (pc := 96) C dX5_divided_96 rfl 4 rfl ?_
                obtain ⟨r97, hq, h⟩ := ob1_some h
                refine V_callVR (pc := 97) (rest := []) (st2 := [.int r97]) C (X2_at_ok (a := (a 20)) (b := (a 21)) hq) gX5_divided_X2_at rfl ⟨rfl, hdX2_at⟩ ⟨Nat.le_of_ble_eq_true rfl, Nat.le_of_ble_eq_true rfl⟩ ⟨Nat.le_refl _, Nat.le_refl _⟩ [20, 21] rfl 20 2 rfl rfl rfl (Nat.le_of_ble_eq_true rfl) dX5_divided_97 rfl ?_
                refine V_goto (pc := 100) C 105 dX5_divided_100 rfl ?_
                cases h
                subst hQ
                exact V_iretR C dX5_divided_105
            · replace h := t_pos c67 h
              refine V_aload (pc := 70) C dX5_divided_70 0 rfl ?_
              refine V_get (pc := 72) (v := .ref (a 20)) C 15 3 2 hiX5_divided_3 rfl rfl (by decide) wX5_divided_k2 rfl dX5_divided_72 ?_
              obtain ⟨r75, hq, h⟩ := ob1_some h
              refine V_callVR (pc := 75) (rest := []) (st2 := [.int r75]) C (X2_size_ok (a := (a 20)) (b := (a 21)) hq) gX5_divided_X2_size rfl ⟨rfl, hdX2_size⟩ ⟨Nat.le_of_ble_eq_true rfl, Nat.le_of_ble_eq_true rfl⟩ ⟨Nat.le_refl _, Nat.le_refl _⟩ [20, 21] rfl 20 2 rfl rfl rfl (Nat.le_of_ble_eq_true rfl) dX5_divided_75 rfl ?_
              cases h
              subst hQ
              exact V_iretR C dX5_divided_78
          · replace h := t_pos c60 h
            refine V_ldc (pc := 63) (v := -1000001) C dX5_divided_63 wX5_divided_k4 ?_
            cases h
            subst hQ
            exact V_iretR C dX5_divided_65
        replace h := t_neg e52 h
        by_cases e52 : gS (Int32.toNatClampNeg p0) = some (a 22)
        · replace h := t_pos e52 h
          refine V_aald (pc := 52) C 2 2 rfl rfl b52 e52 dX5_divided_52 ?_
          refine V_astore (pc := 53) (lv' := [(5, .ref (a 22)), (0, .ref (a 0)), (1, .int p0), (2, .int p1), (3, .int (p1 - (10 : Int32)))]) C dX5_divided_53 (Nat.le_of_ble_eq_true rfl) rfl ?_
          refine V_aload (pc := 55) C dX5_divided_55 0 rfl ?_
          obtain ⟨r57, hq, h⟩ := ob1_some h
          refine V_callVR (pc := 57) (rest := []) (st2 := [.int r57]) C (X3_goesEvenly_ok (a := (sh a 22)) hq) gX5_divided_X3_goesEvenly rfl ⟨rfl, hdX3_goesEvenly⟩ ⟨Nat.le_of_ble_eq_true rfl, Nat.le_of_ble_eq_true rfl⟩ ⟨Nat.le_refl _, Nat.le_refl _⟩ [22, 23, 24, 25, 26, 27, 28] rfl 22 3 rfl rfl rfl (Nat.le_of_ble_eq_true rfl) dX5_divided_57 rfl ?_
          refine V_if_ne (pc := 60) C 66 dX5_divided_60 rfl (fun c60 => ?_) (fun c60 => ?_)
          · replace h := t_neg c60 h
            refine V_iload_n (pc := 66) C dX5_divided_66 rfl 3 rfl ?_
            refine V_if_ne (pc := 67) C 79 dX5_divided_67 rfl (fun c67 => ?_) (fun c67 => ?_)
            · replace h := t_neg c67 h
              refine V_iload_n (pc := 79) C dX5_divided_79 rfl 4 rfl ?_
              refine V_aload (pc := 80) C dX5_divided_80 0 rfl ?_
              refine V_get (pc := 82) (v := .ref (a 27)) C 22 3 2 hiX5_divided_3 rfl rfl (by decide) wX5_divided_k2 rfl dX5_divided_82 ?_
              obtain ⟨r85, hq, h⟩ := ob1_some h
              refine V_callVR (pc := 85) (rest := [.int (p1 - (10 : Int32))]) (st2 := [.int r85, .int (p1 - (10 : Int32))]) C (X2_size_ok (a := (a 27)) (b := (a 28)) hq) gX5_divided_X2_size rfl ⟨rfl, hdX2_size⟩ ⟨Nat.le_of_ble_eq_true rfl, Nat.le_of_ble_eq_true rfl⟩ ⟨Nat.le_refl _, Nat.le_refl _⟩ [27, 28] rfl 27 2 rfl rfl rfl (Nat.le_of_ble_eq_true rfl) dX5_divided_85 rfl ?_
              refine V_icmp_ge (pc := 88) C 103 dX5_divided_88 rfl (fun c88 => ?_) (fun c88 => ?_)
              · replace h := t_pos c88 h
                refine V_ldc (pc := 103) (v := -1000001) C dX5_divided_103 wX5_divided_k4 ?_
                cases h
                subst hQ
                exact V_iretR C dX5_divided_105
              · replace h := t_neg c88 h
                refine V_aload (pc := 91) C dX5_divided_91 0 rfl ?_
                refine V_get (pc := 93) (v := .ref (a 27)) C 22 3 2 hiX5_divided_3 rfl rfl (by decide) wX5_divided_k2 rfl dX5_divided_93 ?_
                refine V_iload_n (pc := 96) C dX5_divided_96 rfl 4 rfl ?_
                obtain ⟨r97, hq, h⟩ := ob1_some h
                refine V_callVR (pc := 97) (rest := []) (st2 := [.int r97]) C (X2_at_ok (a := (a 27)) (b := (a 28)) hq) gX5_divided_X2_at rfl ⟨rfl, hdX2_at⟩ ⟨Nat.le_of_ble_eq_true rfl, Nat.le_of_ble_eq_true rfl⟩ ⟨Nat.le_refl _, Nat.le_refl _⟩ [27, 28] rfl 27 2 rfl rfl rfl (Nat.le_of_ble_eq_true rfl) dX5_divided_97 rfl ?_
                refine V_goto (pc := 100) C 105 dX5_divided_100 rfl ?_
                cases h
                subst hQ
                exact V_iretR C dX5_divided_105
            · replace h := t_pos c67 h
              refine V_aload (pc := 70) C dX5_divided_70 0 rfl ?_
              refine V_get (pc := 72) (v := .ref (a 27)) C 22 3 2 hiX5_divided_3 rfl rfl (by decide) wX5_divided_k2 rfl dX5_divided_72 ?_
              obtain ⟨r75, hq, h⟩ := ob1_some h
              refine V_callVR (pc := 75) (rest := []) (st2 := [.int r75]) C (X2_size_ok (a := (a 27)) (b := (a 28)) hq) gX5_divided_X2_size rfl ⟨rfl, hdX2_size⟩ ⟨Nat.le_of_ble_eq_true rfl, Nat.le_of_ble_eq_true rfl⟩ ⟨Nat.le_refl _, Nat.le_refl _⟩ [27, 28] rfl 27 2 rfl rfl rfl (Nat.le_of_ble_eq_true rfl) dX5_divided_75 rfl ?_
              cases h
              subst hQ
              exact V_iretR C dX5_divided_78
          · replace h := t_pos c60 h
            refine V_ldc (pc := 63) (v := -1000001) C dX5_divided_63 wX5_divided_k4 ?_
            cases h
            subst hQ
            exact V_iretR C dX5_divided_65
        replace h := t_neg e52 h
        by_cases e52 : gS (Int32.toNatClampNeg p0) = some (a 29)
        · replace h := t_pos e52 h
          refine V_aald (pc := 52) C 2 2 rfl rfl b52 e52 dX5_divided_52 ?_
          refine V_astore (pc := 53) (lv' := [(5, .ref (a 29)), (0, .ref (a 0)), (1, .int p0), (2, .int p1), (3, .int (p1 - (10 : Int32)))]) C dX5_divided_53 (Nat.le_of_ble_eq_true rfl) rfl ?_
          refine V_aload (pc := 55) C dX5_divided_55 0 rfl ?_
          obtain ⟨r57, hq, h⟩ := ob1_some h
          refine V_callVR (pc := 57) (rest := []) (st2 := [.int r57]) C (X3_goesEvenly_ok (a := (sh a 29)) hq) gX5_divided_X3_goesEvenly rfl ⟨rfl, hdX3_goesEvenly⟩ ⟨Nat.le_of_ble_eq_true rfl, Nat.le_of_ble_eq_true rfl⟩ ⟨Nat.le_refl _, Nat.le_refl _⟩ [29, 30, 31, 32, 33, 34, 35] rfl 29 3 rfl rfl rfl (Nat.le_of_ble_eq_true rfl) dX5_divided_57 rfl ?_
          refine V_if_ne (pc := 60) C 66 dX5_divided_60 rfl (fun c60 => ?_) (fun c60 => ?_)
          · replace h := t_neg c60 h
            refine V_iload_n (pc := 66) C dX5_divided_66 rfl 3 rfl ?_
            refine V_if_ne (pc := 67) C 79 dX5_divided_67 rfl (fun c67 => ?_) (fun c67 => ?_)
            · replace h := t_neg c67 h
              refine V_iload_n (pc := 79) C dX5_divided_79 rfl 4 rfl ?_
              refine V_aload (pc := 80) C dX5_divided_80 0 rfl ?_
              refine V_get (pc := 82) (v := .ref (a 34)) C 29 3 2 hiX5_divided_3 rfl rfl (by decide) wX5_divided_k2 rfl dX5_divided_82 ?_
              obtain ⟨r85, hq, h⟩ := ob1_some h
              refine V_callVR (pc := 85) (rest := [.int (p1 - (10 : Int32))]) (st2 := [.int r85, .int (p1 - (10 : Int32))]) C (X2_size_ok (a := (a 34)) (b := (a 35)) hq) gX5_divided_X2_size rfl ⟨rfl, hdX2_size⟩ ⟨Nat.le_of_ble_eq_true rfl, Nat.le_of_ble_eq_true rfl⟩ ⟨Nat.le_refl _, Nat.le_refl _⟩ [34, 35] rfl 34 2 rfl rfl rfl (Nat.le_of_ble_eq_true rfl) dX5_divided_85 rfl ?_
              refine V_icmp_ge (pc := 88) C 103 dX5_divided_88 rfl (fun c88 => ?_) (fun c88 => ?_)
              · replace h := t_pos c88 h
                refine V_ldc (pc := 103) (v := -1000001) C dX5_divided_103 wX5_divided_k4 ?_
                cases h
                subst hQ
                exact V_iretR C dX5_divided_105
              · replace h := t_neg c88 h
                refine V_aload (pc := 91) C dX5_divided_91 0 rfl ?_
                refine V_get (pc := 93) (v := .ref (a 34)) C 29 3 2 hiX5_divided_3 rfl rfl (by decide) wX5_divided_k2 rfl dX5_divided_93 ?_
                refine V_iload_n (pc := 96) C dX5_divided_96 rfl 4 rfl ?_
                obtain ⟨r97, hq, h⟩ := ob1_some h
                refine V_callVR (pc := 97) (rest := []) (st2 := [.int r97]) C (X2_at_ok (a := (a 34)) (b := (a 35)) hq) gX5_divided_X2_at rfl ⟨rfl, hdX2_at⟩ ⟨Nat.le_of_ble_eq_true rfl, Nat.le_of_ble_eq_true rfl⟩ ⟨Nat.le_refl _, Nat.le_refl _⟩ [34, 35] rfl 34 2 rfl rfl rfl (Nat.le_of_ble_eq_true rfl) dX5_divided_97 rfl ?_
                refine V_goto (pc := 100) C 105 dX5_divided_100 rfl ?_
                cases h
                subst hQ
                exact V_iretR C dX5_divided_105
            · replace h := t_pos c67 h
              refine V_aload (pc := 70) C dX5_divided_70 0 rfl ?_
              refine V_get (pc := 72) (v := .ref (a 34)) C 29 3 2 hiX5_divided_3 rfl rfl (by decide) wX5_divided_k2 rfl dX5_divided_72 ?_
              obtain ⟨r75, hq, h⟩ := ob1_some h
              refine V_callVR (pc := 75) (rest := []) (st2 := [.int r75]) C (X2_size_ok (a := (a 34)) (b := (a 35)) hq) gX5_divided_X2_size rfl ⟨rfl, hdX2_size⟩ ⟨Nat.le_of_ble_eq_true rfl, Nat.le_of_ble_eq_true rfl⟩ ⟨Nat.le_refl _, Nat.le_refl _⟩ [34, 35] rfl 34 2 rfl rfl rfl (Nat.le_of_ble_eq_true rfl) dX5_divided_75 rfl ?_
              cases h
              subst hQ
              exact V_iretR C dX5_divided_78
          · replace h := t_pos c60 h
            refine V_ldc (pc := 63) (v := -1000001) C dX5_divided_63 wX5_divided_k4 ?_
            cases h
            subst hQ
            exact V_iretR C dX5_divided_65
        replace h := t_neg e52 h
        cases h
      refine V_if_eq (pc := 36) C 47 dX5_divided_36 rfl (fun c36 => ?_) (fun c36 => ?_)
      · replace h := t_pos c36 h
        exact V_sub [1, 2, 3, 4] rfl (hJ47 h)
      · replace h := t_neg c36 h
        refine V_iload (pc := 39) C dX5_divided_39 0 rfl ?_
        refine V_if_ne (pc := 41) C 47 dX5_divided_41 rfl (fun c41 => ?_) (fun c41 => ?_)
        · replace h := t_neg c41 h
          exact V_sub [1, 2, 3, 4] rfl (hJ47 h)
        · replace h := t_pos c41 h
          refine V_ldc (pc := 44) (v := -1000003) C dX5_divided_44 wX5_divided_k5 ?_
          cases h
          subst hQ
          exact V_iretR C dX5_divided_46
    refine V_icmp_lt (pc := 19) C 32 dX5_divided_19 rfl (fun c19 => ?_) (fun c19 => ?_)
    · replace h := t_pos c19 h
      refine V_iconst (pc := 32) (v := 0) C dX5_divided_32 rfl ?_
      exact V_sub [1, 2, 3, 0] rfl (hJ33 _ h)
    · replace h := t_neg c19 h
      refine V_iload_n (pc := 22) C dX5_divided_22 rfl 3 rfl ?_
      refine V_bipush (pc := 23) (v := 18) C dX5_divided_23 rfl ?_
      refine V_icmp_ge (pc := 25) C 32 dX5_divided_25 rfl (fun c25 => ?_) (fun c25 => ?_)
      · replace h := t_pos c25 h
        refine V_iconst (pc := 32) (v := 0) C dX5_divided_32 rfl ?_
        exact V_sub [1, 2, 3, 0] rfl (hJ33 _ h)
      · replace h := t_neg c25 h
        refine V_iconst (pc := 28) (v := 1) C dX5_divided_28 rfl ?_
        refine V_goto (pc := 29) C 33 dX5_divided_29 rfl ?_
        exact V_sub [1, 2, 3, 0] rfl (hJ33 _ h)
  · replace h := t_pos c5 h
    refine V_ldc (pc := 8) (v := -1000002) C dX5_divided_8 wX5_divided_k6 ?_
    cases h
    subst hQ
    exact V_iretR C dX5_divided_10
def X5_unit (a : Nat → Nat) (q : Nat → Int32) (pg : Nat → Int32) (gS : Nat → Option Nat) (gU : Nat → Option Nat) (rd : RdT) (ft : FtT) (S : Nat → StT) (U : Nat → UnT) (p0 : Int32) (p1 : Int32) : Option (Int32) :=
  ob1 (X5_hasUnit a q pg gS gU rd ft S U p0) fun r2 =>
  if r2 = 0 then (some (-1000002 : Int32)) else (chk (inB p0 4) (if gU (Int32.toNatClampNeg p0) = some (a 36) then (jn0 (if p1 = 0 then (some ((U 0).1)) else (if p1 = 1 then (ob1 (X2_size ((U 0).2.1) ((U 0).2.2)) fun r77 =>
  some r77) else (if p1 = 2 then (ob1 (X2_total ((U 0).2.1) ((U 0).2.2)) fun r85 =>
  some r85) else (some (-1000003 : Int32))))) fun J42 =>
  if p1 < (10 : Int32) then (J42) else (if (18 : Int32) ≤ p1 then (J42) else (ob1 (X2_at ((U 0).2.1) ((U 0).2.2) (p1 - (10 : Int32))) fun r38 =>
  some r38))) else (if gU (Int32.toNatClampNeg p0) = some (a 39) then (jn0 (if p1 = 0 then (some ((U 1).1)) else (if p1 = 1 then (ob1 (X2_size ((U 1).2.1) ((U 1).2.2)) fun r77 =>
  some r77) else (if p1 = 2 then (ob1 (X2_total ((U 1).2.1) ((U 1).2.2)) fun r85 =>
  some r85) else (some (-1000003 : Int32))))) fun J42 =>
  if p1 < (10 : Int32) then (J42) else (if (18 : Int32) ≤ p1 then (J42) else (ob1 (X2_at ((U 1).2.1) ((U 1).2.2) (p1 - (10 : Int32))) fun r38 =>
  some r38))) else (if gU (Int32.toNatClampNeg p0) = some (a 42) then (jn0 (if p1 = 0 then (some ((U 2).1)) else (if p1 = 1 then (ob1 (X2_size ((U 2).2.1) ((U 2).2.2)) fun r77 =>
  some r77) else (if p1 = 2 then (ob1 (X2_total ((U 2).2.1) ((U 2).2.2)) fun r85 =>
  some r85) else (some (-1000003 : Int32))))) fun J42 =>
  if p1 < (10 : Int32) then (J42) else (if (18 : Int32) ≤ p1 then (J42) else (ob1 (X2_at ((U 2).2.1) ((U 2).2.2) (p1 - (10 : Int32))) fun r38 =>
  some r38))) else (if gU (Int32.toNatClampNeg p0) = some (a 45) then (jn0 (if p1 = 0 then (some ((U 3).1)) else (if p1 = 1 then (ob1 (X2_size ((U 3).2.1) ((U 3).2.2)) fun r77 =>
  some r77) else (if p1 = 2 then (ob1 (X2_total ((U 3).2.1) ((U 3).2.2)) fun r85 =>
  some r85) else (some (-1000003 : Int32))))) fun J42 =>
  if p1 < (10 : Int32) then (J42) else (if (18 : Int32) ≤ p1 then (J42) else (ob1 (X2_at ((U 3).2.1) ((U 3).2.2) (p1 - (10 : Int32))) fun r38 =>
  some r38))) else (none))))))
theorem wX5_unit_k0 : Cond.fieldLink RX5 21 (TX5 2).1 (TX5 2).2.1 (TX5 2).2.2.1 ∈ wsX5_unit := by decide +kernel
theorem hiX5_unit_5 : ∀ w ∈ u_ws RX5 TX5 11, w ∈ wsX5_unit := fun _ h => List.mem_cons_of_mem _ (List.mem_append_left _ (List.mem_append_left _ (List.mem_append_right _ h)))
theorem wX5_unit_k2 : Cond.constant RX5 41 (-1000003) ∈ wsX5_unit := by decide +kernel
theorem wX5_unit_k3 : Cond.fieldLink RX5 109 (TX4 0).1 (TX4 0).2.1 (TX4 0).2.2.1 ∈ wsX5_unit := by decide +kernel
theorem hiX5_unit_4 : ∀ w ∈ u_ws RX4 TX4 2, w ∈ wsX5_unit := fun _ h => List.mem_cons_of_mem _ (List.mem_append_left _ (List.mem_append_right _ h))
theorem wX5_unit_k5 : Cond.fieldLink RX5 112 (TX4 1).1 (TX4 1).2.1 (TX4 1).2.2.1 ∈ wsX5_unit := by decide +kernel
theorem wX5_unit_k6 : Cond.constant RX5 80 (-1000002) ∈ wsX5_unit := by decide +kernel
theorem hdX5_unit : yX5_unit.cls ≠ "java/lang/invoke/MethodHandle" ∧ yX5_unit.cls ≠ "java/lang/invoke/VarHandle" ∧ (parseMethodDescriptor yX5_unit.desc).map (fun d => d.parameters.length) = some 2 := by decide +kernel
set_option maxHeartbeats 4000000 in
set_option maxRecDepth 100000 in
theorem X5_unit_ok {l : Launch} {D : va_G} {Y : Nat → ClassId}  {a : Nat → Nat} {q : Nat → Int32} {pg : Nat → Int32} {gS : Nat → Option Nat} {gU : Nat → Option Nat} {rd : RdT} {ft : FtT} {S : Nat → StT} {U : Nat → UnT} {p0 : Int32} {p1 : Int32} {r : Int32} (h : X5_unit a q pg gS gU rd ft S U p0 p1 = some r) : MR l yX5_unit wsX5_unit 2 43 D Y [.ref (a 0), .int p0, .int p1] (wOff Y a q pg gS gU rd ft S U) (some (.int r)) := by
  refine MR_of (cc := cX5_unit) (nL := 4) (ret := some .int) (lv0 := [(0, .ref (a 0)), (1, .int p0), (2, .int p1)]) (by decide) rfl (Nat.le_of_ble_eq_true rfl) rfl (fun X Q C hQ => ?_)
  unfold X5_unit at h
  refine V_aload_n (pc := 0) C dX5_unit_0 rfl 0 rfl ?_
  refine V_iload_n (pc := 1) C dX5_unit_1 rfl 1 rfl ?_
  obtain ⟨r2, hq, h⟩ := ob1_some h
  refine V_callVR0 (pc := 2) (rest := []) (st2 := [.int r2]) C (X5_hasUnit_ok (a := a) hq) gX5_unit_X5_hasUnit rfl ⟨rfl, hdX5_hasUnit⟩ ⟨Nat.le_of_ble_eq_true rfl, Nat.le_of_ble_eq_true rfl⟩ ⟨Nat.le_refl _, Nat.le_refl _⟩ 0 5 rfl rfl rfl (Nat.le_of_ble_eq_true rfl) dX5_unit_2 rfl ?_
  refine V_if_ne (pc := 5) C 11 dX5_unit_5 rfl (fun c5 => ?_) (fun c5 => ?_)
  · replace h := t_neg c5 h
    refine V_aload_n (pc := 11) C dX5_unit_11 rfl 0 rfl ?_
    refine V_get (pc := 12) (v := .ref (a 3)) C 0 5 2 hiX5_unit_5 rfl rfl (by decide) wX5_unit_k0 rfl dX5_unit_12 ?_
    refine V_iload_n (pc := 15) C dX5_unit_15 rfl 1 rfl ?_
    obtain ⟨b16, h⟩ := chk_some h
    by_cases e16 : gU (Int32.toNatClampNeg p0) = some (a 36)
    · replace h := t_pos e16 h
      refine V_aald (pc := 16) C 3 3 rfl rfl b16 e16 dX5_unit_16 ?_
      refine V_astore_n (pc := 17) (lv' := [(3, .ref (a 36)), (0, .ref (a 0)), (1, .int p0), (2, .int p1)]) C dX5_unit_17 rfl (Nat.le_of_ble_eq_true rfl) rfl ?_
      refine V_iload_n (pc := 18) C dX5_unit_18 rfl 3 rfl ?_
      refine V_bipush (pc := 19) (v := 10) C dX5_unit_19 rfl ?_
      refine jn0_ok (P := (VW X D 4 Q (KR X) (0, 0) (wOff Y a q pg gS gU rd ft S U) [(2, .int p1), (3, .ref (a 36))] 42 [])) (fun h => ?_) (fun J42 hJ42 h => ?_) h
      · refine V_iload_n (pc := 42) C dX5_unit_42 rfl 0 rfl ?_
        by_cases e43_0 : p1 = 0
        · replace h := t_pos e43_0 h
          refine V_top (congrArg Value.int e43_0) ?_
          refine V_tableIn (pc := 43) C 68 dX5_unit_43 (by decide) (by decide) rfl rfl ?_
          refine V_aload_n (pc := 68) C dX5_unit_68 rfl 1 rfl ?_
          refine V_get (pc := 69) (v := .int (U 0).1) C 36 4 1 hiX5_unit_4 rfl rfl (by decide) wX5_unit_k5 rfl dX5_unit_69 ?_
          cases h
          subst hQ
          exact V_iretR C dX5_unit_72
        replace h := t_neg e43_0 h
        by_cases e43_1 : p1 = 1
        · replace h := t_pos e43_1 h
          refine V_top (congrArg Value.int e43_1) ?_
          refine V_tableIn (pc := 43) C 73 dX5_unit_43 (by decide) (by decide) rfl rfl ?_
          refine V_aload_n (pc := 73) C dX5_unit_73 rfl 1 rfl ?_
          refine V_get (pc := 74) (v := .ref (a 37)) C 36 4 0 hiX5_unit_4 rfl rfl (by decide) wX5_unit_k3 rfl dX5_unit_74 ?_
          obtain ⟨r77, hq, h⟩ := ob1_some h
          refine V_callVR (pc := 77) (rest := []) (st2 := [.int r77]) C (X2_size_ok (a := (a 37)) (b := (a 38)) hq) gX5_unit_X2_size rfl ⟨rfl, hdX2_size⟩ ⟨Nat.le_of_ble_eq_true rfl, Nat.le_of_ble_eq_true rfl⟩ ⟨Nat.le_refl _, Nat.le_refl _⟩ [37, 38] rfl 37 2 rfl rfl rfl (Nat.le_of_ble_eq_true rfl) dX5_unit_77 rfl ?_
          cases h
          subst hQ
          exact V_iretR C dX5_unit_80
        replace h := t_neg e43_1 h
        by_cases e43_2 : p1 = 2
        · replace h := t_pos e43_2 h
          refine V_top (congrArg Value.int e43_2) ?_
          refine V_tableIn (pc := 43) C 81 dX5_unit_43 (by decide) (by decide) rfl rfl ?_
          refine V_aload_n (pc := 81) C dX5_unit_81 rfl 1 rfl ?_
          refine V_get (pc := 82) (v := .ref (a 37)) C 36 4 0 hiX5_unit_4 rfl rfl (by decide) wX5_unit_k3 rfl dX5_unit_82 ?_
          obtain ⟨r85, hq, h⟩ := ob1_some h
          refine V_callVR (pc := 85) (rest := []) (st2 := [.int r85]) C (X2_total_ok (a := (a 37)) (b := (a 38)) hq) gX5_unit_X2_total rfl ⟨rfl, hdX2_total⟩ ⟨Nat.le_of_ble_eq_true rfl, Nat.le_of_ble_eq_true rfl⟩ ⟨Nat.le_refl _, Nat.le_refl _⟩ [37, 38] rfl 37 2 rfl rfl rfl (Nat.le_of_ble_eq_true rfl) dX5_unit_85 rfl ?_
          cases h
          subst hQ
          exact V_iretR C dX5_unit_88
        replace h := t_neg e43_2 h
        have e43 : Int32.toInt p1 < 0 ∨ 2 < Int32.toInt p1 := by have n0 := lv_neT (a := 0) e43_0 rfl; have n1 := lv_neT (a := 1) e43_1 rfl; have n2 := lv_neT (a := 2) e43_2 rfl; omega
        refine V_tableOut (pc := 43) C 89 dX5_unit_43 e43 rfl ?_
        refine V_ldc (pc := 89) (v := -1000003) C dX5_unit_89 wX5_unit_k2 ?_
        cases h
        subst hQ
        exact V_iretR C dX5_unit_91
      refine V_icmp_lt (pc := 21) C 42 dX5_unit_21 rfl (fun c21 => ?_) (fun c21 => ?_)
      · replace h := t_pos c21 h
        exact V_sub [3, 0] rfl (hJ42 h)
      · replace h := t_neg c21 h
        refine V_iload_n (pc := 24) C dX5_unit_24 rfl 3 rfl ?_
        refine V_bipush (pc := 25) (v := 18) C dX5_unit_25 rfl ?_
        refine V_icmp_ge (pc := 27) C 42 dX5_unit_27 rfl (fun c27 => ?_) (fun c27 => ?_)
        · replace h := t_pos c27 h
          exact V_sub [3, 0] rfl (hJ42 h)
        · replace h := t_neg c27 h
          refine V_aload_n (pc := 30) C dX5_unit_30 rfl 0 rfl ?_
          refine V_get (pc := 31) (v := .ref (a 37)) C 36 4 0 hiX5_unit_4 rfl rfl (by decide) wX5_unit_k3 rfl dX5_unit_31 ?_
          refine V_iload_n (pc := 34) C dX5_unit_34 rfl 3 rfl ?_
          refine V_bipush (pc := 35) (v := 10) C dX5_unit_35 rfl ?_
          refine V_isub (pc := 37) C dX5_unit_37 ?_
          obtain ⟨r38, hq, h⟩ := ob1_some h
          refine V_callVR (pc := 38) (rest := []) (st2 := [.int r38]) C (X2_at_ok (a := (a 37)) (b := (a 38)) hq) gX5_unit_X2_at rfl ⟨rfl, hdX2_at⟩ ⟨Nat.le_of_ble_eq_true rfl, Nat.le_of_ble_eq_true rfl⟩ ⟨Nat.le_refl _, Nat.le_refl _⟩ [37, 38] rfl 37 2 rfl rfl rfl (Nat.le_of_ble_eq_true rfl) dX5_unit_38 rfl ?_
          cases h
          subst hQ
          exact V_iretR C dX5_unit_41
    replace h := t_neg e16 h
    by_cases e16 : gU (Int32.toNatClampNeg p0) = some (a 39)
    · replace h := t_pos e16 h
      refine V_aald (pc := 16) C 3 3 rfl rfl b16 e16 dX5_unit_16 ?_
      refine V_astore_n (pc := 17) (lv' := [(3, .ref (a 39)), (0, .ref (a 0)), (1, .int p0), (2, .int p1)]) C dX5_unit_17 rfl (Nat.le_of_ble_eq_true rfl) rfl ?_
      refine V_iload_n (pc := 18) C dX5_unit_18 rfl 3 rfl ?_
      refine V_bipush (pc := 19) (v := 10) C dX5_unit_19 rfl ?_
      refine jn0_ok (P := (VW X D 4 Q (KR X) (0, 0) (wOff Y a q pg gS gU rd ft S U) [(2, .int p1), (3, .ref (a 39))] 42 [])) (fun h => ?_) (fun J42 hJ42 h => ?_) h
      · refine V_iload_n (pc := 42) C dX5_unit_42 rfl 0 rfl ?_
        by_cases e43_0 : p1 = 0
        · replace h := t_pos e43_0 h
          refine V_top (congrArg Value.int e43_0) ?_
          refine V_tableIn (pc := 43) C 68 dX5_unit_43 (by decide) (by decide) rfl rfl ?_
          refine V_aload_n (pc := 68) C dX5_unit_68 rfl 1 rfl ?_
          refine V_get (pc := 69) (v := .int (U 1).1) C 39 4 1 hiX5_unit_4 rfl rfl (by decide) wX5_unit_k5 rfl dX5_unit_69 ?_
          cases h
          subst hQ
          exact V_iretR C dX5_unit_72
        replace h := t_neg e43_0 h
        by_cases e43_1 : p1 = 1
        · replace h := t_pos e43_1 h
          refine V_top (congrArg Value.int e43_1) ?_
          refine V_tableIn (pc := 43) C 73 dX5_unit_43 (by decide) (by decide) rfl rfl ?_
          refine V_aload_n (pc := 73) C dX5_unit_73 rfl 1 rfl ?_
          refine V_get (pc := 74) (v := .ref (a 40)) C 39 4 0 hiX5_unit_4 rfl rfl (by decide) wX5_unit_k3 rfl dX5_unit_74 ?_
          obtain ⟨r77, hq, h⟩ := ob1_some h
          refine V_callVR (pc := 77) (rest := []) (st2 := [.int r77]) C (X2_size_ok (a := (a 40)) (b := (a 41)) hq) gX5_unit_X2_size rfl ⟨rfl, hdX2_size⟩ ⟨Nat.le_of_ble_eq_true rfl, Nat.le_of_ble_eq_true rfl⟩ ⟨Nat.le_refl _, Nat.le_refl _⟩ [40, 41] rfl 40 2 rfl rfl rfl (Nat.le_of_ble_eq_true rfl) dX5_unit_77 rfl ?_
          cases h
          subst hQ
          exact V_iretR C dX5_unit_80
        replace h := t_neg e43_1 h
        by_cases e43_2 : p1 = 2
        · replace h := t_pos e43_2 h
          refine V_top (congrArg Value.int e43_2) ?_
          refine V_tableIn (pc := 43) C 81 dX5_unit_43 (by decide) (by decide) rfl rfl ?_
          refine V_aload_n (pc := 81) C dX5_unit_81 rfl 1 rfl ?_
          refine V_get (pc := 82) (v := .ref (a 40)) C 39 4 0 hiX5_unit_4 rfl rfl (by decide) wX5_unit_k3 rfl dX5_unit_82 ?_
          obtain ⟨r85, hq, h⟩ := ob1_some h
          refine V_callVR (pc := 85) (rest := []) (st2 := [.int r85]) C (X2_total_ok (a := (a 40)) (b := (a 41)) hq) gX5_unit_X2_total rfl ⟨rfl, hdX2_total⟩ ⟨Nat.le_of_ble_eq_true rfl, Nat.le_of_ble_eq_true rfl⟩ ⟨Nat.le_refl _, Nat.le_refl _⟩ [40, 41] rfl 40 2 rfl rfl rfl (Nat.le_of_ble_eq_true rfl) dX5_unit_85 rfl ?_
          cases h
          subst hQ
          exact V_iretR C dX5_unit_88
        replace h := t_neg e43_2 h
        have e43 : Int32.toInt p1 < 0 ∨ 2 < Int32.toInt p1 := by have n0 := lv_neT (a := 0) e43_0 rfl; have n1 := lv_neT (a := 1) e43_1 rfl; have n2 := lv_neT (a := 2) e43_2 rfl; omega
        refine V_tableOut (pc := 43) C 89 dX5_unit_43 e43 rfl ?_
        refine V_ldc (pc := 89) (v := -1000003) C dX5_unit_89 wX5_unit_k2 ?_
        cases h
        subst hQ
        exact V_iretR C dX5_unit_91
      refine V_icmp_lt (pc := 21) C 42 dX5_unit_21 rfl (fun c21 => ?_) (fun c21 => ?_)
      · replace h := t_pos c21 h
        exact V_sub [3, 0] rfl (hJ42 h)
      · replace h := t_neg c21 h
        refine V_iload_n (pc := 24) C dX5_unit_24 rfl 3 rfl ?_
        refine V_bipush (pc := 25) (v := 18) C dX5_unit_25 rfl ?_
        refine V_icmp_ge (pc := 27) C 42 dX5_unit_27 rfl (fun c27 => ?_) (fun c27 => ?_)
        · replace h := t_pos c27 h
          exact V_sub [3, 0] rfl (hJ42 h)
        · replace h := t_neg c27 h
          refine V_aload_n (pc := 30) C dX5_unit_30 rfl 0 rfl ?_
          refine V_get (pc := 31) (v := .ref (a 40)) C 39 4 0 hiX5_unit_4 rfl rfl (by decide) wX5_unit_k3 rfl dX5_unit_31 ?_
          refine V_iload_n (pc := 34) C dX5_unit_34 rfl 3 rfl ?_
          refine V_bipush (pc := 35) (v := 10) C dX5_unit_35 rfl ?_
          refine V_isub (pc := 37) C dX5_unit_37 ?_
          obtain ⟨r38, hq, h⟩ := ob1_some h
          refine V_callVR (pc := 38) (rest := []) (st2 := [.int r38]) C (X2_at_ok (a := (a 40)) (b := (a 41)) hq) gX5_unit_X2_at rfl ⟨rfl, hdX2_at⟩ ⟨Nat.le_of_ble_eq_true rfl, Nat.le_of_ble_eq_true rfl⟩ ⟨Nat.le_refl _, Nat.le_refl _⟩ [40, 41] rfl 40 2 rfl rfl rfl (Nat.le_of_ble_eq_true rfl) dX5_unit_38 rfl ?_
          cases h
          subst hQ
          exact V_iretR C dX5_unit_41
    replace h := t_neg e16 h
    by_cases e16 : gU (Int32.toNatClampNeg p0) = some (a 42)
    · replace h := t_pos e16 h
      refine V_aald (pc := 16) C 3 3 rfl rfl b16 e16 dX5_unit_16 ?_
      refine V_astore_n (pc := 17) (lv' := [(3, .ref (a 42)), (0, .ref (a 0)), (1, .int p0), (2, .int p1)]) C dX5_unit_17 rfl (Nat.le_of_ble_eq_true rfl) rfl ?_
      refine V_iload_n (pc := 18) C dX5_unit_18 rfl 3 rfl ?_
      refine V_bipush (pc := 19) (v := 10) C dX5_unit_19 rfl ?_
      refine jn0_ok (P := (VW X D 4 Q (KR X) (0, 0) (wOff Y a q pg gS gU rd ft S U) [(2, .int p1), (3, .ref (a 42))] 42 [])) (fun h => ?_) (fun J42 hJ42 h => ?_) h
      · refine V_iload_n (pc := 42) C dX5_unit_42 rfl 0 rfl ?_
        by_cases e43_0 : p1 = 0
        · replace h := t_pos e43_0 h
          refine V_top (congrArg Value.int e43_0) ?_
          refine V_tableIn (pc := 43) C 68 dX5_unit_43 (by decide) (by decide) rfl rfl ?_
          refine V_aload_n (pc := 68) C dX5_unit_68 rfl 1 rfl ?_
          refine V_get (pc := 69) (v := .int (U 2).1) C 42 4 1 hiX5_unit_4 rfl rfl (by decide) wX5_unit_k5 rfl dX5_unit_69 ?_
          cases h
          subst hQ
          exact V_iretR C dX5_unit_72
        replace h := t_neg e43_0 h
        by_cases e43_1 : p1 = 1
        · replace h := t_pos e43_1 h
          refine V_top (congrArg Value.int e43_1) ?_
          refine V_tableIn (pc := 43) C 73 dX5_unit_43 (by decide) (by decide) rfl rfl ?_
          refine V_aload_n (pc := 73) C dX5_unit_73 rfl 1 rfl ?_
          refine V_get (pc := 74) (v := .ref (a 43)) C 42 4 0 hiX5_unit_4 rfl rfl (by decide) wX5_unit_k3 rfl dX5_unit_74 ?_
          obtain ⟨r77, hq, h⟩ := ob1_some h
          refine V_callVR (pc := 77) (rest := []) (st2 := [.int r77]) C (X2_size_ok (a := (a 43)) (b := (a 44)) hq) gX5_unit_X2_size rfl ⟨rfl, hdX2_size⟩ ⟨Nat.le_of_ble_eq_true rfl, Nat.le_of_ble_eq_true rfl⟩ ⟨Nat.le_refl _, Nat.le_refl _⟩ [43, 44] rfl 43 2 rfl rfl rfl (Nat.le_of_ble_eq_true rfl) dX5_unit_77 rfl ?_
          cases h
          subst hQ
          exact V_iretR C dX5_unit_80
        replace h := t_neg e43_1 h
        by_cases e43_2 : p1 = 2
        · replace h := t_pos e43_2 h
          refine V_top (congrArg Value.int e43_2) ?_
          refine V_tableIn (pc := 43) C 81 dX5_unit_43 (by decide) (by decide) rfl rfl ?_
          refine V_aload_n (pc := 81) C dX5_unit_81 rfl 1 rfl ?_
          refine V_get (pc := 82) (v := .ref (a 43)) C 42 4 0 hiX5_unit_4 rfl rfl (by decide) wX5_unit_k3 rfl dX5_unit_82 ?_
          obtain ⟨r85, hq, h⟩ := ob1_some h
          refine V_callVR (pc := 85) (rest := []) (st2 := [.int r85]) C (X2_total_ok (a := (a 43)) (b := (a 44)) hq) gX5_unit_X2_total rfl ⟨rfl, hdX2_total⟩ ⟨Nat.le_of_ble_eq_true rfl, Nat.le_of_ble_eq_true rfl⟩ ⟨Nat.le_refl _, Nat.le_refl _⟩ [43, 44] rfl 43 2 rfl rfl rfl (Nat.le_of_ble_eq_true rfl) dX5_unit_85 rfl ?_
          cases h
          subst hQ
          exact V_iretR C dX5_unit_88
        replace h := t_neg e43_2 h
        have e43 : Int32.toInt p1 < 0 ∨ 2 < Int32.toInt p1 := by have n0 := lv_neT (a := 0) e43_0 rfl; have n1 := lv_neT (a := 1) e43_1 rfl; have n2 := lv_neT (a := 2) e43_2 rfl; omega
        refine V_tableOut (pc := 43) C 89 dX5_unit_43 e43 rfl ?_
        refine V_ldc (pc := 89) (v := -1000003) C dX5_unit_89 wX5_unit_k2 ?_
        cases h
        subst hQ
        exact V_iretR C dX5_unit_91
      refine V_icmp_lt (pc := 21) C 42 dX5_unit_21 rfl (fun c21 => ?_) (fun c21 => ?_)
      · replace h := t_pos c21 h
        exact V_sub [3, 0] rfl (hJ42 h)
      · replace h := t_neg c21 h
        refine V_iload_n (pc := 24) C dX5_unit_24 rfl 3 rfl ?_
        refine V_bipush (pc := 25) (v := 18) C dX5_unit_25 rfl ?_
        refine V_icmp_ge (pc := 27) C 42 dX5_unit_27 rfl (fun c27 => ?_) (fun c27 => ?_)
        · replace h := t_pos c27 h
          exact V_sub [3, 0] rfl (hJ42 h)
        · replace h := t_neg c27 h
          refine V_aload_n (pc := 30) C dX5_unit_30 rfl 0 rfl ?_
          refine V_get (pc := 31) (v := .ref (a 43)) C 42 4 0 hiX5_unit_4 rfl rfl (by decide) wX5_unit_k3 rfl dX5_unit_31 ?_
          refine V_iload_n (pc := 34) C dX5_unit_34 rfl 3 rfl ?_
          refine V_bipush (pc := 35) (v := 10) C dX5_unit_35 rfl ?_
          refine V_isub (pc := 37) C dX5_unit_37 ?_
          obtain ⟨r38, hq, h⟩ := ob1_some h
          refine V_callVR (pc := 38) (rest := []) (st2 := [.int r38]) C (X2_at_ok (a := (a 43)) (b := (a 44)) hq) gX5_unit_X2_at rfl ⟨rfl, hdX2_at⟩ ⟨Nat.le_of_ble_eq_true rfl, Nat.le_of_ble_eq_true rfl⟩ ⟨Nat.le_refl _, Nat.le_refl _⟩ [43, 44] rfl 43 2 rfl rfl rfl (Nat.le_of_ble_eq_true rfl) dX5_unit_38 rfl ?_
          cases h
          subst hQ
          exact V_iretR C dX5_unit_41
    replace h := t_neg e16 h
    by_cases e16 : gU (Int32.toNatClampNeg p0) = some (a 45)
    · replace h := t_pos e16 h
      refine V_aald (pc := 16) C 3 3 rfl rfl b16 e16 dX5_unit_16 ?_
      refine V_astore_n (pc := 17) (lv' := [(3, .ref (a 45)), (0, .ref (a 0)), (1, .int p0), (2, .int p1)]) C dX5_unit_17 rfl (Nat.le_of_ble_eq_true rfl) rfl ?_
      refine V_iload_n (pc := 18) C dX5_unit_18 rfl 3 rfl ?_
      refine V_bipush (pc := 19) (v := 10) C dX5_unit_19 rfl ?_
      refine jn0_ok (P := (VW X D 4 Q (KR X) (0, 0) (wOff Y a q pg gS gU rd ft S U) [(2, .int p1), (3, .ref (a 45))] 42 [])) (fun h => ?_) (fun J42 hJ42 h => ?_) h
      · refine V_iload_n (pc := 42) C dX5_unit_42 rfl 0 rfl ?_
        by_cases e43_0 : p1 = 0
        · replace h := t_pos e43_0 h
          refine V_top (congrArg Value.int e43_0) ?_
          refine V_tableIn (pc := 43) C 68 dX5_unit_43 (by decide) (by decide) rfl rfl ?_
          refine V_aload_n (pc := 68) C dX5_unit_68 rfl 1 rfl ?_
          refine V_get (pc := 69) (v := .int (U 3).1) C 45 4 1 hiX5_unit_4 rfl rfl (by decide) wX5_unit_k5 rfl dX5_unit_69 ?_
          cases h
          subst hQ
          exact V_iretR C dX5_unit_72
        replace h := t_neg e43_0 h
        by_cases e43_1 : p1 = 1
        · replace h := t_pos e43_1 h
          refine V_top (congrArg Value.int e43_1) ?_
          refine V_tableIn (pc := 43) C 73 dX5_unit_43 (by decide) (by decide) rfl rfl ?_
          refine V_aload_n (pc := 73) C dX5_unit_73 rfl 1 rfl ?_
          refine V_get (pc := 74) (v := .ref (a 46)) C 45 4 0 hiX5_unit_4 rfl rfl (by decide) wX5_unit_k3 rfl dX5_unit_74 ?_
          obtain ⟨r77, hq, h⟩ := ob1_some h
          refine V_callVR (pc := 77) (rest := []) (st2 := [.int r77]) C (X2_size_ok (a := (a 46)) (b := (a 47)) hq) gX5_unit_X2_size rfl ⟨rfl, hdX2_size⟩ ⟨Nat.le_of_ble_eq_true rfl, Nat.le_of_ble_eq_true rfl⟩ ⟨Nat.le_refl _, Nat.le_refl _⟩ [46, 47] rfl 46 2 rfl rfl rfl (Nat.le_of_ble_eq_true rfl) dX5_unit_77 rfl ?_
          cases h
          subst hQ
          exact V_iretR C dX5_unit_80
        replace h := t_neg e43_1 h
        by_cases e43_2 : p1 = 2
        · replace h := t_pos e43_2 h
          refine V_top (congrArg Value.int e43_2) ?_
          refine V_tableIn (pc := 43) C 81 dX5_unit_43 (by decide) (by decide) rfl rfl ?_
          refine V_aload_n (pc := 81) C dX5_unit_81 rfl 1 rfl ?_
          refine V_get (pc := 82) (v := .ref (a 46)) C 45 4 0 hiX5_unit_4 rfl rfl (by decide) wX5_unit_k3 rfl dX5_unit_82 ?_
          obtain ⟨r85, hq, h⟩ := ob1_some h
          refine V_callVR (pc := 85) (rest := []) (st2 := [.int r85]) C (X2_total_ok (a := (a 46)) (b := (a 47)) hq) gX5_unit_X2_total rfl ⟨rfl, hdX2_total⟩ ⟨Nat.le_of_ble_eq_true rfl, Nat.le_of_ble_eq_true rfl⟩ ⟨Nat.le_refl _, Nat.le_refl _⟩ [46, 47] rfl 46 2 rfl rfl rfl (Nat.le_of_ble_eq_true rfl) dX5_unit_85 rfl ?_
          cases h
          subst hQ
          exact V_iretR C dX5_unit_88
        replace h := t_neg e43_2 h
        have e43 : Int32.toInt p1 < 0 ∨ 2 < Int32.toInt p1 := by have n0 := lv_neT (a := 0) e43_0 rfl; have n1 := lv_neT (a := 1) e43_1 rfl; have n2 := lv_neT (a := 2) e43_2 rfl; omega
        refine V_tableOut (pc := 43) C 89 dX5_unit_43 e43 rfl ?_
        refine V_ldc (pc := 89) (v := -1000003) C dX5_unit_89 wX5_unit_k2 ?_
        cases h
        subst hQ
        exact V_iretR C dX5_unit_91
      refine V_icmp_lt (pc := 21) C 42 dX5_unit_21 rfl (fun c21 => ?_) (fun c21 => ?_)
      · replace h := t_pos c21 h
        exact V_sub [3, 0] rfl (hJ42 h)
      · replace h := t_neg c21 h
        refine V_iload_n (pc := 24) C dX5_unit_24 rfl 3 rfl ?_
        refine V_bipush (pc := 25) (v := 18) C dX5_unit_25 rfl ?_
        refine V_icmp_ge (pc := 27) C 42 dX5_unit_27 rfl (fun c27 => ?_) (fun c27 => ?_)
        · replace h := t_pos c27 h
          exact V_sub [3, 0] rfl (hJ42 h)
        · replace h := t_neg c27 h
          refine V_aload_n (pc := 30) C dX5_unit_30 rfl 0 rfl ?_
          refine V_get (pc := 31) (v := .ref (a 46)) C 45 4 0 hiX5_unit_4 rfl rfl (by decide) wX5_unit_k3 rfl dX5_unit_31 ?_
          refine V_iload_n (pc := 34) C dX5_unit_34 rfl 3 rfl ?_
          refine V_bipush (pc := 35) (v := 10) C dX5_unit_35 rfl ?_
          refine V_isub (pc := 37) C dX5_unit_37 ?_
          obtain ⟨r38, hq, h⟩ := ob1_some h
          refine V_callVR (pc := 38) (rest := []) (st2 := [.int r38]) C (X2_at_ok (a := (a 46)) (b := (a 47)) hq) gX5_unit_X2_at rfl ⟨rfl, hdX2_at⟩ ⟨Nat.le_of_ble_eq_true rfl, Nat.le_of_ble_eq_true rfl⟩ ⟨Nat.le_refl _, Nat.le_refl _⟩ [46, 47] rfl 46 2 rfl rfl rfl (Nat.le_of_ble_eq_true rfl) dX5_unit_38 rfl ?_
          cases h
          subst hQ
          exact V_iretR C dX5_unit_41
    replace h := t_neg e16 h
    cases h
  · replace h := t_pos c5 h
    refine V_ldc (pc := 8) (v := -1000002) C dX5_unit_8 wX5_unit_k6 ?_
    cases h
    subst hQ
    exact V_iretR C dX5_unit_10
def X5_isTick (p0 : Int32) : Option (Int32) :=
  if p0 < 0 then (some (0 : Int32)) else (if (20 : Int32) < p0 then (some (0 : Int32)) else (some (1 : Int32)))
theorem hdX5_isTick : yX5_isTick.cls ≠ "java/lang/invoke/MethodHandle" ∧ yX5_isTick.cls ≠ "java/lang/invoke/VarHandle" ∧ (parseMethodDescriptor yX5_isTick.desc).map (fun d => d.parameters.length) = some 1 := by decide +kernel
set_option maxHeartbeats 4000000 in
set_option maxRecDepth 100000 in
theorem X5_isTick_ok {l : Launch} {D : va_G} {Y : Nat → ClassId}  {p0 : Int32} {r : Int32} (h : X5_isTick p0 = some r) : MR l yX5_isTick wsX5_isTick 0 0 D Y [.int p0] ([]) (some (.int r)) := by
  refine MR_of (cc := cX5_isTick) (nL := 1) (ret := some .boolean) (lv0 := [(0, .int p0)]) (by decide) rfl (Nat.le_of_ble_eq_true rfl) rfl (fun X Q C hQ => ?_)
  unfold X5_isTick at h
  refine V_iload_n (pc := 0) C dX5_isTick_0 rfl 0 rfl ?_
  refine V_if_lt (pc := 1) C 14 dX5_isTick_1 rfl (fun c1 => ?_) (fun c1 => ?_)
  · replace h := t_pos c1 h
    refine V_iconst (pc := 14) (v := 0) C dX5_isTick_14 rfl ?_
    cases h
    subst hQ
    exact V_zretR C (by decide) dX5_isTick_15
  · replace h := t_neg c1 h
    refine V_iload_n (pc := 4) C dX5_isTick_4 rfl 0 rfl ?_
    refine V_bipush (pc := 5) (v := 20) C dX5_isTick_5 rfl ?_
    refine V_icmp_gt (pc := 7) C 14 dX5_isTick_7 rfl (fun c7 => ?_) (fun c7 => ?_)
    · replace h := t_pos c7 h
      refine V_iconst (pc := 14) (v := 0) C dX5_isTick_14 rfl ?_
      cases h
      subst hQ
      exact V_zretR C (by decide) dX5_isTick_15
    · replace h := t_neg c7 h
      refine V_iconst (pc := 10) (v := 1) C dX5_isTick_10 rfl ?_
      refine V_goto (pc := 11) C 15 dX5_isTick_11 rfl ?_
      cases h
      subst hQ
      exact V_zretR C (by decide) dX5_isTick_15
def X5_made (a : Nat → Nat) (q : Nat → Int32) (pg : Nat → Int32) (gS : Nat → Option Nat) (gU : Nat → Option Nat) (rd : RdT) (ft : FtT) (S : Nat → StT) (U : Nat → UnT) (p0 : Int32) (p1 : Int32) (p2 : Int32) : Option (Int32) :=
  ob1 (X5_hasUnit a q pg gS gU rd ft S U p0) fun r2 =>
  if r2 = 0 then (some (-1000002 : Int32)) else (ob1 (X5_hasStorm a q pg gS gU rd ft S U p1) fun r10 =>
  if r10 = 0 then (some (-1000002 : Int32)) else (ob1 (X5_isTick p2) fun r20 =>
  if r20 = 0 then (some (-1000003 : Int32)) else (chk (inB p1 3) (if gS (Int32.toNatClampNeg p1) = some (a 15) then (chk (inB p0 4) (if gU (Int32.toNatClampNeg p0) = some (a 36) then (ob1 (X3_rainTimes ((S 0).1) ((S 0).2.1) ((S 0).2.2.1) ((S 0).2.2.2.1) ((S 0).2.2.2.2.1) ((S 0).2.2.2.2.2.1) ((S 0).2.2.2.2.2.2) ((U 0).2.1) ((U 0).2.2) p2) fun r45 =>
  some r45) else (if gU (Int32.toNatClampNeg p0) = some (a 39) then (ob1 (X3_rainTimes ((S 0).1) ((S 0).2.1) ((S 0).2.2.1) ((S 0).2.2.2.1) ((S 0).2.2.2.2.1) ((S 0).2.2.2.2.2.1) ((S 0).2.2.2.2.2.2) ((U 1).2.1) ((U 1).2.2) p2) fun r45 =>
  some r45) else (if gU (Int32.toNatClampNeg p0) = some (a 42) then (ob1 (X3_rainTimes ((S 0).1) ((S 0).2.1) ((S 0).2.2.1) ((S 0).2.2.2.1) ((S 0).2.2.2.2.1) ((S 0).2.2.2.2.2.1) ((S 0).2.2.2.2.2.2) ((U 2).2.1) ((U 2).2.2) p2) fun r45 =>
  some r45) else (if gU (Int32.toNatClampNeg p0) = some (a 45) then (ob1 (X3_rainTimes ((S 0).1) ((S 0).2.1) ((S 0).2.2.1) ((S 0).2.2.2.1) ((S 0).2.2.2.2.1) ((S 0).2.2.2.2.2.1) ((S 0).2.2.2.2.2.2) ((U 3).2.1) ((U 3).2.2) p2) fun r45 =>
  some r45) else (none)))))) else (if gS (Int32.toNatClampNeg p1) = some (a 22) then (chk (inB p0 4) (if gU (Int32.toNatClampNeg p0) = some (a 36) then (ob1 (X3_rainTimes ((S 1).1) ((S 1).2.1) ((S 1).2.2.1) ((S 1).2.2.2.1) ((S 1).2.2.2.2.1) ((S 1).2.2.2.2.2.1) ((S 1).2.2.2.2.2.2) ((U 0).2.1) ((U 0).2.2) p2) fun r45 =>
  some r45) else (if gU (Int32.toNatClampNeg p0) = some (a 39) then (ob1 (X3_rainTimes ((S 1).1) ((S 1).2.1) ((S 1).2.2.1) ((S 1).2.2.2.1) ((S 1).2.2.2.2.1) ((S 1).2.2.2.2.2.1) ((S 1).2.2.2.2.2.2) ((U 1).2.1) ((U 1).2.2) p2) fun r45 =>
  some r45) else (if gU (Int32.toNatClampNeg p0) = some (a 42) then (ob1 (X3_rainTimes ((S 1).1) ((S 1).2.1) ((S 1).2.2.1) ((S 1).2.2.2.1) ((S 1).2.2.2.2.1) ((S 1).2.2.2.2.2.1) ((S 1).2.2.2.2.2.2) ((U 2).2.1) ((U 2).2.2) p2) fun r45 =>
  some r45) else (if gU (Int32.toNatClampNeg p0) = some (a 45) then (ob1 (X3_rainTimes ((S 1).1) ((S 1).2.1) ((S 1).2.2.1) ((S 1).2.2.2.1) ((S 1).2.2.2.2.1) ((S 1).2.2.2.2.2.1) ((S 1).2.2.2.2.2.2) ((U 3).2.1) ((U 3).2.2) p2) fun r45 =>
  some r45) else (none)))))) else (if gS (Int32.toNatClampNeg p1) = some (a 29) then (chk (inB p0 4) (if gU (Int32.toNatClampNeg p0) = some (a 36) then (ob1 (X3_rainTimes ((S 2).1) ((S 2).2.1) ((S 2).2.2.1) ((S 2).2.2.2.1) ((S 2).2.2.2.2.1) ((S 2).2.2.2.2.2.1) ((S 2).2.2.2.2.2.2) ((U 0).2.1) ((U 0).2.2) p2) fun r45 =>
  some r45) else (if gU (Int32.toNatClampNeg p0) = some (a 39) then (ob1 (X3_rainTimes ((S 2).1) ((S 2).2.1) ((S 2).2.2.1) ((S 2).2.2.2.1) ((S 2).2.2.2.2.1) ((S 2).2.2.2.2.2.1) ((S 2).2.2.2.2.2.2) ((U 1).2.1) ((U 1).2.2) p2) fun r45 =>
  some r45) else (if gU (Int32.toNatClampNeg p0) = some (a 42) then (ob1 (X3_rainTimes ((S 2).1) ((S 2).2.1) ((S 2).2.2.1) ((S 2).2.2.2.1) ((S 2).2.2.2.2.1) ((S 2).2.2.2.2.2.1) ((S 2).2.2.2.2.2.2) ((U 2).2.1) ((U 2).2.2) p2) fun r45 =>
  some r45) else (if gU (Int32.toNatClampNeg p0) = some (a 45) then (ob1 (X3_rainTimes ((S 2).1) ((S 2).2.1) ((S 2).2.2.1) ((S 2).2.2.2.1) ((S 2).2.2.2.2.1) ((S 2).2.2.2.2.2.1) ((S 2).2.2.2.2.2.2) ((U 3).2.1) ((U 3).2.2) p2) fun r45 =>
  some r45) else (none)))))) else (none)))))))
theorem wX5_made_k0 : Cond.constant RX5 80 (-1000002) ∈ wsX5_made := by decide +kernel
theorem wX5_made_k1 : Cond.fieldLink RX5 15 (TX5 1).1 (TX5 1).2.1 (TX5 1).2.2.1 ∈ wsX5_made := by decide +kernel
theorem hiX5_made_5 : ∀ w ∈ u_ws RX5 TX5 11, w ∈ wsX5_made := fun _ h => List.mem_cons_of_mem _ (List.mem_append_left _ (List.mem_append_left _ (List.mem_append_left _ (List.mem_append_right _ h))))
theorem wX5_made_k3 : Cond.fieldLink RX5 21 (TX5 2).1 (TX5 2).2.1 (TX5 2).2.2.1 ∈ wsX5_made := by decide +kernel
theorem wX5_made_k4 : Cond.fieldLink RX5 109 (TX4 0).1 (TX4 0).2.1 (TX4 0).2.2.1 ∈ wsX5_made := by decide +kernel
theorem hiX5_made_4 : ∀ w ∈ u_ws RX4 TX4 2, w ∈ wsX5_made := fun _ h => List.mem_cons_of_mem _ (List.mem_append_left _ (List.mem_append_left _ (List.mem_append_right _ h)))
theorem wX5_made_k6 : Cond.constant RX5 41 (-1000003) ∈ wsX5_made := by decide +kernel
theorem hdX5_made : yX5_made.cls ≠ "java/lang/invoke/MethodHandle" ∧ yX5_made.cls ≠ "java/lang/invoke/VarHandle" ∧ (parseMethodDescriptor yX5_made.desc).map (fun d => d.parameters.length) = some 3 := by decide +kernel
set_option maxHeartbeats 4000000 in
set_option maxRecDepth 100000 in
theorem X5_made_ok {l : Launch} {D : va_G} {Y : Nat → ClassId}  {a : Nat → Nat} {q : Nat → Int32} {pg : Nat → Int32} {gS : Nat → Option Nat} {gU : Nat → Option Nat} {rd : RdT} {ft : FtT} {S : Nat → StT} {U : Nat → UnT} {p0 : Int32} {p1 : Int32} {p2 : Int32} {r : Int32} (h : X5_made a q pg gS gU rd ft S U p0 p1 p2 = some r) : MR l yX5_made wsX5_made 2 45 D Y [.ref (a 0), .int p0, .int p1, .int p2] (wOff Y a q pg gS gU rd ft S U) (some (.int r)) := by
  refine MR_of (cc := cX5_made) (nL := 4) (ret := some .int) (lv0 := [(0, .ref (a 0)), (1, .int p0), (2, .int p1), (3, .int p2)]) (by decide) rfl (Nat.le_of_ble_eq_true rfl) rfl (fun X Q C hQ => ?_)
  unfold X5_made at h
  refine V_aload_n (pc := 0) C dX5_made_0 rfl 0 rfl ?_
  refine V_iload_n (pc := 1) C dX5_made_1 rfl 1 rfl ?_
  obtain ⟨r2, hq, h⟩ := ob1_some h
  refine V_callVR0 (pc := 2) (rest := []) (st2 := [.int r2]) C (X5_hasUnit_ok (a := a) hq) gX5_made_X5_hasUnit rfl ⟨rfl, hdX5_hasUnit⟩ ⟨Nat.le_of_ble_eq_true rfl, Nat.le_of_ble_eq_true rfl⟩ ⟨Nat.le_refl _, Nat.le_refl _⟩ 0 5 rfl rfl rfl (Nat.le_of_ble_eq_true rfl) dX5_made_2 rfl ?_
  refine V_if_eq (pc := 5) C 16 dX5_made_5 rfl (fun c5 => ?_) (fun c5 => ?_)
  · replace h := t_pos c5 h
    refine V_ldc (pc := 16) (v := -1000002) C dX5_made_16 wX5_made_k0 ?_
    cases h
    subst hQ
    exact V_iretR C dX5_made_18
  · replace h := t_neg c5 h
    refine V_aload_n (pc := 8) C dX5_made_8 rfl 0 rfl ?_
    refine V_iload_n (pc := 9) C dX5_made_9 rfl 2 rfl ?_
    obtain ⟨r10, hq, h⟩ := ob1_some h
    refine V_callVR0 (pc := 10) (rest := []) (st2 := [.int r10]) C (X5_hasStorm_ok (a := a) hq) gX5_made_X5_hasStorm rfl ⟨rfl, hdX5_hasStorm⟩ ⟨Nat.le_of_ble_eq_true rfl, Nat.le_of_ble_eq_true rfl⟩ ⟨Nat.le_refl _, Nat.le_refl _⟩ 0 5 rfl rfl rfl (Nat.le_of_ble_eq_true rfl) dX5_made_10 rfl ?_
    refine V_if_ne (pc := 13) C 19 dX5_made_13 rfl (fun c13 => ?_) (fun c13 => ?_)
    · replace h := t_neg c13 h
      refine V_iload_n (pc := 19) C dX5_made_19 rfl 3 rfl ?_
      obtain ⟨r20, hq, h⟩ := ob1_some h
      refine V_callSR (pc := 20) (rest := []) (st2 := [.int r20]) C (X5_isTick_ok hq) gX5_made_X5_isTick rfl hdX5_isTick ⟨Nat.le_of_ble_eq_true rfl, Nat.le_of_ble_eq_true rfl⟩ ⟨Nat.le_refl _, Nat.le_refl _⟩ [] rfl rfl (Nat.le_of_ble_eq_true rfl) dX5_made_20 rfl ?_
      refine V_if_ne (pc := 23) C 29 dX5_made_23 rfl (fun c23 => ?_) (fun c23 => ?_)
      · replace h := t_neg c23 h
        refine V_aload_n (pc := 29) C dX5_made_29 rfl 0 rfl ?_
        refine V_get (pc := 30) (v := .ref (a 2)) C 0 5 1 hiX5_made_5 rfl rfl (by decide) wX5_made_k1 rfl dX5_made_30 ?_
        refine V_iload_n (pc := 33) C dX5_made_33 rfl 2 rfl ?_
        obtain ⟨b34, h⟩ := chk_some h
        by_cases e34 : gS (Int32.toNatClampNeg p1) = some (a 15)
        · replace h := t_pos e34 h
          refine V_aald (pc := 34) C 2 2 rfl rfl b34 e34 dX5_made_34 ?_
          refine V_aload_n (pc := 35) C dX5_made_35 rfl 0 rfl ?_
          refine V_get (pc := 36) (v := .ref (a 3)) C 0 5 2 hiX5_made_5 rfl rfl (by decide) wX5_made_k3 rfl dX5_made_36 ?_
          refine V_iload_n (pc := 39) C dX5_made_39 rfl 1 rfl ?_
          obtain ⟨b40, h⟩ := chk_some h
          by_cases e40 : gU (Int32.toNatClampNeg p0) = some (a 36)
          · replace h := t_pos e40 h
            refine V_aald (pc := 40) C 3 3 rfl rfl b40 e40 dX5_made_40 ?_
            refine V_get (pc := 41) (v := .ref (a 37)) C 36 4 0 hiX5_made_4 rfl rfl (by decide) wX5_made_k4 rfl dX5_made_41 ?_
            refine V_iload_n (pc := 44) C dX5_made_44 rfl 3 rfl ?_
            obtain ⟨r45, hq, h⟩ := ob1_some h
            refine V_callVR (pc := 45) (rest := []) (st2 := [.int r45]) C (X3_rainTimes_ok (a := (sh a 15)) (ax2 := (a 37)) (bx2 := (a 38)) hq) gX5_made_X3_rainTimes rfl ⟨rfl, hdX3_rainTimes⟩ ⟨Nat.le_of_ble_eq_true rfl, Nat.le_of_ble_eq_true rfl⟩ ⟨Nat.le_refl _, Nat.le_refl _⟩ [15, 16, 17, 18, 19, 20, 21, 37, 38] rfl 15 3 rfl rfl rfl (Nat.le_of_ble_eq_true rfl) dX5_made_45 rfl ?_
            cases h
            subst hQ
            exact V_iretR C dX5_made_48
          replace h := t_neg e40 h
          by_cases e40 : gU (Int32.toNatClampNeg p0) = some (a 39)
          · replace h := t_pos e40 h
            refine V_aald (pc := 40) C 3 3 rfl rfl b40 e40 dX5_made_40 ?_
            refine V_get (pc := 41) (v := .ref (a 40)) C 39 4 0 hiX5_made_4 rfl rfl (by decide) wX5_made_k4 rfl dX5_made_41 ?_
            refine V_iload_n (pc := 44) C dX5_made_44 rfl 3 rfl ?_
            obtain ⟨r45, hq, h⟩ := ob1_some h
            refine V_callVR (pc := 45) (rest := []) (st2 := [.int r45]) C (X3_rainTimes_ok (a := (sh a 15)) (ax2 := (a 40)) (bx2 := (a 41)) hq) gX5_made_X3_rainTimes rfl ⟨rfl, hdX3_rainTimes⟩ ⟨Nat.le_of_ble_eq_true rfl, Nat.le_of_ble_eq_true rfl⟩ ⟨Nat.le_refl _, Nat.le_refl _⟩ [15, 16, 17, 18, 19, 20, 21, 40, 41] rfl 15 3 rfl rfl rfl (Nat.le_of_ble_eq_true rfl) dX5_made_45 rfl ?_
            cases h
            subst hQ
            exact V_iretR C dX5_made_48
          replace h := t_neg e40 h
          by_cases e40 : gU (Int32.toNatClampNeg p0) = some (a 42)
          · replace h := t_pos e40 h
            refine V_aald (pc := 40) C 3 3 rfl rfl b40 e40 dX5_made_40 ?_
            refine V_get (pc := 41) (v := .ref (a 43)) C 42 4 0 hiX5_made_4 rfl rfl (by decide) wX5_made_k4 rfl dX5_made_41 ?_
            refine V_iload_n (pc := 44) C dX5_made_44 rfl 3 rfl ?_
            obtain ⟨r45, hq, h⟩ := ob1_some h
            refine V_callVR (pc := 45) (rest := []) (st2 := [.int r45]) C (X3_rainTimes_ok (a := (sh a 15)) (ax2 := (a 43)) (bx2 := (a 44)) hq) gX5_made_X3_rainTimes rfl ⟨rfl, hdX3_rainTimes⟩ ⟨Nat.le_of_ble_eq_true rfl, Nat.le_of_ble_eq_true rfl⟩ ⟨Nat.le_refl _, Nat.le_refl _⟩ [15, 16, 17, 18, 19, 20, 21, 43, 44] rfl 15 3 rfl rfl rfl (Nat.le_of_ble_eq_true rfl) dX5_made_45 rfl ?_
            cases h
            subst hQ
            exact V_iretR C dX5_made_48
          replace h := t_neg e40 h
          by_cases e40 : gU (Int32.toNatClampNeg p0) = some (a 45)
          · replace h := t_pos e40 h
            refine V_aald (pc := 40) C 3 3 rfl rfl b40 e40 dX5_made_40 ?_
            refine V_get (pc := 41) (v := .ref (a 46)) C 45 4 0 hiX5_made_4 rfl rfl (by decide) wX5_made_k4 rfl dX5_made_41 ?_
            refine V_iload_n (pc := 44) C dX5_made_44 rfl 3 rfl ?_
            obtain ⟨r45, hq, h⟩ := ob1_some h
            refine V_callVR (pc := 45) (rest := []) (st2 := [.int r45]) C (X3_rainTimes_ok (a := (sh a 15)) (ax2 := (a 46)) (bx2 := (a 47)) hq) gX5_made_X3_rainTimes rfl ⟨rfl, hdX3_rainTimes⟩ ⟨Nat.le_of_ble_eq_true rfl, Nat.le_of_ble_eq_true rfl⟩ ⟨Nat.le_refl _, Nat.le_refl _⟩ [15, 16, 17, 18, 19, 20, 21, 46, 47] rfl 15 3 rfl rfl rfl (Nat.le_of_ble_eq_true rfl) dX5_made_45 rfl ?_
            cases h
            subst hQ
            exact V_iretR C dX5_made_48
          replace h := t_neg e40 h
          cases h
        replace h := t_neg e34 h
        by_cases e34 : gS (Int32.toNatClampNeg p1) = some (a 22)
        · replace h := t_pos e34 h
          refine V_aald (pc := 34) C 2 2 rfl rfl b34 e34 dX5_made_34 ?_
          refine V_aload_n (pc := 35) C dX5_made_35 rfl 0 rfl ?_
          refine V_get (pc := 36) (v := .ref (a 3)) C 0 5 2 hiX5_made_5 rfl rfl (by decide) wX5_made_k3 rfl dX5_made_36 ?_
          refine V_iload_n (pc := 39) C dX5_made_39 rfl 1 rfl ?_
          obtain ⟨b40, h⟩ := chk_some h
          by_cases e40 : gU (Int32.toNatClampNeg p0) = some (a 36)
          · replace h := t_pos e40 h
            refine V_aald (pc := 40) C 3 3 rfl rfl b40 e40 dX5_made_40 ?_
            refine V_get (pc := 41) (v := .ref (a 37)) C 36 4 0 hiX5_made_4 rfl rfl (by decide) wX5_made_k4 rfl dX5_made_41 ?_
            refine V_iload_n (pc := 44) C dX5_made_44 rfl 3 rfl ?_
            obtain ⟨r45, hq, h⟩ := ob1_some h
            refine V_callVR (pc := 45) (rest := []) (st2 := [.int r45]) C (X3_rainTimes_ok (a := (sh a 22)) (ax2 := (a 37)) (bx2 := (a 38)) hq) gX5_made_X3_rainTimes rfl ⟨rfl, hdX3_rainTimes⟩ ⟨Nat.le_of_ble_eq_true rfl, Nat.le_of_ble_eq_true rfl⟩ ⟨Nat.le_refl _, Nat.le_refl _⟩ [22, 23, 24, 25, 26, 27, 28, 37, 38] rfl 22 3 rfl rfl rfl (Nat.le_of_ble_eq_true rfl) dX5_made_45 rfl ?_
            cases h
            subst hQ
            exact V_iretR C dX5_made_48
          replace h := t_neg e40 h
          by_cases e40 : gU (Int32.toNatClampNeg p0) = some (a 39)
          · replace h := t_pos e40 h
            refine V_aald (pc := 40) C 3 3 rfl rfl b40 e40 dX5_made_40 ?_
            refine V_get (pc := 41) (v := .ref (a 40)) C 39 4 0 hiX5_made_4 rfl rfl (by decide) wX5_made_k4 rfl dX5_made_41 ?_
            refine V_iload_n (pc := 44) C dX5_made_44 rfl 3 rfl ?_
            obtain ⟨r45, hq, h⟩ := ob1_some h
            refine V_callVR (pc := 45) (rest := []) (st2 := [.int r45]) C (X3_rainTimes_ok (a := (sh a 22)) (ax2 := (a 40)) (bx2 := (a 41)) hq) gX5_made_X3_rainTimes rfl ⟨rfl, hdX3_rainTimes⟩ ⟨Nat.le_of_ble_eq_true rfl, Nat.le_of_ble_eq_true rfl⟩ ⟨Nat.le_refl _, Nat.le_refl _⟩ [22, 23, 24, 25, 26, 27, 28, 40, 41] rfl 22 3 rfl rfl rfl (Nat.le_of_ble_eq_true rfl) dX5_made_45 rfl ?_
            cases h
            subst hQ
            exact V_iretR C dX5_made_48
          replace h := t_neg e40 h
          by_cases e40 : gU (Int32.toNatClampNeg p0) = some (a 42)
          · replace h := t_pos e40 h
            refine V_aald (pc := 40) C 3 3 rfl rfl b40 e40 dX5_made_40 ?_
            refine V_get (pc := 41) (v := .ref (a 43)) C 42 4 0 hiX5_made_4 rfl rfl (by decide) wX5_made_k4 rfl dX5_made_41 ?_
            refine V_iload_n (pc := 44) C dX5_made_44 rfl 3 rfl ?_
            obtain ⟨r45, hq, h⟩ := ob1_some h
            refine V_callVR (pc := 45) (rest := []) (st2 := [.int r45]) C (X3_rainTimes_ok (a := (sh a 22)) (ax2 := (a 43)) (bx2 := (a 44)) hq) gX5_made_X3_rainTimes rfl ⟨rfl, hdX3_rainTimes⟩ ⟨Nat.le_of_ble_eq_true rfl, Nat.le_of_ble_eq_true rfl⟩ ⟨Nat.le_refl _, Nat.le_refl _⟩ [22, 23, 24, 25, 26, 27, 28, 43, 44] rfl 22 3 rfl rfl rfl (Nat.le_of_ble_eq_true rfl) dX5_made_45 rfl ?_
            cases h
            subst hQ
            exact V_iretR C dX5_made_48
          replace h := t_neg e40 h
          by_cases e40 : gU (Int32.toNatClampNeg p0) = some (a 45)
          · replace h := t_pos e40 h
            refine V_aald (pc := 40) C 3 3 rfl rfl b40 e40 dX5_made_40 ?_
            refine V_get (pc := 41) (v := .ref (a 46)) C 45 4 0 hiX5_made_4 rfl rfl (by decide) wX5_made_k4 rfl dX5_made_41 ?_
            refine V_iload_n (pc := 44) C dX5_made_44 rfl 3 rfl ?_
            obtain ⟨r45, hq, h⟩ := ob1_some h
            refine V_callVR (pc := 45) (rest := []) (st2 := [.int r45]) C (X3_rainTimes_ok (a := (sh a 22)) (ax2 := (a 46)) (bx2 := (a 47)) hq) gX5_made_X3_rainTimes rfl ⟨rfl, hdX3_rainTimes⟩ ⟨Nat.le_of_ble_eq_true rfl, Nat.le_of_ble_eq_true rfl⟩ ⟨Nat.le_refl _, Nat.le_refl _⟩ [22, 23, 24, 25, 26, 27, 28, 46, 47] rfl 22 3 rfl rfl rfl (Nat.le_of_ble_eq_true rfl) dX5_made_45 rfl ?_
            cases h
            subst hQ
            exact V_iretR C dX5_made_48
          replace h := t_neg e40 h
          cases h
        replace h := t_neg e34 h
        by_cases e34 : gS (Int32.toNatClampNeg p1) = some (a 29)
        · replace h := t_pos e34 h
          refine V_aald (pc := 34) C 2 2 rfl rfl b34 e34 dX5_made_34 ?_
          refine V_aload_n (pc := 35) C dX5_made_35 rfl 0 rfl ?_
          refine V_get (pc := 36) (v := .ref (a 3)) C 0 5 2 hiX5_made_5 rfl rfl (by decide) wX5_made_k3 rfl dX5_made_36 ?_
          refine V_iload_n (pc := 39) C dX5_made_39 rfl 1 rfl ?_
          obtain ⟨b40, h⟩ := chk_some h
          by_cases e40 : gU (Int32.toNatClampNeg p0) = some (a 36)
          · replace h := t_pos e40 h
            refine V_aald (pc := 40) C 3 3 rfl rfl b40 e40 dX5_made_40 ?_
            refine V_get (pc := 41) (v := .ref (a 37)) C 36 4 0 hiX5_made_4 rfl rfl (by decide) wX5_made_k4 rfl dX5_made_41 ?_
            refine V_iload_n (pc := 44) C dX5_made_44 rfl 3 rfl ?_
            obtain ⟨r45, hq, h⟩ := ob1_some h
            refine V_callVR (pc := 45) (rest := []) (st2 := [.int r45]) C (X3_rainTimes_ok (a := (sh a 29)) (ax2 := (a 37)) (bx2 := (a 38)) hq) gX5_made_X3_rainTimes rfl ⟨rfl, hdX3_rainTimes⟩ ⟨Nat.le_of_ble_eq_true rfl, Nat.le_of_ble_eq_true rfl⟩ ⟨Nat.le_refl _, Nat.le_refl _⟩ [29, 30, 31, 32, 33, 34, 35, 37, 38] rfl 29 3 rfl rfl rfl (Nat.le_of_ble_eq_true rfl) dX5_made_45 rfl ?_
            cases h
            subst hQ
            exact V_iretR C dX5_made_48
          replace h := t_neg e40 h
          by_cases e40 : gU (Int32.toNatClampNeg p0) = some (a 39)
          · replace h := t_pos e40 h
            refine V_aald (pc := 40) C 3 3 rfl rfl b40 e40 dX5_made_40 ?_
            refine V_get (pc := 41) (v := .ref (a 40)) C 39 4 0 hiX5_made_4 rfl rfl (by decide) wX5_made_k4 rfl dX5_made_41 ?_
            refine V_iload_n (pc := 44) C dX5_made_44 rfl 3 rfl ?_
            obtain ⟨r45, hq, h⟩ := ob1_some h
            refine V_callVR (pc := 45) (rest := []) (st2 := [.int r45]) C (X3_rainTimes_ok (a := (sh a 29)) (ax2 := (a 40)) (bx2 := (a 41)) hq) gX5_made_X3_rainTimes rfl ⟨rfl, hdX3_rainTimes⟩ ⟨Nat.le_of_ble_eq_true rfl, Nat.le_of_ble_eq_true rfl⟩ ⟨Nat.le_refl _, Nat.le_refl _⟩ [29, 30, 31, 32, 33, 34, 35, 40, 41] rfl 29 3 rfl rfl rfl (Nat.le_of_ble_eq_true rfl) dX5_made_45 rfl ?_
            cases h
            subst hQ
            exact V_iretR C dX5_made_48
          replace h := t_neg e40 h
          by_cases e40 : gU (Int32.toNatClampNeg p0) = some (a 42)
          · replace h := t_pos e40 h
            refine V_aald (pc := 40) C 3 3 rfl rfl b40 e40 dX5_made_40 ?_
            refine V_get (pc := 41) (v := .ref (a 43)) C 42 4 0 hiX5_made_4 rfl rfl (by decide) wX5_made_k4 rfl dX5_made_41 ?_
            refine V_iload_n (pc := 44) C dX5_made_44 rfl 3 rfl ?_
            obtain ⟨r45, hq, h⟩ := ob1_some h
            refine V_callVR (pc := 45) (rest := []) (st2 := [.int r45]) C (X3_rainTimes_ok (a := (sh a 29)) (ax2 := (a 43)) (bx2 := (a 44)) hq) gX5_made_X3_rainTimes rfl ⟨rfl, hdX3_rainTimes⟩ ⟨Nat.le_of_ble_eq_true rfl, Nat.le_of_ble_eq_true rfl⟩ ⟨Nat.le_refl _, Nat.le_refl _⟩ [29, 30, 31, 32, 33, 34, 35, 43, 44] rfl 29 3 rfl rfl rfl (Nat.le_of_ble_eq_true rfl) dX5_made_45 rfl ?_
            cases h
            subst hQ
            exact V_iretR C dX5_made_48
          replace h := t_neg e40 h
          by_cases e40 : gU (Int32.toNatClampNeg p0) = some (a 45)
          · replace h := t_pos e40 h
            refine V_aald (pc := 40) C 3 3 rfl rfl b40 e40 dX5_made_40 ?_
            refine V_get (pc := 41) (v := .ref (a 46)) C 45 4 0 hiX5_made_4 rfl rfl (by decide) wX5_made_k4 rfl dX5_made_41 ?_
            refine V_iload_n (pc := 44) C dX5_made_44 rfl 3 rfl ?_
            obtain ⟨r45, hq, h⟩ := ob1_some h
            refine V_callVR (pc := 45) (rest := []) (st2 := [.int r45]) C (X3_rainTimes_ok (a := (sh a 29)) (ax2 := (a 46)) (bx2 := (a 47)) hq) gX5_made_X3_rainTimes rfl ⟨rfl, hdX3_rainTimes⟩ ⟨Nat.le_of_ble_eq_true rfl, Nat.le_of_ble_eq_true rfl⟩ ⟨Nat.le_refl _, Nat.le_refl _⟩ [29, 30, 31, 32, 33, 34, 35, 46, 47] rfl 29 3 rfl rfl rfl (Nat.le_of_ble_eq_true rfl) dX5_made_45 rfl ?_
            cases h
            subst hQ
            exact V_iretR C dX5_made_48
          replace h := t_neg e40 h
          cases h
        replace h := t_neg e34 h
        cases h
      · replace h := t_pos c23 h
        refine V_ldc (pc := 26) (v := -1000003) C dX5_made_26 wX5_made_k6 ?_
        cases h
        subst hQ
        exact V_iretR C dX5_made_28
    · replace h := t_pos c13 h
      refine V_ldc (pc := 16) (v := -1000002) C dX5_made_16 wX5_made_k0 ?_
      cases h
      subst hQ
      exact V_iretR C dX5_made_18
