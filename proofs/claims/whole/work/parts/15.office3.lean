def X5_missed (a : Nat → Nat) (q : Nat → Int32) (pg : Nat → Int32) (gS : Nat → Option Nat) (gU : Nat → Option Nat) (rd : RdT) (ft : FtT) (S : Nat → StT) (U : Nat → UnT) (p0 : Int32) (p1 : Int32) : Option (Int32) :=
  ob1 (X5_hasUnit a q pg gS gU rd ft S U p0) fun r2 =>
  if r2 = 0 then (some (-1000002 : Int32)) else (ob1 (X5_hasStorm a q pg gS gU rd ft S U p1) fun r10 =>
  if r10 = 0 then (some (-1000002 : Int32)) else (chk (inB p1 3) (if gS (Int32.toNatClampNeg p1) = some (a 15) then (chk (inB p0 4) (if gU (Int32.toNatClampNeg p0) = some (a 36) then (ob1 (X3_squaresMissed ((S 0).1) ((S 0).2.1) ((S 0).2.2.1) ((S 0).2.2.2.1) ((S 0).2.2.2.2.1) ((S 0).2.2.2.2.2.1) ((S 0).2.2.2.2.2.2) ((U 0).2.1) ((U 0).2.2)) fun r34 =>
  some r34) else (if gU (Int32.toNatClampNeg p0) = some (a 39) then (ob1 (X3_squaresMissed ((S 0).1) ((S 0).2.1) ((S 0).2.2.1) ((S 0).2.2.2.1) ((S 0).2.2.2.2.1) ((S 0).2.2.2.2.2.1) ((S 0).2.2.2.2.2.2) ((U 1).2.1) ((U 1).2.2)) fun r34 =>
  some r34) else (if gU (Int32.toNatClampNeg p0) = some (a 42) then (ob1 (X3_squaresMissed ((S 0).1) ((S 0).2.1) ((S 0).2.2.1) ((S 0).2.2.2.1) ((S 0).2.2.2.2.1) ((S 0).2.2.2.2.2.1) ((S 0).2.2.2.2.2.2) ((U 2).2.1) ((U 2).2.2)) fun r34 =>
  some r34) else (if gU (Int32.toNatClampNeg p0) = some (a 45) then (ob1 (X3_squaresMissed ((S 0).1) ((S 0).2.1) ((S 0).2.2.1) ((S 0).2.2.2.1) ((S 0).2.2.2.2.1) ((S 0).2.2.2.2.2.1) ((S 0).2.2.2.2.2.2) ((U 3).2.1) ((U 3).2.2)) fun r34 =>
  some r34) else (none)))))) else (if gS (Int32.toNatClampNeg p1) = some (a 22) then (chk (inB p0 4) (if gU (Int32.toNatClampNeg p0) = some (a 36) then (ob1 (X3_squaresMissed ((S 1).1) ((S 1).2.1) ((S 1).2.2.1) ((S 1).2.2.2.1) ((S 1).2.2.2.2.1) ((S 1).2.2.2.2.2.1) ((S 1).2.2.2.2.2.2) ((U 0).2.1) ((U 0).2.2)) fun r34 =>
  some r34) else (if gU (Int32.toNatClampNeg p0) = some (a 39) then (ob1 (X3_squaresMissed ((S 1).1) ((S 1).2.1) ((S 1).2.2.1) ((S 1).2.2.2.1) ((S 1).2.2.2.2.1) ((S 1).2.2.2.2.2.1) ((S 1).2.2.2.2.2.2) ((U 1).2.1) ((U 1).2.2)) fun r34 =>
  some r34) else (if gU (Int32.toNatClampNeg p0) = some (a 42) then (ob1 (X3_squaresMissed ((S 1).1) ((S 1).2.1) ((S 1).2.2.1) ((S 1).2.2.2.1) ((S 1).2.2.2.2.1) ((S 1).2.2.2.2.2.1) ((S 1).2.2.2.2.2.2) ((U 2).2.1) ((U 2).2.2)) fun r34 =>
  some r34) else (if gU (Int32.toNatClampNeg p0) = some (a 45) then (ob1 (X3_squaresMissed ((S 1).1) ((S 1).2.1) ((S 1).2.2.1) ((S 1).2.2.2.1) ((S 1).2.2.2.2.1) ((S 1).2.2.2.2.2.1) ((S 1).2.2.2.2.2.2) ((U 3).2.1) ((U 3).2.2)) fun r34 =>
  some r34) else (none)))))) else (if gS (Int32.toNatClampNeg p1) = some (a 29) then (chk (inB p0 4) (if gU (Int32.toNatClampNeg p0) = some (a 36) then (ob1 (X3_squaresMissed ((S 2).1) ((S 2).2.1) ((S 2).2.2.1) ((S 2).2.2.2.1) ((S 2).2.2.2.2.1) ((S 2).2.2.2.2.2.1) ((S 2).2.2.2.2.2.2) ((U 0).2.1) ((U 0).2.2)) fun r34 =>
  some r34) else (if gU (Int32.toNatClampNeg p0) = some (a 39) then (ob1 (X3_squaresMissed ((S 2).1) ((S 2).2.1) ((S 2).2.2.1) ((S 2).2.2.2.1) ((S 2).2.2.2.2.1) ((S 2).2.2.2.2.2.1) ((S 2).2.2.2.2.2.2) ((U 1).2.1) ((U 1).2.2)) fun r34 =>
  some r34) else (if gU (Int32.toNatClampNeg p0) = some (a 42) then (ob1 (X3_squaresMissed ((S 2).1) ((S 2).2.1) ((S 2).2.2.1) ((S 2).2.2.2.1) ((S 2).2.2.2.2.1) ((S 2).2.2.2.2.2.1) ((S 2).2.2.2.2.2.2) ((U 2).2.1) ((U 2).2.2)) fun r34 =>
  some r34) else (if gU (Int32.toNatClampNeg p0) = some (a 45) then (ob1 (X3_squaresMissed ((S 2).1) ((S 2).2.1) ((S 2).2.2.1) ((S 2).2.2.2.1) ((S 2).2.2.2.2.1) ((S 2).2.2.2.2.2.1) ((S 2).2.2.2.2.2.2) ((U 3).2.1) ((U 3).2.2)) fun r34 =>
  some r34) else (none)))))) else (none))))))
theorem wX5_missed_k0 : Cond.constant RX5 80 (-1000002) ∈ wsX5_missed := by decide +kernel
theorem wX5_missed_k1 : Cond.fieldLink RX5 15 (TX5 1).1 (TX5 1).2.1 (TX5 1).2.2.1 ∈ wsX5_missed := by decide +kernel
theorem hiX5_missed_5 : ∀ w ∈ u_ws RX5 TX5 11, w ∈ wsX5_missed := fun _ h => List.mem_cons_of_mem _ (List.mem_append_left _ (List.mem_append_left _ (List.mem_append_left _ (List.mem_append_right _ h))))
theorem wX5_missed_k3 : Cond.fieldLink RX5 21 (TX5 2).1 (TX5 2).2.1 (TX5 2).2.2.1 ∈ wsX5_missed := by decide +kernel
theorem wX5_missed_k4 : Cond.fieldLink RX5 109 (TX4 0).1 (TX4 0).2.1 (TX4 0).2.2.1 ∈ wsX5_missed := by decide +kernel
theorem hiX5_missed_4 : ∀ w ∈ u_ws RX4 TX4 2, w ∈ wsX5_missed := fun _ h => List.mem_cons_of_mem _ (List.mem_append_left _ (List.mem_append_left _ (List.mem_append_right _ h)))
theorem hdX5_missed : yX5_missed.cls ≠ "java/lang/invoke/MethodHandle" ∧ yX5_missed.cls ≠ "java/lang/invoke/VarHandle" ∧ (parseMethodDescriptor yX5_missed.desc).map (fun d => d.parameters.length) = some 2 := by decide +kernel
set_option maxHeartbeats 4000000 in
set_option maxRecDepth 100000 in
theorem X5_missed_ok {l : Launch} {D : va_G} {Y : Nat → ClassId}  {a : Nat → Nat} {q : Nat → Int32} {pg : Nat → Int32} {gS : Nat → Option Nat} {gU : Nat → Option Nat} {rd : RdT} {ft : FtT} {S : Nat → StT} {U : Nat → UnT} {p0 : Int32} {p1 : Int32} {r : Int32} (h : X5_missed a q pg gS gU rd ft S U p0 p1 = some r) : MR l yX5_missed wsX5_missed 3 69 D Y [.ref (a 0), .int p0, .int p1] (wOff Y a q pg gS gU rd ft S U) (some (.int r)) := by
  refine MR_of (cc := cX5_missed) (nL := 3) (ret := some .int) (lv0 := [(0, .ref (a 0)), (1, .int p0), (2, .int p1)]) (by decide) rfl (Nat.le_of_ble_eq_true rfl) rfl (fun X Q C hQ => ?_)
  unfold X5_missed at h
  refine V_aload_n (pc := 0) C dX5_missed_0 rfl 0 rfl ?_
  refine V_iload_n (pc := 1) C dX5_missed_1 rfl 1 rfl ?_
  obtain ⟨r2, hq, h⟩ := ob1_some h
  refine V_callVR0 (pc := 2) (rest := []) (st2 := [.int r2]) C (X5_hasUnit_ok (a := a) hq) gX5_missed_X5_hasUnit rfl ⟨rfl, hdX5_hasUnit⟩ ⟨Nat.le_of_ble_eq_true rfl, Nat.le_of_ble_eq_true rfl⟩ ⟨Nat.le_refl _, Nat.le_refl _⟩ 0 5 rfl rfl rfl (Nat.le_of_ble_eq_true rfl) dX5_missed_2 rfl ?_
  refine V_if_eq (pc := 5) C 16 dX5_missed_5 rfl (fun c5 => ?_) (fun c5 => ?_)
  · replace h := t_pos c5 h
    refine V_ldc (pc := 16) (v := -1000002) C dX5_missed_16 wX5_missed_k0 ?_
    cases h
    subst hQ
    exact V_iretR C dX5_missed_18
  · replace h := t_neg c5 h
    refine V_aload_n (pc := 8) C dX5_missed_8 rfl 0 rfl ?_
    refine V_iload_n (pc := 9) C dX5_missed_9 rfl 2 rfl ?_
    obtain ⟨r10, hq, h⟩ := ob1_some h
    refine V_callVR0 (pc := 10) (rest := []) (st2 := [.int r10]) C (X5_hasStorm_ok (a := a) hq) gX5_missed_X5_hasStorm rfl ⟨rfl, hdX5_hasStorm⟩ ⟨Nat.le_of_ble_eq_true rfl, Nat.le_of_ble_eq_true rfl⟩ ⟨Nat.le_refl _, Nat.le_refl _⟩ 0 5 rfl rfl rfl (Nat.le_of_ble_eq_true rfl) dX5_missed_10 rfl ?_
    refine V_if_ne (pc := 13) C 19 dX5_missed_13 rfl (fun c13 => ?_) (fun c13 => ?_)
    · replace h := t_neg c13 h
      refine V_aload_n (pc := 19) C dX5_missed_19 rfl 0 rfl ?_
      refine V_get (pc := 20) (v := .ref (a 2)) C 0 5 1 hiX5_missed_5 rfl rfl (by decide) wX5_missed_k1 rfl dX5_missed_20 ?_
      refine V_iload_n (pc := 23) C dX5_missed_23 rfl 2 rfl ?_
      obtain ⟨b24, h⟩ := chk_some h
      by_cases e24 : gS (Int32.toNatClampNeg p1) = some (a 15)
      · replace h := t_pos e24 h
        refine V_aald (pc := 24) C 2 2 rfl rfl b24 e24 dX5_missed_24 ?_
        refine V_aload_n (pc := 25) C dX5_missed_25 rfl 0 rfl ?_
        refine V_get (pc := 26) (v := .ref (a 3)) C 0 5 2 hiX5_missed_5 rfl rfl (by decide) wX5_missed_k3 rfl dX5_missed_26 ?_
        refine V_iload_n (pc := 29) C dX5_missed_29 rfl 1 rfl ?_
        obtain ⟨b30, h⟩ := chk_some h
        by_cases e30 : gU (Int32.toNatClampNeg p0) = some (a 36)
        · replace h := t_pos e30 h
          refine V_aald (pc := 30) C 3 3 rfl rfl b30 e30 dX5_missed_30 ?_
          refine V_get (pc := 31) (v := .ref (a 37)) C 36 4 0 hiX5_missed_4 rfl rfl (by decide) wX5_missed_k4 rfl dX5_missed_31 ?_
          obtain ⟨r34, hq, h⟩ := ob1_some h
          refine V_callVR (pc := 34) (rest := []) (st2 := [.int r34]) C (X3_squaresMissed_ok (a := (sh a 15)) (ax2 := (a 37)) (bx2 := (a 38)) hq) gX5_missed_X3_squaresMissed rfl ⟨rfl, hdX3_squaresMissed⟩ ⟨Nat.le_of_ble_eq_true rfl, Nat.le_of_ble_eq_true rfl⟩ ⟨Nat.le_refl _, Nat.le_refl _⟩ [15, 16, 17, 18, 19, 20, 21, 37, 38] rfl 15 3 rfl rfl rfl (Nat.le_of_ble_eq_true rfl) dX5_missed_34 rfl ?_
          cases h
          subst hQ
          exact V_iretR C dX5_missed_37
        replace h := t_neg e30 h
        by_cases e30 : gU (Int32.toNatClampNeg p0) = some (a 39)
        · replace h := t_pos e30 h
          refine V_aald (pc := 30) C 3 3 rfl rfl b30 e30 dX5_missed_30 ?_
          refine V_get (pc := 31) (v := .ref (a 40)) C 39 4 0 hiX5_missed_4 rfl rfl (by decide) wX5_missed_k4 rfl dX5_missed_31 ?_
          obtain ⟨r34, hq, h⟩ := ob1_some h
          refine V_callVR (pc := 34) (rest := []) (st2 := [.int r34]) C (X3_squaresMissed_ok (a := (sh a 15)) (ax2 := (a 40)) (bx2 := (a 41)) hq) gX5_missed_X3_squaresMissed rfl ⟨rfl, hdX3_squaresMissed⟩ ⟨Nat.le_of_ble_eq_true rfl, Nat.le_of_ble_eq_true rfl⟩ ⟨Nat.le_refl _, Nat.le_refl _⟩ [15, 16, 17, 18, 19, 20, 21, 40, 41] rfl 15 3 rfl rfl rfl (Nat.le_of_ble_eq_true rfl) dX5_missed_34 rfl ?_
          cases h
          subst hQ
          exact V_iretR C dX5_missed_37
        replace h := t_neg e30 h
        by_cases e30 : gU (Int32.toNatClampNeg p0) = some (a 42)
        · replace h := t_pos e30 h
          refine V_aald (pc := 30) C 3 3 rfl rfl b30 e30 dX5_missed_30 ?_
          refine V_get (pc := 31) (v := .ref (a 43)) C 42 4 0 hiX5_missed_4 rfl rfl (by decide) wX5_missed_k4 rfl dX5_missed_31 ?_
          obtain ⟨r34, hq, h⟩ := ob1_some h
          refine V_callVR (pc := 34) (rest := []) (st2 := [.int r34]) C (X3_squaresMissed_ok (a := (sh a 15)) (ax2 := (a 43)) (bx2 := (a 44)) hq) gX5_missed_X3_squaresMissed rfl ⟨rfl, hdX3_squaresMissed⟩ ⟨Nat.le_of_ble_eq_true rfl, Nat.le_of_ble_eq_true rfl⟩ ⟨Nat.le_refl _, Nat.le_refl _⟩ [15, 16, 17, 18, 19, 20, 21, 43, 44] rfl 15 3 rfl rfl rfl (Nat.le_of_ble_eq_true rfl) dX5_missed_34 rfl ?_
          cases h
          subst hQ
          exact V_iretR C dX5_missed_37
        replace h := t_neg e30 h
        by_cases e30 : gU (Int32.toNatClampNeg p0) = some (a 45)
        · replace h := t_pos e30 h
          refine V_aald (pc := 30) C 3 3 rfl rfl b30 e30 dX5_missed_30 ?_
          refine V_get (pc := 31) (v := .ref (a 46)) C 45 4 0 hiX5_missed_4 rfl rfl (by decide) wX5_missed_k4 rfl dX5_missed_31 ?_
          obtain ⟨r34, hq, h⟩ := ob1_some h
          refine V_callVR (pc := 34) (rest := []) (st2 := [.int r34]) C (X3_squaresMissed_ok (a := (sh a 15)) (ax2 := (a 46)) (bx2 := (a 47)) hq) gX5_missed_X3_squaresMissed rfl ⟨rfl, hdX3_squaresMissed⟩ ⟨Nat.le_of_ble_eq_true rfl, Nat.le_of_ble_eq_true rfl⟩ ⟨Nat.le_refl _, Nat.le_refl _⟩ [15, 16, 17, 18, 19, 20, 21, 46, 47] rfl 15 3 rfl rfl rfl (Nat.le_of_ble_eq_true rfl) dX5_missed_34 rfl ?_
          cases h
          subst hQ
          exact V_iretR C dX5_missed_37
        replace h := t_neg e30 h
        cases h
      replace h := t_neg e24 h
      by_cases e24 : gS (Int32.toNatClampNeg p1) = some (a 22)
      · replace h := t_pos e24 h
        refine V_aald (pc := 24) C 2 2 rfl rfl b24 e24 dX5_missed_24 ?_
        refine V_aload_n (pc := 25) C dX5_missed_25 rfl 0 rfl ?_
        refine V_get (pc := 26) (v := .ref (a 3)) C 0 5 2 hiX5_missed_5 rfl rfl (by decide) wX5_missed_k3 rfl dX5_missed_26 ?_
        refine V_iload_n (pc := 29) C dX5_missed_29 rfl 1 rfl ?_
        obtain ⟨b30, h⟩ := chk_some h
        by_cases e30 : gU (Int32.toNatClampNeg p0) = some (a 36)
        · replace h := t_pos e30 h
          refine V_aald (pc := 30) C 3 3 rfl rfl b30 e30 dX5_missed_30 ?_
          refine V_get (pc := 31) (v := .ref (a 37)) C 36 4 0 hiX5_missed_4 rfl rfl (by decide) wX5_missed_k4 rfl dX5_missed_31 ?_
          obtain ⟨r34, hq, h⟩ := ob1_some h
          refine V_callVR (pc := 34) (rest := []) (st2 := [.int r34]) C (X3_squaresMissed_ok (a := (sh a 22)) (ax2 := (a 37)) (bx2 := (a 38)) hq) gX5_missed_X3_squaresMissed rfl ⟨rfl, hdX3_squaresMissed⟩ ⟨Nat.le_of_ble_eq_true rfl, Nat.le_of_ble_eq_true rfl⟩ ⟨Nat.le_refl _, Nat.le_refl _⟩ [22, 23, 24, 25, 26, 27, 28, 37, 38] rfl 22 3 rfl rfl rfl (Nat.le_of_ble_eq_true rfl) dX5_missed_34 rfl ?_
          cases h
          subst hQ
          exact V_iretR C dX5_missed_37
        replace h := t_neg e30 h
        by_cases e30 : gU (Int32.toNatClampNeg p0) = some (a 39)
        · replace h := t_pos e30 h
          refine V_aald (pc := 30) C 3 3 rfl rfl b30 e30 dX5_missed_30 ?_
          refine V_get (pc := 31) (v := .ref (a 40)) C 39 4 0 hiX5_missed_4 rfl rfl (by decide) wX5_missed_k4 rfl dX5_missed_31 ?_
          obtain ⟨r34, hq, h⟩ := ob1_some h
          refine V_callVR (pc := 34) (rest := []) (st2 := [.int r34]) C (X3_squaresMissed_ok (a := (sh a 22)) (ax2 := (a 40)) (bx2 := (a 41)) hq) gX5_missed_X3_squaresMissed rfl ⟨rfl, hdX3_squaresMissed⟩ ⟨Nat.le_of_ble_eq_true rfl, Nat.le_of_ble_eq_true rfl⟩ ⟨Nat.le_refl _, Nat.le_refl _⟩ [22, 23, 24, 25, 26, 27, 28, 40, 41] rfl 22 3 rfl rfl rfl (Nat.le_of_ble_eq_true rfl) dX5_missed_34 rfl ?_
          cases h
          subst hQ
          exact V_iretR C dX5_missed_37
        replace h := t_neg e30 h
        by_cases e30 : gU (Int32.toNatClampNeg p0) = some (a 42)
        · replace h := t_pos e30 h
          refine V_aald (pc := 30) C 3 3 rfl rfl b30 e30 dX5_missed_30 ?_
          refine V_get (pc := 31) (v := .ref (a 43)) C 42 4 0 hiX5_missed_4 rfl rfl (by decide) wX5_missed_k4 rfl dX5_missed_31 ?_
          obtain ⟨r34, hq, h⟩ := ob1_some h
          refine V_callVR (pc := 34) (rest := []) (st2 := [.int r34]) C (X3_squaresMissed_ok (a := (sh a 22)) (ax2 := (a 43)) (bx2 := (a 44)) hq) gX5_missed_X3_squaresMissed rfl ⟨rfl, hdX3_squaresMissed⟩ ⟨Nat.le_of_ble_eq_true rfl, Nat.le_of_ble_eq_true rfl⟩ ⟨Nat.le_refl _, Nat.le_refl _⟩ [22, 23, 24, 25, 26, 27, 28, 43, 44] rfl 22 3 rfl rfl rfl (Nat.le_of_ble_eq_true rfl) dX5_missed_34 rfl ?_
          cases h
          subst hQ
          exact V_iretR C dX5_missed_37
        replace h := t_neg e30 h
        by_cases e30 : gU (Int32.toNatClampNeg p0) = some (a 45)
        · replace h := t_pos e30 h
          refine V_aald (pc := 30) C 3 3 rfl rfl b30 e30 dX5_missed_30 ?_
          refine V_get (pc := 31) (v := .ref (a 46)) C 45 4 0 hiX5_missed_4 rfl rfl (by decide) wX5_missed_k4 rfl dX5_missed_31 ?_
          obtain ⟨r34, hq, h⟩ := ob1_some h
          refine V_callVR (pc := 34) (rest := []) (st2 := [.int r34]) C (X3_squaresMissed_ok (a := (sh a 22)) (ax2 := (a 46)) (bx2 := (a 47)) hq) gX5_missed_X3_squaresMissed rfl ⟨rfl, hdX3_squaresMissed⟩ ⟨Nat.le_of_ble_eq_true rfl, Nat.le_of_ble_eq_true rfl⟩ ⟨Nat.le_refl _, Nat.le_refl _⟩ [22, 23, 24, 25, 26, 27, 28, 46, 47] rfl 22 3 rfl rfl rfl (Nat.le_of_ble_eq_true rfl) dX5_missed_34 rfl ?_
          cases h
          subst hQ
          exact V_iretR C dX5_missed_37
        replace h := t_neg e30 h
        cases h
      replace h := t_neg e24 h
      by_cases e24 : gS (Int32.toNatClampNeg p1) = some (a 29)
      · replace h := t_pos e24 h
        refine V_aald (pc := 24) C 2 2 rfl rfl b24 e24 dX5_missed_24 ?_
        refine V_aload_n (pc := 25) C dX5_missed_25 rfl 0 rfl ?_
        refine V_get (pc := 26) (v := .ref (a 3)) C 0 5 2 hiX5_missed_5 rfl rfl (by decide) wX5_missed_k3 rfl dX5_missed_26 ?_
        refine V_iload_n (pc := 29) C dX5_missed_29 rfl 1 rfl ?_
        obtain ⟨b30, h⟩ := chk_some h
        by_cases e30 : gU (Int32.toNatClampNeg p0) = some (a 36)
        · replace h := t_pos e30 h
          refine V_aald (pc := 30) C 3 3 rfl rfl b30 e30 dX5_missed_30 ?_
          refine V_get (pc := 31) (v := .ref (a 37)) C 36 4 0 hiX5_missed_4 rfl rfl (by decide) wX5_missed_k4 rfl dX5_missed_31 ?_
          obtain ⟨r34, hq, h⟩ := ob1_some h
          refine V_callVR (pc := 34) (rest := []) (st2 := [.int r34]) C (X3_squaresMissed_ok (a := (sh a 29)) (ax2 := (a 37)) (bx2 := (a 38)) hq) gX5_missed_X3_squaresMissed rfl ⟨rfl, hdX3_squaresMissed⟩ ⟨Nat.le_of_ble_eq_true rfl, Nat.le_of_ble_eq_true rfl⟩ ⟨Nat.le_refl _, Nat.le_refl _⟩ [29, 30, 31, 32, 33, 34, 35, 37, 38] rfl 29 3 rfl rfl rfl (Nat.le_of_ble_eq_true rfl) dX5_missed_34 rfl ?_
          cases h
          subst hQ
          exact V_iretR C dX5_missed_37
        replace h := t_neg e30 h
        by_cases e30 : gU (Int32.toNatClampNeg p0) = some (a 39)
        · replace h := t_pos e30 h
          refine V_aald (pc := 30) C 3 3 rfl rfl b30 e30 dX5_missed_30 ?_
          refine V_get (pc := 31) (v := .ref (a 40)) C 39 4 0 hiX5_missed_4 rfl rfl (by decide) wX5_missed_k4 rfl dX5_missed_31 ?_
          obtain ⟨r34, hq, h⟩ := ob1_some h
          refine V_callVR (pc := 34) (rest := []) (st2 := [.int r34]) C (X3_squaresMissed_ok (a := (sh a 29)) (ax2 := (a 40)) (bx2 := (a 41)) hq) gX5_missed_X3_squaresMissed rfl ⟨rfl, hdX3_squaresMissed⟩ ⟨Nat.le_of_ble_eq_true rfl, Nat.le_of_ble_eq_true rfl⟩ ⟨Nat.le_refl _, Nat.le_refl _⟩ [29, 30, 31, 32, 33, 34, 35, 40, 41] rfl 29 3 rfl rfl rfl (Nat.le_of_ble_eq_true rfl) dX5_missed_34 rfl ?_
          cases h
          subst hQ
          exact V_iretR C dX5_missed_37
        replace h := t_neg e30 h
        by_cases e30 : gU (Int32.toNatClampNeg p0) = some (a 42)
        · replace h := t_pos e30 h
          refine V_aald (pc := 30) C 3 3 rfl rfl b30 e30 dX5_missed_30 ?_
          refine V_get (pc := 31) (v := .ref (a 43)) C 42 4 0 hiX5_missed_4 rfl rfl (by decide) wX5_missed_k4 rfl dX5_missed_31 ?_
          obtain ⟨r34, hq, h⟩ := ob1_some h
          refine V_callVR (pc := 34) (rest := []) (st2 := [.int r34]) C (X3_squaresMissed_ok (a := (sh a 29)) (ax2 := (a 43)) (bx2 := (a 44)) hq) gX5_missed_X3_squaresMissed rfl ⟨rfl, hdX3_squaresMissed⟩ ⟨Nat.le_of_ble_eq_true rfl, Nat.le_of_ble_eq_true rfl⟩ ⟨Nat.le_refl _, Nat.le_refl _⟩ [29, 30, 31, 32, 33, 34, 35, 43, 44] rfl 29 3 rfl rfl rfl (Nat.le_of_ble_eq_true rfl) dX5_missed_34 rfl ?_
          cases h
          subst hQ
          exact V_iretR C dX5_missed_37
        replace h := t_neg e30 h
        by_cases e30 : gU (Int32.toNatClampNeg p0) = some (a 45)
        · replace h := t_pos e30 h
          refine V_aald (pc := 30) C 3 3 rfl rfl b30 e30 dX5_missed_30 ?_
          refine V_get (pc := 31) (v := .ref (a 46)) C 45 4 0 hiX5_missed_4 rfl rfl (by decide) wX5_missed_k4 rfl dX5_missed_31 ?_
          obtain ⟨r34, hq, h⟩ := ob1_some h
          refine V_callVR (pc := 34) (rest := []) (st2 := [.int r34]) C (X3_squaresMissed_ok (a := (sh a 29)) (ax2 := (a 46)) (bx2 := (a 47)) hq) gX5_missed_X3_squaresMissed rfl ⟨rfl, hdX3_squaresMissed⟩ ⟨Nat.le_of_ble_eq_true rfl, Nat.le_of_ble_eq_true rfl⟩ ⟨Nat.le_refl _, Nat.le_refl _⟩ [29, 30, 31, 32, 33, 34, 35, 46, 47] rfl 29 3 rfl rfl rfl (Nat.le_of_ble_eq_true rfl) dX5_missed_34 rfl ?_
          cases h
          subst hQ
          exact V_iretR C dX5_missed_37
        replace h := t_neg e30 h
        cases h
      replace h := t_neg e24 h
      cases h
    · replace h := t_pos c13 h
      refine V_ldc (pc := 16) (v := -1000002) C dX5_missed_16 wX5_missed_k0 ?_
      cases h
      subst hQ
      exact V_iretR C dX5_missed_18
def X5_sum (a : Nat → Nat) (q : Nat → Int32) (pg : Nat → Int32) (gS : Nat → Option Nat) (gU : Nat → Option Nat) (rd : RdT) (ft : FtT) (S : Nat → StT) (U : Nat → UnT) (p0 : Int32) (p1 : Int32) : Option (Int32) :=
  ob1 (X5_hasUnit a q pg gS gU rd ft S U p0) fun r2 =>
  if r2 = 0 then (some (-1000002 : Int32)) else (ob1 (X5_isTick p1) fun r12 =>
  if r12 = 0 then (some (-1000003 : Int32)) else (chk (inB p0 4) (if gU (Int32.toNatClampNeg p0) = some (a 36) then (ob1 (X4_summedAt ((U 0).1) ((U 0).2.1) ((U 0).2.2) p1) fun r28 =>
  some r28) else (if gU (Int32.toNatClampNeg p0) = some (a 39) then (ob1 (X4_summedAt ((U 1).1) ((U 1).2.1) ((U 1).2.2) p1) fun r28 =>
  some r28) else (if gU (Int32.toNatClampNeg p0) = some (a 42) then (ob1 (X4_summedAt ((U 2).1) ((U 2).2.1) ((U 2).2.2) p1) fun r28 =>
  some r28) else (if gU (Int32.toNatClampNeg p0) = some (a 45) then (ob1 (X4_summedAt ((U 3).1) ((U 3).2.1) ((U 3).2.2) p1) fun r28 =>
  some r28) else (none)))))))
theorem wX5_sum_k0 : Cond.fieldLink RX5 21 (TX5 2).1 (TX5 2).2.1 (TX5 2).2.2.1 ∈ wsX5_sum := by decide +kernel
theorem hiX5_sum_5 : ∀ w ∈ u_ws RX5 TX5 11, w ∈ wsX5_sum := fun _ h => List.mem_cons_of_mem _ (List.mem_append_left _ (List.mem_append_left _ (List.mem_append_right _ h)))
theorem wX5_sum_k2 : Cond.constant RX5 41 (-1000003) ∈ wsX5_sum := by decide +kernel
theorem wX5_sum_k3 : Cond.constant RX5 80 (-1000002) ∈ wsX5_sum := by decide +kernel
theorem hdX5_sum : yX5_sum.cls ≠ "java/lang/invoke/MethodHandle" ∧ yX5_sum.cls ≠ "java/lang/invoke/VarHandle" ∧ (parseMethodDescriptor yX5_sum.desc).map (fun d => d.parameters.length) = some 2 := by decide +kernel
set_option maxHeartbeats 4000000 in
set_option maxRecDepth 100000 in
theorem X5_sum_ok {l : Launch} {D : va_G} {Y : Nat → ClassId}  {a : Nat → Nat} {q : Nat → Int32} {pg : Nat → Int32} {gS : Nat → Option Nat} {gU : Nat → Option Nat} {rd : RdT} {ft : FtT} {S : Nat → StT} {U : Nat → UnT} {p0 : Int32} {p1 : Int32} {r : Int32} (h : X5_sum a q pg gS gU rd ft S U p0 p1 = some r) : MR l yX5_sum wsX5_sum 2 44 D Y [.ref (a 0), .int p0, .int p1] (wOff Y a q pg gS gU rd ft S U) (some (.int r)) := by
  refine MR_of (cc := cX5_sum) (nL := 3) (ret := some .int) (lv0 := [(0, .ref (a 0)), (1, .int p0), (2, .int p1)]) (by decide) rfl (Nat.le_of_ble_eq_true rfl) rfl (fun X Q C hQ => ?_)
  unfold X5_sum at h
  refine V_aload_n (pc := 0) C dX5_sum_0 rfl 0 rfl ?_
  refine V_iload_n (pc := 1) C dX5_sum_1 rfl 1 rfl ?_
  obtain ⟨r2, hq, h⟩ := ob1_some h
  refine V_callVR0 (pc := 2) (rest := []) (st2 := [.int r2]) C (X5_hasUnit_ok (a := a) hq) gX5_sum_X5_hasUnit rfl ⟨rfl, hdX5_hasUnit⟩ ⟨Nat.le_of_ble_eq_true rfl, Nat.le_of_ble_eq_true rfl⟩ ⟨Nat.le_refl _, Nat.le_refl _⟩ 0 5 rfl rfl rfl (Nat.le_of_ble_eq_true rfl) dX5_sum_2 rfl ?_
  refine V_if_ne (pc := 5) C 11 dX5_sum_5 rfl (fun c5 => ?_) (fun c5 => ?_)
  · replace h := t_neg c5 h
    refine V_iload_n (pc := 11) C dX5_sum_11 rfl 2 rfl ?_
    obtain ⟨r12, hq, h⟩ := ob1_some h
    refine V_callSR (pc := 12) (rest := []) (st2 := [.int r12]) C (X5_isTick_ok hq) gX5_sum_X5_isTick rfl hdX5_isTick ⟨Nat.le_of_ble_eq_true rfl, Nat.le_of_ble_eq_true rfl⟩ ⟨Nat.le_refl _, Nat.le_refl _⟩ [] rfl rfl (Nat.le_of_ble_eq_true rfl) dX5_sum_12 rfl ?_
    refine V_if_ne (pc := 15) C 21 dX5_sum_15 rfl (fun c15 => ?_) (fun c15 => ?_)
    · replace h := t_neg c15 h
      refine V_aload_n (pc := 21) C dX5_sum_21 rfl 0 rfl ?_
      refine V_get (pc := 22) (v := .ref (a 3)) C 0 5 2 hiX5_sum_5 rfl rfl (by decide) wX5_sum_k0 rfl dX5_sum_22 ?_
      refine V_iload_n (pc := 25) C dX5_sum_25 rfl 1 rfl ?_
      obtain ⟨b26, h⟩ := chk_some h
      by_cases e26 : gU (Int32.toNatClampNeg p0) = some (a 36)
      · replace h := t_pos e26 h
        refine V_aald (pc := 26) C 3 3 rfl rfl b26 e26 dX5_sum_26 ?_
        refine V_iload_n (pc := 27) C dX5_sum_27 rfl 2 rfl ?_
        obtain ⟨r28, hq, h⟩ := ob1_some h
        refine V_callVR (pc := 28) (rest := []) (st2 := [.int r28]) C (X4_summedAt_ok (a := (sh a 36)) hq) gX5_sum_X4_summedAt rfl ⟨rfl, hdX4_summedAt⟩ ⟨Nat.le_of_ble_eq_true rfl, Nat.le_of_ble_eq_true rfl⟩ ⟨Nat.le_refl _, Nat.le_refl _⟩ [36, 37, 38] rfl 36 4 rfl rfl rfl (Nat.le_of_ble_eq_true rfl) dX5_sum_28 rfl ?_
        cases h
        subst hQ
        exact V_iretR C dX5_sum_31
      replace h := t_neg e26 h
      by_cases e26 : gU (Int32.toNatClampNeg p0) = some (a 39)
      · replace h := t_pos e26 h
        refine V_aald (pc := 26) C 3 3 rfl rfl b26 e26 dX5_sum_26 ?_
        refine V_iload_n (pc := 27) C dX5_sum_27 rfl 2 rfl ?_
        obtain ⟨r28, hq, h⟩ := ob1_some h
        refine V_callVR (pc := 28) (rest := []) (st2 := [.int r28]) C (X4_summedAt_ok (a := (sh a 39)) hq) gX5_sum_X4_summedAt rfl ⟨rfl, hdX4_summedAt⟩ ⟨Nat.le_of_ble_eq_true rfl, Nat.le_of_ble_eq_true rfl⟩ ⟨Nat.le_refl _, Nat.le_refl _⟩ [39, 40, 41] rfl 39 4 rfl rfl rfl (Nat.le_of_ble_eq_true rfl) dX5_sum_28 rfl ?_
        cases h
        subst hQ
        exact V_iretR C dX5_sum_31
      replace h := t_neg e26 h
      by_cases e26 : gU (Int32.toNatClampNeg p0) = some (a 42)
      · replace h := t_pos e26 h
        refine V_aald (pc := 26) C 3 3 rfl rfl b26 e26 dX5_sum_26 ?_
        refine V_iload_n (pc := 27) C dX5_sum_27 rfl 2 rfl ?_
        obtain ⟨r28, hq, h⟩ := ob1_some h
        refine V_callVR (pc := 28) (rest := []) (st2 := [.int r28]) C (X4_summedAt_ok (a := (sh a 42)) hq) gX5_sum_X4_summedAt rfl ⟨rfl, hdX4_summedAt⟩ ⟨Nat.le_of_ble_eq_true rfl, Nat.le_of_ble_eq_true rfl⟩ ⟨Nat.le_refl _, Nat.le_refl _⟩ [42, 43, 44] rfl 42 4 rfl rfl rfl (Nat.le_of_ble_eq_true rfl) dX5_sum_28 rfl ?_
        cases h
        subst hQ
        exact V_iretR C dX5_sum_31
      replace h := t_neg e26 h
      by_cases e26 : gU (Int32.toNatClampNeg p0) = some (a 45)
      · replace h := t_pos e26 h
        refine V_aald (pc := 26) C 3 3 rfl rfl b26 e26 dX5_sum_26 ?_
        refine V_iload_n (pc := 27) C dX5_sum_27 rfl 2 rfl ?_
        obtain ⟨r28, hq, h⟩ := ob1_some h
        refine V_callVR (pc := 28) (rest := []) (st2 := [.int r28]) C (X4_summedAt_ok (a := (sh a 45)) hq) gX5_sum_X4_summedAt rfl ⟨rfl, hdX4_summedAt⟩ ⟨Nat.le_of_ble_eq_true rfl, Nat.le_of_ble_eq_true rfl⟩ ⟨Nat.le_refl _, Nat.le_refl _⟩ [45, 46, 47] rfl 45 4 rfl rfl rfl (Nat.le_of_ble_eq_true rfl) dX5_sum_28 rfl ?_
        cases h
        subst hQ
        exact V_iretR C dX5_sum_31
      replace h := t_neg e26 h
      cases h
    · replace h := t_pos c15 h
      refine V_ldc (pc := 18) (v := -1000003) C dX5_sum_18 wX5_sum_k2 ?_
      cases h
      subst hQ
      exact V_iretR C dX5_sum_20
  · replace h := t_pos c5 h
    refine V_ldc (pc := 8) (v := -1000002) C dX5_sum_8 wX5_sum_k3 ?_
    cases h
    subst hQ
    exact V_iretR C dX5_sum_10
def X5_isPartOfFraction (p0 : Int32) : Option (Int32) :=
  if p0 = 0 then (some (1 : Int32)) else (if p0 = (1 : Int32) then (some (1 : Int32)) else (some (0 : Int32)))
theorem hdX5_isPartOfFraction : yX5_isPartOfFraction.cls ≠ "java/lang/invoke/MethodHandle" ∧ yX5_isPartOfFraction.cls ≠ "java/lang/invoke/VarHandle" ∧ (parseMethodDescriptor yX5_isPartOfFraction.desc).map (fun d => d.parameters.length) = some 1 := by decide +kernel
set_option maxHeartbeats 4000000 in
set_option maxRecDepth 100000 in
theorem X5_isPartOfFraction_ok {l : Launch} {D : va_G} {Y : Nat → ClassId}  {p0 : Int32} {r : Int32} (h : X5_isPartOfFraction p0 = some r) : MR l yX5_isPartOfFraction wsX5_isPartOfFraction 0 0 D Y [.int p0] ([]) (some (.int r)) := by
  refine MR_of (cc := cX5_isPartOfFraction) (nL := 1) (ret := some .boolean) (lv0 := [(0, .int p0)]) (by decide) rfl (Nat.le_of_ble_eq_true rfl) rfl (fun X Q C hQ => ?_)
  unfold X5_isPartOfFraction at h
  refine V_iload_n (pc := 0) C dX5_isPartOfFraction_0 rfl 0 rfl ?_
  refine V_if_eq (pc := 1) C 9 dX5_isPartOfFraction_1 rfl (fun c1 => ?_) (fun c1 => ?_)
  · replace h := t_pos c1 h
    refine V_iconst (pc := 9) (v := 1) C dX5_isPartOfFraction_9 rfl ?_
    refine V_goto (pc := 10) C 14 dX5_isPartOfFraction_10 rfl ?_
    cases h
    subst hQ
    exact V_zretR C (by decide) dX5_isPartOfFraction_14
  · replace h := t_neg c1 h
    refine V_iload_n (pc := 4) C dX5_isPartOfFraction_4 rfl 0 rfl ?_
    refine V_iconst (pc := 5) (v := 1) C dX5_isPartOfFraction_5 rfl ?_
    refine V_icmp_ne (pc := 6) C 13 dX5_isPartOfFraction_6 rfl (fun c6 => ?_) (fun c6 => ?_)
    · replace h := t_neg c6 h
      refine V_iconst (pc := 13) (v := 0) C dX5_isPartOfFraction_13 rfl ?_
      cases h
      subst hQ
      exact V_zretR C (by decide) dX5_isPartOfFraction_14
    · replace h := t_pos c6 h
      refine V_iconst (pc := 9) (v := 1) C dX5_isPartOfFraction_9 rfl ?_
      refine V_goto (pc := 10) C 14 dX5_isPartOfFraction_10 rfl ?_
      cases h
      subst hQ
      exact V_zretR C (by decide) dX5_isPartOfFraction_14
def X5_sharedDivisor (p0 : Int64) (p1 : Int64) : Option (Int64) :=
  jn1 (fun (x4_50 : Int64) => some x4_50) fun J50 =>
  wh3 (fun self15 (x4_15 : Int64) (x6_15 : Int64) (x8_15 : Int32) =>
  if (100 : Int32) ≤ x8_15 then (J50 x4_15) else (if x6_15 = (0 : Int64) then (J50 x4_15) else (chk (ne0l x6_15) (self15 x6_15 (x4_15 - x4_15 / x6_15 * x6_15) (x8_15 + 1))))) 200 (if 0 < p0 then p0 else -p0) (if 0 < p1 then p1 else -p1) (0 : Int32)
theorem wX5_sharedDivisor_k0 : Cond.methodLink RX5 250 Lib.MathLoose.abs_long.x ∈ wsX5_sharedDivisor := by decide +kernel
theorem wX5_sharedDivisor_k1 : Cond.static Lib.MathLoose.abs_long.x ∈ wsX5_sharedDivisor := by decide +kernel
theorem wX5_sharedDivisor_k2 : Cond.initialized "java/lang/Math" ∈ wsX5_sharedDivisor := by decide +kernel
theorem wX5_sharedDivisor_k3 : Cond.code Lib.MathLoose.abs_long.x Lib.MathLoose.abs_long.code 2 (some .long) ∈ wsX5_sharedDivisor := by decide +kernel
theorem hdX5_sharedDivisor : yX5_sharedDivisor.cls ≠ "java/lang/invoke/MethodHandle" ∧ yX5_sharedDivisor.cls ≠ "java/lang/invoke/VarHandle" ∧ (parseMethodDescriptor yX5_sharedDivisor.desc).map (fun d => d.parameters.length) = some 2 := by decide +kernel
set_option maxHeartbeats 4000000 in
set_option maxRecDepth 100000 in
theorem X5_sharedDivisor_ok {l : Launch} {D : va_G} {Y : Nat → ClassId}  {p0 : Int64} {p1 : Int64} {r : Int64} (h : X5_sharedDivisor p0 p1 = some r) : MR l yX5_sharedDivisor wsX5_sharedDivisor 1 21 D Y [.long p0, .long p1] ([]) (some (.long r)) := by
  refine MR_of (cc := cX5_sharedDivisor) (nL := 11) (ret := some .long) (lv0 := [(0, .long p0), (2, .long p1)]) (by decide) rfl (Nat.le_of_ble_eq_true rfl) rfl (fun X Q C hQ => ?_)
  unfold X5_sharedDivisor at h
  refine V_lload_n (pc := 0) C dX5_sharedDivisor_0 rfl 0 rfl ?_
  refine V_mabsl (pc := 1) C wX5_sharedDivisor_k0 wX5_sharedDivisor_k1 wX5_sharedDivisor_k2 wX5_sharedDivisor_k3 (Nat.le_of_ble_eq_true rfl) (Nat.le_of_ble_eq_true rfl) ⟨Nat.le_refl _, Nat.le_refl _⟩ dX5_sharedDivisor_1 ?_
  refine V_lstore (pc := 4) (lv' := [(4, .long (if 0 < p0 then p0 else -p0)), (0, .long p0), (2, .long p1)]) C dX5_sharedDivisor_4 (Nat.le_of_ble_eq_true rfl) rfl ?_
  refine V_lload_n (pc := 6) C dX5_sharedDivisor_6 rfl 2 rfl ?_
  refine V_mabsl (pc := 7) C wX5_sharedDivisor_k0 wX5_sharedDivisor_k1 wX5_sharedDivisor_k2 wX5_sharedDivisor_k3 (Nat.le_of_ble_eq_true rfl) (Nat.le_of_ble_eq_true rfl) ⟨Nat.le_refl _, Nat.le_refl _⟩ dX5_sharedDivisor_7 ?_
  refine V_lstore (pc := 10) (lv' := [(6, .long (if 0 < p1 then p1 else -p1)), (4, .long (if 0 < p0 then p0 else -p0)), (0, .long p0), (2, .long p1)]) C dX5_sharedDivisor_10 (Nat.le_of_ble_eq_true rfl) rfl ?_
  refine V_iconst (pc := 12) (v := 0) C dX5_sharedDivisor_12 rfl ?_
  refine V_istore (pc := 13) (lv' := [(8, .int (0 : Int32)), (6, .long (if 0 < p1 then p1 else -p1)), (4, .long (if 0 < p0 then p0 else -p0)), (0, .long p0), (2, .long p1)]) C dX5_sharedDivisor_13 (Nat.le_of_ble_eq_true rfl) rfl ?_
  refine jn1_ok (P := (fun (x4_50 : Int64) => VW X D 11 Q (KR X) (0, 0) ([]) [(4, .long x4_50)] 50 [])) (fun x4_50 h => ?_) (fun J50 hJ50 h => ?_) h
  · refine V_lload (pc := 50) C dX5_sharedDivisor_50 0 rfl ?_
    cases h
    subst hQ
    exact V_lretR C dX5_sharedDivisor_52
  refine V_sub [2, 1, 0] rfl (wh3_ok (P := (fun (x4_15 : Int64) (x6_15 : Int64) (x8_15 : Int32) => VW X D 11 Q (KR X) (0, 0) ([]) [(4, .long x4_15), (6, .long x6_15), (8, .int x8_15)] 15 [])) (fun self15 ih15 x4_15 x6_15 x8_15 h => ?_) 200 _ _ _ h)
  refine V_iload (pc := 15) C dX5_sharedDivisor_15 2 rfl ?_
  refine V_bipush (pc := 17) (v := 100) C dX5_sharedDivisor_17 rfl ?_
  refine V_icmp_ge (pc := 19) C 50 dX5_sharedDivisor_19 rfl (fun c19 => ?_) (fun c19 => ?_)
  · replace h := t_pos c19 h
    exact V_sub [0] rfl (hJ50 _ h)
  · replace h := t_neg c19 h
    refine V_lload (pc := 22) C dX5_sharedDivisor_22 1 rfl ?_
    refine V_lconst (pc := 24) (v := 0) C dX5_sharedDivisor_24 rfl ?_
    refine V_lcmp (pc := 25) C dX5_sharedDivisor_25 ?_
    refine V_lif_eq (pc := 26) C 50 dX5_sharedDivisor_26 rfl (fun c26 => ?_) (fun c26 => ?_)
    · replace h := t_pos c26 h
      exact V_sub [0] rfl (hJ50 _ h)
    · replace h := t_neg c26 h
      refine V_lload (pc := 29) C dX5_sharedDivisor_29 0 rfl ?_
      refine V_lload (pc := 31) C dX5_sharedDivisor_31 1 rfl ?_
      obtain ⟨b33, h⟩ := chk_some h
      refine V_lrem (pc := 33) C dX5_sharedDivisor_33 (ne0l_n b33) ?_
      refine V_lstore (pc := 34) (lv' := [(9, .long (x4_15 - x4_15 / x6_15 * x6_15)), (4, .long x4_15), (6, .long x6_15), (8, .int x8_15)]) C dX5_sharedDivisor_34 (Nat.le_of_ble_eq_true rfl) rfl ?_
      refine V_lload (pc := 36) C dX5_sharedDivisor_36 2 rfl ?_
      refine V_lstore (pc := 38) (lv' := [(4, .long x6_15), (9, .long (x4_15 - x4_15 / x6_15 * x6_15)), (6, .long x6_15), (8, .int x8_15)]) C dX5_sharedDivisor_38 (Nat.le_of_ble_eq_true rfl) rfl ?_
      refine V_lload (pc := 40) C dX5_sharedDivisor_40 1 rfl ?_
      refine V_lstore (pc := 42) (lv' := [(6, .long (x4_15 - x4_15 / x6_15 * x6_15)), (4, .long x6_15), (9, .long (x4_15 - x4_15 / x6_15 * x6_15)), (8, .int x8_15)]) C dX5_sharedDivisor_42 (Nat.le_of_ble_eq_true rfl) rfl ?_
      refine V_iinc (pc := 44) (v := (x8_15 + 1)) (lv' := [(8, .int (x8_15 + 1)), (6, .long (x4_15 - x4_15 / x6_15 * x6_15)), (4, .long x6_15), (9, .long (x4_15 - x4_15 / x6_15 * x6_15))]) C dX5_sharedDivisor_44 3 rfl rfl (Nat.le_of_ble_eq_true rfl) rfl ?_
      refine V_goto (pc := 47) C 15 dX5_sharedDivisor_47 rfl ?_
      exact V_sub [2, 1, 0] rfl (ih15 _ _ _ h)
def X5_inLowestTerms (p0 : Int64) (p1 : Int64) (p2 : Int32) : Option (Int64) :=
  ob1 (X5_sharedDivisor p0 p1) fun r2 =>
  if r2 = (0 : Int64) then (if p2 = 0 then (some (0 : Int64)) else (some (1 : Int64))) else (if p2 = 0 then (chk (ne0l r2) (some (p0 / r2))) else (chk (ne0l r2) (some (p1 / r2))))
theorem hdX5_inLowestTerms : yX5_inLowestTerms.cls ≠ "java/lang/invoke/MethodHandle" ∧ yX5_inLowestTerms.cls ≠ "java/lang/invoke/VarHandle" ∧ (parseMethodDescriptor yX5_inLowestTerms.desc).map (fun d => d.parameters.length) = some 3 := by decide +kernel
set_option maxHeartbeats 4000000 in
set_option maxRecDepth 100000 in
theorem X5_inLowestTerms_ok {l : Launch} {D : va_G} {Y : Nat → ClassId}  {p0 : Int64} {p1 : Int64} {p2 : Int32} {r : Int64} (h : X5_inLowestTerms p0 p1 p2 = some r) : MR l yX5_inLowestTerms wsX5_inLowestTerms 2 51 D Y [.long p0, .long p1, .int p2] ([]) (some (.long r)) := by
  refine MR_of (cc := cX5_inLowestTerms) (nL := 7) (ret := some .long) (lv0 := [(0, .long p0), (2, .long p1), (4, .int p2)]) (by decide) rfl (Nat.le_of_ble_eq_true rfl) rfl (fun X Q C hQ => ?_)
  unfold X5_inLowestTerms at h
  refine V_lload_n (pc := 0) C dX5_inLowestTerms_0 rfl 0 rfl ?_
  refine V_lload_n (pc := 1) C dX5_inLowestTerms_1 rfl 1 rfl ?_
  obtain ⟨r2, hq, h⟩ := ob1_some h
  refine V_callSR (pc := 2) (rest := []) (st2 := [.long r2]) C (X5_sharedDivisor_ok hq) gX5_inLowestTerms_X5_sharedDivisor rfl hdX5_sharedDivisor ⟨Nat.le_of_ble_eq_true rfl, Nat.le_of_ble_eq_true rfl⟩ ⟨Nat.le_refl _, Nat.le_refl _⟩ [] rfl rfl (Nat.le_of_ble_eq_true rfl) dX5_inLowestTerms_2 rfl ?_
  refine V_lstore (pc := 5) (lv' := [(5, .long r2), (0, .long p0), (2, .long p1), (4, .int p2)]) C dX5_inLowestTerms_5 (Nat.le_of_ble_eq_true rfl) rfl ?_
  refine V_lload (pc := 7) C dX5_inLowestTerms_7 0 rfl ?_
  refine V_lconst (pc := 9) (v := 0) C dX5_inLowestTerms_9 rfl ?_
  refine V_lcmp (pc := 10) C dX5_inLowestTerms_10 ?_
  refine V_lif_ne (pc := 11) C 25 dX5_inLowestTerms_11 rfl (fun c11 => ?_) (fun c11 => ?_)
  · replace h := t_neg c11 h
    refine V_iload (pc := 25) C dX5_inLowestTerms_25 3 rfl ?_
    refine V_if_ne (pc := 27) C 37 dX5_inLowestTerms_27 rfl (fun c27 => ?_) (fun c27 => ?_)
    · replace h := t_neg c27 h
      refine V_lload_n (pc := 37) C dX5_inLowestTerms_37 rfl 2 rfl ?_
      refine V_lload (pc := 38) C dX5_inLowestTerms_38 0 rfl ?_
      obtain ⟨b40, h⟩ := chk_some h
      refine V_ldiv (pc := 40) C dX5_inLowestTerms_40 (ne0l_n b40) ?_
      cases h
      subst hQ
      exact V_lretR C dX5_inLowestTerms_41
    · replace h := t_pos c27 h
      refine V_lload_n (pc := 30) C dX5_inLowestTerms_30 rfl 1 rfl ?_
      refine V_lload (pc := 31) C dX5_inLowestTerms_31 0 rfl ?_
      obtain ⟨b33, h⟩ := chk_some h
      refine V_ldiv (pc := 33) C dX5_inLowestTerms_33 (ne0l_n b33) ?_
      refine V_goto (pc := 34) C 41 dX5_inLowestTerms_34 rfl ?_
      cases h
      subst hQ
      exact V_lretR C dX5_inLowestTerms_41
  · replace h := t_pos c11 h
    refine V_iload (pc := 14) C dX5_inLowestTerms_14 3 rfl ?_
    refine V_if_ne (pc := 16) C 23 dX5_inLowestTerms_16 rfl (fun c16 => ?_) (fun c16 => ?_)
    · replace h := t_neg c16 h
      refine V_lconst (pc := 23) (v := 1) C dX5_inLowestTerms_23 rfl ?_
      cases h
      subst hQ
      exact V_lretR C dX5_inLowestTerms_24
    · replace h := t_pos c16 h
      refine V_lconst (pc := 19) (v := 0) C dX5_inLowestTerms_19 rfl ?_
      refine V_goto (pc := 20) C 24 dX5_inLowestTerms_20 rfl ?_
      cases h
      subst hQ
      exact V_lretR C dX5_inLowestTerms_24
def X5_other (a : Nat → Nat) (q : Nat → Int32) (pg : Nat → Int32) (gS : Nat → Option Nat) (gU : Nat → Option Nat) (rd : RdT) (ft : FtT) (S : Nat → StT) (U : Nat → UnT) (p0 : Int32) (p1 : Int32) (p2 : Int32) (p3 : Int32) : Option (Int32) :=
  ob1 (X5_hasUnit a q pg gS gU rd ft S U p0) fun r2 =>
  if r2 = 0 then (some (-1000002 : Int32)) else (ob1 (X5_isLength p1) fun r12 =>
  if r12 = 0 then (some (-1000003 : Int32)) else (ob1 (X5_isTick p2) fun r19 =>
  if r19 = 0 then (some (-1000003 : Int32)) else (ob1 (X5_isPartOfFraction p3) fun r27 =>
  if r27 = 0 then (some (-1000003 : Int32)) else (chk (inB p0 4) (if gU (Int32.toNatClampNeg p0) = some (a 36) then (ob1 (X4_summedAt ((U 0).1) ((U 0).2.1) ((U 0).2.2) p2) fun r47 =>
  ob1 (X4_summedAt ((U 0).1) ((U 0).2.1) ((U 0).2.2) (p2 - p1)) fun r55 =>
  ob1 (X5_inLowestTerms (Int32.toInt64 ((r47 - r55) * (U 0).1)) (Int32.toInt64 p1) p3) fun r74 =>
  some (Int64.toInt32 r74)) else (if gU (Int32.toNatClampNeg p0) = some (a 39) then (ob1 (X4_summedAt ((U 1).1) ((U 1).2.1) ((U 1).2.2) p2) fun r47 =>
  ob1 (X4_summedAt ((U 1).1) ((U 1).2.1) ((U 1).2.2) (p2 - p1)) fun r55 =>
  ob1 (X5_inLowestTerms (Int32.toInt64 ((r47 - r55) * (U 1).1)) (Int32.toInt64 p1) p3) fun r74 =>
  some (Int64.toInt32 r74)) else (if gU (Int32.toNatClampNeg p0) = some (a 42) then (ob1 (X4_summedAt ((U 2).1) ((U 2).2.1) ((U 2).2.2) p2) fun r47 =>
  ob1 (X4_summedAt ((U 2).1) ((U 2).2.1) ((U 2).2.2) (p2 - p1)) fun r55 =>
  ob1 (X5_inLowestTerms (Int32.toInt64 ((r47 - r55) * (U 2).1)) (Int32.toInt64 p1) p3) fun r74 =>
  some (Int64.toInt32 r74)) else (if gU (Int32.toNatClampNeg p0) = some (a 45) then (ob1 (X4_summedAt ((U 3).1) ((U 3).2.1) ((U 3).2.2) p2) fun r47 =>
  ob1 (X4_summedAt ((U 3).1) ((U 3).2.1) ((U 3).2.2) (p2 - p1)) fun r55 =>
  ob1 (X5_inLowestTerms (Int32.toInt64 ((r47 - r55) * (U 3).1)) (Int32.toInt64 p1) p3) fun r74 =>
  some (Int64.toInt32 r74)) else (none)))))))))
theorem wX5_other_k0 : Cond.constant RX5 41 (-1000003) ∈ wsX5_other := by decide +kernel
theorem wX5_other_k1 : Cond.fieldLink RX5 21 (TX5 2).1 (TX5 2).2.1 (TX5 2).2.2.1 ∈ wsX5_other := by decide +kernel
theorem hiX5_other_5 : ∀ w ∈ u_ws RX5 TX5 11, w ∈ wsX5_other := fun _ h => List.mem_cons_of_mem _ (List.mem_append_left _ (List.mem_append_left _ (List.mem_append_right _ h)))
theorem wX5_other_k3 : Cond.fieldLink RX5 112 (TX4 1).1 (TX4 1).2.1 (TX4 1).2.2.1 ∈ wsX5_other := by decide +kernel
theorem hiX5_other_4 : ∀ w ∈ u_ws RX4 TX4 2, w ∈ wsX5_other := fun _ h => List.mem_cons_of_mem _ (List.mem_append_left _ (List.mem_append_right _ h))
theorem wX5_other_k5 : Cond.constant RX5 80 (-1000002) ∈ wsX5_other := by decide +kernel
theorem hdX5_other : yX5_other.cls ≠ "java/lang/invoke/MethodHandle" ∧ yX5_other.cls ≠ "java/lang/invoke/VarHandle" ∧ (parseMethodDescriptor yX5_other.desc).map (fun d => d.parameters.length) = some 4 := by decide +kernel
set_option maxHeartbeats 4000000 in
set_option maxRecDepth 100000 in
theorem X5_other_ok {l : Launch} {D : va_G} {Y : Nat → ClassId}  {a : Nat → Nat} {q : Nat → Int32} {pg : Nat → Int32} {gS : Nat → Option Nat} {gU : Nat → Option Nat} {rd : RdT} {ft : FtT} {S : Nat → StT} {U : Nat → UnT} {p0 : Int32} {p1 : Int32} {p2 : Int32} {p3 : Int32} {r : Int32} (h : X5_other a q pg gS gU rd ft S U p0 p1 p2 p3 = some r) : MR l yX5_other wsX5_other 3 77 D Y [.ref (a 0), .int p0, .int p1, .int p2, .int p3] (wOff Y a q pg gS gU rd ft S U) (some (.int r)) := by
  refine MR_of (cc := cX5_other) (nL := 7) (ret := some .int) (lv0 := [(0, .ref (a 0)), (1, .int p0), (2, .int p1), (3, .int p2), (4, .int p3)]) (by decide) rfl (Nat.le_of_ble_eq_true rfl) rfl (fun X Q C hQ => ?_)
  unfold X5_other at h
  refine V_aload_n (pc := 0) C dX5_other_0 rfl 0 rfl ?_
  refine V_iload_n (pc := 1) C dX5_other_1 rfl 1 rfl ?_
  obtain ⟨r2, hq, h⟩ := ob1_some h
  refine V_callVR0 (pc := 2) (rest := []) (st2 := [.int r2]) C (X5_hasUnit_ok (a := a) hq) gX5_other_X5_hasUnit rfl ⟨rfl, hdX5_hasUnit⟩ ⟨Nat.le_of_ble_eq_true rfl, Nat.le_of_ble_eq_true rfl⟩ ⟨Nat.le_refl _, Nat.le_refl _⟩ 0 5 rfl rfl rfl (Nat.le_of_ble_eq_true rfl) dX5_other_2 rfl ?_
  refine V_if_ne (pc := 5) C 11 dX5_other_5 rfl (fun c5 => ?_) (fun c5 => ?_)
  · replace h := t_neg c5 h
    refine V_iload_n (pc := 11) C dX5_other_11 rfl 2 rfl ?_
    obtain ⟨r12, hq, h⟩ := ob1_some h
    refine V_callSR (pc := 12) (rest := []) (st2 := [.int r12]) C (X5_isLength_ok hq) gX5_other_X5_isLength rfl hdX5_isLength ⟨Nat.le_of_ble_eq_true rfl, Nat.le_of_ble_eq_true rfl⟩ ⟨Nat.le_refl _, Nat.le_refl _⟩ [] rfl rfl (Nat.le_of_ble_eq_true rfl) dX5_other_12 rfl ?_
    refine V_if_eq (pc := 15) C 33 dX5_other_15 rfl (fun c15 => ?_) (fun c15 => ?_)
    · replace h := t_pos c15 h
      refine V_ldc (pc := 33) (v := -1000003) C dX5_other_33 wX5_other_k0 ?_
      cases h
      subst hQ
      exact V_iretR C dX5_other_35
    · replace h := t_neg c15 h
      refine V_iload_n (pc := 18) C dX5_other_18 rfl 3 rfl ?_
      obtain ⟨r19, hq, h⟩ := ob1_some h
      refine V_callSR (pc := 19) (rest := []) (st2 := [.int r19]) C (X5_isTick_ok hq) gX5_other_X5_isTick rfl hdX5_isTick ⟨Nat.le_of_ble_eq_true rfl, Nat.le_of_ble_eq_true rfl⟩ ⟨Nat.le_refl _, Nat.le_refl _⟩ [] rfl rfl (Nat.le_of_ble_eq_true rfl) dX5_other_19 rfl ?_
      refine V_if_eq (pc := 22) C 33 dX5_other_22 rfl (fun c22 => ?_) (fun c22 => ?_)
      · replace h := t_pos c22 h
        refine V_ldc (pc := 33) (v := -1000003) C dX5_other_33 wX5_other_k0 ?_
        cases h
        subst hQ
        exact V_iretR C dX5_other_35
      · replace h := t_neg c22 h
        refine V_iload (pc := 25) C dX5_other_25 4 rfl ?_
        obtain ⟨r27, hq, h⟩ := ob1_some h
        refine V_callSR (pc := 27) (rest := []) (st2 := [.int r27]) C (X5_isPartOfFraction_ok hq) gX5_other_X5_isPartOfFraction rfl hdX5_isPartOfFraction ⟨Nat.le_of_ble_eq_true rfl, Nat.le_of_ble_eq_true rfl⟩ ⟨Nat.le_refl _, Nat.le_refl _⟩ [] rfl rfl (Nat.le_of_ble_eq_true rfl) dX5_other_27 rfl ?_
        refine V_if_ne (pc := 30) C 36 dX5_other_30 rfl (fun c30 => ?_) (fun c30 => ?_)
        · replace h := t_neg c30 h
          refine V_aload_n (pc := 36) C dX5_other_36 rfl 0 rfl ?_
          refine V_get (pc := 37) (v := .ref (a 3)) C 0 5 2 hiX5_other_5 rfl rfl (by decide) wX5_other_k1 rfl dX5_other_37 ?_
          refine V_iload_n (pc := 40) C dX5_other_40 rfl 1 rfl ?_
          obtain ⟨b41, h⟩ := chk_some h
          by_cases e41 : gU (Int32.toNatClampNeg p0) = some (a 36)
          · replace h := t_pos e41 h
            refine V_aald (pc := 41) C 3 3 rfl rfl b41 e41 dX5_other_41 ?_
            refine V_astore (pc := 42) (lv' := [(5, .ref (a 36)), (0, .ref (a 0)), (1, .int p0), (2, .int p1), (3, .int p2), (4, .int p3)]) C dX5_other_42 (Nat.le_of_ble_eq_true rfl) rfl ?_
            refine V_aload (pc := 44) C dX5_other_44 0 rfl ?_
            refine V_iload_n (pc := 46) C dX5_other_46 rfl 4 rfl ?_
            obtain ⟨r47, hq, h⟩ := ob1_some h
            refine V_callVR (pc := 47) (rest := []) (st2 := [.int r47]) C (X4_summedAt_ok (a := (sh a 36)) hq) gX5_other_X4_summedAt rfl ⟨rfl, hdX4_summedAt⟩ ⟨Nat.le_of_ble_eq_true rfl, Nat.le_of_ble_eq_true rfl⟩ ⟨Nat.le_refl _, Nat.le_refl _⟩ [36, 37, 38] rfl 36 4 rfl rfl rfl (Nat.le_of_ble_eq_true rfl) dX5_other_47 rfl ?_
            refine V_aload (pc := 50) C dX5_other_50 0 rfl ?_
            refine V_iload_n (pc := 52) C dX5_other_52 rfl 4 rfl ?_
            refine V_iload_n (pc := 53) C dX5_other_53 rfl 3 rfl ?_
            refine V_isub (pc := 54) C dX5_other_54 ?_
            obtain ⟨r55, hq, h⟩ := ob1_some h
            refine V_callVR (pc := 55) (rest := [.int r47]) (st2 := [.int r55, .int r47]) C (X4_summedAt_ok (a := (sh a 36)) hq) gX5_other_X4_summedAt rfl ⟨rfl, hdX4_summedAt⟩ ⟨Nat.le_of_ble_eq_true rfl, Nat.le_of_ble_eq_true rfl⟩ ⟨Nat.le_refl _, Nat.le_refl _⟩ [36, 37, 38] rfl 36 4 rfl rfl rfl (Nat.le_of_ble_eq_true rfl) dX5_other_55 rfl ?_
            refine V_isub (pc := 58) C dX5_other_58 ?_
            refine V_istore (pc := 59) (lv' := [(6, .int (r47 - r55)), (5, .ref (a 36)), (0, .ref (a 0)), (1, .int p0), (2, .int p1), (3, .int p2), (4, .int p3)]) C dX5_other_59 (Nat.le_of_ble_eq_true rfl) rfl ?_
            refine V_iload (pc := 61) C dX5_other_61 0 rfl ?_
            refine V_aload (pc := 63) C dX5_other_63 1 rfl ?_
            refine V_get (pc := 65) (v := .int (U 0).1) C 36 4 1 hiX5_other_4 rfl rfl (by decide) wX5_other_k3 rfl dX5_other_65 ?_
            refine V_imul (pc := 68) C dX5_other_68 ?_
            refine V_i2l (pc := 69) C dX5_other_69 ?_
            refine V_iload_n (pc := 70) C dX5_other_70 rfl 4 rfl ?_
            refine V_i2l (pc := 71) C dX5_other_71 ?_
            refine V_iload (pc := 72) C dX5_other_72 6 rfl ?_
            obtain ⟨r74, hq, h⟩ := ob1_some h
            refine V_callSR (pc := 74) (rest := []) (st2 := [.long r74]) C (X5_inLowestTerms_ok hq) gX5_other_X5_inLowestTerms rfl hdX5_inLowestTerms ⟨Nat.le_of_ble_eq_true rfl, Nat.le_of_ble_eq_true rfl⟩ ⟨Nat.le_refl _, Nat.le_refl _⟩ [] rfl rfl (Nat.le_of_ble_eq_true rfl) dX5_other_74 rfl ?_
            refine V_l2i (pc := 77) C dX5_other_77 ?_
            cases h
            subst hQ
            exact V_iretR C dX5_other_78
          replace h := t_neg e41 h
          by_cases e41 : gU (Int32.toNatClampNeg p0) = some (a 39)
          · replace h := t_pos e41 h
            refine V_aald (pc := 41) C 3 3 rfl rfl b41 e41 dX5_other_41 ?_
            refine V_astore (pc := 42) (lv' := [(5, .ref (a 39)), (0, .ref (a 0)), (1, .int p0), (2, .int p1), (3, .int p2), (4, .int p3)]) C dX5_other_42 (Nat.le_of_ble_eq_true rfl) rfl ?_
            refine V_aload (pc := 44) C dX5_other_44 0 rfl ?_
            refine V_iload_n (pc := 46) C dX5_other_46 rfl 4 rfl ?_
            obtain ⟨r47, hq, h⟩ := ob1_some h
            refine V_callVR (pc := 47) (rest := []) (st2 := [.int r47]) C (X4_summedAt_ok (a := (sh a 39)) hq) gX5_other_X4_summedAt rfl ⟨rfl, hdX4_summedAt⟩ ⟨Nat.le_of_ble_eq_true rfl, Nat.le_of_ble_eq_true rfl⟩ ⟨Nat.le_refl _, Nat.le_refl _⟩ [39, 40, 41] rfl 39 4 rfl rfl rfl (Nat.le_of_ble_eq_true rfl) dX5_other_47 rfl ?_
            refine V_aload (pc := 50) C dX5_other_50 0 rfl ?_
            refine V_iload_n (pc := 52) C dX5_other_52 rfl 4 rfl ?_
            refine V_iload_n (pc := 53) C dX5_other_53 rfl 3 rfl ?_
            refine V_isub (pc := 54) C dX5_other_54 ?_
            obtain ⟨r55, hq, h⟩ := ob1_some h
            refine V_callVR (pc := 55) (rest := [.int r47]) (st2 := [.int r55, .int r47]) C (X4_summedAt_ok (a := (sh a 39)) hq) gX5_other_X4_summedAt rfl ⟨rfl, hdX4_summedAt⟩ ⟨Nat.le_of_ble_eq_true rfl, Nat.le_of_ble_eq_true rfl⟩ ⟨Nat.le_refl _, Nat.le_refl _⟩ [39, 40, 41] rfl 39 4 rfl rfl rfl (Nat.le_of_ble_eq_true rfl) dX5_other_55 rfl ?_
            refine V_isub (pc := 58) C dX5_other_58 ?_
            refine V_istore (pc := 59) (lv' := [(6, .int (r47 - r55)), (5, .ref (a 39)), (0, .ref (a 0)), (1, .int p0), (2, .int p1), (3, .int p2), (4, .int p3)]) C dX5_other_59 (Nat.le_of_ble_eq_true rfl) rfl ?_
            refine V_iload (pc := 61) C dX5_other_61 0 rfl ?_
            refine V_aload (pc := 63) C dX5_other_63 1 rfl ?_
            refine V_get (pc := 65) (v := .int (U 1).1) C 39 4 1 hiX5_other_4 rfl rfl (by decide) wX5_other_k3 rfl dX5_other_65 ?_
            refine V_imul (pc := 68) C dX5_other_68 ?_
            refine V_i2l (pc := 69) C dX5_other_69 ?_
            refine V_iload_n (pc := 70) C dX5_other_70 rfl 4 rfl ?_
            refine V_i2l (pc := 71) C dX5_other_71 ?_
            refine V_iload (pc := 72) C dX5_other_72 6 rfl ?_
            obtain ⟨r74, hq, h⟩ := ob1_some h
            refine V_callSR (pc := 74) (rest := []) (st2 := [.long r74]) C (X5_inLowestTerms_ok hq) gX5_other_X5_inLowestTerms rfl hdX5_inLowestTerms ⟨Nat.le_of_ble_eq_true rfl, Nat.le_of_ble_eq_true rfl⟩ ⟨Nat.le_refl _, Nat.le_refl _⟩ [] rfl rfl (Nat.le_of_ble_eq_true rfl) dX5_other_74 rfl ?_
            refine V_l2i (pc := 77) C dX5_other_77 ?_
            cases h
            subst hQ
            exact V_iretR C dX5_other_78
          replace h := t_neg e41 h
          by_cases e41 : gU (Int32.toNatClampNeg p0) = some (a 42)
          · replace h := t_pos e41 h
            refine V_aald (pc := 41) C 3 3 rfl rfl b41 e41 dX5_other_41 ?_
            refine V_astore (pc := 42) (lv' := [(5, .ref (a 42)), (0, .ref (a 0)), (1, .int p0), (2, .int p1), (3, .int p2), (4, .int p3)]) C dX5_other_42 (Nat.le_of_ble_eq_true rfl) rfl ?_
            refine V_aload (pc := 44) C dX5_other_44 0 rfl ?_
            refine V_iload_n (pc := 46) C dX5_other_46 rfl 4 rfl ?_
            obtain ⟨r47, hq, h⟩ := ob1_some h
            refine V_callVR (pc := 47) (rest := []) (st2 := [.int r47]) C (X4_summedAt_ok (a := (sh a 42)) hq) gX5_other_X4_summedAt rfl ⟨rfl, hdX4_summedAt⟩ ⟨Nat.le_of_ble_eq_true rfl, Nat.le_of_ble_eq_true rfl⟩ ⟨Nat.le_refl _, Nat.le_refl _⟩ [42, 43, 44] rfl 42 4 rfl rfl rfl (Nat.le_of_ble_eq_true rfl) dX5_other_47 rfl ?_
            refine V_aload (pc := 50) C dX5_other_50 0 rfl ?_
            refine V_iload_n (pc := 52) C dX5_other_52 rfl 4 rfl ?_
            refine V_iload_n (pc := 53) C dX5_other_53 rfl 3 rfl ?_
            refine V_isub (pc := 54) C dX5_other_54 ?_
            obtain ⟨r55, hq, h⟩ := ob1_some h
            refine V_callVR (pc := 55) (rest := [.int r47]) (st2 := [.int r55, .int r47]) C (X4_summedAt_ok (a := (sh a 42)) hq) gX5_other_X4_summedAt rfl ⟨rfl, hdX4_summedAt⟩ ⟨Nat.le_of_ble_eq_true rfl, Nat.le_of_ble_eq_true rfl⟩ ⟨Nat.le_refl _, Nat.le_refl _⟩ [42, 43, 44] rfl 42 4 rfl rfl rfl (Nat.le_of_ble_eq_true rfl) dX5_other_55 rfl ?_
            refine V_isub (pc := 58) C dX5_other_58 ?_
            refine V_istore (pc := 59) (lv' := [(6, .int (r47 - r55)), (5, .ref (a 42)), (0, .ref (a 0)), (1, .int p0), (2, .int p1), (3, .int p2), (4, .int p3)]) C dX5_other_59 (Nat.le_of_ble_eq_true rfl) rfl ?_
            refine V_iload (pc := 61) C dX5_other_61 0 rfl ?_
            refine V_aload (pc := 63) C dX5_other_63 1 rfl ?_
            refine V_get (pc := 65) (v := .int (U 2).1) C 42 4 1 hiX5_other_4 rfl rfl (by decide) wX5_other_k3 rfl dX5_other_65 ?_
            refine V_imul (pc := 68) C dX5_other_68 ?_
            refine V_i2l (pc := 69) C dX5_other_69 ?_
            refine V_iload_n (pc := 70) C dX5_other_70 rfl 4 rfl ?_
            refine V_i2l (pc := 71) C dX5_other_71 ?_
            refine V_iload (pc := 72) C dX5_other_72 6 rfl ?_
            obtain ⟨r74, hq, h⟩ := ob1_some h
            refine V_callSR (pc := 74) (rest := []) (st2 := [.long r74]) C (X5_inLowestTerms_ok hq) gX5_other_X5_inLowestTerms rfl hdX5_inLowestTerms ⟨Nat.le_of_ble_eq_true rfl, Nat.le_of_ble_eq_true rfl⟩ ⟨Nat.le_refl _, Nat.le_refl _⟩ [] rfl rfl (Nat.le_of_ble_eq_true rfl) dX5_other_74 rfl ?_
            refine V_l2i (pc := 77) C dX5_other_77 ?_
            cases h
            subst hQ
            exact V_iretR C dX5_other_78
          replace h := t_neg e41 h
          by_cases e41 : gU (Int32.toNatClampNeg p0) = some (a 45)
          · replace h := t_pos e41 h
            refine V_aald (pc := 41) C 3 3 rfl rfl b41 e41 dX5_other_41 ?_
            refine V_astore (pc := 42) (lv' := [(5, .ref (a 45)), (0, .ref (a 0)), (1, .int p0), (2, .int p1), (3, .int p2), (4, .int p3)]) C dX5_other_42 (Nat.le_of_ble_eq_true rfl) rfl ?_
            refine V_aload (pc := 44) C dX5_other_44 0 rfl ?_
            refine V_iload_n (pc := 46) C dX5_other_46 rfl 4 rfl ?_
            obtain ⟨r47, hq, h⟩ := ob1_some h
            refine V_callVR (pc := 47) (rest := []) (st2 := [.int r47]) C (X4_summedAt_ok (a := (sh a 45)) hq) gX5_other_X4_summedAt rfl ⟨rfl, hdX4_summedAt⟩ ⟨Nat.le_of_ble_eq_true rfl, Nat.le_of_ble_eq_true rfl⟩ ⟨Nat.le_refl _, Nat.le_refl _⟩ [45, 46, 47] rfl 45 4 rfl rfl rfl (Nat.le_of_ble_eq_true rfl) dX5_other_47 rfl ?_
            refine V_aload (pc := 50) C dX5_other_50 0 rfl ?_
            refine V_iload_n (pc := 52) C dX5_other_52 rfl 4 rfl ?_
            refine V_iload_n (pc := 53) C dX5_other_53 rfl 3 rfl ?_
            refine V_isub (pc := 54) C dX5_other_54 ?_
            obtain ⟨r55, hq, h⟩ := ob1_some h
            refine V_callVR (pc := 55) (rest := [.int r47]) (st2 := [.int r55, .int r47]) C (X4_summedAt_ok (a := (sh a 45)) hq) gX5_other_X4_summedAt rfl ⟨rfl, hdX4_summedAt⟩ ⟨Nat.le_of_ble_eq_true rfl, Nat.le_of_ble_eq_true rfl⟩ ⟨Nat.le_refl _, Nat.le_refl _⟩ [45, 46, 47] rfl 45 4 rfl rfl rfl (Nat.le_of_ble_eq_true rfl) dX5_other_55 rfl ?_
            refine V_isub (pc := 58) C dX5_other_58 ?_
            refine V_istore (pc := 59) (lv' := [(6, .int (r47 - r55)), (5, .ref (a 45)), (0, .ref (a 0)), (1, .int p0), (2, .int p1), (3, .int p2), (4, .int p3)]) C dX5_other_59 (Nat.le_of_ble_eq_true rfl) rfl ?_
            refine V_iload (pc := 61) C dX5_other_61 0 rfl ?_
            refine V_aload (pc := 63) C dX5_other_63 1 rfl ?_
            refine V_get (pc := 65) (v := .int (U 3).1) C 45 4 1 hiX5_other_4 rfl rfl (by decide) wX5_other_k3 rfl dX5_other_65 ?_
            refine V_imul (pc := 68) C dX5_other_68 ?_
            refine V_i2l (pc := 69) C dX5_other_69 ?_
            refine V_iload_n (pc := 70) C dX5_other_70 rfl 4 rfl ?_
            refine V_i2l (pc := 71) C dX5_other_71 ?_
            refine V_iload (pc := 72) C dX5_other_72 6 rfl ?_
            obtain ⟨r74, hq, h⟩ := ob1_some h
            refine V_callSR (pc := 74) (rest := []) (st2 := [.long r74]) C (X5_inLowestTerms_ok hq) gX5_other_X5_inLowestTerms rfl hdX5_inLowestTerms ⟨Nat.le_of_ble_eq_true rfl, Nat.le_of_ble_eq_true rfl⟩ ⟨Nat.le_refl _, Nat.le_refl _⟩ [] rfl rfl (Nat.le_of_ble_eq_true rfl) dX5_other_74 rfl ?_
            refine V_l2i (pc := 77) C dX5_other_77 ?_
            cases h
            subst hQ
            exact V_iretR C dX5_other_78
          replace h := t_neg e41 h
          cases h
        · replace h := t_pos c30 h
          refine V_ldc (pc := 33) (v := -1000003) C dX5_other_33 wX5_other_k0 ?_
          cases h
          subst hQ
          exact V_iretR C dX5_other_35
  · replace h := t_pos c5 h
    refine V_ldc (pc := 8) (v := -1000002) C dX5_other_8 wX5_other_k5 ?_
    cases h
    subst hQ
    exact V_iretR C dX5_other_10
def X5_canFit (a : Nat → Nat) (q : Nat → Int32) (pg : Nat → Int32) (gS : Nat → Option Nat) (gU : Nat → Option Nat) (rd : RdT) (ft : FtT) (S : Nat → StT) (U : Nat → UnT) (p0 : Int32) (p1 : Int32) : Option (Int32) :=
  if p0 < (1 : Int32) then (some (0 : Int32)) else (if ((1 : Int32) <<< ((q 6) &&& 31)) ≤ p0 then (some (0 : Int32)) else (if p1 < (1 : Int32) then (some (0 : Int32)) else (if (4 : Int32) < p1 then (some (0 : Int32)) else (some (1 : Int32)))))
theorem wX5_canFit_k0 : Cond.fieldLink RX5 179 (TX5 6).1 (TX5 6).2.1 (TX5 6).2.2.1 ∈ wsX5_canFit := by decide +kernel
theorem hiX5_canFit_5 : ∀ w ∈ u_ws RX5 TX5 11, w ∈ wsX5_canFit := fun _ h => List.mem_cons_of_mem _ (List.mem_append_right _ h)
theorem hdX5_canFit : yX5_canFit.cls ≠ "java/lang/invoke/MethodHandle" ∧ yX5_canFit.cls ≠ "java/lang/invoke/VarHandle" ∧ (parseMethodDescriptor yX5_canFit.desc).map (fun d => d.parameters.length) = some 2 := by decide +kernel
set_option maxHeartbeats 4000000 in
set_option maxRecDepth 100000 in
theorem X5_canFit_ok {l : Launch} {D : va_G} {Y : Nat → ClassId}  {a : Nat → Nat} {q : Nat → Int32} {pg : Nat → Int32} {gS : Nat → Option Nat} {gU : Nat → Option Nat} {rd : RdT} {ft : FtT} {S : Nat → StT} {U : Nat → UnT} {p0 : Int32} {p1 : Int32} {r : Int32} (h : X5_canFit a q pg gS gU rd ft S U p0 p1 = some r) : MR l yX5_canFit wsX5_canFit 0 0 D Y [.ref (a 0), .int p0, .int p1] (wOff Y a q pg gS gU rd ft S U) (some (.int r)) := by
  refine MR_of (cc := cX5_canFit) (nL := 3) (ret := some .boolean) (lv0 := [(0, .ref (a 0)), (1, .int p0), (2, .int p1)]) (by decide) rfl (Nat.le_of_ble_eq_true rfl) rfl (fun X Q C hQ => ?_)
  unfold X5_canFit at h
  refine V_iload_n (pc := 0) C dX5_canFit_0 rfl 1 rfl ?_
  refine V_iconst (pc := 1) (v := 1) C dX5_canFit_1 rfl ?_
  refine V_icmp_lt (pc := 2) C 29 dX5_canFit_2 rfl (fun c2 => ?_) (fun c2 => ?_)
  · replace h := t_pos c2 h
    refine V_iconst (pc := 29) (v := 0) C dX5_canFit_29 rfl ?_
    cases h
    subst hQ
    exact V_zretR C (by decide) dX5_canFit_30
  · replace h := t_neg c2 h
    refine V_iload_n (pc := 5) C dX5_canFit_5 rfl 1 rfl ?_
    refine V_iconst (pc := 6) (v := 1) C dX5_canFit_6 rfl ?_
    refine V_aload_n (pc := 7) C dX5_canFit_7 rfl 0 rfl ?_
    refine V_get (pc := 8) (v := .int (q 6)) C 0 5 6 hiX5_canFit_5 rfl rfl (by decide) wX5_canFit_k0 rfl dX5_canFit_8 ?_
    refine V_ishl (pc := 11) C dX5_canFit_11 ?_
    refine V_icmp_ge (pc := 12) C 29 dX5_canFit_12 rfl (fun c12 => ?_) (fun c12 => ?_)
    · replace h := t_pos c12 h
      refine V_iconst (pc := 29) (v := 0) C dX5_canFit_29 rfl ?_
      cases h
      subst hQ
      exact V_zretR C (by decide) dX5_canFit_30
    · replace h := t_neg c12 h
      refine V_iload_n (pc := 15) C dX5_canFit_15 rfl 2 rfl ?_
      refine V_iconst (pc := 16) (v := 1) C dX5_canFit_16 rfl ?_
      refine V_icmp_lt (pc := 17) C 29 dX5_canFit_17 rfl (fun c17 => ?_) (fun c17 => ?_)
      · replace h := t_pos c17 h
        refine V_iconst (pc := 29) (v := 0) C dX5_canFit_29 rfl ?_
        cases h
        subst hQ
        exact V_zretR C (by decide) dX5_canFit_30
      · replace h := t_neg c17 h
        refine V_iload_n (pc := 20) C dX5_canFit_20 rfl 2 rfl ?_
        refine V_iconst (pc := 21) (v := 4) C dX5_canFit_21 rfl ?_
        refine V_icmp_gt (pc := 22) C 29 dX5_canFit_22 rfl (fun c22 => ?_) (fun c22 => ?_)
        · replace h := t_pos c22 h
          refine V_iconst (pc := 29) (v := 0) C dX5_canFit_29 rfl ?_
          cases h
          subst hQ
          exact V_zretR C (by decide) dX5_canFit_30
        · replace h := t_neg c22 h
          refine V_iconst (pc := 25) (v := 1) C dX5_canFit_25 rfl ?_
          refine V_goto (pc := 26) C 30 dX5_canFit_26 rfl ?_
          cases h
          subst hQ
          exact V_zretR C (by decide) dX5_canFit_30
def X5_isFitted (p0 : Int32) (p1 : Int32) : Option (Int32) :=
  if p0 < 0 then (some (0 : Int32)) else (if p1 ≤ p0 then (some (0 : Int32)) else (some (1 : Int32)))
theorem hdX5_isFitted : yX5_isFitted.cls ≠ "java/lang/invoke/MethodHandle" ∧ yX5_isFitted.cls ≠ "java/lang/invoke/VarHandle" ∧ (parseMethodDescriptor yX5_isFitted.desc).map (fun d => d.parameters.length) = some 2 := by decide +kernel
set_option maxHeartbeats 4000000 in
set_option maxRecDepth 100000 in
theorem X5_isFitted_ok {l : Launch} {D : va_G} {Y : Nat → ClassId}  {p0 : Int32} {p1 : Int32} {r : Int32} (h : X5_isFitted p0 p1 = some r) : MR l yX5_isFitted wsX5_isFitted 0 0 D Y [.int p0, .int p1] ([]) (some (.int r)) := by
  refine MR_of (cc := cX5_isFitted) (nL := 2) (ret := some .boolean) (lv0 := [(0, .int p0), (1, .int p1)]) (by decide) rfl (Nat.le_of_ble_eq_true rfl) rfl (fun X Q C hQ => ?_)
  unfold X5_isFitted at h
  refine V_iload_n (pc := 0) C dX5_isFitted_0 rfl 0 rfl ?_
  refine V_if_lt (pc := 1) C 13 dX5_isFitted_1 rfl (fun c1 => ?_) (fun c1 => ?_)
  · replace h := t_pos c1 h
    refine V_iconst (pc := 13) (v := 0) C dX5_isFitted_13 rfl ?_
    cases h
    subst hQ
    exact V_zretR C (by decide) dX5_isFitted_14
  · replace h := t_neg c1 h
    refine V_iload_n (pc := 4) C dX5_isFitted_4 rfl 0 rfl ?_
    refine V_iload_n (pc := 5) C dX5_isFitted_5 rfl 1 rfl ?_
    refine V_icmp_ge (pc := 6) C 13 dX5_isFitted_6 rfl (fun c6 => ?_) (fun c6 => ?_)
    · replace h := t_pos c6 h
      refine V_iconst (pc := 13) (v := 0) C dX5_isFitted_13 rfl ?_
      cases h
      subst hQ
      exact V_zretR C (by decide) dX5_isFitted_14
    · replace h := t_neg c6 h
      refine V_iconst (pc := 9) (v := 1) C dX5_isFitted_9 rfl ?_
      refine V_goto (pc := 10) C 14 dX5_isFitted_10 rfl ?_
      cases h
      subst hQ
      exact V_zretR C (by decide) dX5_isFitted_14
