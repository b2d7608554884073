def X5_letter (a : Nat → Nat) (q : Nat → Int32) (pg : Nat → Int32) (gS : Nat → Option Nat) (gU : Nat → Option Nat) (rd : RdT) (ft : FtT) (S : Nat → StT) (U : Nat → UnT) (p0 : Int32) : Option (Int32 × Int32 × (Nat → Int32)) :=
  if p0 < (32 : Int32) then (some ((-1000003 : Int32), (q 5), pg)) else (if p0 ≤ (126 : Int32) then (if (q 5) < (40 : Int32) then (chk (inB (q 5) 40) (some (((q 5) + (1 : Int32)), ((q 5) + (1 : Int32)), (upd pg (Int32.toNatClampNeg (q 5)) p0)))) else (some ((-1000005 : Int32), (q 5), pg))) else (some ((-1000003 : Int32), (q 5), pg)))
theorem wX5_letter_k0 : Cond.constant RX5 41 (-1000003) ∈ wsX5_letter := by decide +kernel
theorem wX5_letter_k1 : Cond.fieldLink RX5 42 (TX5 5).1 (TX5 5).2.1 (TX5 5).2.2.1 ∈ wsX5_letter := by decide +kernel
theorem hiX5_letter_5 : ∀ w ∈ u_ws RX5 TX5 11, w ∈ wsX5_letter := fun _ h => List.mem_cons_of_mem _ (List.mem_append_right _ h)
theorem wX5_letter_k3 : Cond.fieldLink RX5 9 (TX5 0).1 (TX5 0).2.1 (TX5 0).2.2.1 ∈ wsX5_letter := by decide +kernel
theorem wX5_letter_k4 : Cond.constant RX5 46 (-1000005) ∈ wsX5_letter := by decide +kernel
theorem hdX5_letter : yX5_letter.cls ≠ "java/lang/invoke/MethodHandle" ∧ yX5_letter.cls ≠ "java/lang/invoke/VarHandle" ∧ (parseMethodDescriptor yX5_letter.desc).map (fun d => d.parameters.length) = some 1 := by decide +kernel
set_option maxHeartbeats 4000000 in
set_option maxRecDepth 100000 in
theorem X5_letter_ok {l : Launch} {D : va_G} {Y : Nat → ClassId}  {a : Nat → Nat} {q : Nat → Int32} {pg : Nat → Int32} {gS : Nat → Option Nat} {gU : Nat → Option Nat} {rd : RdT} {ft : FtT} {S : Nat → StT} {U : Nat → UnT} {p0 : Int32} {r : Int32} {uq5 : Int32} {upg : Nat → Int32} (h : X5_letter a q pg gS gU rd ft S U p0 = some (r, uq5, upg)) : MW l yX5_letter wsX5_letter 0 0 D Y [.ref (a 0), .int p0] (wOff Y a q pg gS gU rd ft S U) (wOff Y a (up q 5 uq5) upg gS gU rd ft S U) (some (.int r)) := by
  refine MW_of (cc := cX5_letter) (nL := 2) (ret := some .int) (lv0 := [(0, .ref (a 0)), (1, .int p0)]) (by decide) rfl (Nat.le_of_ble_eq_true rfl) rfl rfl (fun X Af Q C hA hQ => ?_)
  unfold X5_letter at h
  refine V_iload_n (pc := 0) C dX5_letter_0 rfl 1 rfl ?_
  refine V_bipush (pc := 1) (v := 32) C dX5_letter_1 rfl ?_
  refine V_icmp_lt (pc := 3) C 12 dX5_letter_3 rfl (fun c3 => ?_) (fun c3 => ?_)
  · replace h := t_pos c3 h
    refine V_ldc (pc := 12) (v := -1000003) C dX5_letter_12 wX5_letter_k0 ?_
    cases h
    subst hQ
    exact V_iretW C dX5_letter_14
  · replace h := t_neg c3 h
    refine V_iload_n (pc := 6) C dX5_letter_6 rfl 1 rfl ?_
    refine V_bipush (pc := 7) (v := 126) C dX5_letter_7 rfl ?_
    refine V_icmp_le (pc := 9) C 15 dX5_letter_9 rfl (fun c9 => ?_) (fun c9 => ?_)
    · replace h := t_pos c9 h
      refine V_aload_n (pc := 15) C dX5_letter_15 rfl 0 rfl ?_
      refine V_get (pc := 16) (v := .int (q 5)) C 0 5 5 hiX5_letter_5 rfl rfl (by decide) wX5_letter_k1 rfl dX5_letter_16 ?_
      refine V_bipush (pc := 19) (v := 40) C dX5_letter_19 rfl ?_
      refine V_icmp_lt (pc := 21) C 27 dX5_letter_21 rfl (fun c21 => ?_) (fun c21 => ?_)
      · replace h := t_pos c21 h
        refine V_aload_n (pc := 27) C dX5_letter_27 rfl 0 rfl ?_
        refine V_get (pc := 28) (v := .ref (a 1)) C 0 5 0 hiX5_letter_5 rfl rfl (by decide) wX5_letter_k3 rfl dX5_letter_28 ?_
        refine V_aload_n (pc := 31) C dX5_letter_31 rfl 0 rfl ?_
        refine V_get (pc := 32) (v := .int (q 5)) C 0 5 5 hiX5_letter_5 rfl rfl (by decide) wX5_letter_k1 rfl dX5_letter_32 ?_
        refine V_iload_n (pc := 35) C dX5_letter_35 rfl 1 rfl ?_
        obtain ⟨b36, h⟩ := chk_some h
        refine V_iast (pc := 36) (ws' := wOff Y a q (upd pg (Int32.toNatClampNeg (q 5)) p0) gS gU rd ft S U) C 1 rfl b36 dX5_letter_36 rfl ?_
        refine V_aload_n (pc := 37) C dX5_letter_37 rfl 0 rfl ?_
        refine V_dup (pc := 38) C dX5_letter_38 rfl ?_
        refine V_get (pc := 39) (v := .int (q 5)) C 0 5 5 hiX5_letter_5 rfl rfl (by decide) wX5_letter_k1 rfl dX5_letter_39 ?_
        refine V_iconst (pc := 42) (v := 1) C dX5_letter_42 rfl ?_
        refine V_iadd (pc := 43) C dX5_letter_43 ?_
        refine V_put (pc := 44) (ws' := wOff Y a (up q 5 ((q 5) + (1 : Int32))) (upd pg (Int32.toNatClampNeg (q 5)) p0) gS gU rd ft S U) C 0 5 5 hiX5_letter_5 tyX5_ok nmX5 rfl rfl (by decide) wX5_letter_k1 rfl rfl rfl (Nat.le_of_ble_eq_true rfl) dX5_letter_44 rfl ?_
        refine V_aload_n (pc := 47) C dX5_letter_47 rfl 0 rfl ?_
        refine V_get (pc := 48) (v := .int ((q 5) + (1 : Int32))) C 0 5 5 hiX5_letter_5 rfl rfl (by decide) wX5_letter_k1 rfl dX5_letter_48 ?_
        cases h
        subst hQ
        exact V_iretW C dX5_letter_51
      · replace h := t_neg c21 h
        refine V_ldc (pc := 24) (v := -1000005) C dX5_letter_24 wX5_letter_k4 ?_
        cases h
        subst hQ
        exact V_iretW C dX5_letter_26
    · replace h := t_neg c9 h
      refine V_ldc (pc := 12) (v := -1000003) C dX5_letter_12 wX5_letter_k0 ?_
      cases h
      subst hQ
      exact V_iretW C dX5_letter_14
def X5_blank (a : Nat → Nat) (q : Nat → Int32) (pg : Nat → Int32) (gS : Nat → Option Nat) (gU : Nat → Option Nat) (rd : RdT) (ft : FtT) (S : Nat → StT) (U : Nat → UnT) : Option (Int32 × Int32) :=
  some ((q 5), (0 : Int32))
theorem wX5_blank_k0 : Cond.fieldLink RX5 42 (TX5 5).1 (TX5 5).2.1 (TX5 5).2.2.1 ∈ wsX5_blank := by decide +kernel
theorem hiX5_blank_5 : ∀ w ∈ u_ws RX5 TX5 11, w ∈ wsX5_blank := fun _ h => List.mem_cons_of_mem _ (List.mem_append_right _ h)
theorem hdX5_blank : yX5_blank.cls ≠ "java/lang/invoke/MethodHandle" ∧ yX5_blank.cls ≠ "java/lang/invoke/VarHandle" ∧ (parseMethodDescriptor yX5_blank.desc).map (fun d => d.parameters.length) = some 0 := by decide +kernel
set_option maxHeartbeats 4000000 in
set_option maxRecDepth 100000 in
theorem X5_blank_ok {l : Launch} {D : va_G} {Y : Nat → ClassId}  {a : Nat → Nat} {q : Nat → Int32} {pg : Nat → Int32} {gS : Nat → Option Nat} {gU : Nat → Option Nat} {rd : RdT} {ft : FtT} {S : Nat → StT} {U : Nat → UnT} {r : Int32} {uq5 : Int32} (h : X5_blank a q pg gS gU rd ft S U = some (r, uq5)) : MW l yX5_blank wsX5_blank 0 0 D Y [.ref (a 0)] (wOff Y a q pg gS gU rd ft S U) (wOff Y a (up q 5 uq5) pg gS gU rd ft S U) (some (.int r)) := by
  refine MW_of (cc := cX5_blank) (nL := 2) (ret := some .int) (lv0 := [(0, .ref (a 0))]) (by decide) rfl (Nat.le_of_ble_eq_true rfl) rfl rfl (fun X Af Q C hA hQ => ?_)
  unfold X5_blank at h
  refine V_aload_n (pc := 0) C dX5_blank_0 rfl 0 rfl ?_
  refine V_get (pc := 1) (v := .int (q 5)) C 0 5 5 hiX5_blank_5 rfl rfl (by decide) wX5_blank_k0 rfl dX5_blank_1 ?_
  refine V_istore_n (pc := 4) (lv' := [(1, .int (q 5)), (0, .ref (a 0))]) C dX5_blank_4 rfl (Nat.le_of_ble_eq_true rfl) rfl ?_
  refine V_aload_n (pc := 5) C dX5_blank_5 rfl 1 rfl ?_
  refine V_iconst (pc := 6) (v := 0) C dX5_blank_6 rfl ?_
  refine V_put (pc := 7) (ws' := wOff Y a (up q 5 (0 : Int32)) pg gS gU rd ft S U) C 0 5 5 hiX5_blank_5 tyX5_ok nmX5 rfl rfl (by decide) wX5_blank_k0 rfl rfl rfl (Nat.le_of_ble_eq_true rfl) dX5_blank_7 rfl ?_
  refine V_iload_n (pc := 10) C dX5_blank_10 rfl 0 rfl ?_
  cases h
  subst hQ
  exact V_iretW C dX5_blank_11
def X5_fault (a : Nat → Nat) (q : Nat → Int32) (pg : Nat → Int32) (gS : Nat → Option Nat) (gU : Nat → Option Nat) (rd : RdT) (ft : FtT) (S : Nat → StT) (U : Nat → UnT) : Option (Int32 × RdT) :=
  ob9 (X1_read rd.1 rd.2.1 rd.2.2.1 rd.2.2.2.1 rd.2.2.2.2.1 rd.2.2.2.2.2.1 rd.2.2.2.2.2.2.1 rd.2.2.2.2.2.2.2 pg (q 5)) fun r12 opl_12 oln_12 oou_12 oim_12 on1_12 of1_12 on2_12 of2_12 =>
  some (r12, (opl_12, oln_12, oou_12, oim_12, on1_12, of1_12, on2_12, of2_12))
theorem wX5_fault_k0 : Cond.fieldLink RX5 28 (TX5 3).1 (TX5 3).2.1 (TX5 3).2.2.1 ∈ wsX5_fault := by decide +kernel
theorem hiX5_fault_5 : ∀ w ∈ u_ws RX5 TX5 11, w ∈ wsX5_fault := fun _ h => List.mem_cons_of_mem _ (List.mem_append_left _ (List.mem_append_left _ (List.mem_append_right _ h)))
theorem wX5_fault_k2 : Cond.fieldLink RX5 9 (TX5 0).1 (TX5 0).2.1 (TX5 0).2.2.1 ∈ wsX5_fault := by decide +kernel
theorem wX5_fault_k3 : Cond.fieldLink RX5 42 (TX5 5).1 (TX5 5).2.1 (TX5 5).2.2.1 ∈ wsX5_fault := by decide +kernel
theorem hdX5_fault : yX5_fault.cls ≠ "java/lang/invoke/MethodHandle" ∧ yX5_fault.cls ≠ "java/lang/invoke/VarHandle" ∧ (parseMethodDescriptor yX5_fault.desc).map (fun d => d.parameters.length) = some 0 := by decide +kernel
set_option maxHeartbeats 4000000 in
set_option maxRecDepth 100000 in
theorem X5_fault_ok {l : Launch} {D : va_G} {Y : Nat → ClassId}  {a : Nat → Nat} {q : Nat → Int32} {pg : Nat → Int32} {gS : Nat → Option Nat} {gU : Nat → Option Nat} {rd : RdT} {ft : FtT} {S : Nat → StT} {U : Nat → UnT} {r : Int32} {urd : RdT} (h : X5_fault a q pg gS gU rd ft S U = some (r, urd)) : MW l yX5_fault wsX5_fault 6 137 D Y [.ref (a 0)] (wOff Y a q pg gS gU rd ft S U) (wOff Y a q pg gS gU urd ft S U) (some (.int r)) := by
  refine MW_of (cc := cX5_fault) (nL := 1) (ret := some .int) (lv0 := [(0, .ref (a 0))]) (by decide) rfl (Nat.le_of_ble_eq_true rfl) rfl rfl (fun X Af Q C hA hQ => ?_)
  unfold X5_fault at h
  refine V_aload_n (pc := 0) C dX5_fault_0 rfl 0 rfl ?_
  refine V_get (pc := 1) (v := .ref (a 4)) C 0 5 3 hiX5_fault_5 rfl rfl (by decide) wX5_fault_k0 rfl dX5_fault_1 ?_
  refine V_aload_n (pc := 4) C dX5_fault_4 rfl 0 rfl ?_
  refine V_get (pc := 5) (v := .ref (a 1)) C 0 5 0 hiX5_fault_5 rfl rfl (by decide) wX5_fault_k2 rfl dX5_fault_5 ?_
  refine V_aload_n (pc := 8) C dX5_fault_8 rfl 0 rfl ?_
  refine V_get (pc := 9) (v := .int (q 5)) C 0 5 5 hiX5_fault_5 rfl rfl (by decide) wX5_fault_k3 rfl dX5_fault_9 ?_
  obtain ⟨r12, opl_12, oln_12, oou_12, oim_12, on1_12, of1_12, on2_12, of2_12, hq, h⟩ := ob9_some h
  refine V_callVW (pc := 12) (rest := []) (st2 := [.int r12]) (ws' := wOff Y a q pg gS gU (opl_12, oln_12, oou_12, oim_12, on1_12, of1_12, on2_12, of2_12) ft S U) C hA (X1_read_ok (a := (sh a 4)) (ax2 := (a 1)) hq) gX5_fault_X1_read rfl ⟨rfl, hdX1_read⟩ ⟨Nat.le_of_ble_eq_true rfl, Nat.le_of_ble_eq_true rfl⟩ ⟨Nat.le_refl _, Nat.le_refl _⟩ [4, 5, 6, 7, 8, 1] rfl rfl 4 1 rfl rfl rfl (Nat.le_of_ble_eq_true rfl) dX5_fault_12 rfl rfl ?_
  cases h
  subst hQ
  exact V_iretW C dX5_fault_15
def X5_takeStorm (a : Nat → Nat) (q : Nat → Int32) (pg : Nat → Int32) (gS : Nat → Option Nat) (gU : Nat → Option Nat) (rd : RdT) (ft : FtT) (S : Nat → StT) (U : Nat → UnT) : Option (Int32 × Int32 × (Nat → StT)) :=
  if (q 6) < (3 : Int32) then (chk (inB (q 6) 3) (if gS (Int32.toNatClampNeg (q 6)) = some (a 15) then (ob7 (X3_become ((S 0).1) ((S 0).2.1) ((S 0).2.2.1) ((S 0).2.2.2.1) ((S 0).2.2.2.2.1) ((S 0).2.2.2.2.2.1) ((S 0).2.2.2.2.2.2) rd.2.2.2.2.1 rd.2.2.2.2.2.1 rd.2.2.2.2.2.2.1 rd.2.2.2.2.2.2.2) fun on1_34 of1_34 on2_34 of2_34 on3_34 of3_34 oev_34 =>
  some ((((q 6) + (1 : Int32)) - (1 : Int32)), ((q 6) + (1 : Int32)), (up S 0 (on1_34, of1_34, on2_34, of2_34, on3_34, of3_34, oev_34)))) else (if gS (Int32.toNatClampNeg (q 6)) = some (a 22) then (ob7 (X3_become ((S 1).1) ((S 1).2.1) ((S 1).2.2.1) ((S 1).2.2.2.1) ((S 1).2.2.2.2.1) ((S 1).2.2.2.2.2.1) ((S 1).2.2.2.2.2.2) rd.2.2.2.2.1 rd.2.2.2.2.2.1 rd.2.2.2.2.2.2.1 rd.2.2.2.2.2.2.2) fun on1_34 of1_34 on2_34 of2_34 on3_34 of3_34 oev_34 =>
  some ((((q 6) + (1 : Int32)) - (1 : Int32)), ((q 6) + (1 : Int32)), (up S 1 (on1_34, of1_34, on2_34, of2_34, on3_34, of3_34, oev_34)))) else (if gS (Int32.toNatClampNeg (q 6)) = some (a 29) then (ob7 (X3_become ((S 2).1) ((S 2).2.1) ((S 2).2.2.1) ((S 2).2.2.2.1) ((S 2).2.2.2.2.1) ((S 2).2.2.2.2.2.1) ((S 2).2.2.2.2.2.2) rd.2.2.2.2.1 rd.2.2.2.2.2.1 rd.2.2.2.2.2.2.1 rd.2.2.2.2.2.2.2) fun on1_34 of1_34 on2_34 of2_34 on3_34 of3_34 oev_34 =>
  some ((((q 6) + (1 : Int32)) - (1 : Int32)), ((q 6) + (1 : Int32)), (up S 2 (on1_34, of1_34, on2_34, of2_34, on3_34, of3_34, oev_34)))) else (none))))) else (some ((-1000005 : Int32), (q 6), S))
theorem wX5_takeStorm_k0 : Cond.fieldLink RX5 179 (TX5 6).1 (TX5 6).2.1 (TX5 6).2.2.1 ∈ wsX5_takeStorm := by decide +kernel
theorem hiX5_takeStorm_5 : ∀ w ∈ u_ws RX5 TX5 11, w ∈ wsX5_takeStorm := fun _ h => List.mem_cons_of_mem _ (List.mem_append_left _ (List.mem_append_left _ (List.mem_append_left _ (List.mem_append_right _ h))))
theorem wX5_takeStorm_k2 : Cond.fieldLink RX5 15 (TX5 1).1 (TX5 1).2.1 (TX5 1).2.2.1 ∈ wsX5_takeStorm := by decide +kernel
theorem wX5_takeStorm_k3 : Cond.fieldLink RX5 28 (TX5 3).1 (TX5 3).2.1 (TX5 3).2.2.1 ∈ wsX5_takeStorm := by decide +kernel
theorem wX5_takeStorm_k4 : Cond.fieldLink RX5 223 (TX1 0).1 (TX1 0).2.1 (TX1 0).2.2.1 ∈ wsX5_takeStorm := by decide +kernel
theorem hiX5_takeStorm_1 : ∀ w ∈ u_ws RX1 TX1 6, w ∈ wsX5_takeStorm := fun _ h => List.mem_cons_of_mem _ (List.mem_append_left _ (List.mem_append_left _ (List.mem_append_right _ h)))
theorem wX5_takeStorm_k6 : Cond.fieldLink RX5 224 (TX1 1).1 (TX1 1).2.1 (TX1 1).2.2.1 ∈ wsX5_takeStorm := by decide +kernel
theorem wX5_takeStorm_k7 : Cond.constant RX5 46 (-1000005) ∈ wsX5_takeStorm := by decide +kernel
theorem hdX5_takeStorm : yX5_takeStorm.cls ≠ "java/lang/invoke/MethodHandle" ∧ yX5_takeStorm.cls ≠ "java/lang/invoke/VarHandle" ∧ (parseMethodDescriptor yX5_takeStorm.desc).map (fun d => d.parameters.length) = some 0 := by decide +kernel
set_option maxHeartbeats 4000000 in
set_option maxRecDepth 100000 in
theorem X5_takeStorm_ok {l : Launch} {D : va_G} {Y : Nat → ClassId}  {a : Nat → Nat} {q : Nat → Int32} {pg : Nat → Int32} {gS : Nat → Option Nat} {gU : Nat → Option Nat} {rd : RdT} {ft : FtT} {S : Nat → StT} {U : Nat → UnT} {r : Int32} {uq6 : Int32} {uS : Nat → StT} (h : X5_takeStorm a q pg gS gU rd ft S U = some (r, uq6, uS)) : MW l yX5_takeStorm wsX5_takeStorm 4 91 D Y [.ref (a 0)] (wOff Y a q pg gS gU rd ft S U) (wOff Y a (up q 6 uq6) pg gS gU rd ft uS U) (some (.int r)) := by
  refine MW_of (cc := cX5_takeStorm) (nL := 1) (ret := some .int) (lv0 := [(0, .ref (a 0))]) (by decide) rfl (Nat.le_of_ble_eq_true rfl) rfl rfl (fun X Af Q C hA hQ => ?_)
  unfold X5_takeStorm at h
  refine V_aload_n (pc := 0) C dX5_takeStorm_0 rfl 0 rfl ?_
  refine V_get (pc := 1) (v := .int (q 6)) C 0 5 6 hiX5_takeStorm_5 rfl rfl (by decide) wX5_takeStorm_k0 rfl dX5_takeStorm_1 ?_
  refine V_iconst (pc := 4) (v := 3) C dX5_takeStorm_4 rfl ?_
  refine V_icmp_lt (pc := 5) C 11 dX5_takeStorm_5 rfl (fun c5 => ?_) (fun c5 => ?_)
  · replace h := t_pos c5 h
    refine V_aload_n (pc := 11) C dX5_takeStorm_11 rfl 0 rfl ?_
    refine V_get (pc := 12) (v := .ref (a 2)) C 0 5 1 hiX5_takeStorm_5 rfl rfl (by decide) wX5_takeStorm_k2 rfl dX5_takeStorm_12 ?_
    refine V_aload_n (pc := 15) C dX5_takeStorm_15 rfl 0 rfl ?_
    refine V_get (pc := 16) (v := .int (q 6)) C 0 5 6 hiX5_takeStorm_5 rfl rfl (by decide) wX5_takeStorm_k0 rfl dX5_takeStorm_16 ?_
    obtain ⟨b19, h⟩ := chk_some h
    by_cases e19 : gS (Int32.toNatClampNeg (q 6)) = some (a 15)
    · replace h := t_pos e19 h
      refine V_aald (pc := 19) C 2 2 rfl rfl b19 e19 dX5_takeStorm_19 ?_
      refine V_aload_n (pc := 20) C dX5_takeStorm_20 rfl 0 rfl ?_
      refine V_get (pc := 21) (v := .ref (a 4)) C 0 5 3 hiX5_takeStorm_5 rfl rfl (by decide) wX5_takeStorm_k3 rfl dX5_takeStorm_21 ?_
      refine V_get (pc := 24) (v := .ref (a 5)) C 4 1 0 hiX5_takeStorm_1 rfl rfl (by decide) wX5_takeStorm_k4 rfl dX5_takeStorm_24 ?_
      refine V_aload_n (pc := 27) C dX5_takeStorm_27 rfl 0 rfl ?_
      refine V_get (pc := 28) (v := .ref (a 4)) C 0 5 3 hiX5_takeStorm_5 rfl rfl (by decide) wX5_takeStorm_k3 rfl dX5_takeStorm_28 ?_
      refine V_get (pc := 31) (v := .ref (a 7)) C 4 1 1 hiX5_takeStorm_1 rfl rfl (by decide) wX5_takeStorm_k6 rfl dX5_takeStorm_31 ?_
      obtain ⟨on1_34, of1_34, on2_34, of2_34, on3_34, of3_34, oev_34, hq, h⟩ := ob7_some h
      refine V_callVW (pc := 34) (rest := []) (st2 := []) (ws' := wOff Y a q pg gS gU rd ft (up S 0 (on1_34, of1_34, on2_34, of2_34, on3_34, of3_34, oev_34)) U) C hA (X3_become_ok (a := (sh a 15)) (ax2 := (a 5)) (bx2 := (a 6)) (ax3 := (a 7)) (bx3 := (a 8)) hq) gX5_takeStorm_X3_become rfl ⟨rfl, hdX3_become⟩ ⟨Nat.le_of_ble_eq_true rfl, Nat.le_of_ble_eq_true rfl⟩ ⟨Nat.le_refl _, Nat.le_refl _⟩ [15, 16, 17, 18, 19, 20, 21, 5, 6, 7, 8] rfl rfl 15 3 rfl rfl rfl (Nat.le_of_ble_eq_true rfl) dX5_takeStorm_34 rfl rfl ?_
      refine V_aload_n (pc := 37) C dX5_takeStorm_37 rfl 0 rfl ?_
      refine V_dup (pc := 38) C dX5_takeStorm_38 rfl ?_
      refine V_get (pc := 39) (v := .int (q 6)) C 0 5 6 hiX5_takeStorm_5 rfl rfl (by decide) wX5_takeStorm_k0 rfl dX5_takeStorm_39 ?_
      refine V_iconst (pc := 42) (v := 1) C dX5_takeStorm_42 rfl ?_
      refine V_iadd (pc := 43) C dX5_takeStorm_43 ?_
      refine V_put (pc := 44) (ws' := wOff Y a (up q 6 ((q 6) + (1 : Int32))) pg gS gU rd ft (up S 0 (on1_34, of1_34, on2_34, of2_34, on3_34, of3_34, oev_34)) U) C 0 5 6 hiX5_takeStorm_5 tyX5_ok nmX5 rfl rfl (by decide) wX5_takeStorm_k0 rfl rfl rfl (Nat.le_of_ble_eq_true rfl) dX5_takeStorm_44 rfl ?_
      refine V_aload_n (pc := 47) C dX5_takeStorm_47 rfl 0 rfl ?_
      refine V_get (pc := 48) (v := .int ((q 6) + (1 : Int32))) C 0 5 6 hiX5_takeStorm_5 rfl rfl (by decide) wX5_takeStorm_k0 rfl dX5_takeStorm_48 ?_
      refine V_iconst (pc := 51) (v := 1) C dX5_takeStorm_51 rfl ?_
      refine V_isub (pc := 52) C dX5_takeStorm_52 ?_
      cases h
      subst hQ
      exact V_iretW C dX5_takeStorm_53
    replace h := t_neg e19 h
    by_cases e19 : gS (Int32.toNatClampNeg (q 6)) = some (a 22)
    · replace h := t_pos e19 h
      refine V_aald (pc := 19) C 2 2 rfl rfl b19 e19 dX5_takeStorm_19 ?_
      refine V_aload_n (pc := 20) C dX5_takeStorm_20 rfl 0 rfl ?_
      refine V_get (pc := 21) (v := .ref (a 4)) C 0 5 3 hiX5_takeStorm_5 rfl rfl (by decide) wX5_takeStorm_k3 rfl dX5_takeStorm_21 ?_
      refine V_get (pc := 24) (v := .ref (a 5)) C 4 1 0 hiX5_takeStorm_1 rfl rfl (by decide) wX5_takeStorm_k4 rfl dX5_takeStorm_24 ?_
      refine V_aload_n (pc := 27) C dX5_takeStorm_27 rfl 0 rfl ?_
      refine V_get (pc := 28) (v := .ref (a 4)) C 0 5 3 hiX5_takeStorm_5 rfl rfl (by decide) wX5_takeStorm_k3 rfl dX5_takeStorm_28 ?_
      refine V_get (pc := 31) (v := .ref (a 7)) C 4 1 1 hiX5_takeStorm_1 rfl rfl (by decide) wX5_takeStorm_k6 rfl dX5_takeStorm_31 ?_
      obtain ⟨on1_34, of1_34, on2_34, of2_34, on3_34, of3_34, oev_34, hq, h⟩ := ob7_some h
      refine V_callVW (pc := 34) (rest := []) (st2 := []) (ws' := wOff Y a q pg gS gU rd ft (up S 1 (on1_34, of1_34, on2_34, of2_34, on3_34, of3_34, oev_34)) U) C hA (X3_become_ok (a := (sh a 22)) (ax2 := (a 5)) (bx2 := (a 6)) (ax3 := (a 7)) (bx3 := (a 8)) hq) gX5_takeStorm_X3_become rfl ⟨rfl, hdX3_become⟩ ⟨Nat.le_of_ble_eq_true rfl, Nat.le_of_ble_eq_true rfl⟩ ⟨Nat.le_refl _, Nat.le_refl _⟩ [22, 23, 24, 25, 26, 27, 28, 5, 6, 7, 8] rfl rfl 22 3 rfl rfl rfl (Nat.le_of_ble_eq_true rfl) dX5_takeStorm_34 rfl rfl ?_
      refine V_aload_n (pc := 37) C dX5_takeStorm_37 rfl 0 rfl ?_
      refine V_dup (pc := 38) C dX5_takeStorm_38 rfl ?_
      refine V_get (pc := 39) (v := .int (q 6)) C 0 5 6 hiX5_takeStorm_5 rfl rfl (by decide) wX5_takeStorm_k0 rfl dX5_takeStorm_39 ?_
      refine V_iconst (pc := 42) (v := 1) C dX5_takeStorm_42 rfl ?_
      refine V_iadd (pc := 43) C dX5_takeStorm_43 ?_
      refine V_put (pc := 44) (ws' := wOff Y a (up q 6 ((q 6) + (1 : Int32))) pg gS gU rd ft (up S 1 (on1_34, of1_34, on2_34, of2_34, on3_34, of3_34, oev_34)) U) C 0 5 6 hiX5_takeStorm_5 tyX5_ok nmX5 rfl rfl (by decide) wX5_takeStorm_k0 rfl rfl rfl (Nat.le_of_ble_eq_true rfl) dX5_takeStorm_44 rfl ?_
      refine V_aload_n (pc := 47) C dX5_takeStorm_47 rfl 0 rfl ?_
      refine V_get (pc := 48) (v := .int ((q 6) + (1 : Int32))) C 0 5 6 hiX5_takeStorm_5 rfl rfl (by decide) wX5_takeStorm_k0 rfl dX5_takeStorm_48 ?_
      refine V_iconst (pc := 51) (v := 1) C dX5_takeStorm_51 rfl ?_
      refine V_isub (pc := 52) C dX5_takeStorm_52 ?_
      cases h
      subst hQ
      exact V_iretW C dX5_takeStorm_53
    replace h := t_neg e19 h
    by_cases e19 : gS (Int32.toNatClampNeg (q 6)) = some (a 29)
    · replace h := t_pos e19 h
      refine V_aald (pc := 19) C 2 2 rfl rfl b19 e19 dX5_takeStorm_19 ?_
      refine V_aload_n (pc := 20) C dX5_takeStorm_20 rfl 0 rfl ?_
      refine V_get (pc := 21) (v := .ref (a 4)) C 0 5 3 hiX5_takeStorm_5 rfl rfl (by decide) wX5_takeStorm_k3 rfl dX5_takeStorm_21 ?_
      refine V_get (pc := 24) (v := .ref (a 5)) C 4 1 0 hiX5_takeStorm_1 rfl rfl (by decide) wX5_takeStorm_k4 rfl dX5_takeStorm_24 ?_
      refine V_aload_n (pc := 27) C dX5_takeStorm_27 rfl 0 rfl ?_
      refine V_get (pc := 28) (v := .ref (a 4)) C 0 5 3 hiX5_takeStorm_5 rfl rfl (by decide) wX5_takeStorm_k3 rfl dX5_takeStorm_28 ?_
      refine V_get (pc := 31) (v := .ref (a 7)) C 4 1 1 hiX5_takeStorm_1 rfl rfl (by decide) wX5_takeStorm_k6 rfl dX5_takeStorm_31 ?_
      obtain ⟨on1_34, of1_34, on2_34, of2_34, on3_34, of3_34, oev_34, hq, h⟩ := ob7_some h
      refine V_callVW (pc := 34) (rest := []) (st2 := []) (ws' := wOff Y a q pg gS gU rd ft (up S 2 (on1_34, of1_34, on2_34, of2_34, on3_34, of3_34, oev_34)) U) C hA (X3_become_ok (a := (sh a 29)) (ax2 := (a 5)) (bx2 := (a 6)) (ax3 := (a 7)) (bx3 := (a 8)) hq) gX5_takeStorm_X3_become rfl ⟨rfl, hdX3_become⟩ ⟨Nat.le_of_ble_eq_true rfl, Nat.le_of_ble_eq_true rfl⟩ ⟨Nat.le_refl _, Nat.le_refl _⟩ [29, 30, 31, 32, 33, 34, 35, 5, 6, 7, 8] rfl rfl 29 3 rfl rfl rfl (Nat.le_of_ble_eq_true rfl) dX5_takeStorm_34 rfl rfl ?_
      refine V_aload_n (pc := 37) C dX5_takeStorm_37 rfl 0 rfl ?_
      refine V_dup (pc := 38) C dX5_takeStorm_38 rfl ?_
      refine V_get (pc := 39) (v := .int (q 6)) C 0 5 6 hiX5_takeStorm_5 rfl rfl (by decide) wX5_takeStorm_k0 rfl dX5_takeStorm_39 ?_
      refine V_iconst (pc := 42) (v := 1) C dX5_takeStorm_42 rfl ?_
      refine V_iadd (pc := 43) C dX5_takeStorm_43 ?_
      refine V_put (pc := 44) (ws' := wOff Y a (up q 6 ((q 6) + (1 : Int32))) pg gS gU rd ft (up S 2 (on1_34, of1_34, on2_34, of2_34, on3_34, of3_34, oev_34)) U) C 0 5 6 hiX5_takeStorm_5 tyX5_ok nmX5 rfl rfl (by decide) wX5_takeStorm_k0 rfl rfl rfl (Nat.le_of_ble_eq_true rfl) dX5_takeStorm_44 rfl ?_
      refine V_aload_n (pc := 47) C dX5_takeStorm_47 rfl 0 rfl ?_
      refine V_get (pc := 48) (v := .int ((q 6) + (1 : Int32))) C 0 5 6 hiX5_takeStorm_5 rfl rfl (by decide) wX5_takeStorm_k0 rfl dX5_takeStorm_48 ?_
      refine V_iconst (pc := 51) (v := 1) C dX5_takeStorm_51 rfl ?_
      refine V_isub (pc := 52) C dX5_takeStorm_52 ?_
      cases h
      subst hQ
      exact V_iretW C dX5_takeStorm_53
    replace h := t_neg e19 h
    cases h
  · replace h := t_neg c5 h
    refine V_ldc (pc := 8) (v := -1000005) C dX5_takeStorm_8 wX5_takeStorm_k7 ?_
    cases h
    subst hQ
    exact V_iretW C dX5_takeStorm_10
def X5_takeUnit (a : Nat → Nat) (q : Nat → Int32) (pg : Nat → Int32) (gS : Nat → Option Nat) (gU : Nat → Option Nat) (rd : RdT) (ft : FtT) (S : Nat → StT) (U : Nat → UnT) : Option (Int32 × Int32 × (Nat → UnT)) :=
  if (q 7) < (4 : Int32) then (chk (inB (q 7) 4) (if gU (Int32.toNatClampNeg (q 7)) = some (a 36) then (ob1 (X1_lengthOfUnit rd.1 rd.2.1 rd.2.2.1 rd.2.2.2.1 rd.2.2.2.2.1 rd.2.2.2.2.2.1 rd.2.2.2.2.2.2.1 rd.2.2.2.2.2.2.2) fun r26 =>
  ob2 (X2_become ((U 0).2.1) ((U 0).2.2) rd.2.2.2.2.2.2.1 rd.2.2.2.2.2.2.2) fun on_43 of_43 =>
  some ((((q 7) + (1 : Int32)) - (1 : Int32)), ((q 7) + (1 : Int32)), (up U 0 (r26, on_43, of_43)))) else (if gU (Int32.toNatClampNeg (q 7)) = some (a 39) then (ob1 (X1_lengthOfUnit rd.1 rd.2.1 rd.2.2.1 rd.2.2.2.1 rd.2.2.2.2.1 rd.2.2.2.2.2.1 rd.2.2.2.2.2.2.1 rd.2.2.2.2.2.2.2) fun r26 =>
  ob2 (X2_become ((U 1).2.1) ((U 1).2.2) rd.2.2.2.2.2.2.1 rd.2.2.2.2.2.2.2) fun on_43 of_43 =>
  some ((((q 7) + (1 : Int32)) - (1 : Int32)), ((q 7) + (1 : Int32)), (up U 1 (r26, on_43, of_43)))) else (if gU (Int32.toNatClampNeg (q 7)) = some (a 42) then (ob1 (X1_lengthOfUnit rd.1 rd.2.1 rd.2.2.1 rd.2.2.2.1 rd.2.2.2.2.1 rd.2.2.2.2.2.1 rd.2.2.2.2.2.2.1 rd.2.2.2.2.2.2.2) fun r26 =>
  ob2 (X2_become ((U 2).2.1) ((U 2).2.2) rd.2.2.2.2.2.2.1 rd.2.2.2.2.2.2.2) fun on_43 of_43 =>
  some ((((q 7) + (1 : Int32)) - (1 : Int32)), ((q 7) + (1 : Int32)), (up U 2 (r26, on_43, of_43)))) else (if gU (Int32.toNatClampNeg (q 7)) = some (a 45) then (ob1 (X1_lengthOfUnit rd.1 rd.2.1 rd.2.2.1 rd.2.2.2.1 rd.2.2.2.2.1 rd.2.2.2.2.2.1 rd.2.2.2.2.2.2.1 rd.2.2.2.2.2.2.2) fun r26 =>
  ob2 (X2_become ((U 3).2.1) ((U 3).2.2) rd.2.2.2.2.2.2.1 rd.2.2.2.2.2.2.2) fun on_43 of_43 =>
  some ((((q 7) + (1 : Int32)) - (1 : Int32)), ((q 7) + (1 : Int32)), (up U 3 (r26, on_43, of_43)))) else (none)))))) else (some ((-1000005 : Int32), (q 7), U))
theorem wX5_takeUnit_k0 : Cond.fieldLink RX5 169 (TX5 7).1 (TX5 7).2.1 (TX5 7).2.2.1 ∈ wsX5_takeUnit := by decide +kernel
theorem hiX5_takeUnit_5 : ∀ w ∈ u_ws RX5 TX5 11, w ∈ wsX5_takeUnit := fun _ h => List.mem_cons_of_mem _ (List.mem_append_left _ (List.mem_append_left _ (List.mem_append_left _ (List.mem_append_right _ h))))
theorem wX5_takeUnit_k2 : Cond.fieldLink RX5 21 (TX5 2).1 (TX5 2).2.1 (TX5 2).2.2.1 ∈ wsX5_takeUnit := by decide +kernel
theorem wX5_takeUnit_k3 : Cond.fieldLink RX5 28 (TX5 3).1 (TX5 3).2.1 (TX5 3).2.2.1 ∈ wsX5_takeUnit := by decide +kernel
theorem wX5_takeUnit_k4 : Cond.fieldLink RX5 112 (TX4 1).1 (TX4 1).2.1 (TX4 1).2.2.1 ∈ wsX5_takeUnit := by decide +kernel
theorem hiX5_takeUnit_4 : ∀ w ∈ u_ws RX4 TX4 2, w ∈ wsX5_takeUnit := fun _ h => List.mem_cons_of_mem _ (List.mem_append_left _ (List.mem_append_left _ (List.mem_append_right _ h)))
theorem wX5_takeUnit_k6 : Cond.fieldLink RX5 109 (TX4 0).1 (TX4 0).2.1 (TX4 0).2.2.1 ∈ wsX5_takeUnit := by decide +kernel
theorem wX5_takeUnit_k7 : Cond.fieldLink RX5 224 (TX1 1).1 (TX1 1).2.1 (TX1 1).2.2.1 ∈ wsX5_takeUnit := by decide +kernel
theorem hiX5_takeUnit_1 : ∀ w ∈ u_ws RX1 TX1 6, w ∈ wsX5_takeUnit := fun _ h => List.mem_cons_of_mem _ (List.mem_append_left _ (List.mem_append_right _ h))
theorem wX5_takeUnit_k9 : Cond.constant RX5 46 (-1000005) ∈ wsX5_takeUnit := by decide +kernel
theorem hdX5_takeUnit : yX5_takeUnit.cls ≠ "java/lang/invoke/MethodHandle" ∧ yX5_takeUnit.cls ≠ "java/lang/invoke/VarHandle" ∧ (parseMethodDescriptor yX5_takeUnit.desc).map (fun d => d.parameters.length) = some 0 := by decide +kernel
set_option maxHeartbeats 4000000 in
set_option maxRecDepth 100000 in
theorem X5_takeUnit_ok {l : Launch} {D : va_G} {Y : Nat → ClassId}  {a : Nat → Nat} {q : Nat → Int32} {pg : Nat → Int32} {gS : Nat → Option Nat} {gU : Nat → Option Nat} {rd : RdT} {ft : FtT} {S : Nat → StT} {U : Nat → UnT} {r : Int32} {uq7 : Int32} {uU : Nat → UnT} (h : X5_takeUnit a q pg gS gU rd ft S U = some (r, uq7, uU)) : MW l yX5_takeUnit wsX5_takeUnit 2 43 D Y [.ref (a 0)] (wOff Y a q pg gS gU rd ft S U) (wOff Y a (up q 7 uq7) pg gS gU rd ft S uU) (some (.int r)) := by
  refine MW_of (cc := cX5_takeUnit) (nL := 2) (ret := some .int) (lv0 := [(0, .ref (a 0))]) (by decide) rfl (Nat.le_of_ble_eq_true rfl) rfl rfl (fun X Af Q C hA hQ => ?_)
  unfold X5_takeUnit at h
  refine V_aload_n (pc := 0) C dX5_takeUnit_0 rfl 0 rfl ?_
  refine V_get (pc := 1) (v := .int (q 7)) C 0 5 7 hiX5_takeUnit_5 rfl rfl (by decide) wX5_takeUnit_k0 rfl dX5_takeUnit_1 ?_
  refine V_iconst (pc := 4) (v := 4) C dX5_takeUnit_4 rfl ?_
  refine V_icmp_lt (pc := 5) C 11 dX5_takeUnit_5 rfl (fun c5 => ?_) (fun c5 => ?_)
  · replace h := t_pos c5 h
    refine V_aload_n (pc := 11) C dX5_takeUnit_11 rfl 0 rfl ?_
    refine V_get (pc := 12) (v := .ref (a 3)) C 0 5 2 hiX5_takeUnit_5 rfl rfl (by decide) wX5_takeUnit_k2 rfl dX5_takeUnit_12 ?_
    refine V_aload_n (pc := 15) C dX5_takeUnit_15 rfl 0 rfl ?_
    refine V_get (pc := 16) (v := .int (q 7)) C 0 5 7 hiX5_takeUnit_5 rfl rfl (by decide) wX5_takeUnit_k0 rfl dX5_takeUnit_16 ?_
    obtain ⟨b19, h⟩ := chk_some h
    by_cases e19 : gU (Int32.toNatClampNeg (q 7)) = some (a 36)
    · replace h := t_pos e19 h
      refine V_aald (pc := 19) C 3 3 rfl rfl b19 e19 dX5_takeUnit_19 ?_
      refine V_astore_n (pc := 20) (lv' := [(1, .ref (a 36)), (0, .ref (a 0))]) C dX5_takeUnit_20 rfl (Nat.le_of_ble_eq_true rfl) rfl ?_
      refine V_aload_n (pc := 21) C dX5_takeUnit_21 rfl 0 rfl ?_
      refine V_aload_n (pc := 22) C dX5_takeUnit_22 rfl 1 rfl ?_
      refine V_get (pc := 23) (v := .ref (a 4)) C 0 5 3 hiX5_takeUnit_5 rfl rfl (by decide) wX5_takeUnit_k3 rfl dX5_takeUnit_23 ?_
      obtain ⟨r26, hq, h⟩ := ob1_some h
      refine V_callVR (pc := 26) (rest := [.ref (a 36)]) (st2 := [.int r26, .ref (a 36)]) C (X1_lengthOfUnit_ok (a := (sh a 4)) hq) gX5_takeUnit_X1_lengthOfUnit rfl ⟨rfl, hdX1_lengthOfUnit⟩ ⟨Nat.le_of_ble_eq_true rfl, Nat.le_of_ble_eq_true rfl⟩ ⟨Nat.le_refl _, Nat.le_refl _⟩ [4, 5, 6, 7, 8] rfl 4 1 rfl rfl rfl (Nat.le_of_ble_eq_true rfl) dX5_takeUnit_26 rfl ?_
      refine V_put (pc := 29) (ws' := wOff Y a q pg gS gU rd ft S (up U 0 (r26, (U 0).2.1, (U 0).2.2))) C 36 4 1 hiX5_takeUnit_4 tyX4_ok nmX4 rfl rfl (by decide) wX5_takeUnit_k4 rfl rfl rfl (Nat.le_of_ble_eq_true rfl) dX5_takeUnit_29 rfl ?_
      refine V_aload_n (pc := 32) C dX5_takeUnit_32 rfl 0 rfl ?_
      refine V_get (pc := 33) (v := .ref (a 37)) C 36 4 0 hiX5_takeUnit_4 rfl rfl (by decide) wX5_takeUnit_k6 rfl dX5_takeUnit_33 ?_
      refine V_aload_n (pc := 36) C dX5_takeUnit_36 rfl 1 rfl ?_
      refine V_get (pc := 37) (v := .ref (a 4)) C 0 5 3 hiX5_takeUnit_5 rfl rfl (by decide) wX5_takeUnit_k3 rfl dX5_takeUnit_37 ?_
      refine V_get (pc := 40) (v := .ref (a 7)) C 4 1 1 hiX5_takeUnit_1 rfl rfl (by decide) wX5_takeUnit_k7 rfl dX5_takeUnit_40 ?_
      obtain ⟨on_43, of_43, hq, h⟩ := ob2_some h
      refine V_callVW (pc := 43) (rest := []) (st2 := []) (ws' := wOff Y a q pg gS gU rd ft S (up U 0 (r26, on_43, of_43))) C hA (X2_become_ok (a := (a 37)) (b := (a 38)) (ax2 := (a 7)) (bx2 := (a 8)) hq) gX5_takeUnit_X2_become rfl ⟨rfl, hdX2_become⟩ ⟨Nat.le_of_ble_eq_true rfl, Nat.le_of_ble_eq_true rfl⟩ ⟨Nat.le_refl _, Nat.le_refl _⟩ [37, 38, 7, 8] rfl rfl 37 2 rfl rfl rfl (Nat.le_of_ble_eq_true rfl) dX5_takeUnit_43 rfl rfl ?_
      refine V_aload_n (pc := 46) C dX5_takeUnit_46 rfl 1 rfl ?_
      refine V_dup (pc := 47) C dX5_takeUnit_47 rfl ?_
      refine V_get (pc := 48) (v := .int (q 7)) C 0 5 7 hiX5_takeUnit_5 rfl rfl (by decide) wX5_takeUnit_k0 rfl dX5_takeUnit_48 ?_
      refine V_iconst (pc := 51) (v := 1) C dX5_takeUnit_51 rfl ?_
      refine V_iadd (pc := 52) C dX5_takeUnit_52 ?_
      refine V_put (pc := 53) (ws' := wOff Y a (up q 7 ((q 7) + (1 : Int32))) pg gS gU rd ft S (up U 0 (r26, on_43, of_43))) C 0 5 7 hiX5_takeUnit_5 tyX5_ok nmX5 rfl rfl (by decide) wX5_takeUnit_k0 rfl rfl rfl (Nat.le_of_ble_eq_true rfl) dX5_takeUnit_53 rfl ?_
      refine V_aload_n (pc := 56) C dX5_takeUnit_56 rfl 1 rfl ?_
      refine V_get (pc := 57) (v := .int ((q 7) + (1 : Int32))) C 0 5 7 hiX5_takeUnit_5 rfl rfl (by decide) wX5_takeUnit_k0 rfl dX5_takeUnit_57 ?_
      refine V_iconst (pc := 60) (v := 1) C dX5_takeUnit_60 rfl ?_
      refine V_isub (pc := 61) C dX5_takeUnit_61 ?_
      cases h
      subst hQ
      exact V_iretW C dX5_takeUnit_62
    replace h := t_neg e19 h
    by_cases e19 : gU (Int32.toNatClampNeg (q 7)) = some (a 39)
    · replace h := t_pos e19 h
      refine V_aald (pc := 19) C 3 3 rfl rfl b19 e19 dX5_takeUnit_19 ?_
      refine V_astore_n (pc := 20) (lv' := [(1, .ref (a 39)), (0, .ref (a 0))]) C dX5_takeUnit_20 rfl (Nat.le_of_ble_eq_true rfl) rfl ?_
      refine V_aload_n (pc := 21) C dX5_takeUnit_21 rfl 0 rfl ?_
      refine V_aload_n (pc := 22) C dX5_takeUnit_22 rfl 1 rfl ?_
      refine V_get (pc := 23) (v := .ref (a 4)) C 0 5 3 hiX5_takeUnit_5 rfl rfl (by decide) wX5_takeUnit_k3 rfl dX5_takeUnit_23 ?_
      obtain ⟨r26, hq, h⟩ := ob1_some h
      refine V_callVR (pc := 26) (rest := [.ref (a 39)]) (st2 := [.int r26, .ref (a 39)]) C (X1_lengthOfUnit_ok (a := (sh a 4)) hq) gX5_takeUnit_X1_lengthOfUnit rfl ⟨rfl, hdX1_lengthOfUnit⟩ ⟨Nat.le_of_ble_eq_true rfl, Nat.le_of_ble_eq_true rfl⟩ ⟨Nat.le_refl _, Nat.le_refl _⟩ [4, 5, 6, 7, 8] rfl 4 1 rfl rfl rfl (Nat.le_of_ble_eq_true rfl) dX5_takeUnit_26 rfl ?_
      refine V_put (pc := 29) (ws' := wOff Y a q pg gS gU rd ft S (up U 1 (r26, (U 1).2.1, (U 1).2.2))) C 39 4 1 hiX5_takeUnit_4 tyX4_ok nmX4 rfl rfl (by decide) wX5_takeUnit_k4 rfl rfl rfl (Nat.le_of_ble_eq_true rfl) dX5_takeUnit_29 rfl ?_
      refine V_aload_n (pc := 32) C dX5_takeUnit_32 rfl 0 rfl ?_
      refine V_get (pc := 33) (v := .ref (a 40)) C 39 4 0 hiX5_takeUnit_4 rfl rfl (by decide) wX5_takeUnit_k6 rfl dX5_takeUnit_33 ?_
      refine V_aload_n (pc := 36) C dX5_takeUnit_36 rfl 1 rfl ?_
      refine V_get (pc := 37) (v := .ref (a 4)) C 0 5 3 hiX5_takeUnit_5 rfl rfl (by decide) wX5_takeUnit_k3 rfl dX5_takeUnit_37 ?_
      refine V_get (pc := 40) (v := .ref (a 7)) C 4 1 1 hiX5_takeUnit_1 rfl rfl (by decide) wX5_takeUnit_k7 rfl dX5_takeUnit_40 ?_
      obtain ⟨on_43, of_43, hq, h⟩ := ob2_some h
      refine V_callVW (pc := 43) (rest := []) (st2 := []) (ws' := wOff Y a q pg gS gU rd ft S (up U 1 (r26, on_43, of_43))) C hA (X2_become_ok (a := (a 40)) (b := (a 41)) (ax2 := (a 7)) (bx2 := (a 8)) hq) gX5_takeUnit_X2_become rfl ⟨rfl, hdX2_become⟩ ⟨Nat.le_of_ble_eq_true rfl, Nat.le_of_ble_eq_true rfl⟩ ⟨Nat.le_refl _, Nat.le_refl _⟩ [40, 41, 7, 8] rfl rfl 40 2 rfl rfl rfl (Nat.le_of_ble_eq_true rfl) dX5_takeUnit_43 rfl rfl ?_
      refine V_aload_n (pc := 46) C dX5_takeUnit_46 rfl 1 rfl ?_
      refine V_dup (pc := 47) C dX5_takeUnit_47 rfl ?_
      refine V_get (pc := 48) (v := .int (q 7)) C 0 5 7 hiX5_takeUnit_5 rfl rfl (by decide) wX5_takeUnit_k0 rfl dX5_takeUnit_48 ?_
      refine V_iconst (pc := 51) (v := 1) C dX5_takeUnit_51 rfl ?_
      refine V_iadd (pc := 52) C dX5_takeUnit_52 ?_
      refine V_put (pc := 53) (ws' := wOff Y a (up q 7 ((q 7) + (1 : Int32))) pg gS gU rd ft S (up U 1 (r26, on_43, of_43))) C 0 5 7 hiX5_takeUnit_5 tyX5_ok nmX5 rfl rfl (by decide) wX5_takeUnit_k0 rfl rfl rfl (Nat.le_of_ble_eq_true rfl) dX5_takeUnit_53 rfl ?_
      refine V_aload_n (pc := 56) C dX5_takeUnit_56 rfl 1 rfl ?_
      refine V_get (pc := 57) (v := .int ((q 7) + (1 : Int32))) C 0 5 7 hiX5_takeUnit_5 rfl rfl (by decide) wX5_takeUnit_k0 rfl dX5_takeUnit_57 ?_
      refine V_iconst (pc := 60) (v := 1) C dX5_takeUnit_60 rfl ?_
      refine V_isub (pc := 61) C dX5_takeUnit_61 ?_
      cases h
      subst hQ
      exact V_iretW C dX5_takeUnit_62
    replace h := t_neg e19 h
    by_cases e19 : gU (Int32.toNatClampNeg (q 7)) = some (a 42)
    · replace h := t_pos e19 h
      refine V_aald (pc := 19) C 3 3 rfl rfl b19 e19 dX5_takeUnit_19 ?_
      refine V_astore_n (pc := 20) (lv' := [(1, .ref (a 42)), (0, .ref (a 0))]) C dX5_takeUnit_20 rfl (Nat.le_of_ble_eq_true rfl) rfl ?_
      refine V_aload_n (pc := 21) C dX5_takeUnit_21 rfl 0 rfl ?_
      refine V_aload_n (pc := 22) C dX5_takeUnit_22 rfl 1 rfl ?_
      refine V_get (pc := 23) (v := .ref (a 4)) C 0 5 3 hiX5_takeUnit_5 rfl rfl (by decide) wX5_takeUnit_k3 rfl dX5_takeUnit_23 ?_
      obtain ⟨r26, hq, h⟩ := ob1_some h
      refine V_callVR (pc := 26) (rest := [.ref (a 42)]) (st2 := [.int r26, .ref (a 42)]) C (X1_lengthOfUnit_ok (a := (sh a 4)) hq) gX5_takeUnit_X1_lengthOfUnit rfl ⟨rfl, hdX1_lengthOfUnit⟩ ⟨Nat.le_of_ble_eq_true rfl, Nat.le_of_ble_eq_true rfl⟩ ⟨Nat.le_refl _, Nat.le_refl _⟩ [4, 5, 6, 7, 8] rfl 4 1 rfl rfl rfl (Nat.le_of_ble_eq_true rfl) dX5_takeUnit_26 rfl ?_
      refine V_put (pc := 29) (ws' := wOff Y a q pg gS gU rd ft S (up U 2 (r26, (U 2).2.1, (U 2).2.2))) C 42 4 1 hiX5_takeUnit_4 tyX4_ok nmX4 rfl rfl (by decide) wX5_takeUnit_k4 rfl rfl rfl (Nat.le_of_ble_eq_true rfl) dX5_takeUnit_29 rfl ?_
      refine V_aload_n (pc := 32) C dX5_takeUnit_32 rfl 0 rfl ?_
      refine V_get (pc := 33) (v := .ref (a 43)) C 42 4 0 hiX5_takeUnit_4 rfl rfl (by decide) wX5_takeUnit_k6 rfl dX5_takeUnit_33 ?_
      refine V_aload_n (pc := 36) C dX5_takeUnit_36 rfl 1 rfl ?_
      refine V_get (pc := 37) (v := .ref (a 4)) C 0 5 3 hiX5_takeUnit_5 rfl rfl (by decide) wX5_takeUnit_k3 rfl dX5_takeUnit_37 ?_
      refine V_get (pc := 40) (v := .ref (a 7)) C 4 1 1 hiX5_takeUnit_1 rfl rfl (by decide) wX5_takeUnit_k7 rfl dX5_takeUnit_40 ?_
      obtain ⟨on_43, of_43, hq, h⟩ := ob2_some h
      refine V_callVW (pc := 43) (rest := []) (st2 := []) (ws' := wOff Y a q pg gS gU rd ft S (up U 2 (r26, on_43, of_43))) C hA (X2_become_ok (a := (a 43)) (b := (a 44)) (ax2 := (a 7)) (bx2 := (a 8)) hq) gX5_takeUnit_X2_become rfl ⟨rfl, hdX2_become⟩ ⟨Nat.le_of_ble_eq_true rfl, Nat.le_of_ble_eq_true rfl⟩ ⟨Nat.le_refl _, Nat.le_refl _⟩ [43, 44, 7, 8] rfl rfl 43 2 rfl rfl rfl (Nat.le_of_ble_eq_true rfl) dX5_takeUnit_43 rfl rfl ?_
      refine V_aload_n (pc := 46) C dX5_takeUnit_46 rfl 1 rfl ?_
      refine V_dup (pc := 47) C dX5_takeUnit_47 rfl ?_
      refine V_get (pc := 48) (v := .int (q 7)) C 0 5 7 hiX5_takeUnit_5 rfl rfl (by decide) wX5_takeUnit_k0 rfl dX5_takeUnit_48 ?_
      refine V_iconst (pc := 51) (v := 1) C dX5_takeUnit_51 rfl ?_
      refine V_iadd (pc := 52) C dX5_takeUnit_52 ?_
      refine V_put (pc := 53) (ws' := wOff Y a (up q 7 ((q 7) + (1 : Int32))) pg gS gU rd ft S (up U 2 (r26, on_43, of_43))) C 0 5 7 hiX5_takeUnit_5 tyX5_ok nmX5 rfl rfl (by decide) wX5_takeUnit_k0 rfl rfl rfl (Nat.le_of_ble_eq_true rfl) dX5_takeUnit_53 rfl ?_
      refine V_aload_n (pc := 56) C dX5_takeUnit_56 rfl 1 rfl ?_
      refine V_get (pc := 57) (v := .int ((q 7) + (1 : Int32))) C 0 5 7 hiX5_takeUnit_5 rfl rfl (by decide) wX5_takeUnit_k0 rfl dX5_takeUnit_57 ?_
      refine V_iconst (pc := 60) (v := 1) C dX5_takeUnit_60 rfl ?_
      refine V_isub (pc := 61) C dX5_takeUnit_61 ?_
      cases h
      subst hQ
      exact V_iretW C dX5_takeUnit_62
    replace h := t_neg e19 h
    by_cases e19 : gU (Int32.toNatClampNeg (q 7)) = some (a 45)
    · replace h := t_pos e19 h
      refine V_aald (pc := 19) C 3 3 rfl rfl b19 e19 dX5_takeUnit_19 ?_
      refine V_astore_n (pc := 20) (lv' := [(1, .ref (a 45)), (0, .ref (a 0))]) C dX5_takeUnit_20 rfl (Nat.le_of_ble_eq_true rfl) rfl ?_
      refine V_aload_n (pc := 21) C dX5_takeUnit_21 rfl 0 rfl ?_
      refine V_aload_n (pc := 22) C dX5_takeUnit_22 rfl 1 rfl ?_
      refine V_get (pc := 23) (v := .ref (a 4)) C 0 5 3 hiX5_takeUnit_5 rfl rfl (by decide) wX5_takeUnit_k3 rfl dX5_takeUnit_23 ?_
      obtain ⟨r26, hq, h⟩ := ob1_some h
      refine V_callVR (pc := 26) (rest := [.ref (a 45)]) (st2 := [.int r26, .ref (a 45)]) C (X1_lengthOfUnit_ok (a := (sh a 4)) hq) gX5_takeUnit_X1_lengthOfUnit rfl ⟨rfl, hdX1_lengthOfUnit⟩ ⟨Nat.le_of_ble_eq_true rfl, Nat.le_of_ble_eq_true rfl⟩ ⟨Nat.le_refl _, Nat.le_refl _⟩ [4, 5, 6, 7, 8] rfl 4 1 rfl rfl rfl (Nat.le_of_ble_eq_true rfl) dX5_takeUnit_26 rfl ?_
      refine V_put (pc := 29) (ws' := wOff Y a q pg gS gU rd ft S (up U 3 (r26, (U 3).2.1, (U 3).2.2))) C 45 4 1 hiX5_takeUnit_4 tyX4_ok nmX4 rfl rfl (by decide) wX5_takeUnit_k4 rfl rfl rfl (Nat.le_of_ble_eq_true rfl) dX5_takeUnit_29 rfl ?_
      refine V_aload_n (pc := 32) C dX5_takeUnit_32 rfl 0 rfl ?_
      refine V_get (pc := 33) (v := .ref (a 46)) C 45 4 0 hiX5_takeUnit_4 rfl rfl (by decide) wX5_takeUnit_k6 rfl dX5_takeUnit_33 ?_
      refine V_aload_n (pc := 36) C dX5_takeUnit_36 rfl 1 rfl ?_
      refine V_get (pc := 37) (v := .ref (a 4)) C 0 5 3 hiX5_takeUnit_5 rfl rfl (by decide) wX5_takeUnit_k3 rfl dX5_takeUnit_37 ?_
      refine V_get (pc := 40) (v := .ref (a 7)) C 4 1 1 hiX5_takeUnit_1 rfl rfl (by decide) wX5_takeUnit_k7 rfl dX5_takeUnit_40 ?_
      obtain ⟨on_43, of_43, hq, h⟩ := ob2_some h
      refine V_callVW (pc := 43) (rest := []) (st2 := []) (ws' := wOff Y a q pg gS gU rd ft S (up U 3 (r26, on_43, of_43))) C hA (X2_become_ok (a := (a 46)) (b := (a 47)) (ax2 := (a 7)) (bx2 := (a 8)) hq) gX5_takeUnit_X2_become rfl ⟨rfl, hdX2_become⟩ ⟨Nat.le_of_ble_eq_true rfl, Nat.le_of_ble_eq_true rfl⟩ ⟨Nat.le_refl _, Nat.le_refl _⟩ [46, 47, 7, 8] rfl rfl 46 2 rfl rfl rfl (Nat.le_of_ble_eq_true rfl) dX5_takeUnit_43 rfl rfl ?_
      refine V_aload_n (pc := 46) C dX5_takeUnit_46 rfl 1 rfl ?_
      refine V_dup (pc := 47) C dX5_takeUnit_47 rfl ?_
      refine V_get (pc := 48) (v := .int (q 7)) C 0 5 7 hiX5_takeUnit_5 rfl rfl (by decide) wX5_takeUnit_k0 rfl dX5_takeUnit_48 ?_
      refine V_iconst (pc := 51) (v := 1) C dX5_takeUnit_51 rfl ?_
      refine V_iadd (pc := 52) C dX5_takeUnit_52 ?_
      refine V_put (pc := 53) (ws' := wOff Y a (up q 7 ((q 7) + (1 : Int32))) pg gS gU rd ft S (up U 3 (r26, on_43, of_43))) C 0 5 7 hiX5_takeUnit_5 tyX5_ok nmX5 rfl rfl (by decide) wX5_takeUnit_k0 rfl rfl rfl (Nat.le_of_ble_eq_true rfl) dX5_takeUnit_53 rfl ?_
      refine V_aload_n (pc := 56) C dX5_takeUnit_56 rfl 1 rfl ?_
      refine V_get (pc := 57) (v := .int ((q 7) + (1 : Int32))) C 0 5 7 hiX5_takeUnit_5 rfl rfl (by decide) wX5_takeUnit_k0 rfl dX5_takeUnit_57 ?_
      refine V_iconst (pc := 60) (v := 1) C dX5_takeUnit_60 rfl ?_
      refine V_isub (pc := 61) C dX5_takeUnit_61 ?_
      cases h
      subst hQ
      exact V_iretW C dX5_takeUnit_62
    replace h := t_neg e19 h
    cases h
  · replace h := t_neg c5 h
    refine V_ldc (pc := 8) (v := -1000005) C dX5_takeUnit_8 wX5_takeUnit_k9 ?_
    cases h
    subst hQ
    exact V_iretW C dX5_takeUnit_10
def X5_take (a : Nat → Nat) (q : Nat → Int32) (pg : Nat → Int32) (gS : Nat → Option Nat) (gU : Nat → Option Nat) (rd : RdT) (ft : FtT) (S : Nat → StT) (U : Nat → UnT) : Option (Int32 × Int32 × Int32 × Int32 × Int32 × RdT × (Nat → StT) × (Nat → UnT)) :=
  ob9 (X1_read rd.1 rd.2.1 rd.2.2.1 rd.2.2.2.1 rd.2.2.2.2.1 rd.2.2.2.2.2.1 rd.2.2.2.2.2.2.1 rd.2.2.2.2.2.2.2 pg (q 5)) fun r12 opl_12 oln_12 oou_12 oim_12 on1_12 of1_12 on2_12 of2_12 =>
  if r12 < (q 5) then (some ((-1000004 : Int32), (q 5), (q 6), (q 7), (q 8), (opl_12, oln_12, oou_12, oim_12, on1_12, of1_12, on2_12, of2_12), S, U)) else (ob1 (X1_isWhole opl_12 oln_12 oou_12 oim_12 on1_12 of1_12 on2_12 of2_12) fun r26 =>
  if r26 = 0 then (some ((-1000004 : Int32), (q 5), (q 6), (q 7), (q 8), (opl_12, oln_12, oou_12, oim_12, on1_12, of1_12, on2_12, of2_12), S, U)) else (ob1 (X1_isOfUnit opl_12 oln_12 oou_12 oim_12 on1_12 of1_12 on2_12 of2_12) fun r39 =>
  jn5 (fun (s56_0 : Int32) (mq6_56 : Int32) (mq7_56 : Int32) (mS_56 : Nat → StT) (mU_56 : Nat → UnT) => if s56_0 = (-1000005 : Int32) then (some ((-1000005 : Int32), (q 5), mq6_56, mq7_56, (q 8), (opl_12, oln_12, oou_12, oim_12, on1_12, of1_12, on2_12, of2_12), mS_56, mU_56)) else (some (s56_0, (0 : Int32), mq6_56, mq7_56, ((q 8) + (1 : Int32)), (opl_12, oln_12, oou_12, oim_12, on1_12, of1_12, on2_12, of2_12), mS_56, mU_56))) fun J56 =>
  if r39 = 0 then (ob3 (X5_takeStorm a q pg gS gU (opl_12, oln_12, oou_12, oim_12, on1_12, of1_12, on2_12, of2_12) ft S U) fun r53 oq6_53 oS_53 =>
  J56 r53 oq6_53 (q 7) oS_53 U) else (ob3 (X5_takeUnit a q pg gS gU (opl_12, oln_12, oou_12, oim_12, on1_12, of1_12, on2_12, of2_12) ft S U) fun r46 oq7_46 oU_46 =>
  J56 r46 (q 6) oq7_46 S oU_46)))
theorem wX5_take_k0 : Cond.fieldLink RX5 28 (TX5 3).1 (TX5 3).2.1 (TX5 3).2.2.1 ∈ wsX5_take := by decide +kernel
theorem hiX5_take_5 : ∀ w ∈ u_ws RX5 TX5 11, w ∈ wsX5_take := fun _ h => List.mem_cons_of_mem _ (List.mem_append_left _ (List.mem_append_left _ (List.mem_append_left _ (List.mem_append_left _ (List.mem_append_right _ h)))))
theorem wX5_take_k2 : Cond.fieldLink RX5 9 (TX5 0).1 (TX5 0).2.1 (TX5 0).2.2.1 ∈ wsX5_take := by decide +kernel
theorem wX5_take_k3 : Cond.fieldLink RX5 42 (TX5 5).1 (TX5 5).2.1 (TX5 5).2.2.1 ∈ wsX5_take := by decide +kernel
theorem wX5_take_k4 : Cond.constant RX5 55 (-1000004) ∈ wsX5_take := by decide +kernel
theorem wX5_take_k5 : Cond.constant RX5 46 (-1000005) ∈ wsX5_take := by decide +kernel
theorem wX5_take_k6 : Cond.fieldLink RX5 66 (TX5 8).1 (TX5 8).2.1 (TX5 8).2.2.1 ∈ wsX5_take := by decide +kernel
theorem hdX5_take : yX5_take.cls ≠ "java/lang/invoke/MethodHandle" ∧ yX5_take.cls ≠ "java/lang/invoke/VarHandle" ∧ (parseMethodDescriptor yX5_take.desc).map (fun d => d.parameters.length) = some 0 := by decide +kernel
set_option maxHeartbeats 4000000 in
set_option maxRecDepth 100000 in
theorem X5_take_ok {l : Launch} {D : va_G} {Y : Nat → ClassId}  {a : Nat → Nat} {q : Nat → Int32} {pg : Nat → Int32} {gS : Nat → Option Nat} {gU : Nat → Option Nat} {rd : RdT} {ft : FtT} {S : Nat → StT} {U : Nat → UnT} {r : Int32} {uq5 : Int32} {uq6 : Int32} {uq7 : Int32} {uq8 : Int32} {urd : RdT} {uS : Nat → StT} {uU : Nat → UnT} (h : X5_take a q pg gS gU rd ft S U = some (r, uq5, uq6, uq7, uq8, urd, uS, uU)) : MW l yX5_take wsX5_take 6 137 D Y [.ref (a 0)] (wOff Y a q pg gS gU rd ft S U) (wOff Y a (up (up (up (up q 5 uq5) 6 uq6) 7 uq7) 8 uq8) pg gS gU urd ft uS uU) (some (.int r)) := by
  refine MW_of (cc := cX5_take) (nL := 2) (ret := some .int) (lv0 := [(0, .ref (a 0))]) (by decide) rfl (Nat.le_of_ble_eq_true rfl) rfl rfl (fun X Af Q C hA hQ => ?_)
  unfold X5_take at h
  refine V_aload_n (pc := 0) C dX5_take_0 rfl 0 rfl ?_
  refine V_get (pc := 1) (v := .ref (a 4)) C 0 5 3 hiX5_take_5 rfl rfl (by decide) wX5_take_k0 rfl dX5_take_1 ?_
  refine V_aload_n (pc := 4) C dX5_take_4 rfl 0 rfl ?_
  refine V_get (pc := 5) (v := .ref (a 1)) C 0 5 0 hiX5_take_5 rfl rfl (by decide) wX5_take_k2 rfl dX5_take_5 ?_
  refine V_aload_n (pc := 8) C dX5_take_8 rfl 0 rfl ?_
  refine V_get (pc := 9) (v := .int (q 5)) C 0 5 5 hiX5_take_5 rfl rfl (by decide) wX5_take_k3 rfl dX5_take_9 ?_
  obtain ⟨r12, opl_12, oln_12, oou_12, oim_12, on1_12, of1_12, on2_12, of2_12, hq, h⟩ := ob9_some h
  refine V_callVW (pc := 12) (rest := []) (st2 := [.int r12]) (ws' := wOff Y a q pg gS gU (opl_12, oln_12, oou_12, oim_12, on1_12, of1_12, on2_12, of2_12) ft S U) C hA (X1_read_ok (a := (sh a 4)) (ax2 := (a 1)) hq) gX5_take_X1_read rfl ⟨rfl, hdX1_read⟩ ⟨Nat.le_of_ble_eq_true rfl, Nat.le_of_ble_eq_true rfl⟩ ⟨Nat.le_refl _, Nat.le_refl _⟩ [4, 5, 6, 7, 8, 1] rfl rfl 4 1 rfl rfl rfl (Nat.le_of_ble_eq_true rfl) dX5_take_12 rfl rfl ?_
  refine V_aload_n (pc := 15) C dX5_take_15 rfl 0 rfl ?_
  refine V_get (pc := 16) (v := .int (q 5)) C 0 5 5 hiX5_take_5 rfl rfl (by decide) wX5_take_k3 rfl dX5_take_16 ?_
  refine V_icmp_lt (pc := 19) C 32 dX5_take_19 rfl (fun c19 => ?_) (fun c19 => ?_)
  · replace h := t_pos c19 h
    refine V_ldc (pc := 32) (v := -1000004) C dX5_take_32 wX5_take_k4 ?_
    cases h
    subst hQ
    exact V_iretW C dX5_take_34
  · replace h := t_neg c19 h
    refine V_aload_n (pc := 22) C dX5_take_22 rfl 0 rfl ?_
    refine V_get (pc := 23) (v := .ref (a 4)) C 0 5 3 hiX5_take_5 rfl rfl (by decide) wX5_take_k0 rfl dX5_take_23 ?_
    obtain ⟨r26, hq, h⟩ := ob1_some h
    refine V_callVR (pc := 26) (rest := []) (st2 := [.int r26]) C (X1_isWhole_ok (a := (sh a 4)) hq) gX5_take_X1_isWhole rfl ⟨rfl, hdX1_isWhole⟩ ⟨Nat.le_of_ble_eq_true rfl, Nat.le_of_ble_eq_true rfl⟩ ⟨Nat.le_refl _, Nat.le_refl _⟩ [4, 5, 6, 7, 8] rfl 4 1 rfl rfl rfl (Nat.le_of_ble_eq_true rfl) dX5_take_26 rfl ?_
    refine V_if_ne (pc := 29) C 35 dX5_take_29 rfl (fun c29 => ?_) (fun c29 => ?_)
    · replace h := t_neg c29 h
      refine V_aload_n (pc := 35) C dX5_take_35 rfl 0 rfl ?_
      refine V_get (pc := 36) (v := .ref (a 4)) C 0 5 3 hiX5_take_5 rfl rfl (by decide) wX5_take_k0 rfl dX5_take_36 ?_
      obtain ⟨r39, hq, h⟩ := ob1_some h
      refine V_callVR (pc := 39) (rest := []) (st2 := [.int r39]) C (X1_isOfUnit_ok (a := (sh a 4)) hq) gX5_take_X1_isOfUnit rfl ⟨rfl, hdX1_isOfUnit⟩ ⟨Nat.le_of_ble_eq_true rfl, Nat.le_of_ble_eq_true rfl⟩ ⟨Nat.le_refl _, Nat.le_refl _⟩ [4, 5, 6, 7, 8] rfl 4 1 rfl rfl rfl (Nat.le_of_ble_eq_true rfl) dX5_take_39 rfl ?_
      refine jn5_ok (P := (fun (s56_0 : Int32) (mq6_56 : Int32) (mq7_56 : Int32) (mS_56 : Nat → StT) (mU_56 : Nat → UnT) => VW X D 2 Q (KM Af X) (0, 0) (wOff Y a (up (up q 6 mq6_56) 7 mq7_56) pg gS gU (opl_12, oln_12, oou_12, oim_12, on1_12, of1_12, on2_12, of2_12) ft mS_56 mU_56) [(0, .ref (a 0))] 56 [.int s56_0])) (fun s56_0 mq6_56 mq7_56 mS_56 mU_56 h => ?_) (fun J56 hJ56 h => ?_) h
      · refine V_istore_n (pc := 56) (lv' := [(1, .int s56_0), (0, .ref (a 0))]) C dX5_take_56 rfl (Nat.le_of_ble_eq_true rfl) rfl ?_
        refine V_iload_n (pc := 57) C dX5_take_57 rfl 0 rfl ?_
        refine V_ldc (pc := 58) (v := -1000005) C dX5_take_58 wX5_take_k5 ?_
        refine V_icmp_ne (pc := 60) C 66 dX5_take_60 rfl (fun c60 => ?_) (fun c60 => ?_)
        · replace h := t_neg c60 h
          refine V_aload_n (pc := 66) C dX5_take_66 rfl 1 rfl ?_
          refine V_iconst (pc := 67) (v := 0) C dX5_take_67 rfl ?_
          refine V_put (pc := 68) (ws' := wOff Y a (up (up (up q 6 mq6_56) 7 mq7_56) 5 (0 : Int32)) pg gS gU (opl_12, oln_12, oou_12, oim_12, on1_12, of1_12, on2_12, of2_12) ft mS_56 mU_56) C 0 5 5 hiX5_take_5 tyX5_ok nmX5 rfl rfl (by decide) wX5_take_k3 rfl rfl rfl (Nat.le_of_ble_eq_true rfl) dX5_take_68 rfl ?_
          refine V_aload_n (pc := 71) C dX5_take_71 rfl 1 rfl ?_
          refine V_dup (pc := 72) C dX5_take_72 rfl ?_
          refine V_get (pc := 73) (v := .int (q 8)) C 0 5 8 hiX5_take_5 rfl rfl (by decide) wX5_take_k6 rfl dX5_take_73 ?_
          refine V_iconst (pc := 76) (v := 1) C dX5_take_76 rfl ?_
          refine V_iadd (pc := 77) C dX5_take_77 ?_
          refine V_put (pc := 78) (ws' := wOff Y a (up (up (up (up q 6 mq6_56) 7 mq7_56) 5 (0 : Int32)) 8 ((q 8) + (1 : Int32))) pg gS gU (opl_12, oln_12, oou_12, oim_12, on1_12, of1_12, on2_12, of2_12) ft mS_56 mU_56) C 0 5 8 hiX5_take_5 tyX5_ok nmX5 rfl rfl (by decide) wX5_take_k6 rfl rfl rfl (Nat.le_of_ble_eq_true rfl) dX5_take_78 rfl ?_
          refine V_iload_n (pc := 81) C dX5_take_81 rfl 0 rfl ?_
          cases h
          subst hQ
          exact V_iretW C dX5_take_82
        · replace h := t_pos c60 h
          refine V_ldc (pc := 63) (v := -1000005) C dX5_take_63 wX5_take_k5 ?_
          cases h
          subst hQ
          exact V_iretW C dX5_take_65
      refine V_if_eq (pc := 42) C 52 dX5_take_42 rfl (fun c42 => ?_) (fun c42 => ?_)
      · replace h := t_pos c42 h
        refine V_aload_n (pc := 52) C dX5_take_52 rfl 0 rfl ?_
        obtain ⟨r53, oq6_53, oS_53, hq, h⟩ := ob3_some h
        refine V_callVW0 (pc := 53) (rest := []) (st2 := [.int r53]) (ws' := wOff Y a (up q 6 oq6_53) pg gS gU (opl_12, oln_12, oou_12, oim_12, on1_12, of1_12, on2_12, of2_12) ft oS_53 U) C hA (X5_takeStorm_ok (a := a) hq) gX5_take_X5_takeStorm rfl ⟨rfl, hdX5_takeStorm⟩ ⟨Nat.le_of_ble_eq_true rfl, Nat.le_of_ble_eq_true rfl⟩ ⟨Nat.le_refl _, Nat.le_refl _⟩ 0 5 rfl rfl rfl (Nat.le_of_ble_eq_true rfl) dX5_take_53 rfl rfl ?_
        exact V_sub [0] rfl (hJ56 _ _ _ _ _ h)
      · replace h := t_neg c42 h
        refine V_aload_n (pc := 45) C dX5_take_45 rfl 0 rfl ?_
        obtain ⟨r46, oq7_46, oU_46, hq, h⟩ := ob3_some h
        refine V_callVW0 (pc := 46) (rest := []) (st2 := [.int r46]) (ws' := wOff Y a (up q 7 oq7_46) pg gS gU (opl_12, oln_12, oou_12, oim_12, on1_12, of1_12, on2_12, of2_12) ft S oU_46) C hA (X5_takeUnit_ok (a := a) hq) gX5_take_X5_takeUnit rfl ⟨rfl, hdX5_takeUnit⟩ ⟨Nat.le_of_ble_eq_true rfl, Nat.le_of_ble_eq_true rfl⟩ ⟨Nat.le_refl _, Nat.le_refl _⟩ 0 5 rfl rfl rfl (Nat.le_of_ble_eq_true rfl) dX5_take_46 rfl rfl ?_
        refine V_goto (pc := 49) C 56 dX5_take_49 rfl ?_
        exact V_sub [0] rfl (hJ56 _ _ _ _ _ h)
    · replace h := t_pos c29 h
      refine V_ldc (pc := 32) (v := -1000004) C dX5_take_32 wX5_take_k4 ?_
      cases h
      subst hQ
      exact V_iretW C dX5_take_34
def X5_hasStorm (a : Nat → Nat) (q : Nat → Int32) (pg : Nat → Int32) (gS : Nat → Option Nat) (gU : Nat → Option Nat) (rd : RdT) (ft : FtT) (S : Nat → StT) (U : Nat → UnT) (p0 : Int32) : Option (Int32) :=
  if p0 < 0 then (some (0 : Int32)) else (if (q 6) ≤ p0 then (some (0 : Int32)) else (some (1 : Int32)))
theorem wX5_hasStorm_k0 : Cond.fieldLink RX5 179 (TX5 6).1 (TX5 6).2.1 (TX5 6).2.2.1 ∈ wsX5_hasStorm := by decide +kernel
theorem hiX5_hasStorm_5 : ∀ w ∈ u_ws RX5 TX5 11, w ∈ wsX5_hasStorm := fun _ h => List.mem_cons_of_mem _ (List.mem_append_right _ h)
theorem hdX5_hasStorm : yX5_hasStorm.cls ≠ "java/lang/invoke/MethodHandle" ∧ yX5_hasStorm.cls ≠ "java/lang/invoke/VarHandle" ∧ (parseMethodDescriptor yX5_hasStorm.desc).map (fun d => d.parameters.length) = some 1 := by decide +kernel
set_option maxHeartbeats 4000000 in
set_option maxRecDepth 100000 in
theorem X5_hasStorm_ok {l : Launch} {D : va_G} {Y : Nat → ClassId}  {a : Nat → Nat} {q : Nat → Int32} {pg : Nat → Int32} {gS : Nat → Option Nat} {gU : Nat → Option Nat} {rd : RdT} {ft : FtT} {S : Nat → StT} {U : Nat → UnT} {p0 : Int32} {r : Int32} (h : X5_hasStorm a q pg gS gU rd ft S U p0 = some r) : MR l yX5_hasStorm wsX5_hasStorm 0 0 D Y [.ref (a 0), .int p0] (wOff Y a q pg gS gU rd ft S U) (some (.int r)) := by
  refine MR_of (cc := cX5_hasStorm) (nL := 2) (ret := some .boolean) (lv0 := [(0, .ref (a 0)), (1, .int p0)]) (by decide) rfl (Nat.le_of_ble_eq_true rfl) rfl (fun X Q C hQ => ?_)
  unfold X5_hasStorm at h
  refine V_iload_n (pc := 0) C dX5_hasStorm_0 rfl 1 rfl ?_
  refine V_if_lt (pc := 1) C 16 dX5_hasStorm_1 rfl (fun c1 => ?_) (fun c1 => ?_)
  · replace h := t_pos c1 h
    refine V_iconst (pc := 16) (v := 0) C dX5_hasStorm_16 rfl ?_
    cases h
    subst hQ
    exact V_zretR C (by decide) dX5_hasStorm_17
  · replace h := t_neg c1 h
    refine V_iload_n (pc := 4) C dX5_hasStorm_4 rfl 1 rfl ?_
    refine V_aload_n (pc := 5) C dX5_hasStorm_5 rfl 0 rfl ?_
    refine V_get (pc := 6) (v := .int (q 6)) C 0 5 6 hiX5_hasStorm_5 rfl rfl (by decide) wX5_hasStorm_k0 rfl dX5_hasStorm_6 ?_
    refine V_icmp_ge (pc := 9) C 16 dX5_hasStorm_9 rfl (fun c9 => ?_) (fun c9 => ?_)
    · replace h := t_pos c9 h
      refine V_iconst (pc := 16) (v := 0) C dX5_hasStorm_16 rfl ?_
      cases h
      subst hQ
      exact V_zretR C (by decide) dX5_hasStorm_17
    · replace h := t_neg c9 h
      refine V_iconst (pc := 12) (v := 1) C dX5_hasStorm_12 rfl ?_
      refine V_goto (pc := 13) C 17 dX5_hasStorm_13 rfl ?_
      cases h
      subst hQ
      exact V_zretR C (by decide) dX5_hasStorm_17
def X5_dropStorm (a : Nat → Nat) (q : Nat → Int32) (pg : Nat → Int32) (gS : Nat → Option Nat) (gU : Nat → Option Nat) (rd : RdT) (ft : FtT) (S : Nat → StT) (U : Nat → UnT) (p0 : Int32) : Option (Int32 × Int32 × Int32 × (Nat → Option Nat)) :=
  ob1 (X5_hasStorm a q pg gS gU rd ft S U p0) fun r2 =>
  if r2 = 0 then (some ((-1000002 : Int32), (q 6), (q 9), gS)) else (chk (inB p0 3) (if gS (Int32.toNatClampNeg p0) = some (a 15) then (jn1 (fun (mgS_50 : Nat → Option Nat) => chk (inB ((q 6) - (1 : Int32)) 3) (some (((q 6) - (1 : Int32)), ((q 6) - (1 : Int32)), ((q 9) + (1 : Int32)), (va_up mgS_50 (Int32.toNatClampNeg ((q 6) - (1 : Int32))) (some (a 15)))))) fun J50 =>
  wh2 (fun self20 (x3_20 : Int32) (mgS_20 : Nat → Option Nat) =>
  if ((q 6) - (1 : Int32)) ≤ x3_20 then (J50 mgS_20) else (chk (inB (x3_20 + (1 : Int32)) 3) (if mgS_20 (Int32.toNatClampNeg (x3_20 + (1 : Int32))) = some (a 15) then (chk (inB x3_20 3) (self20 (x3_20 + 1) (va_up mgS_20 (Int32.toNatClampNeg x3_20) (some (a 15))))) else (if mgS_20 (Int32.toNatClampNeg (x3_20 + (1 : Int32))) = some (a 22) then (chk (inB x3_20 3) (self20 (x3_20 + 1) (va_up mgS_20 (Int32.toNatClampNeg x3_20) (some (a 22))))) else (if mgS_20 (Int32.toNatClampNeg (x3_20 + (1 : Int32))) = some (a 29) then (chk (inB x3_20 3) (self20 (x3_20 + 1) (va_up mgS_20 (Int32.toNatClampNeg x3_20) (some (a 29))))) else (none)))))) 200 p0 gS) else (if gS (Int32.toNatClampNeg p0) = some (a 22) then (jn1 (fun (mgS_50 : Nat → Option Nat) => chk (inB ((q 6) - (1 : Int32)) 3) (some (((q 6) - (1 : Int32)), ((q 6) - (1 : Int32)), ((q 9) + (1 : Int32)), (va_up mgS_50 (Int32.toNatClampNeg ((q 6) - (1 : Int32))) (some (a 22)))))) fun J50 =>
  wh2 (fun self20 (x3_20 : Int32) (mgS_20 : Nat → Option Nat) =>
  if ((q 6) - (1 : Int32)) ≤ x3_20 then (J50 mgS_20) else (chk (inB (x3_20 + (1 : Int32)) 3) (if mgS_20 (Int32.toNatClampNeg (x3_20 + (1 : Int32))) = some (a 15) then (chk (inB x3_20 3) (self20 (x3_20 + 1) (va_up mgS_20 (Int32.toNatClampNeg x3_20) (some (a 15))))) else (if mgS_20 (Int32.toNatClampNeg (x3_20 + (1 : Int32))) = some (a 22) then (chk (inB x3_20 3) (self20 (x3_20 + 1) (va_up mgS_20 (Int32.toNatClampNeg x3_20) (some (a 22))))) else (if mgS_20 (Int32.toNatClampNeg (x3_20 + (1 : Int32))) = some (a 29) then (chk (inB x3_20 3) (self20 (x3_20 + 1) (va_up mgS_20 (Int32.toNatClampNeg x3_20) (some (a 29))))) else (none)))))) 200 p0 gS) else (if gS (Int32.toNatClampNeg p0) = some (a 29) then (jn1 (fun (mgS_50 : Nat → Option Nat) => chk (inB ((q 6) - (1 : Int32)) 3) (some (((q 6) - (1 : Int32)), ((q 6) - (1 : Int32)), ((q 9) + (1 : Int32)), (va_up mgS_50 (Int32.toNatClampNeg ((q 6) - (1 : Int32))) (some (a 29)))))) fun J50 =>
  wh2 (fun self20 (x3_20 : Int32) (mgS_20 : Nat → Option Nat) =>
  if ((q 6) - (1 : Int32)) ≤ x3_20 then (J50 mgS_20) else (chk (inB (x3_20 + (1 : Int32)) 3) (if mgS_20 (Int32.toNatClampNeg (x3_20 + (1 : Int32))) = some (a 15) then (chk (inB x3_20 3) (self20 (x3_20 + 1) (va_up mgS_20 (Int32.toNatClampNeg x3_20) (some (a 15))))) else (if mgS_20 (Int32.toNatClampNeg (x3_20 + (1 : Int32))) = some (a 22) then (chk (inB x3_20 3) (self20 (x3_20 + 1) (va_up mgS_20 (Int32.toNatClampNeg x3_20) (some (a 22))))) else (if mgS_20 (Int32.toNatClampNeg (x3_20 + (1 : Int32))) = some (a 29) then (chk (inB x3_20 3) (self20 (x3_20 + 1) (va_up mgS_20 (Int32.toNatClampNeg x3_20) (some (a 29))))) else (none)))))) 200 p0 gS) else (none)))))
theorem wX5_dropStorm_k0 : Cond.fieldLink RX5 15 (TX5 1).1 (TX5 1).2.1 (TX5 1).2.2.1 ∈ wsX5_dropStorm := by decide +kernel
theorem hiX5_dropStorm_5 : ∀ w ∈ u_ws RX5 TX5 11, w ∈ wsX5_dropStorm := fun _ h => List.mem_cons_of_mem _ (List.mem_append_right _ h)
theorem wX5_dropStorm_k2 : Cond.fieldLink RX5 179 (TX5 6).1 (TX5 6).2.1 (TX5 6).2.2.1 ∈ wsX5_dropStorm := by decide +kernel
theorem wX5_dropStorm_k3 : Cond.fieldLink RX5 182 (TX5 9).1 (TX5 9).2.1 (TX5 9).2.2.1 ∈ wsX5_dropStorm := by decide +kernel
theorem wX5_dropStorm_k4 : Cond.constant RX5 80 (-1000002) ∈ wsX5_dropStorm := by decide +kernel
theorem hdX5_dropStorm : yX5_dropStorm.cls ≠ "java/lang/invoke/MethodHandle" ∧ yX5_dropStorm.cls ≠ "java/lang/invoke/VarHandle" ∧ (parseMethodDescriptor yX5_dropStorm.desc).map (fun d => d.parameters.length) = some 1 := by decide +kernel
set_option maxHeartbeats 4000000 in
set_option maxRecDepth 100000 in
theorem X5_dropStorm_ok {l : Launch} {D : va_G} {Y : Nat → ClassId}  {a : Nat → Nat} {q : Nat → Int32} {pg : Nat → Int32} {gS : Nat → Option Nat} {gU : Nat → Option Nat} {rd : RdT} {ft : FtT} {S : Nat → StT} {U : Nat → UnT} {p0 : Int32} {r : Int32} {uq6 : Int32} {uq9 : Int32} {ugS : Nat → Option Nat} (h : X5_dropStorm a q pg gS gU rd ft S U p0 = some (r, uq6, uq9, ugS)) : MW l yX5_dropStorm wsX5_dropStorm 1 21 D Y [.ref (a 0), .int p0] (wOff Y a q pg gS gU rd ft S U) (wOff Y a (up (up q 6 uq6) 9 uq9) pg ugS gU rd ft S U) (some (.int r)) := by
  refine MW_of (cc := cX5_dropStorm) (nL := 4) (ret := some .int) (lv0 := [(0, .ref (a 0)), (1, .int p0)]) (by decide) rfl (Nat.le_of_ble_eq_true rfl) rfl rfl (fun X Af Q C hA hQ => ?_)
  unfold X5_dropStorm at h
  refine V_aload_n (pc := 0) C dX5_dropStorm_0 rfl 0 rfl ?_
  refine V_iload_n (pc := 1) C dX5_dropStorm_1 rfl 1 rfl ?_
  obtain ⟨r2, hq, h⟩ := ob1_some h
  refine V_callVR0 (pc := 2) (rest := []) (st2 := [.int r2]) C (X5_hasStorm_ok (a := a) hq) gX5_dropStorm_X5_hasStorm rfl ⟨rfl, hdX5_hasStorm⟩ ⟨Nat.le_of_ble_eq_true rfl, Nat.le_of_ble_eq_true rfl⟩ ⟨Nat.le_refl _, Nat.le_refl _⟩ 0 5 rfl rfl rfl (Nat.le_of_ble_eq_true rfl) dX5_dropStorm_2 rfl ?_
  refine V_if_ne (pc := 5) C 11 dX5_dropStorm_5 rfl (fun c5 => ?_) (fun c5 => ?_)
  · replace h := t_neg c5 h
    refine V_aload_n (pc := 11) C dX5_dropStorm_11 rfl 0 rfl ?_
    refine V_get (pc := 12) (v := .ref (a 2)) C 0 5 1 hiX5_dropStorm_5 rfl rfl (by decide) wX5_dropStorm_k0 rfl dX5_dropStorm_12 ?_
    refine V_iload_n (pc := 15) C dX5_dropStorm_15 rfl 1 rfl ?_
    obtain ⟨b16, h⟩ := chk_some h
    by_cases e16 : gS (Int32.toNatClampNeg p0) = some (a 15)
    · replace h := t_pos e16 h
      refine V_aald (pc := 16) C 2 2 rfl rfl b16 e16 dX5_dropStorm_16 ?_
      refine V_astore_n (pc := 17) (lv' := [(2, .ref (a 15)), (0, .ref (a 0)), (1, .int p0)]) C dX5_dropStorm_17 rfl (Nat.le_of_ble_eq_true rfl) rfl ?_
      refine V_iload_n (pc := 18) C dX5_dropStorm_18 rfl 2 rfl ?_
      refine V_istore_n (pc := 19) (lv' := [(3, .int p0), (2, .ref (a 15)), (0, .ref (a 0)), (1, .int p0)]) C dX5_dropStorm_19 rfl (Nat.le_of_ble_eq_true rfl) rfl ?_
      refine jn1_ok (P := (fun (mgS_50 : Nat → Option Nat) => VW X D 4 Q (KM Af X) (0, 0) (wOff Y a q pg mgS_50 gU rd ft S U) [(0, .ref (a 0)), (2, .ref (a 15))] 50 [])) (fun mgS_50 h => ?_) (fun J50 hJ50 h => ?_) h
      · refine V_aload_n (pc := 50) C dX5_dropStorm_50 rfl 0 rfl ?_
        refine V_dup (pc := 51) C dX5_dropStorm_51 rfl ?_
        refine V_get (pc := 52) (v := .int (q 6)) C 0 5 6 hiX5_dropStorm_5 rfl rfl (by decide) wX5_dropStorm_k2 rfl dX5_dropStorm_52 ?_
        refine V_iconst (pc := 55) (v := 1) C dX5_dropStorm_55 rfl ?_
        refine V_isub (pc := 56) C dX5_dropStorm_56 ?_
        refine V_put (pc := 57) (ws' := wOff Y a (up q 6 ((q 6) - (1 : Int32))) pg mgS_50 gU rd ft S U) C 0 5 6 hiX5_dropStorm_5 tyX5_ok nmX5 rfl rfl (by decide) wX5_dropStorm_k2 rfl rfl rfl (Nat.le_of_ble_eq_true rfl) dX5_dropStorm_57 rfl ?_
        refine V_aload_n (pc := 60) C dX5_dropStorm_60 rfl 0 rfl ?_
        refine V_get (pc := 61) (v := .ref (a 2)) C 0 5 1 hiX5_dropStorm_5 rfl rfl (by decide) wX5_dropStorm_k0 rfl dX5_dropStorm_61 ?_
        refine V_aload_n (pc := 64) C dX5_dropStorm_64 rfl 0 rfl ?_
        refine V_get (pc := 65) (v := .int ((q 6) - (1 : Int32))) C 0 5 6 hiX5_dropStorm_5 rfl rfl (by decide) wX5_dropStorm_k2 rfl dX5_dropStorm_65 ?_
        refine V_aload_n (pc := 68) C dX5_dropStorm_68 rfl 1 rfl ?_
        obtain ⟨b69, h⟩ := chk_some h
        refine V_aast (pc := 69) (ws' := wOff Y a (up q 6 ((q 6) - (1 : Int32))) pg (va_up mgS_50 (Int32.toNatClampNeg ((q 6) - (1 : Int32))) (some (a 15))) gU rd ft S U) C 2 2 15 3 rfl rfl rfl rfl b69 dX5_dropStorm_69 rfl ?_
        refine V_aload_n (pc := 70) C dX5_dropStorm_70 rfl 0 rfl ?_
        refine V_dup (pc := 71) C dX5_dropStorm_71 rfl ?_
        refine V_get (pc := 72) (v := .int (q 9)) C 0 5 9 hiX5_dropStorm_5 rfl rfl (by decide) wX5_dropStorm_k3 rfl dX5_dropStorm_72 ?_
        refine V_iconst (pc := 75) (v := 1) C dX5_dropStorm_75 rfl ?_
        refine V_iadd (pc := 76) C dX5_dropStorm_76 ?_
        refine V_put (pc := 77) (ws' := wOff Y a (up (up q 6 ((q 6) - (1 : Int32))) 9 ((q 9) + (1 : Int32))) pg (va_up mgS_50 (Int32.toNatClampNeg ((q 6) - (1 : Int32))) (some (a 15))) gU rd ft S U) C 0 5 9 hiX5_dropStorm_5 tyX5_ok nmX5 rfl rfl (by decide) wX5_dropStorm_k3 rfl rfl rfl (Nat.le_of_ble_eq_true rfl) dX5_dropStorm_77 rfl ?_
        refine V_aload_n (pc := 80) C dX5_dropStorm_80 rfl 0 rfl ?_
        refine V_get (pc := 81) (v := .int ((q 6) - (1 : Int32))) C 0 5 6 hiX5_dropStorm_5 rfl rfl (by decide) wX5_dropStorm_k2 rfl dX5_dropStorm_81 ?_
        cases h
        subst hQ
        exact V_iretW C dX5_dropStorm_84
      refine V_sub [2, 1, 0] rfl (wh2_ok (P := (fun (x3_20 : Int32) (mgS_20 : Nat → Option Nat) => VW X D 4 Q (KM Af X) (0, 0) (wOff Y a q pg mgS_20 gU rd ft S U) [(0, .ref (a 0)), (2, .ref (a 15)), (3, .int x3_20)] 20 [])) (fun self20 ih20 x3_20 mgS_20 h => ?_) 200 _ _ h)
      refine V_iload_n (pc := 20) C dX5_dropStorm_20 rfl 2 rfl ?_
      refine V_aload_n (pc := 21) C dX5_dropStorm_21 rfl 0 rfl ?_
      refine V_get (pc := 22) (v := .int (q 6)) C 0 5 6 hiX5_dropStorm_5 rfl rfl (by decide) wX5_dropStorm_k2 rfl dX5_dropStorm_22 ?_
      refine V_iconst (pc := 25) (v := 1) C dX5_dropStorm_25 rfl ?_
      refine V_isub (pc := 26) C dX5_dropStorm_26 ?_
      refine V_icmp_ge (pc := 27) C 50 dX5_dropStorm_27 rfl (fun c27 => ?_) (fun c27 => ?_)
      · replace h := t_pos c27 h
        exact V_sub [0, 1] rfl (hJ50 _ h)
      · replace h := t_neg c27 h
        refine V_aload_n (pc := 30) C dX5_dropStorm_30 rfl 0 rfl ?_
        refine V_get (pc := 31) (v := .ref (a 2)) C 0 5 1 hiX5_dropStorm_5 rfl rfl (by decide) wX5_dropStorm_k0 rfl dX5_dropStorm_31 ?_
        refine V_iload_n (pc := 34) C dX5_dropStorm_34 rfl 2 rfl ?_
        refine V_aload_n (pc := 35) C dX5_dropStorm_35 rfl 0 rfl ?_
        refine V_get (pc := 36) (v := .ref (a 2)) C 0 5 1 hiX5_dropStorm_5 rfl rfl (by decide) wX5_dropStorm_k0 rfl dX5_dropStorm_36 ?_
        refine V_iload_n (pc := 39) C dX5_dropStorm_39 rfl 2 rfl ?_
        refine V_iconst (pc := 40) (v := 1) C dX5_dropStorm_40 rfl ?_
        refine V_iadd (pc := 41) C dX5_dropStorm_41 ?_
        obtain ⟨b42, h⟩ := chk_some h
        by_cases e42 : mgS_20 (Int32.toNatClampNeg (x3_20 + (1 : Int32))) = some (a 15)
        · replace h := t_pos e42 h
          refine V_aald (pc := 42) C 2 2 rfl rfl b42 e42 dX5_dropStorm_42 ?_
          obtain ⟨b43, h⟩ := chk_some h
          refine V_aast (pc := 43) (ws' := wOff Y a q pg (va_up mgS_20 (Int32.toNatClampNeg x3_20) (some (a 15))) gU rd ft S U) C 2 2 15 3 rfl rfl rfl rfl b43 dX5_dropStorm_43 rfl ?_
          refine V_iinc (pc := 44) (v := (x3_20 + 1)) (lv' := [(3, .int (x3_20 + 1)), (0, .ref (a 0)), (2, .ref (a 15))]) C dX5_dropStorm_44 2 rfl rfl (Nat.le_of_ble_eq_true rfl) rfl ?_
          refine V_goto (pc := 47) C 20 dX5_dropStorm_47 rfl ?_
          exact V_sub [1, 2, 0] rfl (ih20 _ _ h)
        replace h := t_neg e42 h
        by_cases e42 : mgS_20 (Int32.toNatClampNeg (x3_20 + (1 : Int32))) = some (a 22)
        · replace h := t_pos e42 h
          refine V_aald (pc := 42) C 2 2 rfl rfl b42 e42 dX5_dropStorm_42 ?_
          obtain ⟨b43, h⟩ := chk_some h
          refine V_aast (pc := 43) (ws' := wOff Y a q pg (va_up mgS_20 (Int32.toNatClampNeg x3_20) (some (a 22))) gU rd ft S U) C 2 2 22 3 rfl rfl rfl rfl b43 dX5_dropStorm_43 rfl ?_
          refine V_iinc (pc := 44) (v := (x3_20 + 1)) (lv' := [(3, .int (x3_20 + 1)), (0, .ref (a 0)), (2, .ref (a 15))]) C dX5_dropStorm_44 2 rfl rfl (Nat.le_of_ble_eq_true rfl) rfl ?_
          refine V_goto (pc := 47) C 20 dX5_dropStorm_47 rfl ?_
          exact V_sub [1, 2, 0] rfl (ih20 _ _ h)
        replace h := t_neg e42 h
        by_cases e42 : mgS_20 (Int32.toNatClampNeg (x3_20 + (1 : Int32))) = some (a 29)
        · replace h := t_pos e42 h
          refine V_aald (pc := 42) C 2 2 rfl rfl b42 e42 dX5_dropStorm_42 ?_
          obtain ⟨b43, h⟩ := chk_some h
          refine V_aast (pc := 43) (ws' := wOff Y a q pg (va_up mgS_20 (Int32.toNatClampNeg x3_20) (some (a 29))) gU rd ft S U) C 2 2 29 3 rfl rfl rfl rfl b43 dX5_dropStorm_43 rfl ?_
          refine V_iinc (pc := 44) (v := (x3_20 + 1)) (lv' := [(3, .int (x3_20 + 1)), (0, .ref (a 0)), (2, .ref (a 15))]) C dX5_dropStorm_44 2 rfl rfl (Nat.le_of_ble_eq_true rfl) rfl ?_
          refine V_goto (pc := 47) C 20 dX5_dropStorm_47 rfl ?_
          exact V_sub [1, 2, 0] rfl (ih20 _ _ h)
        replace h := t_neg e42 h
        cases h
    replace h := t_neg e16 h
    by_cases e16 : gS (Int32.toNatClampNeg p0) = some (a 22)
    · replace h := t_pos e16 h
      refine V_aald (pc := 16) C 2 2 rfl rfl b16 e16 dX5_dropStorm_16 ?_
      refine V_astore_n (pc := 17) (lv' := [(2, .ref (a 22)), (0, .ref (a 0)), (1, .int p0)]) C dX5_dropStorm_17 rfl (Nat.le_of_ble_eq_true rfl) rfl ?_
      refine V_iload_n (pc := 18) C dX5_dropStorm_18 rfl 2 rfl ?_
      refine V_istore_n (pc := 19) (lv' := [(3, .int p0), (2, .ref (a 22)), (0, .ref (a 0)), (1, .int p0)]) C dX5_dropStorm_19 rfl (Nat.le_of_ble_eq_true rfl) rfl ?_
      refine jn1_ok (P := (fun (mgS_50 : Nat → Option Nat) => VW X D 4 Q (KM Af X) (0, 0) (wOff Y a q pg mgS_50 gU rd ft S U) [(0, .ref (a 0)), (2, .ref (a 22))] 50 [])) (fun mgS_50 h => ?_) (fun J50 hJ50 h => ?_) h
      · refine V_aload_n (pc := 50) C dX5_dropStorm_50 rfl 0 rfl ?_
        refine V_dup (pc := 51) C dX5_dropStorm_51 rfl ?_
        refine V_get (pc := 52) (v := .int (q 6)) C 0 5 6 hiX5_dropStorm_5 rfl rfl (by decide) wX5_dropStorm_k2 rfl dX5_dropStorm_52 ?_
        refine V_iconst (pc := 55) (v := 1) C dX5_dropStorm_55 rfl ?_
        refine V_isub (pc := 56) C dX5_dropStorm_56 ?_
        refine V_put (pc := 57) (ws' := wOff Y a (up q 6 ((q 6) - (1 : Int32))) pg mgS_50 gU rd ft S U) C 0 5 6 hiX5_dropStorm_5 tyX5_ok nmX5 rfl rfl (by decide) wX5_dropStorm_k2 rfl rfl rfl (Nat.le_of_ble_eq_true rfl) dX5_dropStorm_57 rfl ?_
        refine V_aload_n (pc := 60) C dX5_dropStorm_60 rfl 0 rfl ?_
        refine V_get (pc := 61) (v := .ref (a 2)) C 0 5 1 hiX5_dropStorm_5 rfl rfl (by decide) wX5_dropStorm_k0 rfl dX5_dropStorm_61 ?_
        refine V_aload_n (pc := 64) C dX5_dropStorm_64 rfl 0 rfl ?_
        refine V_get (pc := 65) (v := .int ((q 6) - (1 : Int32))) C 0 5 6 hiX5_dropStorm_5 rfl rfl (by decide) wX5_dropStorm_k2 rfl dX5_dropStorm_65 ?_
        refine V_aload_n (pc := 68) C dX5_dropStorm_68 rfl 1 rfl ?_
        obtain ⟨b69, h⟩ := chk_some h
        refine V_aast (pc := 69) (ws' := wOff Y a (up q 6 ((q 6) - (1 : Int32))) pg (va_up mgS_50 (Int32.toNatClampNeg ((q 6) - (1 : Int32))) (some (a 22))) gU rd ft S U) C 2 2 22 3 rfl rfl rfl rfl b69 dX5_dropStorm_69 rfl ?_
        refine V_aload_n (pc := 70) C dX5_dropStorm_70 rfl 0 rfl ?_
        refine V_dup (pc := 71) C dX5_dropStorm_71 rfl ?_
        refine V_get (pc := 72) (v := .int (q 9)) C 0 5 9 hiX5_dropStorm_5 rfl rfl (by decide) wX5_dropStorm_k3 rfl dX5_dropStorm_72 ?_
        refine V_iconst (pc := 75) (v := 1) C dX5_dropStorm_75 rfl ?_
        refine V_iadd (pc := 76) C dX5_dropStorm_76 ?_
        refine V_put (pc := 77) (ws' := wOff Y a (up (up q 6 ((q 6) - (1 : Int32))) 9 ((q 9) + (1 : Int32))) pg (va_up mgS_50 (Int32.toNatClampNeg ((q 6) - (1 : Int32))) (some (a 22))) gU rd ft S U) C 0 5 9 hiX5_dropStorm_5 tyX5_ok nmX5 rfl rfl (by decide) wX5_dropStorm_k3 rfl rfl rfl (Nat.le_of_ble_eq_true rfl) dX5_dropStorm_77 rfl ?_
        refine V_aload_n (pc := 80) C dX5_dropStorm_80 rfl 0 rfl ?_
        refine V_get (pc := 81) (v := .int ((q 6) - (1 : Int32))) C 0 5 6 hiX5_dropStorm_5 rfl rfl (by decide) wX5_dropStorm_k2 rfl dX5_dropStorm_81 ?_
        cases h
        subst hQ
        exact V_iretW C dX5_dropStorm_84
      refine V_sub [2, 1, 0] rfl (wh2_ok (P := (fun (x3_20 : Int32) (mgS_20 : Nat → Option Nat) => VW X D 4 Q (KM Af X) (0, 0) (wOff Y a q pg mgS_20 gU rd ft S U) [(0, .ref (a 0)), (2, .ref (a 22)), (3, .int x3_20)] 20 [])) (fun self20 ih20 x3_20 mgS_20 h => ?_) 200 _ _ h)
      refine V_iload_n (pc := 20) C dX5_dropStorm_20 rfl 2 rfl ?_
      refine V_aload_n (pc := 21) C dX5_dropStorm_21 rfl 0 rfl ?_
      refine V_get (pc := 22) (v := .int (q 6)) C 0 5 6 hiX5_dropStorm_5 rfl rfl (by decide) wX5_dropStorm_k2 rfl dX5_dropStorm_22 ?_
      refine V_iconst (pc := 25) (v := 1) C dX5_dropStorm_25 rfl ?_
      refine V_isub (pc := 26) C dX5_dropStorm_26 ?_
      refine V_icmp_ge (pc := 27) C 50 dX5_dropStorm_27 rfl (fun c27 => ?_) (fun c27 => ?_)
      · replace h := t_pos c27 h
        exact V_sub [0, 1] rfl (hJ50 _ h)
      · replace h := t_neg c27 h
        refine V_aload_n (pc := 30) C dX5_dropStorm_30 rfl 0 rfl ?_
        refine V_get (pc := 31) (v := .ref (a 2)) C 0 5 1 hiX5_dropStorm_5 rfl rfl (by decide) wX5_dropStorm_k0 rfl dX5_dropStorm_31 ?_
        refine V_iload_n (pc := 34) C dX5_dropStorm_34 rfl 2 rfl ?_
        refine V_aload_n (pc := 35) C dX5_dropStorm_35 rfl 0 rfl ?_
        refine V_get (pc := 36) (v := .ref (a 2)) C 0 5 1 hiX5_dropStorm_5 rfl rfl (by decide) wX5_dropStorm_k0 rfl dX5_dropStorm_36 ?_
        refine V_iload_n (pc := 39) C dX5_dropStorm_39 rfl 2 rfl ?_
        refine V_iconst (pc := 40) (v := 1) C dX5_dropStorm_40 rfl ?_
        refine V_iadd (pc := 41) C dX5_dropStorm_41 ?_
        obtain ⟨b42, h⟩ := chk_some h
        by_cases e42 : mgS_20 (Int32.toNatClampNeg (x3_20 + (1 : Int32))) = some (a 15)
        · replace h := t_pos e42 h
          refine V_aald (pc := 42) C 2 2 rfl rfl b42 e42 dX5_dropStorm_42 ?_
          obtain ⟨b43, h⟩ := chk_some h
          refine V_aast (pc := 43) (ws' := wOff Y a q pg (va_up mgS_20 (Int32.toNatClampNeg x3_20) (some (a 15))) gU rd ft S U) C 2 2 15 3 rfl rfl rfl rfl b43 dX5_dropStorm_43 rfl ?_
          refine V_iinc (pc := 44) (v := (x3_20 + 1)) (lv' := [(3, .int (x3_20 + 1)), (0, .ref (a 0)), (2, .ref (a 22))]) C dX5_dropStorm_44 2 rfl rfl (Nat.le_of_ble_eq_true rfl) rfl ?_
          refine V_goto (pc := 47) C 20 dX5_dropStorm_47 rfl ?_
          exact V_sub [1, 2, 0] rfl (ih20 _ _ h)
        replace h := t_neg e42 h
        by_cases e42 : mgS_20 (Int32.toNatClampNeg (x3_20 + (1 : Int32))) = some (a 22)
        · replace h := t_pos e42 h
          refine V_aald (pc := 42) C 2 2 rfl rfl b42 e42 dX5_dropStorm_42 ?_
          obtain ⟨b43, h⟩ := chk_some h
          refine V_aast (pc := 43) (ws' := wOff Y a q pg (va_up mgS_20 (Int32.toNatClampNeg x3_20) (some (a 22))) gU rd ft S U) C 2 2 22 3 rfl rfl rfl rfl b43 dX5_dropStorm_43 rfl ?_
          refine V_iinc (pc := 44) (v := (x3_20 + 1)) (lv' := [(3, .int (x3_20 + 1)), (0, .ref (a 0)), (2, .ref (a 22))]) C dX5_dropStorm_44 2 rfl rfl (Nat.le_of_ble_eq_true rfl) rfl ?_
          refine V_goto (pc := 47) C 20 dX5_dropStorm_47 rfl ?_
          exact V_sub [1, 2, 0] rfl (ih20 _ _ h)
        replace h := t_neg e42 h
        by_cases e42 : mgS_20 (Int32.toNatClampNeg (x3_20 + (1 : Int32))) = some (a 29)
        · replace h := t_pos e42 h
          refine V_aald (pc := 42) C 2 2 rfl rfl b42 e42 dX5_dropStorm_42 ?_
          obtain ⟨b43, h⟩ := chk_some h
          refine V_aast (pc := 43) (ws' := wOff Y a q pg (va_up mgS_20 (Int32.toNatClampNeg x3_20) (some (a 29))) gU rd ft S U) C 2 2 29 3 rfl rfl rfl rfl b43 dX5_dropStorm_43 rfl ?_
          refine V_iinc (pc := 44) (v := (x3_20 + 1)) (lv' := [(3, .int (x3_20 + 1)), (0, .ref (a 0)), (2, .ref (a 22))]) C dX5_dropStorm_44 2 rfl rfl (Nat.le_of_ble_eq_true rfl) rfl ?_
          refine V_goto (pc := 47) C 20 dX5_dropStorm_47 rfl ?_
          exact V_sub [1, 2, 0] rfl (ih20 _ _ h)
        replace h := t_neg e42 h
        cases h
    replace h := t_neg e16 h
    by_cases e16 : gS (Int32.toNatClampNeg p0) = some (a 29)
    · replace h := t_pos e16 h
      refine V_aald (pc := 16) C 2 2 rfl rfl b16 e16 dX5_dropStorm_16 ?_
      refine V_astore_n (pc := 17) (lv' := [(2, .ref (a 29)), (0, .ref (a 0)), (1, .int p0)]) C dX5_dropStorm_17 rfl (Nat.le_of_ble_eq_true rfl) rfl ?_
      refine V_iload_n (pc := 18) C dX5_dropStorm_18 rfl 2 rfl ?_
      refine V_istore_n (pc := 19) (lv' := [(3, .int p0), (2, .ref (a 29)), (0, .ref (a 0)), (1, .int p0)]) C dX5_dropStorm_19 rfl (Nat.le_of_ble_eq_true rfl) rfl ?_
      refine jn1_ok (P := (fun (mgS_50 : Nat → Option Nat) => VW X D 4 Q (KM Af X) (0, 0) (wOff Y a q pg mgS_50 gU rd ft S U) [(0, .ref (a 0)), (2, .ref (a 29))] 50 [])) (fun mgS_50 h => ?_) (fun J50 hJ50 h => ?_) h
      · refine V_aload_n (pc := 50) C dX5_dropStorm_50 rfl 0 rfl ?_
        refine V_dup (pc := 51) C dX5_dropStorm_51 rfl ?_
        refine V_get (pc := 52) (v := .int (q 6)) C 0 5 6 hiX5_dropStorm_5 rfl rfl (by decide) wX5_dropStorm_k2 rfl dX5_dropStorm_52 ?_
        refine V_iconst (pc := 55) (v := 1) C dX5_dropStorm_55 rfl ?_
        refine V_isub (pc := 56) C dX5_dropStorm_56 ?_
        refine V_put (pc := 57) (ws' := wOff Y a (up q 6 ((q 6) - (1 : Int32))) pg mgS_50 gU rd ft S U) C 0 5 6 hiX5_dropStorm_5 tyX5_ok nmX5 rfl rfl (by decide) wX5_dropStorm_k2 rfl rfl rfl (Nat.le_of_ble_eq_true rfl) dX5_dropStorm_57 rfl ?_
        refine V_aload_n (pc := 60) C dX5_dropStorm_60 rfl 0 rfl ?_
        refine V_get (pc := 61) (v := .ref (a 2)) C 0 5 1 hiX5_dropStorm_5 rfl rfl (by decide) wX5_dropStorm_k0 rfl dX5_dropStorm_61 ?_
        refine V_aload_n (pc := 64) C dX5_dropStorm_64 rfl 0 rfl ?_
        refine V_get (pc := 65) (v := .int ((q 6) - (1 : Int32))) C 0 5 6 hiX5_dropStorm_5 rfl rfl (by decide) wX5_dropStorm_k2 rfl dX5_dropStorm_65 ?_
        refine V_aload_n (pc := 68) C dX5_dropStorm_68 rfl 1 rfl ?_
        obtain ⟨b69, h⟩ := chk_some h
        refine V_aast (pc := 69) (ws' := wOff Y a (up q 6 ((q 6) - (1 : Int32))) pg (va_up mgS_50 (Int32.toNatClampNeg ((q 6) - (1 : Int32))) (some (a 29))) gU rd ft S U) C 2 2 29 3 rfl rfl rfl rfl b69 dX5_dropStorm_69 rfl ?_
        refine V_aload_n (pc := 70) C dX5_dropStorm_70 rfl 0 rfl ?_
        refine V_dup (pc := 71) C dX5_dropStorm_71 rfl ?_
        refine V_get (pc := 72) (v := .int (q 9)) C 0 5 9 hiX5_dropStorm_5 rfl rfl (by decide) wX5_dropStorm_k3 rfl dX5_dropStorm_72 ?_
        refine V_iconst (pc := 75) (v := 1) C dX5_dropStorm_75 rfl ?_
        refine V_iadd (pc := 76) C dX5_dropStorm_76 ?_
        refine V_put (pc := 77) (ws' := wOff Y a (up (up q 6 ((q 6) - (1 : Int32))) 9 ((q 9) + (1 : Int32))) pg (va_up mgS_50 (Int32.toNatClampNeg ((q 6) - (1 : Int32))) (some (a 29))) gU rd ft S U) C 0 5 9 hiX5_dropStorm_5 tyX5_ok nmX5 rfl rfl (by decide) wX5_dropStorm_k3 rfl rfl rfl (Nat.le_of_ble_eq_true rfl) dX5_dropStorm_77 rfl ?_
        refine V_aload_n (pc := 80) C dX5_dropStorm_80 rfl 0 rfl ?_
        refine V_get (pc := 81) (v := .int ((q 6) - (1 : Int32))) C 0 5 6 hiX5_dropStorm_5 rfl rfl (by decide) wX5_dropStorm_k2 rfl dX5_dropStorm_81 ?_
        cases h
        subst hQ
        exact V_iretW C dX5_dropStorm_84
      refine V_sub [2, 1, 0] rfl (wh2_ok (P := (fun (x3_20 : Int32) (mgS_20 : Nat → Option Nat) => VW X D 4 Q (KM Af X) (0, 0) (wOff Y a q pg mgS_20 gU rd ft S U) [(0, .ref (a 0)), (2, .ref (a 29)), (3, .int x3_20)] 20 [])) (fun self20 ih20 x3_20 mgS_20 h => ?_) 200 _ _ h)
      refine V_iload_n (pc := 20) C dX5_dropStorm_20 rfl 2 rfl ?_
      refine V_aload_n (pc := 21) C dX5_dropStorm_21 rfl 0 rfl ?_
      refine V_get (pc := 22) (v := .int (q 6)) C 0 5 6 hiX5_dropStorm_5 rfl rfl (by decide) wX5_dropStorm_k2 rfl dX5_dropStorm_22 ?_
      refine V_iconst (pc := 25) (v := 1) C dX5_dropStorm_25 rfl ?_
      refine V_isub (pc := 26) C dX5_dropStorm_26 ?_
      refine V_icmp_ge (pc := 27) C 50 dX5_dropStorm_27 rfl (fun c27 => ?_) (fun c27 => ?_)
      · replace h := t_pos c27 h
        exact V_sub [0, 1] rfl (hJ50 _ h)
      · replace h := t_neg c27 h
        refine V_aload_n (pc := 30) C dX5_dropStorm_30 rfl 0 rfl ?_
        refine V_get (pc := 31) (v := .ref (a 2)) C 0 5 1 hiX5_dropStorm_5 rfl rfl (by decide) wX5_dropStorm_k0 rfl dX5_dropStorm_31 ?_
        refine V_iload_n (pc := 34) C dX5_dropStorm_34 rfl 2 rfl ?_
        refine V_aload_n (pc := 35) C dX5_dropStorm_35 rfl 0 rfl ?_
        refine V_get (pc := 36) (v := .ref (a 2)) C 0 5 1 hiX5_dropStorm_5 rfl rfl (by decide) wX5_dropStorm_k0 rfl dX5_dropStorm_36 ?_
        refine V_iload_n (pc := 39) C dX5_dropStorm_39 rfl 2 rfl ?_
        refine V_iconst (pc := 40) (v := 1) C dX5_dropStorm_40 rfl ?_
        refine V_iadd (pc := 41) C dX5_dropStorm_41 ?_
        obtain ⟨b42, h⟩ := chk_some h
        by_cases e42 : mgS_20 (Int32.toNatClampNeg (x3_20 + (1 : Int32))) = some (a 15)
        · replace h := t_pos e42 h
          refine V_aald (pc := 42) C 2 2 rfl rfl b42 e42 dX5_dropStorm_42 ?_
          obtain ⟨b43, h⟩ := chk_some h
          refine V_aast (pc := 43) (ws' := wOff Y a q pg (va_up mgS_20 (Int32.toNatClampNeg x3_20) (some (a 15))) gU rd ft S U) C 2 2 15 3 rfl rfl rfl rfl b43 dX5_dropStorm_43 rfl ?_
          refine V_iinc (pc := 44) (v := (x3_20 + 1)) (lv' := [(3, .int (x3_20 + 1)), (0, .ref (a 0)), (2, .ref (a 29))]) C dX5_dropStorm_44 2 rfl rfl (Nat.le_of_ble_eq_true rfl) rfl ?_
          refine V_goto (pc := 47) C 20 dX5_dropStorm_47 rfl ?_
          exact V_sub [1, 2, 0] rfl (ih20 _ _ h)
        replace h := t_neg e42 h
        by_cases e42 : mgS_20 (Int32.toNatClampNeg (x3_20 + (1 : Int32))) = some (a 22)
        · replace h := t_pos e42 h
          refine V_aald (pc := 42) C 2 2 rfl rfl b42 e42 dX5_dropStorm_42 ?_
          obtain ⟨b43, h⟩ := chk_some h
          refine V_aast (pc := 43) (ws' := wOff Y a q pg (va_up mgS_20 (Int32.toNatClampNeg x3_20) (some (a 22))) gU rd ft S U) C 2 2 22 3 rfl rfl rfl rfl b43 dX5_dropStorm_43 rfl ?_
          refine V_iinc (pc := 44) (v := (x3_20 + 1)) (lv' := [(3, .int (x3_20 + 1)), (0, .ref (a 0)), (2, .ref (a 29))]) C dX5_dropStorm_44 2 rfl rfl (Nat.le_of_ble_eq_true rfl) rfl ?_
          refine V_goto (pc := 47) C 20 dX5_dropStorm_47 rfl ?_
          exact V_sub [1, 2, 0] rfl (ih20 _ _ h)
        replace h := t_neg e42 h
        by_cases e42 : mgS_20 (Int32.toNatClampNeg (x3_20 + (1 : Int32))) = some (a 29)
        · replace h := t_pos e42 h
          refine V_aald (pc := 42) C 2 2 rfl rfl b42 e42 dX5_dropStorm_42 ?_
          obtain ⟨b43, h⟩ := chk_some h
          refine V_aast (pc := 43) (ws' := wOff Y a q pg (va_up mgS_20 (Int32.toNatClampNeg x3_20) (some (a 29))) gU rd ft S U) C 2 2 29 3 rfl rfl rfl rfl b43 dX5_dropStorm_43 rfl ?_
          refine V_iinc (pc := 44) (v := (x3_20 + 1)) (lv' := [(3, .int (x3_20 + 1)), (0, .ref (a 0)), (2, .ref (a 29))]) C dX5_dropStorm_44 2 rfl rfl (Nat.le_of_ble_eq_true rfl) rfl ?_
          refine V_goto (pc := 47) C 20 dX5_dropStorm_47 rfl ?_
          exact V_sub [1, 2, 0] rfl (ih20 _ _ h)
        replace h := t_neg e42 h
        cases h
    replace h := t_neg e16 h
    cases h
  · replace h := t_pos c5 h
    refine V_ldc (pc := 8) (v := -1000002) C dX5_dropStorm_8 wX5_dropStorm_k4 ?_
    cases h
    subst hQ
    exact V_iretW C dX5_dropStorm_10
