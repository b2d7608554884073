def X3_goesEvenly (n1 : Int32) (f1 : Nat → Int32) (n2 : Int32) (f2 : Nat → Int32) (n3 : Int32) (f3 : Nat → Int32) (ev : Int32) : Option (Int32) :=
  chk (isB ev) (some ev)
theorem wX3_goesEvenly_k0 : Cond.fieldLink RX3 24 (TX3 3).1 (TX3 3).2.1 (TX3 3).2.2.1 ∈ wsX3_goesEvenly := by decide +kernel
theorem hiX3_goesEvenly_3 : ∀ w ∈ u_ws RX3 TX3 4, w ∈ wsX3_goesEvenly := fun _ h => List.mem_cons_of_mem _ (List.mem_append_right _ h)
theorem hdX3_goesEvenly : yX3_goesEvenly.cls ≠ "java/lang/invoke/MethodHandle" ∧ yX3_goesEvenly.cls ≠ "java/lang/invoke/VarHandle" ∧ (parseMethodDescriptor yX3_goesEvenly.desc).map (fun d => d.parameters.length) = some 0 := by decide +kernel
set_option maxHeartbeats 4000000 in
set_option maxRecDepth 100000 in
theorem X3_goesEvenly_ok {l : Launch} {D : va_G} {Y : Nat → ClassId} {a : Nat → Nat} {n1 : Int32} {f1 : Nat → Int32} {n2 : Int32} {f2 : Nat → Int32} {n3 : Int32} {f3 : Nat → Int32} {ev : Int32} {r : Int32} (h : X3_goesEvenly n1 f1 n2 f2 n3 f3 ev = some r) : MR l yX3_goesEvenly wsX3_goesEvenly 0 0 D Y [.ref (a 0)] (wStorm Y a n1 f1 n2 f2 n3 f3 ev) (some (.int r)) := by
  refine MR_of (cc := cX3_goesEvenly) (nL := 1) (ret := some .boolean) (lv0 := [(0, .ref (a 0))]) (by decide) rfl (Nat.le_of_ble_eq_true rfl) rfl (fun X Q C hQ => ?_)
  unfold X3_goesEvenly at h
  refine V_aload_n (pc := 0) C dX3_goesEvenly_0 rfl 0 rfl ?_
  refine V_get (pc := 1) (v := .int ev) C 0 3 3 hiX3_goesEvenly_3 rfl rfl (by decide) wX3_goesEvenly_k0 rfl dX3_goesEvenly_1 ?_
  obtain ⟨b4, h⟩ := chk_some h
  cases h
  subst hQ
  exact V_zretR C (isB_n b4) dX3_goesEvenly_4
def X3_rainTimes (n1 : Int32) (f1 : Nat → Int32) (n2 : Int32) (f2 : Nat → Int32) (n3 : Int32) (f3 : Nat → Int32) (ev : Int32) (nx2 : Int32) (fx2 : Nat → Int32) (p1 : Int32) : Option (Int32) :=
  jn1 (fun (x3_38 : Int32) => some x3_38) fun J38 =>
  wh2 (fun self5 (x3_5 : Int32) (x4_5 : Int32) =>
  if (3 : Int32) ≤ x4_5 then (J38 x3_5) else (ob1 (X2_at n1 f1 x4_5) fun r18 =>
  ob1 (X2_at nx2 fx2 (p1 - x4_5)) fun r26 =>
  self5 (x3_5 + (r18 * r26)) (x4_5 + 1))) 200 (0 : Int32) (0 : Int32)
theorem wX3_rainTimes_k0 : Cond.fieldLink RX3 12 (TX3 0).1 (TX3 0).2.1 (TX3 0).2.2.1 ∈ wsX3_rainTimes := by decide +kernel
theorem hiX3_rainTimes_3 : ∀ w ∈ u_ws RX3 TX3 4, w ∈ wsX3_rainTimes := fun _ h => List.mem_cons_of_mem _ (List.mem_append_left _ (List.mem_append_right _ h))
theorem hdX3_rainTimes : yX3_rainTimes.cls ≠ "java/lang/invoke/MethodHandle" ∧ yX3_rainTimes.cls ≠ "java/lang/invoke/VarHandle" ∧ (parseMethodDescriptor yX3_rainTimes.desc).map (fun d => d.parameters.length) = some 2 := by decide +kernel
set_option maxHeartbeats 4000000 in
set_option maxRecDepth 100000 in
theorem X3_rainTimes_ok {l : Launch} {D : va_G} {Y : Nat → ClassId} {a : Nat → Nat} {ax2 : Nat} {bx2 : Nat} {n1 : Int32} {f1 : Nat → Int32} {n2 : Int32} {f2 : Nat → Int32} {n3 : Int32} {f3 : Nat → Int32} {ev : Int32} {nx2 : Int32} {fx2 : Nat → Int32} {p1 : Int32} {r : Int32} (h : X3_rainTimes n1 f1 n2 f2 n3 f3 ev nx2 fx2 p1 = some r) : MR l yX3_rainTimes wsX3_rainTimes 1 21 D Y [.ref (a 0), .ref ax2, .int p1] (wStorm Y a n1 f1 n2 f2 n3 f3 ev ++ wRow Y ax2 bx2 nx2 fx2) (some (.int r)) := by
  refine MR_of (cc := cX3_rainTimes) (nL := 5) (ret := some .int) (lv0 := [(0, .ref (a 0)), (1, .ref ax2), (2, .int p1)]) (by decide) rfl (Nat.le_of_ble_eq_true rfl) rfl (fun X Q C hQ => ?_)
  unfold X3_rainTimes at h
  refine V_iconst (pc := 0) (v := 0) C dX3_rainTimes_0 rfl ?_
  refine V_istore_n (pc := 1) (lv' := [(3, .int (0 : Int32)), (0, .ref (a 0)), (1, .ref ax2), (2, .int p1)]) C dX3_rainTimes_1 rfl (Nat.le_of_ble_eq_true rfl) rfl ?_
  refine V_iconst (pc := 2) (v := 0) C dX3_rainTimes_2 rfl ?_
  refine V_istore (pc := 3) (lv' := [(4, .int (0 : Int32)), (3, .int (0 : Int32)), (0, .ref (a 0)), (1, .ref ax2), (2, .int p1)]) C dX3_rainTimes_3 (Nat.le_of_ble_eq_true rfl) rfl ?_
  refine jn1_ok (P := (fun (x3_38 : Int32) => VW X D 5 Q (KR X) (0, 0) (wStorm Y a n1 f1 n2 f2 n3 f3 ev ++ wRow Y ax2 bx2 nx2 fx2) [(3, .int x3_38)] 38 [])) (fun x3_38 h => ?_) (fun J38 hJ38 h => ?_) h
  · refine V_iload_n (pc := 38) C dX3_rainTimes_38 rfl 0 rfl ?_
    cases h
    subst hQ
    exact V_iretR C dX3_rainTimes_39
  refine V_sub [2, 3, 4, 1, 0] rfl (wh2_ok (P := (fun (x3_5 : Int32) (x4_5 : Int32) => VW X D 5 Q (KR X) (0, 0) (wStorm Y a n1 f1 n2 f2 n3 f3 ev ++ wRow Y ax2 bx2 nx2 fx2) [(0, .ref (a 0)), (1, .ref ax2), (2, .int p1), (3, .int x3_5), (4, .int x4_5)] 5 [])) (fun self5 ih5 x3_5 x4_5 h => ?_) 200 _ _ h)
  refine V_iload (pc := 5) C dX3_rainTimes_5 4 rfl ?_
  refine V_iconst (pc := 7) (v := 3) C dX3_rainTimes_7 rfl ?_
  refine V_icmp_ge (pc := 8) C 38 dX3_rainTimes_8 rfl (fun c8 => ?_) (fun c8 => ?_)
  · replace h := t_pos c8 h
    exact V_sub [3] rfl (hJ38 _ h)
  · replace h := t_neg c8 h
    refine V_iload_n (pc := 11) C dX3_rainTimes_11 rfl 3 rfl ?_
    refine V_aload_n (pc := 12) C dX3_rainTimes_12 rfl 0 rfl ?_
    refine V_get (pc := 13) (v := .ref (a 1)) C 0 3 0 hiX3_rainTimes_3 rfl rfl (by decide) wX3_rainTimes_k0 rfl dX3_rainTimes_13 ?_
    refine V_iload (pc := 16) C dX3_rainTimes_16 4 rfl ?_
    obtain ⟨r18, hq, h⟩ := ob1_some h
    refine V_callVR (pc := 18) (rest := [.int x3_5]) (st2 := [.int r18, .int x3_5]) C (X2_at_ok (a := (a 1)) (b := (a 2)) hq) gX3_rainTimes_X2_at rfl ⟨rfl, hdX2_at⟩ ⟨Nat.le_of_ble_eq_true rfl, Nat.le_of_ble_eq_true rfl⟩ ⟨Nat.le_refl _, Nat.le_refl _⟩ [1, 2] rfl 1 2 rfl rfl rfl (Nat.le_of_ble_eq_true rfl) dX3_rainTimes_18 rfl ?_
    refine V_aload_n (pc := 21) C dX3_rainTimes_21 rfl 1 rfl ?_
    refine V_iload_n (pc := 22) C dX3_rainTimes_22 rfl 2 rfl ?_
    refine V_iload (pc := 23) C dX3_rainTimes_23 4 rfl ?_
    refine V_isub (pc := 25) C dX3_rainTimes_25 ?_
    obtain ⟨r26, hq, h⟩ := ob1_some h
    refine V_callVR (pc := 26) (rest := [.int r18, .int x3_5]) (st2 := [.int r26, .int r18, .int x3_5]) C (X2_at_ok (a := ax2) (b := bx2) hq) gX3_rainTimes_X2_at rfl ⟨rfl, hdX2_at⟩ ⟨Nat.le_of_ble_eq_true rfl, Nat.le_of_ble_eq_true rfl⟩ ⟨Nat.le_refl _, Nat.le_refl _⟩ [7, 8] rfl 7 2 rfl rfl rfl (Nat.le_of_ble_eq_true rfl) dX3_rainTimes_26 rfl ?_
    refine V_imul (pc := 29) C dX3_rainTimes_29 ?_
    refine V_iadd (pc := 30) C dX3_rainTimes_30 ?_
    refine V_istore_n (pc := 31) (lv' := [(3, .int (x3_5 + (r18 * r26))), (0, .ref (a 0)), (1, .ref ax2), (2, .int p1), (4, .int x4_5)]) C dX3_rainTimes_31 rfl (Nat.le_of_ble_eq_true rfl) rfl ?_
    refine V_iinc (pc := 32) (v := (x4_5 + 1)) (lv' := [(4, .int (x4_5 + 1)), (3, .int (x3_5 + (r18 * r26))), (0, .ref (a 0)), (1, .ref ax2), (2, .int p1)]) C dX3_rainTimes_32 4 rfl rfl (Nat.le_of_ble_eq_true rfl) rfl ?_
    refine V_goto (pc := 35) C 5 dX3_rainTimes_35 rfl ?_
    exact V_sub [2, 3, 4, 1, 0] rfl (ih5 _ _ h)
def X3_divide (n1 : Int32) (f1 : Nat → Int32) (n2 : Int32) (f2 : Nat → Int32) (n3 : Int32) (f3 : Nat → Int32) (ev : Int32) : Option (Int32 × (Nat → Int32) × Int32) :=
  ob1 (X2_clear n3 f3) fun on_4 =>
  ob1 (X2_size n2 f2) fun r11 =>
  ob1 (X2_size n1 f1) fun r18 =>
  ob1 (X2_at n1 f1 (0 : Int32)) fun r30 =>
  jn1 (fun (s48_1 : Int32) => chk (isB s48_1) (wh4 (fun self53 (x3_53 : Int32) (mn3_53 : Int32) (mf3_53 : Nat → Int32) (mev_53 : Int32) =>
  if (8 : Int32) ≤ x3_53 then (some (mn3_53, mf3_53, mev_53)) else (if mev_53 = 0 then (some (mn3_53, mf3_53, mev_53)) else (ob1 (X2_at n2 f2 x3_53) fun r71 =>
  ob1 (X3_rainTimes n1 f1 n2 f2 mn3_53 mf3_53 mev_53 mn3_53 mf3_53 x3_53) fun r80 =>
  jn3 (fun (mn3_138 : Int32) (mf3_138 : Nat → Int32) (mev_138 : Int32) => self53 (x3_53 + 1) mn3_138 mf3_138 mev_138) fun J138 =>
  if x3_53 < ((r11 - r18) + (1 : Int32)) then (jn0 (J138 mn3_53 mf3_53 (0 : Int32)) fun J133 =>
  if r30 ≤ 0 then (J133) else (chk (ne0 r30) (if ((r71 - r80) - (r71 - r80) / r30 * r30) = 0 then (chk (ne0 r30) (ob2 (X2_add mn3_53 mf3_53 ((r71 - r80) / r30)) fun on_127 of_127 =>
  J138 on_127 of_127 mev_53)) else (J133)))) else (jn1 (fun (s102_1 : Int32) => chk (isB s102_1) (J138 mn3_53 mf3_53 s102_1)) fun J102 =>
  if (r71 - r80) = 0 then (J102 (1 : Int32)) else (J102 (0 : Int32)))))) 200 (0 : Int32) on_4 f3 s48_1)) fun J48 =>
  if ((r11 - r18) + (1 : Int32)) ≤ 0 then (J48 (0 : Int32)) else (if r30 ≤ 0 then (J48 (0 : Int32)) else (J48 (1 : Int32)))
theorem wX3_divide_k0 : Cond.fieldLink RX3 21 (TX3 2).1 (TX3 2).2.1 (TX3 2).2.2.1 ∈ wsX3_divide := by decide +kernel
theorem hiX3_divide_3 : ∀ w ∈ u_ws RX3 TX3 4, w ∈ wsX3_divide := fun _ h => List.mem_cons_of_mem _ (List.mem_append_left _ (List.mem_append_right _ h))
theorem wX3_divide_k2 : Cond.fieldLink RX3 18 (TX3 1).1 (TX3 1).2.1 (TX3 1).2.2.1 ∈ wsX3_divide := by decide +kernel
theorem wX3_divide_k3 : Cond.fieldLink RX3 12 (TX3 0).1 (TX3 0).2.1 (TX3 0).2.2.1 ∈ wsX3_divide := by decide +kernel
theorem wX3_divide_k4 : Cond.fieldLink RX3 24 (TX3 3).1 (TX3 3).2.1 (TX3 3).2.2.1 ∈ wsX3_divide := by decide +kernel
theorem hdX3_divide : yX3_divide.cls ≠ "java/lang/invoke/MethodHandle" ∧ yX3_divide.cls ≠ "java/lang/invoke/VarHandle" ∧ (parseMethodDescriptor yX3_divide.desc).map (fun d => d.parameters.length) = some 0 := by decide +kernel
set_option maxHeartbeats 4000000 in
set_option maxRecDepth 100000 in
theorem X3_divide_ok {l : Launch} {D : va_G} {Y : Nat → ClassId} {a : Nat → Nat} {n1 : Int32} {f1 : Nat → Int32} {n2 : Int32} {f2 : Nat → Int32} {n3 : Int32} {f3 : Nat → Int32} {ev : Int32} {un3 : Int32} {uf3 : Nat → Int32} {uev : Int32} (h : X3_divide n1 f1 n2 f2 n3 f3 ev = some (un3, uf3, uev)) : MW l yX3_divide wsX3_divide 2 45 D Y [.ref (a 0)] (wStorm Y a n1 f1 n2 f2 n3 f3 ev) (wStorm Y a n1 f1 n2 f2 un3 uf3 uev) none := by
  refine MW_of (cc := cX3_divide) (nL := 5) (ret := none) (lv0 := [(0, .ref (a 0))]) (by decide) rfl (Nat.le_of_ble_eq_true rfl) rfl rfl (fun X Af Q C hA hQ => ?_)
  unfold X3_divide at h
  refine V_aload_n (pc := 0) C dX3_divide_0 rfl 0 rfl ?_
  refine V_get (pc := 1) (v := .ref (a 5)) C 0 3 2 hiX3_divide_3 rfl rfl (by decide) wX3_divide_k0 rfl dX3_divide_1 ?_
  obtain ⟨on_4, hq, h⟩ := ob1_some h
  refine V_callVW (pc := 4) (rest := []) (st2 := []) (ws' := wStorm Y a n1 f1 n2 f2 on_4 f3 ev) C hA (X2_clear_ok (a := (a 5)) (b := (a 6)) hq) gX3_divide_X2_clear rfl ⟨rfl, hdX2_clear⟩ ⟨Nat.le_of_ble_eq_true rfl, Nat.le_of_ble_eq_true rfl⟩ ⟨Nat.le_refl _, Nat.le_refl _⟩ [5, 6] rfl rfl 5 2 rfl rfl rfl (Nat.le_of_ble_eq_true rfl) dX3_divide_4 rfl rfl ?_
  refine V_aload_n (pc := 7) C dX3_divide_7 rfl 0 rfl ?_
  refine V_get (pc := 8) (v := .ref (a 3)) C 0 3 1 hiX3_divide_3 rfl rfl (by decide) wX3_divide_k2 rfl dX3_divide_8 ?_
  obtain ⟨r11, hq, h⟩ := ob1_some h
  refine V_callVR (pc := 11) (rest := []) (st2 := [.int r11]) C (X2_size_ok (a := (a 3)) (b := (a 4)) hq) gX3_divide_X2_size rfl ⟨rfl, hdX2_size⟩ ⟨Nat.le_of_ble_eq_true rfl, Nat.le_of_ble_eq_true rfl⟩ ⟨Nat.le_refl _, Nat.le_refl _⟩ [3, 4] rfl 3 2 rfl rfl rfl (Nat.le_of_ble_eq_true rfl) dX3_divide_11 rfl ?_
  refine V_aload_n (pc := 14) C dX3_divide_14 rfl 0 rfl ?_
  refine V_get (pc := 15) (v := .ref (a 1)) C 0 3 0 hiX3_divide_3 rfl rfl (by decide) wX3_divide_k3 rfl dX3_divide_15 ?_
  obtain ⟨r18, hq, h⟩ := ob1_some h
  refine V_callVR (pc := 18) (rest := [.int r11]) (st2 := [.int r18, .int r11]) C (X2_size_ok (a := (a 1)) (b := (a 2)) hq) gX3_divide_X2_size rfl ⟨rfl, hdX2_size⟩ ⟨Nat.le_of_ble_eq_true rfl, Nat.le_of_ble_eq_true rfl⟩ ⟨Nat.le_refl _, Nat.le_refl _⟩ [1, 2] rfl 1 2 rfl rfl rfl (Nat.le_of_ble_eq_true rfl) dX3_divide_18 rfl ?_
  refine V_isub (pc := 21) C dX3_divide_21 ?_
  refine V_iconst (pc := 22) (v := 1) C dX3_divide_22 rfl ?_
  refine V_iadd (pc := 23) C dX3_divide_23 ?_
  refine V_istore_n (pc := 24) (lv' := [(1, .int ((r11 - r18) + (1 : Int32))), (0, .ref (a 0))]) C dX3_divide_24 rfl (Nat.le_of_ble_eq_true rfl) rfl ?_
  refine V_aload_n (pc := 25) C dX3_divide_25 rfl 1 rfl ?_
  refine V_get (pc := 26) (v := .ref (a 1)) C 0 3 0 hiX3_divide_3 rfl rfl (by decide) wX3_divide_k3 rfl dX3_divide_26 ?_
  refine V_iconst (pc := 29) (v := 0) C dX3_divide_29 rfl ?_
  obtain ⟨r30, hq, h⟩ := ob1_some h
  refine V_callVR (pc := 30) (rest := []) (st2 := [.int r30]) C (X2_at_ok (a := (a 1)) (b := (a 2)) hq) gX3_divide_X2_at rfl ⟨rfl, hdX2_at⟩ ⟨Nat.le_of_ble_eq_true rfl, Nat.le_of_ble_eq_true rfl⟩ ⟨Nat.le_refl _, Nat.le_refl _⟩ [1, 2] rfl 1 2 rfl rfl rfl (Nat.le_of_ble_eq_true rfl) dX3_divide_30 rfl ?_
  refine V_istore_n (pc := 33) (lv' := [(2, .int r30), (1, .int ((r11 - r18) + (1 : Int32))), (0, .ref (a 0))]) C dX3_divide_33 rfl (Nat.le_of_ble_eq_true rfl) rfl ?_
  refine V_aload_n (pc := 34) C dX3_divide_34 rfl 2 rfl ?_
  refine V_iload_n (pc := 35) C dX3_divide_35 rfl 1 rfl ?_
  refine jn1_ok (P := (fun (s48_1 : Int32) => VW X D 5 Q (KM Af X) (0, 0) (wStorm Y a n1 f1 n2 f2 on_4 f3 ev) [(0, .ref (a 0)), (1, .int ((r11 - r18) + (1 : Int32))), (2, .int r30)] 48 [.int s48_1, .ref (a 0)])) (fun s48_1 h => ?_) (fun J48 hJ48 h => ?_) h
  · obtain ⟨b48, h⟩ := chk_some h
    refine V_put (pc := 48) (ws' := wStorm Y a n1 f1 n2 f2 on_4 f3 s48_1) C 0 3 3 hiX3_divide_3 tyX3_ok nmX3 rfl rfl (by decide) wX3_divide_k4 rfl (isB_n b48) (isB_f b48) (Nat.le_of_ble_eq_true rfl) dX3_divide_48 rfl ?_
    refine V_iconst (pc := 51) (v := 0) C dX3_divide_51 rfl ?_
    refine V_istore_n (pc := 52) (lv' := [(3, .int (0 : Int32)), (0, .ref (a 0)), (1, .int ((r11 - r18) + (1 : Int32))), (2, .int r30)]) C dX3_divide_52 rfl (Nat.le_of_ble_eq_true rfl) rfl ?_
    refine V_sub [1, 2, 3, 0] rfl (wh4_ok (P := (fun (x3_53 : Int32) (mn3_53 : Int32) (mf3_53 : Nat → Int32) (mev_53 : Int32) => VW X D 5 Q (KM Af X) (0, 0) (wStorm Y a n1 f1 n2 f2 mn3_53 mf3_53 mev_53) [(0, .ref (a 0)), (1, .int ((r11 - r18) + (1 : Int32))), (2, .int r30), (3, .int x3_53)] 53 [])) (fun self53 ih53 x3_53 mn3_53 mf3_53 mev_53 h => ?_) 200 _ _ _ _ h)
    refine V_iload_n (pc := 53) C dX3_divide_53 rfl 3 rfl ?_
    refine V_bipush (pc := 54) (v := 8) C dX3_divide_54 rfl ?_
    refine V_icmp_ge (pc := 56) C 144 dX3_divide_56 rfl (fun c56 => ?_) (fun c56 => ?_)
    · replace h := t_pos c56 h
      cases h
      subst hQ
      exact V_vretW C dX3_divide_144
    · replace h := t_neg c56 h
      refine V_aload_n (pc := 59) C dX3_divide_59 rfl 0 rfl ?_
      refine V_get (pc := 60) (v := .int mev_53) C 0 3 3 hiX3_divide_3 rfl rfl (by decide) wX3_divide_k4 rfl dX3_divide_60 ?_
      refine V_if_eq (pc := 63) C 144 dX3_divide_63 rfl (fun c63 => ?_) (fun c63 => ?_)
      · replace h := t_pos c63 h
        cases h
        subst hQ
        exact V_vretW C dX3_divide_144
      · replace h := t_neg c63 h
        refine V_aload_n (pc := 66) C dX3_divide_66 rfl 0 rfl ?_
        refine V_get (pc := 67) (v := .ref (a 3)) C 0 3 1 hiX3_divide_3 rfl rfl (by decide) wX3_divide_k2 rfl dX3_divide_67 ?_
        refine V_iload_n (pc := 70) C dX3_divide_70 rfl 3 rfl ?_
        obtain ⟨r71, hq, h⟩ := ob1_some h
        refine V_callVR (pc := 71) (rest := []) (st2 := [.int r71]) C (X2_at_ok (a := (a 3)) (b := (a 4)) hq) gX3_divide_X2_at rfl ⟨rfl, hdX2_at⟩ ⟨Nat.le_of_ble_eq_true rfl, Nat.le_of_ble_eq_true rfl⟩ ⟨Nat.le_refl _, Nat.le_refl _⟩ [3, 4] rfl 3 2 rfl rfl rfl (Nat.le_of_ble_eq_true rfl) dX3_divide_71 rfl ?_
        refine V_aload_n (pc := 74) C dX3_divide_74 rfl 0 rfl ?_
        refine V_aload_n (pc := 75) C dX3_divide_75 rfl 0 rfl ?_
        refine V_get (pc := 76) (v := .ref (a 5)) C 0 3 2 hiX3_divide_3 rfl rfl (by decide) wX3_divide_k0 rfl dX3_divide_76 ?_
        refine V_iload_n (pc := 79) C dX3_divide_79 rfl 3 rfl ?_
        obtain ⟨r80, hq, h⟩ := ob1_some h
        refine V_callVR (pc := 80) (rest := [.int r71]) (st2 := [.int r80, .int r71]) C (X3_rainTimes_ok (a := a) (ax2 := (a 5)) (bx2 := (a 6)) hq) gX3_divide_X3_rainTimes rfl ⟨rfl, hdX3_rainTimes⟩ ⟨Nat.le_of_ble_eq_true rfl, Nat.le_of_ble_eq_true rfl⟩ ⟨Nat.le_refl _, Nat.le_refl _⟩ [0, 1, 2, 3, 4, 5, 6, 5, 6] rfl 0 3 rfl rfl rfl (Nat.le_of_ble_eq_true rfl) dX3_divide_80 rfl ?_
        refine V_isub (pc := 83) C dX3_divide_83 ?_
        refine V_istore (pc := 84) (lv' := [(4, .int (r71 - r80)), (0, .ref (a 0)), (1, .int ((r11 - r18) + (1 : Int32))), (2, .int r30), (3, .int x3_53)]) C dX3_divide_84 (Nat.le_of_ble_eq_true rfl) rfl ?_
        refine V_iload_n (pc := 86) C dX3_divide_86 rfl 4 rfl ?_
        refine V_iload_n (pc := 87) C dX3_divide_87 rfl 2 rfl ?_
        refine jn3_ok (P := (fun (mn3_138 : Int32) (mf3_138 : Nat → Int32) (mev_138 : Int32) => VW X D 5 Q (KM Af X) (0, 0) (wStorm Y a n1 f1 n2 f2 mn3_138 mf3_138 mev_138) [(0, .ref (a 0)), (1, .int ((r11 - r18) + (1 : Int32))), (2, .int r30), (3, .int x3_53)] 138 [])) (fun mn3_138 mf3_138 mev_138 h => ?_) (fun J138 hJ138 h => ?_) h
        · refine V_iinc (pc := 138) (v := (x3_53 + 1)) (lv' := [(3, .int (x3_53 + 1)), (0, .ref (a 0)), (1, .int ((r11 - r18) + (1 : Int32))), (2, .int r30)]) C dX3_divide_138 3 rfl rfl (Nat.le_of_ble_eq_true rfl) rfl ?_
          refine V_goto (pc := 141) C 53 dX3_divide_141 rfl ?_
          exact V_sub [1, 2, 3, 0] rfl (ih53 _ _ _ _ h)
        refine V_icmp_lt (pc := 88) C 108 dX3_divide_88 rfl (fun c88 => ?_) (fun c88 => ?_)
        · replace h := t_pos c88 h
          refine V_iload_n (pc := 108) C dX3_divide_108 rfl 3 rfl ?_
          refine jn0_ok (P := (VW X D 5 Q (KM Af X) (0, 0) (wStorm Y a n1 f1 n2 f2 mn3_53 mf3_53 mev_53) [(0, .ref (a 0)), (1, .int ((r11 - r18) + (1 : Int32))), (2, .int r30), (3, .int x3_53)] 133 [])) (fun h => ?_) (fun J133 hJ133 h => ?_) h
          · refine V_aload_n (pc := 133) C dX3_divide_133 rfl 0 rfl ?_
            refine V_iconst (pc := 134) (v := 0) C dX3_divide_134 rfl ?_
            refine V_put (pc := 135) (ws' := wStorm Y a n1 f1 n2 f2 mn3_53 mf3_53 (0 : Int32)) C 0 3 3 hiX3_divide_3 tyX3_ok nmX3 rfl rfl (by decide) wX3_divide_k4 rfl (by decide) (by decide) (Nat.le_of_ble_eq_true rfl) dX3_divide_135 rfl ?_
            exact V_sub [0, 1, 2, 3] rfl (hJ138 _ _ _ h)
          refine V_if_le (pc := 109) C 133 dX3_divide_109 rfl (fun c109 => ?_) (fun c109 => ?_)
          · replace h := t_pos c109 h
            exact V_sub [1, 2, 3, 4] rfl (hJ133 h)
          · replace h := t_neg c109 h
            refine V_iload (pc := 112) C dX3_divide_112 0 rfl ?_
            refine V_iload_n (pc := 114) C dX3_divide_114 rfl 3 rfl ?_
            obtain ⟨b115, h⟩ := chk_some h
            refine V_irem (pc := 115) C dX3_divide_115 (ne0_n b115) ?_
            refine V_if_ne (pc := 116) C 133 dX3_divide_116 rfl (fun c116 => ?_) (fun c116 => ?_)
            · replace h := t_neg c116 h
              exact V_sub [1, 2, 3, 4] rfl (hJ133 h)
            · replace h := t_pos c116 h
              refine V_aload_n (pc := 119) C dX3_divide_119 rfl 1 rfl ?_
              refine V_get (pc := 120) (v := .ref (a 5)) C 0 3 2 hiX3_divide_3 rfl rfl (by decide) wX3_divide_k0 rfl dX3_divide_120 ?_
              refine V_iload (pc := 123) C dX3_divide_123 0 rfl ?_
              refine V_iload_n (pc := 125) C dX3_divide_125 rfl 3 rfl ?_
              obtain ⟨b126, h⟩ := chk_some h
              refine V_idiv (pc := 126) C dX3_divide_126 (ne0_n b126) ?_
              obtain ⟨on_127, of_127, hq, h⟩ := ob2_some h
              refine V_callVW (pc := 127) (rest := []) (st2 := []) (ws' := wStorm Y a n1 f1 n2 f2 on_127 of_127 mev_53) C hA (X2_add_ok (a := (a 5)) (b := (a 6)) hq) gX3_divide_X2_add rfl ⟨rfl, hdX2_add⟩ ⟨Nat.le_of_ble_eq_true rfl, Nat.le_of_ble_eq_true rfl⟩ ⟨Nat.le_refl _, Nat.le_refl _⟩ [5, 6] rfl rfl 5 2 rfl rfl rfl (Nat.le_of_ble_eq_true rfl) dX3_divide_127 rfl rfl ?_
              refine V_goto (pc := 130) C 138 dX3_divide_130 rfl ?_
              exact V_sub [1, 2, 3, 4] rfl (hJ138 _ _ _ h)
        · replace h := t_neg c88 h
          refine V_aload_n (pc := 91) C dX3_divide_91 rfl 1 rfl ?_
          refine V_iload (pc := 92) C dX3_divide_92 0 rfl ?_
          refine jn1_ok (P := (fun (s102_1 : Int32) => VW X D 5 Q (KM Af X) (0, 0) (wStorm Y a n1 f1 n2 f2 mn3_53 mf3_53 mev_53) [(0, .ref (a 0)), (1, .int ((r11 - r18) + (1 : Int32))), (2, .int r30), (3, .int x3_53)] 102 [.int s102_1, .ref (a 0)])) (fun s102_1 h => ?_) (fun J102 hJ102 h => ?_) h
          · obtain ⟨b102, h⟩ := chk_some h
            refine V_put (pc := 102) (ws' := wStorm Y a n1 f1 n2 f2 mn3_53 mf3_53 s102_1) C 0 3 3 hiX3_divide_3 tyX3_ok nmX3 rfl rfl (by decide) wX3_divide_k4 rfl (isB_n b102) (isB_f b102) (Nat.le_of_ble_eq_true rfl) dX3_divide_102 rfl ?_
            refine V_goto (pc := 105) C 138 dX3_divide_105 rfl ?_
            exact V_sub [0, 1, 2, 3] rfl (hJ138 _ _ _ h)
          refine V_if_ne (pc := 94) C 101 dX3_divide_94 rfl (fun c94 => ?_) (fun c94 => ?_)
          · replace h := t_neg c94 h
            refine V_iconst (pc := 101) (v := 0) C dX3_divide_101 rfl ?_
            exact V_sub [1, 2, 3, 4] rfl (hJ102 _ h)
          · replace h := t_pos c94 h
            refine V_iconst (pc := 97) (v := 1) C dX3_divide_97 rfl ?_
            refine V_goto (pc := 98) C 102 dX3_divide_98 rfl ?_
            exact V_sub [1, 2, 3, 4] rfl (hJ102 _ h)
  refine V_if_le (pc := 36) C 47 dX3_divide_36 rfl (fun c36 => ?_) (fun c36 => ?_)
  · replace h := t_pos c36 h
    refine V_iconst (pc := 47) (v := 0) C dX3_divide_47 rfl ?_
    exact V_sub [2, 1, 0] rfl (hJ48 _ h)
  · replace h := t_neg c36 h
    refine V_iload_n (pc := 39) C dX3_divide_39 rfl 0 rfl ?_
    refine V_if_le (pc := 40) C 47 dX3_divide_40 rfl (fun c40 => ?_) (fun c40 => ?_)
    · replace h := t_pos c40 h
      refine V_iconst (pc := 47) (v := 0) C dX3_divide_47 rfl ?_
      exact V_sub [2, 1, 0] rfl (hJ48 _ h)
    · replace h := t_neg c40 h
      refine V_iconst (pc := 43) (v := 1) C dX3_divide_43 rfl ?_
      refine V_goto (pc := 44) C 48 dX3_divide_44 rfl ?_
      exact V_sub [2, 1, 0] rfl (hJ48 _ h)
def X3_become (n1 : Int32) (f1 : Nat → Int32) (n2 : Int32) (f2 : Nat → Int32) (n3 : Int32) (f3 : Nat → Int32) (ev : Int32) (nx2 : Int32) (fx2 : Nat → Int32) (nx3 : Int32) (fx3 : Nat → Int32) : Option (Int32 × (Nat → Int32) × Int32 × (Nat → Int32) × Int32 × (Nat → Int32) × Int32) :=
  ob2 (X2_become n1 f1 nx2 fx2) fun on_5 of_5 =>
  ob2 (X2_become n2 f2 nx3 fx3) fun on_13 of_13 =>
  ob3 (X3_divide on_5 of_5 on_13 of_13 n3 f3 ev) fun on3_17 of3_17 oev_17 =>
  some (on_5, of_5, on_13, of_13, on3_17, of3_17, oev_17)
theorem wX3_become_k0 : Cond.fieldLink RX3 12 (TX3 0).1 (TX3 0).2.1 (TX3 0).2.2.1 ∈ wsX3_become := by decide +kernel
theorem hiX3_become_3 : ∀ w ∈ u_ws RX3 TX3 4, w ∈ wsX3_become := fun _ h => List.mem_cons_of_mem _ (List.mem_append_left _ (List.mem_append_right _ h))
theorem wX3_become_k2 : Cond.fieldLink RX3 18 (TX3 1).1 (TX3 1).2.1 (TX3 1).2.2.1 ∈ wsX3_become := by decide +kernel
theorem hdX3_become : yX3_become.cls ≠ "java/lang/invoke/MethodHandle" ∧ yX3_become.cls ≠ "java/lang/invoke/VarHandle" ∧ (parseMethodDescriptor yX3_become.desc).map (fun d => d.parameters.length) = some 2 := by decide +kernel
set_option maxHeartbeats 4000000 in
set_option maxRecDepth 100000 in
theorem X3_become_ok {l : Launch} {D : va_G} {Y : Nat → ClassId} {a : Nat → Nat} {ax2 : Nat} {bx2 : Nat} {ax3 : Nat} {bx3 : Nat} {n1 : Int32} {f1 : Nat → Int32} {n2 : Int32} {f2 : Nat → Int32} {n3 : Int32} {f3 : Nat → Int32} {ev : Int32} {nx2 : Int32} {fx2 : Nat → Int32} {nx3 : Int32} {fx3 : Nat → Int32} {un1 : Int32} {uf1 : Nat → Int32} {un2 : Int32} {uf2 : Nat → Int32} {un3 : Int32} {uf3 : Nat → Int32} {uev : Int32} (h : X3_become n1 f1 n2 f2 n3 f3 ev nx2 fx2 nx3 fx3 = some (un1, uf1, un2, uf2, un3, uf3, uev)) : MW l yX3_become wsX3_become 3 69 D Y [.ref (a 0), .ref ax2, .ref ax3] (wStorm Y a n1 f1 n2 f2 n3 f3 ev ++ wRow Y ax2 bx2 nx2 fx2 ++ wRow Y ax3 bx3 nx3 fx3) (wStorm Y a un1 uf1 un2 uf2 un3 uf3 uev ++ wRow Y ax2 bx2 nx2 fx2 ++ wRow Y ax3 bx3 nx3 fx3) none := by
  refine MW_of (cc := cX3_become) (nL := 3) (ret := none) (lv0 := [(0, .ref (a 0)), (1, .ref ax2), (2, .ref ax3)]) (by decide) rfl (Nat.le_of_ble_eq_true rfl) rfl rfl (fun X Af Q C hA hQ => ?_)
  unfold X3_become at h
  refine V_aload_n (pc := 0) C dX3_become_0 rfl 0 rfl ?_
  refine V_get (pc := 1) (v := .ref (a 1)) C 0 3 0 hiX3_become_3 rfl rfl (by decide) wX3_become_k0 rfl dX3_become_1 ?_
  refine V_aload_n (pc := 4) C dX3_become_4 rfl 1 rfl ?_
  obtain ⟨on_5, of_5, hq, h⟩ := ob2_some h
  refine V_callVW (pc := 5) (rest := []) (st2 := []) (ws' := wStorm Y a on_5 of_5 n2 f2 n3 f3 ev ++ wRow Y ax2 bx2 nx2 fx2 ++ wRow Y ax3 bx3 nx3 fx3) C hA (X2_become_ok (a := (a 1)) (b := (a 2)) (ax2 := ax2) (bx2 := bx2) hq) gX3_become_X2_become rfl ⟨rfl, hdX2_become⟩ ⟨Nat.le_of_ble_eq_true rfl, Nat.le_of_ble_eq_true rfl⟩ ⟨Nat.le_refl _, Nat.le_refl _⟩ [1, 2, 7, 8] rfl rfl 1 2 rfl rfl rfl (Nat.le_of_ble_eq_true rfl) dX3_become_5 rfl rfl ?_
  refine V_aload_n (pc := 8) C dX3_become_8 rfl 0 rfl ?_
  refine V_get (pc := 9) (v := .ref (a 3)) C 0 3 1 hiX3_become_3 rfl rfl (by decide) wX3_become_k2 rfl dX3_become_9 ?_
  refine V_aload_n (pc := 12) C dX3_become_12 rfl 2 rfl ?_
  obtain ⟨on_13, of_13, hq, h⟩ := ob2_some h
  refine V_callVW (pc := 13) (rest := []) (st2 := []) (ws' := wStorm Y a on_5 of_5 on_13 of_13 n3 f3 ev ++ wRow Y ax2 bx2 nx2 fx2 ++ wRow Y ax3 bx3 nx3 fx3) C hA (X2_become_ok (a := (a 3)) (b := (a 4)) (ax2 := ax3) (bx2 := bx3) hq) gX3_become_X2_become rfl ⟨rfl, hdX2_become⟩ ⟨Nat.le_of_ble_eq_true rfl, Nat.le_of_ble_eq_true rfl⟩ ⟨Nat.le_refl _, Nat.le_refl _⟩ [3, 4, 9, 10] rfl rfl 3 2 rfl rfl rfl (Nat.le_of_ble_eq_true rfl) dX3_become_13 rfl rfl ?_
  refine V_aload_n (pc := 16) C dX3_become_16 rfl 0 rfl ?_
  obtain ⟨on3_17, of3_17, oev_17, hq, h⟩ := ob3_some h
  refine V_callVW (pc := 17) (rest := []) (st2 := []) (ws' := wStorm Y a on_5 of_5 on_13 of_13 on3_17 of3_17 oev_17 ++ wRow Y ax2 bx2 nx2 fx2 ++ wRow Y ax3 bx3 nx3 fx3) C hA (X3_divide_ok (a := a) hq) gX3_become_X3_divide rfl ⟨rfl, hdX3_divide⟩ ⟨Nat.le_of_ble_eq_true rfl, Nat.le_of_ble_eq_true rfl⟩ ⟨Nat.le_refl _, Nat.le_refl _⟩ [0, 1, 2, 3, 4, 5, 6] rfl rfl 0 3 rfl rfl rfl (Nat.le_of_ble_eq_true rfl) dX3_become_17 rfl rfl ?_
  cases h
  subst hQ
  exact V_vretW C dX3_become_20
def X3_squaresMissed (n1 : Int32) (f1 : Nat → Int32) (n2 : Int32) (f2 : Nat → Int32) (n3 : Int32) (f3 : Nat → Int32) (ev : Int32) (nx2 : Int32) (fx2 : Nat → Int32) : Option (Int32) :=
  jn1 (fun (x2_41 : Int32) => some x2_41) fun J41 =>
  wh2 (fun self4 (x2_4 : Int32) (x3_4 : Int32) =>
  if (20 : Int32) < x3_4 then (J41 x2_4) else (ob1 (X3_rainTimes n1 f1 n2 f2 n3 f3 ev nx2 fx2 x3_4) fun r13 =>
  ob1 (X2_at n2 f2 x3_4) fun r21 =>
  self4 (x2_4 + ((r13 - r21) * (r13 - r21))) (x3_4 + 1))) 200 (0 : Int32) (0 : Int32)
theorem wX3_squaresMissed_k0 : Cond.fieldLink RX3 18 (TX3 1).1 (TX3 1).2.1 (TX3 1).2.2.1 ∈ wsX3_squaresMissed := by decide +kernel
theorem hiX3_squaresMissed_3 : ∀ w ∈ u_ws RX3 TX3 4, w ∈ wsX3_squaresMissed := fun _ h => List.mem_cons_of_mem _ (List.mem_append_left _ (List.mem_append_right _ h))
theorem hdX3_squaresMissed : yX3_squaresMissed.cls ≠ "java/lang/invoke/MethodHandle" ∧ yX3_squaresMissed.cls ≠ "java/lang/invoke/VarHandle" ∧ (parseMethodDescriptor yX3_squaresMissed.desc).map (fun d => d.parameters.length) = some 1 := by decide +kernel
set_option maxHeartbeats 4000000 in
set_option maxRecDepth 100000 in
theorem X3_squaresMissed_ok {l : Launch} {D : va_G} {Y : Nat → ClassId} {a : Nat → Nat} {ax2 : Nat} {bx2 : Nat} {n1 : Int32} {f1 : Nat → Int32} {n2 : Int32} {f2 : Nat → Int32} {n3 : Int32} {f3 : Nat → Int32} {ev : Int32} {nx2 : Int32} {fx2 : Nat → Int32} {r : Int32} (h : X3_squaresMissed n1 f1 n2 f2 n3 f3 ev nx2 fx2 = some r) : MR l yX3_squaresMissed wsX3_squaresMissed 2 45 D Y [.ref (a 0), .ref ax2] (wStorm Y a n1 f1 n2 f2 n3 f3 ev ++ wRow Y ax2 bx2 nx2 fx2) (some (.int r)) := by
  refine MR_of (cc := cX3_squaresMissed) (nL := 5) (ret := some .int) (lv0 := [(0, .ref (a 0)), (1, .ref ax2)]) (by decide) rfl (Nat.le_of_ble_eq_true rfl) rfl (fun X Q C hQ => ?_)
  unfold X3_squaresMissed at h
  refine V_iconst (pc := 0) (v := 0) C dX3_squaresMissed_0 rfl ?_
  refine V_istore_n (pc := 1) (lv' := [(2, .int (0 : Int32)), (0, .ref (a 0)), (1, .ref ax2)]) C dX3_squaresMissed_1 rfl (Nat.le_of_ble_eq_true rfl) rfl ?_
  refine V_iconst (pc := 2) (v := 0) C dX3_squaresMissed_2 rfl ?_
  refine V_istore_n (pc := 3) (lv' := [(3, .int (0 : Int32)), (2, .int (0 : Int32)), (0, .ref (a 0)), (1, .ref ax2)]) C dX3_squaresMissed_3 rfl (Nat.le_of_ble_eq_true rfl) rfl ?_
  refine jn1_ok (P := (fun (x2_41 : Int32) => VW X D 5 Q (KR X) (0, 0) (wStorm Y a n1 f1 n2 f2 n3 f3 ev ++ wRow Y ax2 bx2 nx2 fx2) [(2, .int x2_41)] 41 [])) (fun x2_41 h => ?_) (fun J41 hJ41 h => ?_) h
  · refine V_iload_n (pc := 41) C dX3_squaresMissed_41 rfl 0 rfl ?_
    cases h
    subst hQ
    exact V_iretR C dX3_squaresMissed_42
  refine V_sub [2, 3, 1, 0] rfl (wh2_ok (P := (fun (x2_4 : Int32) (x3_4 : Int32) => VW X D 5 Q (KR X) (0, 0) (wStorm Y a n1 f1 n2 f2 n3 f3 ev ++ wRow Y ax2 bx2 nx2 fx2) [(0, .ref (a 0)), (1, .ref ax2), (2, .int x2_4), (3, .int x3_4)] 4 [])) (fun self4 ih4 x2_4 x3_4 h => ?_) 200 _ _ h)
  refine V_iload_n (pc := 4) C dX3_squaresMissed_4 rfl 3 rfl ?_
  refine V_bipush (pc := 5) (v := 20) C dX3_squaresMissed_5 rfl ?_
  refine V_icmp_gt (pc := 7) C 41 dX3_squaresMissed_7 rfl (fun c7 => ?_) (fun c7 => ?_)
  · replace h := t_pos c7 h
    exact V_sub [2] rfl (hJ41 _ h)
  · replace h := t_neg c7 h
    refine V_aload_n (pc := 10) C dX3_squaresMissed_10 rfl 0 rfl ?_
    refine V_aload_n (pc := 11) C dX3_squaresMissed_11 rfl 1 rfl ?_
    refine V_iload_n (pc := 12) C dX3_squaresMissed_12 rfl 3 rfl ?_
    obtain ⟨r13, hq, h⟩ := ob1_some h
    refine V_callVR (pc := 13) (rest := []) (st2 := [.int r13]) C (X3_rainTimes_ok (a := a) (ax2 := ax2) (bx2 := bx2) hq) gX3_squaresMissed_X3_rainTimes rfl ⟨rfl, hdX3_rainTimes⟩ ⟨Nat.le_of_ble_eq_true rfl, Nat.le_of_ble_eq_true rfl⟩ ⟨Nat.le_refl _, Nat.le_refl _⟩ [0, 1, 2, 3, 4, 5, 6, 7, 8] rfl 0 3 rfl rfl rfl (Nat.le_of_ble_eq_true rfl) dX3_squaresMissed_13 rfl ?_
    refine V_aload_n (pc := 16) C dX3_squaresMissed_16 rfl 0 rfl ?_
    refine V_get (pc := 17) (v := .ref (a 3)) C 0 3 1 hiX3_squaresMissed_3 rfl rfl (by decide) wX3_squaresMissed_k0 rfl dX3_squaresMissed_17 ?_
    refine V_iload_n (pc := 20) C dX3_squaresMissed_20 rfl 3 rfl ?_
    obtain ⟨r21, hq, h⟩ := ob1_some h
    refine V_callVR (pc := 21) (rest := [.int r13]) (st2 := [.int r21, .int r13]) C (X2_at_ok (a := (a 3)) (b := (a 4)) hq) gX3_squaresMissed_X2_at rfl ⟨rfl, hdX2_at⟩ ⟨Nat.le_of_ble_eq_true rfl, Nat.le_of_ble_eq_true rfl⟩ ⟨Nat.le_refl _, Nat.le_refl _⟩ [3, 4] rfl 3 2 rfl rfl rfl (Nat.le_of_ble_eq_true rfl) dX3_squaresMissed_21 rfl ?_
    refine V_isub (pc := 24) C dX3_squaresMissed_24 ?_
    refine V_istore (pc := 25) (lv' := [(4, .int (r13 - r21)), (0, .ref (a 0)), (1, .ref ax2), (2, .int x2_4), (3, .int x3_4)]) C dX3_squaresMissed_25 (Nat.le_of_ble_eq_true rfl) rfl ?_
    refine V_iload_n (pc := 27) C dX3_squaresMissed_27 rfl 3 rfl ?_
    refine V_iload (pc := 28) C dX3_squaresMissed_28 0 rfl ?_
    refine V_iload (pc := 30) C dX3_squaresMissed_30 0 rfl ?_
    refine V_imul (pc := 32) C dX3_squaresMissed_32 ?_
    refine V_iadd (pc := 33) C dX3_squaresMissed_33 ?_
    refine V_istore_n (pc := 34) (lv' := [(2, .int (x2_4 + ((r13 - r21) * (r13 - r21)))), (4, .int (r13 - r21)), (0, .ref (a 0)), (1, .ref ax2), (3, .int x3_4)]) C dX3_squaresMissed_34 rfl (Nat.le_of_ble_eq_true rfl) rfl ?_
    refine V_iinc (pc := 35) (v := (x3_4 + 1)) (lv' := [(3, .int (x3_4 + 1)), (2, .int (x2_4 + ((r13 - r21) * (r13 - r21)))), (4, .int (r13 - r21)), (0, .ref (a 0)), (1, .ref ax2)]) C dX3_squaresMissed_35 4 rfl rfl (Nat.le_of_ble_eq_true rfl) rfl ?_
    refine V_goto (pc := 38) C 4 dX3_squaresMissed_38 rfl ?_
    exact V_sub [3, 4, 1, 0] rfl (ih4 _ _ h)
