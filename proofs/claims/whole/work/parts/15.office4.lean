def X5_fitStorms (a : Nat → Nat) (q : Nat → Int32) (pg : Nat → Int32) (gS : Nat → Option Nat) (gU : Nat → Option Nat) (rd : RdT) (ft : FtT) (S : Nat → StT) (U : Nat → UnT) (p0 : Int32) (p1 : Int32) : Option (FtT) :=
  ob4 (X0_begin ft.1 ft.2.1 ft.2.2.1 ft.2.2.2.1 ft.2.2.2.2.1 ft.2.2.2.2.2.1 ft.2.2.2.2.2.2.1 ft.2.2.2.2.2.2.2 p1) fun ord_5 orr_5 ors_5 osz_5 =>
  jn1 (fun (mft_46 : FtT) => ob4 (X0_settle mft_46.1 mft_46.2.1 mft_46.2.2.1 mft_46.2.2.2.1 mft_46.2.2.2.2.1 mft_46.2.2.2.2.2.1 mft_46.2.2.2.2.2.2.1 mft_46.2.2.2.2.2.2.2) fun omx_50 oab_50 opr_50 obe_50 =>
  some (mft_46.1, mft_46.2.1, omx_50, oab_50, opr_50, obe_50, mft_46.2.2.2.2.2.2.1, mft_46.2.2.2.2.2.2.2)) fun J46 =>
  wh2 (fun self10 (x3_10 : Int32) (mft_10 : FtT) =>
  if (q 6) ≤ x3_10 then (J46 mft_10) else (jn1 (fun (mft_40 : FtT) => self10 (x3_10 + 1) mft_40) fun J40 =>
  if ((p0 >>> (x3_10 &&& 31)) &&& (1 : Int32)) = (1 : Int32) then (chk (inB x3_10 3) (if gS (Int32.toNatClampNeg x3_10) = some (a 15) then (ob3 (X0_add mft_10.1 mft_10.2.1 mft_10.2.2.1 mft_10.2.2.2.1 mft_10.2.2.2.2.1 mft_10.2.2.2.2.2.1 mft_10.2.2.2.2.2.2.1 mft_10.2.2.2.2.2.2.2 ((S 0).1) ((S 0).2.1) ((S 0).2.2.1) ((S 0).2.2.2.1) ((S 0).2.2.2.2.1) ((S 0).2.2.2.2.2.1) ((S 0).2.2.2.2.2.2)) fun ord_37 orr_37 ors_37 =>
  J40 (ord_37, orr_37, mft_10.2.2.1, mft_10.2.2.2.1, mft_10.2.2.2.2.1, mft_10.2.2.2.2.2.1, ors_37, mft_10.2.2.2.2.2.2.2)) else (if gS (Int32.toNatClampNeg x3_10) = some (a 22) then (ob3 (X0_add mft_10.1 mft_10.2.1 mft_10.2.2.1 mft_10.2.2.2.1 mft_10.2.2.2.2.1 mft_10.2.2.2.2.2.1 mft_10.2.2.2.2.2.2.1 mft_10.2.2.2.2.2.2.2 ((S 1).1) ((S 1).2.1) ((S 1).2.2.1) ((S 1).2.2.2.1) ((S 1).2.2.2.2.1) ((S 1).2.2.2.2.2.1) ((S 1).2.2.2.2.2.2)) fun ord_37 orr_37 ors_37 =>
  J40 (ord_37, orr_37, mft_10.2.2.1, mft_10.2.2.2.1, mft_10.2.2.2.2.1, mft_10.2.2.2.2.2.1, ors_37, mft_10.2.2.2.2.2.2.2)) else (if gS (Int32.toNatClampNeg x3_10) = some (a 29) then (ob3 (X0_add mft_10.1 mft_10.2.1 mft_10.2.2.1 mft_10.2.2.2.1 mft_10.2.2.2.2.1 mft_10.2.2.2.2.2.1 mft_10.2.2.2.2.2.2.1 mft_10.2.2.2.2.2.2.2 ((S 2).1) ((S 2).2.1) ((S 2).2.2.1) ((S 2).2.2.2.1) ((S 2).2.2.2.2.1) ((S 2).2.2.2.2.2.1) ((S 2).2.2.2.2.2.2)) fun ord_37 orr_37 ors_37 =>
  J40 (ord_37, orr_37, mft_10.2.2.1, mft_10.2.2.2.1, mft_10.2.2.2.2.1, mft_10.2.2.2.2.2.1, ors_37, mft_10.2.2.2.2.2.2.2)) else (none))))) else (J40 mft_10))) 200 (0 : Int32) (ord_5, orr_5, ft.2.2.1, ft.2.2.2.1, ft.2.2.2.2.1, ft.2.2.2.2.2.1, ors_5, osz_5)
theorem wX5_fitStorms_k0 : Cond.fieldLink RX5 35 (TX5 4).1 (TX5 4).2.1 (TX5 4).2.2.1 ∈ wsX5_fitStorms := by decide +kernel
theorem hiX5_fitStorms_5 : ∀ w ∈ u_ws RX5 TX5 11, w ∈ wsX5_fitStorms := fun _ h => List.mem_cons_of_mem _ (List.mem_append_left _ (List.mem_append_left _ (List.mem_append_left _ (List.mem_append_right _ h))))
theorem wX5_fitStorms_k2 : Cond.fieldLink RX5 179 (TX5 6).1 (TX5 6).2.1 (TX5 6).2.2.1 ∈ wsX5_fitStorms := by decide +kernel
theorem wX5_fitStorms_k3 : Cond.fieldLink RX5 15 (TX5 1).1 (TX5 1).2.1 (TX5 1).2.2.1 ∈ wsX5_fitStorms := by decide +kernel
theorem hdX5_fitStorms : yX5_fitStorms.cls ≠ "java/lang/invoke/MethodHandle" ∧ yX5_fitStorms.cls ≠ "java/lang/invoke/VarHandle" ∧ (parseMethodDescriptor yX5_fitStorms.desc).map (fun d => d.parameters.length) = some 2 := by decide +kernel
set_option maxHeartbeats 4000000 in
set_option maxRecDepth 100000 in
theorem X5_fitStorms_ok {l : Launch} {D : va_G} {Y : Nat → ClassId}  {a : Nat → Nat} {q : Nat → Int32} {pg : Nat → Int32} {gS : Nat → Option Nat} {gU : Nat → Option Nat} {rd : RdT} {ft : FtT} {S : Nat → StT} {U : Nat → UnT} {p0 : Int32} {p1 : Int32} {uft : FtT} (h : X5_fitStorms a q pg gS gU rd ft S U p0 p1 = some uft) : MW l yX5_fitStorms wsX5_fitStorms 5 115 D Y [.ref (a 0), .int p0, .int p1] (wOff Y a q pg gS gU rd ft S U) (wOff Y a q pg gS gU rd uft S U) none := by
  refine MW_of (cc := cX5_fitStorms) (nL := 4) (ret := none) (lv0 := [(0, .ref (a 0)), (1, .int p0), (2, .int p1)]) (by decide) rfl (Nat.le_of_ble_eq_true rfl) rfl rfl (fun X Af Q C hA hQ => ?_)
  unfold X5_fitStorms at h
  refine V_aload_n (pc := 0) C dX5_fitStorms_0 rfl 0 rfl ?_
  refine V_get (pc := 1) (v := .ref (a 9)) C 0 5 4 hiX5_fitStorms_5 rfl rfl (by decide) wX5_fitStorms_k0 rfl dX5_fitStorms_1 ?_
  refine V_iload_n (pc := 4) C dX5_fitStorms_4 rfl 2 rfl ?_
  obtain ⟨ord_5, orr_5, ors_5, osz_5, hq, h⟩ := ob4_some h
  refine V_callVW (pc := 5) (rest := []) (st2 := []) (ws' := wOff Y a q pg gS gU rd (ord_5, orr_5, ft.2.2.1, ft.2.2.2.1, ft.2.2.2.2.1, ft.2.2.2.2.2.1, ors_5, osz_5) S U) C hA (X0_begin_ok (a := (sh a 9)) hq) gX5_fitStorms_X0_begin rfl ⟨rfl, hdX0_begin⟩ ⟨Nat.le_of_ble_eq_true rfl, Nat.le_of_ble_eq_true rfl⟩ ⟨Nat.le_refl _, Nat.le_refl _⟩ [9, 10, 11, 12, 13, 14] rfl rfl 9 0 rfl rfl rfl (Nat.le_of_ble_eq_true rfl) dX5_fitStorms_5 rfl rfl ?_
  refine V_iconst (pc := 8) (v := 0) C dX5_fitStorms_8 rfl ?_
  refine V_istore_n (pc := 9) (lv' := [(3, .int (0 : Int32)), (0, .ref (a 0)), (1, .int p0), (2, .int p1)]) C dX5_fitStorms_9 rfl (Nat.le_of_ble_eq_true rfl) rfl ?_
  refine jn1_ok (P := (fun (mft_46 : FtT) => VW X D 4 Q (KM Af X) (0, 0) (wOff Y a q pg gS gU rd mft_46 S U) [(0, .ref (a 0))] 46 [])) (fun mft_46 h => ?_) (fun J46 hJ46 h => ?_) h
  · refine V_aload_n (pc := 46) C dX5_fitStorms_46 rfl 0 rfl ?_
    refine V_get (pc := 47) (v := .ref (a 9)) C 0 5 4 hiX5_fitStorms_5 rfl rfl (by decide) wX5_fitStorms_k0 rfl dX5_fitStorms_47 ?_
    obtain ⟨omx_50, oab_50, opr_50, obe_50, hq, h⟩ := ob4_some h
    refine V_callVW (pc := 50) (rest := []) (st2 := []) (ws' := wOff Y a q pg gS gU rd (mft_46.1, mft_46.2.1, omx_50, oab_50, opr_50, obe_50, mft_46.2.2.2.2.2.2.1, mft_46.2.2.2.2.2.2.2) S U) C hA (X0_settle_ok (a := (sh a 9)) hq) gX5_fitStorms_X0_settle rfl ⟨rfl, hdX0_settle⟩ ⟨Nat.le_of_ble_eq_true rfl, Nat.le_of_ble_eq_true rfl⟩ ⟨Nat.le_refl _, Nat.le_refl _⟩ [9, 10, 11, 12, 13, 14] rfl rfl 9 0 rfl rfl rfl (Nat.le_of_ble_eq_true rfl) dX5_fitStorms_50 rfl rfl ?_
    cases h
    subst hQ
    exact V_vretW C dX5_fitStorms_53
  refine V_sub [1, 2, 0] rfl (wh2_ok (P := (fun (x3_10 : Int32) (mft_10 : FtT) => VW X D 4 Q (KM Af X) (0, 0) (wOff Y a q pg gS gU rd mft_10 S U) [(0, .ref (a 0)), (1, .int p0), (3, .int x3_10)] 10 [])) (fun self10 ih10 x3_10 mft_10 h => ?_) 200 _ _ h)
  refine V_iload_n (pc := 10) C dX5_fitStorms_10 rfl 2 rfl ?_
  refine V_aload_n (pc := 11) C dX5_fitStorms_11 rfl 0 rfl ?_
  refine V_get (pc := 12) (v := .int (q 6)) C 0 5 6 hiX5_fitStorms_5 rfl rfl (by decide) wX5_fitStorms_k2 rfl dX5_fitStorms_12 ?_
  refine V_icmp_ge (pc := 15) C 46 dX5_fitStorms_15 rfl (fun c15 => ?_) (fun c15 => ?_)
  · replace h := t_pos c15 h
    exact V_sub [0] rfl (hJ46 _ h)
  · replace h := t_neg c15 h
    refine V_iload_n (pc := 18) C dX5_fitStorms_18 rfl 1 rfl ?_
    refine V_iload_n (pc := 19) C dX5_fitStorms_19 rfl 2 rfl ?_
    refine V_ishr (pc := 20) C dX5_fitStorms_20 ?_
    refine V_iconst (pc := 21) (v := 1) C dX5_fitStorms_21 rfl ?_
    refine V_iand (pc := 22) C dX5_fitStorms_22 ?_
    refine V_iconst (pc := 23) (v := 1) C dX5_fitStorms_23 rfl ?_
    refine jn1_ok (P := (fun (mft_40 : FtT) => VW X D 4 Q (KM Af X) (0, 0) (wOff Y a q pg gS gU rd mft_40 S U) [(0, .ref (a 0)), (1, .int p0), (3, .int x3_10)] 40 [])) (fun mft_40 h => ?_) (fun J40 hJ40 h => ?_) h
    · refine V_iinc (pc := 40) (v := (x3_10 + 1)) (lv' := [(3, .int (x3_10 + 1)), (0, .ref (a 0)), (1, .int p0)]) C dX5_fitStorms_40 2 rfl rfl (Nat.le_of_ble_eq_true rfl) rfl ?_
      refine V_goto (pc := 43) C 10 dX5_fitStorms_43 rfl ?_
      exact V_sub [1, 2, 0] rfl (ih10 _ _ h)
    refine V_icmp_ne (pc := 24) C 40 dX5_fitStorms_24 rfl (fun c24 => ?_) (fun c24 => ?_)
    · replace h := t_neg c24 h
      exact V_sub [0, 1, 2] rfl (hJ40 _ h)
    · replace h := t_pos c24 h
      refine V_aload_n (pc := 27) C dX5_fitStorms_27 rfl 0 rfl ?_
      refine V_get (pc := 28) (v := .ref (a 9)) C 0 5 4 hiX5_fitStorms_5 rfl rfl (by decide) wX5_fitStorms_k0 rfl dX5_fitStorms_28 ?_
      refine V_aload_n (pc := 31) C dX5_fitStorms_31 rfl 0 rfl ?_
      refine V_get (pc := 32) (v := .ref (a 2)) C 0 5 1 hiX5_fitStorms_5 rfl rfl (by decide) wX5_fitStorms_k3 rfl dX5_fitStorms_32 ?_
      refine V_iload_n (pc := 35) C dX5_fitStorms_35 rfl 2 rfl ?_
      obtain ⟨b36, h⟩ := chk_some h
      by_cases e36 : gS (Int32.toNatClampNeg x3_10) = some (a 15)
      · replace h := t_pos e36 h
        refine V_aald (pc := 36) C 2 2 rfl rfl b36 e36 dX5_fitStorms_36 ?_
        obtain ⟨ord_37, orr_37, ors_37, hq, h⟩ := ob3_some h
        refine V_callVW (pc := 37) (rest := []) (st2 := []) (ws' := wOff Y a q pg gS gU rd (ord_37, orr_37, mft_10.2.2.1, mft_10.2.2.2.1, mft_10.2.2.2.2.1, mft_10.2.2.2.2.2.1, ors_37, mft_10.2.2.2.2.2.2.2) S U) C hA (X0_add_ok (a := (sh a 9)) (ax2 := (sh a 15)) hq) gX5_fitStorms_X0_add rfl ⟨rfl, hdX0_add⟩ ⟨Nat.le_of_ble_eq_true rfl, Nat.le_of_ble_eq_true rfl⟩ ⟨Nat.le_refl _, Nat.le_refl _⟩ [9, 10, 11, 12, 13, 14, 15, 16, 17, 18, 19, 20, 21] rfl rfl 9 0 rfl rfl rfl (Nat.le_of_ble_eq_true rfl) dX5_fitStorms_37 rfl rfl ?_
        exact V_sub [0, 1, 2] rfl (hJ40 _ h)
      replace h := t_neg e36 h
      by_cases e36 : gS (Int32.toNatClampNeg x3_10) = some (a 22)
      · replace h := t_pos e36 h
        refine V_aald (pc := 36) C 2 2 rfl rfl b36 e36 dX5_fitStorms_36 ?_
        obtain ⟨ord_37, orr_37, ors_37, hq, h⟩ := ob3_some h
        refine V_callVW (pc := 37) (rest := []) (st2 := []) (ws' := wOff Y a q pg gS gU rd (ord_37, orr_37, mft_10.2.2.1, mft_10.2.2.2.1, mft_10.2.2.2.2.1, mft_10.2.2.2.2.2.1, ors_37, mft_10.2.2.2.2.2.2.2) S U) C hA (X0_add_ok (a := (sh a 9)) (ax2 := (sh a 22)) hq) gX5_fitStorms_X0_add rfl ⟨rfl, hdX0_add⟩ ⟨Nat.le_of_ble_eq_true rfl, Nat.le_of_ble_eq_true rfl⟩ ⟨Nat.le_refl _, Nat.le_refl _⟩ [9, 10, 11, 12, 13, 14, 22, 23, 24, 25, 26, 27, 28] rfl rfl 9 0 rfl rfl rfl (Nat.le_of_ble_eq_true rfl) dX5_fitStorms_37 rfl rfl ?_
        exact V_sub [0, 1, 2] rfl (hJ40 _ h)
      replace h := t_neg e36 h
      by_cases e36 : gS (Int32.toNatClampNeg x3_10) = some (a 29)
      · replace h := t_pos e36 h
        refine V_aald (pc := 36) C 2 2 rfl rfl b36 e36 dX5_fitStorms_36 ?_
        obtain ⟨ord_37, orr_37, ors_37, hq, h⟩ := ob3_some h
        refine V_callVW (pc := 37) (rest := []) (st2 := []) (ws' := wOff Y a q pg gS gU rd (ord_37, orr_37, mft_10.2.2.1, mft_10.2.2.2.1, mft_10.2.2.2.2.1, mft_10.2.2.2.2.2.1, ors_37, mft_10.2.2.2.2.2.2.2) S U) C hA (X0_add_ok (a := (sh a 9)) (ax2 := (sh a 29)) hq) gX5_fitStorms_X0_add rfl ⟨rfl, hdX0_add⟩ ⟨Nat.le_of_ble_eq_true rfl, Nat.le_of_ble_eq_true rfl⟩ ⟨Nat.le_refl _, Nat.le_refl _⟩ [9, 10, 11, 12, 13, 14, 29, 30, 31, 32, 33, 34, 35] rfl rfl 9 0 rfl rfl rfl (Nat.le_of_ble_eq_true rfl) dX5_fitStorms_37 rfl rfl ?_
        exact V_sub [0, 1, 2] rfl (hJ40 _ h)
      replace h := t_neg e36 h
      cases h
def X5_best (a : Nat → Nat) (q : Nat → Int32) (pg : Nat → Int32) (gS : Nat → Option Nat) (gU : Nat → Option Nat) (rd : RdT) (ft : FtT) (S : Nat → StT) (U : Nat → UnT) (p0 : Int32) (p1 : Int32) (p2 : Int32) (p3 : Int32) : Option (Int64 × FtT) :=
  ob1 (X5_canFit a q pg gS gU rd ft S U p0 p1) fun r3 =>
  jn0 (some ((-1000003 : Int64), ft)) fun J25 =>
  if r3 = 0 then (J25) else (ob1 (X5_isFitted p2 p1) fun r11 =>
  if r11 = 0 then (J25) else (ob1 (X5_isPartOfFraction p3) fun r19 =>
  if r19 = 0 then (J25) else (ob1 (X5_fitStorms a q pg gS gU rd ft S U p0 p1) fun oft_32 =>
  ob1 (X0_partAbove oft_32.1 oft_32.2.1 oft_32.2.2.1 oft_32.2.2.2.1 oft_32.2.2.2.2.1 oft_32.2.2.2.2.2.1 oft_32.2.2.2.2.2.2.1 oft_32.2.2.2.2.2.2.2 p2) fun r40 =>
  ob1 (X0_below oft_32.1 oft_32.2.1 oft_32.2.2.1 oft_32.2.2.2.1 oft_32.2.2.2.2.1 oft_32.2.2.2.2.2.1 oft_32.2.2.2.2.2.2.1 oft_32.2.2.2.2.2.2.2) fun r47 =>
  ob1 (X5_inLowestTerms r40 r47 p3) fun r52 =>
  some (r52, oft_32))))
theorem wX5_best_k0 : Cond.constantLong RX5 146 (-1000003) ∈ wsX5_best := by decide +kernel
theorem wX5_best_k1 : Cond.fieldLink RX5 35 (TX5 4).1 (TX5 4).2.1 (TX5 4).2.2.1 ∈ wsX5_best := by decide +kernel
theorem hiX5_best_5 : ∀ w ∈ u_ws RX5 TX5 11, w ∈ wsX5_best := fun _ h => List.mem_cons_of_mem _ (List.mem_append_left _ (List.mem_append_left _ (List.mem_append_left _ (List.mem_append_right _ h))))
theorem hdX5_best : yX5_best.cls ≠ "java/lang/invoke/MethodHandle" ∧ yX5_best.cls ≠ "java/lang/invoke/VarHandle" ∧ (parseMethodDescriptor yX5_best.desc).map (fun d => d.parameters.length) = some 4 := by decide +kernel
set_option maxHeartbeats 4000000 in
set_option maxRecDepth 100000 in
theorem X5_best_ok {l : Launch} {D : va_G} {Y : Nat → ClassId}  {a : Nat → Nat} {q : Nat → Int32} {pg : Nat → Int32} {gS : Nat → Option Nat} {gU : Nat → Option Nat} {rd : RdT} {ft : FtT} {S : Nat → StT} {U : Nat → UnT} {p0 : Int32} {p1 : Int32} {p2 : Int32} {p3 : Int32} {r : Int64} {uft : FtT} (h : X5_best a q pg gS gU rd ft S U p0 p1 p2 p3 = some (r, uft)) : MW l yX5_best wsX5_best 6 138 D Y [.ref (a 0), .int p0, .int p1, .int p2, .int p3] (wOff Y a q pg gS gU rd ft S U) (wOff Y a q pg gS gU rd uft S U) (some (.long r)) := by
  refine MW_of (cc := cX5_best) (nL := 5) (ret := some .long) (lv0 := [(0, .ref (a 0)), (1, .int p0), (2, .int p1), (3, .int p2), (4, .int p3)]) (by decide) rfl (Nat.le_of_ble_eq_true rfl) rfl rfl (fun X Af Q C hA hQ => ?_)
  unfold X5_best at h
  refine V_aload_n (pc := 0) C dX5_best_0 rfl 0 rfl ?_
  refine V_iload_n (pc := 1) C dX5_best_1 rfl 1 rfl ?_
  refine V_iload_n (pc := 2) C dX5_best_2 rfl 2 rfl ?_
  obtain ⟨r3, hq, h⟩ := ob1_some h
  refine V_callVR0 (pc := 3) (rest := []) (st2 := [.int r3]) C (X5_canFit_ok (a := a) hq) gX5_best_X5_canFit rfl ⟨rfl, hdX5_canFit⟩ ⟨Nat.le_of_ble_eq_true rfl, Nat.le_of_ble_eq_true rfl⟩ ⟨Nat.le_refl _, Nat.le_refl _⟩ 0 5 rfl rfl rfl (Nat.le_of_ble_eq_true rfl) dX5_best_3 rfl ?_
  refine jn0_ok (P := (VW X D 5 Q (KM Af X) (0, 0) (wOff Y a q pg gS gU rd ft S U) [] 25 [])) (fun h => ?_) (fun J25 hJ25 h => ?_) h
  · refine V_ldc2 (pc := 25) (v := -1000003) C dX5_best_25 wX5_best_k0 ?_
    cases h
    subst hQ
    exact V_lretW C dX5_best_28
  refine V_if_eq (pc := 6) C 25 dX5_best_6 rfl (fun c6 => ?_) (fun c6 => ?_)
  · replace h := t_pos c6 h
    exact V_sub [] rfl (hJ25 h)
  · replace h := t_neg c6 h
    refine V_iload_n (pc := 9) C dX5_best_9 rfl 3 rfl ?_
    refine V_iload_n (pc := 10) C dX5_best_10 rfl 2 rfl ?_
    obtain ⟨r11, hq, h⟩ := ob1_some h
    refine V_callSR (pc := 11) (rest := []) (st2 := [.int r11]) C (X5_isFitted_ok hq) gX5_best_X5_isFitted rfl hdX5_isFitted ⟨Nat.le_of_ble_eq_true rfl, Nat.le_of_ble_eq_true rfl⟩ ⟨Nat.le_refl _, Nat.le_refl _⟩ [] rfl rfl (Nat.le_of_ble_eq_true rfl) dX5_best_11 rfl ?_
    refine V_if_eq (pc := 14) C 25 dX5_best_14 rfl (fun c14 => ?_) (fun c14 => ?_)
    · replace h := t_pos c14 h
      exact V_sub [] rfl (hJ25 h)
    · replace h := t_neg c14 h
      refine V_iload (pc := 17) C dX5_best_17 4 rfl ?_
      obtain ⟨r19, hq, h⟩ := ob1_some h
      refine V_callSR (pc := 19) (rest := []) (st2 := [.int r19]) C (X5_isPartOfFraction_ok hq) gX5_best_X5_isPartOfFraction rfl hdX5_isPartOfFraction ⟨Nat.le_of_ble_eq_true rfl, Nat.le_of_ble_eq_true rfl⟩ ⟨Nat.le_refl _, Nat.le_refl _⟩ [] rfl rfl (Nat.le_of_ble_eq_true rfl) dX5_best_19 rfl ?_
      refine V_if_ne (pc := 22) C 29 dX5_best_22 rfl (fun c22 => ?_) (fun c22 => ?_)
      · replace h := t_neg c22 h
        refine V_aload_n (pc := 29) C dX5_best_29 rfl 0 rfl ?_
        refine V_iload_n (pc := 30) C dX5_best_30 rfl 1 rfl ?_
        refine V_iload_n (pc := 31) C dX5_best_31 rfl 2 rfl ?_
        obtain ⟨oft_32, hq, h⟩ := ob1_some h
        refine V_callVW0 (pc := 32) (rest := []) (st2 := []) (ws' := wOff Y a q pg gS gU rd oft_32 S U) C hA (X5_fitStorms_ok (a := a) hq) gX5_best_X5_fitStorms rfl ⟨rfl, hdX5_fitStorms⟩ ⟨Nat.le_of_ble_eq_true rfl, Nat.le_of_ble_eq_true rfl⟩ ⟨Nat.le_refl _, Nat.le_refl _⟩ 0 5 rfl rfl rfl (Nat.le_of_ble_eq_true rfl) dX5_best_32 rfl rfl ?_
        refine V_aload_n (pc := 35) C dX5_best_35 rfl 0 rfl ?_
        refine V_get (pc := 36) (v := .ref (a 9)) C 0 5 4 hiX5_best_5 rfl rfl (by decide) wX5_best_k1 rfl dX5_best_36 ?_
        refine V_iload_n (pc := 39) C dX5_best_39 rfl 3 rfl ?_
        obtain ⟨r40, hq, h⟩ := ob1_some h
        refine V_callVR (pc := 40) (rest := []) (st2 := [.long r40]) C (X0_partAbove_ok (a := (sh a 9)) hq) gX5_best_X0_partAbove rfl ⟨rfl, hdX0_partAbove⟩ ⟨Nat.le_of_ble_eq_true rfl, Nat.le_of_ble_eq_true rfl⟩ ⟨Nat.le_refl _, Nat.le_refl _⟩ [9, 10, 11, 12, 13, 14] rfl 9 0 rfl rfl rfl (Nat.le_of_ble_eq_true rfl) dX5_best_40 rfl ?_
        refine V_aload_n (pc := 43) C dX5_best_43 rfl 0 rfl ?_
        refine V_get (pc := 44) (v := .ref (a 9)) C 0 5 4 hiX5_best_5 rfl rfl (by decide) wX5_best_k1 rfl dX5_best_44 ?_
        obtain ⟨r47, hq, h⟩ := ob1_some h
        refine V_callVR (pc := 47) (rest := [.long r40]) (st2 := [.long r47, .long r40]) C (X0_below_ok (a := (sh a 9)) hq) gX5_best_X0_below rfl ⟨rfl, hdX0_below⟩ ⟨Nat.le_of_ble_eq_true rfl, Nat.le_of_ble_eq_true rfl⟩ ⟨Nat.le_refl _, Nat.le_refl _⟩ [9, 10, 11, 12, 13, 14] rfl 9 0 rfl rfl rfl (Nat.le_of_ble_eq_true rfl) dX5_best_47 rfl ?_
        refine V_iload (pc := 50) C dX5_best_50 4 rfl ?_
        obtain ⟨r52, hq, h⟩ := ob1_some h
        refine V_callSR (pc := 52) (rest := []) (st2 := [.long r52]) C (X5_inLowestTerms_ok hq) gX5_best_X5_inLowestTerms rfl hdX5_inLowestTerms ⟨Nat.le_of_ble_eq_true rfl, Nat.le_of_ble_eq_true rfl⟩ ⟨Nat.le_refl _, Nat.le_refl _⟩ [] rfl rfl (Nat.le_of_ble_eq_true rfl) dX5_best_52 rfl ?_
        cases h
        subst hQ
        exact V_lretW C dX5_best_55
      · replace h := t_pos c22 h
        exact V_sub [] rfl (hJ25 h)
def X5_loss (a : Nat → Nat) (q : Nat → Int32) (pg : Nat → Int32) (gS : Nat → Option Nat) (gU : Nat → Option Nat) (rd : RdT) (ft : FtT) (S : Nat → StT) (U : Nat → UnT) (p0 : Int32) (p1 : Int32) (p2 : Int32) : Option (Int64 × FtT) :=
  ob1 (X5_canFit a q pg gS gU rd ft S U p0 p1) fun r3 =>
  jn0 (some ((-1000003 : Int64), ft)) fun J16 =>
  if r3 = 0 then (J16) else (ob1 (X5_isPartOfFraction p2) fun r10 =>
  if r10 = 0 then (J16) else (ob1 (X5_fitStorms a q pg gS gU rd ft S U p0 p1) fun oft_23 =>
  ob1 (X0_lossAbove oft_23.1 oft_23.2.1 oft_23.2.2.1 oft_23.2.2.2.1 oft_23.2.2.2.2.1 oft_23.2.2.2.2.2.1 oft_23.2.2.2.2.2.2.1 oft_23.2.2.2.2.2.2.2) fun r30 =>
  ob1 (X0_below oft_23.1 oft_23.2.1 oft_23.2.2.1 oft_23.2.2.2.1 oft_23.2.2.2.2.1 oft_23.2.2.2.2.2.1 oft_23.2.2.2.2.2.2.1 oft_23.2.2.2.2.2.2.2) fun r37 =>
  ob1 (X5_inLowestTerms r30 r37 p2) fun r41 =>
  some (r41, oft_23)))
theorem wX5_loss_k0 : Cond.constantLong RX5 146 (-1000003) ∈ wsX5_loss := by decide +kernel
theorem wX5_loss_k1 : Cond.fieldLink RX5 35 (TX5 4).1 (TX5 4).2.1 (TX5 4).2.2.1 ∈ wsX5_loss := by decide +kernel
theorem hiX5_loss_5 : ∀ w ∈ u_ws RX5 TX5 11, w ∈ wsX5_loss := fun _ h => List.mem_cons_of_mem _ (List.mem_append_left _ (List.mem_append_left _ (List.mem_append_left _ (List.mem_append_right _ h))))
theorem hdX5_loss : yX5_loss.cls ≠ "java/lang/invoke/MethodHandle" ∧ yX5_loss.cls ≠ "java/lang/invoke/VarHandle" ∧ (parseMethodDescriptor yX5_loss.desc).map (fun d => d.parameters.length) = some 3 := by decide +kernel
set_option maxHeartbeats 4000000 in
set_option maxRecDepth 100000 in
theorem X5_loss_ok {l : Launch} {D : va_G} {Y : Nat → ClassId}  {a : Nat → Nat} {q : Nat → Int32} {pg : Nat → Int32} {gS : Nat → Option Nat} {gU : Nat → Option Nat} {rd : RdT} {ft : FtT} {S : Nat → StT} {U : Nat → UnT} {p0 : Int32} {p1 : Int32} {p2 : Int32} {r : Int64} {uft : FtT} (h : X5_loss a q pg gS gU rd ft S U p0 p1 p2 = some (r, uft)) : MW l yX5_loss wsX5_loss 6 138 D Y [.ref (a 0), .int p0, .int p1, .int p2] (wOff Y a q pg gS gU rd ft S U) (wOff Y a q pg gS gU rd uft S U) (some (.long r)) := by
  refine MW_of (cc := cX5_loss) (nL := 4) (ret := some .long) (lv0 := [(0, .ref (a 0)), (1, .int p0), (2, .int p1), (3, .int p2)]) (by decide) rfl (Nat.le_of_ble_eq_true rfl) rfl rfl (fun X Af Q C hA hQ => ?_)
  unfold X5_loss at h
  refine V_aload_n (pc := 0) C dX5_loss_0 rfl 0 rfl ?_
  refine V_iload_n (pc := 1) C dX5_loss_1 rfl 1 rfl ?_
  refine V_iload_n (pc := 2) C dX5_loss_2 rfl 2 rfl ?_
  obtain ⟨r3, hq, h⟩ := ob1_some h
  refine V_callVR0 (pc := 3) (rest := []) (st2 := [.int r3]) C (X5_canFit_ok (a := a) hq) gX5_loss_X5_canFit rfl ⟨rfl, hdX5_canFit⟩ ⟨Nat.le_of_ble_eq_true rfl, Nat.le_of_ble_eq_true rfl⟩ ⟨Nat.le_refl _, Nat.le_refl _⟩ 0 5 rfl rfl rfl (Nat.le_of_ble_eq_true rfl) dX5_loss_3 rfl ?_
  refine jn0_ok (P := (VW X D 4 Q (KM Af X) (0, 0) (wOff Y a q pg gS gU rd ft S U) [] 16 [])) (fun h => ?_) (fun J16 hJ16 h => ?_) h
  · refine V_ldc2 (pc := 16) (v := -1000003) C dX5_loss_16 wX5_loss_k0 ?_
    cases h
    subst hQ
    exact V_lretW C dX5_loss_19
  refine V_if_eq (pc := 6) C 16 dX5_loss_6 rfl (fun c6 => ?_) (fun c6 => ?_)
  · replace h := t_pos c6 h
    exact V_sub [] rfl (hJ16 h)
  · replace h := t_neg c6 h
    refine V_iload_n (pc := 9) C dX5_loss_9 rfl 3 rfl ?_
    obtain ⟨r10, hq, h⟩ := ob1_some h
    refine V_callSR (pc := 10) (rest := []) (st2 := [.int r10]) C (X5_isPartOfFraction_ok hq) gX5_loss_X5_isPartOfFraction rfl hdX5_isPartOfFraction ⟨Nat.le_of_ble_eq_true rfl, Nat.le_of_ble_eq_true rfl⟩ ⟨Nat.le_refl _, Nat.le_refl _⟩ [] rfl rfl (Nat.le_of_ble_eq_true rfl) dX5_loss_10 rfl ?_
    refine V_if_ne (pc := 13) C 20 dX5_loss_13 rfl (fun c13 => ?_) (fun c13 => ?_)
    · replace h := t_neg c13 h
      refine V_aload_n (pc := 20) C dX5_loss_20 rfl 0 rfl ?_
      refine V_iload_n (pc := 21) C dX5_loss_21 rfl 1 rfl ?_
      refine V_iload_n (pc := 22) C dX5_loss_22 rfl 2 rfl ?_
      obtain ⟨oft_23, hq, h⟩ := ob1_some h
      refine V_callVW0 (pc := 23) (rest := []) (st2 := []) (ws' := wOff Y a q pg gS gU rd oft_23 S U) C hA (X5_fitStorms_ok (a := a) hq) gX5_loss_X5_fitStorms rfl ⟨rfl, hdX5_fitStorms⟩ ⟨Nat.le_of_ble_eq_true rfl, Nat.le_of_ble_eq_true rfl⟩ ⟨Nat.le_refl _, Nat.le_refl _⟩ 0 5 rfl rfl rfl (Nat.le_of_ble_eq_true rfl) dX5_loss_23 rfl rfl ?_
      refine V_aload_n (pc := 26) C dX5_loss_26 rfl 0 rfl ?_
      refine V_get (pc := 27) (v := .ref (a 9)) C 0 5 4 hiX5_loss_5 rfl rfl (by decide) wX5_loss_k1 rfl dX5_loss_27 ?_
      obtain ⟨r30, hq, h⟩ := ob1_some h
      refine V_callVR (pc := 30) (rest := []) (st2 := [.long r30]) C (X0_lossAbove_ok (a := (sh a 9)) hq) gX5_loss_X0_lossAbove rfl ⟨rfl, hdX0_lossAbove⟩ ⟨Nat.le_of_ble_eq_true rfl, Nat.le_of_ble_eq_true rfl⟩ ⟨Nat.le_refl _, Nat.le_refl _⟩ [9, 10, 11, 12, 13, 14] rfl 9 0 rfl rfl rfl (Nat.le_of_ble_eq_true rfl) dX5_loss_30 rfl ?_
      refine V_aload_n (pc := 33) C dX5_loss_33 rfl 0 rfl ?_
      refine V_get (pc := 34) (v := .ref (a 9)) C 0 5 4 hiX5_loss_5 rfl rfl (by decide) wX5_loss_k1 rfl dX5_loss_34 ?_
      obtain ⟨r37, hq, h⟩ := ob1_some h
      refine V_callVR (pc := 37) (rest := [.long r30]) (st2 := [.long r37, .long r30]) C (X0_below_ok (a := (sh a 9)) hq) gX5_loss_X0_below rfl ⟨rfl, hdX0_below⟩ ⟨Nat.le_of_ble_eq_true rfl, Nat.le_of_ble_eq_true rfl⟩ ⟨Nat.le_refl _, Nat.le_refl _⟩ [9, 10, 11, 12, 13, 14] rfl 9 0 rfl rfl rfl (Nat.le_of_ble_eq_true rfl) dX5_loss_37 rfl ?_
      refine V_iload_n (pc := 40) C dX5_loss_40 rfl 3 rfl ?_
      obtain ⟨r41, hq, h⟩ := ob1_some h
      refine V_callSR (pc := 41) (rest := []) (st2 := [.long r41]) C (X5_inLowestTerms_ok hq) gX5_loss_X5_inLowestTerms rfl hdX5_inLowestTerms ⟨Nat.le_of_ble_eq_true rfl, Nat.le_of_ble_eq_true rfl⟩ ⟨Nat.le_refl _, Nat.le_refl _⟩ [] rfl rfl (Nat.le_of_ble_eq_true rfl) dX5_loss_41 rfl ?_
      cases h
      subst hQ
      exact V_lretW C dX5_loss_44
    · replace h := t_pos c13 h
      exact V_sub [] rfl (hJ16 h)
def X5_press (a : Nat → Nat) (q : Nat → Int32) (pg : Nat → Int32) (gS : Nat → Option Nat) (gU : Nat → Option Nat) (rd : RdT) (ft : FtT) (S : Nat → StT) (U : Nat → UnT) (p0 : Int32) (p1 : Int32) (p2 : Int32) (p3 : Int32) : Option (Int64 × FtT) :=
  ob1 (X5_canFit a q pg gS gU rd ft S U p0 p1) fun r3 =>
  jn0 (some ((-1000003 : Int64), ft)) fun J25 =>
  if r3 = 0 then (J25) else (ob1 (X5_isFitted p2 p1) fun r11 =>
  if r11 = 0 then (J25) else (ob1 (X5_isPartOfFraction p3) fun r19 =>
  if r19 = 0 then (J25) else (ob1 (X5_fitStorms a q pg gS gU rd ft S U p0 p1) fun oft_32 =>
  ob1 (X0_pressAbove oft_32.1 oft_32.2.1 oft_32.2.2.1 oft_32.2.2.2.1 oft_32.2.2.2.2.1 oft_32.2.2.2.2.2.1 oft_32.2.2.2.2.2.2.1 oft_32.2.2.2.2.2.2.2 p2) fun r40 =>
  ob1 (X0_below oft_32.1 oft_32.2.1 oft_32.2.2.1 oft_32.2.2.2.1 oft_32.2.2.2.2.1 oft_32.2.2.2.2.2.1 oft_32.2.2.2.2.2.2.1 oft_32.2.2.2.2.2.2.2) fun r47 =>
  ob1 (X5_inLowestTerms r40 r47 p3) fun r52 =>
  some (r52, oft_32))))
theorem wX5_press_k0 : Cond.constantLong RX5 146 (-1000003) ∈ wsX5_press := by decide +kernel
theorem wX5_press_k1 : Cond.fieldLink RX5 35 (TX5 4).1 (TX5 4).2.1 (TX5 4).2.2.1 ∈ wsX5_press := by decide +kernel
theorem hiX5_press_5 : ∀ w ∈ u_ws RX5 TX5 11, w ∈ wsX5_press := fun _ h => List.mem_cons_of_mem _ (List.mem_append_left _ (List.mem_append_left _ (List.mem_append_left _ (List.mem_append_right _ h))))
theorem hdX5_press : yX5_press.cls ≠ "java/lang/invoke/MethodHandle" ∧ yX5_press.cls ≠ "java/lang/invoke/VarHandle" ∧ (parseMethodDescriptor yX5_press.desc).map (fun d => d.parameters.length) = some 4 := by decide +kernel
set_option maxHeartbeats 4000000 in
set_option maxRecDepth 100000 in
theorem X5_press_ok {l : Launch} {D : va_G} {Y : Nat → ClassId}  {a : Nat → Nat} {q : Nat → Int32} {pg : Nat → Int32} {gS : Nat → Option Nat} {gU : Nat → Option Nat} {rd : RdT} {ft : FtT} {S : Nat → StT} {U : Nat → UnT} {p0 : Int32} {p1 : Int32} {p2 : Int32} {p3 : Int32} {r : Int64} {uft : FtT} (h : X5_press a q pg gS gU rd ft S U p0 p1 p2 p3 = some (r, uft)) : MW l yX5_press wsX5_press 6 138 D Y [.ref (a 0), .int p0, .int p1, .int p2, .int p3] (wOff Y a q pg gS gU rd ft S U) (wOff Y a q pg gS gU rd uft S U) (some (.long r)) := by
  refine MW_of (cc := cX5_press) (nL := 5) (ret := some .long) (lv0 := [(0, .ref (a 0)), (1, .int p0), (2, .int p1), (3, .int p2), (4, .int p3)]) (by decide) rfl (Nat.le_of_ble_eq_true rfl) rfl rfl (fun X Af Q C hA hQ => ?_)
  unfold X5_press at h
  refine V_aload_n (pc := 0) C dX5_press_0 rfl 0 rfl ?_
  refine V_iload_n (pc := 1) C dX5_press_1 rfl 1 rfl ?_
  refine V_iload_n (pc := 2) C dX5_press_2 rfl 2 rfl ?_
  obtain ⟨r3, hq, h⟩ := ob1_some h
  refine V_callVR0 (pc := 3) (rest := []) (st2 := [.int r3]) C (X5_canFit_ok (a := a) hq) gX5_press_X5_canFit rfl ⟨rfl, hdX5_canFit⟩ ⟨Nat.le_of_ble_eq_true rfl, Nat.le_of_ble_eq_true rfl⟩ ⟨Nat.le_refl _, Nat.le_refl _⟩ 0 5 rfl rfl rfl (Nat.le_of_ble_eq_true rfl) dX5_press_3 rfl ?_
  refine jn0_ok (P := (VW X D 5 Q (KM Af X) (0, 0) (wOff Y a q pg gS gU rd ft S U) [] 25 [])) (fun h => ?_) (fun J25 hJ25 h => ?_) h
  · refine V_ldc2 (pc := 25) (v := -1000003) C dX5_press_25 wX5_press_k0 ?_
    cases h
    subst hQ
    exact V_lretW C dX5_press_28
  refine V_if_eq (pc := 6) C 25 dX5_press_6 rfl (fun c6 => ?_) (fun c6 => ?_)
  · replace h := t_pos c6 h
    exact V_sub [] rfl (hJ25 h)
  · replace h := t_neg c6 h
    refine V_iload_n (pc := 9) C dX5_press_9 rfl 3 rfl ?_
    refine V_iload_n (pc := 10) C dX5_press_10 rfl 2 rfl ?_
    obtain ⟨r11, hq, h⟩ := ob1_some h
    refine V_callSR (pc := 11) (rest := []) (st2 := [.int r11]) C (X5_isFitted_ok hq) gX5_press_X5_isFitted rfl hdX5_isFitted ⟨Nat.le_of_ble_eq_true rfl, Nat.le_of_ble_eq_true rfl⟩ ⟨Nat.le_refl _, Nat.le_refl _⟩ [] rfl rfl (Nat.le_of_ble_eq_true rfl) dX5_press_11 rfl ?_
    refine V_if_eq (pc := 14) C 25 dX5_press_14 rfl (fun c14 => ?_) (fun c14 => ?_)
    · replace h := t_pos c14 h
      exact V_sub [] rfl (hJ25 h)
    · replace h := t_neg c14 h
      refine V_iload (pc := 17) C dX5_press_17 4 rfl ?_
      obtain ⟨r19, hq, h⟩ := ob1_some h
      refine V_callSR (pc := 19) (rest := []) (st2 := [.int r19]) C (X5_isPartOfFraction_ok hq) gX5_press_X5_isPartOfFraction rfl hdX5_isPartOfFraction ⟨Nat.le_of_ble_eq_true rfl, Nat.le_of_ble_eq_true rfl⟩ ⟨Nat.le_refl _, Nat.le_refl _⟩ [] rfl rfl (Nat.le_of_ble_eq_true rfl) dX5_press_19 rfl ?_
      refine V_if_ne (pc := 22) C 29 dX5_press_22 rfl (fun c22 => ?_) (fun c22 => ?_)
      · replace h := t_neg c22 h
        refine V_aload_n (pc := 29) C dX5_press_29 rfl 0 rfl ?_
        refine V_iload_n (pc := 30) C dX5_press_30 rfl 1 rfl ?_
        refine V_iload_n (pc := 31) C dX5_press_31 rfl 2 rfl ?_
        obtain ⟨oft_32, hq, h⟩ := ob1_some h
        refine V_callVW0 (pc := 32) (rest := []) (st2 := []) (ws' := wOff Y a q pg gS gU rd oft_32 S U) C hA (X5_fitStorms_ok (a := a) hq) gX5_press_X5_fitStorms rfl ⟨rfl, hdX5_fitStorms⟩ ⟨Nat.le_of_ble_eq_true rfl, Nat.le_of_ble_eq_true rfl⟩ ⟨Nat.le_refl _, Nat.le_refl _⟩ 0 5 rfl rfl rfl (Nat.le_of_ble_eq_true rfl) dX5_press_32 rfl rfl ?_
        refine V_aload_n (pc := 35) C dX5_press_35 rfl 0 rfl ?_
        refine V_get (pc := 36) (v := .ref (a 9)) C 0 5 4 hiX5_press_5 rfl rfl (by decide) wX5_press_k1 rfl dX5_press_36 ?_
        refine V_iload_n (pc := 39) C dX5_press_39 rfl 3 rfl ?_
        obtain ⟨r40, hq, h⟩ := ob1_some h
        refine V_callVR (pc := 40) (rest := []) (st2 := [.long r40]) C (X0_pressAbove_ok (a := (sh a 9)) hq) gX5_press_X0_pressAbove rfl ⟨rfl, hdX0_pressAbove⟩ ⟨Nat.le_of_ble_eq_true rfl, Nat.le_of_ble_eq_true rfl⟩ ⟨Nat.le_refl _, Nat.le_refl _⟩ [9, 10, 11, 12, 13, 14] rfl 9 0 rfl rfl rfl (Nat.le_of_ble_eq_true rfl) dX5_press_40 rfl ?_
        refine V_aload_n (pc := 43) C dX5_press_43 rfl 0 rfl ?_
        refine V_get (pc := 44) (v := .ref (a 9)) C 0 5 4 hiX5_press_5 rfl rfl (by decide) wX5_press_k1 rfl dX5_press_44 ?_
        obtain ⟨r47, hq, h⟩ := ob1_some h
        refine V_callVR (pc := 47) (rest := [.long r40]) (st2 := [.long r47, .long r40]) C (X0_below_ok (a := (sh a 9)) hq) gX5_press_X0_below rfl ⟨rfl, hdX0_below⟩ ⟨Nat.le_of_ble_eq_true rfl, Nat.le_of_ble_eq_true rfl⟩ ⟨Nat.le_refl _, Nat.le_refl _⟩ [9, 10, 11, 12, 13, 14] rfl 9 0 rfl rfl rfl (Nat.le_of_ble_eq_true rfl) dX5_press_47 rfl ?_
        refine V_iload (pc := 50) C dX5_press_50 4 rfl ?_
        obtain ⟨r52, hq, h⟩ := ob1_some h
        refine V_callSR (pc := 52) (rest := []) (st2 := [.long r52]) C (X5_inLowestTerms_ok hq) gX5_press_X5_inLowestTerms rfl hdX5_inLowestTerms ⟨Nat.le_of_ble_eq_true rfl, Nat.le_of_ble_eq_true rfl⟩ ⟨Nat.le_refl _, Nat.le_refl _⟩ [] rfl rfl (Nat.le_of_ble_eq_true rfl) dX5_press_52 rfl ?_
        cases h
        subst hQ
        exact V_lretW C dX5_press_55
      · replace h := t_pos c22 h
        exact V_sub [] rfl (hJ25 h)
def X5_nothing (a : Nat → Nat) (q : Nat → Int32) (pg : Nat → Int32) (gS : Nat → Option Nat) (gU : Nat → Option Nat) (rd : RdT) (ft : FtT) (S : Nat → StT) (U : Nat → UnT) (p0 : Int32) (p1 : Int32) : Option (Int32 × FtT) :=
  ob1 (X5_canFit a q pg gS gU rd ft S U p0 p1) fun r3 =>
  if r3 = 0 then (some ((-1000003 : Int32), ft)) else (ob1 (X5_fitStorms a q pg gS gU rd ft S U p0 p1) fun oft_15 =>
  jn1 (fun (x3_56 : Int32) => some (x3_56, oft_15)) fun J56 =>
  wh2 (fun self23 (x3_23 : Int32) (x4_23 : Int32) =>
  if p1 ≤ x4_23 then (J56 x3_23) else (ob1 (X0_partAbove oft_15.1 oft_15.2.1 oft_15.2.2.1 oft_15.2.2.2.1 oft_15.2.2.2.2.1 oft_15.2.2.2.2.2.1 oft_15.2.2.2.2.2.2.1 oft_15.2.2.2.2.2.2.2 x4_23) fun r35 =>
  jn1 (fun (x3_50 : Int32) => self23 x3_50 (x4_23 + 1)) fun J50 =>
  if r35 = (0 : Int64) then (J50 (x3_23 ||| ((1 : Int32) <<< (x4_23 &&& 31)))) else (J50 x3_23))) 200 (0 : Int32) (0 : Int32))
theorem wX5_nothing_k0 : Cond.fieldLink RX5 35 (TX5 4).1 (TX5 4).2.1 (TX5 4).2.2.1 ∈ wsX5_nothing := by decide +kernel
theorem hiX5_nothing_5 : ∀ w ∈ u_ws RX5 TX5 11, w ∈ wsX5_nothing := fun _ h => List.mem_cons_of_mem _ (List.mem_append_left _ (List.mem_append_left _ (List.mem_append_left _ (List.mem_append_right _ h))))
theorem wX5_nothing_k2 : Cond.constant RX5 41 (-1000003) ∈ wsX5_nothing := by decide +kernel
theorem hdX5_nothing : yX5_nothing.cls ≠ "java/lang/invoke/MethodHandle" ∧ yX5_nothing.cls ≠ "java/lang/invoke/VarHandle" ∧ (parseMethodDescriptor yX5_nothing.desc).map (fun d => d.parameters.length) = some 2 := by decide +kernel
set_option maxHeartbeats 4000000 in
set_option maxRecDepth 100000 in
theorem X5_nothing_ok {l : Launch} {D : va_G} {Y : Nat → ClassId}  {a : Nat → Nat} {q : Nat → Int32} {pg : Nat → Int32} {gS : Nat → Option Nat} {gU : Nat → Option Nat} {rd : RdT} {ft : FtT} {S : Nat → StT} {U : Nat → UnT} {p0 : Int32} {p1 : Int32} {r : Int32} {uft : FtT} (h : X5_nothing a q pg gS gU rd ft S U p0 p1 = some (r, uft)) : MW l yX5_nothing wsX5_nothing 6 138 D Y [.ref (a 0), .int p0, .int p1] (wOff Y a q pg gS gU rd ft S U) (wOff Y a q pg gS gU rd uft S U) (some (.int r)) := by
  refine MW_of (cc := cX5_nothing) (nL := 5) (ret := some .int) (lv0 := [(0, .ref (a 0)), (1, .int p0), (2, .int p1)]) (by decide) rfl (Nat.le_of_ble_eq_true rfl) rfl rfl (fun X Af Q C hA hQ => ?_)
  unfold X5_nothing at h
  refine V_aload_n (pc := 0) C dX5_nothing_0 rfl 0 rfl ?_
  refine V_iload_n (pc := 1) C dX5_nothing_1 rfl 1 rfl ?_
  refine V_iload_n (pc := 2) C dX5_nothing_2 rfl 2 rfl ?_
  obtain ⟨r3, hq, h⟩ := ob1_some h
  refine V_callVR0 (pc := 3) (rest := []) (st2 := [.int r3]) C (X5_canFit_ok (a := a) hq) gX5_nothing_X5_canFit rfl ⟨rfl, hdX5_canFit⟩ ⟨Nat.le_of_ble_eq_true rfl, Nat.le_of_ble_eq_true rfl⟩ ⟨Nat.le_refl _, Nat.le_refl _⟩ 0 5 rfl rfl rfl (Nat.le_of_ble_eq_true rfl) dX5_nothing_3 rfl ?_
  refine V_if_ne (pc := 6) C 12 dX5_nothing_6 rfl (fun c6 => ?_) (fun c6 => ?_)
  · replace h := t_neg c6 h
    refine V_aload_n (pc := 12) C dX5_nothing_12 rfl 0 rfl ?_
    refine V_iload_n (pc := 13) C dX5_nothing_13 rfl 1 rfl ?_
    refine V_iload_n (pc := 14) C dX5_nothing_14 rfl 2 rfl ?_
    obtain ⟨oft_15, hq, h⟩ := ob1_some h
    refine V_callVW0 (pc := 15) (rest := []) (st2 := []) (ws' := wOff Y a q pg gS gU rd oft_15 S U) C hA (X5_fitStorms_ok (a := a) hq) gX5_nothing_X5_fitStorms rfl ⟨rfl, hdX5_fitStorms⟩ ⟨Nat.le_of_ble_eq_true rfl, Nat.le_of_ble_eq_true rfl⟩ ⟨Nat.le_refl _, Nat.le_refl _⟩ 0 5 rfl rfl rfl (Nat.le_of_ble_eq_true rfl) dX5_nothing_15 rfl rfl ?_
    refine V_iconst (pc := 18) (v := 0) C dX5_nothing_18 rfl ?_
    refine V_istore_n (pc := 19) (lv' := [(3, .int (0 : Int32)), (0, .ref (a 0)), (1, .int p0), (2, .int p1)]) C dX5_nothing_19 rfl (Nat.le_of_ble_eq_true rfl) rfl ?_
    refine V_iconst (pc := 20) (v := 0) C dX5_nothing_20 rfl ?_
    refine V_istore (pc := 21) (lv' := [(4, .int (0 : Int32)), (3, .int (0 : Int32)), (0, .ref (a 0)), (1, .int p0), (2, .int p1)]) C dX5_nothing_21 (Nat.le_of_ble_eq_true rfl) rfl ?_
    refine jn1_ok (P := (fun (x3_56 : Int32) => VW X D 5 Q (KM Af X) (0, 0) (wOff Y a q pg gS gU rd oft_15 S U) [(3, .int x3_56)] 56 [])) (fun x3_56 h => ?_) (fun J56 hJ56 h => ?_) h
    · refine V_iload_n (pc := 56) C dX5_nothing_56 rfl 0 rfl ?_
      cases h
      subst hQ
      exact V_iretW C dX5_nothing_57
    refine V_sub [2, 4, 1, 0] rfl (wh2_ok (P := (fun (x3_23 : Int32) (x4_23 : Int32) => VW X D 5 Q (KM Af X) (0, 0) (wOff Y a q pg gS gU rd oft_15 S U) [(0, .ref (a 0)), (2, .int p1), (3, .int x3_23), (4, .int x4_23)] 23 [])) (fun self23 ih23 x3_23 x4_23 h => ?_) 200 _ _ h)
    refine V_iload (pc := 23) C dX5_nothing_23 3 rfl ?_
    refine V_iload_n (pc := 25) C dX5_nothing_25 rfl 1 rfl ?_
    refine V_icmp_ge (pc := 26) C 56 dX5_nothing_26 rfl (fun c26 => ?_) (fun c26 => ?_)
    · replace h := t_pos c26 h
      exact V_sub [2] rfl (hJ56 _ h)
    · replace h := t_neg c26 h
      refine V_aload_n (pc := 29) C dX5_nothing_29 rfl 0 rfl ?_
      refine V_get (pc := 30) (v := .ref (a 9)) C 0 5 4 hiX5_nothing_5 rfl rfl (by decide) wX5_nothing_k0 rfl dX5_nothing_30 ?_
      refine V_iload (pc := 33) C dX5_nothing_33 3 rfl ?_
      obtain ⟨r35, hq, h⟩ := ob1_some h
      refine V_callVR (pc := 35) (rest := []) (st2 := [.long r35]) C (X0_partAbove_ok (a := (sh a 9)) hq) gX5_nothing_X0_partAbove rfl ⟨rfl, hdX0_partAbove⟩ ⟨Nat.le_of_ble_eq_true rfl, Nat.le_of_ble_eq_true rfl⟩ ⟨Nat.le_refl _, Nat.le_refl _⟩ [9, 10, 11, 12, 13, 14] rfl 9 0 rfl rfl rfl (Nat.le_of_ble_eq_true rfl) dX5_nothing_35 rfl ?_
      refine V_lconst (pc := 38) (v := 0) C dX5_nothing_38 rfl ?_
      refine V_lcmp (pc := 39) C dX5_nothing_39 ?_
      refine jn1_ok (P := (fun (x3_50 : Int32) => VW X D 5 Q (KM Af X) (0, 0) (wOff Y a q pg gS gU rd oft_15 S U) [(0, .ref (a 0)), (2, .int p1), (3, .int x3_50), (4, .int x4_23)] 50 [])) (fun x3_50 h => ?_) (fun J50 hJ50 h => ?_) h
      · refine V_iinc (pc := 50) (v := (x4_23 + 1)) (lv' := [(4, .int (x4_23 + 1)), (0, .ref (a 0)), (2, .int p1), (3, .int x3_50)]) C dX5_nothing_50 3 rfl rfl (Nat.le_of_ble_eq_true rfl) rfl ?_
        refine V_goto (pc := 53) C 23 dX5_nothing_53 rfl ?_
        exact V_sub [1, 2, 3, 0] rfl (ih23 _ _ h)
      refine V_lif_ne (pc := 40) C 50 dX5_nothing_40 rfl (fun c40 => ?_) (fun c40 => ?_)
      · replace h := t_neg c40 h
        exact V_sub [0, 1, 2, 3] rfl (hJ50 _ h)
      · replace h := t_pos c40 h
        refine V_iload_n (pc := 43) C dX5_nothing_43 rfl 2 rfl ?_
        refine V_iconst (pc := 44) (v := 1) C dX5_nothing_44 rfl ?_
        refine V_iload (pc := 45) C dX5_nothing_45 3 rfl ?_
        refine V_ishl (pc := 47) C dX5_nothing_47 ?_
        refine V_ior (pc := 48) C dX5_nothing_48 ?_
        refine V_istore_n (pc := 49) (lv' := [(3, .int (x3_23 ||| ((1 : Int32) <<< (x4_23 &&& 31)))), (0, .ref (a 0)), (2, .int p1), (4, .int x4_23)]) C dX5_nothing_49 rfl (Nat.le_of_ble_eq_true rfl) rfl ?_
        exact V_sub [1, 2, 0, 3] rfl (hJ50 _ h)
  · replace h := t_pos c6 h
    refine V_ldc (pc := 9) (v := -1000003) C dX5_nothing_9 wX5_nothing_k2 ?_
    cases h
    subst hQ
    exact V_iretW C dX5_nothing_11
def X5_keep (a : Nat → Nat) (q : Nat → Int32) (pg : Nat → Int32) (gS : Nat → Option Nat) (gU : Nat → Option Nat) (rd : RdT) (ft : FtT) (S : Nat → StT) (U : Nat → UnT) (p0 : Int32) (p1 : Int32) (p2 : Int32) : Option (Int32 × Int32 × Int32 × FtT × (Nat → UnT)) :=
  ob1 (X5_canFit a q pg gS gU rd ft S U p0 p1) fun r3 =>
  if r3 = 0 then (some ((-1000003 : Int32), (q 7), (q 10), ft, U)) else (ob1 (X5_isLength p2) fun r10 =>
  if r10 = 0 then (some ((-1000003 : Int32), (q 7), (q 10), ft, U)) else (ob1 (X5_fitStorms a q pg gS gU rd ft S U p0 p1) fun oft_22 =>
  ob1 (X0_isOfUnitNumbers oft_22.1 oft_22.2.1 oft_22.2.2.1 oft_22.2.2.2.1 oft_22.2.2.2.2.1 oft_22.2.2.2.2.2.1 oft_22.2.2.2.2.2.2.1 oft_22.2.2.2.2.2.2.2) fun r29 =>
  if r29 = 0 then (some ((-1000004 : Int32), (q 7), (q 10), oft_22, U)) else (if (q 7) < (4 : Int32) then (chk (inB (q 7) 4) (if gU (Int32.toNatClampNeg (q 7)) = some (a 36) then (ob2 (X0_writeInto oft_22.1 oft_22.2.1 oft_22.2.2.1 oft_22.2.2.2.1 oft_22.2.2.2.2.1 oft_22.2.2.2.2.2.1 oft_22.2.2.2.2.2.2.1 oft_22.2.2.2.2.2.2.2 ((U 0).2.1) ((U 0).2.2)) fun onx2_75 ofx2_75 =>
  some ((((q 7) + (1 : Int32)) - (1 : Int32)), ((q 7) + (1 : Int32)), ((q 10) + (1 : Int32)), oft_22, (up U 0 (p2, onx2_75, ofx2_75)))) else (if gU (Int32.toNatClampNeg (q 7)) = some (a 39) then (ob2 (X0_writeInto oft_22.1 oft_22.2.1 oft_22.2.2.1 oft_22.2.2.2.1 oft_22.2.2.2.2.1 oft_22.2.2.2.2.2.1 oft_22.2.2.2.2.2.2.1 oft_22.2.2.2.2.2.2.2 ((U 1).2.1) ((U 1).2.2)) fun onx2_75 ofx2_75 =>
  some ((((q 7) + (1 : Int32)) - (1 : Int32)), ((q 7) + (1 : Int32)), ((q 10) + (1 : Int32)), oft_22, (up U 1 (p2, onx2_75, ofx2_75)))) else (if gU (Int32.toNatClampNeg (q 7)) = some (a 42) then (ob2 (X0_writeInto oft_22.1 oft_22.2.1 oft_22.2.2.1 oft_22.2.2.2.1 oft_22.2.2.2.2.1 oft_22.2.2.2.2.2.1 oft_22.2.2.2.2.2.2.1 oft_22.2.2.2.2.2.2.2 ((U 2).2.1) ((U 2).2.2)) fun onx2_75 ofx2_75 =>
  some ((((q 7) + (1 : Int32)) - (1 : Int32)), ((q 7) + (1 : Int32)), ((q 10) + (1 : Int32)), oft_22, (up U 2 (p2, onx2_75, ofx2_75)))) else (if gU (Int32.toNatClampNeg (q 7)) = some (a 45) then (ob2 (X0_writeInto oft_22.1 oft_22.2.1 oft_22.2.2.1 oft_22.2.2.2.1 oft_22.2.2.2.2.1 oft_22.2.2.2.2.2.1 oft_22.2.2.2.2.2.2.1 oft_22.2.2.2.2.2.2.2 ((U 3).2.1) ((U 3).2.2)) fun onx2_75 ofx2_75 =>
  some ((((q 7) + (1 : Int32)) - (1 : Int32)), ((q 7) + (1 : Int32)), ((q 10) + (1 : Int32)), oft_22, (up U 3 (p2, onx2_75, ofx2_75)))) else (none)))))) else (some ((-1000005 : Int32), (q 7), (q 10), oft_22, U)))))
theorem wX5_keep_k0 : Cond.constant RX5 41 (-1000003) ∈ wsX5_keep := by decide +kernel
theorem wX5_keep_k1 : Cond.fieldLink RX5 35 (TX5 4).1 (TX5 4).2.1 (TX5 4).2.2.1 ∈ wsX5_keep := by decide +kernel
theorem hiX5_keep_5 : ∀ w ∈ u_ws RX5 TX5 11, w ∈ wsX5_keep := fun _ h => List.mem_cons_of_mem _ (List.mem_append_left _ (List.mem_append_left _ (List.mem_append_left _ (List.mem_append_left _ (List.mem_append_right _ h)))))
theorem wX5_keep_k3 : Cond.fieldLink RX5 169 (TX5 7).1 (TX5 7).2.1 (TX5 7).2.2.1 ∈ wsX5_keep := by decide +kernel
theorem wX5_keep_k4 : Cond.fieldLink RX5 21 (TX5 2).1 (TX5 2).2.1 (TX5 2).2.2.1 ∈ wsX5_keep := by decide +kernel
theorem wX5_keep_k5 : Cond.fieldLink RX5 112 (TX4 1).1 (TX4 1).2.1 (TX4 1).2.2.1 ∈ wsX5_keep := by decide +kernel
theorem hiX5_keep_4 : ∀ w ∈ u_ws RX4 TX4 2, w ∈ wsX5_keep := fun _ h => List.mem_cons_of_mem _ (List.mem_append_left _ (List.mem_append_left _ (List.mem_append_left _ (List.mem_append_right _ h))))
theorem wX5_keep_k7 : Cond.fieldLink RX5 109 (TX4 0).1 (TX4 0).2.1 (TX4 0).2.2.1 ∈ wsX5_keep := by decide +kernel
theorem wX5_keep_k8 : Cond.fieldLink RX5 176 (TX5 10).1 (TX5 10).2.1 (TX5 10).2.2.1 ∈ wsX5_keep := by decide +kernel
theorem wX5_keep_k9 : Cond.constant RX5 46 (-1000005) ∈ wsX5_keep := by decide +kernel
theorem wX5_keep_k10 : Cond.constant RX5 55 (-1000004) ∈ wsX5_keep := by decide +kernel
theorem hdX5_keep : yX5_keep.cls ≠ "java/lang/invoke/MethodHandle" ∧ yX5_keep.cls ≠ "java/lang/invoke/VarHandle" ∧ (parseMethodDescriptor yX5_keep.desc).map (fun d => d.parameters.length) = some 3 := by decide +kernel
set_option maxHeartbeats 4000000 in
set_option maxRecDepth 100000 in
theorem X5_keep_ok {l : Launch} {D : va_G} {Y : Nat → ClassId}  {a : Nat → Nat} {q : Nat → Int32} {pg : Nat → Int32} {gS : Nat → Option Nat} {gU : Nat → Option Nat} {rd : RdT} {ft : FtT} {S : Nat → StT} {U : Nat → UnT} {p0 : Int32} {p1 : Int32} {p2 : Int32} {r : Int32} {uq7 : Int32} {uq10 : Int32} {uft : FtT} {uU : Nat → UnT} (h : X5_keep a q pg gS gU rd ft S U p0 p1 p2 = some (r, uq7, uq10, uft, uU)) : MW l yX5_keep wsX5_keep 6 138 D Y [.ref (a 0), .int p0, .int p1, .int p2] (wOff Y a q pg gS gU rd ft S U) (wOff Y a (up (up q 7 uq7) 10 uq10) pg gS gU rd uft S uU) (some (.int r)) := by
  refine MW_of (cc := cX5_keep) (nL := 5) (ret := some .int) (lv0 := [(0, .ref (a 0)), (1, .int p0), (2, .int p1), (3, .int p2)]) (by decide) rfl (Nat.le_of_ble_eq_true rfl) rfl rfl (fun X Af Q C hA hQ => ?_)
  unfold X5_keep at h
  refine V_aload_n (pc := 0) C dX5_keep_0 rfl 0 rfl ?_
  refine V_iload_n (pc := 1) C dX5_keep_1 rfl 1 rfl ?_
  refine V_iload_n (pc := 2) C dX5_keep_2 rfl 2 rfl ?_
  obtain ⟨r3, hq, h⟩ := ob1_some h
  refine V_callVR0 (pc := 3) (rest := []) (st2 := [.int r3]) C (X5_canFit_ok (a := a) hq) gX5_keep_X5_canFit rfl ⟨rfl, hdX5_canFit⟩ ⟨Nat.le_of_ble_eq_true rfl, Nat.le_of_ble_eq_true rfl⟩ ⟨Nat.le_refl _, Nat.le_refl _⟩ 0 5 rfl rfl rfl (Nat.le_of_ble_eq_true rfl) dX5_keep_3 rfl ?_
  refine V_if_eq (pc := 6) C 16 dX5_keep_6 rfl (fun c6 => ?_) (fun c6 => ?_)
  · replace h := t_pos c6 h
    refine V_ldc (pc := 16) (v := -1000003) C dX5_keep_16 wX5_keep_k0 ?_
    cases h
    subst hQ
    exact V_iretW C dX5_keep_18
  · replace h := t_neg c6 h
    refine V_iload_n (pc := 9) C dX5_keep_9 rfl 3 rfl ?_
    obtain ⟨r10, hq, h⟩ := ob1_some h
    refine V_callSR (pc := 10) (rest := []) (st2 := [.int r10]) C (X5_isLength_ok hq) gX5_keep_X5_isLength rfl hdX5_isLength ⟨Nat.le_of_ble_eq_true rfl, Nat.le_of_ble_eq_true rfl⟩ ⟨Nat.le_refl _, Nat.le_refl _⟩ [] rfl rfl (Nat.le_of_ble_eq_true rfl) dX5_keep_10 rfl ?_
    refine V_if_ne (pc := 13) C 19 dX5_keep_13 rfl (fun c13 => ?_) (fun c13 => ?_)
    · replace h := t_neg c13 h
      refine V_aload_n (pc := 19) C dX5_keep_19 rfl 0 rfl ?_
      refine V_iload_n (pc := 20) C dX5_keep_20 rfl 1 rfl ?_
      refine V_iload_n (pc := 21) C dX5_keep_21 rfl 2 rfl ?_
      obtain ⟨oft_22, hq, h⟩ := ob1_some h
      refine V_callVW0 (pc := 22) (rest := []) (st2 := []) (ws' := wOff Y a q pg gS gU rd oft_22 S U) C hA (X5_fitStorms_ok (a := a) hq) gX5_keep_X5_fitStorms rfl ⟨rfl, hdX5_fitStorms⟩ ⟨Nat.le_of_ble_eq_true rfl, Nat.le_of_ble_eq_true rfl⟩ ⟨Nat.le_refl _, Nat.le_refl _⟩ 0 5 rfl rfl rfl (Nat.le_of_ble_eq_true rfl) dX5_keep_22 rfl rfl ?_
      refine V_aload_n (pc := 25) C dX5_keep_25 rfl 0 rfl ?_
      refine V_get (pc := 26) (v := .ref (a 9)) C 0 5 4 hiX5_keep_5 rfl rfl (by decide) wX5_keep_k1 rfl dX5_keep_26 ?_
      obtain ⟨r29, hq, h⟩ := ob1_some h
      refine V_callVR (pc := 29) (rest := []) (st2 := [.int r29]) C (X0_isOfUnitNumbers_ok (a := (sh a 9)) hq) gX5_keep_X0_isOfUnitNumbers rfl ⟨rfl, hdX0_isOfUnitNumbers⟩ ⟨Nat.le_of_ble_eq_true rfl, Nat.le_of_ble_eq_true rfl⟩ ⟨Nat.le_refl _, Nat.le_refl _⟩ [9, 10, 11, 12, 13, 14] rfl 9 0 rfl rfl rfl (Nat.le_of_ble_eq_true rfl) dX5_keep_29 rfl ?_
      refine V_if_ne (pc := 32) C 38 dX5_keep_32 rfl (fun c32 => ?_) (fun c32 => ?_)
      · replace h := t_neg c32 h
        refine V_aload_n (pc := 38) C dX5_keep_38 rfl 0 rfl ?_
        refine V_get (pc := 39) (v := .int (q 7)) C 0 5 7 hiX5_keep_5 rfl rfl (by decide) wX5_keep_k3 rfl dX5_keep_39 ?_
        refine V_iconst (pc := 42) (v := 4) C dX5_keep_42 rfl ?_
        refine V_icmp_lt (pc := 43) C 49 dX5_keep_43 rfl (fun c43 => ?_) (fun c43 => ?_)
        · replace h := t_pos c43 h
          refine V_aload_n (pc := 49) C dX5_keep_49 rfl 0 rfl ?_
          refine V_get (pc := 50) (v := .ref (a 3)) C 0 5 2 hiX5_keep_5 rfl rfl (by decide) wX5_keep_k4 rfl dX5_keep_50 ?_
          refine V_aload_n (pc := 53) C dX5_keep_53 rfl 0 rfl ?_
          refine V_get (pc := 54) (v := .int (q 7)) C 0 5 7 hiX5_keep_5 rfl rfl (by decide) wX5_keep_k3 rfl dX5_keep_54 ?_
          obtain ⟨b57, h⟩ := chk_some h
          by_cases e57 : gU (Int32.toNatClampNeg (q 7)) = some (a 36)
          · replace h := t_pos e57 h
            refine V_aald (pc := 57) C 3 3 rfl rfl b57 e57 dX5_keep_57 ?_
            refine V_astore (pc := 58) (lv' := [(4, .ref (a 36)), (0, .ref (a 0)), (1, .int p0), (2, .int p1), (3, .int p2)]) C dX5_keep_58 (Nat.le_of_ble_eq_true rfl) rfl ?_
            refine V_aload (pc := 60) C dX5_keep_60 0 rfl ?_
            refine V_iload_n (pc := 62) C dX5_keep_62 rfl 4 rfl ?_
            refine V_put (pc := 63) (ws' := wOff Y a q pg gS gU rd oft_22 S (up U 0 (p2, (U 0).2.1, (U 0).2.2))) C 36 4 1 hiX5_keep_4 tyX4_ok nmX4 rfl rfl (by decide) wX5_keep_k5 rfl rfl rfl (Nat.le_of_ble_eq_true rfl) dX5_keep_63 rfl ?_
            refine V_aload_n (pc := 66) C dX5_keep_66 rfl 1 rfl ?_
            refine V_get (pc := 67) (v := .ref (a 9)) C 0 5 4 hiX5_keep_5 rfl rfl (by decide) wX5_keep_k1 rfl dX5_keep_67 ?_
            refine V_aload (pc := 70) C dX5_keep_70 0 rfl ?_
            refine V_get (pc := 72) (v := .ref (a 37)) C 36 4 0 hiX5_keep_4 rfl rfl (by decide) wX5_keep_k7 rfl dX5_keep_72 ?_
            obtain ⟨onx2_75, ofx2_75, hq, h⟩ := ob2_some h
            refine V_callVW (pc := 75) (rest := []) (st2 := []) (ws' := wOff Y a q pg gS gU rd oft_22 S (up U 0 (p2, onx2_75, ofx2_75))) C hA (X0_writeInto_ok (a := (sh a 9)) (ax2 := (a 37)) (bx2 := (a 38)) hq) gX5_keep_X0_writeInto rfl ⟨rfl, hdX0_writeInto⟩ ⟨Nat.le_of_ble_eq_true rfl, Nat.le_of_ble_eq_true rfl⟩ ⟨Nat.le_refl _, Nat.le_refl _⟩ [9, 10, 11, 12, 13, 14, 37, 38] rfl rfl 9 0 rfl rfl rfl (Nat.le_of_ble_eq_true rfl) dX5_keep_75 rfl rfl ?_
            refine V_aload_n (pc := 78) C dX5_keep_78 rfl 1 rfl ?_
            refine V_dup (pc := 79) C dX5_keep_79 rfl ?_
            refine V_get (pc := 80) (v := .int (q 7)) C 0 5 7 hiX5_keep_5 rfl rfl (by decide) wX5_keep_k3 rfl dX5_keep_80 ?_
            refine V_iconst (pc := 83) (v := 1) C dX5_keep_83 rfl ?_
            refine V_iadd (pc := 84) C dX5_keep_84 ?_
            refine V_put (pc := 85) (ws' := wOff Y a (up q 7 ((q 7) + (1 : Int32))) pg gS gU rd oft_22 S (up U 0 (p2, onx2_75, ofx2_75))) C 0 5 7 hiX5_keep_5 tyX5_ok nmX5 rfl rfl (by decide) wX5_keep_k3 rfl rfl rfl (Nat.le_of_ble_eq_true rfl) dX5_keep_85 rfl ?_
            refine V_aload_n (pc := 88) C dX5_keep_88 rfl 1 rfl ?_
            refine V_dup (pc := 89) C dX5_keep_89 rfl ?_
            refine V_get (pc := 90) (v := .int (q 10)) C 0 5 10 hiX5_keep_5 rfl rfl (by decide) wX5_keep_k8 rfl dX5_keep_90 ?_
            refine V_iconst (pc := 93) (v := 1) C dX5_keep_93 rfl ?_
            refine V_iadd (pc := 94) C dX5_keep_94 ?_
            refine V_put (pc := 95) (ws' := wOff Y a (up (up q 7 ((q 7) + (1 : Int32))) 10 ((q 10) + (1 : Int32))) pg gS gU rd oft_22 S (up U 0 (p2, onx2_75, ofx2_75))) C 0 5 10 hiX5_keep_5 tyX5_ok nmX5 rfl rfl (by decide) wX5_keep_k8 rfl rfl rfl (Nat.le_of_ble_eq_true rfl) dX5_keep_95 rfl ?_
            refine V_aload_n (pc := 98) C dX5_keep_98 rfl 1 rfl ?_
            refine V_get (pc := 99) (v := .int ((q 7) + (1 : Int32))) C 0 5 7 hiX5_keep_5 rfl rfl (by decide) wX5_keep_k3 rfl dX5_keep_99 ?_
            refine V_iconst (pc := 102) (v := 1) C dX5_keep_102 rfl ?_
            refine V_isub (pc := 103) C dX5_keep_103 ?_
            cases h
            subst hQ
            exact V_iretW C dX5_keep_104
          replace h := t_neg e57 h
          by_cases e57 : gU (Int32.toNatClampNeg (q 7)) = some (a 39)
          · replace h := t_pos e57 h
            refine V_aald (pc := 57) C 3 3 rfl rfl b57 e57 dX5_keep_57 ?_
            refine V_astore (pc := 58) (lv' := [(4, .ref (a 39)), (0, .ref (a 0)), (1, .int p0), (2, .int p1), (3, .int p2)]) C dX5_keep_58 (Nat.le_of_ble_eq_true rfl) rfl ?_
            refine V_aload (pc := 60) C dX5_keep_60 0 rfl ?_
            refine V_iload_n (pc := 62) C dX5_keep_62 rfl 4 rfl ?_
            refine V_put (pc := 63) (ws' := wOff Y a q pg gS gU rd oft_22 S (up U 1 (p2, (U 1).2.1, (U 1).2.2))) C 39 4 1 hiX5_keep_4 tyX4_ok nmX4 rfl rfl (by decide) wX5_keep_k5 rfl rfl rfl (Nat.le_of_ble_eq_true rfl) dX5_keep_63 rfl ?_
            refine V_aload_n (pc := 66) C dX5_keep_66 rfl 1 rfl ?_
            refine V_get (pc := 67) (v := .ref (a 9)) C 0 5 4 hiX5_keep_5 rfl rfl (by decide) wX5_keep_k1 rfl dX5_keep_67 ?_
            refine V_aload (pc := 70) C dX5_keep_70 0 rfl ?_
            refine V_get (pc := 72) (v := .ref (a 40)) C 39 4 0 hiX5_keep_4 rfl rfl (by decide) wX5_keep_k7 rfl dX5_keep_72 ?_
            obtain ⟨onx2_75, ofx2_75, hq, h⟩ := ob2_some h
            refine V_callVW (pc := 75) (rest := []) (st2 := []) (ws' := wOff Y a q pg gS gU rd oft_22 S (up U 1 (p2, onx2_75, ofx2_75))) C hA (X0_writeInto_ok (a := (sh a 9)) (ax2 := (a 40)) (bx2 := (a 41)) hq) gX5_keep_X0_writeInto rfl ⟨rfl, hdX0_writeInto⟩ ⟨Nat.le_of_ble_eq_true rfl, Nat.le_of_ble_eq_true rfl⟩ ⟨Nat.le_refl _, Nat.le_refl _⟩ [9, 10, 11, 12, 13, 14, 40, 41] rfl rfl 9 0 rfl rfl rfl (Nat.le_of_ble_eq_true rfl) dX5_keep_75 rfl rfl ?_
            refine V_aload_n (pc := 78) C dX5_keep_78 rfl 1 rfl ?_
            refine V_dup (pc := 79) C dX5_keep_79 rfl ?_
            refine V_get (pc := 80) (v := .int (q 7)) C 0 5 7 hiX5_keep_5 rfl rfl (by decide) wX5_keep_k3 rfl dX5_keep_80 ?_
            refine V_iconst (pc := 83) (v := 1) C dX5_keep_83 rfl ?_
            refine V_iadd (pc := 84) C dX5_keep_84 ?_
            refine V_put (pc := 85) (ws' := wOff Y a (up q 7 ((q 7) + (1 : Int32))) pg gS gU rd oft_22 S (up U 1 (p2, onx2_75, ofx2_75))) C 0 5 7 hiX5_keep_5 tyX5_ok nmX5 rfl rfl (by decide) wX5_keep_k3 rfl rfl rfl (Nat.le_of_ble_eq_true rfl) dX5_keep_85 rfl ?_
            refine V_aload_n (pc := 88) C dX5_keep_88 rfl 1 rfl ?_
            refine V_dup (pc := 89) C dX5_keep_89 rfl ?_
            refine V_get (pc := 90) (v := .int (q 10)) C 0 5 10 hiX5_keep_5 rfl rfl (by decide) wX5_keep_k8 rfl dX5_keep_90 ?_
            refine V_iconst (pc := 93) (v := 1) C dX5_keep_93 rfl ?_
            refine V_iadd (pc := 94) C dX5_keep_94 ?_
            refine V_put (pc := 95) (ws' := wOff Y a (up (up q 7 ((q 7) + (1 : Int32))) 10 ((q 10) + (1 : Int32))) pg gS gU rd oft_22 S (up U 1 (p2, onx2_75, ofx2_75))) C 0 5 10 hiX5_keep_5 tyX5_ok nmX5 rfl rfl (by decide) wX5_keep_k8 rfl rfl rfl (Nat.le_of_ble_eq_true rfl) dX5_keep_95 rfl ?_
            refine V_aload_n (pc := 98) C dX5_keep_98 rfl 1 rfl ?_
            refine V_get (pc := 99) (v := .int ((q 7) + (1 : Int32))) C 0 5 7 hiX5_keep_5 rfl rfl (by decide) wX5_keep_k3 rfl dX5_keep_99 ?_
            refine V_iconst (pc := 102) (v := 1) C dX5_keep_102 rfl ?_
            refine V_isub (pc := 103) C dX5_keep_103 ?_
            cases h
            subst hQ
            exact V_iretW C dX5_keep_104
          replace h := t_neg e57 h
          by_cases e57 : gU (Int32.toNatClampNeg (q 7)) = some (a 42)
          · replace h := t_pos e57 h
            refine V_aald (pc := 57) C 3 3 rfl rfl b57 e57 dX5_keep_57 ?_
            refine V_astore (pc := 58) (lv' := [(4, .ref (a 42)), (0, .ref (a 0)), (1, .int p0), (2, .int p1), (3, .int p2)]) C dX5_keep_58 (Nat.le_of_ble_eq_true rfl) rfl ?_
            refine V_aload (pc := 60) C dX5_keep_60 0 rfl ?_
            refine V_iload_n (pc := 62) C dX5_keep_62 rfl 4 rfl ?_
            refine V_put (pc := 63) (ws' := wOff Y a q pg gS gU rd oft_22 S (up U 2 (p2, (U 2).2.1, (U 2).2.2))) C 42 4 1 hiX5_keep_4 tyX4_ok nmX4 rfl rfl (by decide) wX5_keep_k5 rfl rfl rfl (Nat.le_of_ble_eq_true rfl) dX5_keep_63 rfl ?_
            refine V_aload_n (pc := 66) C dX5_keep_66 rfl 1 rfl ?_
            refine V_get (pc := 67) (v := .ref (a 9)) C 0 5 4 hiX5_keep_5 rfl rfl (by decide) wX5_keep_k1 rfl dX5_keep_67 ?_
            refine V_aload (pc := 70) C dX5_keep_70 0 rfl ?_
            refine V_get (pc := 72) (v := .ref (a 43)) C 42 4 0 hiX5_keep_4 rfl rfl (by decide) wX5_keep_k7 rfl dX5_keep_72 ?_
            obtain ⟨onx2_75, ofx2_75, hq, h⟩ := ob2_some h
            refine V_callVW (pc := 75) (rest := []) (st2 := []) (ws' := wOff Y a q pg gS gU rd oft_22 S (up U 2 (p2, onx2_75, ofx2_75))) C hA (X0_writeInto_ok (a := (sh a 9)) (ax2 := (a 43)) (bx2 := (a 44)) hq) gX5_keep_X0_writeInto rfl ⟨rfl, hdX0_writeInto⟩ ⟨Nat.le_of_ble_eq_true rfl, Nat.le_of_ble_eq_true rfl⟩ ⟨Nat.le_refl _, Nat.le_refl _⟩ [9, 10, 11, 12, 13, 14, 43, 44] rfl rfl 9 0 rfl rfl rfl (Nat.le_of_ble_eq_true rfl) dX5_keep_75 rfl rfl ?_
            refine V_aload_n (pc := 78) C dX5_keep_78 rfl 1 rfl ?_
            refine V_dup (pc := 79) C dX5_keep_79 rfl ?_
            refine V_get (pc := 80) (v := .int (q 7)) C 0 5 7 hiX5_keep_5 rfl rfl (by decide) wX5_keep_k3 rfl dX5_keep_80 ?_
            refine V_iconst (pc := 83) (v := 1) C dX5_keep_83 rfl ?_
            refine V_iadd (pc := 84) C dX5_keep_84 ?_
            refine V_put (pc := 85) (ws' := wOff Y a (up q 7 ((q 7) + (1 : Int32))) pg gS gU rd oft_22 S (up U 2 (p2, onx2_75, ofx2_75))) C 0 5 7 hiX5_keep_5 tyX5_ok nmX5 rfl rfl (by decide) wX5_keep_k3 rfl rfl rfl (Nat.le_of_ble_eq_true rfl) dX5_keep_85 rfl ?_
            refine V_aload_n (pc := 88) C dX5_keep_88 rfl 1 rfl ?_
            refine V_dup (pc := 89) C dX5_keep_89 rfl ?_
            refine V_get (pc := 90) (v := .int (q 10)) C 0 5 10 hiX5_keep_5 rfl rfl (by decide) wX5_keep_k8 rfl dX5_keep_90 ?_
            refine V_iconst (pc := 93) (v := 1) C dX5_keep_93 rfl ?_
            refine V_iadd (pc := 94) C dX5_keep_94 ?_
            refine V_put (pc := 95) (ws' := wOff Y a (up (up q 7 ((q 7) + (1 : Int32))) 10 ((q 10) + (1 : Int32))) pg gS gU rd oft_22 S (up U 2 (p2, onx2_75, ofx2_75))) C 0 5 10 hiX5_keep_5 tyX5_ok nmX5 rfl rfl (by decide) wX5_keep_k8 rfl rfl rfl (Nat.le_of_ble_eq_true rfl) dX5_keep_95 rfl ?_
            refine V_aload_n (pc := 98) C dX5_keep_98 rfl 1 rfl ?_
            refine V_get (pc := 99) (v := .int ((q 7) + (1 : Int32))) C 0 5 7 hiX5_keep_5 rfl rfl (by decide) wX5_keep_k3 rfl dX5_keep_99 ?_
            refine V_iconst (pc := 102) (v := 1) C dX5_keep_102 rfl ?_
            refine V_isub (pc := 103) C dX5_keep_103 ?_
            cases h
            subst hQ
            exact V_iretW C dX5_keep_104
          replace h := t_neg e57 h
          by_cases e57 : gU (Int32.toNatClampNeg (q 7)) = some (a 45)
          · replace h := t_pos e57 h
            refine V_aald (pc := 57) C 3 3 rfl rfl b57 e57 dX5_keep_57 ?_
            refine V_astore (pc := 58) (lv' := [(4, .ref (a 45)), (0, .ref (a 0)), (1, .int p0), (2, .int p1), (3, .int p2)]) C dX5_keep_58 (Nat.le_of_ble_eq_true rfl) rfl ?_
            refine V_aload (pc := 60) C dX5_keep_60 0 rfl ?_
            refine V_iload_n (pc := 62) C dX5_keep_62 rfl 4 rfl ?_
            refine V_put (pc := 63) (ws' := wOff Y a q pg gS gU rd oft_22 S (up U 3 (p2, (U 3).2.1, (U 3).2.2))) C 45 4 1 hiX5_keep_4 tyX4_ok nmX4 rfl rfl (by decide) wX5_keep_k5 rfl rfl rfl (Nat.le_of_ble_eq_true rfl) dX5_keep_63 rfl ?_
            refine V_aload_n (pc := 66) C dX5_keep_66 rfl 1 rfl ?_
            refine V_get (pc := 67) (v := .ref (a 9)) C 0 5 4 hiX5_keep_5 rfl rfl (by decide) wX5_keep_k1 rfl dX5_keep_67 ?_
            refine V_aload (pc := 70) C dX5_keep_70 0 rfl ?_
            refine V_get (pc := 72) (v := .ref (a 46)) C 45 4 0 hiX5_keep_4 rfl rfl (by decide) wX5_keep_k7 rfl dX5_keep_72 ?_
            obtain ⟨onx2_75, ofx2_75, hq, h⟩ := ob2_some h
            refine V_callVW (pc := 75) (rest := []) (st2 := []) (ws' := wOff Y a q pg gS gU rd oft_22 S (up U 3 (p2, onx2_75, ofx2_75))) C hA (X0_writeInto_ok (a := (sh a 9)) (ax2 := (a 46)) (bx2 := (a 47)) hq) gX5_keep_X0_writeInto rfl ⟨rfl, hdX0_writeInto⟩ ⟨Nat.le_of_ble_eq_true rfl, Nat.le_of_ble_eq_true rfl⟩ ⟨Nat.le_refl _, Nat.le_refl _⟩ [9, 10, 11, 12, 13, 14, 46, 47] rfl rfl 9 0 rfl rfl rfl (Nat.le_of_ble_eq_true rfl) dX5_keep_75 rfl rfl ?_
            refine V_aload_n (pc := 78) C dX5_keep_78 rfl 1 rfl ?_
            refine V_dup (pc := 79) C dX5_keep_79 rfl ?_
            refine V_get (pc := 80) (v := .int (q 7)) C 0 5 7 hiX5_keep_5 rfl rfl (by decide) wX5_keep_k3 rfl dX5_keep_80 ?_
            refine V_iconst (pc := 83) (v := 1) C dX5_keep_83 rfl ?_
            refine V_iadd (pc := 84) C dX5_keep_84 ?_
            refine V_put (pc := 85) (ws' := wOff Y a (up q 7 ((q 7) + (1 : Int32))) pg gS gU rd oft_22 S (up U 3 (p2, onx2_75, ofx2_75))) C 0 5 7 hiX5_keep_5 tyX5_ok nmX5 rfl rfl (by decide) wX5_keep_k3 rfl rfl rfl (Nat.le_of_ble_eq_true rfl) dX5_keep_85 rfl ?_
            refine V_aload_n (pc := 88) C dX5_keep_88 rfl 1 rfl ?_
            refine V_dup (pc := 89) C dX5_keep_89 rfl ?_
            refine V_get (pc := 90) (v := .int (q 10)) C 0 5 10 hiX5_keep_5 rfl rfl (by decide) wX5_keep_k8 rfl dX5_keep_90 ?_
            refine V_iconst (pc := 93) (v := 1) C dX5_keep_93 rfl ?_
            refine V_iadd (pc := 94) C dX5_keep_94 ?_
            refine V_put (pc := 95) (ws' := wOff Y a (up (up q 7 ((q 7) + (1 : Int32))) 10 ((q 10) + (1 : Int32))) pg gS gU rd oft_22 S (up U 3 (p2, onx2_75, ofx2_75))) C 0 5 10 hiX5_keep_5 tyX5_ok nmX5 rfl rfl (by decide) wX5_keep_k8 rfl rfl rfl (Nat.le_of_ble_eq_true rfl) dX5_keep_95 rfl ?_
            refine V_aload_n (pc := 98) C dX5_keep_98 rfl 1 rfl ?_
            refine V_get (pc := 99) (v := .int ((q 7) + (1 : Int32))) C 0 5 7 hiX5_keep_5 rfl rfl (by decide) wX5_keep_k3 rfl dX5_keep_99 ?_
            refine V_iconst (pc := 102) (v := 1) C dX5_keep_102 rfl ?_
            refine V_isub (pc := 103) C dX5_keep_103 ?_
            cases h
            subst hQ
            exact V_iretW C dX5_keep_104
          replace h := t_neg e57 h
          cases h
        · replace h := t_neg c43 h
          refine V_ldc (pc := 46) (v := -1000005) C dX5_keep_46 wX5_keep_k9 ?_
          cases h
          subst hQ
          exact V_iretW C dX5_keep_48
      · replace h := t_pos c32 h
        refine V_ldc (pc := 35) (v := -1000004) C dX5_keep_35 wX5_keep_k10 ?_
        cases h
        subst hQ
        exact V_iretW C dX5_keep_37
    · replace h := t_pos c13 h
      refine V_ldc (pc := 16) (v := -1000003) C dX5_keep_16 wX5_keep_k0 ?_
      cases h
      subst hQ
      exact V_iretW C dX5_keep_18
def X5_count (a : Nat → Nat) (q : Nat → Int32) (pg : Nat → Int32) (gS : Nat → Option Nat) (gU : Nat → Option Nat) (rd : RdT) (ft : FtT) (S : Nat → StT) (U : Nat → UnT) (p0 : Int32) : Option (Int32) :=
  if p0 = 0 then (some (q 6)) else (if p0 = 1 then (some (q 7)) else (if p0 = 2 then (some (q 5)) else (if p0 = 3 then (some (q 8)) else (if p0 = 4 then (some (q 9)) else (if p0 = 5 then (some (q 10)) else (some (-1000003 : Int32)))))))
theorem wX5_count_k0 : Cond.constant RX5 41 (-1000003) ∈ wsX5_count := by decide +kernel
theorem wX5_count_k1 : Cond.fieldLink RX5 176 (TX5 10).1 (TX5 10).2.1 (TX5 10).2.2.1 ∈ wsX5_count := by decide +kernel
theorem hiX5_count_5 : ∀ w ∈ u_ws RX5 TX5 11, w ∈ wsX5_count := fun _ h => List.mem_cons_of_mem _ (List.mem_append_right _ h)
theorem wX5_count_k3 : Cond.fieldLink RX5 182 (TX5 9).1 (TX5 9).2.1 (TX5 9).2.2.1 ∈ wsX5_count := by decide +kernel
theorem wX5_count_k4 : Cond.fieldLink RX5 66 (TX5 8).1 (TX5 8).2.1 (TX5 8).2.2.1 ∈ wsX5_count := by decide +kernel
theorem wX5_count_k5 : Cond.fieldLink RX5 42 (TX5 5).1 (TX5 5).2.1 (TX5 5).2.2.1 ∈ wsX5_count := by decide +kernel
theorem wX5_count_k6 : Cond.fieldLink RX5 169 (TX5 7).1 (TX5 7).2.1 (TX5 7).2.2.1 ∈ wsX5_count := by decide +kernel
theorem wX5_count_k7 : Cond.fieldLink RX5 179 (TX5 6).1 (TX5 6).2.1 (TX5 6).2.2.1 ∈ wsX5_count := by decide +kernel
theorem hdX5_count : yX5_count.cls ≠ "java/lang/invoke/MethodHandle" ∧ yX5_count.cls ≠ "java/lang/invoke/VarHandle" ∧ (parseMethodDescriptor yX5_count.desc).map (fun d => d.parameters.length) = some 1 := by decide +kernel
set_option maxHeartbeats 4000000 in
set_option maxRecDepth 100000 in
theorem X5_count_ok {l : Launch} {D : va_G} {Y : Nat → ClassId}  {a : Nat → Nat} {q : Nat → Int32} {pg : Nat → Int32} {gS : Nat → Option Nat} {gU : Nat → Option Nat} {rd : RdT} {ft : FtT} {S : Nat → StT} {U : Nat → UnT} {p0 : Int32} {r : Int32} (h : X5_count a q pg gS gU rd ft S U p0 = some r) : MR l yX5_count wsX5_count 0 0 D Y [.ref (a 0), .int p0] (wOff Y a q pg gS gU rd ft S U) (some (.int r)) := by
  refine MR_of (cc := cX5_count) (nL := 2) (ret := some .int) (lv0 := [(0, .ref (a 0)), (1, .int p0)]) (by decide) rfl (Nat.le_of_ble_eq_true rfl) rfl (fun X Q C hQ => ?_)
  unfold X5_count at h
  refine V_iload_n (pc := 0) C dX5_count_0 rfl 1 rfl ?_
  by_cases e1_0 : p0 = 0
  · replace h := t_pos e1_0 h
    refine V_top (congrArg Value.int e1_0) ?_
    refine V_tableIn (pc := 1) C 40 dX5_count_1 (by decide) (by decide) rfl rfl ?_
    refine V_aload_n (pc := 40) C dX5_count_40 rfl 0 rfl ?_
    refine V_get (pc := 41) (v := .int (q 6)) C 0 5 6 hiX5_count_5 rfl rfl (by decide) wX5_count_k7 rfl dX5_count_41 ?_
    cases h
    subst hQ
    exact V_iretR C dX5_count_44
  replace h := t_neg e1_0 h
  by_cases e1_1 : p0 = 1
  · replace h := t_pos e1_1 h
    refine V_top (congrArg Value.int e1_1) ?_
    refine V_tableIn (pc := 1) C 45 dX5_count_1 (by decide) (by decide) rfl rfl ?_
    refine V_aload_n (pc := 45) C dX5_count_45 rfl 0 rfl ?_
    refine V_get (pc := 46) (v := .int (q 7)) C 0 5 7 hiX5_count_5 rfl rfl (by decide) wX5_count_k6 rfl dX5_count_46 ?_
    cases h
    subst hQ
    exact V_iretR C dX5_count_49
  replace h := t_neg e1_1 h
  by_cases e1_2 : p0 = 2
  · replace h := t_pos e1_2 h
    refine V_top (congrArg Value.int e1_2) ?_
    refine V_tableIn (pc := 1) C 50 dX5_count_1 (by decide) (by decide) rfl rfl ?_
    refine V_aload_n (pc := 50) C dX5_count_50 rfl 0 rfl ?_
    refine V_get (pc := 51) (v := .int (q 5)) C 0 5 5 hiX5_count_5 rfl rfl (by decide) wX5_count_k5 rfl dX5_count_51 ?_
    cases h
    subst hQ
    exact V_iretR C dX5_count_54
  replace h := t_neg e1_2 h
  by_cases e1_3 : p0 = 3
  · replace h := t_pos e1_3 h
    refine V_top (congrArg Value.int e1_3) ?_
    refine V_tableIn (pc := 1) C 55 dX5_count_1 (by decide) (by decide) rfl rfl ?_
    refine V_aload_n (pc := 55) C dX5_count_55 rfl 0 rfl ?_
    refine V_get (pc := 56) (v := .int (q 8)) C 0 5 8 hiX5_count_5 rfl rfl (by decide) wX5_count_k4 rfl dX5_count_56 ?_
    cases h
    subst hQ
    exact V_iretR C dX5_count_59
  replace h := t_neg e1_3 h
  by_cases e1_4 : p0 = 4
  · replace h := t_pos e1_4 h
    refine V_top (congrArg Value.int e1_4) ?_
    refine V_tableIn (pc := 1) C 60 dX5_count_1 (by decide) (by decide) rfl rfl ?_
    refine V_aload_n (pc := 60) C dX5_count_60 rfl 0 rfl ?_
    refine V_get (pc := 61) (v := .int (q 9)) C 0 5 9 hiX5_count_5 rfl rfl (by decide) wX5_count_k3 rfl dX5_count_61 ?_
    cases h
    subst hQ
    exact V_iretR C dX5_count_64
  replace h := t_neg e1_4 h
  by_cases e1_5 : p0 = 5
  · replace h := t_pos e1_5 h
    refine V_top (congrArg Value.int e1_5) ?_
    refine V_tableIn (pc := 1) C 65 dX5_count_1 (by decide) (by decide) rfl rfl ?_
    refine V_aload_n (pc := 65) C dX5_count_65 rfl 0 rfl ?_
    refine V_get (pc := 66) (v := .int (q 10)) C 0 5 10 hiX5_count_5 rfl rfl (by decide) wX5_count_k1 rfl dX5_count_66 ?_
    cases h
    subst hQ
    exact V_iretR C dX5_count_69
  replace h := t_neg e1_5 h
  have e1 : Int32.toInt p0 < 0 ∨ 5 < Int32.toInt p0 := by have n0 := lv_neT (a := 0) e1_0 rfl; have n1 := lv_neT (a := 1) e1_1 rfl; have n2 := lv_neT (a := 2) e1_2 rfl; have n3 := lv_neT (a := 3) e1_3 rfl; have n4 := lv_neT (a := 4) e1_4 rfl; have n5 := lv_neT (a := 5) e1_5 rfl; omega
  refine V_tableOut (pc := 1) C 70 dX5_count_1 e1 rfl ?_
  refine V_ldc (pc := 70) (v := -1000003) C dX5_count_70 wX5_count_k0 ?_
  cases h
  subst hQ
  exact V_iretR C dX5_count_72
