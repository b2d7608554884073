def X0_begin (rd : Nat → Int64) (rr : Nat → Int64) (mx : Nat → Int64) (ab : Nat → Int64) (pr : Nat → Int64) (be : Int64) (rs : Int64) (sz : Int32) (p0 : Int32) : Option ((Nat → Int64) × (Nat → Int64) × Int64 × Int32) :=
  wh3 (fun self20 (x2_20 : Int32) (mrd_20 : Nat → Int64) (mrr_20 : Nat → Int64) =>
  if (4 : Int32) ≤ x2_20 then (some (mrd_20, mrr_20, (0 : Int64), (if (0 : Int32) < (if (4 : Int32) < p0 then (4 : Int32) else p0) then (if (4 : Int32) < p0 then (4 : Int32) else p0) else (0 : Int32)))) else (chk (inB x2_20 4) (chk (inB x2_20 4) (self20 (x2_20 + 1) (vp_updL mrd_20 (Int32.toNatClampNeg x2_20) (0 : Int64)) (vp_updL mrr_20 (Int32.toNatClampNeg x2_20) (0 : Int64)))))) 200 (0 : Int32) rd rr
theorem wX0_begin_k0 : Cond.methodLink RX0 31 Lib.Math.min.name ∈ wsX0_begin := by decide +kernel
theorem wX0_begin_k1 : Cond.static Lib.Math.min.name ∈ wsX0_begin := by decide +kernel
theorem wX0_begin_k2 : Cond.initialized "java/lang/Math" ∈ wsX0_begin := by decide +kernel
theorem wX0_begin_k3 : Cond.code Lib.Math.min.name Lib.Math.min.code 2 (some .int) ∈ wsX0_begin := by decide +kernel
theorem wX0_begin_k4 : Cond.methodLink RX0 37 Lib.Math.max.name ∈ wsX0_begin := by decide +kernel
theorem wX0_begin_k5 : Cond.static Lib.Math.max.name ∈ wsX0_begin := by decide +kernel
theorem wX0_begin_k6 : Cond.code Lib.Math.max.name Lib.Math.max.code 2 (some .int) ∈ wsX0_begin := by decide +kernel
theorem wX0_begin_k7 : Cond.fieldLink RX0 40 (TX0 7).1 (TX0 7).2.1 (TX0 7).2.2.1 ∈ wsX0_begin := by decide +kernel
theorem hiX0_begin_0 : ∀ w ∈ u_ws RX0 TX0 8, w ∈ wsX0_begin := fun _ h => List.mem_cons_of_mem _ (List.mem_append_right _ h)
theorem wX0_begin_k9 : Cond.fieldLink RX0 44 (TX0 6).1 (TX0 6).2.1 (TX0 6).2.2.1 ∈ wsX0_begin := by decide +kernel
theorem wX0_begin_k10 : Cond.fieldLink RX0 9 (TX0 0).1 (TX0 0).2.1 (TX0 0).2.2.1 ∈ wsX0_begin := by decide +kernel
theorem wX0_begin_k11 : Cond.fieldLink RX0 15 (TX0 1).1 (TX0 1).2.1 (TX0 1).2.2.1 ∈ wsX0_begin := by decide +kernel
theorem hdX0_begin : yX0_begin.cls ≠ "java/lang/invoke/MethodHandle" ∧ yX0_begin.cls ≠ "java/lang/invoke/VarHandle" ∧ (parseMethodDescriptor yX0_begin.desc).map (fun d => d.parameters.length) = some 1 := by decide +kernel
set_option maxHeartbeats 4000000 in
set_option maxRecDepth 100000 in
theorem X0_begin_ok {l : Launch} {D : va_G} {Y : Nat → ClassId} {a : Nat → Nat} {rd : Nat → Int64} {rr : Nat → Int64} {mx : Nat → Int64} {ab : Nat → Int64} {pr : Nat → Int64} {be : Int64} {rs : Int64} {sz : Int32} {p0 : Int32} {urd : Nat → Int64} {urr : Nat → Int64} {urs : Int64} {usz : Int32} (h : X0_begin rd rr mx ab pr be rs sz p0 = some (urd, urr, urs, usz)) : MW l yX0_begin wsX0_begin 1 21 D Y [.ref (a 0), .int p0] (wFit Y a rd rr mx ab pr be rs sz) (wFit Y a urd urr mx ab pr be urs usz) none := by
  refine MW_of (cc := cX0_begin) (nL := 3) (ret := none) (lv0 := [(0, .ref (a 0)), (1, .int p0)]) (by decide) rfl (Nat.le_of_ble_eq_true rfl) rfl rfl (fun X Af Q C hA hQ => ?_)
  unfold X0_begin at h
  refine V_aload_n (pc := 0) C dX0_begin_0 rfl 0 rfl ?_
  refine V_iconst (pc := 1) (v := 0) C dX0_begin_1 rfl ?_
  refine V_iload_n (pc := 2) C dX0_begin_2 rfl 1 rfl ?_
  refine V_iconst (pc := 3) (v := 4) C dX0_begin_3 rfl ?_
  refine V_mmin (pc := 4) C wX0_begin_k0 wX0_begin_k1 wX0_begin_k2 wX0_begin_k3 (Nat.le_of_ble_eq_true rfl) (Nat.le_of_ble_eq_true rfl) ⟨Nat.le_refl _, Nat.le_refl _⟩ dX0_begin_4 ?_
  refine V_mmax (pc := 7) C wX0_begin_k4 wX0_begin_k5 wX0_begin_k2 wX0_begin_k6 (Nat.le_of_ble_eq_true rfl) (Nat.le_of_ble_eq_true rfl) ⟨Nat.le_refl _, Nat.le_refl _⟩ dX0_begin_7 ?_
  refine V_put (pc := 10) (ws' := wFit Y a rd rr mx ab pr be rs (if (0 : Int32) < (if (4 : Int32) < p0 then (4 : Int32) else p0) then (if (4 : Int32) < p0 then (4 : Int32) else p0) else (0 : Int32))) C 0 0 7 hiX0_begin_0 tyX0_ok nmX0 rfl rfl (by decide) wX0_begin_k7 rfl rfl rfl (Nat.le_of_ble_eq_true rfl) dX0_begin_10 rfl ?_
  refine V_aload_n (pc := 13) C dX0_begin_13 rfl 0 rfl ?_
  refine V_lconst (pc := 14) (v := 0) C dX0_begin_14 rfl ?_
  refine V_put (pc := 15) (ws' := wFit Y a rd rr mx ab pr be (0 : Int64) (if (0 : Int32) < (if (4 : Int32) < p0 then (4 : Int32) else p0) then (if (4 : Int32) < p0 then (4 : Int32) else p0) else (0 : Int32))) C 0 0 6 hiX0_begin_0 tyX0_ok nmX0 rfl rfl (by decide) wX0_begin_k9 rfl rfl rfl (Nat.le_of_ble_eq_true rfl) dX0_begin_15 rfl ?_
  refine V_iconst (pc := 18) (v := 0) C dX0_begin_18 rfl ?_
  refine V_istore_n (pc := 19) (lv' := [(2, .int (0 : Int32)), (0, .ref (a 0)), (1, .int p0)]) C dX0_begin_19 rfl (Nat.le_of_ble_eq_true rfl) rfl ?_
  refine V_sub [1, 0] rfl (wh3_ok (P := (fun (x2_20 : Int32) (mrd_20 : Nat → Int64) (mrr_20 : Nat → Int64) => VW X D 3 Q (KM Af X) (0, 0) (wFit Y a mrd_20 mrr_20 mx ab pr be (0 : Int64) (if (0 : Int32) < (if (4 : Int32) < p0 then (4 : Int32) else p0) then (if (4 : Int32) < p0 then (4 : Int32) else p0) else (0 : Int32))) [(0, .ref (a 0)), (2, .int x2_20)] 20 [])) (fun self20 ih20 x2_20 mrd_20 mrr_20 h => ?_) 200 _ _ _ h)
  refine V_iload_n (pc := 20) C dX0_begin_20 rfl 1 rfl ?_
  refine V_iconst (pc := 21) (v := 4) C dX0_begin_21 rfl ?_
  refine V_icmp_ge (pc := 22) C 45 dX0_begin_22 rfl (fun c22 => ?_) (fun c22 => ?_)
  · replace h := t_pos c22 h
    cases h
    subst hQ
    exact V_vretW C dX0_begin_45
  · replace h := t_neg c22 h
    refine V_aload_n (pc := 25) C dX0_begin_25 rfl 0 rfl ?_
    refine V_get (pc := 26) (v := .ref (a 1)) C 0 0 0 hiX0_begin_0 rfl rfl (by decide) wX0_begin_k10 rfl dX0_begin_26 ?_
    refine V_iload_n (pc := 29) C dX0_begin_29 rfl 1 rfl ?_
    refine V_lconst (pc := 30) (v := 0) C dX0_begin_30 rfl ?_
    obtain ⟨b31, h⟩ := chk_some h
    refine V_last (pc := 31) (ws' := wFit Y a (vp_updL mrd_20 (Int32.toNatClampNeg x2_20) (0 : Int64)) mrr_20 mx ab pr be (0 : Int64) (if (0 : Int32) < (if (4 : Int32) < p0 then (4 : Int32) else p0) then (if (4 : Int32) < p0 then (4 : Int32) else p0) else (0 : Int32))) C 1 rfl b31 dX0_begin_31 rfl ?_
    refine V_aload_n (pc := 32) C dX0_begin_32 rfl 0 rfl ?_
    refine V_get (pc := 33) (v := .ref (a 2)) C 0 0 1 hiX0_begin_0 rfl rfl (by decide) wX0_begin_k11 rfl dX0_begin_33 ?_
    refine V_iload_n (pc := 36) C dX0_begin_36 rfl 1 rfl ?_
    refine V_lconst (pc := 37) (v := 0) C dX0_begin_37 rfl ?_
    obtain ⟨b38, h⟩ := chk_some h
    refine V_last (pc := 38) (ws' := wFit Y a (vp_updL mrd_20 (Int32.toNatClampNeg x2_20) (0 : Int64)) (vp_updL mrr_20 (Int32.toNatClampNeg x2_20) (0 : Int64)) mx ab pr be (0 : Int64) (if (0 : Int32) < (if (4 : Int32) < p0 then (4 : Int32) else p0) then (if (4 : Int32) < p0 then (4 : Int32) else p0) else (0 : Int32))) C 2 rfl b38 dX0_begin_38 rfl ?_
    refine V_iinc (pc := 39) (v := (x2_20 + 1)) (lv' := [(2, .int (x2_20 + 1)), (0, .ref (a 0))]) C dX0_begin_39 1 rfl rfl (Nat.le_of_ble_eq_true rfl) rfl ?_
    refine V_goto (pc := 42) C 20 dX0_begin_42 rfl ?_
    exact V_sub [1, 0] rfl (ih20 _ _ _ h)
def X0_add (rd : Nat → Int64) (rr : Nat → Int64) (mx : Nat → Int64) (ab : Nat → Int64) (pr : Nat → Int64) (be : Int64) (rs : Int64) (sz : Int32) (n1x2 : Int32) (f1x2 : Nat → Int32) (n2x2 : Int32) (f2x2 : Nat → Int32) (n3x2 : Int32) (f3x2 : Nat → Int32) (evx2 : Int32) : Option ((Nat → Int64) × (Nat → Int64) × Int64) :=
  jn1 (fun (mrs_41 : Int64) => wh3 (fun self43 (x2_43 : Int32) (mrd_43 : Nat → Int64) (mrr_43 : Nat → Int64) =>
  if (4 : Int32) ≤ x2_43 then (some (mrd_43, mrr_43, mrs_41)) else (jn2 (fun (mrd_119 : Nat → Int64) (mrr_119 : Nat → Int64) => self43 (x2_43 + 1) mrd_119 mrr_119) fun J119 =>
  wh3 (fun self50 (x3_50 : Int32) (mrd_50 : Nat → Int64) (mrr_50 : Nat → Int64) =>
  if (3 : Int32) ≤ x3_50 then (J119 mrd_50 mrr_50) else (chk (inB x2_43 4) (ob1 (X2_at n1x2 f1x2 x3_50) fun r67 =>
  ob1 (X2_at n1x2 f1x2 (x3_50 + x2_43)) fun r77 =>
  chk (inB x2_43 4) (chk (inB x2_43 4) (ob1 (X2_at n1x2 f1x2 x3_50) fun r96 =>
  ob1 (X2_at n2x2 f2x2 (x3_50 + x2_43)) fun r106 =>
  chk (inB x2_43 4) (self50 (x3_50 + 1) (vp_updL mrd_50 (Int32.toNatClampNeg x2_43) ((mrd_50 (Int32.toNatClampNeg x2_43)) + (Int32.toInt64 (r67 * r77)))) (vp_updL mrr_50 (Int32.toNatClampNeg x2_43) ((mrr_50 (Int32.toNatClampNeg x2_43)) + (Int32.toInt64 (r96 * r106)))))))))) 200 (0 : Int32) mrd_43 mrr_43)) 200 (0 : Int32) rd rr) fun J41 =>
  wh2 (fun self2 (x2_2 : Int32) (mrs_2 : Int64) =>
  if (8 : Int32) ≤ x2_2 then (J41 mrs_2) else (ob1 (X2_at n2x2 f2x2 x2_2) fun r18 =>
  ob1 (X2_at n2x2 f2x2 x2_2) fun r26 =>
  self2 (x2_2 + 1) (mrs_2 + (Int32.toInt64 (r18 * r26))))) 200 (0 : Int32) rs
theorem wX0_add_k0 : Cond.fieldLink RX0 9 (TX0 0).1 (TX0 0).2.1 (TX0 0).2.2.1 ∈ wsX0_add := by decide +kernel
theorem hiX0_add_0 : ∀ w ∈ u_ws RX0 TX0 8, w ∈ wsX0_add := fun _ h => List.mem_cons_of_mem _ (List.mem_append_left _ (List.mem_append_left _ (List.mem_append_right _ h)))
theorem wX0_add_k2 : Cond.fieldLink RX0 59 (TX3 0).1 (TX3 0).2.1 (TX3 0).2.2.1 ∈ wsX0_add := by decide +kernel
theorem hiX0_add_3 : ∀ w ∈ u_ws RX3 TX3 4, w ∈ wsX0_add := fun _ h => List.mem_cons_of_mem _ (List.mem_append_left _ (List.mem_append_right _ h))
theorem wX0_add_k4 : Cond.fieldLink RX0 15 (TX0 1).1 (TX0 1).2.1 (TX0 1).2.2.1 ∈ wsX0_add := by decide +kernel
theorem wX0_add_k5 : Cond.fieldLink RX0 47 (TX3 1).1 (TX3 1).2.1 (TX3 1).2.2.1 ∈ wsX0_add := by decide +kernel
theorem wX0_add_k6 : Cond.fieldLink RX0 44 (TX0 6).1 (TX0 6).2.1 (TX0 6).2.2.1 ∈ wsX0_add := by decide +kernel
theorem hdX0_add : yX0_add.cls ≠ "java/lang/invoke/MethodHandle" ∧ yX0_add.cls ≠ "java/lang/invoke/VarHandle" ∧ (parseMethodDescriptor yX0_add.desc).map (fun d => d.parameters.length) = some 1 := by decide +kernel
set_option maxHeartbeats 4000000 in
set_option maxRecDepth 100000 in
theorem X0_add_ok {l : Launch} {D : va_G} {Y : Nat → ClassId} {a : Nat → Nat} {ax2 : Nat → Nat} {rd : Nat → Int64} {rr : Nat → Int64} {mx : Nat → Int64} {ab : Nat → Int64} {pr : Nat → Int64} {be : Int64} {rs : Int64} {sz : Int32} {n1x2 : Int32} {f1x2 : Nat → Int32} {n2x2 : Int32} {f2x2 : Nat → Int32} {n3x2 : Int32} {f3x2 : Nat → Int32} {evx2 : Int32} {urd : Nat → Int64} {urr : Nat → Int64} {urs : Int64} (h : X0_add rd rr mx ab pr be rs sz n1x2 f1x2 n2x2 f2x2 n3x2 f3x2 evx2 = some (urd, urr, urs)) : MW l yX0_add wsX0_add 1 21 D Y [.ref (a 0), .ref (ax2 0)] (wFit Y a rd rr mx ab pr be rs sz ++ wStorm Y ax2 n1x2 f1x2 n2x2 f2x2 n3x2 f3x2 evx2) (wFit Y a urd urr mx ab pr be urs sz ++ wStorm Y ax2 n1x2 f1x2 n2x2 f2x2 n3x2 f3x2 evx2) none := by
  refine MW_of (cc := cX0_add) (nL := 4) (ret := none) (lv0 := [(0, .ref (a 0)), (1, .ref (ax2 0))]) (by decide) rfl (Nat.le_of_ble_eq_true rfl) rfl rfl (fun X Af Q C hA hQ => ?_)
  unfold X0_add at h
  refine V_iconst (pc := 0) (v := 0) C dX0_add_0 rfl ?_
  refine V_istore_n (pc := 1) (lv' := [(2, .int (0 : Int32)), (0, .ref (a 0)), (1, .ref (ax2 0))]) C dX0_add_1 rfl (Nat.le_of_ble_eq_true rfl) rfl ?_
  refine jn1_ok (P := (fun (mrs_41 : Int64) => VW X D 4 Q (KM Af X) (0, 0) (wFit Y a rd rr mx ab pr be mrs_41 sz ++ wStorm Y ax2 n1x2 f1x2 n2x2 f2x2 n3x2 f3x2 evx2) [(0, .ref (a 0)), (1, .ref (ax2 0))] 41 [])) (fun mrs_41 h => ?_) (fun J41 hJ41 h => ?_) h
  · refine V_iconst (pc := 41) (v := 0) C dX0_add_41 rfl ?_
    refine V_istore_n (pc := 42) (lv' := [(2, .int (0 : Int32)), (0, .ref (a 0)), (1, .ref (ax2 0))]) C dX0_add_42 rfl (Nat.le_of_ble_eq_true rfl) rfl ?_
    refine V_sub [1, 2, 0] rfl (wh3_ok (P := (fun (x2_43 : Int32) (mrd_43 : Nat → Int64) (mrr_43 : Nat → Int64) => VW X D 4 Q (KM Af X) (0, 0) (wFit Y a mrd_43 mrr_43 mx ab pr be mrs_41 sz ++ wStorm Y ax2 n1x2 f1x2 n2x2 f2x2 n3x2 f3x2 evx2) [(0, .ref (a 0)), (1, .ref (ax2 0)), (2, .int x2_43)] 43 [])) (fun self43 ih43 x2_43 mrd_43 mrr_43 h => ?_) 200 _ _ _ h)
    refine V_iload_n (pc := 43) C dX0_add_43 rfl 2 rfl ?_
    refine V_iconst (pc := 44) (v := 4) C dX0_add_44 rfl ?_
    refine V_icmp_ge (pc := 45) C 125 dX0_add_45 rfl (fun c45 => ?_) (fun c45 => ?_)
    · replace h := t_pos c45 h
      cases h
      subst hQ
      exact V_vretW C dX0_add_125
    · replace h := t_neg c45 h
      refine V_iconst (pc := 48) (v := 0) C dX0_add_48 rfl ?_
      refine V_istore_n (pc := 49) (lv' := [(3, .int (0 : Int32)), (0, .ref (a 0)), (1, .ref (ax2 0)), (2, .int x2_43)]) C dX0_add_49 rfl (Nat.le_of_ble_eq_true rfl) rfl ?_
      refine jn2_ok (P := (fun (mrd_119 : Nat → Int64) (mrr_119 : Nat → Int64) => VW X D 4 Q (KM Af X) (0, 0) (wFit Y a mrd_119 mrr_119 mx ab pr be mrs_41 sz ++ wStorm Y ax2 n1x2 f1x2 n2x2 f2x2 n3x2 f3x2 evx2) [(0, .ref (a 0)), (1, .ref (ax2 0)), (2, .int x2_43)] 119 [])) (fun mrd_119 mrr_119 h => ?_) (fun J119 hJ119 h => ?_) h
      · refine V_iinc (pc := 119) (v := (x2_43 + 1)) (lv' := [(2, .int (x2_43 + 1)), (0, .ref (a 0)), (1, .ref (ax2 0))]) C dX0_add_119 2 rfl rfl (Nat.le_of_ble_eq_true rfl) rfl ?_
        refine V_goto (pc := 122) C 43 dX0_add_122 rfl ?_
        exact V_sub [1, 2, 0] rfl (ih43 _ _ _ h)
      refine V_sub [1, 2, 3, 0] rfl (wh3_ok (P := (fun (x3_50 : Int32) (mrd_50 : Nat → Int64) (mrr_50 : Nat → Int64) => VW X D 4 Q (KM Af X) (0, 0) (wFit Y a mrd_50 mrr_50 mx ab pr be mrs_41 sz ++ wStorm Y ax2 n1x2 f1x2 n2x2 f2x2 n3x2 f3x2 evx2) [(0, .ref (a 0)), (1, .ref (ax2 0)), (2, .int x2_43), (3, .int x3_50)] 50 [])) (fun self50 ih50 x3_50 mrd_50 mrr_50 h => ?_) 200 _ _ _ h)
      refine V_iload_n (pc := 50) C dX0_add_50 rfl 3 rfl ?_
      refine V_iconst (pc := 51) (v := 3) C dX0_add_51 rfl ?_
      refine V_icmp_ge (pc := 52) C 119 dX0_add_52 rfl (fun c52 => ?_) (fun c52 => ?_)
      · replace h := t_pos c52 h
        exact V_sub [0, 1, 2] rfl (hJ119 _ _ h)
      · replace h := t_neg c52 h
        refine V_aload_n (pc := 55) C dX0_add_55 rfl 0 rfl ?_
        refine V_get (pc := 56) (v := .ref (a 1)) C 0 0 0 hiX0_add_0 rfl rfl (by decide) wX0_add_k0 rfl dX0_add_56 ?_
        refine V_iload_n (pc := 59) C dX0_add_59 rfl 2 rfl ?_
        refine V_dup2 (pc := 60) C dX0_add_60 rfl rfl ?_
        obtain ⟨b61, h⟩ := chk_some h
        refine V_lald (pc := 61) C 1 rfl b61 dX0_add_61 ?_
        refine V_aload_n (pc := 62) C dX0_add_62 rfl 1 rfl ?_
        refine V_get (pc := 63) (v := .ref (ax2 1)) C 6 3 0 hiX0_add_3 rfl rfl (by decide) wX0_add_k2 rfl dX0_add_63 ?_
        refine V_iload_n (pc := 66) C dX0_add_66 rfl 3 rfl ?_
        obtain ⟨r67, hq, h⟩ := ob1_some h
        refine V_callVR (pc := 67) (rest := [.long (mrd_50 (Int32.toNatClampNeg x2_43)), .int x2_43, .ref (a 1)]) (st2 := [.int r67, .long (mrd_50 (Int32.toNatClampNeg x2_43)), .int x2_43, .ref (a 1)]) C (X2_at_ok (a := (ax2 1)) (b := (ax2 2)) hq) gX0_add_X2_at rfl ⟨rfl, hdX2_at⟩ ⟨Nat.le_of_ble_eq_true rfl, Nat.le_of_ble_eq_true rfl⟩ ⟨Nat.le_refl _, Nat.le_refl _⟩ [7, 8] rfl 7 2 rfl rfl rfl (Nat.le_of_ble_eq_true rfl) dX0_add_67 rfl ?_
        refine V_aload_n (pc := 70) C dX0_add_70 rfl 1 rfl ?_
        refine V_get (pc := 71) (v := .ref (ax2 1)) C 6 3 0 hiX0_add_3 rfl rfl (by decide) wX0_add_k2 rfl dX0_add_71 ?_
        refine V_iload_n (pc := 74) C dX0_add_74 rfl 3 rfl ?_
        refine V_iload_n (pc := 75) C dX0_add_75 rfl 2 rfl ?_
        refine V_iadd (pc := 76) C dX0_add_76 ?_
        obtain ⟨r77, hq, h⟩ := ob1_some h
        refine V_callVR (pc := 77) (rest := [.int r67, .long (mrd_50 (Int32.toNatClampNeg x2_43)), .int x2_43, .ref (a 1)]) (st2 := [.int r77, .int r67, .long (mrd_50 (Int32.toNatClampNeg x2_43)), .int x2_43, .ref (a 1)]) C (X2_at_ok (a := (ax2 1)) (b := (ax2 2)) hq) gX0_add_X2_at rfl ⟨rfl, hdX2_at⟩ ⟨Nat.le_of_ble_eq_true rfl, Nat.le_of_ble_eq_true rfl⟩ ⟨Nat.le_refl _, Nat.le_refl _⟩ [7, 8] rfl 7 2 rfl rfl rfl (Nat.le_of_ble_eq_true rfl) dX0_add_77 rfl ?_
        refine V_imul (pc := 80) C dX0_add_80 ?_
        refine V_i2l (pc := 81) C dX0_add_81 ?_
        refine V_ladd (pc := 82) C dX0_add_82 ?_
        obtain ⟨b83, h⟩ := chk_some h
        refine V_last (pc := 83) (ws' := wFit Y a (vp_updL mrd_50 (Int32.toNatClampNeg x2_43) ((mrd_50 (Int32.toNatClampNeg x2_43)) + (Int32.toInt64 (r67 * r77)))) mrr_50 mx ab pr be mrs_41 sz ++ wStorm Y ax2 n1x2 f1x2 n2x2 f2x2 n3x2 f3x2 evx2) C 1 rfl b83 dX0_add_83 rfl ?_
        refine V_aload_n (pc := 84) C dX0_add_84 rfl 0 rfl ?_
        refine V_get (pc := 85) (v := .ref (a 2)) C 0 0 1 hiX0_add_0 rfl rfl (by decide) wX0_add_k4 rfl dX0_add_85 ?_
        refine V_iload_n (pc := 88) C dX0_add_88 rfl 2 rfl ?_
        refine V_dup2 (pc := 89) C dX0_add_89 rfl rfl ?_
        obtain ⟨b90, h⟩ := chk_some h
        refine V_lald (pc := 90) C 2 rfl b90 dX0_add_90 ?_
        refine V_aload_n (pc := 91) C dX0_add_91 rfl 1 rfl ?_
        refine V_get (pc := 92) (v := .ref (ax2 1)) C 6 3 0 hiX0_add_3 rfl rfl (by decide) wX0_add_k2 rfl dX0_add_92 ?_
        refine V_iload_n (pc := 95) C dX0_add_95 rfl 3 rfl ?_
        obtain ⟨r96, hq, h⟩ := ob1_some h
        refine V_callVR (pc := 96) (rest := [.long (mrr_50 (Int32.toNatClampNeg x2_43)), .int x2_43, .ref (a 2)]) (st2 := [.int r96, .long (mrr_50 (Int32.toNatClampNeg x2_43)), .int x2_43, .ref (a 2)]) C (X2_at_ok (a := (ax2 1)) (b := (ax2 2)) hq) gX0_add_X2_at rfl ⟨rfl, hdX2_at⟩ ⟨Nat.le_of_ble_eq_true rfl, Nat.le_of_ble_eq_true rfl⟩ ⟨Nat.le_refl _, Nat.le_refl _⟩ [7, 8] rfl 7 2 rfl rfl rfl (Nat.le_of_ble_eq_true rfl) dX0_add_96 rfl ?_
        refine V_aload_n (pc := 99) C dX0_add_99 rfl 1 rfl ?_
        refine V_get (pc := 100) (v := .ref (ax2 3)) C 6 3 1 hiX0_add_3 rfl rfl (by decide) wX0_add_k5 rfl dX0_add_100 ?_
        refine V_iload_n (pc := 103) C dX0_add_103 rfl 3 rfl ?_
        refine V_iload_n (pc := 104) C dX0_add_104 rfl 2 rfl ?_
        refine V_iadd (pc := 105) C dX0_add_105 ?_
        obtain ⟨r106, hq, h⟩ := ob1_some h
        refine V_callVR (pc := 106) (rest := [.int r96, .long (mrr_50 (Int32.toNatClampNeg x2_43)), .int x2_43, .ref (a 2)]) (st2 := [.int r106, .int r96, .long (mrr_50 (Int32.toNatClampNeg x2_43)), .int x2_43, .ref (a 2)]) C (X2_at_ok (a := (ax2 3)) (b := (ax2 4)) hq) gX0_add_X2_at rfl ⟨rfl, hdX2_at⟩ ⟨Nat.le_of_ble_eq_true rfl, Nat.le_of_ble_eq_true rfl⟩ ⟨Nat.le_refl _, Nat.le_refl _⟩ [9, 10] rfl 9 2 rfl rfl rfl (Nat.le_of_ble_eq_true rfl) dX0_add_106 rfl ?_
        refine V_imul (pc := 109) C dX0_add_109 ?_
        refine V_i2l (pc := 110) C dX0_add_110 ?_
        refine V_ladd (pc := 111) C dX0_add_111 ?_
        obtain ⟨b112, h⟩ := chk_some h
        refine V_last (pc := 112) (ws' := wFit Y a (vp_updL mrd_50 (Int32.toNatClampNeg x2_43) ((mrd_50 (Int32.toNatClampNeg x2_43)) + (Int32.toInt64 (r67 * r77)))) (vp_updL mrr_50 (Int32.toNatClampNeg x2_43) ((mrr_50 (Int32.toNatClampNeg x2_43)) + (Int32.toInt64 (r96 * r106)))) mx ab pr be mrs_41 sz ++ wStorm Y ax2 n1x2 f1x2 n2x2 f2x2 n3x2 f3x2 evx2) C 2 rfl b112 dX0_add_112 rfl ?_
        refine V_iinc (pc := 113) (v := (x3_50 + 1)) (lv' := [(3, .int (x3_50 + 1)), (0, .ref (a 0)), (1, .ref (ax2 0)), (2, .int x2_43)]) C dX0_add_113 3 rfl rfl (Nat.le_of_ble_eq_true rfl) rfl ?_
        refine V_goto (pc := 116) C 50 dX0_add_116 rfl ?_
        exact V_sub [1, 2, 3, 0] rfl (ih50 _ _ _ h)
  refine V_sub [1, 2, 0] rfl (wh2_ok (P := (fun (x2_2 : Int32) (mrs_2 : Int64) => VW X D 4 Q (KM Af X) (0, 0) (wFit Y a rd rr mx ab pr be mrs_2 sz ++ wStorm Y ax2 n1x2 f1x2 n2x2 f2x2 n3x2 f3x2 evx2) [(0, .ref (a 0)), (1, .ref (ax2 0)), (2, .int x2_2)] 2 [])) (fun self2 ih2 x2_2 mrs_2 h => ?_) 200 _ _ h)
  refine V_iload_n (pc := 2) C dX0_add_2 rfl 2 rfl ?_
  refine V_bipush (pc := 3) (v := 8) C dX0_add_3 rfl ?_
  refine V_icmp_ge (pc := 5) C 41 dX0_add_5 rfl (fun c5 => ?_) (fun c5 => ?_)
  · replace h := t_pos c5 h
    exact V_sub [0, 1] rfl (hJ41 _ h)
  · replace h := t_neg c5 h
    refine V_aload_n (pc := 8) C dX0_add_8 rfl 0 rfl ?_
    refine V_dup (pc := 9) C dX0_add_9 rfl ?_
    refine V_get (pc := 10) (v := .long mrs_2) C 0 0 6 hiX0_add_0 rfl rfl (by decide) wX0_add_k6 rfl dX0_add_10 ?_
    refine V_aload_n (pc := 13) C dX0_add_13 rfl 1 rfl ?_
    refine V_get (pc := 14) (v := .ref (ax2 3)) C 6 3 1 hiX0_add_3 rfl rfl (by decide) wX0_add_k5 rfl dX0_add_14 ?_
    refine V_iload_n (pc := 17) C dX0_add_17 rfl 2 rfl ?_
    obtain ⟨r18, hq, h⟩ := ob1_some h
    refine V_callVR (pc := 18) (rest := [.long mrs_2, .ref (a 0)]) (st2 := [.int r18, .long mrs_2, .ref (a 0)]) C (X2_at_ok (a := (ax2 3)) (b := (ax2 4)) hq) gX0_add_X2_at rfl ⟨rfl, hdX2_at⟩ ⟨Nat.le_of_ble_eq_true rfl, Nat.le_of_ble_eq_true rfl⟩ ⟨Nat.le_refl _, Nat.le_refl _⟩ [9, 10] rfl 9 2 rfl rfl rfl (Nat.le_of_ble_eq_true rfl) dX0_add_18 rfl ?_
    refine V_aload_n (pc := 21) C dX0_add_21 rfl 1 rfl ?_
    refine V_get (pc := 22) (v := .ref (ax2 3)) C 6 3 1 hiX0_add_3 rfl rfl (by decide) wX0_add_k5 rfl dX0_add_22 ?_
    refine V_iload_n (pc := 25) C dX0_add_25 rfl 2 rfl ?_
    obtain ⟨r26, hq, h⟩ := ob1_some h
    refine V_callVR (pc := 26) (rest := [.int r18, .long mrs_2, .ref (a 0)]) (st2 := [.int r26, .int r18, .long mrs_2, .ref (a 0)]) C (X2_at_ok (a := (ax2 3)) (b := (ax2 4)) hq) gX0_add_X2_at rfl ⟨rfl, hdX2_at⟩ ⟨Nat.le_of_ble_eq_true rfl, Nat.le_of_ble_eq_true rfl⟩ ⟨Nat.le_refl _, Nat.le_refl _⟩ [9, 10] rfl 9 2 rfl rfl rfl (Nat.le_of_ble_eq_true rfl) dX0_add_26 rfl ?_
    refine V_imul (pc := 29) C dX0_add_29 ?_
    refine V_i2l (pc := 30) C dX0_add_30 ?_
    refine V_ladd (pc := 31) C dX0_add_31 ?_
    refine V_put (pc := 32) (ws' := wFit Y a rd rr mx ab pr be (mrs_2 + (Int32.toInt64 (r18 * r26))) sz ++ wStorm Y ax2 n1x2 f1x2 n2x2 f2x2 n3x2 f3x2 evx2) C 0 0 6 hiX0_add_0 tyX0_ok nmX0 rfl rfl (by decide) wX0_add_k6 rfl rfl rfl (Nat.le_of_ble_eq_true rfl) dX0_add_32 rfl ?_
    refine V_iinc (pc := 35) (v := (x2_2 + 1)) (lv' := [(2, .int (x2_2 + 1)), (0, .ref (a 0)), (1, .ref (ax2 0))]) C dX0_add_35 2 rfl rfl (Nat.le_of_ble_eq_true rfl) rfl ?_
    refine V_goto (pc := 38) C 2 dX0_add_38 rfl ?_
    exact V_sub [1, 2, 0] rfl (ih2 _ _ h)
def X0_minor (rd : Nat → Int64) (rr : Nat → Int64) (mx : Nat → Int64) (ab : Nat → Int64) (pr : Nat → Int64) (be : Int64) (rs : Int64) (sz : Int32) (p0 : Int32) (p1 : Int32) (p2 : Int32) : Option (Int64) :=
  chk (inB (p0 + p1) 16) (chk (inB ((p0 + (4 : Int32)) + p2) 16) (chk (inB (p0 + p2) 16) (chk (inB ((p0 + (4 : Int32)) + p1) 16) (some (((mx (Int32.toNatClampNeg (p0 + p1))) * (mx (Int32.toNatClampNeg ((p0 + (4 : Int32)) + p2)))) - ((mx (Int32.toNatClampNeg (p0 + p2))) * (mx (Int32.toNatClampNeg ((p0 + (4 : Int32)) + p1)))))))))
theorem wX0_minor_k0 : Cond.fieldLink RX0 18 (TX0 2).1 (TX0 2).2.1 (TX0 2).2.2.1 ∈ wsX0_minor := by decide +kernel
theorem hiX0_minor_0 : ∀ w ∈ u_ws RX0 TX0 8, w ∈ wsX0_minor := fun _ h => List.mem_cons_of_mem _ (List.mem_append_right _ h)
theorem hdX0_minor : yX0_minor.cls ≠ "java/lang/invoke/MethodHandle" ∧ yX0_minor.cls ≠ "java/lang/invoke/VarHandle" ∧ (parseMethodDescriptor yX0_minor.desc).map (fun d => d.parameters.length) = some 3 := by decide +kernel
set_option maxHeartbeats 4000000 in
set_option maxRecDepth 100000 in
theorem X0_minor_ok {l : Launch} {D : va_G} {Y : Nat → ClassId} {a : Nat → Nat} {rd : Nat → Int64} {rr : Nat → Int64} {mx : Nat → Int64} {ab : Nat → Int64} {pr : Nat → Int64} {be : Int64} {rs : Int64} {sz : Int32} {p0 : Int32} {p1 : Int32} {p2 : Int32} {r : Int64} (h : X0_minor rd rr mx ab pr be rs sz p0 p1 p2 = some r) : MR l yX0_minor wsX0_minor 0 0 D Y [.ref (a 0), .int p0, .int p1, .int p2] (wFit Y a rd rr mx ab pr be rs sz) (some (.long r)) := by
  refine MR_of (cc := cX0_minor) (nL := 4) (ret := some .long) (lv0 := [(0, .ref (a 0)), (1, .int p0), (2, .int p1), (3, .int p2)]) (by decide) rfl (Nat.le_of_ble_eq_true rfl) rfl (fun X Q C hQ => ?_)
  unfold X0_minor at h
  refine V_aload_n (pc := 0) C dX0_minor_0 rfl 0 rfl ?_
  refine V_get (pc := 1) (v := .ref (a 3)) C 0 0 2 hiX0_minor_0 rfl rfl (by decide) wX0_minor_k0 rfl dX0_minor_1 ?_
  refine V_iload_n (pc := 4) C dX0_minor_4 rfl 1 rfl ?_
  refine V_iload_n (pc := 5) C dX0_minor_5 rfl 2 rfl ?_
  refine V_iadd (pc := 6) C dX0_minor_6 ?_
  obtain ⟨b7, h⟩ := chk_some h
  refine V_lald (pc := 7) C 3 rfl b7 dX0_minor_7 ?_
  refine V_aload_n (pc := 8) C dX0_minor_8 rfl 0 rfl ?_
  refine V_get (pc := 9) (v := .ref (a 3)) C 0 0 2 hiX0_minor_0 rfl rfl (by decide) wX0_minor_k0 rfl dX0_minor_9 ?_
  refine V_iload_n (pc := 12) C dX0_minor_12 rfl 1 rfl ?_
  refine V_iconst (pc := 13) (v := 4) C dX0_minor_13 rfl ?_
  refine V_iadd (pc := 14) C dX0_minor_14 ?_
  refine V_iload_n (pc := 15) C dX0_minor_15 rfl 3 rfl ?_
  refine V_iadd (pc := 16) C dX0_minor_16 ?_
  obtain ⟨b17, h⟩ := chk_some h
  refine V_lald (pc := 17) C 3 rfl b17 dX0_minor_17 ?_
  refine V_lmul (pc := 18) C dX0_minor_18 ?_
  refine V_aload_n (pc := 19) C dX0_minor_19 rfl 0 rfl ?_
  refine V_get (pc := 20) (v := .ref (a 3)) C 0 0 2 hiX0_minor_0 rfl rfl (by decide) wX0_minor_k0 rfl dX0_minor_20 ?_
  refine V_iload_n (pc := 23) C dX0_minor_23 rfl 1 rfl ?_
  refine V_iload_n (pc := 24) C dX0_minor_24 rfl 3 rfl ?_
  refine V_iadd (pc := 25) C dX0_minor_25 ?_
  obtain ⟨b26, h⟩ := chk_some h
  refine V_lald (pc := 26) C 3 rfl b26 dX0_minor_26 ?_
  refine V_aload_n (pc := 27) C dX0_minor_27 rfl 0 rfl ?_
  refine V_get (pc := 28) (v := .ref (a 3)) C 0 0 2 hiX0_minor_0 rfl rfl (by decide) wX0_minor_k0 rfl dX0_minor_28 ?_
  refine V_iload_n (pc := 31) C dX0_minor_31 rfl 1 rfl ?_
  refine V_iconst (pc := 32) (v := 4) C dX0_minor_32 rfl ?_
  refine V_iadd (pc := 33) C dX0_minor_33 ?_
  refine V_iload_n (pc := 34) C dX0_minor_34 rfl 2 rfl ?_
  refine V_iadd (pc := 35) C dX0_minor_35 ?_
  obtain ⟨b36, h⟩ := chk_some h
  refine V_lald (pc := 36) C 3 rfl b36 dX0_minor_36 ?_
  refine V_lmul (pc := 37) C dX0_minor_37 ?_
  refine V_lsub (pc := 38) C dX0_minor_38 ?_
  cases h
  subst hQ
  exact V_lretR C dX0_minor_39
def X0_isFree (p0 : Int32) (p1 : Int32) : Option (Int32) :=
  if ((p0 >>> (p1 &&& 31)) &&& (1 : Int32)) = (1 : Int32) then (some (1 : Int32)) else (some (0 : Int32))
theorem hdX0_isFree : yX0_isFree.cls ≠ "java/lang/invoke/MethodHandle" ∧ yX0_isFree.cls ≠ "java/lang/invoke/VarHandle" ∧ (parseMethodDescriptor yX0_isFree.desc).map (fun d => d.parameters.length) = some 2 := by decide +kernel
set_option maxHeartbeats 4000000 in
set_option maxRecDepth 100000 in
theorem X0_isFree_ok {l : Launch} {D : va_G} {Y : Nat → ClassId}  {p0 : Int32} {p1 : Int32} {r : Int32} (h : X0_isFree p0 p1 = some r) : MR l yX0_isFree wsX0_isFree 0 0 D Y [.int p0, .int p1] ([]) (some (.int r)) := by
  refine MR_of (cc := cX0_isFree) (nL := 2) (ret := some .boolean) (lv0 := [(0, .int p0), (1, .int p1)]) (by decide) rfl (Nat.le_of_ble_eq_true rfl) rfl (fun X Q C hQ => ?_)
  unfold X0_isFree at h
  refine V_iload_n (pc := 0) C dX0_isFree_0 rfl 0 rfl ?_
  refine V_iload_n (pc := 1) C dX0_isFree_1 rfl 1 rfl ?_
  refine V_ishr (pc := 2) C dX0_isFree_2 ?_
  refine V_iconst (pc := 3) (v := 1) C dX0_isFree_3 rfl ?_
  refine V_iand (pc := 4) C dX0_isFree_4 ?_
  refine V_iconst (pc := 5) (v := 1) C dX0_isFree_5 rfl ?_
  refine V_icmp_ne (pc := 6) C 13 dX0_isFree_6 rfl (fun c6 => ?_) (fun c6 => ?_)
  · replace h := t_neg c6 h
    refine V_iconst (pc := 13) (v := 0) C dX0_isFree_13 rfl ?_
    cases h
    subst hQ
    exact V_zretR C (by decide) dX0_isFree_14
  · replace h := t_pos c6 h
    refine V_iconst (pc := 9) (v := 1) C dX0_isFree_9 rfl ?_
    refine V_goto (pc := 10) C 14 dX0_isFree_10 rfl ?_
    cases h
    subst hQ
    exact V_zretR C (by decide) dX0_isFree_14
def X0_entry (rd : Nat → Int64) (rr : Nat → Int64) (mx : Nat → Int64) (ab : Nat → Int64) (pr : Nat → Int64) (be : Int64) (rs : Int64) (sz : Int32) (p0 : Int32) (p1 : Int32) (p2 : Int32) (p3 : Int32) : Option (Int64) :=
  ob1 (X0_isFree p0 p1) fun r2 =>
  if p2 = p3 then (if r2 = 0 then (some (0 : Int64)) else (chk (inB p1 4) (some (rr (Int32.toNatClampNeg p1))))) else (jn0 (if p1 = p2 then (some (1 : Int64)) else (some (0 : Int64))) fun J54 =>
  if r2 = 0 then (J54) else (ob1 (X0_isFree p0 p2) fun r36 =>
  if r36 = 0 then (J54) else (chk (inB (if 0 ≤ (p1 - p2) then (p1 - p2) else 0 - (p1 - p2)) 4) (some (rd (Int32.toNatClampNeg (if 0 ≤ (p1 - p2) then (p1 - p2) else 0 - (p1 - p2))))))))
theorem wX0_entry_k0 : Cond.fieldLink RX0 9 (TX0 0).1 (TX0 0).2.1 (TX0 0).2.2.1 ∈ wsX0_entry := by decide +kernel
theorem hiX0_entry_0 : ∀ w ∈ u_ws RX0 TX0 8, w ∈ wsX0_entry := fun _ h => List.mem_cons_of_mem _ (List.mem_append_right _ h)
theorem wX0_entry_k2 : Cond.methodLink RX0 87 Lib.Math.abs.name ∈ wsX0_entry := by decide +kernel
theorem wX0_entry_k3 : Cond.static Lib.Math.abs.name ∈ wsX0_entry := by decide +kernel
theorem wX0_entry_k4 : Cond.initialized "java/lang/Math" ∈ wsX0_entry := by decide +kernel
theorem wX0_entry_k5 : Cond.code Lib.Math.abs.name Lib.Math.abs.code 1 (some .int) ∈ wsX0_entry := by decide +kernel
theorem wX0_entry_k6 : Cond.fieldLink RX0 15 (TX0 1).1 (TX0 1).2.1 (TX0 1).2.2.1 ∈ wsX0_entry := by decide +kernel
theorem hdX0_entry : yX0_entry.cls ≠ "java/lang/invoke/MethodHandle" ∧ yX0_entry.cls ≠ "java/lang/invoke/VarHandle" ∧ (parseMethodDescriptor yX0_entry.desc).map (fun d => d.parameters.length) = some 4 := by decide +kernel
set_option maxHeartbeats 4000000 in
set_option maxRecDepth 100000 in
theorem X0_entry_ok {l : Launch} {D : va_G} {Y : Nat → ClassId} {a : Nat → Nat} {rd : Nat → Int64} {rr : Nat → Int64} {mx : Nat → Int64} {ab : Nat → Int64} {pr : Nat → Int64} {be : Int64} {rs : Int64} {sz : Int32} {p0 : Int32} {p1 : Int32} {p2 : Int32} {p3 : Int32} {r : Int64} (h : X0_entry rd rr mx ab pr be rs sz p0 p1 p2 p3 = some r) : MR l yX0_entry wsX0_entry 1 21 D Y [.ref (a 0), .int p0, .int p1, .int p2, .int p3] (wFit Y a rd rr mx ab pr be rs sz) (some (.long r)) := by
  refine MR_of (cc := cX0_entry) (nL := 6) (ret := some .long) (lv0 := [(0, .ref (a 0)), (1, .int p0), (2, .int p1), (3, .int p2), (4, .int p3)]) (by decide) rfl (Nat.le_of_ble_eq_true rfl) rfl (fun X Q C hQ => ?_)
  unfold X0_entry at h
  refine V_iload_n (pc := 0) C dX0_entry_0 rfl 1 rfl ?_
  refine V_iload_n (pc := 1) C dX0_entry_1 rfl 2 rfl ?_
  obtain ⟨r2, hq, h⟩ := ob1_some h
  refine V_callSR (pc := 2) (rest := []) (st2 := [.int r2]) C (X0_isFree_ok hq) gX0_entry_X0_isFree rfl hdX0_isFree ⟨Nat.le_of_ble_eq_true rfl, Nat.le_of_ble_eq_true rfl⟩ ⟨Nat.le_refl _, Nat.le_refl _⟩ [] rfl rfl (Nat.le_of_ble_eq_true rfl) dX0_entry_2 rfl ?_
  refine V_istore (pc := 5) (lv' := [(5, .int r2), (0, .ref (a 0)), (1, .int p0), (2, .int p1), (3, .int p2), (4, .int p3)]) C dX0_entry_5 (Nat.le_of_ble_eq_true rfl) rfl ?_
  refine V_iload_n (pc := 7) C dX0_entry_7 rfl 4 rfl ?_
  refine V_iload (pc := 8) C dX0_entry_8 5 rfl ?_
  refine V_icmp_ne (pc := 10) C 29 dX0_entry_10 rfl (fun c10 => ?_) (fun c10 => ?_)
  · replace h := t_neg c10 h
    refine V_iload (pc := 29) C dX0_entry_29 0 rfl ?_
    refine jn0_ok (P := (VW X D 6 Q (KR X) (0, 0) (wFit Y a rd rr mx ab pr be rs sz) [(2, .int p1), (3, .int p2)] 54 [])) (fun h => ?_) (fun J54 hJ54 h => ?_) h
    · refine V_iload_n (pc := 54) C dX0_entry_54 rfl 0 rfl ?_
      refine V_iload_n (pc := 55) C dX0_entry_55 rfl 1 rfl ?_
      refine V_icmp_ne (pc := 56) C 63 dX0_entry_56 rfl (fun c56 => ?_) (fun c56 => ?_)
      · replace h := t_neg c56 h
        refine V_lconst (pc := 63) (v := 0) C dX0_entry_63 rfl ?_
        cases h
        subst hQ
        exact V_lretR C dX0_entry_64
      · replace h := t_pos c56 h
        refine V_lconst (pc := 59) (v := 1) C dX0_entry_59 rfl ?_
        refine V_goto (pc := 60) C 64 dX0_entry_60 rfl ?_
        cases h
        subst hQ
        exact V_lretR C dX0_entry_64
    refine V_if_eq (pc := 31) C 54 dX0_entry_31 rfl (fun c31 => ?_) (fun c31 => ?_)
    · replace h := t_pos c31 h
      exact V_sub [3, 4] rfl (hJ54 h)
    · replace h := t_neg c31 h
      refine V_iload_n (pc := 34) C dX0_entry_34 rfl 2 rfl ?_
      refine V_iload_n (pc := 35) C dX0_entry_35 rfl 4 rfl ?_
      obtain ⟨r36, hq, h⟩ := ob1_some h
      refine V_callSR (pc := 36) (rest := []) (st2 := [.int r36]) C (X0_isFree_ok hq) gX0_entry_X0_isFree rfl hdX0_isFree ⟨Nat.le_of_ble_eq_true rfl, Nat.le_of_ble_eq_true rfl⟩ ⟨Nat.le_refl _, Nat.le_refl _⟩ [] rfl rfl (Nat.le_of_ble_eq_true rfl) dX0_entry_36 rfl ?_
      refine V_if_eq (pc := 39) C 54 dX0_entry_39 rfl (fun c39 => ?_) (fun c39 => ?_)
      · replace h := t_pos c39 h
        exact V_sub [3, 4] rfl (hJ54 h)
      · replace h := t_neg c39 h
        refine V_aload_n (pc := 42) C dX0_entry_42 rfl 1 rfl ?_
        refine V_get (pc := 43) (v := .ref (a 1)) C 0 0 0 hiX0_entry_0 rfl rfl (by decide) wX0_entry_k0 rfl dX0_entry_43 ?_
        refine V_iload_n (pc := 46) C dX0_entry_46 rfl 3 rfl ?_
        refine V_iload_n (pc := 47) C dX0_entry_47 rfl 4 rfl ?_
        refine V_isub (pc := 48) C dX0_entry_48 ?_
        refine V_mabs (pc := 49) C wX0_entry_k2 wX0_entry_k3 wX0_entry_k4 wX0_entry_k5 (Nat.le_of_ble_eq_true rfl) (Nat.le_of_ble_eq_true rfl) ⟨Nat.le_refl _, Nat.le_refl _⟩ dX0_entry_49 ?_
        obtain ⟨b52, h⟩ := chk_some h
        refine V_lald (pc := 52) C 1 rfl b52 dX0_entry_52 ?_
        cases h
        subst hQ
        exact V_lretR C dX0_entry_53
  · replace h := t_pos c10 h
    refine V_iload (pc := 13) C dX0_entry_13 0 rfl ?_
    refine V_if_eq (pc := 15) C 27 dX0_entry_15 rfl (fun c15 => ?_) (fun c15 => ?_)
    · replace h := t_pos c15 h
      refine V_lconst (pc := 27) (v := 0) C dX0_entry_27 rfl ?_
      cases h
      subst hQ
      exact V_lretR C dX0_entry_28
    · replace h := t_neg c15 h
      refine V_aload_n (pc := 18) C dX0_entry_18 rfl 1 rfl ?_
      refine V_get (pc := 19) (v := .ref (a 2)) C 0 0 1 hiX0_entry_0 rfl rfl (by decide) wX0_entry_k6 rfl dX0_entry_19 ?_
      refine V_iload_n (pc := 22) C dX0_entry_22 rfl 3 rfl ?_
      obtain ⟨b23, h⟩ := chk_some h
      refine V_lald (pc := 23) C 2 rfl b23 dX0_entry_23 ?_
      refine V_goto (pc := 24) C 28 dX0_entry_24 rfl ?_
      cases h
      subst hQ
      exact V_lretR C dX0_entry_28
def X0_determinant (rd : Nat → Int64) (rr : Nat → Int64) (mx : Nat → Int64) (ab : Nat → Int64) (pr : Nat → Int64) (be : Int64) (rs : Int64) (sz : Int32) (p0 : Int32) (p1 : Int32) : Option (Int64 × (Nat → Int64)) :=
  jn1 (fun (mmx_48 : Nat → Int64) => ob1 (X0_minor rd rr mmx_48 ab pr be rs sz (0 : Int32) (0 : Int32) (1 : Int32)) fun r55 =>
  ob1 (X0_minor rd rr mmx_48 ab pr be rs sz (8 : Int32) (2 : Int32) (3 : Int32)) fun r63 =>
  ob1 (X0_minor rd rr mmx_48 ab pr be rs sz (0 : Int32) (0 : Int32) (2 : Int32)) fun r74 =>
  ob1 (X0_minor rd rr mmx_48 ab pr be rs sz (8 : Int32) (1 : Int32) (3 : Int32)) fun r82 =>
  ob1 (X0_minor rd rr mmx_48 ab pr be rs sz (0 : Int32) (0 : Int32) (3 : Int32)) fun r93 =>
  ob1 (X0_minor rd rr mmx_48 ab pr be rs sz (8 : Int32) (1 : Int32) (2 : Int32)) fun r101 =>
  ob1 (X0_minor rd rr mmx_48 ab pr be rs sz (0 : Int32) (1 : Int32) (2 : Int32)) fun r112 =>
  ob1 (X0_minor rd rr mmx_48 ab pr be rs sz (8 : Int32) (0 : Int32) (3 : Int32)) fun r120 =>
  ob1 (X0_minor rd rr mmx_48 ab pr be rs sz (0 : Int32) (1 : Int32) (3 : Int32)) fun r131 =>
  ob1 (X0_minor rd rr mmx_48 ab pr be rs sz (8 : Int32) (0 : Int32) (2 : Int32)) fun r139 =>
  ob1 (X0_minor rd rr mmx_48 ab pr be rs sz (0 : Int32) (2 : Int32) (3 : Int32)) fun r150 =>
  ob1 (X0_minor rd rr mmx_48 ab pr be rs sz (8 : Int32) (0 : Int32) (1 : Int32)) fun r158 =>
  some ((((((((0 : Int64) + (r55 * r63)) - (r74 * r82)) + (r93 * r101)) + (r112 * r120)) - (r131 * r139)) + (r150 * r158)), mmx_48)) fun J48 =>
  wh2 (fun self2 (x3_2 : Int32) (mmx_2 : Nat → Int64) =>
  if (4 : Int32) ≤ x3_2 then (J48 mmx_2) else (jn1 (fun (mmx_42 : Nat → Int64) => self2 (x3_2 + 1) mmx_42) fun J42 =>
  wh2 (fun self10 (x4_10 : Int32) (mmx_10 : Nat → Int64) =>
  if (4 : Int32) ≤ x4_10 then (J42 mmx_10) else (ob1 (X0_entry rd rr mmx_10 ab pr be rs sz p0 x3_2 x4_10 p1) fun r32 =>
  chk (inB ((x3_2 * (4 : Int32)) + x4_10) 16) (self10 (x4_10 + 1) (vp_updL mmx_10 (Int32.toNatClampNeg ((x3_2 * (4 : Int32)) + x4_10)) r32)))) 200 (0 : Int32) mmx_2)) 200 (0 : Int32) mx
theorem wX0_determinant_k0 : Cond.fieldLink RX0 18 (TX0 2).1 (TX0 2).2.1 (TX0 2).2.2.1 ∈ wsX0_determinant := by decide +kernel
theorem hiX0_determinant_0 : ∀ w ∈ u_ws RX0 TX0 8, w ∈ wsX0_determinant := fun _ h => List.mem_cons_of_mem _ (List.mem_append_right _ h)
theorem hdX0_determinant : yX0_determinant.cls ≠ "java/lang/invoke/MethodHandle" ∧ yX0_determinant.cls ≠ "java/lang/invoke/VarHandle" ∧ (parseMethodDescriptor yX0_determinant.desc).map (fun d => d.parameters.length) = some 2 := by decide +kernel
set_option maxHeartbeats 4000000 in
set_option maxRecDepth 100000 in
theorem X0_determinant_ok {l : Launch} {D : va_G} {Y : Nat → ClassId} {a : Nat → Nat} {rd : Nat → Int64} {rr : Nat → Int64} {mx : Nat → Int64} {ab : Nat → Int64} {pr : Nat → Int64} {be : Int64} {rs : Int64} {sz : Int32} {p0 : Int32} {p1 : Int32} {r : Int64} {umx : Nat → Int64} (h : X0_determinant rd rr mx ab pr be rs sz p0 p1 = some (r, umx)) : MW l yX0_determinant wsX0_determinant 2 46 D Y [.ref (a 0), .int p0, .int p1] (wFit Y a rd rr mx ab pr be rs sz) (wFit Y a rd rr umx ab pr be rs sz) (some (.long r)) := by
  refine MW_of (cc := cX0_determinant) (nL := 5) (ret := some .long) (lv0 := [(0, .ref (a 0)), (1, .int p0), (2, .int p1)]) (by decide) rfl (Nat.le_of_ble_eq_true rfl) rfl rfl (fun X Af Q C hA hQ => ?_)
  unfold X0_determinant at h
  refine V_iconst (pc := 0) (v := 0) C dX0_determinant_0 rfl ?_
  refine V_istore_n (pc := 1) (lv' := [(3, .int (0 : Int32)), (0, .ref (a 0)), (1, .int p0), (2, .int p1)]) C dX0_determinant_1 rfl (Nat.le_of_ble_eq_true rfl) rfl ?_
  refine jn1_ok (P := (fun (mmx_48 : Nat → Int64) => VW X D 5 Q (KM Af X) (0, 0) (wFit Y a rd rr mmx_48 ab pr be rs sz) [(0, .ref (a 0))] 48 [])) (fun mmx_48 h => ?_) (fun J48 hJ48 h => ?_) h
  · refine V_lconst (pc := 48) (v := 0) C dX0_determinant_48 rfl ?_
    refine V_lstore_n (pc := 49) (lv' := [(3, .long (0 : Int64)), (0, .ref (a 0))]) C dX0_determinant_49 rfl (Nat.le_of_ble_eq_true rfl) rfl ?_
    refine V_lload_n (pc := 50) C dX0_determinant_50 rfl 0 rfl ?_
    refine V_aload_n (pc := 51) C dX0_determinant_51 rfl 1 rfl ?_
    refine V_iconst (pc := 52) (v := 0) C dX0_determinant_52 rfl ?_
    refine V_iconst (pc := 53) (v := 0) C dX0_determinant_53 rfl ?_
    refine V_iconst (pc := 54) (v := 1) C dX0_determinant_54 rfl ?_
    obtain ⟨r55, hq, h⟩ := ob1_some h
    refine V_callVR (pc := 55) (rest := [.long (0 : Int64)]) (st2 := [.long r55, .long (0 : Int64)]) C (X0_minor_ok (a := a) hq) gX0_determinant_X0_minor rfl ⟨rfl, hdX0_minor⟩ ⟨Nat.le_of_ble_eq_true rfl, Nat.le_of_ble_eq_true rfl⟩ ⟨Nat.le_refl _, Nat.le_refl _⟩ [0, 1, 2, 3, 4, 5] rfl 0 0 rfl rfl rfl (Nat.le_of_ble_eq_true rfl) dX0_determinant_55 rfl ?_
    refine V_aload_n (pc := 58) C dX0_determinant_58 rfl 1 rfl ?_
    refine V_bipush (pc := 59) (v := 8) C dX0_determinant_59 rfl ?_
    refine V_iconst (pc := 61) (v := 2) C dX0_determinant_61 rfl ?_
    refine V_iconst (pc := 62) (v := 3) C dX0_determinant_62 rfl ?_
    obtain ⟨r63, hq, h⟩ := ob1_some h
    refine V_callVR (pc := 63) (rest := [.long r55, .long (0 : Int64)]) (st2 := [.long r63, .long r55, .long (0 : Int64)]) C (X0_minor_ok (a := a) hq) gX0_determinant_X0_minor rfl ⟨rfl, hdX0_minor⟩ ⟨Nat.le_of_ble_eq_true rfl, Nat.le_of_ble_eq_true rfl⟩ ⟨Nat.le_refl _, Nat.le_refl _⟩ [0, 1, 2, 3, 4, 5] rfl 0 0 rfl rfl rfl (Nat.le_of_ble_eq_true rfl) dX0_determinant_63 rfl ?_
    refine V_lmul (pc := 66) C dX0_determinant_66 ?_
    refine V_ladd (pc := 67) C dX0_determinant_67 ?_
    refine V_lstore_n (pc := 68) (lv' := [(3, .long ((0 : Int64) + (r55 * r63))), (0, .ref (a 0))]) C dX0_determinant_68 rfl (Nat.le_of_ble_eq_true rfl) rfl ?_
    refine V_lload_n (pc := 69) C dX0_determinant_69 rfl 0 rfl ?_
    refine V_aload_n (pc := 70) C dX0_determinant_70 rfl 1 rfl ?_
    refine V_iconst (pc := 71) (v := 0) C dX0_determinant_71 rfl ?_
    refine V_iconst (pc := 72) (v := 0) C dX0_determinant_72 rfl ?_
    refine V_iconst (pc := 73) (v := 2) C dX0_determinant_73 rfl ?_
    obtain ⟨r74, hq, h⟩ := ob1_some h
    refine V_callVR (pc := 74) (rest := [.long ((0 : Int64) + (r55 * r63))]) (st2 := [.long r74, .long ((0 : Int64) + (r55 * r63))]) C (X0_minor_ok (a := a) hq) gX0_determinant_X0_minor rfl ⟨rfl, hdX0_minor⟩ ⟨Nat.le_of_ble_eq_true rfl, Nat.le_of_ble_eq_true rfl⟩ ⟨Nat.le_refl _, Nat.le_refl _⟩ [0, 1, 2, 3, 4, 5] rfl 0 0 rfl rfl rfl (Nat.le_of_ble_eq_true rfl) dX0_determinant_74 rfl ?_
    refine V_aload_n (pc := 77) C dX0_determinant_77 rfl 1 rfl ?_
    refine V_bipush (pc := 78) (v := 8) C dX0_determinant_78 rfl ?_
    refine V_iconst (pc := 80) (v := 1) C dX0_determinant_80 rfl ?_
    refine V_iconst (pc := 81) (v := 3) C dX0_determinant_81 rfl ?_
    obtain ⟨r82, hq, h⟩ := ob1_some h
    refine V_callVR (pc := 82) (rest := [.long r74, .long ((0 : Int64) + (r55 * r63))]) (st2 := [.long r82, .long r74, .long ((0 : Int64) + (r55 * r63))]) C (X0_minor_ok (a := a) hq) gX0_determinant_X0_minor rfl ⟨rfl, hdX0_minor⟩ ⟨Nat.le_of_ble_eq_true rfl, Nat.le_of_ble_eq_true rfl⟩ ⟨Nat.le_refl _, Nat.le_refl _⟩ [0, 1, 2, 3, 4, 5] rfl 0 0 rfl rfl rfl (Nat.le_of_ble_eq_true rfl) dX0_determinant_82 rfl ?_
    refine V_lmul (pc := 85) C dX0_determinant_85 ?_
    refine V_lsub (pc := 86) C dX0_determinant_86 ?_
    refine V_lstore_n (pc := 87) (lv' := [(3, .long (((0 : Int64) + (r55 * r63)) - (r74 * r82))), (0, .ref (a 0))]) C dX0_determinant_87 rfl (Nat.le_of_ble_eq_true rfl) rfl ?_
    refine V_lload_n (pc := 88) C dX0_determinant_88 rfl 0 rfl ?_
    refine V_aload_n (pc := 89) C dX0_determinant_89 rfl 1 rfl ?_
    refine V_iconst (pc := 90) (v := 0) C dX0_determinant_90 rfl ?_
    refine V_iconst (pc := 91) (v := 0) C dX0_determinant_91 rfl ?_
    refine V_iconst (pc := 92) (v := 3) C dX0_determinant_92 rfl ?_
    obtain ⟨r93, hq, h⟩ := ob1_some h
    refine V_callVR (pc := 93) (rest := [.long (((0 : Int64) + (r55 * r63)) - (r74 * r82))]) (st2 := [.long r93, .long (((0 : Int64) + (r55 * r63)) - (r74 * r82))]) C (X0_minor_ok (a := a) hq) gX0_determinant_X0_minor rfl ⟨rfl, hdX0_minor⟩ ⟨Nat.le_of_ble_eq_true rfl, Nat.le_of_ble_eq_true rfl⟩ ⟨Nat.le_refl _, Nat.le_refl _⟩ [0, 1, 2, 3, 4, 5] rfl 0 0 rfl rfl rfl (Nat.le_of_ble_eq_true rfl) dX0_determinant_93 rfl ?_
    refine V_aload_n (pc := 96) C dX0_determinant_96 rfl 1 rfl ?_
    refine V_bipush (pc := 97) (v := 8) C dX0_determinant_97 rfl ?_
    refine V_iconst (pc := 99) (v := 1) C dX0_determinant_99 rfl ?_
    refine V_iconst (pc := 100) (v := 2) C dX0_determinant_100 rfl ?_
    obtain ⟨r101, hq, h⟩ := ob1_some h
    refine V_callVR (pc := 101) (rest := [.long r93, .long (((0 : Int64) + (r55 * r63)) - (r74 * r82))]) (st2 := [.long r101, .long r93, .long (((0 : Int64) + (r55 * r63)) - (r74 * r82))]) C (X0_minor_ok (a := a) hq) gX0_determinant_X0_minor rfl ⟨rfl, hdX0_minor⟩ ⟨Nat.le_of_ble_eq_true rfl, Nat.le_of_ble_eq_true rfl⟩ ⟨Nat.le_refl _, Nat.le_refl _⟩ [0, 1, 2, 3, 4, 5] rfl 0 0 rfl rfl rfl (Nat.le_of_ble_eq_true rfl) dX0_determinant_101 rfl ?_
    refine V_lmul (pc := 104) C dX0_determinant_104 ?_
    refine V_ladd (pc := 105) C dX0_determinant_105 ?_
    refine V_lstore_n (pc := 106) (lv' := [(3, .long ((((0 : Int64) + (r55 * r63)) - (r74 * r82)) + (r93 * r101))), (0, .ref (a 0))]) C dX0_determinant_106 rfl (Nat.le_of_ble_eq_true rfl) rfl ?_
    refine V_lload_n (pc := 107) C dX0_determinant_107 rfl 0 rfl ?_
    refine V_aload_n (pc := 108) C dX0_determinant_108 rfl 1 rfl ?_
    refine V_iconst (pc := 109) (v := 0) C dX0_determinant_109 rfl ?_
    refine V_iconst (pc := 110) (v := 1) C dX0_determinant_110 rfl ?_
    refine V_iconst (pc := 111) (v := 2) C dX0_determinant_111 rfl ?_
    obtain ⟨r112, hq, h⟩ := ob1_some h
    refine V_callVR (pc := 112) (rest := [.long ((((0 : Int64) + (r55 * r63)) - (r74 * r82)) + (r93 * r101))]) (st2 := [.long r112, .long ((((0 : Int64) + (r55 * r63)) - (r74 * r82)) + (r93 * r101))]) C (X0_minor_ok (a := a) hq) gX0_determinant_X0_minor rfl ⟨rfl, hdX0_minor⟩ ⟨Nat.le_of_ble_eq_true rfl, Nat.le_of_ble_eq_true rfl⟩ ⟨Nat.le_refl _, Nat.le_refl _⟩ [0, 1, 2, 3, 4, 5] rfl 0 0 rfl rfl rfl (Nat.le_of_ble_eq_true rfl) dX0_determinant_112 rfl ?_
    refine V_aload_n (pc := 115) C dX0_determinant_115 rfl 1 rfl ?_
    refine V_bipush (pc := 116) (v := 8) C dX0_determinant_116 rfl ?_
    refine V_iconst (pc := 118) (v := 0) C dX0_determinant_118 rfl ?_
    refine V_iconst (pc := 119) (v := 3) C dX0_determinant_119 rfl ?_
    obtain ⟨r120, hq, h⟩ := ob1_some h
    refine V_callVR (pc := 120) (rest := [.long r112, .long ((((0 : Int64) + (r55 * r63)) - (r74 * r82)) + (r93 * r101))]) (st2 := [.long r120, .long r112, .long ((((0 : Int64) + (r55 * r63)) - (r74 * r82)) + (r93 * r101))]) C (X0_minor_ok (a := a) hq) gX0_determinant_X0_minor rfl ⟨rfl, hdX0_minor⟩ ⟨Nat.le_of_ble_eq_true rfl, Nat.le_of_ble_eq_true rfl⟩ ⟨Nat.le_refl _, Nat.le_refl _⟩ [0, 1, 2, 3, 4, 5] rfl 0 0 rfl rfl rfl (Nat.le_of_ble_eq_true rfl) dX0_determinant_120 rfl ?_
    refine V_lmul (pc := 123) C dX0_determinant_123 ?_
    refine V_ladd (pc := 124) C dX0_determinant_124 ?_
    refine V_lstore_n (pc := 125) (lv' := [(3, .long (((((0 : Int64) + (r55 * r63)) - (r74 * r82)) + (r93 * r101)) + (r112 * r120))), (0, .ref (a 0))]) C dX0_determinant_125 rfl (Nat.le_of_ble_eq_true rfl) rfl ?_
    refine V_lload_n (pc := 126) C dX0_determinant_126 rfl 0 rfl ?_
    refine V_aload_n (pc := 127) C dX0_determinant_127 rfl 1 rfl ?_
    refine V_iconst (pc := 128) (v := 0) C dX0_determinant_128 rfl ?_
    refine V_iconst (pc := 129) (v := 1) C dX0_determinant_129 rfl ?_
    refine V_iconst (pc := 130) (v := 3) C dX0_determinant_130 rfl ?_
    obtain ⟨r131, hq, h⟩ := ob1_some h
    refine V_callVR (pc := 131) (rest := [.long (((((0 : Int64) + (r55 * r63)) - (r74 * r82)) + (r93 * r101)) + (r112 * r120))]) (st2 := [.long r131, .long (((((0 : Int64) + (r55 * r63)) - (r74 * r82)) + (r93 * r101)) + (r112 * r120))]) C (X0_minor_ok (a := a) hq) gX0_determinant_X0_minor rfl ⟨rfl, hdX0_minor⟩ ⟨Nat.le_of_ble_eq_true rfl, Nat.le_of_ble_eq_true rfl⟩ ⟨Nat.le_refl _, Nat.le_refl _⟩ [0, 1, 2, 3, 4, 5] rfl 0 0 rfl rfl rfl (Nat.le_of_ble_eq_true rfl) dX0_determinant_131 rfl ?_
    refine V_aload_n (pc := 134) C dX0_determinant_134 rfl 1 rfl ?_
    refine V_bipush (pc := 135) (v := 8) C dX0_determinant_135 rfl ?_
    refine V_iconst (pc := 137) (v := 0) C dX0_determinant_137 rfl ?_
    refine V_iconst (pc := 138) (v := 2) C dX0_determinant_138 rfl ?_
    obtain ⟨r139, hq, h⟩ := ob1_some h
    refine V_callVR (pc := 139) (rest := [.long r131, .long (((((0 : Int64) + (r55 * r63)) - (r74 * r82)) + (r93 * r101)) + (r112 * r120))]) (st2 := [.long r139, .long r131, .long (((((0 : Int64) + (r55 * r63)) - (r74 * r82)) + (r93 * r101)) + (r112 * r120))]) C (X0_minor_ok (a := a) hq) gX0_determinant_X0_minor rfl ⟨rfl, hdX0_minor⟩ ⟨Nat.le_of_ble_eq_true rfl, Nat.le_of_ble_eq_true rfl⟩ ⟨Nat.le_refl _, Nat.le_refl _⟩ [0, 1, 2, 3, 4, 5] rfl 0 0 rfl rfl rfl (Nat.le_of_ble_eq_true rfl) dX0_determinant_139 rfl ?_
    refine V_lmul (pc := 142) C dX0_determinant_142 ?_
    refine V_lsub (pc := 143) C dX0_determinant_143 ?_
    refine V_lstore_n (pc := 144) (lv' := [(3, .long ((((((0 : Int64) + (r55 * r63)) - (r74 * r82)) + (r93 * r101)) + (r112 * r120)) - (r131 * r139))), (0, .ref (a 0))]) C dX0_determinant_144 rfl (Nat.le_of_ble_eq_true rfl) rfl ?_
    refine V_lload_n (pc := 145) C dX0_determinant_145 rfl 0 rfl ?_
    refine V_aload_n (pc := 146) C dX0_determinant_146 rfl 1 rfl ?_
    refine V_iconst (pc := 147) (v := 0) C dX0_determinant_147 rfl ?_
    refine V_iconst (pc := 148) (v := 2) C dX0_determinant_148 rfl ?_
    refine V_iconst (pc := 149) (v := 3) C dX0_determinant_149 rfl ?_
    obtain ⟨r150, hq, h⟩ := ob1_some h
    refine V_callVR (pc := 150) (rest := [.long ((((((0 : Int64) + (r55 * r63)) - (r74 * r82)) + (r93 * r101)) + (r112 * r120)) - (r131 * r139))]) (st2 := [.long r150, .long ((((((0 : Int64) + (r55 * r63)) - (r74 * r82)) + (r93 * r101)) + (r112 * r120)) - (r131 * r139))]) C (X0_minor_ok (a := a) hq) gX0_determinant_X0_minor rfl ⟨rfl, hdX0_minor⟩ ⟨Nat.le_of_ble_eq_true rfl, Nat.le_of_ble_eq_true rfl⟩ ⟨Nat.le_refl _, Nat.le_refl _⟩ [0, 1, 2, 3, 4, 5] rfl 0 0 rfl rfl rfl (Nat.le_of_ble_eq_true rfl) dX0_determinant_150 rfl ?_
    refine V_aload_n (pc := 153) C dX0_determinant_153 rfl 1 rfl ?_
    refine V_bipush (pc := 154) (v := 8) C dX0_determinant_154 rfl ?_
    refine V_iconst (pc := 156) (v := 0) C dX0_determinant_156 rfl ?_
    refine V_iconst (pc := 157) (v := 1) C dX0_determinant_157 rfl ?_
    obtain ⟨r158, hq, h⟩ := ob1_some h
    refine V_callVR (pc := 158) (rest := [.long r150, .long ((((((0 : Int64) + (r55 * r63)) - (r74 * r82)) + (r93 * r101)) + (r112 * r120)) - (r131 * r139))]) (st2 := [.long r158, .long r150, .long ((((((0 : Int64) + (r55 * r63)) - (r74 * r82)) + (r93 * r101)) + (r112 * r120)) - (r131 * r139))]) C (X0_minor_ok (a := a) hq) gX0_determinant_X0_minor rfl ⟨rfl, hdX0_minor⟩ ⟨Nat.le_of_ble_eq_true rfl, Nat.le_of_ble_eq_true rfl⟩ ⟨Nat.le_refl _, Nat.le_refl _⟩ [0, 1, 2, 3, 4, 5] rfl 0 0 rfl rfl rfl (Nat.le_of_ble_eq_true rfl) dX0_determinant_158 rfl ?_
    refine V_lmul (pc := 161) C dX0_determinant_161 ?_
    refine V_ladd (pc := 162) C dX0_determinant_162 ?_
    refine V_lstore_n (pc := 163) (lv' := [(3, .long (((((((0 : Int64) + (r55 * r63)) - (r74 * r82)) + (r93 * r101)) + (r112 * r120)) - (r131 * r139)) + (r150 * r158))), (0, .ref (a 0))]) C dX0_determinant_163 rfl (Nat.le_of_ble_eq_true rfl) rfl ?_
    refine V_lload_n (pc := 164) C dX0_determinant_164 rfl 0 rfl ?_
    cases h
    subst hQ
    exact V_lretW C dX0_determinant_165
  refine V_sub [1, 2, 3, 0] rfl (wh2_ok (P := (fun (x3_2 : Int32) (mmx_2 : Nat → Int64) => VW X D 5 Q (KM Af X) (0, 0) (wFit Y a rd rr mmx_2 ab pr be rs sz) [(0, .ref (a 0)), (1, .int p0), (2, .int p1), (3, .int x3_2)] 2 [])) (fun self2 ih2 x3_2 mmx_2 h => ?_) 200 _ _ h)
  refine V_iload_n (pc := 2) C dX0_determinant_2 rfl 3 rfl ?_
  refine V_iconst (pc := 3) (v := 4) C dX0_determinant_3 rfl ?_
  refine V_icmp_ge (pc := 4) C 48 dX0_determinant_4 rfl (fun c4 => ?_) (fun c4 => ?_)
  · replace h := t_pos c4 h
    exact V_sub [0] rfl (hJ48 _ h)
  · replace h := t_neg c4 h
    refine V_iconst (pc := 7) (v := 0) C dX0_determinant_7 rfl ?_
    refine V_istore (pc := 8) (lv' := [(4, .int (0 : Int32)), (0, .ref (a 0)), (1, .int p0), (2, .int p1), (3, .int x3_2)]) C dX0_determinant_8 (Nat.le_of_ble_eq_true rfl) rfl ?_
    refine jn1_ok (P := (fun (mmx_42 : Nat → Int64) => VW X D 5 Q (KM Af X) (0, 0) (wFit Y a rd rr mmx_42 ab pr be rs sz) [(0, .ref (a 0)), (1, .int p0), (2, .int p1), (3, .int x3_2)] 42 [])) (fun mmx_42 h => ?_) (fun J42 hJ42 h => ?_) h
    · refine V_iinc (pc := 42) (v := (x3_2 + 1)) (lv' := [(3, .int (x3_2 + 1)), (0, .ref (a 0)), (1, .int p0), (2, .int p1)]) C dX0_determinant_42 3 rfl rfl (Nat.le_of_ble_eq_true rfl) rfl ?_
      refine V_goto (pc := 45) C 2 dX0_determinant_45 rfl ?_
      exact V_sub [1, 2, 3, 0] rfl (ih2 _ _ h)
    refine V_sub [1, 2, 3, 4, 0] rfl (wh2_ok (P := (fun (x4_10 : Int32) (mmx_10 : Nat → Int64) => VW X D 5 Q (KM Af X) (0, 0) (wFit Y a rd rr mmx_10 ab pr be rs sz) [(0, .ref (a 0)), (1, .int p0), (2, .int p1), (3, .int x3_2), (4, .int x4_10)] 10 [])) (fun self10 ih10 x4_10 mmx_10 h => ?_) 200 _ _ h)
    refine V_iload (pc := 10) C dX0_determinant_10 4 rfl ?_
    refine V_iconst (pc := 12) (v := 4) C dX0_determinant_12 rfl ?_
    refine V_icmp_ge (pc := 13) C 42 dX0_determinant_13 rfl (fun c13 => ?_) (fun c13 => ?_)
    · replace h := t_pos c13 h
      exact V_sub [0, 1, 2, 3] rfl (hJ42 _ h)
    · replace h := t_neg c13 h
      refine V_aload_n (pc := 16) C dX0_determinant_16 rfl 0 rfl ?_
      refine V_get (pc := 17) (v := .ref (a 3)) C 0 0 2 hiX0_determinant_0 rfl rfl (by decide) wX0_determinant_k0 rfl dX0_determinant_17 ?_
      refine V_iload_n (pc := 20) C dX0_determinant_20 rfl 3 rfl ?_
      refine V_iconst (pc := 21) (v := 4) C dX0_determinant_21 rfl ?_
      refine V_imul (pc := 22) C dX0_determinant_22 ?_
      refine V_iload (pc := 23) C dX0_determinant_23 4 rfl ?_
      refine V_iadd (pc := 25) C dX0_determinant_25 ?_
      refine V_aload_n (pc := 26) C dX0_determinant_26 rfl 0 rfl ?_
      refine V_iload_n (pc := 27) C dX0_determinant_27 rfl 1 rfl ?_
      refine V_iload_n (pc := 28) C dX0_determinant_28 rfl 3 rfl ?_
      refine V_iload (pc := 29) C dX0_determinant_29 4 rfl ?_
      refine V_iload_n (pc := 31) C dX0_determinant_31 rfl 2 rfl ?_
      obtain ⟨r32, hq, h⟩ := ob1_some h
      refine V_callVR (pc := 32) (rest := [.int ((x3_2 * (4 : Int32)) + x4_10), .ref (a 3)]) (st2 := [.long r32, .int ((x3_2 * (4 : Int32)) + x4_10), .ref (a 3)]) C (X0_entry_ok (a := a) hq) gX0_determinant_X0_entry rfl ⟨rfl, hdX0_entry⟩ ⟨Nat.le_of_ble_eq_true rfl, Nat.le_of_ble_eq_true rfl⟩ ⟨Nat.le_refl _, Nat.le_refl _⟩ [0, 1, 2, 3, 4, 5] rfl 0 0 rfl rfl rfl (Nat.le_of_ble_eq_true rfl) dX0_determinant_32 rfl ?_
      obtain ⟨b35, h⟩ := chk_some h
      refine V_last (pc := 35) (ws' := wFit Y a rd rr (vp_updL mmx_10 (Int32.toNatClampNeg ((x3_2 * (4 : Int32)) + x4_10)) r32) ab pr be rs sz) C 3 rfl b35 dX0_determinant_35 rfl ?_
      refine V_iinc (pc := 36) (v := (x4_10 + 1)) (lv' := [(4, .int (x4_10 + 1)), (0, .ref (a 0)), (1, .int p0), (2, .int p1), (3, .int x3_2)]) C dX0_determinant_36 4 rfl rfl (Nat.le_of_ble_eq_true rfl) rfl ?_
      refine V_goto (pc := 39) C 10 dX0_determinant_39 rfl ?_
      exact V_sub [1, 2, 3, 4, 0] rfl (ih10 _ _ h)
def X0_pressOn (rd : Nat → Int64) (rr : Nat → Int64) (mx : Nat → Int64) (ab : Nat → Int64) (pr : Nat → Int64) (be : Int64) (rs : Int64) (sz : Int32) (p0 : Int32) : Option (Int64) :=
  chk (inB p0 4) (jn1 (fun (x2_54 : Int64) => some x2_54) fun J54 =>
  wh2 (fun self16 (x2_16 : Int64) (x4_16 : Int32) =>
  if sz ≤ x4_16 then (J54 x2_16) else (chk (inB (if 0 ≤ (x4_16 - p0) then (x4_16 - p0) else 0 - (x4_16 - p0)) 4) (chk (inB x4_16 4) (self16 (x2_16 + ((rd (Int32.toNatClampNeg (if 0 ≤ (x4_16 - p0) then (x4_16 - p0) else 0 - (x4_16 - p0)))) * (ab (Int32.toNatClampNeg x4_16)))) (x4_16 + 1))))) 200 ((-(rr (Int32.toNatClampNeg p0))) * be) (0 : Int32))
theorem wX0_pressOn_k0 : Cond.fieldLink RX0 15 (TX0 1).1 (TX0 1).2.1 (TX0 1).2.2.1 ∈ wsX0_pressOn := by decide +kernel
theorem hiX0_pressOn_0 : ∀ w ∈ u_ws RX0 TX0 8, w ∈ wsX0_pressOn := fun _ h => List.mem_cons_of_mem _ (List.mem_append_right _ h)
theorem wX0_pressOn_k2 : Cond.fieldLink RX0 27 (TX0 5).1 (TX0 5).2.1 (TX0 5).2.2.1 ∈ wsX0_pressOn := by decide +kernel
theorem wX0_pressOn_k3 : Cond.fieldLink RX0 40 (TX0 7).1 (TX0 7).2.1 (TX0 7).2.2.1 ∈ wsX0_pressOn := by decide +kernel
theorem wX0_pressOn_k4 : Cond.fieldLink RX0 9 (TX0 0).1 (TX0 0).2.1 (TX0 0).2.2.1 ∈ wsX0_pressOn := by decide +kernel
theorem wX0_pressOn_k5 : Cond.methodLink RX0 87 Lib.Math.abs.name ∈ wsX0_pressOn := by decide +kernel
theorem wX0_pressOn_k6 : Cond.static Lib.Math.abs.name ∈ wsX0_pressOn := by decide +kernel
theorem wX0_pressOn_k7 : Cond.initialized "java/lang/Math" ∈ wsX0_pressOn := by decide +kernel
theorem wX0_pressOn_k8 : Cond.code Lib.Math.abs.name Lib.Math.abs.code 1 (some .int) ∈ wsX0_pressOn := by decide +kernel
theorem wX0_pressOn_k9 : Cond.fieldLink RX0 21 (TX0 3).1 (TX0 3).2.1 (TX0 3).2.2.1 ∈ wsX0_pressOn := by decide +kernel
theorem hdX0_pressOn : yX0_pressOn.cls ≠ "java/lang/invoke/MethodHandle" ∧ yX0_pressOn.cls ≠ "java/lang/invoke/VarHandle" ∧ (parseMethodDescriptor yX0_pressOn.desc).map (fun d => d.parameters.length) = some 1 := by decide +kernel
set_option maxHeartbeats 4000000 in
set_option maxRecDepth 100000 in
theorem X0_pressOn_ok {l : Launch} {D : va_G} {Y : Nat → ClassId} {a : Nat → Nat} {rd : Nat → Int64} {rr : Nat → Int64} {mx : Nat → Int64} {ab : Nat → Int64} {pr : Nat → Int64} {be : Int64} {rs : Int64} {sz : Int32} {p0 : Int32} {r : Int64} (h : X0_pressOn rd rr mx ab pr be rs sz p0 = some r) : MR l yX0_pressOn wsX0_pressOn 1 21 D Y [.ref (a 0), .int p0] (wFit Y a rd rr mx ab pr be rs sz) (some (.long r)) := by
  refine MR_of (cc := cX0_pressOn) (nL := 5) (ret := some .long) (lv0 := [(0, .ref (a 0)), (1, .int p0)]) (by decide) rfl (Nat.le_of_ble_eq_true rfl) rfl (fun X Q C hQ => ?_)
  unfold X0_pressOn at h
  refine V_aload_n (pc := 0) C dX0_pressOn_0 rfl 0 rfl ?_
  refine V_get (pc := 1) (v := .ref (a 2)) C 0 0 1 hiX0_pressOn_0 rfl rfl (by decide) wX0_pressOn_k0 rfl dX0_pressOn_1 ?_
  refine V_iload_n (pc := 4) C dX0_pressOn_4 rfl 1 rfl ?_
  obtain ⟨b5, h⟩ := chk_some h
  refine V_lald (pc := 5) C 2 rfl b5 dX0_pressOn_5 ?_
  refine V_lneg (pc := 6) C dX0_pressOn_6 ?_
  refine V_aload_n (pc := 7) C dX0_pressOn_7 rfl 0 rfl ?_
  refine V_get (pc := 8) (v := .long be) C 0 0 5 hiX0_pressOn_0 rfl rfl (by decide) wX0_pressOn_k2 rfl dX0_pressOn_8 ?_
  refine V_lmul (pc := 11) C dX0_pressOn_11 ?_
  refine V_lstore_n (pc := 12) (lv' := [(2, .long ((-(rr (Int32.toNatClampNeg p0))) * be)), (0, .ref (a 0)), (1, .int p0)]) C dX0_pressOn_12 rfl (Nat.le_of_ble_eq_true rfl) rfl ?_
  refine V_iconst (pc := 13) (v := 0) C dX0_pressOn_13 rfl ?_
  refine V_istore (pc := 14) (lv' := [(4, .int (0 : Int32)), (2, .long ((-(rr (Int32.toNatClampNeg p0))) * be)), (0, .ref (a 0)), (1, .int p0)]) C dX0_pressOn_14 (Nat.le_of_ble_eq_true rfl) rfl ?_
  refine jn1_ok (P := (fun (x2_54 : Int64) => VW X D 5 Q (KR X) (0, 0) (wFit Y a rd rr mx ab pr be rs sz) [(2, .long x2_54)] 54 [])) (fun x2_54 h => ?_) (fun J54 hJ54 h => ?_) h
  · refine V_lload_n (pc := 54) C dX0_pressOn_54 rfl 0 rfl ?_
    cases h
    subst hQ
    exact V_lretR C dX0_pressOn_55
  refine V_sub [2, 3, 1, 0] rfl (wh2_ok (P := (fun (x2_16 : Int64) (x4_16 : Int32) => VW X D 5 Q (KR X) (0, 0) (wFit Y a rd rr mx ab pr be rs sz) [(0, .ref (a 0)), (1, .int p0), (2, .long x2_16), (4, .int x4_16)] 16 [])) (fun self16 ih16 x2_16 x4_16 h => ?_) 200 _ _ h)
  refine V_iload (pc := 16) C dX0_pressOn_16 3 rfl ?_
  refine V_aload_n (pc := 18) C dX0_pressOn_18 rfl 0 rfl ?_
  refine V_get (pc := 19) (v := .int sz) C 0 0 7 hiX0_pressOn_0 rfl rfl (by decide) wX0_pressOn_k3 rfl dX0_pressOn_19 ?_
  refine V_icmp_ge (pc := 22) C 54 dX0_pressOn_22 rfl (fun c22 => ?_) (fun c22 => ?_)
  · replace h := t_pos c22 h
    exact V_sub [2] rfl (hJ54 _ h)
  · replace h := t_neg c22 h
    refine V_lload_n (pc := 25) C dX0_pressOn_25 rfl 2 rfl ?_
    refine V_aload_n (pc := 26) C dX0_pressOn_26 rfl 0 rfl ?_
    refine V_get (pc := 27) (v := .ref (a 1)) C 0 0 0 hiX0_pressOn_0 rfl rfl (by decide) wX0_pressOn_k4 rfl dX0_pressOn_27 ?_
    refine V_iload (pc := 30) C dX0_pressOn_30 3 rfl ?_
    refine V_iload_n (pc := 32) C dX0_pressOn_32 rfl 1 rfl ?_
    refine V_isub (pc := 33) C dX0_pressOn_33 ?_
    refine V_mabs (pc := 34) C wX0_pressOn_k5 wX0_pressOn_k6 wX0_pressOn_k7 wX0_pressOn_k8 (Nat.le_of_ble_eq_true rfl) (Nat.le_of_ble_eq_true rfl) ⟨Nat.le_refl _, Nat.le_refl _⟩ dX0_pressOn_34 ?_
    obtain ⟨b37, h⟩ := chk_some h
    refine V_lald (pc := 37) C 1 rfl b37 dX0_pressOn_37 ?_
    refine V_aload_n (pc := 38) C dX0_pressOn_38 rfl 0 rfl ?_
    refine V_get (pc := 39) (v := .ref (a 4)) C 0 0 3 hiX0_pressOn_0 rfl rfl (by decide) wX0_pressOn_k9 rfl dX0_pressOn_39 ?_
    refine V_iload (pc := 42) C dX0_pressOn_42 3 rfl ?_
    obtain ⟨b44, h⟩ := chk_some h
    refine V_lald (pc := 44) C 4 rfl b44 dX0_pressOn_44 ?_
    refine V_lmul (pc := 45) C dX0_pressOn_45 ?_
    refine V_ladd (pc := 46) C dX0_pressOn_46 ?_
    refine V_lstore_n (pc := 47) (lv' := [(2, .long (x2_16 + ((rd (Int32.toNatClampNeg (if 0 ≤ (x4_16 - p0) then (x4_16 - p0) else 0 - (x4_16 - p0)))) * (ab (Int32.toNatClampNeg x4_16))))), (0, .ref (a 0)), (1, .int p0), (4, .int x4_16)]) C dX0_pressOn_47 rfl (Nat.le_of_ble_eq_true rfl) rfl ?_
    refine V_iinc (pc := 48) (v := (x4_16 + 1)) (lv' := [(4, .int (x4_16 + 1)), (2, .long (x2_16 + ((rd (Int32.toNatClampNeg (if 0 ≤ (x4_16 - p0) then (x4_16 - p0) else 0 - (x4_16 - p0)))) * (ab (Int32.toNatClampNeg x4_16))))), (0, .ref (a 0)), (1, .int p0)]) C dX0_pressOn_48 3 rfl rfl (Nat.le_of_ble_eq_true rfl) rfl ?_
    refine V_goto (pc := 51) C 16 dX0_pressOn_51 rfl ?_
    exact V_sub [2, 3, 1, 0] rfl (ih16 _ _ h)
def X0_fitsWith (rd : Nat → Int64) (rr : Nat → Int64) (mx : Nat → Int64) (ab : Nat → Int64) (pr : Nat → Int64) (be : Int64) (rs : Int64) (sz : Int32) (p0 : Int32) : Option (Int32 × (Nat → Int64) × (Nat → Int64) × (Nat → Int64) × Int64) :=
  ob2 (X0_determinant rd rr mx ab pr be rs sz p0 (4 : Int32)) fun r4 omx_4 =>
  jn1 (fun (s24_0 : Int32) => jn3 (fun (x2_86 : Int32) (mmx_86 : Nat → Int64) (mab_86 : Nat → Int64) => jn2 (fun (x2_134 : Int32) (mpr_134 : Nat → Int64) => chk (isB x2_134) (some (x2_134, mmx_86, mab_86, mpr_134, r4))) fun J134 =>
  wh3 (fun self88 (x2_88 : Int32) (x3_88 : Int32) (mpr_88 : Nat → Int64) =>
  if sz ≤ x3_88 then (J134 x2_88 mpr_88) else (if x2_88 = 0 then (J134 x2_88 mpr_88) else (ob1 (X0_pressOn rd rr mmx_86 mab_86 mpr_88 r4 rs sz x3_88) fun r107 =>
  chk (inB x3_88 4) (chk (inB x3_88 4) (jn1 (fun (s127_0 : Int32) => self88 s127_0 (x3_88 + 1) (vp_updL mpr_88 (Int32.toNatClampNeg x3_88) r107)) fun J127 =>
  if ((vp_updL mpr_88 (Int32.toNatClampNeg x3_88) r107) (Int32.toNatClampNeg x3_88)) < (0 : Int64) then (J127 (0 : Int32)) else (J127 (1 : Int32))))))) 200 x2_86 (0 : Int32) pr) fun J86 =>
  wh4 (fun self27 (x2_27 : Int32) (x3_27 : Int32) (mmx_27 : Nat → Int64) (mab_27 : Nat → Int64) =>
  if sz ≤ x3_27 then (J86 x2_27 mmx_27 mab_27) else (if x2_27 = 0 then (J86 x2_27 mmx_27 mab_27) else (ob1 (X0_isFree p0 x3_27) fun r46 =>
  jn3 (fun (s62_1 : Int32) (s62_2 : Int64) (mmx_62 : Nat → Int64) => chk (inB s62_1 4) (chk (inB x3_27 4) (jn1 (fun (s79_0 : Int32) => self27 s79_0 (x3_27 + 1) mmx_62 (vp_updL mab_27 (Int32.toNatClampNeg s62_1) s62_2)) fun J79 =>
  if ((vp_updL mab_27 (Int32.toNatClampNeg s62_1) s62_2) (Int32.toNatClampNeg x3_27)) < (0 : Int64) then (J79 (0 : Int32)) else (J79 (1 : Int32))))) fun J62 =>
  if r46 = 0 then (J62 x3_27 (0 : Int64) mmx_27) else (ob2 (X0_determinant rd rr mmx_27 mab_27 pr r4 rs sz p0 x3_27) fun r55 omx_55 =>
  J62 x3_27 r55 omx_55)))) 200 s24_0 (0 : Int32) omx_4 ab) fun J24 =>
  if r4 ≤ (0 : Int64) then (J24 (0 : Int32)) else (J24 (1 : Int32))
theorem wX0_fitsWith_k0 : Cond.fieldLink RX0 27 (TX0 5).1 (TX0 5).2.1 (TX0 5).2.2.1 ∈ wsX0_fitsWith := by decide +kernel
theorem hiX0_fitsWith_0 : ∀ w ∈ u_ws RX0 TX0 8, w ∈ wsX0_fitsWith := fun _ h => List.mem_cons_of_mem _ (List.mem_append_right _ h)
theorem wX0_fitsWith_k2 : Cond.fieldLink RX0 40 (TX0 7).1 (TX0 7).2.1 (TX0 7).2.2.1 ∈ wsX0_fitsWith := by decide +kernel
theorem wX0_fitsWith_k3 : Cond.fieldLink RX0 24 (TX0 4).1 (TX0 4).2.1 (TX0 4).2.2.1 ∈ wsX0_fitsWith := by decide +kernel
theorem wX0_fitsWith_k4 : Cond.fieldLink RX0 21 (TX0 3).1 (TX0 3).2.1 (TX0 3).2.2.1 ∈ wsX0_fitsWith := by decide +kernel
theorem hdX0_fitsWith : yX0_fitsWith.cls ≠ "java/lang/invoke/MethodHandle" ∧ yX0_fitsWith.cls ≠ "java/lang/invoke/VarHandle" ∧ (parseMethodDescriptor yX0_fitsWith.desc).map (fun d => d.parameters.length) = some 1 := by decide +kernel
set_option maxHeartbeats 4000000 in
set_option maxRecDepth 100000 in
theorem X0_fitsWith_ok {l : Launch} {D : va_G} {Y : Nat → ClassId} {a : Nat → Nat} {rd : Nat → Int64} {rr : Nat → Int64} {mx : Nat → Int64} {ab : Nat → Int64} {pr : Nat → Int64} {be : Int64} {rs : Int64} {sz : Int32} {p0 : Int32} {r : Int32} {umx : Nat → Int64} {uab : Nat → Int64} {upr : Nat → Int64} {ube : Int64} (h : X0_fitsWith rd rr mx ab pr be rs sz p0 = some (r, umx, uab, upr, ube)) : MW l yX0_fitsWith wsX0_fitsWith 3 70 D Y [.ref (a 0), .int p0] (wFit Y a rd rr mx ab pr be rs sz) (wFit Y a rd rr umx uab upr ube rs sz) (some (.int r)) := by
  refine MW_of (cc := cX0_fitsWith) (nL := 4) (ret := some .boolean) (lv0 := [(0, .ref (a 0)), (1, .int p0)]) (by decide) rfl (Nat.le_of_ble_eq_true rfl) rfl rfl (fun X Af Q C hA hQ => ?_)
  unfold X0_fitsWith at h
  refine V_aload_n (pc := 0) C dX0_fitsWith_0 rfl 0 rfl ?_
  refine V_aload_n (pc := 1) C dX0_fitsWith_1 rfl 0 rfl ?_
  refine V_iload_n (pc := 2) C dX0_fitsWith_2 rfl 1 rfl ?_
  refine V_iconst (pc := 3) (v := 4) C dX0_fitsWith_3 rfl ?_
  obtain ⟨r4, omx_4, hq, h⟩ := ob2_some h
  refine V_callVW (pc := 4) (rest := [.ref (a 0)]) (st2 := [.long r4, .ref (a 0)]) (ws' := wFit Y a rd rr omx_4 ab pr be rs sz) C hA (X0_determinant_ok (a := a) hq) gX0_fitsWith_X0_determinant rfl ⟨rfl, hdX0_determinant⟩ ⟨Nat.le_of_ble_eq_true rfl, Nat.le_of_ble_eq_true rfl⟩ ⟨Nat.le_refl _, Nat.le_refl _⟩ [0, 1, 2, 3, 4, 5] rfl rfl 0 0 rfl rfl rfl (Nat.le_of_ble_eq_true rfl) dX0_fitsWith_4 rfl rfl ?_
  refine V_put (pc := 7) (ws' := wFit Y a rd rr omx_4 ab pr r4 rs sz) C 0 0 5 hiX0_fitsWith_0 tyX0_ok nmX0 rfl rfl (by decide) wX0_fitsWith_k0 rfl rfl rfl (Nat.le_of_ble_eq_true rfl) dX0_fitsWith_7 rfl ?_
  refine V_aload_n (pc := 10) C dX0_fitsWith_10 rfl 0 rfl ?_
  refine V_get (pc := 11) (v := .long r4) C 0 0 5 hiX0_fitsWith_0 rfl rfl (by decide) wX0_fitsWith_k0 rfl dX0_fitsWith_11 ?_
  refine V_lconst (pc := 14) (v := 0) C dX0_fitsWith_14 rfl ?_
  refine V_lcmp (pc := 15) C dX0_fitsWith_15 ?_
  refine jn1_ok (P := (fun (s24_0 : Int32) => VW X D 4 Q (KM Af X) (0, 0) (wFit Y a rd rr omx_4 ab pr r4 rs sz) [(0, .ref (a 0)), (1, .int p0)] 24 [.int s24_0])) (fun s24_0 h => ?_) (fun J24 hJ24 h => ?_) h
  · refine V_istore_n (pc := 24) (lv' := [(2, .int s24_0), (0, .ref (a 0)), (1, .int p0)]) C dX0_fitsWith_24 rfl (Nat.le_of_ble_eq_true rfl) rfl ?_
    refine V_iconst (pc := 25) (v := 0) C dX0_fitsWith_25 rfl ?_
    refine V_istore_n (pc := 26) (lv' := [(3, .int (0 : Int32)), (2, .int s24_0), (0, .ref (a 0)), (1, .int p0)]) C dX0_fitsWith_26 rfl (Nat.le_of_ble_eq_true rfl) rfl ?_
    refine jn3_ok (P := (fun (x2_86 : Int32) (mmx_86 : Nat → Int64) (mab_86 : Nat → Int64) => VW X D 4 Q (KM Af X) (0, 0) (wFit Y a rd rr mmx_86 mab_86 pr r4 rs sz) [(0, .ref (a 0)), (2, .int x2_86)] 86 [])) (fun x2_86 mmx_86 mab_86 h => ?_) (fun J86 hJ86 h => ?_) h
    · refine V_iconst (pc := 86) (v := 0) C dX0_fitsWith_86 rfl ?_
      refine V_istore_n (pc := 87) (lv' := [(3, .int (0 : Int32)), (0, .ref (a 0)), (2, .int x2_86)]) C dX0_fitsWith_87 rfl (Nat.le_of_ble_eq_true rfl) rfl ?_
      refine jn2_ok (P := (fun (x2_134 : Int32) (mpr_134 : Nat → Int64) => VW X D 4 Q (KM Af X) (0, 0) (wFit Y a rd rr mmx_86 mab_86 mpr_134 r4 rs sz) [(2, .int x2_134)] 134 [])) (fun x2_134 mpr_134 h => ?_) (fun J134 hJ134 h => ?_) h
      · refine V_iload_n (pc := 134) C dX0_fitsWith_134 rfl 0 rfl ?_
        obtain ⟨b135, h⟩ := chk_some h
        cases h
        subst hQ
        exact V_zretW C (isB_n b135) dX0_fitsWith_135
      refine V_sub [1, 2, 0] rfl (wh3_ok (P := (fun (x2_88 : Int32) (x3_88 : Int32) (mpr_88 : Nat → Int64) => VW X D 4 Q (KM Af X) (0, 0) (wFit Y a rd rr mmx_86 mab_86 mpr_88 r4 rs sz) [(0, .ref (a 0)), (2, .int x2_88), (3, .int x3_88)] 88 [])) (fun self88 ih88 x2_88 x3_88 mpr_88 h => ?_) 200 _ _ _ h)
      refine V_iload_n (pc := 88) C dX0_fitsWith_88 rfl 2 rfl ?_
      refine V_aload_n (pc := 89) C dX0_fitsWith_89 rfl 0 rfl ?_
      refine V_get (pc := 90) (v := .int sz) C 0 0 7 hiX0_fitsWith_0 rfl rfl (by decide) wX0_fitsWith_k2 rfl dX0_fitsWith_90 ?_
      refine V_icmp_ge (pc := 93) C 134 dX0_fitsWith_93 rfl (fun c93 => ?_) (fun c93 => ?_)
      · replace h := t_pos c93 h
        exact V_sub [1] rfl (hJ134 _ _ h)
      · replace h := t_neg c93 h
        refine V_iload_n (pc := 96) C dX0_fitsWith_96 rfl 1 rfl ?_
        refine V_if_eq (pc := 97) C 134 dX0_fitsWith_97 rfl (fun c97 => ?_) (fun c97 => ?_)
        · replace h := t_pos c97 h
          exact V_sub [1] rfl (hJ134 _ _ h)
        · replace h := t_neg c97 h
          refine V_aload_n (pc := 100) C dX0_fitsWith_100 rfl 0 rfl ?_
          refine V_get (pc := 101) (v := .ref (a 5)) C 0 0 4 hiX0_fitsWith_0 rfl rfl (by decide) wX0_fitsWith_k3 rfl dX0_fitsWith_101 ?_
          refine V_iload_n (pc := 104) C dX0_fitsWith_104 rfl 2 rfl ?_
          refine V_aload_n (pc := 105) C dX0_fitsWith_105 rfl 0 rfl ?_
          refine V_iload_n (pc := 106) C dX0_fitsWith_106 rfl 2 rfl ?_
          obtain ⟨r107, hq, h⟩ := ob1_some h
          refine V_callVR (pc := 107) (rest := [.int x3_88, .ref (a 5)]) (st2 := [.long r107, .int x3_88, .ref (a 5)]) C (X0_pressOn_ok (a := a) hq) gX0_fitsWith_X0_pressOn rfl ⟨rfl, hdX0_pressOn⟩ ⟨Nat.le_of_ble_eq_true rfl, Nat.le_of_ble_eq_true rfl⟩ ⟨Nat.le_refl _, Nat.le_refl _⟩ [0, 1, 2, 3, 4, 5] rfl 0 0 rfl rfl rfl (Nat.le_of_ble_eq_true rfl) dX0_fitsWith_107 rfl ?_
          obtain ⟨b110, h⟩ := chk_some h
          refine V_last (pc := 110) (ws' := wFit Y a rd rr mmx_86 mab_86 (vp_updL mpr_88 (Int32.toNatClampNeg x3_88) r107) r4 rs sz) C 5 rfl b110 dX0_fitsWith_110 rfl ?_
          refine V_aload_n (pc := 111) C dX0_fitsWith_111 rfl 0 rfl ?_
          refine V_get (pc := 112) (v := .ref (a 5)) C 0 0 4 hiX0_fitsWith_0 rfl rfl (by decide) wX0_fitsWith_k3 rfl dX0_fitsWith_112 ?_
          refine V_iload_n (pc := 115) C dX0_fitsWith_115 rfl 2 rfl ?_
          obtain ⟨b116, h⟩ := chk_some h
          refine V_lald (pc := 116) C 5 rfl b116 dX0_fitsWith_116 ?_
          refine V_lconst (pc := 117) (v := 0) C dX0_fitsWith_117 rfl ?_
          refine V_lcmp (pc := 118) C dX0_fitsWith_118 ?_
          refine jn1_ok (P := (fun (s127_0 : Int32) => VW X D 4 Q (KM Af X) (0, 0) (wFit Y a rd rr mmx_86 mab_86 (vp_updL mpr_88 (Int32.toNatClampNeg x3_88) r107) r4 rs sz) [(0, .ref (a 0)), (3, .int x3_88)] 127 [.int s127_0])) (fun s127_0 h => ?_) (fun J127 hJ127 h => ?_) h
          · refine V_istore_n (pc := 127) (lv' := [(2, .int s127_0), (0, .ref (a 0)), (3, .int x3_88)]) C dX0_fitsWith_127 rfl (Nat.le_of_ble_eq_true rfl) rfl ?_
            refine V_iinc (pc := 128) (v := (x3_88 + 1)) (lv' := [(3, .int (x3_88 + 1)), (2, .int s127_0), (0, .ref (a 0))]) C dX0_fitsWith_128 2 rfl rfl (Nat.le_of_ble_eq_true rfl) rfl ?_
            refine V_goto (pc := 131) C 88 dX0_fitsWith_131 rfl ?_
            exact V_sub [2, 1, 0] rfl (ih88 _ _ _ h)
          refine V_lif_lt (pc := 119) C 126 dX0_fitsWith_119 rfl (fun c119 => ?_) (fun c119 => ?_)
          · replace h := t_pos c119 h
            refine V_iconst (pc := 126) (v := 0) C dX0_fitsWith_126 rfl ?_
            exact V_sub [0, 2] rfl (hJ127 _ h)
          · replace h := t_neg c119 h
            refine V_iconst (pc := 122) (v := 1) C dX0_fitsWith_122 rfl ?_
            refine V_goto (pc := 123) C 127 dX0_fitsWith_123 rfl ?_
            exact V_sub [0, 2] rfl (hJ127 _ h)
    refine V_sub [2, 3, 1, 0] rfl (wh4_ok (P := (fun (x2_27 : Int32) (x3_27 : Int32) (mmx_27 : Nat → Int64) (mab_27 : Nat → Int64) => VW X D 4 Q (KM Af X) (0, 0) (wFit Y a rd rr mmx_27 mab_27 pr r4 rs sz) [(0, .ref (a 0)), (1, .int p0), (2, .int x2_27), (3, .int x3_27)] 27 [])) (fun self27 ih27 x2_27 x3_27 mmx_27 mab_27 h => ?_) 200 _ _ _ _ h)
    refine V_iload_n (pc := 27) C dX0_fitsWith_27 rfl 3 rfl ?_
    refine V_aload_n (pc := 28) C dX0_fitsWith_28 rfl 0 rfl ?_
    refine V_get (pc := 29) (v := .int sz) C 0 0 7 hiX0_fitsWith_0 rfl rfl (by decide) wX0_fitsWith_k2 rfl dX0_fitsWith_29 ?_
    refine V_icmp_ge (pc := 32) C 86 dX0_fitsWith_32 rfl (fun c32 => ?_) (fun c32 => ?_)
    · replace h := t_pos c32 h
      exact V_sub [0, 2] rfl (hJ86 _ _ _ h)
    · replace h := t_neg c32 h
      refine V_iload_n (pc := 35) C dX0_fitsWith_35 rfl 2 rfl ?_
      refine V_if_eq (pc := 36) C 86 dX0_fitsWith_36 rfl (fun c36 => ?_) (fun c36 => ?_)
      · replace h := t_pos c36 h
        exact V_sub [0, 2] rfl (hJ86 _ _ _ h)
      · replace h := t_neg c36 h
        refine V_aload_n (pc := 39) C dX0_fitsWith_39 rfl 0 rfl ?_
        refine V_get (pc := 40) (v := .ref (a 4)) C 0 0 3 hiX0_fitsWith_0 rfl rfl (by decide) wX0_fitsWith_k4 rfl dX0_fitsWith_40 ?_
        refine V_iload_n (pc := 43) C dX0_fitsWith_43 rfl 3 rfl ?_
        refine V_iload_n (pc := 44) C dX0_fitsWith_44 rfl 1 rfl ?_
        refine V_iload_n (pc := 45) C dX0_fitsWith_45 rfl 3 rfl ?_
        obtain ⟨r46, hq, h⟩ := ob1_some h
        refine V_callSR (pc := 46) (rest := [.int x3_27, .ref (a 4)]) (st2 := [.int r46, .int x3_27, .ref (a 4)]) C (X0_isFree_ok hq) gX0_fitsWith_X0_isFree rfl hdX0_isFree ⟨Nat.le_of_ble_eq_true rfl, Nat.le_of_ble_eq_true rfl⟩ ⟨Nat.le_refl _, Nat.le_refl _⟩ [] rfl rfl (Nat.le_of_ble_eq_true rfl) dX0_fitsWith_46 rfl ?_
        refine jn3_ok (P := (fun (s62_1 : Int32) (s62_2 : Int64) (mmx_62 : Nat → Int64) => VW X D 4 Q (KM Af X) (0, 0) (wFit Y a rd rr mmx_62 mab_27 pr r4 rs sz) [(0, .ref (a 0)), (1, .int p0), (3, .int x3_27)] 62 [.long s62_2, .int s62_1, .ref (a 4)])) (fun s62_1 s62_2 mmx_62 h => ?_) (fun J62 hJ62 h => ?_) h
        · obtain ⟨b62, h⟩ := chk_some h
          refine V_last (pc := 62) (ws' := wFit Y a rd rr mmx_62 (vp_updL mab_27 (Int32.toNatClampNeg s62_1) s62_2) pr r4 rs sz) C 4 rfl b62 dX0_fitsWith_62 rfl ?_
          refine V_aload_n (pc := 63) C dX0_fitsWith_63 rfl 0 rfl ?_
          refine V_get (pc := 64) (v := .ref (a 4)) C 0 0 3 hiX0_fitsWith_0 rfl rfl (by decide) wX0_fitsWith_k4 rfl dX0_fitsWith_64 ?_
          refine V_iload_n (pc := 67) C dX0_fitsWith_67 rfl 2 rfl ?_
          obtain ⟨b68, h⟩ := chk_some h
          refine V_lald (pc := 68) C 4 rfl b68 dX0_fitsWith_68 ?_
          refine V_lconst (pc := 69) (v := 0) C dX0_fitsWith_69 rfl ?_
          refine V_lcmp (pc := 70) C dX0_fitsWith_70 ?_
          refine jn1_ok (P := (fun (s79_0 : Int32) => VW X D 4 Q (KM Af X) (0, 0) (wFit Y a rd rr mmx_62 (vp_updL mab_27 (Int32.toNatClampNeg s62_1) s62_2) pr r4 rs sz) [(0, .ref (a 0)), (1, .int p0), (3, .int x3_27)] 79 [.int s79_0])) (fun s79_0 h => ?_) (fun J79 hJ79 h => ?_) h
          · refine V_istore_n (pc := 79) (lv' := [(2, .int s79_0), (0, .ref (a 0)), (1, .int p0), (3, .int x3_27)]) C dX0_fitsWith_79 rfl (Nat.le_of_ble_eq_true rfl) rfl ?_
            refine V_iinc (pc := 80) (v := (x3_27 + 1)) (lv' := [(3, .int (x3_27 + 1)), (2, .int s79_0), (0, .ref (a 0)), (1, .int p0)]) C dX0_fitsWith_80 3 rfl rfl (Nat.le_of_ble_eq_true rfl) rfl ?_
            refine V_goto (pc := 83) C 27 dX0_fitsWith_83 rfl ?_
            exact V_sub [2, 3, 1, 0] rfl (ih27 _ _ _ _ h)
          refine V_lif_lt (pc := 71) C 78 dX0_fitsWith_71 rfl (fun c71 => ?_) (fun c71 => ?_)
          · replace h := t_pos c71 h
            refine V_iconst (pc := 78) (v := 0) C dX0_fitsWith_78 rfl ?_
            exact V_sub [0, 1, 2] rfl (hJ79 _ h)
          · replace h := t_neg c71 h
            refine V_iconst (pc := 74) (v := 1) C dX0_fitsWith_74 rfl ?_
            refine V_goto (pc := 75) C 79 dX0_fitsWith_75 rfl ?_
            exact V_sub [0, 1, 2] rfl (hJ79 _ h)
        refine V_if_eq (pc := 49) C 61 dX0_fitsWith_49 rfl (fun c49 => ?_) (fun c49 => ?_)
        · replace h := t_pos c49 h
          refine V_lconst (pc := 61) (v := 0) C dX0_fitsWith_61 rfl ?_
          exact V_sub [0, 1, 3] rfl (hJ62 _ _ _ h)
        · replace h := t_neg c49 h
          refine V_aload_n (pc := 52) C dX0_fitsWith_52 rfl 0 rfl ?_
          refine V_iload_n (pc := 53) C dX0_fitsWith_53 rfl 1 rfl ?_
          refine V_iload_n (pc := 54) C dX0_fitsWith_54 rfl 3 rfl ?_
          obtain ⟨r55, omx_55, hq, h⟩ := ob2_some h
          refine V_callVW (pc := 55) (rest := [.int x3_27, .ref (a 4)]) (st2 := [.long r55, .int x3_27, .ref (a 4)]) (ws' := wFit Y a rd rr omx_55 mab_27 pr r4 rs sz) C hA (X0_determinant_ok (a := a) hq) gX0_fitsWith_X0_determinant rfl ⟨rfl, hdX0_determinant⟩ ⟨Nat.le_of_ble_eq_true rfl, Nat.le_of_ble_eq_true rfl⟩ ⟨Nat.le_refl _, Nat.le_refl _⟩ [0, 1, 2, 3, 4, 5] rfl rfl 0 0 rfl rfl rfl (Nat.le_of_ble_eq_true rfl) dX0_fitsWith_55 rfl rfl ?_
          refine V_goto (pc := 58) C 62 dX0_fitsWith_58 rfl ?_
          exact V_sub [0, 1, 3] rfl (hJ62 _ _ _ h)
  refine V_lif_le (pc := 16) C 23 dX0_fitsWith_16 rfl (fun c16 => ?_) (fun c16 => ?_)
  · replace h := t_pos c16 h
    refine V_iconst (pc := 23) (v := 0) C dX0_fitsWith_23 rfl ?_
    exact V_sub [0, 1] rfl (hJ24 _ h)
  · replace h := t_neg c16 h
    refine V_iconst (pc := 19) (v := 1) C dX0_fitsWith_19 rfl ?_
    refine V_goto (pc := 20) C 24 dX0_fitsWith_20 rfl ?_
    exact V_sub [0, 1] rfl (hJ24 _ h)
