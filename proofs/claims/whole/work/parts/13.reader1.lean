def X1_read (pl : Int32) (ln : Int32) (ou : Int32) (im : Int32) (n1 : Int32) (f1 : Nat → Int32) (n2 : Int32) (f2 : Nat → Int32) (gx2 : Nat → Int32) (p1 : Int32) : Option (Int32 × Int32 × Int32 × Int32 × Int32 × Int32 × (Nat → Int32) × Int32 × (Nat → Int32)) :=
  ob6 (X1_begin pl ln ou im n1 f1 n2 f2) fun opl_1 oln_1 oou_1 oim_1 on1_1 on2_1 =>
  jn8 (fun (mpl_35 : Int32) (mln_35 : Int32) (mou_35 : Int32) (mim_35 : Int32) (mn1_35 : Int32) (mf1_35 : Nat → Int32) (mn2_35 : Int32) (mf2_35 : Nat → Int32) => some (p1, mpl_35, mln_35, mou_35, mim_35, mn1_35, mf1_35, mn2_35, mf2_35)) fun J35 =>
  jn9 (fun (x3_27 : Int32) (mpl_27 : Int32) (mln_27 : Int32) (mou_27 : Int32) (mim_27 : Int32) (mn1_27 : Int32) (mf1_27 : Nat → Int32) (mn2_27 : Int32) (mf2_27 : Nat → Int32) => some (x3_27, mpl_27, mln_27, mou_27, mim_27, mn1_27, mf1_27, mn2_27, mf2_27)) fun J27 =>
  wh9 (fun self6 (x3_6 : Int32) (mpl_6 : Int32) (mln_6 : Int32) (mou_6 : Int32) (mim_6 : Int32) (mn1_6 : Int32) (mf1_6 : Nat → Int32) (mn2_6 : Int32) (mf2_6 : Nat → Int32) =>
  if p1 ≤ x3_6 then (J35 mpl_6 mln_6 mou_6 mim_6 mn1_6 mf1_6 mn2_6 mf2_6) else (if (40 : Int32) ≤ x3_6 then (J35 mpl_6 mln_6 mou_6 mim_6 mn1_6 mf1_6 mn2_6 mf2_6) else (chk (inB x3_6 40) (ob9 (X1_goesOnWith mpl_6 mln_6 mou_6 mim_6 mn1_6 mf1_6 mn2_6 mf2_6 (gx2 (Int32.toNatClampNeg x3_6))) fun r21 opl_21 oln_21 oou_21 oim_21 on1_21 of1_21 on2_21 of2_21 =>
  if r21 = 0 then (J27 x3_6 opl_21 oln_21 oou_21 oim_21 on1_21 of1_21 on2_21 of2_21) else (self6 (x3_6 + 1) opl_21 oln_21 oou_21 oim_21 on1_21 of1_21 on2_21 of2_21))))) 200 (0 : Int32) opl_1 oln_1 oou_1 oim_1 on1_1 f1 on2_1 f2
theorem hdX1_read : yX1_read.cls ≠ "java/lang/invoke/MethodHandle" ∧ yX1_read.cls ≠ "java/lang/invoke/VarHandle" ∧ (parseMethodDescriptor yX1_read.desc).map (fun d => d.parameters.length) = some 2 := by decide +kernel
set_option maxHeartbeats 4000000 in
set_option maxRecDepth 100000 in
theorem X1_read_ok {l : Launch} {D : va_G} {Y : Nat → ClassId} {a : Nat → Nat} {ax2 : Nat} {pl : Int32} {ln : Int32} {ou : Int32} {im : Int32} {n1 : Int32} {f1 : Nat → Int32} {n2 : Int32} {f2 : Nat → Int32} {gx2 : Nat → Int32} {p1 : Int32} {r : Int32} {upl : Int32} {uln : Int32} {uou : Int32} {uim : Int32} {un1 : Int32} {uf1 : Nat → Int32} {un2 : Int32} {uf2 : Nat → Int32} (h : X1_read pl ln ou im n1 f1 n2 f2 gx2 p1 = some (r, upl, uln, uou, uim, un1, uf1, un2, uf2)) : MW l yX1_read wsX1_read 5 114 D Y [.ref (a 0), .ref ax2, .int p1] (wReader Y a pl ln ou im n1 f1 n2 f2 ++ wArr Y ax2 gx2) (wReader Y a upl uln uou uim un1 uf1 un2 uf2 ++ wArr Y ax2 gx2) (some (.int r)) := by
  refine MW_of (cc := cX1_read) (nL := 4) (ret := some .int) (lv0 := [(0, .ref (a 0)), (1, .ref ax2), (2, .int p1)]) (by decide) rfl (Nat.le_of_ble_eq_true rfl) rfl rfl (fun X Af Q C hA hQ => ?_)
  unfold X1_read at h
  refine V_aload_n (pc := 0) C dX1_read_0 rfl 0 rfl ?_
  obtain ⟨opl_1, oln_1, oou_1, oim_1, on1_1, on2_1, hq, h⟩ := ob6_some h
  refine V_callVW (pc := 1) (rest := []) (st2 := []) (ws' := wReader Y a opl_1 oln_1 oou_1 oim_1 on1_1 f1 on2_1 f2 ++ wArr Y ax2 gx2) C hA (X1_begin_ok (a := a) hq) gX1_read_X1_begin rfl ⟨rfl, hdX1_begin⟩ ⟨Nat.le_of_ble_eq_true rfl, Nat.le_of_ble_eq_true rfl⟩ ⟨Nat.le_refl _, Nat.le_refl _⟩ [0, 1, 2, 3, 4] rfl rfl 0 1 rfl rfl rfl (Nat.le_of_ble_eq_true rfl) dX1_read_1 rfl rfl ?_
  refine V_iconst (pc := 4) (v := 0) C dX1_read_4 rfl ?_
  refine V_istore_n (pc := 5) (lv' := [(3, .int (0 : Int32)), (0, .ref (a 0)), (1, .ref ax2), (2, .int p1)]) C dX1_read_5 rfl (Nat.le_of_ble_eq_true rfl) rfl ?_
  refine jn8_ok (P := (fun (mpl_35 : Int32) (mln_35 : Int32) (mou_35 : Int32) (mim_35 : Int32) (mn1_35 : Int32) (mf1_35 : Nat → Int32) (mn2_35 : Int32) (mf2_35 : Nat → Int32) => VW X D 4 Q (KM Af X) (0, 0) (wReader Y a mpl_35 mln_35 mou_35 mim_35 mn1_35 mf1_35 mn2_35 mf2_35 ++ wArr Y ax2 gx2) [(2, .int p1)] 35 [])) (fun mpl_35 mln_35 mou_35 mim_35 mn1_35 mf1_35 mn2_35 mf2_35 h => ?_) (fun J35 hJ35 h => ?_) h
  · refine V_iload_n (pc := 35) C dX1_read_35 rfl 0 rfl ?_
    cases h
    subst hQ
    exact V_iretW C dX1_read_36
  refine jn9_ok (P := (fun (x3_27 : Int32) (mpl_27 : Int32) (mln_27 : Int32) (mou_27 : Int32) (mim_27 : Int32) (mn1_27 : Int32) (mf1_27 : Nat → Int32) (mn2_27 : Int32) (mf2_27 : Nat → Int32) => VW X D 4 Q (KM Af X) (0, 0) (wReader Y a mpl_27 mln_27 mou_27 mim_27 mn1_27 mf1_27 mn2_27 mf2_27 ++ wArr Y ax2 gx2) [(3, .int x3_27)] 27 [])) (fun x3_27 mpl_27 mln_27 mou_27 mim_27 mn1_27 mf1_27 mn2_27 mf2_27 h => ?_) (fun J27 hJ27 h => ?_) h
  · refine V_iload_n (pc := 27) C dX1_read_27 rfl 0 rfl ?_
    cases h
    subst hQ
    exact V_iretW C dX1_read_28
  refine V_sub [1, 2, 3, 0] rfl (wh9_ok (P := (fun (x3_6 : Int32) (mpl_6 : Int32) (mln_6 : Int32) (mou_6 : Int32) (mim_6 : Int32) (mn1_6 : Int32) (mf1_6 : Nat → Int32) (mn2_6 : Int32) (mf2_6 : Nat → Int32) => VW X D 4 Q (KM Af X) (0, 0) (wReader Y a mpl_6 mln_6 mou_6 mim_6 mn1_6 mf1_6 mn2_6 mf2_6 ++ wArr Y ax2 gx2) [(0, .ref (a 0)), (1, .ref ax2), (2, .int p1), (3, .int x3_6)] 6 [])) (fun self6 ih6 x3_6 mpl_6 mln_6 mou_6 mim_6 mn1_6 mf1_6 mn2_6 mf2_6 h => ?_) 200 _ _ _ _ _ _ _ _ _ h)
  refine V_iload_n (pc := 6) C dX1_read_6 rfl 3 rfl ?_
  refine V_iload_n (pc := 7) C dX1_read_7 rfl 2 rfl ?_
  refine V_icmp_ge (pc := 8) C 35 dX1_read_8 rfl (fun c8 => ?_) (fun c8 => ?_)
  · replace h := t_pos c8 h
    exact V_sub [2] rfl (hJ35 _ _ _ _ _ _ _ _ h)
  · replace h := t_neg c8 h
    refine V_iload_n (pc := 11) C dX1_read_11 rfl 3 rfl ?_
    refine V_aload_n (pc := 12) C dX1_read_12 rfl 1 rfl ?_
    refine V_alen (pc := 13) (v := 40) C 5 0 rfl rfl rfl dX1_read_13 ?_
    refine V_icmp_ge (pc := 14) C 35 dX1_read_14 rfl (fun c14 => ?_) (fun c14 => ?_)
    · replace h := t_pos c14 h
      exact V_sub [2] rfl (hJ35 _ _ _ _ _ _ _ _ h)
    · replace h := t_neg c14 h
      refine V_aload_n (pc := 17) C dX1_read_17 rfl 0 rfl ?_
      refine V_aload_n (pc := 18) C dX1_read_18 rfl 1 rfl ?_
      refine V_iload_n (pc := 19) C dX1_read_19 rfl 3 rfl ?_
      obtain ⟨b20, h⟩ := chk_some h
      refine V_iald (pc := 20) C 5 rfl b20 dX1_read_20 ?_
      obtain ⟨r21, opl_21, oln_21, oou_21, oim_21, on1_21, of1_21, on2_21, of2_21, hq, h⟩ := ob9_some h
      refine V_callVW (pc := 21) (rest := []) (st2 := [.int r21]) (ws' := wReader Y a opl_21 oln_21 oou_21 oim_21 on1_21 of1_21 on2_21 of2_21 ++ wArr Y ax2 gx2) C hA (X1_goesOnWith_ok (a := a) hq) gX1_read_X1_goesOnWith rfl ⟨rfl, hdX1_goesOnWith⟩ ⟨Nat.le_of_ble_eq_true rfl, Nat.le_of_ble_eq_true rfl⟩ ⟨Nat.le_refl _, Nat.le_refl _⟩ [0, 1, 2, 3, 4] rfl rfl 0 1 rfl rfl rfl (Nat.le_of_ble_eq_true rfl) dX1_read_21 rfl rfl ?_
      refine V_if_ne (pc := 24) C 29 dX1_read_24 rfl (fun c24 => ?_) (fun c24 => ?_)
      · replace h := t_neg c24 h
        refine V_iinc (pc := 29) (v := (x3_6 + 1)) (lv' := [(3, .int (x3_6 + 1)), (0, .ref (a 0)), (1, .ref ax2), (2, .int p1)]) C dX1_read_29 3 rfl rfl (Nat.le_of_ble_eq_true rfl) rfl ?_
        refine V_goto (pc := 32) C 6 dX1_read_32 rfl ?_
        exact V_sub [1, 2, 3, 0] rfl (ih6 _ _ _ _ _ _ _ _ _ h)
      · replace h := t_pos c24 h
        exact V_sub [3] rfl (hJ27 _ _ _ _ _ _ _ _ _ h)
def X1_isWhole (pl : Int32) (ln : Int32) (ou : Int32) (im : Int32) (n1 : Int32) (f1 : Nat → Int32) (n2 : Int32) (f2 : Nat → Int32) : Option (Int32) :=
  if pl = (4 : Int32) then (if im = 0 then (some (0 : Int32)) else (some (1 : Int32))) else (some (0 : Int32))
theorem wX1_isWhole_k0 : Cond.fieldLink RX1 28 (TX1 2).1 (TX1 2).2.1 (TX1 2).2.2.1 ∈ wsX1_isWhole := by decide +kernel
theorem hiX1_isWhole_1 : ∀ w ∈ u_ws RX1 TX1 6, w ∈ wsX1_isWhole := fun _ h => List.mem_cons_of_mem _ (List.mem_append_right _ h)
theorem wX1_isWhole_k2 : Cond.fieldLink RX1 32 (TX1 5).1 (TX1 5).2.1 (TX1 5).2.2.1 ∈ wsX1_isWhole := by decide +kernel
theorem hdX1_isWhole : yX1_isWhole.cls ≠ "java/lang/invoke/MethodHandle" ∧ yX1_isWhole.cls ≠ "java/lang/invoke/VarHandle" ∧ (parseMethodDescriptor yX1_isWhole.desc).map (fun d => d.parameters.length) = some 0 := by decide +kernel
set_option maxHeartbeats 4000000 in
set_option maxRecDepth 100000 in
theorem X1_isWhole_ok {l : Launch} {D : va_G} {Y : Nat → ClassId} {a : Nat → Nat} {pl : Int32} {ln : Int32} {ou : Int32} {im : Int32} {n1 : Int32} {f1 : Nat → Int32} {n2 : Int32} {f2 : Nat → Int32} {r : Int32} (h : X1_isWhole pl ln ou im n1 f1 n2 f2 = some r) : MR l yX1_isWhole wsX1_isWhole 0 0 D Y [.ref (a 0)] (wReader Y a pl ln ou im n1 f1 n2 f2) (some (.int r)) := by
  refine MR_of (cc := cX1_isWhole) (nL := 1) (ret := some .boolean) (lv0 := [(0, .ref (a 0))]) (by decide) rfl (Nat.le_of_ble_eq_true rfl) rfl (fun X Q C hQ => ?_)
  unfold X1_isWhole at h
  refine V_aload_n (pc := 0) C dX1_isWhole_0 rfl 0 rfl ?_
  refine V_get (pc := 1) (v := .int pl) C 0 1 2 hiX1_isWhole_1 rfl rfl (by decide) wX1_isWhole_k0 rfl dX1_isWhole_1 ?_
  refine V_iconst (pc := 4) (v := 4) C dX1_isWhole_4 rfl ?_
  refine V_icmp_ne (pc := 5) C 19 dX1_isWhole_5 rfl (fun c5 => ?_) (fun c5 => ?_)
  · replace h := t_neg c5 h
    refine V_iconst (pc := 19) (v := 0) C dX1_isWhole_19 rfl ?_
    cases h
    subst hQ
    exact V_zretR C (by decide) dX1_isWhole_20
  · replace h := t_pos c5 h
    refine V_aload_n (pc := 8) C dX1_isWhole_8 rfl 0 rfl ?_
    refine V_get (pc := 9) (v := .int im) C 0 1 5 hiX1_isWhole_1 rfl rfl (by decide) wX1_isWhole_k2 rfl dX1_isWhole_9 ?_
    refine V_if_eq (pc := 12) C 19 dX1_isWhole_12 rfl (fun c12 => ?_) (fun c12 => ?_)
    · replace h := t_pos c12 h
      refine V_iconst (pc := 19) (v := 0) C dX1_isWhole_19 rfl ?_
      cases h
      subst hQ
      exact V_zretR C (by decide) dX1_isWhole_20
    · replace h := t_neg c12 h
      refine V_iconst (pc := 15) (v := 1) C dX1_isWhole_15 rfl ?_
      refine V_goto (pc := 16) C 20 dX1_isWhole_16 rfl ?_
      cases h
      subst hQ
      exact V_zretR C (by decide) dX1_isWhole_20
def X1_isOfUnit (pl : Int32) (ln : Int32) (ou : Int32) (im : Int32) (n1 : Int32) (f1 : Nat → Int32) (n2 : Int32) (f2 : Nat → Int32) : Option (Int32) :=
  chk (isB ou) (some ou)
theorem wX1_isOfUnit_k0 : Cond.fieldLink RX1 36 (TX1 4).1 (TX1 4).2.1 (TX1 4).2.2.1 ∈ wsX1_isOfUnit := by decide +kernel
theorem hiX1_isOfUnit_1 : ∀ w ∈ u_ws RX1 TX1 6, w ∈ wsX1_isOfUnit := fun _ h => List.mem_cons_of_mem _ (List.mem_append_right _ h)
theorem hdX1_isOfUnit : yX1_isOfUnit.cls ≠ "java/lang/invoke/MethodHandle" ∧ yX1_isOfUnit.cls ≠ "java/lang/invoke/VarHandle" ∧ (parseMethodDescriptor yX1_isOfUnit.desc).map (fun d => d.parameters.length) = some 0 := by decide +kernel
set_option maxHeartbeats 4000000 in
set_option maxRecDepth 100000 in
theorem X1_isOfUnit_ok {l : Launch} {D : va_G} {Y : Nat → ClassId} {a : Nat → Nat} {pl : Int32} {ln : Int32} {ou : Int32} {im : Int32} {n1 : Int32} {f1 : Nat → Int32} {n2 : Int32} {f2 : Nat → Int32} {r : Int32} (h : X1_isOfUnit pl ln ou im n1 f1 n2 f2 = some r) : MR l yX1_isOfUnit wsX1_isOfUnit 0 0 D Y [.ref (a 0)] (wReader Y a pl ln ou im n1 f1 n2 f2) (some (.int r)) := by
  refine MR_of (cc := cX1_isOfUnit) (nL := 1) (ret := some .boolean) (lv0 := [(0, .ref (a 0))]) (by decide) rfl (Nat.le_of_ble_eq_true rfl) rfl (fun X Q C hQ => ?_)
  unfold X1_isOfUnit at h
  refine V_aload_n (pc := 0) C dX1_isOfUnit_0 rfl 0 rfl ?_
  refine V_get (pc := 1) (v := .int ou) C 0 1 4 hiX1_isOfUnit_1 rfl rfl (by decide) wX1_isOfUnit_k0 rfl dX1_isOfUnit_1 ?_
  obtain ⟨b4, h⟩ := chk_some h
  cases h
  subst hQ
  exact V_zretR C (isB_n b4) dX1_isOfUnit_4
def X1_lengthOfUnit (pl : Int32) (ln : Int32) (ou : Int32) (im : Int32) (n1 : Int32) (f1 : Nat → Int32) (n2 : Int32) (f2 : Nat → Int32) : Option (Int32) :=
  some ln
theorem wX1_lengthOfUnit_k0 : Cond.fieldLink RX1 39 (TX1 3).1 (TX1 3).2.1 (TX1 3).2.2.1 ∈ wsX1_lengthOfUnit := by decide +kernel
theorem hiX1_lengthOfUnit_1 : ∀ w ∈ u_ws RX1 TX1 6, w ∈ wsX1_lengthOfUnit := fun _ h => List.mem_cons_of_mem _ (List.mem_append_right _ h)
theorem hdX1_lengthOfUnit : yX1_lengthOfUnit.cls ≠ "java/lang/invoke/MethodHandle" ∧ yX1_lengthOfUnit.cls ≠ "java/lang/invoke/VarHandle" ∧ (parseMethodDescriptor yX1_lengthOfUnit.desc).map (fun d => d.parameters.length) = some 0 := by decide +kernel
set_option maxHeartbeats 4000000 in
set_option maxRecDepth 100000 in
theorem X1_lengthOfUnit_ok {l : Launch} {D : va_G} {Y : Nat → ClassId} {a : Nat → Nat} {pl : Int32} {ln : Int32} {ou : Int32} {im : Int32} {n1 : Int32} {f1 : Nat → Int32} {n2 : Int32} {f2 : Nat → Int32} {r : Int32} (h : X1_lengthOfUnit pl ln ou im n1 f1 n2 f2 = some r) : MR l yX1_lengthOfUnit wsX1_lengthOfUnit 0 0 D Y [.ref (a 0)] (wReader Y a pl ln ou im n1 f1 n2 f2) (some (.int r)) := by
  refine MR_of (cc := cX1_lengthOfUnit) (nL := 1) (ret := some .int) (lv0 := [(0, .ref (a 0))]) (by decide) rfl (Nat.le_of_ble_eq_true rfl) rfl (fun X Q C hQ => ?_)
  unfold X1_lengthOfUnit at h
  refine V_aload_n (pc := 0) C dX1_lengthOfUnit_0 rfl 0 rfl ?_
  refine V_get (pc := 1) (v := .int ln) C 0 1 3 hiX1_lengthOfUnit_1 rfl rfl (by decide) wX1_lengthOfUnit_k0 rfl dX1_lengthOfUnit_1 ?_
  cases h
  subst hQ
  exact V_iretR C dX1_lengthOfUnit_4
