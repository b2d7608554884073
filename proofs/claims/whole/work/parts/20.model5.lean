def X6_layBest (I : Nat → Int32) (A : Nat → Nat → Int32) (F : Nat → Int64) (L : Nat → Nat → Int64) (p0 : Int32) (p1 : Int32) : Option ((Nat → Int64) × (Nat → Int64) × Int64 × (Nat → Int64) × (Nat → Int32) × Int64 × (Nat → Int64)) :=
  ob3 (X6_layProducts I A F L p0) fun oL25_2 oL26_2 oF27_2 =>
  ob4 (X6_solve I A (up F 27 oF27_2) (up (up L 25 oL25_2) 26 oL26_2) (0 : Int32) p1) fun oL28_10 oA29_10 oF30_10 oL31_10 =>
  wh5 (fun self13 (x3_13 : Int32) (mL28_13 : Nat → Int64) (mA29_13 : Nat → Int32) (mF30_13 : Int64) (mL31_13 : Nat → Int64) =>
  ob1 (X6_isBest I (up A 29 mA29_13) (up (up F 27 oF27_2) 30 mF30_13) (up (up (up (up L 25 oL25_2) 26 oL26_2) 28 mL28_13) 31 mL31_13) p1) fun r15 =>
  if r15 = 0 then (ob4 (X6_solve I (up A 29 mA29_13) (up (up F 27 oF27_2) 30 mF30_13) (up (up (up (up L 25 oL25_2) 26 oL26_2) 28 mL28_13) 31 mL31_13) (x3_13 + 1) p1) fun oL28_27 oA29_27 oF30_27 oL31_27 =>
  self13 (x3_13 + 1) oL28_27 oA29_27 oF30_27 oL31_27) else (some (oL25_2, oL26_2, oF27_2, mL28_13, mA29_13, mF30_13, mL31_13))) 200 (0 : Int32) oL28_10 oA29_10 oF30_10 oL31_10
theorem hdX6_layBest : yX6_layBest.cls ≠ "java/lang/invoke/MethodHandle" ∧ yX6_layBest.cls ≠ "java/lang/invoke/VarHandle" ∧ (parseMethodDescriptor yX6_layBest.desc).map (fun d => d.parameters.length) = some 2 := by decide +kernel
set_option maxHeartbeats 4000000 in
set_option maxRecDepth 100000 in
theorem X6_layBest_ok {l : Launch} {D : va_G} {Y : Nat → ClassId} {a : Nat → Nat} {I : Nat → Int32} {A : Nat → Nat → Int32} {F : Nat → Int64} {L : Nat → Nat → Int64} {p0 : Int32} {p1 : Int32} {uL25 : Nat → Int64} {uL26 : Nat → Int64} {uF27 : Int64} {uL28 : Nat → Int64} {uA29 : Nat → Int32} {uF30 : Int64} {uL31 : Nat → Int64} (h : X6_layBest I A F L p0 p1 = some (uL25, uL26, uF27, uL28, uA29, uF30, uL31)) : MW l yX6_layBest wsX6_layBest 3 69 D Y [.ref (a 0), .int p0, .int p1] (wM Y a I A F L) (wM Y a I (up A 29 uA29) (up (up F 27 uF27) 30 uF30) (up (up (up (up L 25 uL25) 26 uL26) 28 uL28) 31 uL31)) none := by
  refine MW_of (cc := cX6_layBest) (nL := 4) (ret := none) (lv0 := [(0, .ref (a 0)), (1, .int p0), (2, .int p1)]) (by decide) rfl (Nat.le_of_ble_eq_true rfl) rfl rfl (fun X Af Q C hA hQ => ?_)
  unfold X6_layBest at h
  refine V_aload_n (pc := 0) C dX6_layBest_0 rfl 0 rfl ?_
  refine V_iload_n (pc := 1) C dX6_layBest_1 rfl 1 rfl ?_
  obtain ⟨oL25_2, oL26_2, oF27_2, hq, h⟩ := ob3_some h
  refine V_callVW0 (pc := 2) (rest := []) (st2 := []) (ws' := wM Y a I A (up F 27 oF27_2) (up (up L 25 oL25_2) 26 oL26_2)) C hA (X6_layProducts_ok (a := a) hq) gX6_layBest_X6_layProducts rfl ⟨rfl, hdX6_layProducts⟩ ⟨Nat.le_of_ble_eq_true rfl, Nat.le_of_ble_eq_true rfl⟩ ⟨Nat.le_refl _, Nat.le_refl _⟩ 0 6 rfl rfl rfl (Nat.le_of_ble_eq_true rfl) dX6_layBest_2 rfl rfl ?_
  refine V_iconst (pc := 5) (v := 0) C dX6_layBest_5 rfl ?_
  refine V_istore_n (pc := 6) (lv' := [(3, .int (0 : Int32)), (0, .ref (a 0)), (1, .int p0), (2, .int p1)]) C dX6_layBest_6 rfl (Nat.le_of_ble_eq_true rfl) rfl ?_
  refine V_aload_n (pc := 7) C dX6_layBest_7 rfl 1 rfl ?_
  refine V_iload_n (pc := 8) C dX6_layBest_8 rfl 0 rfl ?_
  refine V_iload_n (pc := 9) C dX6_layBest_9 rfl 3 rfl ?_
  obtain ⟨oL28_10, oA29_10, oF30_10, oL31_10, hq, h⟩ := ob4_some h
  refine V_callVW0 (pc := 10) (rest := []) (st2 := []) (ws' := wM Y a I (up A 29 oA29_10) (up (up F 27 oF27_2) 30 oF30_10) (up (up (up (up L 25 oL25_2) 26 oL26_2) 28 oL28_10) 31 oL31_10)) C hA (X6_solve_ok (a := a) hq) gX6_layBest_X6_solve rfl ⟨rfl, hdX6_solve⟩ ⟨Nat.le_of_ble_eq_true rfl, Nat.le_of_ble_eq_true rfl⟩ ⟨Nat.le_refl _, Nat.le_refl _⟩ 0 6 rfl rfl rfl (Nat.le_of_ble_eq_true rfl) dX6_layBest_10 rfl rfl ?_
  refine V_sub [1, 3, 0] rfl (wh5_ok (P := (fun (x3_13 : Int32) (mL28_13 : Nat → Int64) (mA29_13 : Nat → Int32) (mF30_13 : Int64) (mL31_13 : Nat → Int64) => VW X D 4 Q (KM Af X) (0, 0) (wM Y a I (up A 29 mA29_13) (up (up F 27 oF27_2) 30 mF30_13) (up (up (up (up L 25 oL25_2) 26 oL26_2) 28 mL28_13) 31 mL31_13)) [(0, .ref (a 0)), (2, .int p1), (3, .int x3_13)] 13 [])) (fun self13 ih13 x3_13 mL28_13 mA29_13 mF30_13 mL31_13 h => ?_) 200 _ _ _ _ _ h)
  refine V_aload_n (pc := 13) C dX6_layBest_13 rfl 0 rfl ?_
  refine V_iload_n (pc := 14) C dX6_layBest_14 rfl 1 rfl ?_
  obtain ⟨r15, hq, h⟩ := ob1_some h
  refine V_callVR0 (pc := 15) (rest := []) (st2 := [.int r15]) C (X6_isBest_ok (a := a) hq) gX6_layBest_X6_isBest rfl ⟨rfl, hdX6_isBest⟩ ⟨Nat.le_of_ble_eq_true rfl, Nat.le_of_ble_eq_true rfl⟩ ⟨Nat.le_refl _, Nat.le_refl _⟩ 0 6 rfl rfl rfl (Nat.le_of_ble_eq_true rfl) dX6_layBest_15 rfl ?_
  refine V_if_ne (pc := 18) C 33 dX6_layBest_18 rfl (fun c18 => ?_) (fun c18 => ?_)
  · replace h := t_neg c18 h
    cases h
    subst hQ
    exact V_vretW C dX6_layBest_33
  · replace h := t_pos c18 h
    refine V_iinc (pc := 21) (v := (x3_13 + 1)) (lv' := [(3, .int (x3_13 + 1)), (0, .ref (a 0)), (2, .int p1)]) C dX6_layBest_21 2 rfl rfl (Nat.le_of_ble_eq_true rfl) rfl ?_
    refine V_aload_n (pc := 24) C dX6_layBest_24 rfl 1 rfl ?_
    refine V_iload_n (pc := 25) C dX6_layBest_25 rfl 0 rfl ?_
    refine V_iload_n (pc := 26) C dX6_layBest_26 rfl 2 rfl ?_
    obtain ⟨oL28_27, oA29_27, oF30_27, oL31_27, hq, h⟩ := ob4_some h
    refine V_callVW0 (pc := 27) (rest := []) (st2 := []) (ws' := wM Y a I (up A 29 oA29_27) (up (up F 27 oF27_2) 30 oF30_27) (up (up (up (up L 25 oL25_2) 26 oL26_2) 28 oL28_27) 31 oL31_27)) C hA (X6_solve_ok (a := a) hq) gX6_layBest_X6_solve rfl ⟨rfl, hdX6_solve⟩ ⟨Nat.le_of_ble_eq_true rfl, Nat.le_of_ble_eq_true rfl⟩ ⟨Nat.le_refl _, Nat.le_refl _⟩ 0 6 rfl rfl rfl (Nat.le_of_ble_eq_true rfl) dX6_layBest_27 rfl rfl ?_
    refine V_goto (pc := 30) C 13 dX6_layBest_30 rfl ?_
    exact V_sub [1, 2, 0] rfl (ih13 _ _ _ _ _ h)
def X6_isAsk (I : Nat → Int32) (A : Nat → Nat → Int32) (F : Nat → Int64) (L : Nat → Nat → Int64) (p0 : Int32) (p1 : Int32) : Option (Int32) :=
  ob1 (X6_within p0 (1 : Int32) (((1 : Int32) <<< ((I 2) &&& 31)) - (1 : Int32))) fun r10 =>
  if r10 = 0 then (some (0 : Int32)) else (ob1 (X6_within p1 (1 : Int32) (4 : Int32)) fun r19 =>
  if r19 = 0 then (some (0 : Int32)) else (some (1 : Int32)))
theorem wX6_isAsk_k0 : Cond.fieldLink RX6 114 (TX6 2).1 (TX6 2).2.1 (TX6 2).2.2.1 ∈ wsX6_isAsk := by decide +kernel
theorem hiX6_isAsk_6 : ∀ w ∈ u_ws RX6 TX6 33, w ∈ wsX6_isAsk := fun _ h => List.mem_cons_of_mem _ (List.mem_append_right _ h)
theorem hdX6_isAsk : yX6_isAsk.cls ≠ "java/lang/invoke/MethodHandle" ∧ yX6_isAsk.cls ≠ "java/lang/invoke/VarHandle" ∧ (parseMethodDescriptor yX6_isAsk.desc).map (fun d => d.parameters.length) = some 2 := by decide +kernel
set_option maxHeartbeats 4000000 in
set_option maxRecDepth 100000 in
theorem X6_isAsk_ok {l : Launch} {D : va_G} {Y : Nat → ClassId} {a : Nat → Nat} {I : Nat → Int32} {A : Nat → Nat → Int32} {F : Nat → Int64} {L : Nat → Nat → Int64} {p0 : Int32} {p1 : Int32} {r : Int32} (h : X6_isAsk I A F L p0 p1 = some r) : MR l yX6_isAsk wsX6_isAsk 1 22 D Y [.ref (a 0), .int p0, .int p1] (wM Y a I A F L) (some (.int r)) := by
  refine MR_of (cc := cX6_isAsk) (nL := 3) (ret := some .boolean) (lv0 := [(0, .ref (a 0)), (1, .int p0), (2, .int p1)]) (by decide) rfl (Nat.le_of_ble_eq_true rfl) rfl (fun X Q C hQ => ?_)
  unfold X6_isAsk at h
  refine V_iload_n (pc := 0) C dX6_isAsk_0 rfl 1 rfl ?_
  refine V_iconst (pc := 1) (v := 1) C dX6_isAsk_1 rfl ?_
  refine V_iconst (pc := 2) (v := 1) C dX6_isAsk_2 rfl ?_
  refine V_aload_n (pc := 3) C dX6_isAsk_3 rfl 0 rfl ?_
  refine V_get (pc := 4) (v := .int (I 2)) C 0 6 2 hiX6_isAsk_6 rfl rfl (by decide) wX6_isAsk_k0 rfl dX6_isAsk_4 ?_
  refine V_ishl (pc := 7) C dX6_isAsk_7 ?_
  refine V_iconst (pc := 8) (v := 1) C dX6_isAsk_8 rfl ?_
  refine V_isub (pc := 9) C dX6_isAsk_9 ?_
  obtain ⟨r10, hq, h⟩ := ob1_some h
  refine V_callSR (pc := 10) (rest := []) (st2 := [.int r10]) C (X6_within_ok hq) gX6_isAsk_X6_within rfl hdX6_within ⟨Nat.le_of_ble_eq_true rfl, Nat.le_of_ble_eq_true rfl⟩ ⟨Nat.le_refl _, Nat.le_refl _⟩ [] rfl rfl (Nat.le_of_ble_eq_true rfl) dX6_isAsk_10 rfl ?_
  refine V_if_eq (pc := 13) C 29 dX6_isAsk_13 rfl (fun c13 => ?_) (fun c13 => ?_)
  · replace h := t_pos c13 h
    refine V_iconst (pc := 29) (v := 0) C dX6_isAsk_29 rfl ?_
    cases h
    subst hQ
    exact V_zretR C (by decide) dX6_isAsk_30
  · replace h := t_neg c13 h
    refine V_iload_n (pc := 16) C dX6_isAsk_16 rfl 2 rfl ?_
    refine V_iconst (pc := 17) (v := 1) C dX6_isAsk_17 rfl ?_
    refine V_iconst (pc := 18) (v := 4) C dX6_isAsk_18 rfl ?_
    obtain ⟨r19, hq, h⟩ := ob1_some h
    refine V_callSR (pc := 19) (rest := []) (st2 := [.int r19]) C (X6_within_ok hq) gX6_isAsk_X6_within rfl hdX6_within ⟨Nat.le_of_ble_eq_true rfl, Nat.le_of_ble_eq_true rfl⟩ ⟨Nat.le_refl _, Nat.le_refl _⟩ [] rfl rfl (Nat.le_of_ble_eq_true rfl) dX6_isAsk_19 rfl ?_
    refine V_if_eq (pc := 22) C 29 dX6_isAsk_22 rfl (fun c22 => ?_) (fun c22 => ?_)
    · replace h := t_pos c22 h
      refine V_iconst (pc := 29) (v := 0) C dX6_isAsk_29 rfl ?_
      cases h
      subst hQ
      exact V_zretR C (by decide) dX6_isAsk_30
    · replace h := t_neg c22 h
      refine V_iconst (pc := 25) (v := 1) C dX6_isAsk_25 rfl ?_
      refine V_goto (pc := 26) C 30 dX6_isAsk_26 rfl ?_
      cases h
      subst hQ
      exact V_zretR C (by decide) dX6_isAsk_30
def X6_bestNow (I : Nat → Int32) (A : Nat → Nat → Int32) (F : Nat → Int64) (L : Nat → Nat → Int64) (p0 : Int32) (p1 : Int32) (p2 : Int32) (p3 : Int32) : Option (Int64 × (Nat → Int64) × (Nat → Int64) × Int64 × (Nat → Int64) × (Nat → Int32) × Int64 × (Nat → Int64)) :=
  ob7 (X6_layBest I A F L p0 p1) fun oL25_3 oL26_3 oF27_3 oL28_3 oA29_3 oF30_3 oL31_3 =>
  chk (inB p2 4) (ob1 (X6_lowest (oL31_3 (Int32.toNatClampNeg p2)) oF30_3 p3) fun r18 =>
  some (r18, oL25_3, oL26_3, oF27_3, oL28_3, oA29_3, oF30_3, oL31_3))
theorem wX6_bestNow_k0 : Cond.fieldLink RX6 56 (TX6 31).1 (TX6 31).2.1 (TX6 31).2.2.1 ∈ wsX6_bestNow := by decide +kernel
theorem hiX6_bestNow_6 : ∀ w ∈ u_ws RX6 TX6 33, w ∈ wsX6_bestNow := fun _ h => List.mem_cons_of_mem _ (List.mem_append_right _ h)
theorem wX6_bestNow_k2 : Cond.fieldLink RX6 207 (TX6 30).1 (TX6 30).2.1 (TX6 30).2.2.1 ∈ wsX6_bestNow := by decide +kernel
theorem hdX6_bestNow : yX6_bestNow.cls ≠ "java/lang/invoke/MethodHandle" ∧ yX6_bestNow.cls ≠ "java/lang/invoke/VarHandle" ∧ (parseMethodDescriptor yX6_bestNow.desc).map (fun d => d.parameters.length) = some 4 := by decide +kernel
set_option maxHeartbeats 4000000 in
set_option maxRecDepth 100000 in
theorem X6_bestNow_ok {l : Launch} {D : va_G} {Y : Nat → ClassId} {a : Nat → Nat} {I : Nat → Int32} {A : Nat → Nat → Int32} {F : Nat → Int64} {L : Nat → Nat → Int64} {p0 : Int32} {p1 : Int32} {p2 : Int32} {p3 : Int32} {r : Int64} {uL25 : Nat → Int64} {uL26 : Nat → Int64} {uF27 : Int64} {uL28 : Nat → Int64} {uA29 : Nat → Int32} {uF30 : Int64} {uL31 : Nat → Int64} (h : X6_bestNow I A F L p0 p1 p2 p3 = some (r, uL25, uL26, uF27, uL28, uA29, uF30, uL31)) : MW l yX6_bestNow wsX6_bestNow 4 92 D Y [.ref (a 0), .int p0, .int p1, .int p2, .int p3] (wM Y a I A F L) (wM Y a I (up A 29 uA29) (up (up F 27 uF27) 30 uF30) (up (up (up (up L 25 uL25) 26 uL26) 28 uL28) 31 uL31)) (some (.long r)) := by
  refine MW_of (cc := cX6_bestNow) (nL := 5) (ret := some .long) (lv0 := [(0, .ref (a 0)), (1, .int p0), (2, .int p1), (3, .int p2), (4, .int p3)]) (by decide) rfl (Nat.le_of_ble_eq_true rfl) rfl rfl (fun X Af Q C hA hQ => ?_)
  unfold X6_bestNow at h
  refine V_aload_n (pc := 0) C dX6_bestNow_0 rfl 0 rfl ?_
  refine V_iload_n (pc := 1) C dX6_bestNow_1 rfl 1 rfl ?_
  refine V_iload_n (pc := 2) C dX6_bestNow_2 rfl 2 rfl ?_
  obtain ⟨oL25_3, oL26_3, oF27_3, oL28_3, oA29_3, oF30_3, oL31_3, hq, h⟩ := ob7_some h
  refine V_callVW0 (pc := 3) (rest := []) (st2 := []) (ws' := wM Y a I (up A 29 oA29_3) (up (up F 27 oF27_3) 30 oF30_3) (up (up (up (up L 25 oL25_3) 26 oL26_3) 28 oL28_3) 31 oL31_3)) C hA (X6_layBest_ok (a := a) hq) gX6_bestNow_X6_layBest rfl ⟨rfl, hdX6_layBest⟩ ⟨Nat.le_of_ble_eq_true rfl, Nat.le_of_ble_eq_true rfl⟩ ⟨Nat.le_refl _, Nat.le_refl _⟩ 0 6 rfl rfl rfl (Nat.le_of_ble_eq_true rfl) dX6_bestNow_3 rfl rfl ?_
  refine V_aload_n (pc := 6) C dX6_bestNow_6 rfl 0 rfl ?_
  refine V_get (pc := 7) (v := .ref (a 16)) C 0 6 31 hiX6_bestNow_6 rfl rfl (by decide) wX6_bestNow_k0 rfl dX6_bestNow_7 ?_
  refine V_iload_n (pc := 10) C dX6_bestNow_10 rfl 3 rfl ?_
  obtain ⟨b11, h⟩ := chk_some h
  refine V_lald (pc := 11) C 16 rfl b11 dX6_bestNow_11 ?_
  refine V_aload_n (pc := 12) C dX6_bestNow_12 rfl 0 rfl ?_
  refine V_get (pc := 13) (v := .long oF30_3) C 0 6 30 hiX6_bestNow_6 rfl rfl (by decide) wX6_bestNow_k2 rfl dX6_bestNow_13 ?_
  refine V_iload (pc := 16) C dX6_bestNow_16 4 rfl ?_
  obtain ⟨r18, hq, h⟩ := ob1_some h
  refine V_callSR (pc := 18) (rest := []) (st2 := [.long r18]) C (X6_lowest_ok hq) gX6_bestNow_X6_lowest rfl hdX6_lowest ⟨Nat.le_of_ble_eq_true rfl, Nat.le_of_ble_eq_true rfl⟩ ⟨Nat.le_refl _, Nat.le_refl _⟩ [] rfl rfl (Nat.le_of_ble_eq_true rfl) dX6_bestNow_18 rfl ?_
  cases h
  subst hQ
  exact V_lretW C dX6_bestNow_21
def X6_best (I : Nat → Int32) (A : Nat → Nat → Int32) (F : Nat → Int64) (L : Nat → Nat → Int64) (p0 : Int32) (p1 : Int32) (p2 : Int32) (p3 : Int32) : Option (Int64 × (Nat → Int64) × (Nat → Int64) × Int64 × (Nat → Int64) × (Nat → Int32) × Int64 × (Nat → Int64)) :=
  ob1 (X6_isAsk I A F L p0 p1) fun r3 =>
  jn0 (some ((-1000003 : Int64), (L 25), (L 26), (F 27), (L 28), (A 29), (F 30), (L 31))) fun J42 =>
  if r3 = 0 then (J42) else (ob1 (X6_within p2 (0 : Int32) (p1 - (1 : Int32))) fun r14 =>
  if r14 = 0 then (J42) else (ob1 (X6_within p3 (0 : Int32) (1 : Int32)) fun r24 =>
  if r24 = 0 then (J42) else (ob8 (X6_bestNow I A F L p0 p1 p2 p3) fun r36 oL25_36 oL26_36 oF27_36 oL28_36 oA29_36 oF30_36 oL31_36 =>
  some (r36, oL25_36, oL26_36, oF27_36, oL28_36, oA29_36, oF30_36, oL31_36))))
theorem wX6_best_k0 : Cond.constantLong RX6 239 (-1000003) ∈ wsX6_best := by decide +kernel
theorem hdX6_best : yX6_best.cls ≠ "java/lang/invoke/MethodHandle" ∧ yX6_best.cls ≠ "java/lang/invoke/VarHandle" ∧ (parseMethodDescriptor yX6_best.desc).map (fun d => d.parameters.length) = some 4 := by decide +kernel
set_option maxHeartbeats 4000000 in
set_option maxRecDepth 100000 in
theorem X6_best_ok {l : Launch} {D : va_G} {Y : Nat → ClassId} {a : Nat → Nat} {I : Nat → Int32} {A : Nat → Nat → Int32} {F : Nat → Int64} {L : Nat → Nat → Int64} {p0 : Int32} {p1 : Int32} {p2 : Int32} {p3 : Int32} {r : Int64} {uL25 : Nat → Int64} {uL26 : Nat → Int64} {uF27 : Int64} {uL28 : Nat → Int64} {uA29 : Nat → Int32} {uF30 : Int64} {uL31 : Nat → Int64} (h : X6_best I A F L p0 p1 p2 p3 = some (r, uL25, uL26, uF27, uL28, uA29, uF30, uL31)) : MW l yX6_best wsX6_best 5 116 D Y [.ref (a 0), .int p0, .int p1, .int p2, .int p3] (wM Y a I A F L) (wM Y a I (up A 29 uA29) (up (up F 27 uF27) 30 uF30) (up (up (up (up L 25 uL25) 26 uL26) 28 uL28) 31 uL31)) (some (.long r)) := by
  refine MW_of (cc := cX6_best) (nL := 5) (ret := some .long) (lv0 := [(0, .ref (a 0)), (1, .int p0), (2, .int p1), (3, .int p2), (4, .int p3)]) (by decide) rfl (Nat.le_of_ble_eq_true rfl) rfl rfl (fun X Af Q C hA hQ => ?_)
  unfold X6_best at h
  refine V_aload_n (pc := 0) C dX6_best_0 rfl 0 rfl ?_
  refine V_iload_n (pc := 1) C dX6_best_1 rfl 1 rfl ?_
  refine V_iload_n (pc := 2) C dX6_best_2 rfl 2 rfl ?_
  obtain ⟨r3, hq, h⟩ := ob1_some h
  refine V_callVR0 (pc := 3) (rest := []) (st2 := [.int r3]) C (X6_isAsk_ok (a := a) hq) gX6_best_X6_isAsk rfl ⟨rfl, hdX6_isAsk⟩ ⟨Nat.le_of_ble_eq_true rfl, Nat.le_of_ble_eq_true rfl⟩ ⟨Nat.le_refl _, Nat.le_refl _⟩ 0 6 rfl rfl rfl (Nat.le_of_ble_eq_true rfl) dX6_best_3 rfl ?_
  refine jn0_ok (P := (VW X D 5 Q (KM Af X) (0, 0) (wM Y a I A F L) [] 42 [])) (fun h => ?_) (fun J42 hJ42 h => ?_) h
  · refine V_ldc2 (pc := 42) (v := -1000003) C dX6_best_42 wX6_best_k0 ?_
    cases h
    subst hQ
    exact V_lretW C dX6_best_45
  refine V_if_eq (pc := 6) C 42 dX6_best_6 rfl (fun c6 => ?_) (fun c6 => ?_)
  · replace h := t_pos c6 h
    exact V_sub [] rfl (hJ42 h)
  · replace h := t_neg c6 h
    refine V_iload_n (pc := 9) C dX6_best_9 rfl 3 rfl ?_
    refine V_iconst (pc := 10) (v := 0) C dX6_best_10 rfl ?_
    refine V_iload_n (pc := 11) C dX6_best_11 rfl 2 rfl ?_
    refine V_iconst (pc := 12) (v := 1) C dX6_best_12 rfl ?_
    refine V_isub (pc := 13) C dX6_best_13 ?_
    obtain ⟨r14, hq, h⟩ := ob1_some h
    refine V_callSR (pc := 14) (rest := []) (st2 := [.int r14]) C (X6_within_ok hq) gX6_best_X6_within rfl hdX6_within ⟨Nat.le_of_ble_eq_true rfl, Nat.le_of_ble_eq_true rfl⟩ ⟨Nat.le_refl _, Nat.le_refl _⟩ [] rfl rfl (Nat.le_of_ble_eq_true rfl) dX6_best_14 rfl ?_
    refine V_if_eq (pc := 17) C 42 dX6_best_17 rfl (fun c17 => ?_) (fun c17 => ?_)
    · replace h := t_pos c17 h
      exact V_sub [] rfl (hJ42 h)
    · replace h := t_neg c17 h
      refine V_iload (pc := 20) C dX6_best_20 4 rfl ?_
      refine V_iconst (pc := 22) (v := 0) C dX6_best_22 rfl ?_
      refine V_iconst (pc := 23) (v := 1) C dX6_best_23 rfl ?_
      obtain ⟨r24, hq, h⟩ := ob1_some h
      refine V_callSR (pc := 24) (rest := []) (st2 := [.int r24]) C (X6_within_ok hq) gX6_best_X6_within rfl hdX6_within ⟨Nat.le_of_ble_eq_true rfl, Nat.le_of_ble_eq_true rfl⟩ ⟨Nat.le_refl _, Nat.le_refl _⟩ [] rfl rfl (Nat.le_of_ble_eq_true rfl) dX6_best_24 rfl ?_
      refine V_if_eq (pc := 27) C 42 dX6_best_27 rfl (fun c27 => ?_) (fun c27 => ?_)
      · replace h := t_pos c27 h
        exact V_sub [] rfl (hJ42 h)
      · replace h := t_neg c27 h
        refine V_aload_n (pc := 30) C dX6_best_30 rfl 0 rfl ?_
        refine V_iload_n (pc := 31) C dX6_best_31 rfl 1 rfl ?_
        refine V_iload_n (pc := 32) C dX6_best_32 rfl 2 rfl ?_
        refine V_iload_n (pc := 33) C dX6_best_33 rfl 3 rfl ?_
        refine V_iload (pc := 34) C dX6_best_34 4 rfl ?_
        obtain ⟨r36, oL25_36, oL26_36, oF27_36, oL28_36, oA29_36, oF30_36, oL31_36, hq, h⟩ := ob8_some h
        refine V_callVW0 (pc := 36) (rest := []) (st2 := [.long r36]) (ws' := wM Y a I (up A 29 oA29_36) (up (up F 27 oF27_36) 30 oF30_36) (up (up (up (up L 25 oL25_36) 26 oL26_36) 28 oL28_36) 31 oL31_36)) C hA (X6_bestNow_ok (a := a) hq) gX6_best_X6_bestNow rfl ⟨rfl, hdX6_bestNow⟩ ⟨Nat.le_of_ble_eq_true rfl, Nat.le_of_ble_eq_true rfl⟩ ⟨Nat.le_refl _, Nat.le_refl _⟩ 0 6 rfl rfl rfl (Nat.le_of_ble_eq_true rfl) dX6_best_36 rfl rfl ?_
        refine V_goto (pc := 39) C 45 dX6_best_39 rfl ?_
        cases h
        subst hQ
        exact V_lretW C dX6_best_45
def X6_lossNow (I : Nat → Int32) (A : Nat → Nat → Int32) (F : Nat → Int64) (L : Nat → Nat → Int64) (p0 : Int32) (p1 : Int32) (p2 : Int32) : Option (Int64 × (Nat → Int64) × (Nat → Int64) × Int64 × (Nat → Int64) × (Nat → Int32) × Int64 × (Nat → Int64)) :=
  ob7 (X6_layBest I A F L p0 p1) fun oL25_3 oL26_3 oF27_3 oL28_3 oA29_3 oF30_3 oL31_3 =>
  jn1 (fun (x4_52 : Int64) => ob1 (X6_lowest x4_52 oF30_3 p2) fun r59 =>
  some (r59, oL25_3, oL26_3, oF27_3, oL28_3, oA29_3, oF30_3, oL31_3)) fun J52 =>
  wh2 (fun self20 (x4_20 : Int64) (x6_20 : Int32) =>
  if p1 ≤ x6_20 then (J52 x4_20) else (chk (inB x6_20 4) (chk (inB x6_20 4) (self20 (x4_20 - ((oL31_3 (Int32.toNatClampNeg x6_20)) * (oL26_3 (Int32.toNatClampNeg x6_20)))) (x6_20 + 1))))) 200 (oF27_3 * oF30_3) (0 : Int32)
theorem wX6_lossNow_k0 : Cond.fieldLink RX6 200 (TX6 27).1 (TX6 27).2.1 (TX6 27).2.2.1 ∈ wsX6_lossNow := by decide +kernel
theorem hiX6_lossNow_6 : ∀ w ∈ u_ws RX6 TX6 33, w ∈ wsX6_lossNow := fun _ h => List.mem_cons_of_mem _ (List.mem_append_right _ h)
theorem wX6_lossNow_k2 : Cond.fieldLink RX6 207 (TX6 30).1 (TX6 30).2.1 (TX6 30).2.2.1 ∈ wsX6_lossNow := by decide +kernel
theorem wX6_lossNow_k3 : Cond.fieldLink RX6 56 (TX6 31).1 (TX6 31).2.1 (TX6 31).2.2.1 ∈ wsX6_lossNow := by decide +kernel
theorem wX6_lossNow_k4 : Cond.fieldLink RX6 47 (TX6 26).1 (TX6 26).2.1 (TX6 26).2.2.1 ∈ wsX6_lossNow := by decide +kernel
theorem hdX6_lossNow : yX6_lossNow.cls ≠ "java/lang/invoke/MethodHandle" ∧ yX6_lossNow.cls ≠ "java/lang/invoke/VarHandle" ∧ (parseMethodDescriptor yX6_lossNow.desc).map (fun d => d.parameters.length) = some 3 := by decide +kernel
set_option maxHeartbeats 4000000 in
set_option maxRecDepth 100000 in
theorem X6_lossNow_ok {l : Launch} {D : va_G} {Y : Nat → ClassId} {a : Nat → Nat} {I : Nat → Int32} {A : Nat → Nat → Int32} {F : Nat → Int64} {L : Nat → Nat → Int64} {p0 : Int32} {p1 : Int32} {p2 : Int32} {r : Int64} {uL25 : Nat → Int64} {uL26 : Nat → Int64} {uF27 : Int64} {uL28 : Nat → Int64} {uA29 : Nat → Int32} {uF30 : Int64} {uL31 : Nat → Int64} (h : X6_lossNow I A F L p0 p1 p2 = some (r, uL25, uL26, uF27, uL28, uA29, uF30, uL31)) : MW l yX6_lossNow wsX6_lossNow 4 92 D Y [.ref (a 0), .int p0, .int p1, .int p2] (wM Y a I A F L) (wM Y a I (up A 29 uA29) (up (up F 27 uF27) 30 uF30) (up (up (up (up L 25 uL25) 26 uL26) 28 uL28) 31 uL31)) (some (.long r)) := by
  refine MW_of (cc := cX6_lossNow) (nL := 7) (ret := some .long) (lv0 := [(0, .ref (a 0)), (1, .int p0), (2, .int p1), (3, .int p2)]) (by decide) rfl (Nat.le_of_ble_eq_true rfl) rfl rfl (fun X Af Q C hA hQ => ?_)
  unfold X6_lossNow at h
  refine V_aload_n (pc := 0) C dX6_lossNow_0 rfl 0 rfl ?_
  refine V_iload_n (pc := 1) C dX6_lossNow_1 rfl 1 rfl ?_
  refine V_iload_n (pc := 2) C dX6_lossNow_2 rfl 2 rfl ?_
  obtain ⟨oL25_3, oL26_3, oF27_3, oL28_3, oA29_3, oF30_3, oL31_3, hq, h⟩ := ob7_some h
  refine V_callVW0 (pc := 3) (rest := []) (st2 := []) (ws' := wM Y a I (up A 29 oA29_3) (up (up F 27 oF27_3) 30 oF30_3) (up (up (up (up L 25 oL25_3) 26 oL26_3) 28 oL28_3) 31 oL31_3)) C hA (X6_layBest_ok (a := a) hq) gX6_lossNow_X6_layBest rfl ⟨rfl, hdX6_layBest⟩ ⟨Nat.le_of_ble_eq_true rfl, Nat.le_of_ble_eq_true rfl⟩ ⟨Nat.le_refl _, Nat.le_refl _⟩ 0 6 rfl rfl rfl (Nat.le_of_ble_eq_true rfl) dX6_lossNow_3 rfl rfl ?_
  refine V_aload_n (pc := 6) C dX6_lossNow_6 rfl 0 rfl ?_
  refine V_get (pc := 7) (v := .long oF27_3) C 0 6 27 hiX6_lossNow_6 rfl rfl (by decide) wX6_lossNow_k0 rfl dX6_lossNow_7 ?_
  refine V_aload_n (pc := 10) C dX6_lossNow_10 rfl 0 rfl ?_
  refine V_get (pc := 11) (v := .long oF30_3) C 0 6 30 hiX6_lossNow_6 rfl rfl (by decide) wX6_lossNow_k2 rfl dX6_lossNow_11 ?_
  refine V_lmul (pc := 14) C dX6_lossNow_14 ?_
  refine V_lstore (pc := 15) (lv' := [(4, .long (oF27_3 * oF30_3)), (0, .ref (a 0)), (1, .int p0), (2, .int p1), (3, .int p2)]) C dX6_lossNow_15 (Nat.le_of_ble_eq_true rfl) rfl ?_
  refine V_iconst (pc := 17) (v := 0) C dX6_lossNow_17 rfl ?_
  refine V_istore (pc := 18) (lv' := [(6, .int (0 : Int32)), (4, .long (oF27_3 * oF30_3)), (0, .ref (a 0)), (1, .int p0), (2, .int p1), (3, .int p2)]) C dX6_lossNow_18 (Nat.le_of_ble_eq_true rfl) rfl ?_
  refine jn1_ok (P := (fun (x4_52 : Int64) => VW X D 7 Q (KM Af X) (0, 0) (wM Y a I (up A 29 oA29_3) (up (up F 27 oF27_3) 30 oF30_3) (up (up (up (up L 25 oL25_3) 26 oL26_3) 28 oL28_3) 31 oL31_3)) [(0, .ref (a 0)), (3, .int p2), (4, .long x4_52)] 52 [])) (fun x4_52 h => ?_) (fun J52 hJ52 h => ?_) h
  · refine V_lload (pc := 52) C dX6_lossNow_52 2 rfl ?_
    refine V_aload_n (pc := 54) C dX6_lossNow_54 rfl 0 rfl ?_
    refine V_get (pc := 55) (v := .long oF30_3) C 0 6 30 hiX6_lossNow_6 rfl rfl (by decide) wX6_lossNow_k2 rfl dX6_lossNow_55 ?_
    refine V_iload_n (pc := 58) C dX6_lossNow_58 rfl 1 rfl ?_
    obtain ⟨r59, hq, h⟩ := ob1_some h
    refine V_callSR (pc := 59) (rest := []) (st2 := [.long r59]) C (X6_lowest_ok hq) gX6_lossNow_X6_lowest rfl hdX6_lowest ⟨Nat.le_of_ble_eq_true rfl, Nat.le_of_ble_eq_true rfl⟩ ⟨Nat.le_refl _, Nat.le_refl _⟩ [] rfl rfl (Nat.le_of_ble_eq_true rfl) dX6_lossNow_59 rfl ?_
    cases h
    subst hQ
    exact V_lretW C dX6_lossNow_62
  refine V_sub [2, 4, 5, 1, 0] rfl (wh2_ok (P := (fun (x4_20 : Int64) (x6_20 : Int32) => VW X D 7 Q (KM Af X) (0, 0) (wM Y a I (up A 29 oA29_3) (up (up F 27 oF27_3) 30 oF30_3) (up (up (up (up L 25 oL25_3) 26 oL26_3) 28 oL28_3) 31 oL31_3)) [(0, .ref (a 0)), (2, .int p1), (3, .int p2), (4, .long x4_20), (6, .int x6_20)] 20 [])) (fun self20 ih20 x4_20 x6_20 h => ?_) 200 _ _ h)
  refine V_iload (pc := 20) C dX6_lossNow_20 4 rfl ?_
  refine V_iload_n (pc := 22) C dX6_lossNow_22 rfl 1 rfl ?_
  refine V_icmp_ge (pc := 23) C 52 dX6_lossNow_23 rfl (fun c23 => ?_) (fun c23 => ?_)
  · replace h := t_pos c23 h
    exact V_sub [0, 2, 3] rfl (hJ52 _ h)
  · replace h := t_neg c23 h
    refine V_lload (pc := 26) C dX6_lossNow_26 3 rfl ?_
    refine V_aload_n (pc := 28) C dX6_lossNow_28 rfl 0 rfl ?_
    refine V_get (pc := 29) (v := .ref (a 16)) C 0 6 31 hiX6_lossNow_6 rfl rfl (by decide) wX6_lossNow_k3 rfl dX6_lossNow_29 ?_
    refine V_iload (pc := 32) C dX6_lossNow_32 4 rfl ?_
    obtain ⟨b34, h⟩ := chk_some h
    refine V_lald (pc := 34) C 16 rfl b34 dX6_lossNow_34 ?_
    refine V_aload_n (pc := 35) C dX6_lossNow_35 rfl 0 rfl ?_
    refine V_get (pc := 36) (v := .ref (a 13)) C 0 6 26 hiX6_lossNow_6 rfl rfl (by decide) wX6_lossNow_k4 rfl dX6_lossNow_36 ?_
    refine V_iload (pc := 39) C dX6_lossNow_39 4 rfl ?_
    obtain ⟨b41, h⟩ := chk_some h
    refine V_lald (pc := 41) C 13 rfl b41 dX6_lossNow_41 ?_
    refine V_lmul (pc := 42) C dX6_lossNow_42 ?_
    refine V_lsub (pc := 43) C dX6_lossNow_43 ?_
    refine V_lstore (pc := 44) (lv' := [(4, .long (x4_20 - ((oL31_3 (Int32.toNatClampNeg x6_20)) * (oL26_3 (Int32.toNatClampNeg x6_20))))), (0, .ref (a 0)), (2, .int p1), (3, .int p2), (6, .int x6_20)]) C dX6_lossNow_44 (Nat.le_of_ble_eq_true rfl) rfl ?_
    refine V_iinc (pc := 46) (v := (x6_20 + 1)) (lv' := [(6, .int (x6_20 + 1)), (4, .long (x4_20 - ((oL31_3 (Int32.toNatClampNeg x6_20)) * (oL26_3 (Int32.toNatClampNeg x6_20))))), (0, .ref (a 0)), (2, .int p1), (3, .int p2)]) C dX6_lossNow_46 4 rfl rfl (Nat.le_of_ble_eq_true rfl) rfl ?_
    refine V_goto (pc := 49) C 20 dX6_lossNow_49 rfl ?_
    exact V_sub [2, 3, 4, 1, 0] rfl (ih20 _ _ h)
def X6_loss (I : Nat → Int32) (A : Nat → Nat → Int32) (F : Nat → Int64) (L : Nat → Nat → Int64) (p0 : Int32) (p1 : Int32) (p2 : Int32) : Option (Int64 × (Nat → Int64) × (Nat → Int64) × Int64 × (Nat → Int64) × (Nat → Int32) × Int64 × (Nat → Int64)) :=
  ob1 (X6_isAsk I A F L p0 p1) fun r3 =>
  jn0 (some ((-1000003 : Int64), (L 25), (L 26), (F 27), (L 28), (A 29), (F 30), (L 31))) fun J28 =>
  if r3 = 0 then (J28) else (ob1 (X6_within p2 (0 : Int32) (1 : Int32)) fun r12 =>
  if r12 = 0 then (J28) else (ob8 (X6_lossNow I A F L p0 p1 p2) fun r22 oL25_22 oL26_22 oF27_22 oL28_22 oA29_22 oF30_22 oL31_22 =>
  some (r22, oL25_22, oL26_22, oF27_22, oL28_22, oA29_22, oF30_22, oL31_22)))
theorem wX6_loss_k0 : Cond.constantLong RX6 239 (-1000003) ∈ wsX6_loss := by decide +kernel
theorem hdX6_loss : yX6_loss.cls ≠ "java/lang/invoke/MethodHandle" ∧ yX6_loss.cls ≠ "java/lang/invoke/VarHandle" ∧ (parseMethodDescriptor yX6_loss.desc).map (fun d => d.parameters.length) = some 3 := by decide +kernel
set_option maxHeartbeats 4000000 in
set_option maxRecDepth 100000 in
theorem X6_loss_ok {l : Launch} {D : va_G} {Y : Nat → ClassId} {a : Nat → Nat} {I : Nat → Int32} {A : Nat → Nat → Int32} {F : Nat → Int64} {L : Nat → Nat → Int64} {p0 : Int32} {p1 : Int32} {p2 : Int32} {r : Int64} {uL25 : Nat → Int64} {uL26 : Nat → Int64} {uF27 : Int64} {uL28 : Nat → Int64} {uA29 : Nat → Int32} {uF30 : Int64} {uL31 : Nat → Int64} (h : X6_loss I A F L p0 p1 p2 = some (r, uL25, uL26, uF27, uL28, uA29, uF30, uL31)) : MW l yX6_loss wsX6_loss 5 118 D Y [.ref (a 0), .int p0, .int p1, .int p2] (wM Y a I A F L) (wM Y a I (up A 29 uA29) (up (up F 27 uF27) 30 uF30) (up (up (up (up L 25 uL25) 26 uL26) 28 uL28) 31 uL31)) (some (.long r)) := by
  refine MW_of (cc := cX6_loss) (nL := 4) (ret := some .long) (lv0 := [(0, .ref (a 0)), (1, .int p0), (2, .int p1), (3, .int p2)]) (by decide) rfl (Nat.le_of_ble_eq_true rfl) rfl rfl (fun X Af Q C hA hQ => ?_)
  unfold X6_loss at h
  refine V_aload_n (pc := 0) C dX6_loss_0 rfl 0 rfl ?_
  refine V_iload_n (pc := 1) C dX6_loss_1 rfl 1 rfl ?_
  refine V_iload_n (pc := 2) C dX6_loss_2 rfl 2 rfl ?_
  obtain ⟨r3, hq, h⟩ := ob1_some h
  refine V_callVR0 (pc := 3) (rest := []) (st2 := [.int r3]) C (X6_isAsk_ok (a := a) hq) gX6_loss_X6_isAsk rfl ⟨rfl, hdX6_isAsk⟩ ⟨Nat.le_of_ble_eq_true rfl, Nat.le_of_ble_eq_true rfl⟩ ⟨Nat.le_refl _, Nat.le_refl _⟩ 0 6 rfl rfl rfl (Nat.le_of_ble_eq_true rfl) dX6_loss_3 rfl ?_
  refine jn0_ok (P := (VW X D 4 Q (KM Af X) (0, 0) (wM Y a I A F L) [] 28 [])) (fun h => ?_) (fun J28 hJ28 h => ?_) h
  · refine V_ldc2 (pc := 28) (v := -1000003) C dX6_loss_28 wX6_loss_k0 ?_
    cases h
    subst hQ
    exact V_lretW C dX6_loss_31
  refine V_if_eq (pc := 6) C 28 dX6_loss_6 rfl (fun c6 => ?_) (fun c6 => ?_)
  · replace h := t_pos c6 h
    exact V_sub [] rfl (hJ28 h)
  · replace h := t_neg c6 h
    refine V_iload_n (pc := 9) C dX6_loss_9 rfl 3 rfl ?_
    refine V_iconst (pc := 10) (v := 0) C dX6_loss_10 rfl ?_
    refine V_iconst (pc := 11) (v := 1) C dX6_loss_11 rfl ?_
    obtain ⟨r12, hq, h⟩ := ob1_some h
    refine V_callSR (pc := 12) (rest := []) (st2 := [.int r12]) C (X6_within_ok hq) gX6_loss_X6_within rfl hdX6_within ⟨Nat.le_of_ble_eq_true rfl, Nat.le_of_ble_eq_true rfl⟩ ⟨Nat.le_refl _, Nat.le_refl _⟩ [] rfl rfl (Nat.le_of_ble_eq_true rfl) dX6_loss_12 rfl ?_
    refine V_if_eq (pc := 15) C 28 dX6_loss_15 rfl (fun c15 => ?_) (fun c15 => ?_)
    · replace h := t_pos c15 h
      exact V_sub [] rfl (hJ28 h)
    · replace h := t_neg c15 h
      refine V_aload_n (pc := 18) C dX6_loss_18 rfl 0 rfl ?_
      refine V_iload_n (pc := 19) C dX6_loss_19 rfl 1 rfl ?_
      refine V_iload_n (pc := 20) C dX6_loss_20 rfl 2 rfl ?_
      refine V_iload_n (pc := 21) C dX6_loss_21 rfl 3 rfl ?_
      obtain ⟨r22, oL25_22, oL26_22, oF27_22, oL28_22, oA29_22, oF30_22, oL31_22, hq, h⟩ := ob8_some h
      refine V_callVW0 (pc := 22) (rest := []) (st2 := [.long r22]) (ws' := wM Y a I (up A 29 oA29_22) (up (up F 27 oF27_22) 30 oF30_22) (up (up (up (up L 25 oL25_22) 26 oL26_22) 28 oL28_22) 31 oL31_22)) C hA (X6_lossNow_ok (a := a) hq) gX6_loss_X6_lossNow rfl ⟨rfl, hdX6_lossNow⟩ ⟨Nat.le_of_ble_eq_true rfl, Nat.le_of_ble_eq_true rfl⟩ ⟨Nat.le_refl _, Nat.le_refl _⟩ 0 6 rfl rfl rfl (Nat.le_of_ble_eq_true rfl) dX6_loss_22 rfl rfl ?_
      refine V_goto (pc := 25) C 31 dX6_loss_25 rfl ?_
      cases h
      subst hQ
      exact V_lretW C dX6_loss_31
def X6_pressNow (I : Nat → Int32) (A : Nat → Nat → Int32) (F : Nat → Int64) (L : Nat → Nat → Int64) (p0 : Int32) (p1 : Int32) (p2 : Int32) (p3 : Int32) : Option (Int64 × (Nat → Int64) × (Nat → Int64) × Int64 × (Nat → Int64) × (Nat → Int32) × Int64 × (Nat → Int64)) :=
  ob7 (X6_layBest I A F L p0 p1) fun oL25_3 oL26_3 oF27_3 oL28_3 oA29_3 oF30_3 oL31_3 =>
  ob1 (X6_pressAbove I (up A 29 oA29_3) (up (up F 27 oF27_3) 30 oF30_3) (up (up (up (up L 25 oL25_3) 26 oL26_3) 28 oL28_3) 31 oL31_3) p2 p1) fun r9 =>
  ob1 (X6_lowest r9 oF30_3 p3) fun r18 =>
  some (r18, oL25_3, oL26_3, oF27_3, oL28_3, oA29_3, oF30_3, oL31_3)
theorem wX6_pressNow_k0 : Cond.fieldLink RX6 207 (TX6 30).1 (TX6 30).2.1 (TX6 30).2.2.1 ∈ wsX6_pressNow := by decide +kernel
theorem hiX6_pressNow_6 : ∀ w ∈ u_ws RX6 TX6 33, w ∈ wsX6_pressNow := fun _ h => List.mem_cons_of_mem _ (List.mem_append_right _ h)
theorem hdX6_pressNow : yX6_pressNow.cls ≠ "java/lang/invoke/MethodHandle" ∧ yX6_pressNow.cls ≠ "java/lang/invoke/VarHandle" ∧ (parseMethodDescriptor yX6_pressNow.desc).map (fun d => d.parameters.length) = some 4 := by decide +kernel
set_option maxHeartbeats 4000000 in
set_option maxRecDepth 100000 in
theorem X6_pressNow_ok {l : Launch} {D : va_G} {Y : Nat → ClassId} {a : Nat → Nat} {I : Nat → Int32} {A : Nat → Nat → Int32} {F : Nat → Int64} {L : Nat → Nat → Int64} {p0 : Int32} {p1 : Int32} {p2 : Int32} {p3 : Int32} {r : Int64} {uL25 : Nat → Int64} {uL26 : Nat → Int64} {uF27 : Int64} {uL28 : Nat → Int64} {uA29 : Nat → Int32} {uF30 : Int64} {uL31 : Nat → Int64} (h : X6_pressNow I A F L p0 p1 p2 p3 = some (r, uL25, uL26, uF27, uL28, uA29, uF30, uL31)) : MW l yX6_pressNow wsX6_pressNow 4 92 D Y [.ref (a 0), .int p0, .int p1, .int p2, .int p3] (wM Y a I A F L) (wM Y a I (up A 29 uA29) (up (up F 27 uF27) 30 uF30) (up (up (up (up L 25 uL25) 26 uL26) 28 uL28) 31 uL31)) (some (.long r)) := by
  refine MW_of (cc := cX6_pressNow) (nL := 5) (ret := some .long) (lv0 := [(0, .ref (a 0)), (1, .int p0), (2, .int p1), (3, .int p2), (4, .int p3)]) (by decide) rfl (Nat.le_of_ble_eq_true rfl) rfl rfl (fun X Af Q C hA hQ => ?_)
  unfold X6_pressNow at h
  refine V_aload_n (pc := 0) C dX6_pressNow_0 rfl 0 rfl ?_
  refine V_iload_n (pc := 1) C dX6_pressNow_1 rfl 1 rfl ?_
  refine V_iload_n (pc := 2) C dX6_pressNow_2 rfl 2 rfl ?_
  obtain ⟨oL25_3, oL26_3, oF27_3, oL28_3, oA29_3, oF30_3, oL31_3, hq, h⟩ := ob7_some h
  refine V_callVW0 (pc := 3) (rest := []) (st2 := []) (ws' := wM Y a I (up A 29 oA29_3) (up (up F 27 oF27_3) 30 oF30_3) (up (up (up (up L 25 oL25_3) 26 oL26_3) 28 oL28_3) 31 oL31_3)) C hA (X6_layBest_ok (a := a) hq) gX6_pressNow_X6_layBest rfl ⟨rfl, hdX6_layBest⟩ ⟨Nat.le_of_ble_eq_true rfl, Nat.le_of_ble_eq_true rfl⟩ ⟨Nat.le_refl _, Nat.le_refl _⟩ 0 6 rfl rfl rfl (Nat.le_of_ble_eq_true rfl) dX6_pressNow_3 rfl rfl ?_
  refine V_aload_n (pc := 6) C dX6_pressNow_6 rfl 0 rfl ?_
  refine V_iload_n (pc := 7) C dX6_pressNow_7 rfl 3 rfl ?_
  refine V_iload_n (pc := 8) C dX6_pressNow_8 rfl 2 rfl ?_
  obtain ⟨r9, hq, h⟩ := ob1_some h
  refine V_callVR0 (pc := 9) (rest := []) (st2 := [.long r9]) C (X6_pressAbove_ok (a := a) hq) gX6_pressNow_X6_pressAbove rfl ⟨rfl, hdX6_pressAbove⟩ ⟨Nat.le_of_ble_eq_true rfl, Nat.le_of_ble_eq_true rfl⟩ ⟨Nat.le_refl _, Nat.le_refl _⟩ 0 6 rfl rfl rfl (Nat.le_of_ble_eq_true rfl) dX6_pressNow_9 rfl ?_
  refine V_aload_n (pc := 12) C dX6_pressNow_12 rfl 0 rfl ?_
  refine V_get (pc := 13) (v := .long oF30_3) C 0 6 30 hiX6_pressNow_6 rfl rfl (by decide) wX6_pressNow_k0 rfl dX6_pressNow_13 ?_
  refine V_iload (pc := 16) C dX6_pressNow_16 4 rfl ?_
  obtain ⟨r18, hq, h⟩ := ob1_some h
  refine V_callSR (pc := 18) (rest := []) (st2 := [.long r18]) C (X6_lowest_ok hq) gX6_pressNow_X6_lowest rfl hdX6_lowest ⟨Nat.le_of_ble_eq_true rfl, Nat.le_of_ble_eq_true rfl⟩ ⟨Nat.le_refl _, Nat.le_refl _⟩ [] rfl rfl (Nat.le_of_ble_eq_true rfl) dX6_pressNow_18 rfl ?_
  cases h
  subst hQ
  exact V_lretW C dX6_pressNow_21
def X6_press (I : Nat → Int32) (A : Nat → Nat → Int32) (F : Nat → Int64) (L : Nat → Nat → Int64) (p0 : Int32) (p1 : Int32) (p2 : Int32) (p3 : Int32) : Option (Int64 × (Nat → Int64) × (Nat → Int64) × Int64 × (Nat → Int64) × (Nat → Int32) × Int64 × (Nat → Int64)) :=
  ob1 (X6_isAsk I A F L p0 p1) fun r3 =>
  jn0 (some ((-1000003 : Int64), (L 25), (L 26), (F 27), (L 28), (A 29), (F 30), (L 31))) fun J42 =>
  if r3 = 0 then (J42) else (ob1 (X6_within p2 (0 : Int32) (p1 - (1 : Int32))) fun r14 =>
  if r14 = 0 then (J42) else (ob1 (X6_within p3 (0 : Int32) (1 : Int32)) fun r24 =>
  if r24 = 0 then (J42) else (ob8 (X6_pressNow I A F L p0 p1 p2 p3) fun r36 oL25_36 oL26_36 oF27_36 oL28_36 oA29_36 oF30_36 oL31_36 =>
  some (r36, oL25_36, oL26_36, oF27_36, oL28_36, oA29_36, oF30_36, oL31_36))))
theorem wX6_press_k0 : Cond.constantLong RX6 239 (-1000003) ∈ wsX6_press := by decide +kernel
theorem hdX6_press : yX6_press.cls ≠ "java/lang/invoke/MethodHandle" ∧ yX6_press.cls ≠ "java/lang/invoke/VarHandle" ∧ (parseMethodDescriptor yX6_press.desc).map (fun d => d.parameters.length) = some 4 := by decide +kernel
set_option maxHeartbeats 4000000 in
set_option maxRecDepth 100000 in
theorem X6_press_ok {l : Launch} {D : va_G} {Y : Nat → ClassId} {a : Nat → Nat} {I : Nat → Int32} {A : Nat → Nat → Int32} {F : Nat → Int64} {L : Nat → Nat → Int64} {p0 : Int32} {p1 : Int32} {p2 : Int32} {p3 : Int32} {r : Int64} {uL25 : Nat → Int64} {uL26 : Nat → Int64} {uF27 : Int64} {uL28 : Nat → Int64} {uA29 : Nat → Int32} {uF30 : Int64} {uL31 : Nat → Int64} (h : X6_press I A F L p0 p1 p2 p3 = some (r, uL25, uL26, uF27, uL28, uA29, uF30, uL31)) : MW l yX6_press wsX6_press 5 116 D Y [.ref (a 0), .int p0, .int p1, .int p2, .int p3] (wM Y a I A F L) (wM Y a I (up A 29 uA29) (up (up F 27 uF27) 30 uF30) (up (up (up (up L 25 uL25) 26 uL26) 28 uL28) 31 uL31)) (some (.long r)) := by
  refine MW_of (cc := cX6_press) (nL := 5) (ret := some .long) (lv0 := [(0, .ref (a 0)), (1, .int p0), (2, .int p1), (3, .int p2), (4, .int p3)]) (by decide) rfl (Nat.le_of_ble_eq_true rfl) rfl rfl (fun X Af Q C hA hQ => ?_)
  unfold X6_press at h
  refine V_aload_n (pc := 0) C dX6_press_0 rfl 0 rfl ?_
  refine V_iload_n (pc := 1) C dX6_press_1 rfl 1 rfl ?_
  refine V_iload_n (pc := 2) C dX6_press_2 rfl 2 rfl ?_
  obtain ⟨r3, hq, h⟩ := ob1_some h
  refine V_callVR0 (pc := 3) (rest := []) (st2 := [.int r3]) C (X6_isAsk_ok (a := a) hq) gX6_press_X6_isAsk rfl ⟨rfl, hdX6_isAsk⟩ ⟨Nat.le_of_ble_eq_true rfl, Nat.le_of_ble_eq_true rfl⟩ ⟨Nat.le_refl _, Nat.le_refl _⟩ 0 6 rfl rfl rfl (Nat.le_of_ble_eq_true rfl) dX6_press_3 rfl ?_
  refine jn0_ok (P := (VW X D 5 Q (KM Af X) (0, 0) (wM Y a I A F L) [] 42 [])) (fun h => ?_) (fun J42 hJ42 h => ?_) h
  · refine V_ldc2 (pc := 42) (v := -1000003) C dX6_press_42 wX6_press_k0 ?_
    cases h
    subst hQ
    exact V_lretW C dX6_press_45
  refine V_if_eq (pc := 6) C 42 dX6_press_6 rfl (fun c6 => ?_) (fun c6 => ?_)
  · replace h := t_pos c6 h
    exact V_sub [] rfl (hJ42 h)
  · replace h := t_neg c6 h
    refine V_iload_n (pc := 9) C dX6_press_9 rfl 3 rfl ?_
    refine V_iconst (pc := 10) (v := 0) C dX6_press_10 rfl ?_
    refine V_iload_n (pc := 11) C dX6_press_11 rfl 2 rfl ?_
    refine V_iconst (pc := 12) (v := 1) C dX6_press_12 rfl ?_
    refine V_isub (pc := 13) C dX6_press_13 ?_
    obtain ⟨r14, hq, h⟩ := ob1_some h
    refine V_callSR (pc := 14) (rest := []) (st2 := [.int r14]) C (X6_within_ok hq) gX6_press_X6_within rfl hdX6_within ⟨Nat.le_of_ble_eq_true rfl, Nat.le_of_ble_eq_true rfl⟩ ⟨Nat.le_refl _, Nat.le_refl _⟩ [] rfl rfl (Nat.le_of_ble_eq_true rfl) dX6_press_14 rfl ?_
    refine V_if_eq (pc := 17) C 42 dX6_press_17 rfl (fun c17 => ?_) (fun c17 => ?_)
    · replace h := t_pos c17 h
      exact V_sub [] rfl (hJ42 h)
    · replace h := t_neg c17 h
      refine V_iload (pc := 20) C dX6_press_20 4 rfl ?_
      refine V_iconst (pc := 22) (v := 0) C dX6_press_22 rfl ?_
      refine V_iconst (pc := 23) (v := 1) C dX6_press_23 rfl ?_
      obtain ⟨r24, hq, h⟩ := ob1_some h
      refine V_callSR (pc := 24) (rest := []) (st2 := [.int r24]) C (X6_within_ok hq) gX6_press_X6_within rfl hdX6_within ⟨Nat.le_of_ble_eq_true rfl, Nat.le_of_ble_eq_true rfl⟩ ⟨Nat.le_refl _, Nat.le_refl _⟩ [] rfl rfl (Nat.le_of_ble_eq_true rfl) dX6_press_24 rfl ?_
      refine V_if_eq (pc := 27) C 42 dX6_press_27 rfl (fun c27 => ?_) (fun c27 => ?_)
      · replace h := t_pos c27 h
        exact V_sub [] rfl (hJ42 h)
      · replace h := t_neg c27 h
        refine V_aload_n (pc := 30) C dX6_press_30 rfl 0 rfl ?_
        refine V_iload_n (pc := 31) C dX6_press_31 rfl 1 rfl ?_
        refine V_iload_n (pc := 32) C dX6_press_32 rfl 2 rfl ?_
        refine V_iload_n (pc := 33) C dX6_press_33 rfl 3 rfl ?_
        refine V_iload (pc := 34) C dX6_press_34 4 rfl ?_
        obtain ⟨r36, oL25_36, oL26_36, oF27_36, oL28_36, oA29_36, oF30_36, oL31_36, hq, h⟩ := ob8_some h
        refine V_callVW0 (pc := 36) (rest := []) (st2 := [.long r36]) (ws' := wM Y a I (up A 29 oA29_36) (up (up F 27 oF27_36) 30 oF30_36) (up (up (up (up L 25 oL25_36) 26 oL26_36) 28 oL28_36) 31 oL31_36)) C hA (X6_pressNow_ok (a := a) hq) gX6_press_X6_pressNow rfl ⟨rfl, hdX6_pressNow⟩ ⟨Nat.le_of_ble_eq_true rfl, Nat.le_of_ble_eq_true rfl⟩ ⟨Nat.le_refl _, Nat.le_refl _⟩ 0 6 rfl rfl rfl (Nat.le_of_ble_eq_true rfl) dX6_press_36 rfl rfl ?_
        refine V_goto (pc := 39) C 45 dX6_press_39 rfl ?_
        cases h
        subst hQ
        exact V_lretW C dX6_press_45
def X6_nothingNow (I : Nat → Int32) (A : Nat → Nat → Int32) (F : Nat → Int64) (L : Nat → Nat → Int64) (p0 : Int32) (p1 : Int32) : Option (Int32 × (Nat → Int64) × (Nat → Int64) × Int64 × (Nat → Int64) × (Nat → Int32) × Int64 × (Nat → Int64)) :=
  ob7 (X6_layBest I A F L p0 p1) fun oL25_3 oL26_3 oF27_3 oL28_3 oA29_3 oF30_3 oL31_3 =>
  jn1 (fun (x3_46 : Int32) => some (x3_46, oL25_3, oL26_3, oF27_3, oL28_3, oA29_3, oF30_3, oL31_3)) fun J46 =>
  wh2 (fun self11 (x3_11 : Int32) (x4_11 : Int32) =>
  if p1 ≤ x4_11 then (J46 x3_11) else (chk (inB x4_11 4) (jn2 (fun (s38_0 : Int32) (s38_1 : Int32) => self11 (s38_0 ||| s38_1) (x4_11 + 1)) fun J38 =>
  if (oL31_3 (Int32.toNatClampNeg x4_11)) = (0 : Int64) then (J38 x3_11 ((1 : Int32) <<< (x4_11 &&& 31))) else (J38 x3_11 (0 : Int32))))) 200 (0 : Int32) (0 : Int32)
theorem wX6_nothingNow_k0 : Cond.fieldLink RX6 56 (TX6 31).1 (TX6 31).2.1 (TX6 31).2.2.1 ∈ wsX6_nothingNow := by decide +kernel
theorem hiX6_nothingNow_6 : ∀ w ∈ u_ws RX6 TX6 33, w ∈ wsX6_nothingNow := fun _ h => List.mem_cons_of_mem _ (List.mem_append_right _ h)
theorem hdX6_nothingNow : yX6_nothingNow.cls ≠ "java/lang/invoke/MethodHandle" ∧ yX6_nothingNow.cls ≠ "java/lang/invoke/VarHandle" ∧ (parseMethodDescriptor yX6_nothingNow.desc).map (fun d => d.parameters.length) = some 2 := by decide +kernel
set_option maxHeartbeats 4000000 in
set_option maxRecDepth 100000 in
theorem X6_nothingNow_ok {l : Launch} {D : va_G} {Y : Nat → ClassId} {a : Nat → Nat} {I : Nat → Int32} {A : Nat → Nat → Int32} {F : Nat → Int64} {L : Nat → Nat → Int64} {p0 : Int32} {p1 : Int32} {r : Int32} {uL25 : Nat → Int64} {uL26 : Nat → Int64} {uF27 : Int64} {uL28 : Nat → Int64} {uA29 : Nat → Int32} {uF30 : Int64} {uL31 : Nat → Int64} (h : X6_nothingNow I A F L p0 p1 = some (r, uL25, uL26, uF27, uL28, uA29, uF30, uL31)) : MW l yX6_nothingNow wsX6_nothingNow 4 92 D Y [.ref (a 0), .int p0, .int p1] (wM Y a I A F L) (wM Y a I (up A 29 uA29) (up (up F 27 uF27) 30 uF30) (up (up (up (up L 25 uL25) 26 uL26) 28 uL28) 31 uL31)) (some (.int r)) := by
  refine MW_of (cc := cX6_nothingNow) (nL := 5) (ret := some .int) (lv0 := [(0, .ref (a 0)), (1, .int p0), (2, .int p1)]) (by decide) rfl (Nat.le_of_ble_eq_true rfl) rfl rfl (fun X Af Q C hA hQ => ?_)
  unfold X6_nothingNow at h
  refine V_aload_n (pc := 0) C dX6_nothingNow_0 rfl 0 rfl ?_
  refine V_iload_n (pc := 1) C dX6_nothingNow_1 rfl 1 rfl ?_
  refine V_iload_n (pc := 2) C dX6_nothingNow_2 rfl 2 rfl ?_
  obtain ⟨oL25_3, oL26_3, oF27_3, oL28_3, oA29_3, oF30_3, oL31_3, hq, h⟩ := ob7_some h
  refine V_callVW0 (pc := 3) (rest := []) (st2 := []) (ws' := wM Y a I (up A 29 oA29_3) (up (up F 27 oF27_3) 30 oF30_3) (up (up (up (up L 25 oL25_3) 26 oL26_3) 28 oL28_3) 31 oL31_3)) C hA (X6_layBest_ok (a := a) hq) gX6_nothingNow_X6_layBest rfl ⟨rfl, hdX6_layBest⟩ ⟨Nat.le_of_ble_eq_true rfl, Nat.le_of_ble_eq_true rfl⟩ ⟨Nat.le_refl _, Nat.le_refl _⟩ 0 6 rfl rfl rfl (Nat.le_of_ble_eq_true rfl) dX6_nothingNow_3 rfl rfl ?_
  refine V_iconst (pc := 6) (v := 0) C dX6_nothingNow_6 rfl ?_
  refine V_istore_n (pc := 7) (lv' := [(3, .int (0 : Int32)), (0, .ref (a 0)), (1, .int p0), (2, .int p1)]) C dX6_nothingNow_7 rfl (Nat.le_of_ble_eq_true rfl) rfl ?_
  refine V_iconst (pc := 8) (v := 0) C dX6_nothingNow_8 rfl ?_
  refine V_istore (pc := 9) (lv' := [(4, .int (0 : Int32)), (3, .int (0 : Int32)), (0, .ref (a 0)), (1, .int p0), (2, .int p1)]) C dX6_nothingNow_9 (Nat.le_of_ble_eq_true rfl) rfl ?_
  refine jn1_ok (P := (fun (x3_46 : Int32) => VW X D 5 Q (KM Af X) (0, 0) (wM Y a I (up A 29 oA29_3) (up (up F 27 oF27_3) 30 oF30_3) (up (up (up (up L 25 oL25_3) 26 oL26_3) 28 oL28_3) 31 oL31_3)) [(3, .int x3_46)] 46 [])) (fun x3_46 h => ?_) (fun J46 hJ46 h => ?_) h
  · refine V_iload_n (pc := 46) C dX6_nothingNow_46 rfl 0 rfl ?_
    cases h
    subst hQ
    exact V_iretW C dX6_nothingNow_47
  refine V_sub [2, 4, 1, 0] rfl (wh2_ok (P := (fun (x3_11 : Int32) (x4_11 : Int32) => VW X D 5 Q (KM Af X) (0, 0) (wM Y a I (up A 29 oA29_3) (up (up F 27 oF27_3) 30 oF30_3) (up (up (up (up L 25 oL25_3) 26 oL26_3) 28 oL28_3) 31 oL31_3)) [(0, .ref (a 0)), (2, .int p1), (3, .int x3_11), (4, .int x4_11)] 11 [])) (fun self11 ih11 x3_11 x4_11 h => ?_) 200 _ _ h)
  refine V_iload (pc := 11) C dX6_nothingNow_11 3 rfl ?_
  refine V_iload_n (pc := 13) C dX6_nothingNow_13 rfl 1 rfl ?_
  refine V_icmp_ge (pc := 14) C 46 dX6_nothingNow_14 rfl (fun c14 => ?_) (fun c14 => ?_)
  · replace h := t_pos c14 h
    exact V_sub [2] rfl (hJ46 _ h)
  · replace h := t_neg c14 h
    refine V_iload_n (pc := 17) C dX6_nothingNow_17 rfl 2 rfl ?_
    refine V_aload_n (pc := 18) C dX6_nothingNow_18 rfl 0 rfl ?_
    refine V_get (pc := 19) (v := .ref (a 16)) C 0 6 31 hiX6_nothingNow_6 rfl rfl (by decide) wX6_nothingNow_k0 rfl dX6_nothingNow_19 ?_
    refine V_iload (pc := 22) C dX6_nothingNow_22 3 rfl ?_
    obtain ⟨b24, h⟩ := chk_some h
    refine V_lald (pc := 24) C 16 rfl b24 dX6_nothingNow_24 ?_
    refine V_lconst (pc := 25) (v := 0) C dX6_nothingNow_25 rfl ?_
    refine V_lcmp (pc := 26) C dX6_nothingNow_26 ?_
    refine jn2_ok (P := (fun (s38_0 : Int32) (s38_1 : Int32) => VW X D 5 Q (KM Af X) (0, 0) (wM Y a I (up A 29 oA29_3) (up (up F 27 oF27_3) 30 oF30_3) (up (up (up (up L 25 oL25_3) 26 oL26_3) 28 oL28_3) 31 oL31_3)) [(0, .ref (a 0)), (2, .int p1), (4, .int x4_11)] 38 [.int s38_1, .int s38_0])) (fun s38_0 s38_1 h => ?_) (fun J38 hJ38 h => ?_) h
    · refine V_ior (pc := 38) C dX6_nothingNow_38 ?_
      refine V_istore_n (pc := 39) (lv' := [(3, .int (s38_0 ||| s38_1)), (0, .ref (a 0)), (2, .int p1), (4, .int x4_11)]) C dX6_nothingNow_39 rfl (Nat.le_of_ble_eq_true rfl) rfl ?_
      refine V_iinc (pc := 40) (v := (x4_11 + 1)) (lv' := [(4, .int (x4_11 + 1)), (3, .int (s38_0 ||| s38_1)), (0, .ref (a 0)), (2, .int p1)]) C dX6_nothingNow_40 3 rfl rfl (Nat.le_of_ble_eq_true rfl) rfl ?_
      refine V_goto (pc := 43) C 11 dX6_nothingNow_43 rfl ?_
      exact V_sub [2, 3, 1, 0] rfl (ih11 _ _ h)
    refine V_lif_ne (pc := 27) C 37 dX6_nothingNow_27 rfl (fun c27 => ?_) (fun c27 => ?_)
    · replace h := t_neg c27 h
      refine V_iconst (pc := 37) (v := 0) C dX6_nothingNow_37 rfl ?_
      exact V_sub [0, 1, 3] rfl (hJ38 _ _ h)
    · replace h := t_pos c27 h
      refine V_iconst (pc := 30) (v := 1) C dX6_nothingNow_30 rfl ?_
      refine V_iload (pc := 31) C dX6_nothingNow_31 3 rfl ?_
      refine V_ishl (pc := 33) C dX6_nothingNow_33 ?_
      refine V_goto (pc := 34) C 38 dX6_nothingNow_34 rfl ?_
      exact V_sub [0, 1, 3] rfl (hJ38 _ _ h)
def X6_nothing (I : Nat → Int32) (A : Nat → Nat → Int32) (F : Nat → Int64) (L : Nat → Nat → Int64) (p0 : Int32) (p1 : Int32) : Option (Int32 × (Nat → Int64) × (Nat → Int64) × Int64 × (Nat → Int64) × (Nat → Int32) × Int64 × (Nat → Int64)) :=
  ob1 (X6_isAsk I A F L p0 p1) fun r3 =>
  if r3 = 0 then (some ((-1000003 : Int32), (L 25), (L 26), (F 27), (L 28), (A 29), (F 30), (L 31))) else (ob8 (X6_nothingNow I A F L p0 p1) fun r12 oL25_12 oL26_12 oF27_12 oL28_12 oA29_12 oF30_12 oL31_12 =>
  some (r12, oL25_12, oL26_12, oF27_12, oL28_12, oA29_12, oF30_12, oL31_12))
theorem wX6_nothing_k0 : Cond.constant RX6 63 (-1000003) ∈ wsX6_nothing := by decide +kernel
theorem hdX6_nothing : yX6_nothing.cls ≠ "java/lang/invoke/MethodHandle" ∧ yX6_nothing.cls ≠ "java/lang/invoke/VarHandle" ∧ (parseMethodDescriptor yX6_nothing.desc).map (fun d => d.parameters.length) = some 2 := by decide +kernel
set_option maxHeartbeats 4000000 in
set_option maxRecDepth 100000 in
theorem X6_nothing_ok {l : Launch} {D : va_G} {Y : Nat → ClassId} {a : Nat → Nat} {I : Nat → Int32} {A : Nat → Nat → Int32} {F : Nat → Int64} {L : Nat → Nat → Int64} {p0 : Int32} {p1 : Int32} {r : Int32} {uL25 : Nat → Int64} {uL26 : Nat → Int64} {uF27 : Int64} {uL28 : Nat → Int64} {uA29 : Nat → Int32} {uF30 : Int64} {uL31 : Nat → Int64} (h : X6_nothing I A F L p0 p1 = some (r, uL25, uL26, uF27, uL28, uA29, uF30, uL31)) : MW l yX6_nothing wsX6_nothing 5 116 D Y [.ref (a 0), .int p0, .int p1] (wM Y a I A F L) (wM Y a I (up A 29 uA29) (up (up F 27 uF27) 30 uF30) (up (up (up (up L 25 uL25) 26 uL26) 28 uL28) 31 uL31)) (some (.int r)) := by
  refine MW_of (cc := cX6_nothing) (nL := 3) (ret := some .int) (lv0 := [(0, .ref (a 0)), (1, .int p0), (2, .int p1)]) (by decide) rfl (Nat.le_of_ble_eq_true rfl) rfl rfl (fun X Af Q C hA hQ => ?_)
  unfold X6_nothing at h
  refine V_aload_n (pc := 0) C dX6_nothing_0 rfl 0 rfl ?_
  refine V_iload_n (pc := 1) C dX6_nothing_1 rfl 1 rfl ?_
  refine V_iload_n (pc := 2) C dX6_nothing_2 rfl 2 rfl ?_
  obtain ⟨r3, hq, h⟩ := ob1_some h
  refine V_callVR0 (pc := 3) (rest := []) (st2 := [.int r3]) C (X6_isAsk_ok (a := a) hq) gX6_nothing_X6_isAsk rfl ⟨rfl, hdX6_isAsk⟩ ⟨Nat.le_of_ble_eq_true rfl, Nat.le_of_ble_eq_true rfl⟩ ⟨Nat.le_refl _, Nat.le_refl _⟩ 0 6 rfl rfl rfl (Nat.le_of_ble_eq_true rfl) dX6_nothing_3 rfl ?_
  refine V_if_eq (pc := 6) C 18 dX6_nothing_6 rfl (fun c6 => ?_) (fun c6 => ?_)
  · replace h := t_pos c6 h
    refine V_ldc (pc := 18) (v := -1000003) C dX6_nothing_18 wX6_nothing_k0 ?_
    cases h
    subst hQ
    exact V_iretW C dX6_nothing_20
  · replace h := t_neg c6 h
    refine V_aload_n (pc := 9) C dX6_nothing_9 rfl 0 rfl ?_
    refine V_iload_n (pc := 10) C dX6_nothing_10 rfl 1 rfl ?_
    refine V_iload_n (pc := 11) C dX6_nothing_11 rfl 2 rfl ?_
    obtain ⟨r12, oL25_12, oL26_12, oF27_12, oL28_12, oA29_12, oF30_12, oL31_12, hq, h⟩ := ob8_some h
    refine V_callVW0 (pc := 12) (rest := []) (st2 := [.int r12]) (ws' := wM Y a I (up A 29 oA29_12) (up (up F 27 oF27_12) 30 oF30_12) (up (up (up (up L 25 oL25_12) 26 oL26_12) 28 oL28_12) 31 oL31_12)) C hA (X6_nothingNow_ok (a := a) hq) gX6_nothing_X6_nothingNow rfl ⟨rfl, hdX6_nothingNow⟩ ⟨Nat.le_of_ble_eq_true rfl, Nat.le_of_ble_eq_true rfl⟩ ⟨Nat.le_refl _, Nat.le_refl _⟩ 0 6 rfl rfl rfl (Nat.le_of_ble_eq_true rfl) dX6_nothing_12 rfl rfl ?_
    refine V_goto (pc := 15) C 20 dX6_nothing_15 rfl ?_
    cases h
    subst hQ
    exact V_iretW C dX6_nothing_20
def X6_isWhole (I : Nat → Int32) (A : Nat → Nat → Int32) (F : Nat → Int64) (L : Nat → Nat → Int64) (p0 : Int32) : Option (Int32) :=
  jn1 (fun (x2_59 : Int32) => chk (isB x2_59) (some x2_59)) fun J59 =>
  wh2 (fun self4 (x2_4 : Int32) (x3_4 : Int32) =>
  if p0 ≤ x3_4 then (J59 x2_4) else (jn1 (fun (s52_0 : Int32) => self4 s52_0 (x3_4 + 1)) fun J52 =>
  if x2_4 = 0 then (J52 (0 : Int32)) else (chk (inB x3_4 4) (chk (ne0l (F 30)) (if (((L 31) (Int32.toNatClampNeg x3_4)) - ((L 31) (Int32.toNatClampNeg x3_4)) / (F 30) * (F 30)) = (0 : Int64) then (chk (inB x3_4 4) (chk (ne0l (F 30)) (if (99 : Int64) < (((L 31) (Int32.toNatClampNeg x3_4)) / (F 30)) then (J52 (0 : Int32)) else (J52 (1 : Int32))))) else (J52 (0 : Int32))))))) 200 (1 : Int32) (0 : Int32)
theorem wX6_isWhole_k0 : Cond.fieldLink RX6 56 (TX6 31).1 (TX6 31).2.1 (TX6 31).2.2.1 ∈ wsX6_isWhole := by decide +kernel
theorem hiX6_isWhole_6 : ∀ w ∈ u_ws RX6 TX6 33, w ∈ wsX6_isWhole := fun _ h => List.mem_cons_of_mem _ (List.mem_append_right _ h)
theorem wX6_isWhole_k2 : Cond.fieldLink RX6 207 (TX6 30).1 (TX6 30).2.1 (TX6 30).2.2.1 ∈ wsX6_isWhole := by decide +kernel
theorem wX6_isWhole_k3 : Cond.constantLong RX6 251 (99) ∈ wsX6_isWhole := by decide +kernel
theorem hdX6_isWhole : yX6_isWhole.cls ≠ "java/lang/invoke/MethodHandle" ∧ yX6_isWhole.cls ≠ "java/lang/invoke/VarHandle" ∧ (parseMethodDescriptor yX6_isWhole.desc).map (fun d => d.parameters.length) = some 1 := by decide +kernel
set_option maxHeartbeats 4000000 in
set_option maxRecDepth 100000 in
theorem X6_isWhole_ok {l : Launch} {D : va_G} {Y : Nat → ClassId} {a : Nat → Nat} {I : Nat → Int32} {A : Nat → Nat → Int32} {F : Nat → Int64} {L : Nat → Nat → Int64} {p0 : Int32} {r : Int32} (h : X6_isWhole I A F L p0 = some r) : MR l yX6_isWhole wsX6_isWhole 0 0 D Y [.ref (a 0), .int p0] (wM Y a I A F L) (some (.int r)) := by
  refine MR_of (cc := cX6_isWhole) (nL := 4) (ret := some .boolean) (lv0 := [(0, .ref (a 0)), (1, .int p0)]) (by decide) rfl (Nat.le_of_ble_eq_true rfl) rfl (fun X Q C hQ => ?_)
  unfold X6_isWhole at h
  refine V_iconst (pc := 0) (v := 1) C dX6_isWhole_0 rfl ?_
  refine V_istore_n (pc := 1) (lv' := [(2, .int (1 : Int32)), (0, .ref (a 0)), (1, .int p0)]) C dX6_isWhole_1 rfl (Nat.le_of_ble_eq_true rfl) rfl ?_
  refine V_iconst (pc := 2) (v := 0) C dX6_isWhole_2 rfl ?_
  refine V_istore_n (pc := 3) (lv' := [(3, .int (0 : Int32)), (2, .int (1 : Int32)), (0, .ref (a 0)), (1, .int p0)]) C dX6_isWhole_3 rfl (Nat.le_of_ble_eq_true rfl) rfl ?_
  refine jn1_ok (P := (fun (x2_59 : Int32) => VW X D 4 Q (KR X) (0, 0) (wM Y a I A F L) [(2, .int x2_59)] 59 [])) (fun x2_59 h => ?_) (fun J59 hJ59 h => ?_) h
  · refine V_iload_n (pc := 59) C dX6_isWhole_59 rfl 0 rfl ?_
    obtain ⟨b60, h⟩ := chk_some h
    cases h
    subst hQ
    exact V_zretR C (isB_n b60) dX6_isWhole_60
  refine V_sub [2, 3, 1, 0] rfl (wh2_ok (P := (fun (x2_4 : Int32) (x3_4 : Int32) => VW X D 4 Q (KR X) (0, 0) (wM Y a I A F L) [(0, .ref (a 0)), (1, .int p0), (2, .int x2_4), (3, .int x3_4)] 4 [])) (fun self4 ih4 x2_4 x3_4 h => ?_) 200 _ _ h)
  refine V_iload_n (pc := 4) C dX6_isWhole_4 rfl 3 rfl ?_
  refine V_iload_n (pc := 5) C dX6_isWhole_5 rfl 1 rfl ?_
  refine V_icmp_ge (pc := 6) C 59 dX6_isWhole_6 rfl (fun c6 => ?_) (fun c6 => ?_)
  · replace h := t_pos c6 h
    exact V_sub [2] rfl (hJ59 _ h)
  · replace h := t_neg c6 h
    refine V_iload_n (pc := 9) C dX6_isWhole_9 rfl 2 rfl ?_
    refine jn1_ok (P := (fun (s52_0 : Int32) => VW X D 4 Q (KR X) (0, 0) (wM Y a I A F L) [(0, .ref (a 0)), (1, .int p0), (3, .int x3_4)] 52 [.int s52_0])) (fun s52_0 h => ?_) (fun J52 hJ52 h => ?_) h
    · refine V_istore_n (pc := 52) (lv' := [(2, .int s52_0), (0, .ref (a 0)), (1, .int p0), (3, .int x3_4)]) C dX6_isWhole_52 rfl (Nat.le_of_ble_eq_true rfl) rfl ?_
      refine V_iinc (pc := 53) (v := (x3_4 + 1)) (lv' := [(3, .int (x3_4 + 1)), (2, .int s52_0), (0, .ref (a 0)), (1, .int p0)]) C dX6_isWhole_53 3 rfl rfl (Nat.le_of_ble_eq_true rfl) rfl ?_
      refine V_goto (pc := 56) C 4 dX6_isWhole_56 rfl ?_
      exact V_sub [2, 3, 1, 0] rfl (ih4 _ _ h)
    refine V_if_eq (pc := 10) C 51 dX6_isWhole_10 rfl (fun c10 => ?_) (fun c10 => ?_)
    · replace h := t_pos c10 h
      refine V_iconst (pc := 51) (v := 0) C dX6_isWhole_51 rfl ?_
      exact V_sub [0, 1, 3] rfl (hJ52 _ h)
    · replace h := t_neg c10 h
      refine V_aload_n (pc := 13) C dX6_isWhole_13 rfl 0 rfl ?_
      refine V_get (pc := 14) (v := .ref (a 16)) C 0 6 31 hiX6_isWhole_6 rfl rfl (by decide) wX6_isWhole_k0 rfl dX6_isWhole_14 ?_
      refine V_iload_n (pc := 17) C dX6_isWhole_17 rfl 3 rfl ?_
      obtain ⟨b18, h⟩ := chk_some h
      refine V_lald (pc := 18) C 16 rfl b18 dX6_isWhole_18 ?_
      refine V_aload_n (pc := 19) C dX6_isWhole_19 rfl 0 rfl ?_
      refine V_get (pc := 20) (v := .long (F 30)) C 0 6 30 hiX6_isWhole_6 rfl rfl (by decide) wX6_isWhole_k2 rfl dX6_isWhole_20 ?_
      obtain ⟨b23, h⟩ := chk_some h
      refine V_lrem (pc := 23) C dX6_isWhole_23 (ne0l_n b23) ?_
      refine V_lconst (pc := 24) (v := 0) C dX6_isWhole_24 rfl ?_
      refine V_lcmp (pc := 25) C dX6_isWhole_25 ?_
      refine V_lif_ne (pc := 26) C 51 dX6_isWhole_26 rfl (fun c26 => ?_) (fun c26 => ?_)
      · replace h := t_neg c26 h
        refine V_iconst (pc := 51) (v := 0) C dX6_isWhole_51 rfl ?_
        exact V_sub [0, 1, 3] rfl (hJ52 _ h)
      · replace h := t_pos c26 h
        refine V_aload_n (pc := 29) C dX6_isWhole_29 rfl 0 rfl ?_
        refine V_get (pc := 30) (v := .ref (a 16)) C 0 6 31 hiX6_isWhole_6 rfl rfl (by decide) wX6_isWhole_k0 rfl dX6_isWhole_30 ?_
        refine V_iload_n (pc := 33) C dX6_isWhole_33 rfl 3 rfl ?_
        obtain ⟨b34, h⟩ := chk_some h
        refine V_lald (pc := 34) C 16 rfl b34 dX6_isWhole_34 ?_
        refine V_aload_n (pc := 35) C dX6_isWhole_35 rfl 0 rfl ?_
        refine V_get (pc := 36) (v := .long (F 30)) C 0 6 30 hiX6_isWhole_6 rfl rfl (by decide) wX6_isWhole_k2 rfl dX6_isWhole_36 ?_
        obtain ⟨b39, h⟩ := chk_some h
        refine V_ldiv (pc := 39) C dX6_isWhole_39 (ne0l_n b39) ?_
        refine V_ldc2 (pc := 40) (v := 99) C dX6_isWhole_40 wX6_isWhole_k3 ?_
        refine V_lcmp (pc := 43) C dX6_isWhole_43 ?_
        refine V_lif_gt (pc := 44) C 51 dX6_isWhole_44 rfl (fun c44 => ?_) (fun c44 => ?_)
        · replace h := t_pos c44 h
          refine V_iconst (pc := 51) (v := 0) C dX6_isWhole_51 rfl ?_
          exact V_sub [0, 1, 3] rfl (hJ52 _ h)
        · replace h := t_neg c44 h
          refine V_iconst (pc := 47) (v := 1) C dX6_isWhole_47 rfl ?_
          refine V_goto (pc := 48) C 52 dX6_isWhole_48 rfl ?_
          exact V_sub [0, 1, 3] rfl (hJ52 _ h)
def X6_keep (I : Nat → Int32) (A : Nat → Nat → Int32) (F : Nat → Int64) (L : Nat → Nat → Int64) (p0 : Int32) (p1 : Int32) (p2 : Int32) : Option (Int32 × Int32 × (Nat → Int32) × (Nat → Int32) × (Nat → Int32) × Int32 × Int32 × Int32 × (Nat → Int32) × (Nat → Int64) × (Nat → Int64) × Int64 × (Nat → Int64) × (Nat → Int32) × Int64 × (Nat → Int64)) :=
  ob1 (X6_isAsk I A F L p0 p1) fun r3 =>
  if r3 = 0 then (some ((-1000003 : Int32), (I 7), (A 8), (A 9), (A 10), (I 13), (I 16), (I 19), (A 20), (L 25), (L 26), (F 27), (L 28), (A 29), (F 30), (L 31))) else (ob1 (X6_within p2 (1 : Int32) (4 : Int32)) fun r12 =>
  if r12 = 0 then (some ((-1000003 : Int32), (I 7), (A 8), (A 9), (A 10), (I 13), (I 16), (I 19), (A 20), (L 25), (L 26), (F 27), (L 28), (A 29), (F 30), (L 31))) else (ob7 (X6_layBest I A F L p0 p1) fun oL25_24 oL26_24 oF27_24 oL28_24 oA29_24 oF30_24 oL31_24 =>
  ob1 (X6_isWhole I (up A 29 oA29_24) (up (up F 27 oF27_24) 30 oF30_24) (up (up (up (up L 25 oL25_24) 26 oL26_24) 28 oL28_24) 31 oL31_24) p1) fun r29 =>
  if r29 = 0 then (some ((-1000004 : Int32), (I 7), (A 8), (A 9), (A 10), (I 13), (I 16), (I 19), (A 20), oL25_24, oL26_24, oF27_24, oL28_24, oA29_24, oF30_24, oL31_24)) else (if (I 7) = (4 : Int32) then (some ((-1000005 : Int32), (I 7), (A 8), (A 9), (A 10), (I 13), (I 16), (I 19), (A 20), oL25_24, oL26_24, oF27_24, oL28_24, oA29_24, oF30_24, oL31_24)) else (jn1 (fun (mA20_94 : Nat → Int32) => ob5 (X6_takeUnit (up (up (up I 16 p2) 19 p1) 13 ((I 13) + (1 : Int32))) (up (up A 29 oA29_24) 20 mA20_94) (up (up F 27 oF27_24) 30 oF30_24) (up (up (up (up L 25 oL25_24) 26 oL26_24) 28 oL28_24) 31 oL31_24)) fun r105 oI7_105 oA8_105 oA9_105 oA10_105 =>
  some (r105, oI7_105, oA8_105, oA9_105, oA10_105, ((I 13) + (1 : Int32)), p2, p1, mA20_94, oL25_24, oL26_24, oF27_24, oL28_24, oA29_24, oF30_24, oL31_24)) fun J94 =>
  wh2 (fun self62 (x4_62 : Int32) (mA20_62 : Nat → Int32) =>
  if p1 ≤ x4_62 then (J94 mA20_62) else (chk (inB x4_62 4) (chk (ne0l oF30_24) (chk (inB x4_62 8) (self62 (x4_62 + 1) (upd mA20_62 (Int32.toNatClampNeg x4_62) (Int64.toInt32 ((oL31_24 (Int32.toNatClampNeg x4_62)) / oF30_24)))))))) 200 (0 : Int32) (A 20)))))
theorem wX6_keep_k0 : Cond.constant RX6 63 (-1000003) ∈ wsX6_keep := by decide +kernel
theorem wX6_keep_k1 : Cond.fieldLink RX6 117 (TX6 7).1 (TX6 7).2.1 (TX6 7).2.2.1 ∈ wsX6_keep := by decide +kernel
theorem hiX6_keep_6 : ∀ w ∈ u_ws RX6 TX6 33, w ∈ wsX6_keep := fun _ h => List.mem_cons_of_mem _ (List.mem_append_right _ h)
theorem wX6_keep_k3 : Cond.fieldLink RX6 101 (TX6 16).1 (TX6 16).2.1 (TX6 16).2.2.1 ∈ wsX6_keep := by decide +kernel
theorem wX6_keep_k4 : Cond.fieldLink RX6 85 (TX6 19).1 (TX6 19).2.1 (TX6 19).2.2.1 ∈ wsX6_keep := by decide +kernel
theorem wX6_keep_k5 : Cond.fieldLink RX6 256 (TX6 13).1 (TX6 13).2.1 (TX6 13).2.2.1 ∈ wsX6_keep := by decide +kernel
theorem wX6_keep_k6 : Cond.fieldLink RX6 37 (TX6 20).1 (TX6 20).2.1 (TX6 20).2.2.1 ∈ wsX6_keep := by decide +kernel
theorem wX6_keep_k7 : Cond.fieldLink RX6 56 (TX6 31).1 (TX6 31).2.1 (TX6 31).2.2.1 ∈ wsX6_keep := by decide +kernel
theorem wX6_keep_k8 : Cond.fieldLink RX6 207 (TX6 30).1 (TX6 30).2.1 (TX6 30).2.2.1 ∈ wsX6_keep := by decide +kernel
theorem wX6_keep_k9 : Cond.constant RX6 68 (-1000005) ∈ wsX6_keep := by decide +kernel
theorem wX6_keep_k10 : Cond.constant RX6 120 (-1000004) ∈ wsX6_keep := by decide +kernel
theorem hdX6_keep : yX6_keep.cls ≠ "java/lang/invoke/MethodHandle" ∧ yX6_keep.cls ≠ "java/lang/invoke/VarHandle" ∧ (parseMethodDescriptor yX6_keep.desc).map (fun d => d.parameters.length) = some 3 := by decide +kernel
set_option maxHeartbeats 4000000 in
set_option maxRecDepth 100000 in
theorem X6_keep_ok {l : Launch} {D : va_G} {Y : Nat → ClassId} {a : Nat → Nat} {I : Nat → Int32} {A : Nat → Nat → Int32} {F : Nat → Int64} {L : Nat → Nat → Int64} {p0 : Int32} {p1 : Int32} {p2 : Int32} {r : Int32} {uI7 : Int32} {uA8 : Nat → Int32} {uA9 : Nat → Int32} {uA10 : Nat → Int32} {uI13 : Int32} {uI16 : Int32} {uI19 : Int32} {uA20 : Nat → Int32} {uL25 : Nat → Int64} {uL26 : Nat → Int64} {uF27 : Int64} {uL28 : Nat → Int64} {uA29 : Nat → Int32} {uF30 : Int64} {uL31 : Nat → Int64} (h : X6_keep I A F L p0 p1 p2 = some (r, uI7, uA8, uA9, uA10, uI13, uI16, uI19, uA20, uL25, uL26, uF27, uL28, uA29, uF30, uL31)) : MW l yX6_keep wsX6_keep 4 92 D Y [.ref (a 0), .int p0, .int p1, .int p2] (wM Y a I A F L) (wM Y a (up (up (up (up I 7 uI7) 13 uI13) 16 uI16) 19 uI19) (up (up (up (up (up A 8 uA8) 9 uA9) 10 uA10) 20 uA20) 29 uA29) (up (up F 27 uF27) 30 uF30) (up (up (up (up L 25 uL25) 26 uL26) 28 uL28) 31 uL31)) (some (.int r)) := by
  refine MW_of (cc := cX6_keep) (nL := 5) (ret := some .int) (lv0 := [(0, .ref (a 0)), (1, .int p0), (2, .int p1), (3, .int p2)]) (by decide) rfl (Nat.le_of_ble_eq_true rfl) rfl rfl (fun X Af Q C hA hQ => ?_)
  unfold X6_keep at h
  refine V_aload_n (pc := 0) C dX6_keep_0 rfl 0 rfl ?_
  refine V_iload_n (pc := 1) C dX6_keep_1 rfl 1 rfl ?_
  refine V_iload_n (pc := 2) C dX6_keep_2 rfl 2 rfl ?_
  obtain ⟨r3, hq, h⟩ := ob1_some h
  refine V_callVR0 (pc := 3) (rest := []) (st2 := [.int r3]) C (X6_isAsk_ok (a := a) hq) gX6_keep_X6_isAsk rfl ⟨rfl, hdX6_isAsk⟩ ⟨Nat.le_of_ble_eq_true rfl, Nat.le_of_ble_eq_true rfl⟩ ⟨Nat.le_refl _, Nat.le_refl _⟩ 0 6 rfl rfl rfl (Nat.le_of_ble_eq_true rfl) dX6_keep_3 rfl ?_
  refine V_if_eq (pc := 6) C 18 dX6_keep_6 rfl (fun c6 => ?_) (fun c6 => ?_)
  · replace h := t_pos c6 h
    refine V_ldc (pc := 18) (v := -1000003) C dX6_keep_18 wX6_keep_k0 ?_
    cases h
    subst hQ
    exact V_iretW C dX6_keep_20
  · replace h := t_neg c6 h
    refine V_iload_n (pc := 9) C dX6_keep_9 rfl 3 rfl ?_
    refine V_iconst (pc := 10) (v := 1) C dX6_keep_10 rfl ?_
    refine V_iconst (pc := 11) (v := 4) C dX6_keep_11 rfl ?_
    obtain ⟨r12, hq, h⟩ := ob1_some h
    refine V_callSR (pc := 12) (rest := []) (st2 := [.int r12]) C (X6_within_ok hq) gX6_keep_X6_within rfl hdX6_within ⟨Nat.le_of_ble_eq_true rfl, Nat.le_of_ble_eq_true rfl⟩ ⟨Nat.le_refl _, Nat.le_refl _⟩ [] rfl rfl (Nat.le_of_ble_eq_true rfl) dX6_keep_12 rfl ?_
    refine V_if_ne (pc := 15) C 21 dX6_keep_15 rfl (fun c15 => ?_) (fun c15 => ?_)
    · replace h := t_neg c15 h
      refine V_aload_n (pc := 21) C dX6_keep_21 rfl 0 rfl ?_
      refine V_iload_n (pc := 22) C dX6_keep_22 rfl 1 rfl ?_
      refine V_iload_n (pc := 23) C dX6_keep_23 rfl 2 rfl ?_
      obtain ⟨oL25_24, oL26_24, oF27_24, oL28_24, oA29_24, oF30_24, oL31_24, hq, h⟩ := ob7_some h
      refine V_callVW0 (pc := 24) (rest := []) (st2 := []) (ws' := wM Y a I (up A 29 oA29_24) (up (up F 27 oF27_24) 30 oF30_24) (up (up (up (up L 25 oL25_24) 26 oL26_24) 28 oL28_24) 31 oL31_24)) C hA (X6_layBest_ok (a := a) hq) gX6_keep_X6_layBest rfl ⟨rfl, hdX6_layBest⟩ ⟨Nat.le_of_ble_eq_true rfl, Nat.le_of_ble_eq_true rfl⟩ ⟨Nat.le_refl _, Nat.le_refl _⟩ 0 6 rfl rfl rfl (Nat.le_of_ble_eq_true rfl) dX6_keep_24 rfl rfl ?_
      refine V_aload_n (pc := 27) C dX6_keep_27 rfl 0 rfl ?_
      refine V_iload_n (pc := 28) C dX6_keep_28 rfl 2 rfl ?_
      obtain ⟨r29, hq, h⟩ := ob1_some h
      refine V_callVR0 (pc := 29) (rest := []) (st2 := [.int r29]) C (X6_isWhole_ok (a := a) hq) gX6_keep_X6_isWhole rfl ⟨rfl, hdX6_isWhole⟩ ⟨Nat.le_of_ble_eq_true rfl, Nat.le_of_ble_eq_true rfl⟩ ⟨Nat.le_refl _, Nat.le_refl _⟩ 0 6 rfl rfl rfl (Nat.le_of_ble_eq_true rfl) dX6_keep_29 rfl ?_
      refine V_if_ne (pc := 32) C 38 dX6_keep_32 rfl (fun c32 => ?_) (fun c32 => ?_)
      · replace h := t_neg c32 h
        refine V_aload_n (pc := 38) C dX6_keep_38 rfl 0 rfl ?_
        refine V_get (pc := 39) (v := .int (I 7)) C 0 6 7 hiX6_keep_6 rfl rfl (by decide) wX6_keep_k1 rfl dX6_keep_39 ?_
        refine V_iconst (pc := 42) (v := 4) C dX6_keep_42 rfl ?_
        refine V_icmp_ne (pc := 43) C 49 dX6_keep_43 rfl (fun c43 => ?_) (fun c43 => ?_)
        · replace h := t_neg c43 h
          refine V_aload_n (pc := 49) C dX6_keep_49 rfl 0 rfl ?_
          refine V_iload_n (pc := 50) C dX6_keep_50 rfl 3 rfl ?_
          refine V_put (pc := 51) (ws' := wM Y a (up I 16 p2) (up A 29 oA29_24) (up (up F 27 oF27_24) 30 oF30_24) (up (up (up (up L 25 oL25_24) 26 oL26_24) 28 oL28_24) 31 oL31_24)) C 0 6 16 hiX6_keep_6 tyX6_ok nmX6 rfl rfl (by decide) wX6_keep_k3 rfl rfl rfl (Nat.le_of_ble_eq_true rfl) dX6_keep_51 rfl ?_
          refine V_aload_n (pc := 54) C dX6_keep_54 rfl 0 rfl ?_
          refine V_iload_n (pc := 55) C dX6_keep_55 rfl 2 rfl ?_
          refine V_put (pc := 56) (ws' := wM Y a (up (up I 16 p2) 19 p1) (up A 29 oA29_24) (up (up F 27 oF27_24) 30 oF30_24) (up (up (up (up L 25 oL25_24) 26 oL26_24) 28 oL28_24) 31 oL31_24)) C 0 6 19 hiX6_keep_6 tyX6_ok nmX6 rfl rfl (by decide) wX6_keep_k4 rfl rfl rfl (Nat.le_of_ble_eq_true rfl) dX6_keep_56 rfl ?_
          refine V_iconst (pc := 59) (v := 0) C dX6_keep_59 rfl ?_
          refine V_istore (pc := 60) (lv' := [(4, .int (0 : Int32)), (0, .ref (a 0)), (1, .int p0), (2, .int p1), (3, .int p2)]) C dX6_keep_60 (Nat.le_of_ble_eq_true rfl) rfl ?_
          refine jn1_ok (P := (fun (mA20_94 : Nat → Int32) => VW X D 5 Q (KM Af X) (0, 0) (wM Y a (up (up I 16 p2) 19 p1) (up (up A 29 oA29_24) 20 mA20_94) (up (up F 27 oF27_24) 30 oF30_24) (up (up (up (up L 25 oL25_24) 26 oL26_24) 28 oL28_24) 31 oL31_24)) [(0, .ref (a 0))] 94 [])) (fun mA20_94 h => ?_) (fun J94 hJ94 h => ?_) h
          · refine V_aload_n (pc := 94) C dX6_keep_94 rfl 0 rfl ?_
            refine V_dup (pc := 95) C dX6_keep_95 rfl ?_
            refine V_get (pc := 96) (v := .int (I 13)) C 0 6 13 hiX6_keep_6 rfl rfl (by decide) wX6_keep_k5 rfl dX6_keep_96 ?_
            refine V_iconst (pc := 99) (v := 1) C dX6_keep_99 rfl ?_
            refine V_iadd (pc := 100) C dX6_keep_100 ?_
            refine V_put (pc := 101) (ws' := wM Y a (up (up (up I 16 p2) 19 p1) 13 ((I 13) + (1 : Int32))) (up (up A 29 oA29_24) 20 mA20_94) (up (up F 27 oF27_24) 30 oF30_24) (up (up (up (up L 25 oL25_24) 26 oL26_24) 28 oL28_24) 31 oL31_24)) C 0 6 13 hiX6_keep_6 tyX6_ok nmX6 rfl rfl (by decide) wX6_keep_k5 rfl rfl rfl (Nat.le_of_ble_eq_true rfl) dX6_keep_101 rfl ?_
            refine V_aload_n (pc := 104) C dX6_keep_104 rfl 0 rfl ?_
            obtain ⟨r105, oI7_105, oA8_105, oA9_105, oA10_105, hq, h⟩ := ob5_some h
            refine V_callVW0 (pc := 105) (rest := []) (st2 := [.int r105]) (ws' := wM Y a (up (up (up (up I 16 p2) 19 p1) 13 ((I 13) + (1 : Int32))) 7 oI7_105) (up (up (up (up (up A 29 oA29_24) 20 mA20_94) 8 oA8_105) 9 oA9_105) 10 oA10_105) (up (up F 27 oF27_24) 30 oF30_24) (up (up (up (up L 25 oL25_24) 26 oL26_24) 28 oL28_24) 31 oL31_24)) C hA (X6_takeUnit_ok (a := a) hq) gX6_keep_X6_takeUnit rfl ⟨rfl, hdX6_takeUnit⟩ ⟨Nat.le_of_ble_eq_true rfl, Nat.le_of_ble_eq_true rfl⟩ ⟨Nat.le_refl _, Nat.le_refl _⟩ 0 6 rfl rfl rfl (Nat.le_of_ble_eq_true rfl) dX6_keep_105 rfl rfl ?_
            cases h
            subst hQ
            exact V_iretW C dX6_keep_108
          refine V_sub [1, 3, 0] rfl (wh2_ok (P := (fun (x4_62 : Int32) (mA20_62 : Nat → Int32) => VW X D 5 Q (KM Af X) (0, 0) (wM Y a (up (up I 16 p2) 19 p1) (up (up A 29 oA29_24) 20 mA20_62) (up (up F 27 oF27_24) 30 oF30_24) (up (up (up (up L 25 oL25_24) 26 oL26_24) 28 oL28_24) 31 oL31_24)) [(0, .ref (a 0)), (2, .int p1), (4, .int x4_62)] 62 [])) (fun self62 ih62 x4_62 mA20_62 h => ?_) 200 _ _ h)
          refine V_iload (pc := 62) C dX6_keep_62 2 rfl ?_
          refine V_iload_n (pc := 64) C dX6_keep_64 rfl 1 rfl ?_
          refine V_icmp_ge (pc := 65) C 94 dX6_keep_65 rfl (fun c65 => ?_) (fun c65 => ?_)
          · replace h := t_pos c65 h
            exact V_sub [0] rfl (hJ94 _ h)
          · replace h := t_neg c65 h
            refine V_aload_n (pc := 68) C dX6_keep_68 rfl 0 rfl ?_
            refine V_get (pc := 69) (v := .ref (a 10)) C 0 6 20 hiX6_keep_6 rfl rfl (by decide) wX6_keep_k6 rfl dX6_keep_69 ?_
            refine V_iload (pc := 72) C dX6_keep_72 2 rfl ?_
            refine V_aload_n (pc := 74) C dX6_keep_74 rfl 0 rfl ?_
            refine V_get (pc := 75) (v := .ref (a 16)) C 0 6 31 hiX6_keep_6 rfl rfl (by decide) wX6_keep_k7 rfl dX6_keep_75 ?_
            refine V_iload (pc := 78) C dX6_keep_78 2 rfl ?_
            obtain ⟨b80, h⟩ := chk_some h
            refine V_lald (pc := 80) C 16 rfl b80 dX6_keep_80 ?_
            refine V_aload_n (pc := 81) C dX6_keep_81 rfl 0 rfl ?_
            refine V_get (pc := 82) (v := .long oF30_24) C 0 6 30 hiX6_keep_6 rfl rfl (by decide) wX6_keep_k8 rfl dX6_keep_82 ?_
            obtain ⟨b85, h⟩ := chk_some h
            refine V_ldiv (pc := 85) C dX6_keep_85 (ne0l_n b85) ?_
            refine V_l2i (pc := 86) C dX6_keep_86 ?_
            obtain ⟨b87, h⟩ := chk_some h
            refine V_iast (pc := 87) (ws' := wM Y a (up (up I 16 p2) 19 p1) (up (up A 29 oA29_24) 20 (upd mA20_62 (Int32.toNatClampNeg x4_62) (Int64.toInt32 ((oL31_24 (Int32.toNatClampNeg x4_62)) / oF30_24)))) (up (up F 27 oF27_24) 30 oF30_24) (up (up (up (up L 25 oL25_24) 26 oL26_24) 28 oL28_24) 31 oL31_24)) C 10 rfl b87 dX6_keep_87 rfl ?_
            refine V_iinc (pc := 88) (v := (x4_62 + 1)) (lv' := [(4, .int (x4_62 + 1)), (0, .ref (a 0)), (2, .int p1)]) C dX6_keep_88 2 rfl rfl (Nat.le_of_ble_eq_true rfl) rfl ?_
            refine V_goto (pc := 91) C 62 dX6_keep_91 rfl ?_
            exact V_sub [1, 2, 0] rfl (ih62 _ _ h)
        · replace h := t_pos c43 h
          refine V_ldc (pc := 46) (v := -1000005) C dX6_keep_46 wX6_keep_k9 ?_
          cases h
          subst hQ
          exact V_iretW C dX6_keep_48
      · replace h := t_pos c32 h
        refine V_ldc (pc := 35) (v := -1000004) C dX6_keep_35 wX6_keep_k10 ?_
        cases h
        subst hQ
        exact V_iretW C dX6_keep_37
    · replace h := t_pos c15 h
      refine V_ldc (pc := 18) (v := -1000003) C dX6_keep_18 wX6_keep_k0 ?_
      cases h
      subst hQ
      exact V_iretW C dX6_keep_20
