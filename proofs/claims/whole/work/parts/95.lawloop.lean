/-! ===== the law's loop ===== -/
theorem law_more {M i : Nat} (hL : M ≤ 2560) (hi : i ≤ M) (h : ¬ nI M - 5 < nI i) : i + 5 ≤ M := by
  rw [lt_iff] at h
  have h1 : (nI M).toInt = M := nI_toInt (by omega)
  have h2 : (nI i).toInt = i := nI_toInt (by omega)
  have h5 : (5 : Int32).toInt = 5 := rfl
  rw [sub_t (by rw [h1, h5]; omega) (by rw [h1, h5]; omega), h1, h2, h5] at h
  omega
theorem law_pick {j : Nat} (h : j < 19) : j = 0 ∨ j = 1 ∨ j = 2 ∨ j = 3 ∨ j = 4 ∨ j = 5 ∨ j = 6 ∨ j = 7 ∨ j = 8 ∨ j = 9 ∨ j = 10 ∨ j = 11 ∨ j = 12 ∨ j = 13 ∨ j = 14 ∨ j = 15 ∨ j = 16 ∨ j = 17 ∨ j = 18 := by omega
section LL
variable {X : VX} {D : va_G} {Y : Nat → ClassId} {Q : State → Prop} {AA : Nat → Prop} {a a2 : Nat → Nat} {b M i : Nat} {xs : Nat → Int32} {q pg : Nat → Int32} {gS gU : Nat → Option Nat} {rd : RdT} {ft : FtT} {S : Nat → StT} {U : Nat → UnT} {I : Nat → Int32} {A : Nat → Nat → Int32} {F : Nat → Int64} {L : Nat → Nat → Int64}
theorem law_switch (C : Cx X D Y cL_law 4 RL lw_tbl ret room_1) (hA : ∀ q, (xS X).heap.size ≤ q → AA q) (hX : va_X b M xs (xS X) (xS X).heap) (hbl : b < (xS X).heap.size) (hbA : ¬ AA b) (hL : M ≤ 2560) (hi : i + 5 ≤ M) (hR : Rel a q pg gS gU S U I A) (kk : LK X D Y Q AA a a2 b i) {j : Nat} (hj : j < 32) : VW X D 4 Q (KM AA X) (65, 481) (wOff Y a q pg gS gU rd ft S U ++ wM Y a2 I A F L) [(0, .ref b), (1, .ref (a 0)), (2, .ref (a2 0)), (3, .int (nI i))] 32 [.int (nI j)] := by
  have ej : (nI j).toInt = j := nI_toInt (by omega)
  rcases Nat.lt_or_ge j 19 with h | h
  · rcases law_pick h with rfl | rfl | rfl | rfl | rfl | rfl | rfl | rfl | rfl | rfl | rfl | rfl | rfl | rfl | rfl | rfl | rfl | rfl | rfl
    · exact V_tableIn (pc := 32) (off := 92) C 124 dL_law_32 (by decide +kernel) (by decide +kernel) (by decide +kernel) rfl (law_letter C hA hX hbl hbA hL hi hR kk)
    · exact V_tableIn (pc := 32) (off := 115) C 147 dL_law_32 (by decide +kernel) (by decide +kernel) (by decide +kernel) rfl (law_blank C hA hX hbl hbA hL hi hR kk)
    · exact V_tableIn (pc := 32) (off := 128) C 160 dL_law_32 (by decide +kernel) (by decide +kernel) (by decide +kernel) rfl (law_fault C hA hX hbl hbA hL hi hR kk)
    · exact V_tableIn (pc := 32) (off := 141) C 173 dL_law_32 (by decide +kernel) (by decide +kernel) (by decide +kernel) rfl (law_take C hA hX hbl hbA hL hi hR kk)
    · exact V_tableIn (pc := 32) (off := 154) C 186 dL_law_32 (by decide +kernel) (by decide +kernel) (by decide +kernel) rfl (law_drop C hA hX hbl hbA hL hi hR kk)
    · exact V_tableIn (pc := 32) (off := 203) C 235 dL_law_32 (by decide +kernel) (by decide +kernel) (by decide +kernel) rfl (law_storm C hA hX hbl hbA hL hi hR kk)
    · exact V_tableIn (pc := 32) (off := 236) C 268 dL_law_32 (by decide +kernel) (by decide +kernel) (by decide +kernel) rfl (law_divided C hA hX hbl hbA hL hi hR kk)
    · exact V_tableIn (pc := 32) (off := 269) C 301 dL_law_32 (by decide +kernel) (by decide +kernel) (by decide +kernel) rfl (law_unit C hA hX hbl hbA hL hi hR kk)
    · exact V_tableIn (pc := 32) (off := 302) C 334 dL_law_32 (by decide +kernel) (by decide +kernel) (by decide +kernel) rfl (law_made C hA hX hbl hbA hL hi hR kk)
    · exact V_tableIn (pc := 32) (off := 345) C 377 dL_law_32 (by decide +kernel) (by decide +kernel) (by decide +kernel) rfl (law_missed C hA hX hbl hbA hL hi hR kk)
    · exact V_tableIn (pc := 32) (off := 378) C 410 dL_law_32 (by decide +kernel) (by decide +kernel) (by decide +kernel) rfl (law_sum C hA hX hbl hbA hL hi hR kk)
    · exact V_tableIn (pc := 32) (off := 411) C 443 dL_law_32 (by decide +kernel) (by decide +kernel) (by decide +kernel) rfl (law_other C hA hX hbl hbA hL hi hR kk)
    · exact V_tableIn (pc := 32) (off := 464) C 496 dL_law_32 (by decide +kernel) (by decide +kernel) (by decide +kernel) rfl (law_best C hA hX hbl hbA hL hi hR kk)
    · exact V_tableIn (pc := 32) (off := 518) C 550 dL_law_32 (by decide +kernel) (by decide +kernel) (by decide +kernel) rfl (law_loss C hA hX hbl hbA hL hi hR kk)
    · exact V_tableIn (pc := 32) (off := 562) C 594 dL_law_32 (by decide +kernel) (by decide +kernel) (by decide +kernel) rfl (law_press C hA hX hbl hbA hL hi hR kk)
    · exact V_tableIn (pc := 32) (off := 616) C 648 dL_law_32 (by decide +kernel) (by decide +kernel) (by decide +kernel) rfl (law_nothing C hA hX hbl hbA hL hi hR kk)
    · exact V_tableIn (pc := 32) (off := 649) C 681 dL_law_32 (by decide +kernel) (by decide +kernel) (by decide +kernel) rfl (law_keep C hA hX hbl hbA hL hi hR kk)
    · exact V_tableIn (pc := 32) (off := 692) C 724 dL_law_32 (by decide +kernel) (by decide +kernel) (by decide +kernel) rfl (law_count C hA hX hbl hbA hL hi hR kk)
    · exact V_tableIn (pc := 32) (off := 715) C 747 dL_law_32 (by decide +kernel) (by decide +kernel) (by decide +kernel) rfl (law_digest C hA hX hbl hbA hL hi hR kk)
  · exact V_tableOut (pc := 32) C 761 dL_law_32 (Or.inr (by rw [ej]; omega)) rfl (kk _ _ _ _ _ _ _ _ _ _ _ _ hR)
theorem law_loop (C : Cx X D Y cL_law 4 RL lw_tbl ret room_1) (hA : ∀ q, (xS X).heap.size ≤ q → AA q) (hX : va_X b M xs (xS X) (xS X).heap) (hbl : b < (xS X).heap.size) (hbA : ¬ AA b) (hL : M ≤ 2560) (hret : ∀ (ws : va_W) (lv : List (Nat × Value)), VW X D 4 Q (KM AA X) (65, 481) ws lv 767 []) :
    ∀ (n i : Nat), i ≤ M → M + 1 ≤ i + n → ∀ (q pg : Nat → Int32) (gS gU : Nat → Option Nat) (rd : RdT) (ft : FtT) (S : Nat → StT) (U : Nat → UnT) (I : Nat → Int32) (A : Nat → Nat → Int32) (F : Nat → Int64) (L : Nat → Nat → Int64), Rel a q pg gS gU S U I A → VW X D 4 Q (KM AA X) (65, 481) (wOff Y a q pg gS gU rd ft S U ++ wM Y a2 I A F L) [(0, .ref b), (1, .ref (a 0)), (2, .ref (a2 0)), (3, .int (nI i))] 18 [] := by
  intro n
  induction n with
  | zero =>
    intro i h1 h2
    exact absurd h2 (by omega)
  | succ n ih =>
    intro i h1 h2 q pg gS gU rd ft S U I A F L hR
    refine V_iload_n (pc := 18) C dL_law_18 rfl 3 rfl ?_
    refine V_aload_n (pc := 19) C dL_law_19 rfl 0 rfl ?_
    refine V_slen (pc := 20) C hX hbl hbA dL_law_20 ?_
    refine V_iconst (pc := 21) (v := 5) C dL_law_21 rfl ?_
    refine V_isub (pc := 22) C dL_law_22 ?_
    refine V_icmp_gt (pc := 23) C 767 dL_law_23 rfl (fun _ => hret _ _) (fun c => ?_)
    have hi := law_more hL h1 c
    have kk : LK X D Y Q AA a a2 b i := by
      intro q pg gS gU rd ft S U I A F L hR2
      refine V_iinc (pc := 761) (v := nI (i + 5)) (lv' := [(3, .int (nI (i + 5))), (0, .ref b), (1, .ref (a 0)), (2, .ref (a2 0))]) C dL_law_761 3 rfl (by rw [iN5, nI_add]) (by decide) rfl ?_
      refine V_goto (pc := 764) C 18 dL_law_764 rfl ?_
      refine V_sub [1, 2, 3, 0] rfl ?_
      exact ih (i + 5) hi (by omega) q pg gS gU rd ft S U I A F L hR2
    refine V_aload_n (pc := 26) C dL_law_26 rfl 0 rfl ?_
    refine V_iload_n (pc := 27) C dL_law_27 rfl 3 rfl ?_
    refine V_sld (pc := 28) C hX hbl hbA (vp_in_nI (by omega) (by omega)) dL_law_28 ?_
    refine V_bipush (pc := 29) (v := 31) C dL_law_29 rfl ?_
    refine V_iand (pc := 31) C dL_law_31 ?_
    obtain ⟨j, hj, e⟩ := pk_andE (xs (nI i).toNatClampNeg) (m := 31) 5 (by decide +kernel)
    refine V_top (congrArg Value.int e) ?_
    exact law_switch C hA hX hbl hbA hL hi hR kk hj
end LL
