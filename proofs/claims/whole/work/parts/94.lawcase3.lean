section LC
variable {X : VX} {D : va_G} {Y : Nat → ClassId} {Q : State → Prop} {AA : Nat → Prop} {a a2 : Nat → Nat} {b M i : Nat} {xs : Nat → Int32} {q pg : Nat → Int32} {gS gU : Nat → Option Nat} {rd : RdT} {ft : FtT} {S : Nat → StT} {U : Nat → UnT} {I : Nat → Int32} {A : Nat → Nat → Int32} {F : Nat → Int64} {L : Nat → Nat → Int64}
theorem law_nothing (C : Cx X D Y cL_law 4 RL lw_tbl ret room_1) (hA : ∀ q, (xS X).heap.size ≤ q → AA q) (hX : va_X b M xs (xS X) (xS X).heap) (hbl : b < (xS X).heap.size) (hbA : ¬ AA b) (hL : M ≤ 2560) (hi : i + 5 ≤ M) (hR : Rel a q pg gS gU S U I A) (kk : LK X D Y Q AA a a2 b i) : VW X D 4 Q (KM AA X) (65, 481) (wOff Y a q pg gS gU rd ft S U ++ wM Y a2 I A F L) [(0, .ref b), (1, .ref (a 0)), (2, .ref (a2 0)), (3, .int (nI i))] 648 [] := by
  obtain ⟨g, hw, hC, hM⟩ := hR
  obtain ⟨r, o0, ⟨p0, p1, p2, p3, p4, p5, p6⟩, h5, h6⟩ := sim_nothing (rd := rd) (ft := ft) (F := F) (L := L) hC hM hw (xs (i + 1)) (xs (i + 2))
  refine V_aload_n (pc := 648) C dL_law_648 rfl 1 rfl ?_
  refine V_arg (pc := 649) (k := 1) C hX hbl hbA hL (by omega) iN1 rfl rfl dL_law_649 dL_law_650 dL_law_651 dL_law_652 dL_law_653 ?_
  refine V_arg (pc := 654) (k := 2) C hX hbl hbA hL (by omega) iN2 rfl rfl dL_law_654 dL_law_655 dL_law_656 dL_law_657 dL_law_658 ?_
  refine V_callLW (pc := 659) (rest := []) (st2 := [.int r]) C hA (X5_nothing_ok h5) gL_X5_nothing rfl ⟨rfl, hdX5_nothing⟩ ⟨Nat.le_of_ble_eq_true rfl, Nat.le_of_ble_eq_true rfl⟩ ⟨Nat.le_of_ble_eq_true rfl, Nat.le_of_ble_eq_true rfl⟩ 5 rfl rfl rfl (Nat.le_of_ble_eq_true rfl) dL_law_659 rfl ?_
  refine V_aload_n (pc := 662) C dL_law_662 rfl 2 rfl ?_
  refine V_arg (pc := 663) (k := 1) C hX hbl hbA hL (by omega) iN1 rfl rfl dL_law_663 dL_law_664 dL_law_665 dL_law_666 dL_law_667 ?_
  refine V_arg (pc := 668) (k := 2) C hX hbl hbA hL (by omega) iN2 rfl rfl dL_law_668 dL_law_669 dL_law_670 dL_law_671 dL_law_672 ?_
  refine V_callRW (pc := 673) (rest := [.int r]) (st2 := [.int r, .int r]) C hA (X6_nothing_ok h6) gL_X6_nothing rfl ⟨rfl, hdX6_nothing⟩ ⟨Nat.le_of_ble_eq_true rfl, Nat.le_of_ble_eq_true rfl⟩ ⟨Nat.le_of_ble_eq_true rfl, Nat.le_of_ble_eq_true rfl⟩ 6 rfl rfl rfl (Nat.le_of_ble_eq_true rfl) dL_law_673 rfl ?_
  refine V_icmp_eq (pc := 676) C 761 dL_law_676 rfl (fun _ => ?_) (fun c => absurd rfl c)
  exact kk _ _ _ _ _ _ _ _ _ _ _ _ ⟨g, hw, hC, hM⟩
theorem law_keep (C : Cx X D Y cL_law 4 RL lw_tbl ret room_1) (hA : ∀ q, (xS X).heap.size ≤ q → AA q) (hX : va_X b M xs (xS X) (xS X).heap) (hbl : b < (xS X).heap.size) (hbA : ¬ AA b) (hL : M ≤ 2560) (hi : i + 5 ≤ M) (hR : Rel a q pg gS gU S U I A) (kk : LK X D Y Q AA a a2 b i) : VW X D 4 Q (KM AA X) (65, 481) (wOff Y a q pg gS gU rd ft S U ++ wM Y a2 I A F L) [(0, .ref b), (1, .ref (a 0)), (2, .ref (a2 0)), (3, .int (nI i))] 681 [] := by
  obtain ⟨r, o0, o1, o2, o3, p0, p1, p2, p3, p4, p5, p6, p7, p8, p9, p10, p11, p12, p13, p14, h5, h6, hR2⟩ := sim_keep (rd := rd) (ft := ft) (F := F) (L := L) hR (xs (i + 1)) (xs (i + 2)) (xs (i + 3))
  refine V_aload_n (pc := 681) C dL_law_681 rfl 1 rfl ?_
  refine V_arg (pc := 682) (k := 1) C hX hbl hbA hL (by omega) iN1 rfl rfl dL_law_682 dL_law_683 dL_law_684 dL_law_685 dL_law_686 ?_
  refine V_arg (pc := 687) (k := 2) C hX hbl hbA hL (by omega) iN2 rfl rfl dL_law_687 dL_law_688 dL_law_689 dL_law_690 dL_law_691 ?_
  refine V_arg (pc := 692) (k := 3) C hX hbl hbA hL (by omega) iN3 rfl rfl dL_law_692 dL_law_693 dL_law_694 dL_law_695 dL_law_696 ?_
  refine V_callLW (pc := 697) (rest := []) (st2 := [.int r]) C hA (X5_keep_ok h5) gL_X5_keep rfl ⟨rfl, hdX5_keep⟩ ⟨Nat.le_of_ble_eq_true rfl, Nat.le_of_ble_eq_true rfl⟩ ⟨Nat.le_of_ble_eq_true rfl, Nat.le_of_ble_eq_true rfl⟩ 5 rfl rfl rfl (Nat.le_of_ble_eq_true rfl) dL_law_697 rfl ?_
  refine V_aload_n (pc := 700) C dL_law_700 rfl 2 rfl ?_
  refine V_arg (pc := 701) (k := 1) C hX hbl hbA hL (by omega) iN1 rfl rfl dL_law_701 dL_law_702 dL_law_703 dL_law_704 dL_law_705 ?_
  refine V_arg (pc := 706) (k := 2) C hX hbl hbA hL (by omega) iN2 rfl rfl dL_law_706 dL_law_707 dL_law_708 dL_law_709 dL_law_710 ?_
  refine V_arg (pc := 711) (k := 3) C hX hbl hbA hL (by omega) iN3 rfl rfl dL_law_711 dL_law_712 dL_law_713 dL_law_714 dL_law_715 ?_
  refine V_callRW (pc := 716) (rest := [.int r]) (st2 := [.int r, .int r]) C hA (X6_keep_ok h6) gL_X6_keep rfl ⟨rfl, hdX6_keep⟩ ⟨Nat.le_of_ble_eq_true rfl, Nat.le_of_ble_eq_true rfl⟩ ⟨Nat.le_of_ble_eq_true rfl, Nat.le_of_ble_eq_true rfl⟩ 6 rfl rfl rfl (Nat.le_of_ble_eq_true rfl) dL_law_716 rfl ?_
  refine V_icmp_eq (pc := 719) C 761 dL_law_719 rfl (fun _ => ?_) (fun c => absurd rfl c)
  exact kk _ _ _ _ _ _ _ _ _ _ _ _ hR2
theorem law_count (C : Cx X D Y cL_law 4 RL lw_tbl ret room_1) (hA : ∀ q, (xS X).heap.size ≤ q → AA q) (hX : va_X b M xs (xS X) (xS X).heap) (hbl : b < (xS X).heap.size) (hbA : ¬ AA b) (hL : M ≤ 2560) (hi : i + 5 ≤ M) (hR : Rel a q pg gS gU S U I A) (kk : LK X D Y Q AA a a2 b i) : VW X D 4 Q (KM AA X) (65, 481) (wOff Y a q pg gS gU rd ft S U ++ wM Y a2 I A F L) [(0, .ref b), (1, .ref (a 0)), (2, .ref (a2 0)), (3, .int (nI i))] 724 [] := by
  obtain ⟨g, hw, hC, hM⟩ := hR
  obtain ⟨r, h5, h6⟩ := sim_count (rd := rd) (ft := ft) (F := F) (L := L) hC hM (xs (i + 1))
  refine V_aload_n (pc := 724) C dL_law_724 rfl 1 rfl ?_
  refine V_arg (pc := 725) (k := 1) C hX hbl hbA hL (by omega) iN1 rfl rfl dL_law_725 dL_law_726 dL_law_727 dL_law_728 dL_law_729 ?_
  refine V_callLR (pc := 730) (rest := []) (st2 := [.int r]) C (X5_count_ok h5) gL_X5_count rfl ⟨rfl, hdX5_count⟩ ⟨Nat.le_of_ble_eq_true rfl, Nat.le_of_ble_eq_true rfl⟩ ⟨Nat.le_of_ble_eq_true rfl, Nat.le_of_ble_eq_true rfl⟩ 5 rfl rfl rfl (Nat.le_of_ble_eq_true rfl) dL_law_730 rfl ?_
  refine V_aload_n (pc := 733) C dL_law_733 rfl 2 rfl ?_
  refine V_arg (pc := 734) (k := 1) C hX hbl hbA hL (by omega) iN1 rfl rfl dL_law_734 dL_law_735 dL_law_736 dL_law_737 dL_law_738 ?_
  refine V_callRR (pc := 739) (rest := [.int r]) (st2 := [.int r, .int r]) C (X6_count_ok h6) gL_X6_count rfl ⟨rfl, hdX6_count⟩ ⟨Nat.le_of_ble_eq_true rfl, Nat.le_of_ble_eq_true rfl⟩ ⟨Nat.le_of_ble_eq_true rfl, Nat.le_of_ble_eq_true rfl⟩ 6 rfl rfl rfl (Nat.le_of_ble_eq_true rfl) dL_law_739 rfl ?_
  refine V_icmp_eq (pc := 742) C 761 dL_law_742 rfl (fun _ => ?_) (fun c => absurd rfl c)
  exact kk _ _ _ _ _ _ _ _ _ _ _ _ ⟨g, hw, hC, hM⟩
theorem law_digest (C : Cx X D Y cL_law 4 RL lw_tbl ret room_1) (hA : ∀ q, (xS X).heap.size ≤ q → AA q) (hX : va_X b M xs (xS X) (xS X).heap) (hbl : b < (xS X).heap.size) (hbA : ¬ AA b) (hL : M ≤ 2560) (hi : i + 5 ≤ M) (hR : Rel a q pg gS gU S U I A) (kk : LK X D Y Q AA a a2 b i) : VW X D 4 Q (KM AA X) (65, 481) (wOff Y a q pg gS gU rd ft S U ++ wM Y a2 I A F L) [(0, .ref b), (1, .ref (a 0)), (2, .ref (a2 0)), (3, .int (nI i))] 747 [] := by
  obtain ⟨g, hw, hC, hM⟩ := hR
  obtain ⟨r, o0, ⟨p0, p1, p2, p3, p4, p5, p6, p7, p8, p9⟩, h5, h6⟩ := sim_digest (rd := rd) (ft := ft) (F := F) (L := L) hC hM hw
  refine V_aload_n (pc := 747) C dL_law_747 rfl 1 rfl ?_
  refine V_callLW (pc := 748) (rest := []) (st2 := [.long r]) C hA (X5_digest_ok h5) gL_X5_digest rfl ⟨rfl, hdX5_digest⟩ ⟨Nat.le_of_ble_eq_true rfl, Nat.le_of_ble_eq_true rfl⟩ ⟨Nat.le_of_ble_eq_true rfl, Nat.le_of_ble_eq_true rfl⟩ 5 rfl rfl rfl (Nat.le_of_ble_eq_true rfl) dL_law_748 rfl ?_
  refine V_aload_n (pc := 751) C dL_law_751 rfl 2 rfl ?_
  refine V_callRW (pc := 752) (rest := [.long r]) (st2 := [.long r, .long r]) C hA (X6_digest_ok h6) gL_X6_digest rfl ⟨rfl, hdX6_digest⟩ ⟨Nat.le_of_ble_eq_true rfl, Nat.le_of_ble_eq_true rfl⟩ ⟨Nat.le_of_ble_eq_true rfl, Nat.le_of_ble_eq_true rfl⟩ 6 rfl rfl rfl (Nat.le_of_ble_eq_true rfl) dL_law_752 rfl ?_
  refine V_lcmp (pc := 755) C dL_law_755 ?_
  refine V_lif_eq (pc := 756) C 761 dL_law_756 rfl (fun _ => ?_) (fun c => absurd rfl c)
  exact kk _ _ _ _ _ _ _ _ _ _ _ _ ⟨g, hw, hC, hM⟩
end LC
