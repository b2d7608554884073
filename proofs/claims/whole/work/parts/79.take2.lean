section TK2
variable {a : Nat → Nat} {q pg : Nat → Int32} {gS gU : Nat → Option Nat} {rd : RdT} {ft : FtT} {S : Nat → StT} {U : Nat → UnT} {I : Nat → Int32} {A : Nat → Nat → Int32} {F : Nat → Int64} {L : Nat → Nat → Int64} {g : Sg}
theorem stW_pad {k m : Nat} {v w : Nat → Int32} (h1 : 1 ≤ k) (h2 : k ≤ 3) (h3 : ∀ j, j < k → 0 ≤ (v j).toInt ∧ (v j).toInt ≤ 5) (h4 : 0 < (v 0).toInt) (h5 : 1 ≤ m) (h6 : m ≤ 8) (h7 : ∀ j, j < m → 0 ≤ (w j).toInt ∧ (w j).toInt ≤ 99) : StW (k, padE k v, m, padE m w) := by
  refine ⟨⟨h1, h2, fun j hj => ?_, fun j => ?_, ?_⟩, h5, h6, fun j hj => ?_, fun j => ?_⟩
  · show padE k v j = 0
    have hj : k ≤ j := hj
    unfold padE; rw [if_neg (by omega)]
  · show 0 ≤ (padE k v j).toInt ∧ (padE k v j).toInt ≤ 5
    unfold padE
    by_cases c : j < k
    · rw [if_pos c]; exact h3 j c
    · rw [if_neg c]; decide
  · show 0 < (padE k v 0).toInt
    unfold padE; rw [if_pos (by omega)]; exact h4
  · show padE m w j = 0
    have hj : m ≤ j := hj
    unfold padE; rw [if_neg (by omega)]
  · show 0 ≤ (padE m w j).toInt ∧ (padE m w j).toInt ≤ 99
    unfold padE
    by_cases c : j < m
    · rw [if_pos c]; exact h7 j c
    · rw [if_neg c]; decide
theorem notFull {m : Nat} (hm : m < 10) : ¬ nI m = (-1000005 : Int32) := fun z => by
  have := congrArg Int32.toInt z
  rw [nI_toInt (by omega)] at this
  have e : (-1000005 : Int32).toInt = -1000005 := rfl
  omega
theorem sim_take (hR : Rel a q pg gS gU S U I A) : TakeR a q pg gS gU I A (X5_take a q pg gS gU rd ft S U) (X6_take I A F L) := by
  obtain ⟨g, hw, hC, hM⟩ := hR
  have hn40 := hw.1
  obtain ⟨r, pl, ln, ou, im, n1, f1, n2, f2, i14, i15, i16, i17, a18, i19, a20, i21, i22, h1, h2, hcase⟩ := read_both (I := I) (A := A) (F := F) (L := L) (pg := pg) hw.1 hM.1.1 (fun j hj => (hC.2.1 j hj).trans (hM.2.1 j hj).symm) rd.1 rd.2.1 rd.2.2.1 rd.2.2.2.1 rd.2.2.2.2.1 rd.2.2.2.2.2.1 rd.2.2.2.2.2.2.1 rd.2.2.2.2.2.2.2
  rw [← hC.1.1] at h1
  unfold X5_take X6_take
  rw [h1, h2, ob9_eq, ob10_eq]
  rcases hcase with ⟨i, hi, rfl⟩ | ⟨rfl, hK⟩
  · have l : nI i < nI g.1.1 := nI_lt hi (by omega)
    rw [if_pos (show nI i < q 5 by rw [hC.1.1]; exact l), if_pos (show nI i < I 0 by rw [hM.1.1]; exact l)]
    exact take_same hw hC hM _ _ _ _ _ _ _ _ _ _ _
  · have l : ¬ nI g.1.1 < nI g.1.1 := Int32.lt_irrefl
    rw [if_neg (show ¬ nI g.1.1 < q 5 by rw [hC.1.1]; exact l), if_neg (show ¬ nI g.1.1 < I 0 by rw [hM.1.1]; exact l)]
    unfold X1_isWhole
    by_cases h4 : pl = 4
    · rcases hK with ⟨rfl, -⟩ | ⟨rfl, -⟩ | ⟨rfl, -⟩ | ⟨rfl, -⟩ | ⟨-, h14, hside, hrow⟩
      · exact absurd h4 (by decide)
      · exact absurd h4 (by decide)
      · exact absurd h4 (by decide)
      · exact absurd h4 (by decide)
      subst h14
      obtain ⟨m, hm, hcnt, hj, hz0, hc⟩ := id hrow
      rcases hc with ⟨rfl, -, rfl, -⟩ | ⟨rfl, -, -, -, -, -, -⟩
      · rw [if_pos h4, if_pos rfl, ob1_eq, if_pos rfl, if_pos rfl, if_pos rfl]
        exact take_same hw hC hM _ _ _ _ _ _ _ _ _ _ _
      · subst hcnt
        obtain ⟨g1, g2, g3, -⟩ := krow_next hrow (Nat.le_refl 8) hm
        have hR2 : RowK n2 f2 (m + 1) (padE (m + 1) (upd a20 m i22)) := rowK_pad g1 (by omega) (fun j hj => (g3 j hj).1)
        have n10 : ¬ (1 : Int32) = 0 := by decide
        have n41 : ¬ (4 : Int32) = 1 := by decide
        rw [if_pos h4, if_neg n10, ob1_eq, if_neg n10, if_pos rfl, if_neg g2, jn0_u]
        unfold X1_isOfUnit
        rcases hside with ⟨rfl, rfl, k, hk1, hk3, rfl, rfl, hrj, hr0⟩ | ⟨rfl, rfl, hle, hl1, hl4⟩
        · rw [chk_of (show isB 0 = true from rfl), ob1_eq, jn5_u, if_pos rfl, if_pos rfl]
          by_cases hm3 : g.2.1.1 < 3
          · have hd : StW (k, padE k a18, m + 1, padE (m + 1) (upd a20 m i22)) := stW_pad hk1 hk3 (fun j hj => (hrj j hj).2) hr0 (by omega) (by omega) (fun j hj => (g3 j hj).2)
            obtain ⟨S', hs1, hs2⟩ := takeStorm_c (rd := (pl, ln, 0, 1, nI k, f1, n2, f2)) (ft := ft) hC hm3 (d := (k, padE k a18, m + 1, padE (m + 1) (upd a20 m i22))) (rowK_pad rfl (by omega) (fun j hj => (hrj j hj).1)) hR2 hd
            rw [hs1, ob3_eq]
            dsimp only
            rw [if_neg (notFull (by omega)), if_neg (show ¬ I 2 = 3 from fun z => by have := congrArg Int32.toInt z; rw [hM.1.2.1, nI_toInt (by omega), l3] at this; omega)]
            unfold X6_keepNumber
            rw [if_neg (show ¬ up (up (up (up (up (up (up I 14 4) 15 0) 16 i16) 17 (nI k)) 19 (nI m)) 21 i21) 22 i22 14 = 1 from n41), chk_of (show inB (up (up (up (up (up (up (up I 14 4) 15 0) 16 i16) 17 (nI k)) 19 (nI m)) 21 i21) 22 i22 19) 8 = true from inB_nI hm (by decide)), ob4_eq, if_pos rfl]
            obtain ⟨b4, b6, t1, t2, t3, t4, t5⟩ := takeStorm_m (I := up (up (up (up (up (up (up (up (up I 14 4) 15 0) 16 i16) 17 (nI k)) 19 (nI m + 1)) 21 i21) 22 i22) 0 0) 11 (I 11 + 1)) (A := up (up A 18 a18) 20 (upd a20 (nI m).toNatClampNeg i22)) (F := F) (L := L) (m := g.2.1.1) (k := k) (n := m + 1) hM.1.2.1 hm3 rfl hk3 (nI_1 m) (by omega)
            have t1' : X6_takeStorm (up (up (up (up (up (up (up (up (up I 14 4) 15 0) 16 i16) 17 (up (up (up (up (up (up (up I 14 4) 15 0) 16 i16) 17 (nI k)) 19 (nI m)) 21 i21) 22 i22 17)) 19 (up (up (up (up (up (up (up I 14 4) 15 0) 16 i16) 17 (nI k)) 19 (nI m)) 21 i21) 22 i22 19 + 1)) 21 i21) 22 i22) 0 0) 11 (I 11 + 1)) (up (up A 18 (up (up A 18 a18) 20 a20 18)) 20 (upd (up (up A 18 a18) 20 a20 20) (up (up (up (up (up (up (up I 14 4) 15 0) 16 i16) 17 (nI k)) 19 (nI m)) 21 i21) 22 i22 19).toNatClampNeg (up (up (up (up (up (up (up I 14 4) 15 0) 16 i16) 17 (nI k)) 19 (nI m)) 21 i21) 22 i22 22))) F L = _ := t1
            rw [t1', ob6_eq]
            rw [cl_nI (show m < 2 ^ 31 by omega)] at t4
            refine ⟨_, _, _, _, _, _, _, _, _, _, _, _, _, _, _, _, _, _, _, _, _, _, _, _, _, _, _, _, rfl, rfl, (addS g (k, padE k a18, m + 1, padE (m + 1) (upd a20 m i22)) |> fun g' => ((0, g'.1.2), g'.2.1, g'.2.2.1, g'.2.2.2.1 + 1, g'.2.2.2.2.1, g'.2.2.2.2.2)), ?_, ?_, ?_⟩
            · have := wf_s hw hm3 hd
              exact ⟨Nat.zero_le _, fun j hj => absurd hj (Nat.not_lt_zero j), this.2.2⟩
            · exact ⟨⟨rfl, hs2.1.2.1, hs2.1.2.2.1, congrArg (· + 1) hs2.1.2.2.2.1, hs2.1.2.2.2.2.1, hs2.1.2.2.2.2.2⟩, fun j hj => absurd hj (Nat.not_lt_zero j), hs2.2.2⟩
            · have hmr := mrep_s (d := (k, padE k a18, m + 1, padE (m + 1) (upd a20 m i22))) hM (k := k) (n := m + 1) (a4 := b4) (a6 := b6) rfl rfl t2 t3 t4 t5
              exact ⟨⟨rfl, hmr.1.2.1, hmr.1.2.2.1, congrArg (· + 1) hmr.1.2.2.2.1, hmr.1.2.2.2.2.1, hmr.1.2.2.2.2.2⟩, fun j hj => absurd hj (Nat.not_lt_zero j), hmr.2.2⟩
          · have h3 : g.2.1.1 = 3 := by have := hw.2.2.1; omega
            have e3 : nI g.2.1.1 = 3 := by rw [h3]; rfl
            unfold X5_takeStorm
            rw [if_neg (show ¬ q 6 < 3 by rw [hC.1.2.1, e3]; decide), ob3_eq, if_pos (show I 2 = 3 by rw [hM.1.2.1, e3])]
            exact take_same hw hC hM _ _ _ _ _ _ _ _ _ _ _
        · rw [chk_of (show isB 1 = true from rfl), ob1_eq, jn5_u, if_neg n10, if_neg n10]
          by_cases hm3 : g.2.2.1.1 < 4
          · have hln := i32_of (x := ln) (by omega)
            have hcl := cl_pos (x := ln) (by omega)
            have hd : UnW (ln.toNatClampNeg, m + 1, padE (m + 1) (upd a20 m i22)) := unW_pad (by omega) (by omega) (by omega) (by omega) (fun j hj => (g3 j hj).2)
            obtain ⟨U', hs1, hs2⟩ := takeUnit_c (rd := (pl, ln, 1, 1, n1, f1, n2, f2)) (ft := ft) hC hm3 (d := (ln.toNatClampNeg, m + 1, padE (m + 1) (upd a20 m i22))) hln hR2
            rw [hs1, ob3_eq]
            dsimp only
            rw [if_neg (notFull (by omega)), if_neg (show ¬ I 7 = 4 from fun z => by have := congrArg Int32.toInt z; rw [hM.1.2.2.1, nI_toInt (by omega), l4] at this; omega)]
            unfold X6_keepNumber
            rw [if_neg (show ¬ up (up (up (up (up (up (up I 14 4) 15 1) 16 i16) 17 i17) 19 (nI m)) 21 i21) 22 i22 14 = 1 from n41), chk_of (show inB (up (up (up (up (up (up (up I 14 4) 15 1) 16 i16) 17 i17) 19 (nI m)) 21 i21) 22 i22 19) 8 = true from inB_nI hm (by decide)), ob4_eq, if_neg n10]
            obtain ⟨b10, t1, t2, t3⟩ := takeUnit_m (I := up (up (up (up (up (up (up (up (up I 14 4) 15 1) 16 i16) 17 i17) 19 (nI m + 1)) 21 i21) 22 i22) 0 0) 11 (I 11 + 1)) (A := up (up A 18 a18) 20 (upd a20 (nI m).toNatClampNeg i22)) (F := F) (L := L) (m := g.2.2.1.1) (n := m + 1) hM.1.2.2.1 hm3 (nI_1 m) (by omega)
            have t1' : X6_takeUnit (up (up (up (up (up (up (up (up (up I 14 4) 15 1) 16 i16) 17 (up (up (up (up (up (up (up I 14 4) 15 1) 16 i16) 17 i17) 19 (nI m)) 21 i21) 22 i22 17)) 19 (up (up (up (up (up (up (up I 14 4) 15 1) 16 i16) 17 i17) 19 (nI m)) 21 i21) 22 i22 19 + 1)) 21 i21) 22 i22) 0 0) 11 (I 11 + 1)) (up (up A 18 (up (up A 18 a18) 20 a20 18)) 20 (upd (up (up A 18 a18) 20 a20 20) (up (up (up (up (up (up (up I 14 4) 15 1) 16 i16) 17 i17) 19 (nI m)) 21 i21) 22 i22 19).toNatClampNeg (up (up (up (up (up (up (up I 14 4) 15 1) 16 i16) 17 i17) 19 (nI m)) 21 i21) 22 i22 22))) F L = _ := t1
            rw [t1', ob5_eq]
            rw [cl_nI (show m < 2 ^ 31 by omega)] at t2
            refine ⟨_, _, _, _, _, _, _, _, _, _, _, _, _, _, _, _, _, _, _, _, _, _, _, _, _, _, _, _, rfl, rfl, (addU g (ln.toNatClampNeg, m + 1, padE (m + 1) (upd a20 m i22)) |> fun g' => ((0, g'.1.2), g'.2.1, g'.2.2.1, g'.2.2.2.1 + 1, g'.2.2.2.2.1, g'.2.2.2.2.2)), ?_, ?_, ?_⟩
            · have := wf_u hw hm3 hd
              exact ⟨Nat.zero_le _, fun j hj => absurd hj (Nat.not_lt_zero j), this.2.2⟩
            · exact ⟨⟨rfl, hs2.1.2.1, hs2.1.2.2.1, congrArg (· + 1) hs2.1.2.2.2.1, hs2.1.2.2.2.2.1, hs2.1.2.2.2.2.2⟩, fun j hj => absurd hj (Nat.not_lt_zero j), hs2.2.2⟩
            · have hmr := mrep_u (v := a20) (d := (ln.toNatClampNeg, m + 1, padE (m + 1) (upd a20 m i22))) hM (l := i16) (n := m + 1) (a10 := b10) (hle.symm.trans hln) rfl t2 t3
              exact ⟨⟨rfl, hmr.1.2.1, hmr.1.2.2.1, congrArg (· + 1) hmr.1.2.2.2.1, hmr.1.2.2.2.2.1, hmr.1.2.2.2.2.2⟩, fun j hj => absurd hj (Nat.not_lt_zero j), hmr.2.2⟩
          · have h3 : g.2.2.1.1 = 4 := by have := hw.2.2.2.2.1; omega
            have e3 : nI g.2.2.1.1 = 4 := by rw [h3]; rfl
            unfold X5_takeUnit
            rw [if_neg (show ¬ q 7 < 4 by rw [hC.1.2.2.1, e3]; decide), ob3_eq, if_pos (show I 7 = 4 by rw [hM.1.2.2.1, e3])]
            exact take_same hw hC hM _ _ _ _ _ _ _ _ _ _ _
    · have hno : ¬ i14 = 4 := by
        rcases hK with ⟨-, h, -⟩ | ⟨-, h, -⟩ | ⟨-, h, -⟩ | ⟨-, h, -⟩ | ⟨h, -⟩
        · rw [h]; decide
        · rw [h]; decide
        · rw [h]; decide
        · rw [h]; decide
        · exact absurd h h4
      rw [if_neg h4, ob1_eq, if_pos rfl, if_neg hno]
      exact take_same hw hC hM _ _ _ _ _ _ _ _ _ _ _
end TK2
