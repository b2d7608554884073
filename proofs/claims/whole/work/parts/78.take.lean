/-! ===== take ===== -/
theorem become_e {n : Int32} {f : Nat → Int32} {nx : Int32} {fx : Nat → Int32} {N : Nat} {h : Nat → Int32} (hr : RowK nx fx N h) : ∃ f', X2_become n f nx fx = some (nx, f') ∧ RowK nx f' N h := by
  unfold X2_become
  refine wh2_for (P := fun o => ∃ f', o = some (nx, f') ∧ RowK nx f' N h) 8 (fun k c w => c = nI k ∧ ∀ j, j < k → w j = h j) ?_ ?_ 200 0 _ _ (by omega) (by omega) ⟨rfl, fun j hj => by omega⟩
  · intro k c w hk hI self hself
    obtain ⟨rfl, hw⟩ := hI
    rw [if_neg (show ¬ (8 : Int32) ≤ nI k from nI_ge hk (by decide)), X2_at_e hr, ob1_eq, chk_of (inB_nI hk (by decide)), cl_nI (by omega), atE_nI hk]
    refine hself _ _ ⟨nI_1 k, fun j hj => ?_⟩
    by_cases c : j = k
    · subst c; rw [pk_us]
    · rw [pk_un c]; exact hw j (by omega)
  · intro c w hI self
    obtain ⟨rfl, hw⟩ := hI
    rw [if_pos (show (8 : Int32) ≤ nI 8 from nI_le (Nat.le_refl 8) (by decide))]
    exact ⟨w, rfl, hr.1, hr.2.1, fun j hj => hw j (by have := hr.2.1; omega), hr.2.2.2⟩
theorem rowK_pad {n : Int32} {f v : Nat → Int32} {N : Nat} (hn : n = nI N) (h8 : N ≤ 8) (h : ∀ j, j < N → f j = v j) : RowK n f N (padE N v) := by
  refine ⟨hn, h8, fun j hj => ?_, fun j h1 h2 => ?_⟩
  · unfold padE; rw [if_pos hj]; exact h j hj
  · unfold padE; rw [if_neg (by omega)]
theorem X3become_e {s : StT} {nx fx nz fz} {d : SD} (h1 : RowK nx fx d.1 d.2.1) (h2 : RowK nz fz d.2.2.1 d.2.2.2) (hw : StW d) : ∃ u1 u2 u3 u4 u5 u6 u7, X3_become s.1 s.2.1 s.2.2.1 s.2.2.2.1 s.2.2.2.2.1 s.2.2.2.2.2.1 s.2.2.2.2.2.2 nx fx nz fz = some (u1, u2, u3, u4, u5, u6, u7) ∧ StK (u1, u2, u3, u4, u5, u6, u7) d := by
  unfold X3_become
  obtain ⟨f1, e1, r1⟩ := become_e (n := s.1) (f := s.2.1) h1
  obtain ⟨f2, e2, r2⟩ := become_e (n := s.2.2.1) (f := s.2.2.2.1) h2
  obtain ⟨n3, f3, ev, e3, -⟩ := divide_e (n3 := s.2.2.2.2.1) (f3 := s.2.2.2.2.2.1) (ev := s.2.2.2.2.2.2) r1 r2 hw
  rw [e1, ob2_eq, e2, ob2_eq, e3, ob3_eq]
  exact ⟨_, _, _, _, _, _, _, rfl, r1, r2, _, _, _, e3⟩
def TakeR (a : Nat → Nat) (q pg : Nat → Int32) (gS gU : Nat → Option Nat) (I : Nat → Int32) (A : Nat → Nat → Int32) (o : Option (Int32 × Int32 × Int32 × Int32 × Int32 × RdT × (Nat → StT) × (Nat → UnT))) (o' : Option (Int32 × Int32 × Int32 × (Nat → Int32) × (Nat → Int32) × (Nat → Int32) × (Nat → Int32) × Int32 × (Nat → Int32) × (Nat → Int32) × (Nat → Int32) × Int32 × Int32 × Int32 × Int32 × Int32 × (Nat → Int32) × Int32 × (Nat → Int32) × Int32 × Int32)) : Prop :=
  ∃ r q5 q6 q7 q8 rd' S' U' i0 i2 a3 a4 a5 a6 i7 a8 a9 a10 i11 i14 i15 i16 i17 a18 i19 a20 i21 i22, o = some (r, q5, q6, q7, q8, rd', S', U') ∧ o' = some (r, i0, i2, a3, a4, a5, a6, i7, a8, a9, a10, i11, i14, i15, i16, i17, a18, i19, a20, i21, i22) ∧ Rel a (up (up (up (up q 5 q5) 6 q6) 7 q7) 8 q8) pg gS gU S' U' (up (up (up (up (up (up (up (up (up (up (up I 0 i0) 2 i2) 7 i7) 11 i11) 14 i14) 15 i15) 16 i16) 17 i17) 19 i19) 21 i21) 22 i22) (up (up (up (up (up (up (up (up (up A 3 a3) 4 a4) 5 a5) 6 a6) 8 a8) 9 a9) 10 a10) 18 a18) 20 a20)
section TK
variable {a : Nat → Nat} {q pg : Nat → Int32} {gS gU : Nat → Option Nat} {rd : RdT} {ft : FtT} {S : Nat → StT} {U : Nat → UnT} {I : Nat → Int32} {A : Nat → Nat → Int32} {F : Nat → Int64} {L : Nat → Nat → Int64} {g : Sg}
theorem take_same (hw : WF g) (hC : CRep a q pg gS gU S U g) (hM : MRep I A g) (r : Int32) (rd' : RdT) (i14 i15 i16 i17 : Int32) (a18 : Nat → Int32) (i19 : Int32) (a20 : Nat → Int32) (i21 i22 : Int32) : TakeR a q pg gS gU I A (some (r, q 5, q 6, q 7, q 8, rd', S, U)) (some (r, I 0, I 2, A 3, A 4, A 5, A 6, I 7, A 8, A 9, A 10, I 11, i14, i15, i16, i17, a18, i19, a20, i21, i22)) :=
  ⟨_, _, _, _, _, _, _, _, _, _, _, _, _, _, _, _, _, _, _, _, _, _, _, _, _, _, _, _, rfl, rfl, g, hw, hC, hM⟩
theorem takeStorm_c (hC : CRep a q pg gS gU S U g) (hm : g.2.1.1 < 3) {d : SD} (h1 : RowK rd.2.2.2.2.1 rd.2.2.2.2.2.1 d.1 d.2.1) (h2 : RowK rd.2.2.2.2.2.2.1 rd.2.2.2.2.2.2.2 d.2.2.1 d.2.2.2) (hw : StW d) : ∃ S', X5_takeStorm a q pg gS gU rd ft S U = some (nI g.2.1.1, nI (g.2.1.1 + 1), S') ∧ CRep a (up q 6 (nI (g.2.1.1 + 1))) pg gS gU S' U (addS g d) := by
  obtain ⟨k, hk, hgk, hcr⟩ := crep_s hC hm
  obtain ⟨u1, u2, u3, u4, u5, u6, u7, hb, hK⟩ := X3become_e (s := S k) h1 h2 hw
  refine ⟨up S k (u1, u2, u3, u4, u5, u6, u7), ?_, hcr _ _ hK⟩
  unfold X5_takeStorm
  rw [hC.1.2.1, if_pos (show nI g.2.1.1 < (3 : Int32) from nI_lt (a := g.2.1.1) (b := 3) hm (by decide)), chk_of (inB_nI hm (by decide)), cl_nI (by omega)]
  have hd := disp3k hC.2.2.1 hk hgk (fun k => ob7 (X3_become ((S k).1) ((S k).2.1) ((S k).2.2.1) ((S k).2.2.2.1) ((S k).2.2.2.2.1) ((S k).2.2.2.2.2.1) ((S k).2.2.2.2.2.2) rd.2.2.2.2.1 rd.2.2.2.2.2.1 rd.2.2.2.2.2.2.1 rd.2.2.2.2.2.2.2) fun on1 of1 on2 of2 on3 of3 oev => some ((((nI g.2.1.1) + (1 : Int32)) - (1 : Int32)), ((nI g.2.1.1) + (1 : Int32)), (up S k (on1, of1, on2, of2, on3, of3, oev))))
  rw [hd, hb, ob7_eq, pm1, nI_1]
theorem takeUnit_c (hC : CRep a q pg gS gU S U g) (hm : g.2.2.1.1 < 4) {d : UD} (h1 : rd.2.1 = nI d.1) (h2 : RowK rd.2.2.2.2.2.2.1 rd.2.2.2.2.2.2.2 d.2.1 d.2.2) : ∃ U', X5_takeUnit a q pg gS gU rd ft S U = some (nI g.2.2.1.1, nI (g.2.2.1.1 + 1), U') ∧ CRep a (up q 7 (nI (g.2.2.1.1 + 1))) pg gS gU S U' (addU g d) := by
  obtain ⟨k, hk, hgk, hcr⟩ := crep_u hC hm
  obtain ⟨f', hb, hr⟩ := become_e (n := (U k).2.1) (f := (U k).2.2) h2
  refine ⟨up U k (rd.2.1, rd.2.2.2.2.2.2.1, f'), ?_, hcr _ _ ⟨h1, hr⟩⟩
  unfold X5_takeUnit
  rw [hC.1.2.2.1, if_pos (show nI g.2.2.1.1 < (4 : Int32) from nI_lt (a := g.2.2.1.1) (b := 4) hm (by decide)), chk_of (inB_nI hm (by decide)), cl_nI (by omega)]
  simp only [X1_lengthOfUnit, ob1_eq]
  have hd := disp4k hC.2.2.1 hk hgk (fun k => ob2 (X2_become ((U k).2.1) ((U k).2.2) rd.2.2.2.2.2.2.1 rd.2.2.2.2.2.2.2) fun on_43 of_43 => some ((((nI g.2.2.1.1) + (1 : Int32)) - (1 : Int32)), ((nI g.2.2.1.1) + (1 : Int32)), (up U k (rd.2.1, on_43, of_43))))
  rw [hd, hb, ob2_eq, pm1, nI_1]
end TK
