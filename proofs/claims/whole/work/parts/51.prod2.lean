theorem bitB_t {p : Int32} {s : Nat} (h : bitB p s = true) : ((p >>> (nI s &&& 31)) &&& (1 : Int32)) = (1 : Int32) := by simpa [bitB] using h
theorem bitB_f {p : Int32} {s : Nat} (h : bitB p s = false) : ¬ ((p >>> (nI s &&& 31)) &&& (1 : Int32)) = (1 : Int32) := by simpa [bitB] using h
section FS
variable {a : Nat → Nat} {q pg : Nat → Int32} {gS gU : Nat → Option Nat} {rd : RdT} {ft : FtT} {S : Nat → StT} {U : Nat → UnT} {I : Nat → Int32} {A : Nat → Nat → Int32} {F : Nat → Int64} {L : Nat → Nat → Int64} {g : Sg}
def Prods (u v : Nat → Int64) (p : Int32) (g : Sg) (s : Nat) : Prop := ∀ k, k < 4 → u k = Int64.ofInt (totS p g.2.1.2 (fun d => gD d k) s) ∧ v k = Int64.ofInt (totS p g.2.1.2 (fun d => bD d k) s)
theorem fitStorms_e (hC : CRep a q pg gS gU S U g) (hw : WF g) (p0 : Int32) {n : Nat} (h1 : 1 ≤ n) (h4 : n ≤ 4) : ∃ u v : Nat → Int64, Prods u v p0 g g.2.1.1 ∧ X5_fitStorms a q pg gS gU rd ft S U p0 (nI n) = ob4 (X0_settle u v ft.2.2.1 ft.2.2.2.1 ft.2.2.2.2.1 ft.2.2.2.2.2.1 (Int64.ofInt (totS p0 g.2.1.2 rD g.2.1.1)) (nI n)) fun omx oab opr obe => some (u, v, omx, oab, opr, obe, Int64.ofInt (totS p0 g.2.1.2 rD g.2.1.1), nI n) := by
  unfold X5_fitStorms
  obtain ⟨rd', rr', hb, hz⟩ := begin_e (rd := ft.1) (rr := ft.2.1) (mx := ft.2.2.1) (ab := ft.2.2.2.1) (pr := ft.2.2.2.2.1) (be := ft.2.2.2.2.2.1) (rs := ft.2.2.2.2.2.2.1) (sz := ft.2.2.2.2.2.2.2) h1 h4
  rw [hb, ob4_eq, hC.1.2.1]
  obtain ⟨-, -, hd, ps, pu, hps, hpu, hst, hun⟩ := hC
  have hs := hw.2.2.1
  simp only [jn1]
  refine wh2_for (P := fun o => ∃ u v : Nat → Int64, Prods u v p0 g g.2.1.1 ∧ o = ob4 (X0_settle u v ft.2.2.1 ft.2.2.2.1 ft.2.2.2.2.1 ft.2.2.2.2.2.1 (Int64.ofInt (totS p0 g.2.1.2 rD g.2.1.1)) (nI n)) fun omx oab opr obe => some (u, v, omx, oab, opr, obe, Int64.ofInt (totS p0 g.2.1.2 rD g.2.1.1), nI n)) g.2.1.1 (fun s c t => c = nI s ∧ ∃ u v : Nat → Int64, Prods u v p0 g s ∧ t = (u, v, ft.2.2.1, ft.2.2.2.1, ft.2.2.2.2.1, ft.2.2.2.2.2.1, Int64.ofInt (totS p0 g.2.1.2 rD s), nI n)) ?_ ?_ 200 0 _ _ (by omega) (by omega) ⟨rfl, rd', rr', fun k hk => hz k hk, rfl⟩
  · intro s c t hi hI self hself
    obtain ⟨rfl, u, v, hp, rfl⟩ := hI
    rw [if_neg (nI_ge hi (by omega))]
    cases hbit : bitB p0 s with
    | false =>
      rw [if_neg (bitB_f hbit)]
      refine hself _ _ ⟨nI_1 s, u, v, fun k hk => ?_, ?_⟩
      · have := hp k hk
        simp only [totS, hbit, cond, Int.add_zero]
        exact this
      · simp only [totS, hbit, cond, Int.add_zero]
    | true =>
      have hK := hst s hi
      have hW := hw.2.2.2.1 s hi
      rw [if_pos (bitB_t hbit), chk_of (inB_nI (show s < 3 by omega) (by decide)), cl_nI (by omega), disp3 hd hps (by omega)]
      have main : ∀ sg : StT, StK sg (g.2.1.2 s) → (∃ u' v' : Nat → Int64, Prods u' v' p0 g g.2.1.1 ∧ (ob3 (X0_add u v ft.2.2.1 ft.2.2.2.1 ft.2.2.2.2.1 ft.2.2.2.2.2.1 (Int64.ofInt (totS p0 g.2.1.2 rD s)) (nI n) sg.1 sg.2.1 sg.2.2.1 sg.2.2.2.1 sg.2.2.2.2.1 sg.2.2.2.2.2.1 sg.2.2.2.2.2.2) fun ord orr ors => self (nI s + 1) (ord, orr, ft.2.2.1, ft.2.2.2.1, ft.2.2.2.2.1, ft.2.2.2.2.2.1, ors, nI n)) = ob4 (X0_settle u' v' ft.2.2.1 ft.2.2.2.1 ft.2.2.2.2.1 ft.2.2.2.2.2.1 (Int64.ofInt (totS p0 g.2.1.2 rD g.2.1.1)) (nI n)) fun omx oab opr obe => some (u', v', omx, oab, opr, obe, Int64.ofInt (totS p0 g.2.1.2 rD g.2.1.1), nI n)) := by
        intro sg hsg
        obtain ⟨u', v', ha, hk'⟩ := add_e (rd := u) (rr := v) (mx := ft.2.2.1) (ab := ft.2.2.2.1) (pr := ft.2.2.2.2.1) (be := ft.2.2.2.2.2.1) (rs := Int64.ofInt (totS p0 g.2.1.2 rD s)) (sz := nI n) hsg hW
        rw [ha, ob3_eq]
        refine hself _ _ ⟨nI_1 s, u', v', fun k hk => ?_, ?_⟩
        · obtain ⟨e1, e2⟩ := hp k hk
          obtain ⟨e3, e4⟩ := hk' k hk
          simp only [totS, hbit, cond]
          rw [e3, e4, e1, e2, ← Int64.ofInt_add, ← Int64.ofInt_add]
          exact ⟨rfl, rfl⟩
        · simp only [totS, hbit, cond]
          rw [← Int64.ofInt_add]
      rcases lt3 (hps.1 s (by omega)).1 with e | e | e <;> rw [e] at hK <;> simp only [e, reduceIte, Nat.reduceEqDiff, Nat.one_ne_zero] <;> exact main _ hK
  · intro c t hI self
    obtain ⟨rfl, u, v, hp, rfl⟩ := hI
    rw [if_pos (nI_le (Nat.le_refl _) (by omega))]
    exact ⟨u, v, hp, rfl⟩
/-- the model's products of one storm -/
def gM (d : SD) (k : Nat) : Int := sumI (fun t => (atE d.2.1 (nI t)).toInt * (atE d.2.1 (nI t - nI k)).toInt) 12
def bM (d : SD) (k : Nat) : Int := sumI (fun t => (atE d.2.2.2 (nI t)).toInt * (atE d.2.1 (nI t - nI k)).toInt) 12
def rM (d : SD) : Int := sumI (fun t => (atE d.2.2.2 (nI t)).toInt * (atE d.2.2.2 (nI t)).toInt) 12
theorem atE_sub {f : Nat → Int32} {t k : Nat} (ht : t < 12) (hk : k < 4) : atE f (nI t - nI k) = if k ≤ t ∧ t - k < 8 then f (t - k) else 0 := by
  have e : (nI t - nI k).toInt = (t : Int) - k := pk_sub_toInt (by omega) (by omega)
  unfold atE
  rw [e]
  by_cases c : k ≤ t ∧ t - k < 8
  · rw [if_pos c, if_pos (by omega), pk_sub c.1, cl_nI (by omega)]
  · rw [if_neg c, if_neg (by omega)]
theorem gM_e {d : SD} (hw : StW d) : ∀ k, k < 4 → gM d k = gD d k := by
  have z : ∀ j, 3 ≤ j → d.2.1 j = 0 := fun j hj => hw.1.2.2.1 j (by have := hw.1.2.1; omega)
  have z3 := z 3 (by omega)
  have z4 := z 4 (by omega)
  have z5 := z 5 (by omega)
  have z6 := z 6 (by omega)
  have z7 := z 7 (by omega)
  refine lt4 ?_ ?_ ?_ ?_ <;> simp only [gM, gD, sumI, atE_sub (show 0 < 12 by omega) (show 0 < 4 by omega)] <;> simp (disch := omega) only [atE_sub, atE_nI, atE_out, z3, z4, z5, z6, z7, l0, Int.zero_mul, Int.mul_zero, Int.add_zero, Int.zero_add, Nat.reduceLeDiff, Nat.reduceSub, Nat.reduceLT, Nat.reduceAdd, and_self, and_true, true_and, and_false, false_and, reduceIte] <;> grind
theorem bM_e {d : SD} (hw : StW d) : ∀ k, k < 4 → bM d k = bD d k := by
  have z : ∀ j, 3 ≤ j → d.2.1 j = 0 := fun j hj => hw.1.2.2.1 j (by have := hw.1.2.1; omega)
  have z3 := z 3 (by omega)
  have z4 := z 4 (by omega)
  have z5 := z 5 (by omega)
  have z6 := z 6 (by omega)
  have z7 := z 7 (by omega)
  refine lt4 ?_ ?_ ?_ ?_ <;> simp only [bM, bD, sumI] <;> simp (disch := omega) only [atE_sub, atE_nI, atE_out, z3, z4, z5, z6, z7, l0, Int.zero_mul, Int.mul_zero, Int.add_zero, Int.zero_add, Nat.reduceLeDiff, Nat.reduceSub, Nat.reduceLT, Nat.reduceAdd, and_self, and_true, true_and, and_false, false_and, reduceIte] <;> grind
theorem rM_e {d : SD} : rM d = rD d := by
  simp only [rM, rD, sumI]
  simp (disch := omega) only [atE_nI, atE_out, l0, Int.zero_mul, Int.mul_zero, Int.add_zero]
end FS
