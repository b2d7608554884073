theorem jn4_u {A1 A2 A3 A4 R : Type} (K : A1 → A2 → A3 → A4 → Option R) (f : (A1 → A2 → A3 → A4 → Option R) → Option R) : jn4 K f = f K := rfl
theorem jn5_u {A1 A2 A3 A4 A5 R : Type} (K : A1 → A2 → A3 → A4 → A5 → Option R) (f : (A1 → A2 → A3 → A4 → A5 → Option R) → Option R) : jn5 K f = f K := rfl
/-! ===== the model's drop ===== -/
theorem blk {R : Type} {P : Option R → Prop} {J : (Nat → Int32) → Option R} {b t sz : Nat} {B x2 : Int32} (hB : B = nI b) (hb : 1 ≤ b ∧ b ≤ 8) (ht : x2 = nI t) (hsz : b * t + 2 * b ≤ sz) (hsz2 : sz ≤ 32) (w : Nat → Int32) (h : ∀ w' : Nat → Int32, (∀ m, w' m = if b * t ≤ m ∧ m < b * t + b then w (m + b) else w m) → P (J w')) : P (wh2 (fun self (x : Int32) (m : Nat → Int32) => if B ≤ x then J m else chk (inB (((B * x2) + B) + x) sz) (chk (inB ((B * x2) + x) sz) (self (x + 1) (upd m (Int32.toNatClampNeg ((B * x2) + x)) (m (Int32.toNatClampNeg (((B * x2) + B) + x))))))) 200 (0 : Int32) w) := by
  subst hB
  subst ht
  refine wh2_for (P := P) b (fun k c m => c = nI k ∧ ∀ j, m j = if b * t ≤ j ∧ j < b * t + k then w (j + b) else w j) ?_ ?_ 200 0 _ _ (by omega) (by omega) ⟨rfl, fun j => by rw [if_neg (by omega)]⟩
  · intro k c m hk hI self hself
    obtain ⟨rfl, hm⟩ := hI
    have e1 : nI b * nI t + nI k = nI (b * t + k) := by rw [pk_mul, nI_add]
    have e2 : nI b * nI t + nI b + nI k = nI (b * t + b + k) := by rw [pk_mul, nI_add, nI_add]
    rw [if_neg (nI_ge hk (by omega)), e1, e2, chk_of (inB_nI (by omega) (by omega)), chk_of (inB_nI (by omega) (by omega)), cl_nI (by omega), cl_nI (by omega)]
    refine hself _ _ ⟨nI_1 k, fun j => ?_⟩
    by_cases c : j = b * t + k
    · subst c
      rw [pk_us, hm, if_neg (by omega), if_pos ⟨by omega, by omega⟩]
      exact congrArg w (by omega)
    · rw [pk_un c, hm]
      by_cases c2 : b * t ≤ j ∧ j < b * t + k
      · rw [if_pos c2, if_pos ⟨by omega, by omega⟩]
      · rw [if_neg c2, if_neg (by omega)]
  · intro c m hI self
    obtain ⟨rfl, hm⟩ := hI
    rw [if_pos (nI_le (Nat.le_refl _) (by omega))]
    exact h m hm
def st (i t j : Nat) : Nat := if i ≤ j ∧ j < t then j + 1 else j
theorem st_0 {i j : Nat} : st i i j = j := by unfold st; rw [if_neg (by omega)]
theorem st_s {i t j : Nat} (hit : i ≤ t) : st i (t + 1) j = if j = t then t + 1 else st i t j := by
  unfold st
  repeat' split
  all_goals omega
theorem st_hi {i t : Nat} : st i t (t + 1) = t + 1 := by unfold st; rw [if_neg (by omega)]
/-- a block moved down -/
theorem blk_row {w w' w0 : Nat → Int32} {b i t N : Nat} (hb : 1 ≤ b) (hit : i ≤ t) (htN : t + 1 < N) (hw : ∀ j, j < N → ∀ k, k < b → w (b * j + k) = w0 (b * st i t j + k)) (h : ∀ m, w' m = if b * t ≤ m ∧ m < b * t + b then w (m + b) else w m) : ∀ j, j < N → ∀ k, k < b → w' (b * j + k) = w0 (b * st i (t + 1) j + k) := by
  intro j hj k hk
  rw [h, st_s hit]
  by_cases c : j = t
  · subst c
    rw [if_pos ⟨by omega, by omega⟩, if_pos rfl, show b * j + k + b = b * (j + 1) + k by rw [Nat.mul_add]; omega, hw (j + 1) htN k hk, st_hi]
  · rw [if_neg c, if_neg, hw j hj k hk]
    intro ⟨h1, h2⟩
    rcases Nat.lt_or_ge j t with h3 | h3
    · have : b * (j + 1) ≤ b * t := Nat.mul_le_mul_left b h3
      rw [Nat.mul_add] at this
      omega
    · have : b * (t + 1) ≤ b * j := Nat.mul_le_mul_left b (by omega)
      rw [Nat.mul_add] at this
      omega
theorem cell_row {w w0 : Nat → Int32} {i t N : Nat} (hit : i ≤ t) (htN : t + 1 < N) (hw : ∀ j, j < N → w j = w0 (st i t j)) : ∀ j, j < N → upd w t (w (t + 1)) j = w0 (st i (t + 1) j) := by
  intro j hj
  rw [st_s hit]
  by_cases c : j = t
  · subst c
    rw [pk_us, if_pos rfl, hw (j + 1) htN, st_hi]
  · rw [pk_un c, if_neg c, hw j hj]
def DSm (A : Nat → Nat → Int32) (n i : Nat) (o : Option (Int32 × Int32 × (Nat → Int32) × (Nat → Int32) × (Nat → Int32) × (Nat → Int32))) : Prop := ∃ a3 a4 a5 a6 : Nat → Int32, o = some (nI (n - 1), nI (n - 1), a3, a4, a5, a6) ∧ ∀ j, j < n - 1 → a3 j = A 3 (sg n i j) ∧ (∀ k, k < 3 → a4 (3 * j + k) = A 4 (3 * sg n i j + k)) ∧ a5 j = A 5 (sg n i j) ∧ ∀ k, k < 8 → a6 (8 * j + k) = A 6 (8 * sg n i j + k)
theorem dropStorm_m {I : Nat → Int32} {A : Nat → Nat → Int32} {F : Nat → Int64} {L : Nat → Nat → Int64} {n i : Nat} (hI : I 2 = nI n) (hn : n ≤ 3) (hi : i < n) : DSm A n i (X6_dropStorm I A F L (nI i)) := by
  unfold X6_dropStorm
  rw [hI, nI_pd _ (by omega) (by omega)]
  rw [jn4_u]
  refine wh5_for (P := DSm A n i) (n - 1) (fun (t : Nat) (c : Int32) (a3 a4 a5 a6 : Nat → Int32) => c = nI t ∧ i ≤ t ∧ (∀ j, j < n → a3 j = A 3 (st i t j)) ∧ (∀ j, j < n → ∀ k, k < 3 → a4 (3 * j + k) = A 4 (3 * st i t j + k)) ∧ (∀ j, j < n → a5 j = A 5 (st i t j)) ∧ ∀ j, j < n → ∀ k, k < 8 → a6 (8 * j + k) = A 6 (8 * st i t j + k)) ?_ ?_ 200 i _ _ _ _ _ (by omega) (by omega) ⟨rfl, Nat.le_refl i, fun j _ => by rw [st_0], fun j _ k _ => by rw [st_0], fun j _ => by rw [st_0], fun j _ k _ => by rw [st_0]⟩
  · intro t c a3 a4 a5 a6 ht hInv self hself
    obtain ⟨rfl, hit, h3, h4, h5, h6⟩ := hInv
    rw [if_neg (nI_ge ht (by omega)), nI_1, chk_of (inB_nI (show t + 1 < 3 by omega) (by decide)), chk_of (inB_nI (show t < 3 by omega) (by decide)), chk_of (inB_nI (show t + 1 < 3 by omega) (by decide)), chk_of (inB_nI (show t < 3 by omega) (by decide)), cl_nI (by omega), cl_nI (by omega), jn1_u]
    refine blk (P := DSm A n i) (B := 3) (x2 := nI t) (b := 3) (t := t) (sz := 9) rfl (by omega) rfl (by omega) (by omega) a4 ?_
    intro w4 hw4
    rw [jn1_u]
    refine blk (P := DSm A n i) (B := 8) (x2 := nI t) (b := 8) (t := t) (sz := 24) rfl (by omega) rfl (by omega) (by omega) a6 ?_
    intro w6 hw6
    exact hself _ _ _ _ _ ⟨rfl, by omega, cell_row hit (by omega) h3, blk_row (by omega) hit (by omega) h4 hw4, cell_row hit (by omega) h5, blk_row (by omega) hit (by omega) h6 hw6⟩
  · intro c a3 a4 a5 a6 hInv self
    obtain ⟨rfl, hit, h3, h4, h5, h6⟩ := hInv
    rw [if_pos (nI_le (Nat.le_refl _) (by omega))]
    refine ⟨_, _, _, _, rfl, fun j hj => ?_⟩
    have e : st i (n - 1) j = sg n i j := by
      rw [(sg_in hi hj).2]
      unfold st
      by_cases c : i ≤ j
      · rw [if_pos ⟨c, hj⟩, if_pos c]
      · rw [if_neg (by omega), if_neg c]
    rw [← e]
    exact ⟨h3 j (by omega), h4 j (by omega), h5 j (by omega), h6 j (by omega)⟩
def DUm (A : Nat → Nat → Int32) (n i : Nat) (o : Option (Int32 × Int32 × (Nat → Int32) × (Nat → Int32) × (Nat → Int32))) : Prop := ∃ a3 a5 a6 : Nat → Int32, o = some (nI (n - 1), nI (n - 1), a3, a5, a6) ∧ ∀ j, j < n - 1 → a3 j = A 8 (sg n i j) ∧ a5 j = A 9 (sg n i j) ∧ ∀ k, k < 8 → a6 (8 * j + k) = A 10 (8 * sg n i j + k)
theorem dropUnit_m {I : Nat → Int32} {A : Nat → Nat → Int32} {F : Nat → Int64} {L : Nat → Nat → Int64} {n i : Nat} (hI : I 7 = nI n) (hn : n ≤ 4) (hi : i < n) : DUm A n i (X6_dropUnit I A F L (nI i)) := by
  unfold X6_dropUnit
  rw [hI, nI_pd _ (by omega) (by omega)]
  rw [jn3_u]
  refine wh4_for (P := DUm A n i) (n - 1) (fun (t : Nat) (c : Int32) (a3 a5 a6 : Nat → Int32) => c = nI t ∧ i ≤ t ∧ (∀ j, j < n → a3 j = A 8 (st i t j)) ∧ (∀ j, j < n → a5 j = A 9 (st i t j)) ∧ ∀ j, j < n → ∀ k, k < 8 → a6 (8 * j + k) = A 10 (8 * st i t j + k)) ?_ ?_ 200 i _ _ _ _ (by omega) (by omega) ⟨rfl, Nat.le_refl i, fun j _ => by rw [st_0], fun j _ => by rw [st_0], fun j _ k _ => by rw [st_0]⟩
  · intro t c a3 a5 a6 ht hInv self hself
    obtain ⟨rfl, hit, h3, h5, h6⟩ := hInv
    rw [if_neg (nI_ge ht (by omega)), nI_1, chk_of (inB_nI (show t + 1 < 4 by omega) (by decide)), chk_of (inB_nI (show t < 4 by omega) (by decide)), chk_of (inB_nI (show t + 1 < 4 by omega) (by decide)), chk_of (inB_nI (show t < 4 by omega) (by decide)), cl_nI (by omega), cl_nI (by omega), jn1_u]
    refine blk (P := DUm A n i) (B := 8) (x2 := nI t) (b := 8) (t := t) (sz := 32) rfl (by omega) rfl (by omega) (by omega) a6 ?_
    intro w6 hw6
    exact hself _ _ _ _ ⟨rfl, by omega, cell_row hit (by omega) h3, cell_row hit (by omega) h5, blk_row (by omega) hit (by omega) h6 hw6⟩
  · intro c a3 a5 a6 hInv self
    obtain ⟨rfl, hit, h3, h5, h6⟩ := hInv
    rw [if_pos (nI_le (Nat.le_refl _) (by omega))]
    refine ⟨_, _, _, rfl, fun j hj => ?_⟩
    have e : st i (n - 1) j = sg n i j := by
      rw [(sg_in hi hj).2]
      unfold st
      by_cases c : i ≤ j
      · rw [if_pos ⟨c, hj⟩, if_pos c]
      · rw [if_neg (by omega), if_neg c]
    rw [← e]
    exact ⟨h3 j (by omega), h5 j (by omega), h6 j (by omega)⟩
section DR
variable {a : Nat → Nat} {q pg : Nat → Int32} {gS gU : Nat → Option Nat} {rd : RdT} {ft : FtT} {S : Nat → StT} {U : Nat → UnT} {I : Nat → Int32} {A : Nat → Nat → Int32} {F : Nat → Int64} {L : Nat → Nat → Int64} {g : Sg}
theorem unitThere_e (hM : MRep I A g) (hw : WF g) (p : Int32) : X6_isUnitThere I A F L p = some (if 0 ≤ p.toInt ∧ p.toInt < (g.2.2.1.1 : Int) then 1 else 0) := by
  have h4 := hw.2.2.2.2.1
  unfold X6_isUnitThere
  have e : (nI g.2.2.1.1 - 1).toInt = (g.2.2.1.1 : Int) - 1 := by
    rw [sub_t, nI_toInt (by omega)]
    · rfl
    · rw [nI_toInt (by omega), l1]; omega
    · rw [nI_toInt (by omega), l1]; omega
  rw [hM.1.2.2.1, within_e, ob1_eq, e, l0]
  by_cases c : 0 ≤ p.toInt ∧ p.toInt < (g.2.2.1.1 : Int)
  · rw [if_pos c, if_pos (by omega)]; rfl
  · rw [if_neg c, if_neg (by omega)]; rfl
theorem sim_drop (hR : Rel a q pg gS gU S U I A) (p0 p1 : Int32) : ∃ r o6 o7 o9 gS' gU' i2 a3 a4 a5 a6 i7 a8 a9 a10 i12, X5_drop a q pg gS gU rd ft S U p0 p1 = some (r, o6, o7, o9, gS', gU') ∧ X6_drop I A F L p0 p1 = some (r, i2, a3, a4, a5, a6, i7, a8, a9, a10, i12) ∧ Rel a (up (up (up q 6 o6) 7 o7) 9 o9) pg gS' gU' S U (up (up (up I 2 i2) 7 i7) 12 i12) (up (up (up (up (up (up (up A 3 a3) 4 a4) 5 a5) 6 a6) 8 a8) 9 a9) 10 a10) := by
  obtain ⟨g, hw, hC, hM⟩ := hR
  have hC' := hC
  obtain ⟨hq, hpg, hd, ps, pu, hps, hpu, hst, hun⟩ := hC'
  have hn3 := hw.2.2.1
  have hn4 := hw.2.2.2.2.1
  have same : Rel a (up (up (up q 6 (q 6)) 7 (q 7)) 9 (q 9)) pg gS gU S U (up (up (up I 2 (I 2)) 7 (I 7)) 12 (I 12)) (up (up (up (up (up (up (up A 3 (A 3)) 4 (A 4)) 5 (A 5)) 6 (A 6)) 8 (A 8)) 9 (A 9)) 10 (A 10)) := ⟨g, hw, hC, hM⟩
  by_cases c0 : p0 = 0
  · by_cases c : 0 ≤ p1.toInt ∧ p1.toInt < (g.2.1.1 : Int)
    · obtain ⟨i, hi, rfl⟩ := nat_of c
      obtain ⟨gg, h1, h2⟩ := dropStorm_c (rd := rd) (ft := ft) hC hw hps hi
      obtain ⟨a3, a4, a5, a6, h3, h4⟩ := dropStorm_m (I := up I 12 (I 12 + 1)) (A := A) (F := F) (L := L) (n := g.2.1.1) (i := i) hM.1.2.1 hn3 hi
      refine ⟨nI (g.2.1.1 - 1), nI (g.2.1.1 - 1), q 7, q 9 + 1, gg, gU, nI (g.2.1.1 - 1), a3, a4, a5, a6, I 7, A 8, A 9, A 10, I 12 + 1, ?_, ?_, (g.1, (g.2.1.1 - 1, fun j => g.2.1.2 (sg g.2.1.1 i j)), g.2.2.1, g.2.2.2.1, g.2.2.2.2.1 + 1, g.2.2.2.2.2), ?_, ?_, ?_⟩
      · unfold X5_drop
        rw [if_pos c0, h1, ob4_eq]
      · unfold X6_drop
        rw [jn0_u, if_pos c0, isStorm_e hM hw, ob1_eq, ite10, if_pos c, if_pos c0, h3, ob6_eq]
      · exact ⟨hw.1, hw.2.1, by show g.2.1.1 - 1 ≤ 3; omega, fun j hj => hw.2.2.2.1 _ (sg_in hi hj).1, hw.2.2.2.2⟩
      · exact ⟨⟨hq.1, rfl, hq.2.2.1, hq.2.2.2.1, congrArg (· + 1) hq.2.2.2.2.1, hq.2.2.2.2.2⟩, hpg, hd, _, pu, h2, hpu, fun j hj => hst _ (sg_in hi hj).1, hun⟩
      · refine ⟨⟨hM.1.1, rfl, hM.1.2.2.1, hM.1.2.2.2.1, congrArg (· + 1) hM.1.2.2.2.2.1, hM.1.2.2.2.2.2⟩, hM.2.1, fun j hj => ?_, hM.2.2.2⟩
        obtain ⟨e3, e4, e5, e6⟩ := h4 j hj
        have hS := hM.2.2.1 _ (sg_in hi hj).1
        exact ⟨e3.trans hS.1, fun k hk => (e4 k hk).trans (hS.2.1 k hk), e5.trans hS.2.2.1, fun k hk => (e6 k hk).trans (hS.2.2.2 k hk)⟩
    · refine ⟨-1000002, _, _, _, _, _, _, _, _, _, _, _, _, _, _, _, ?_, ?_, same⟩
      · unfold X5_drop X5_dropStorm
        rw [if_pos c0, hasStorm_e hC hw, ob1_eq, ite10, if_neg c, ob4_eq]
      · unfold X6_drop
        rw [jn0_u, if_pos c0, isStorm_e hM hw, ob1_eq, ite10, if_neg c]
  · by_cases c : 0 ≤ p1.toInt ∧ p1.toInt < (g.2.2.1.1 : Int)
    · obtain ⟨i, hi, rfl⟩ := nat_of c
      obtain ⟨gg, h1, h2⟩ := dropUnit_c (rd := rd) (ft := ft) hC hw hpu hi
      obtain ⟨a3, a5, a6, h3, h4⟩ := dropUnit_m (I := up I 12 (I 12 + 1)) (A := A) (F := F) (L := L) (n := g.2.2.1.1) (i := i) hM.1.2.2.1 hn4 hi
      refine ⟨nI (g.2.2.1.1 - 1), q 6, nI (g.2.2.1.1 - 1), q 9 + 1, gS, gg, I 2, A 3, A 4, A 5, A 6, nI (g.2.2.1.1 - 1), a3, a5, a6, I 12 + 1, ?_, ?_, (g.1, g.2.1, (g.2.2.1.1 - 1, fun j => g.2.2.1.2 (sg g.2.2.1.1 i j)), g.2.2.2.1, g.2.2.2.2.1 + 1, g.2.2.2.2.2), ?_, ?_, ?_⟩
      · unfold X5_drop
        rw [if_neg c0, h1, ob4_eq]
      · unfold X6_drop
        rw [jn0_u, if_neg c0, unitThere_e hM hw, ob1_eq, ite10, if_pos c, if_neg c0, h3, ob5_eq]
      · exact ⟨hw.1, hw.2.1, hw.2.2.1, hw.2.2.2.1, by show g.2.2.1.1 - 1 ≤ 4; omega, fun j hj => hw.2.2.2.2.2 _ (sg_in hi hj).1⟩
      · exact ⟨⟨hq.1, hq.2.1, rfl, hq.2.2.2.1, congrArg (· + 1) hq.2.2.2.2.1, hq.2.2.2.2.2⟩, hpg, hd, ps, _, hps, h2, hst, fun j hj => hun _ (sg_in hi hj).1⟩
      · refine ⟨⟨hM.1.1, hM.1.2.1, rfl, hM.1.2.2.2.1, congrArg (· + 1) hM.1.2.2.2.2.1, hM.1.2.2.2.2.2⟩, hM.2.1, hM.2.2.1, fun j hj => ?_⟩
        obtain ⟨e3, e5, e6⟩ := h4 j hj
        have hS := hM.2.2.2 _ (sg_in hi hj).1
        exact ⟨e3.trans hS.1, e5.trans hS.2.1, fun k hk => (e6 k hk).trans (hS.2.2 k hk)⟩
    · refine ⟨-1000002, _, _, _, _, _, _, _, _, _, _, _, _, _, _, _, ?_, ?_, same⟩
      · unfold X5_drop X5_dropUnit
        rw [if_neg c0, hasUnit_e hC hw, ob1_eq, ite10, if_neg c, ob4_eq]
      · unfold X6_drop
        rw [jn0_u, if_neg c0, unitThere_e hM hw, ob1_eq, ite10, if_neg c]
end DR
