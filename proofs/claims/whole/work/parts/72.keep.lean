/-! ===== a storm or a unit is taken ===== -/
theorem up_s {α : Type} {f : Nat → α} {k : Nat} {v : α} : up f k v k = v := by
  show cond (Nat.beq k k) v (f k) = v
  rw [Nat.beq_refl]; rfl
theorem up_n {α : Type} {f : Nat → α} {k j : Nat} {v : α} (h : j ≠ k) : up f k v j = f j := by
  show cond (Nat.beq j k) v (f j) = f j
  have e : Nat.beq j k = false := by
    cases h2 : Nat.beq j k with
    | false => rfl
    | true => exact absurd (Nat.eq_of_beq_eq_true h2) h
  rw [e]; rfl
theorem fil {R : Type} {P : Option R → Prop} {J : (Nat → Int32) → Option R} {b t sz n : Nat} {B x2 N : Int32} (hB : B = nI b) (hb : 1 ≤ b ∧ b ≤ 8) (ht : x2 = nI t) (hN : N = nI n) (hn : n ≤ b) (hsz : b * t + b ≤ sz) (hsz2 : sz ≤ 32) (v w : Nat → Int32) (h : ∀ w' : Nat → Int32, (∀ k, k < b → w' (b * t + k) = padE n v k) → (∀ x, x < b * t → w' x = w x) → P (J w')) : P (wh2 (fun self (x : Int32) (m : Nat → Int32) => if B ≤ x then J m else (jn2 (fun (s1 : Int32) (s2 : Int32) => chk (inB s1 sz) (self (x + 1) (upd m (Int32.toNatClampNeg s1) s2))) fun J2 => if N ≤ x then (J2 ((B * x2) + x) (0 : Int32)) else (chk (inB x b) (J2 ((B * x2) + x) (v (Int32.toNatClampNeg x)))))) 200 (0 : Int32) w) := by
  subst hB
  subst ht
  subst hN
  refine wh2_for (P := P) b (fun k c m => c = nI k ∧ (∀ j, j < k → m (b * t + j) = padE n v j) ∧ ∀ x, x < b * t → m x = w x) ?_ ?_ 200 0 _ _ (by omega) (by omega) ⟨rfl, fun j hj => by omega, fun x _ => rfl⟩
  · intro k c m hk hI self hself
    obtain ⟨rfl, hm, hx⟩ := hI
    have e1 : nI b * nI t + nI k = nI (b * t + k) := by rw [pk_mul, nI_add]
    have fin : ∀ y : Int32, y = padE n v k → P (chk (inB (nI (b * t + k)) sz) (self (nI k + 1) (upd m (Int32.toNatClampNeg (nI (b * t + k))) y))) := by
      intro y hy
      rw [chk_of (inB_nI (by omega) (by omega)), cl_nI (by omega)]
      refine hself _ _ ⟨nI_1 k, fun j hj => ?_, fun x hx2 => ?_⟩
      · by_cases c : j = k
        · subst c; rw [pk_us]; exact hy
        · rw [pk_un (by omega)]; exact hm j (by omega)
      · rw [pk_un (by omega)]; exact hx x hx2
    rw [if_neg (nI_ge hk (by omega)), jn2_u, e1]
    by_cases c : n ≤ k
    · rw [if_pos (nI_le c (by omega))]
      refine fin _ ?_
      unfold padE; rw [if_neg (by omega)]
    · rw [if_neg (nI_ge (show k < n by omega) (by omega)), chk_of (inB_nI hk (by omega)), cl_nI (show k < 2 ^ 31 by omega)]
      refine fin _ ?_
      unfold padE; rw [if_pos (by omega)]
  · intro c m hI self
    obtain ⟨rfl, hm, hx⟩ := hI
    rw [if_pos (nI_le (Nat.le_refl _) (by omega))]
    exact h m hm hx
theorem pm1 (m : Nat) : nI m + 1 - 1 = nI m := Int32.add_sub_cancel _ _
def TUm (A : Nat → Nat → Int32) (m n : Nat) (l : Int32) (o : Option (Int32 × Int32 × (Nat → Int32) × (Nat → Int32) × (Nat → Int32))) : Prop := ∃ a10, o = some (nI m, nI (m + 1), upd (A 8) m l, upd (A 9) m (nI n), a10) ∧ (∀ k, k < 8 → a10 (8 * m + k) = padE n (A 20) k) ∧ ∀ x, x < 8 * m → a10 x = A 10 x
theorem takeUnit_m {I : Nat → Int32} {A : Nat → Nat → Int32} {F : Nat → Int64} {L : Nat → Nat → Int64} {m n : Nat} (hI : I 7 = nI m) (hm : m < 4) (hN : I 19 = nI n) (hn : n ≤ 8) : TUm A m n (I 16) (X6_takeUnit I A F L) := by
  unfold X6_takeUnit
  rw [hI, hN, chk_of (inB_nI hm (by decide)), chk_of (inB_nI hm (by decide)), jn1_u, cl_nI (by omega)]
  refine fil (P := TUm A m n (I 16)) (B := 8) (x2 := nI m) (N := nI n) (b := 8) (t := m) (sz := 32) (n := n) rfl (by omega) rfl rfl hn (by omega) (by omega) (A 20) (A 10) ?_
  intro w h1 h2
  refine ⟨w, ?_, h1, h2⟩
  rw [pm1, nI_1]
def TSm (A : Nat → Nat → Int32) (m k n : Nat) (o : Option (Int32 × Int32 × (Nat → Int32) × (Nat → Int32) × (Nat → Int32) × (Nat → Int32))) : Prop := ∃ a4 a6, o = some (nI m, nI (m + 1), upd (A 3) m (nI k), a4, upd (A 5) m (nI n), a6) ∧ (∀ j, j < 3 → a4 (3 * m + j) = padE k (A 18) j) ∧ (∀ x, x < 3 * m → a4 x = A 4 x) ∧ (∀ j, j < 8 → a6 (8 * m + j) = padE n (A 20) j) ∧ ∀ x, x < 8 * m → a6 x = A 6 x
theorem takeStorm_m {I : Nat → Int32} {A : Nat → Nat → Int32} {F : Nat → Int64} {L : Nat → Nat → Int64} {m k n : Nat} (hI : I 2 = nI m) (hm : m < 3) (hK : I 17 = nI k) (hk : k ≤ 3) (hN : I 19 = nI n) (hn : n ≤ 8) : TSm A m k n (X6_takeStorm I A F L) := by
  unfold X6_takeStorm
  rw [hI, hN, hK, chk_of (inB_nI hm (by decide)), chk_of (inB_nI hm (by decide)), jn1_u, cl_nI (by omega)]
  refine fil (P := TSm A m k n) (B := 3) (x2 := nI m) (N := nI k) (b := 3) (t := m) (sz := 9) (n := k) rfl (by omega) rfl rfl hk (by omega) (by omega) (A 18) (A 4) ?_
  intro w4 h1 h2
  rw [jn1_u]
  refine fil (P := TSm A m k n) (B := 8) (x2 := nI m) (N := nI n) (b := 8) (t := m) (sz := 24) (n := n) rfl (by omega) rfl rfl hn (by omega) (by omega) (A 20) (A 6) ?_
  intro w6 h3 h4
  refine ⟨w4, w6, ?_, h1, h2, h3, h4⟩
  rw [pm1, nI_1]
def addU (g : Sg) (d : UD) : Sg := (g.1, g.2.1, (g.2.2.1.1 + 1, fun j => if j = g.2.2.1.1 then d else g.2.2.1.2 j), g.2.2.2)
def addS (g : Sg) (d : SD) : Sg := (g.1, (g.2.1.1 + 1, fun j => if j = g.2.1.1 then d else g.2.1.2 j), g.2.2)
section KP
variable {a : Nat → Nat} {q pg : Nat → Int32} {gS gU : Nat → Option Nat} {rd : RdT} {ft : FtT} {S : Nat → StT} {U : Nat → UnT} {I : Nat → Int32} {A : Nat → Nat → Int32} {F : Nat → Int64} {L : Nat → Nat → Int64} {g : Sg}
theorem wf_u (hw : WF g) (hm : g.2.2.1.1 < 4) {d : UD} (hd : UnW d) : WF (addU g d) := by
  refine ⟨hw.1, hw.2.1, hw.2.2.1, hw.2.2.2.1, by show g.2.2.1.1 + 1 ≤ 4; omega, fun i hi => ?_⟩
  have hi : i < g.2.2.1.1 + 1 := hi
  show UnW (if i = g.2.2.1.1 then d else g.2.2.1.2 i)
  by_cases c : i = g.2.2.1.1
  · rw [if_pos c]; exact hd
  · rw [if_neg c]; exact hw.2.2.2.2.2 i (by omega)
theorem wf_s (hw : WF g) (hm : g.2.1.1 < 3) {d : SD} (hd : StW d) : WF (addS g d) := by
  refine ⟨hw.1, hw.2.1, by show g.2.1.1 + 1 ≤ 3; omega, fun i hi => ?_, hw.2.2.2.2⟩
  have hi : i < g.2.1.1 + 1 := hi
  show StW (if i = g.2.1.1 then d else g.2.1.2 i)
  by_cases c : i = g.2.1.1
  · rw [if_pos c]; exact hd
  · rw [if_neg c]; exact hw.2.2.2.1 i (by omega)
theorem crep_u (hC : CRep a q pg gS gU S U g) (hm : g.2.2.1.1 < 4) : ∃ k, k < 4 ∧ gU g.2.2.1.1 = some (a (36 + 3 * k)) ∧ ∀ u d, UnK u d → CRep a (up q 7 (nI (g.2.2.1.1 + 1))) pg gS gU S (up U k u) (addU g d) := by
  obtain ⟨hq, hpg, hd, ps, pu, hps, hpu, hst, hun⟩ := hC
  refine ⟨pu g.2.2.1.1, (hpu.1 _ hm).1, (hpu.1 _ hm).2, fun u d hu => ⟨⟨hq.1, hq.2.1, rfl, hq.2.2.2⟩, hpg, hd, ps, pu, hps, hpu, hst, fun i hi => ?_⟩⟩
  have hi : i < g.2.2.1.1 + 1 := hi
  show UnK (up U (pu g.2.2.1.1) u (pu i)) (if i = g.2.2.1.1 then d else g.2.2.1.2 i)
  by_cases c : i = g.2.2.1.1
  · rw [if_pos c, c, up_s]; exact hu
  · rw [if_neg c, up_n (fun z => c (hpu.2 _ _ (by omega) hm z))]; exact hun i (by omega)
theorem crep_s (hC : CRep a q pg gS gU S U g) (hm : g.2.1.1 < 3) : ∃ k, k < 3 ∧ gS g.2.1.1 = some (a (15 + 7 * k)) ∧ ∀ u d, StK u d → CRep a (up q 6 (nI (g.2.1.1 + 1))) pg gS gU (up S k u) U (addS g d) := by
  obtain ⟨hq, hpg, hd, ps, pu, hps, hpu, hst, hun⟩ := hC
  refine ⟨ps g.2.1.1, (hps.1 _ hm).1, (hps.1 _ hm).2, fun u d hu => ⟨⟨hq.1, rfl, hq.2.2⟩, hpg, hd, ps, pu, hps, hpu, fun i hi => ?_, hun⟩⟩
  have hi : i < g.2.1.1 + 1 := hi
  show StK (up S (ps g.2.1.1) u (ps i)) (if i = g.2.1.1 then d else g.2.1.2 i)
  by_cases c : i = g.2.1.1
  · rw [if_pos c, c, up_s]; exact hu
  · rw [if_neg c, up_n (fun z => c (hps.2 _ _ (by omega) hm z))]; exact hst i (by omega)
theorem mrep_u (hM : MRep I A g) {l : Int32} {n : Nat} {v : Nat → Int32} {a10 : Nat → Int32} {d : UD} (e1 : l = nI d.1) (e2 : n = d.2.1) (e3 : ∀ k, k < 8 → a10 (8 * g.2.2.1.1 + k) = d.2.2 k) (e4 : ∀ x, x < 8 * g.2.2.1.1 → a10 x = A 10 x) : MRep (up I 7 (nI (g.2.2.1.1 + 1))) (up (up (up A 8 (upd (A 8) g.2.2.1.1 l)) 9 (upd (A 9) g.2.2.1.1 (nI n))) 10 a10) (addU g d) := by
  refine ⟨⟨hM.1.1, hM.1.2.1, rfl, hM.1.2.2.2⟩, hM.2.1, hM.2.2.1, fun i hi => ?_⟩
  have hi : i < g.2.2.1.1 + 1 := hi
  show (upd (A 8) g.2.2.1.1 l) i = nI (if i = g.2.2.1.1 then d else g.2.2.1.2 i).1 ∧ (upd (A 9) g.2.2.1.1 (nI n)) i = nI (if i = g.2.2.1.1 then d else g.2.2.1.2 i).2.1 ∧ ∀ j, j < 8 → a10 (8 * i + j) = (if i = g.2.2.1.1 then d else g.2.2.1.2 i).2.2 j
  by_cases c : i = g.2.2.1.1
  · rw [if_pos c, c, pk_us, pk_us, e1, e2]; exact ⟨rfl, rfl, e3⟩
  · rw [if_neg c, pk_un c, pk_un c]
    have h := hM.2.2.2 i (by omega)
    exact ⟨h.1, h.2.1, fun j hj => (e4 _ (by omega)).trans (h.2.2 j hj)⟩
theorem mrep_s (hM : MRep I A g) {k n : Nat} {a4 a6 : Nat → Int32} {d : SD} (e1 : k = d.1) (e2 : n = d.2.2.1) (e3 : ∀ j, j < 3 → a4 (3 * g.2.1.1 + j) = d.2.1 j) (e4 : ∀ x, x < 3 * g.2.1.1 → a4 x = A 4 x) (e5 : ∀ j, j < 8 → a6 (8 * g.2.1.1 + j) = d.2.2.2 j) (e6 : ∀ x, x < 8 * g.2.1.1 → a6 x = A 6 x) : MRep (up I 2 (nI (g.2.1.1 + 1))) (up (up (up (up A 3 (upd (A 3) g.2.1.1 (nI k))) 4 a4) 5 (upd (A 5) g.2.1.1 (nI n))) 6 a6) (addS g d) := by
  refine ⟨⟨hM.1.1, rfl, hM.1.2.2⟩, hM.2.1, fun i hi => ?_, hM.2.2.2⟩
  have hi : i < g.2.1.1 + 1 := hi
  show (upd (A 3) g.2.1.1 (nI k)) i = nI (if i = g.2.1.1 then d else g.2.1.2 i).1 ∧ (∀ j, j < 3 → a4 (3 * i + j) = (if i = g.2.1.1 then d else g.2.1.2 i).2.1 j) ∧ (upd (A 5) g.2.1.1 (nI n)) i = nI (if i = g.2.1.1 then d else g.2.1.2 i).2.2.1 ∧ ∀ j, j < 8 → a6 (8 * i + j) = (if i = g.2.1.1 then d else g.2.1.2 i).2.2.2 j
  by_cases c : i = g.2.1.1
  · rw [if_pos c, c, pk_us, pk_us, e1, e2]; exact ⟨rfl, e3, rfl, e5⟩
  · rw [if_neg c, pk_un c, pk_un c]
    have h := hM.2.2.1 i (by omega)
    exact ⟨h.1, fun j hj => (e4 _ (by omega)).trans (h.2.1 j hj), h.2.2.1, fun j hj => (e6 _ (by omega)).trans (h.2.2.2 j hj)⟩
end KP
