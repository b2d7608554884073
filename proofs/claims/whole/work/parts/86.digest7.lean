theorem frF_same {N M : Nat → Int} {D E : Int} (hD : 0 < D) (hE : 0 < E) (h : Int64) : ∀ n, (∀ k, k < n → N k * E = M k * D) → frF N D h n = frF M E h n := by
  intro n
  induction n with
  | zero => intro _; rfl
  | succ n ih =>
    intro hs
    simp only [frF, frH]
    rw [ih (fun k hk => hs k (by omega)), lowI_same hD hE (hs n (by omega)), lowI_same hD hE (hs n (by omega))]
theorem fitH_same {gg bb : Nat → Int} (hG : GB gg bb) {n f e : Nat} (h4 : n ≤ 4) (hf : f < 2 ^ n) (he : e < 2 ^ n) (hB : Best gg bb n f) (hE : Best gg bb n e) (r : Int) (h : Int64) : fitH bb (NF gg bb f.testBit) (DF gg bb f.testBit) r n h = fitH bb (NF gg bb e.testBit) (DF gg bb e.testBit) r n h := by
  have hs := best_same hG h4 hf he hB hE
  have hl := loss_same (bb := bb) (r := r) hs
  unfold fitH frH
  rw [frF_same (D_b hG f).1 (D_b hG e).1 h n (fun k hk => hs k (by omega)), lowI_same (D_b hG f).1 (D_b hG e).1 hl, lowI_same (D_b hG f).1 (D_b hG e).1 hl]
section DG7
variable {a : Nat → Nat} {q pg : Nat → Int32} {gS gU : Nat → Option Nat} {rd : RdT} {ft : FtT} {S : Nat → StT} {U : Nat → UnT} {I : Nat → Int32} {A : Nat → Nat → Int32} {F : Nat → Int64} {L : Nat → Nat → Int64} {g : Sg}
theorem fitOne_e (hC : CRep a q pg gS gU S U g) (hw : WF g) {p0 : Int32} (hG : GB (gT p0 g) (bT p0 g)) {n e : Nat} (h1 : 1 ≤ n) (h4 : n ≤ 4) (he : e < 2 ^ n) (hE : Best (gT p0 g) (bT p0 g) n e) : ∃ ft', X5_fitStorms a q pg gS gU rd ft S U p0 (nI n) = some ft' ∧ ∀ h, X5_withFit a q pg gS gU rd ft' S U h (nI n) = some (fitH (bT p0 g) (NF (gT p0 g) (bT p0 g) e.testBit) (DF (gT p0 g) (bT p0 g) e.testBit) (RT p0 g) n h) := by
  obtain ⟨u, v, hP, hf⟩ := fitStorms_e (rd := rd) (ft := ft) hC hw p0 (n := n) h1 h4
  obtain ⟨mx, ab, pr, be, hs, f, hf1, hf2, rfl, hf4, hf5⟩ := settle_e (rd := u) (rr := v) (mx := ft.2.2.1) (ab := ft.2.2.2.1) (pr := ft.2.2.2.2.1) (be := ft.2.2.2.2.2.1) (rs := Int64.ofInt (totS p0 g.2.1.2 rD g.2.1.1)) (n := n) hG (fun k hk => (hP k hk).1) (fun k hk => (hP k hk).2) h1 h4
  rw [hs, ob4_eq] at hf
  refine ⟨_, hf, fun h => ?_⟩
  rw [← fitH_same hG h4 hf1 he hf2 hE]
  exact withFit_e (fun k hk => (hP k hk).2) h1 h4 hf4 (fun j h5 h6 => (best_N h4 hf1 hf2 j h6).2 h5) (fun k hk => by have := NF_bound hG f.testBit k (by omega); exact ⟨by omega, by omega⟩) (loss_b hG (NF_bound hG f.testBit) (DF_bound hG f.testBit) (rT_b hw p0)) (D_b hG f).1 (D_b hG f).2 h
theorem fitLoop_e (hC : CRep a q pg gS gU S U g) (hw : WF g) {p0 : Int32} (hG : GB (gT p0 g) (bT p0 g)) {ns : Nat} (h0 : ¬ nI ns ≤ 0) {f : Nat → Nat} (hf : ∀ n, 1 ≤ n → n ≤ 4 → f n < 2 ^ n ∧ Best (gT p0 g) (bT p0 g) n (f n)) {R : Type} (J : Int64 → FtT → Option R) (T : Int64) : ∃ ft', wh3 (fun self99 (x1_99 : Int64) (x3_99 : Int32) (mft_99 : FtT) => if (4 : Int32) < x3_99 then (J x1_99 mft_99) else (if nI ns ≤ 0 then (J x1_99 mft_99) else (ob1 (X5_fitStorms a q pg gS gU rd mft_99 S U p0 x3_99) fun oft_121 => ob1 (X5_withFit a q pg gS gU rd oft_121 S U x1_99 x3_99) fun r127 => self99 r127 (x3_99 + 1) oft_121))) 200 T (1 : Int32) ft = J (ffH f p0 g T 4) ft' := by
  refine wh3_for (P := fun o => ∃ ft', o = J (ffH f p0 g T 4) ft') 5 (fun n h c _ => c = nI n ∧ 1 ≤ n ∧ h = ffH f p0 g T (n - 1)) ?_ ?_ 200 1 _ _ _ (by omega) (by omega) ⟨rfl, by omega, rfl⟩
  · intro n h c ft1 hn hI self hself
    obtain ⟨rfl, hn1, rfl⟩ := hI
    obtain ⟨hf1, hf2⟩ := hf n hn1 (by omega)
    obtain ⟨ft2, e1, e2⟩ := fitOne_e (rd := rd) (ft := ft1) hC hw hG hn1 (by omega) hf1 hf2
    rw [if_neg (show ¬ (4 : Int32) < nI n from nI_nlt (a := 4) (b := n) (by omega) (by decide)), if_neg h0, e1, ob1_eq, e2, ob1_eq]
    refine hself _ _ _ ⟨nI_1 n, by omega, ?_⟩
    obtain ⟨m, rfl⟩ : ∃ m, n = m + 1 := ⟨n - 1, by omega⟩
    rfl
  · intro h c ft1 hI self
    obtain ⟨rfl, -, rfl⟩ := hI
    rw [if_pos (show (4 : Int32) < nI 5 from nI_lt (a := 4) (b := 5) (by omega) (by decide))]
    exact ⟨_, rfl⟩
end DG7
