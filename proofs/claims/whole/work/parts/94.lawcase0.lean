section LC
variable {X : VX} {D : va_G} {Y : Nat → ClassId} {Q : State → Prop} {AA : Nat → Prop} {a a2 : Nat → Nat} {b M i : Nat} {xs : Nat → Int32} {q pg : Nat → Int32} {gS gU : Nat → Option Nat} {rd : RdT} {ft : FtT} {S : Nat → StT} {U : Nat → UnT} {I : Nat → Int32} {A : Nat → Nat → Int32} {F : Nat → Int64} {L : Nat → Nat → Int64}
theorem law_letter (C : Cx X D Y cL_law 4 RL lw_tbl ret room_1) (hA : ∀ q, (xS X).heap.size ≤ q → AA q) (hX : va_X b M xs (xS X) (xS X).heap) (hbl : b < (xS X).heap.size) (hbA : ¬ AA b) (hL : M ≤ 2560) (hi : i + 5 ≤ M) (hR : Rel a q pg gS gU S U I A) (kk : LK X D Y Q AA a a2 b i) : VW X D 4 Q (KM AA X) (65, 481) (wOff Y a q pg gS gU rd ft S U ++ wM Y a2 I A F L) [(0, .ref b), (1, .ref (a 0)), (2, .ref (a2 0)), (3, .int (nI i))] 124 [] := by
  obtain ⟨r, o0, o1, p0, p1, h5, h6, hR2⟩ := sim_letter (rd := rd) (ft := ft) (F := F) (L := L) hR (xs (i + 1))
  refine V_aload_n (pc := 124) C dL_law_124 rfl 1 rfl ?_
  refine V_arg (pc := 125) (k := 1) C hX hbl hbA hL (by omega) iN1 rfl rfl dL_law_125 dL_law_126 dL_law_127 dL_law_128 dL_law_129 ?_
  refine V_callLW (pc := 130) (rest := []) (st2 := [.int r]) C hA (X5_letter_ok h5) gL_X5_letter rfl ⟨rfl, hdX5_letter⟩ ⟨Nat.le_of_ble_eq_true rfl, Nat.le_of_ble_eq_true rfl⟩ ⟨Nat.le_of_ble_eq_true rfl, Nat.le_of_ble_eq_true rfl⟩ 5 rfl rfl rfl (Nat.le_of_ble_eq_true rfl) dL_law_130 rfl ?_
  refine V_aload_n (pc := 133) C dL_law_133 rfl 2 rfl ?_
  refine V_arg (pc := 134) (k := 1) C hX hbl hbA hL (by omega) iN1 rfl rfl dL_law_134 dL_law_135 dL_law_136 dL_law_137 dL_law_138 ?_
  refine V_callRW (pc := 139) (rest := [.int r]) (st2 := [.int r, .int r]) C hA (X6_letter_ok h6) gL_X6_letter rfl ⟨rfl, hdX6_letter⟩ ⟨Nat.le_of_ble_eq_true rfl, Nat.le_of_ble_eq_true rfl⟩ ⟨Nat.le_of_ble_eq_true rfl, Nat.le_of_ble_eq_true rfl⟩ 6 rfl rfl rfl (Nat.le_of_ble_eq_true rfl) dL_law_139 rfl ?_
  refine V_icmp_eq (pc := 142) C 761 dL_law_142 rfl (fun _ => ?_) (fun c => absurd rfl c)
  exact kk _ _ _ _ _ _ _ _ _ _ _ _ hR2
theorem law_blank (C : Cx X D Y cL_law 4 RL lw_tbl ret room_1) (hA : ∀ q, (xS X).heap.size ≤ q → AA q) (hX : va_X b M xs (xS X) (xS X).heap) (hbl : b < (xS X).heap.size) (hbA : ¬ AA b) (hL : M ≤ 2560) (hi : i + 5 ≤ M) (hR : Rel a q pg gS gU S U I A) (kk : LK X D Y Q AA a a2 b i) : VW X D 4 Q (KM AA X) (65, 481) (wOff Y a q pg gS gU rd ft S U ++ wM Y a2 I A F L) [(0, .ref b), (1, .ref (a 0)), (2, .ref (a2 0)), (3, .int (nI i))] 147 [] := by
  obtain ⟨r, o, p, h5, h6, hR2⟩ := sim_blank (rd := rd) (ft := ft) (F := F) (L := L) hR
  refine V_aload_n (pc := 147) C dL_law_147 rfl 1 rfl ?_
  refine V_callLW (pc := 148) (rest := []) (st2 := [.int r]) C hA (X5_blank_ok h5) gL_X5_blank rfl ⟨rfl, hdX5_blank⟩ ⟨Nat.le_of_ble_eq_true rfl, Nat.le_of_ble_eq_true rfl⟩ ⟨Nat.le_of_ble_eq_true rfl, Nat.le_of_ble_eq_true rfl⟩ 5 rfl rfl rfl (Nat.le_of_ble_eq_true rfl) dL_law_148 rfl ?_
  refine V_aload_n (pc := 151) C dL_law_151 rfl 2 rfl ?_
  refine V_callRW (pc := 152) (rest := [.int r]) (st2 := [.int r, .int r]) C hA (X6_blank_ok h6) gL_X6_blank rfl ⟨rfl, hdX6_blank⟩ ⟨Nat.le_of_ble_eq_true rfl, Nat.le_of_ble_eq_true rfl⟩ ⟨Nat.le_of_ble_eq_true rfl, Nat.le_of_ble_eq_true rfl⟩ 6 rfl rfl rfl (Nat.le_of_ble_eq_true rfl) dL_law_152 rfl ?_
  refine V_icmp_eq (pc := 155) C 761 dL_law_155 rfl (fun _ => ?_) (fun c => absurd rfl c)
  exact kk _ _ _ _ _ _ _ _ _ _ _ _ hR2
theorem law_fault (C : Cx X D Y cL_law 4 RL lw_tbl ret room_1) (hA : ∀ q, (xS X).heap.size ≤ q → AA q) (hX : va_X b M xs (xS X) (xS X).heap) (hbl : b < (xS X).heap.size) (hbA : ¬ AA b) (hL : M ≤ 2560) (hi : i + 5 ≤ M) (hR : Rel a q pg gS gU S U I A) (kk : LK X D Y Q AA a a2 b i) : VW X D 4 Q (KM AA X) (65, 481) (wOff Y a q pg gS gU rd ft S U ++ wM Y a2 I A F L) [(0, .ref b), (1, .ref (a 0)), (2, .ref (a2 0)), (3, .int (nI i))] 160 [] := by
  obtain ⟨g, hw, hC, hM⟩ := hR
  obtain ⟨r, o0, ⟨p0, p1, p2, p3, p4, p5, p6, p7, p8⟩, h5, h6⟩ := sim_fault (rd := rd) (ft := ft) (F := F) (L := L) hC hM hw
  refine V_aload_n (pc := 160) C dL_law_160 rfl 1 rfl ?_
  refine V_callLW (pc := 161) (rest := []) (st2 := [.int r]) C hA (X5_fault_ok h5) gL_X5_fault rfl ⟨rfl, hdX5_fault⟩ ⟨Nat.le_of_ble_eq_true rfl, Nat.le_of_ble_eq_true rfl⟩ ⟨Nat.le_of_ble_eq_true rfl, Nat.le_of_ble_eq_true rfl⟩ 5 rfl rfl rfl (Nat.le_of_ble_eq_true rfl) dL_law_161 rfl ?_
  refine V_aload_n (pc := 164) C dL_law_164 rfl 2 rfl ?_
  refine V_callRW (pc := 165) (rest := [.int r]) (st2 := [.int r, .int r]) C hA (X6_fault_ok h6) gL_X6_fault rfl ⟨rfl, hdX6_fault⟩ ⟨Nat.le_of_ble_eq_true rfl, Nat.le_of_ble_eq_true rfl⟩ ⟨Nat.le_of_ble_eq_true rfl, Nat.le_of_ble_eq_true rfl⟩ 6 rfl rfl rfl (Nat.le_of_ble_eq_true rfl) dL_law_165 rfl ?_
  refine V_icmp_eq (pc := 168) C 761 dL_law_168 rfl (fun _ => ?_) (fun c => absurd rfl c)
  exact kk _ _ _ _ _ _ _ _ _ _ _ _ ⟨g, hw, hC, hM⟩
theorem law_take (C : Cx X D Y cL_law 4 RL lw_tbl ret room_1) (hA : ∀ q, (xS X).heap.size ≤ q → AA q) (hX : va_X b M xs (xS X) (xS X).heap) (hbl : b < (xS X).heap.size) (hbA : ¬ AA b) (hL : M ≤ 2560) (hi : i + 5 ≤ M) (hR : Rel a q pg gS gU S U I A) (kk : LK X D Y Q AA a a2 b i) : VW X D 4 Q (KM AA X) (65, 481) (wOff Y a q pg gS gU rd ft S U ++ wM Y a2 I A F L) [(0, .ref b), (1, .ref (a 0)), (2, .ref (a2 0)), (3, .int (nI i))] 173 [] := by
  obtain ⟨r, o0, o1, o2, o3, o4, o5, o6, p0, p1, p2, p3, p4, p5, p6, p7, p8, p9, p10, p11, p12, p13, p14, p15, p16, p17, p18, p19, h5, h6, hR2⟩ := sim_take (rd := rd) (ft := ft) (F := F) (L := L) hR
  refine V_aload_n (pc := 173) C dL_law_173 rfl 1 rfl ?_
  refine V_callLW (pc := 174) (rest := []) (st2 := [.int r]) C hA (X5_take_ok h5) gL_X5_take rfl ⟨rfl, hdX5_take⟩ ⟨Nat.le_of_ble_eq_true rfl, Nat.le_of_ble_eq_true rfl⟩ ⟨Nat.le_of_ble_eq_true rfl, Nat.le_of_ble_eq_true rfl⟩ 5 rfl rfl rfl (Nat.le_of_ble_eq_true rfl) dL_law_174 rfl ?_
  refine V_aload_n (pc := 177) C dL_law_177 rfl 2 rfl ?_
  refine V_callRW (pc := 178) (rest := [.int r]) (st2 := [.int r, .int r]) C hA (X6_take_ok h6) gL_X6_take rfl ⟨rfl, hdX6_take⟩ ⟨Nat.le_of_ble_eq_true rfl, Nat.le_of_ble_eq_true rfl⟩ ⟨Nat.le_of_ble_eq_true rfl, Nat.le_of_ble_eq_true rfl⟩ 6 rfl rfl rfl (Nat.le_of_ble_eq_true rfl) dL_law_178 rfl ?_
  refine V_icmp_eq (pc := 181) C 761 dL_law_181 rfl (fun _ => ?_) (fun c => absurd rfl c)
  exact kk _ _ _ _ _ _ _ _ _ _ _ _ hR2
theorem law_drop (C : Cx X D Y cL_law 4 RL lw_tbl ret room_1) (hA : ∀ q, (xS X).heap.size ≤ q → AA q) (hX : va_X b M xs (xS X) (xS X).heap) (hbl : b < (xS X).heap.size) (hbA : ¬ AA b) (hL : M ≤ 2560) (hi : i + 5 ≤ M) (hR : Rel a q pg gS gU S U I A) (kk : LK X D Y Q AA a a2 b i) : VW X D 4 Q (KM AA X) (65, 481) (wOff Y a q pg gS gU rd ft S U ++ wM Y a2 I A F L) [(0, .ref b), (1, .ref (a 0)), (2, .ref (a2 0)), (3, .int (nI i))] 186 [] := by
  obtain ⟨r, o0, o1, o2, o3, o4, p0, p1, p2, p3, p4, p5, p6, p7, p8, p9, h5, h6, hR2⟩ := sim_drop (rd := rd) (ft := ft) (F := F) (L := L) hR (if xs (i + 1) = 0 then 0 else 1) (xs (i + 2))
  refine V_aload_n (pc := 186) C dL_law_186 rfl 1 rfl ?_
  refine V_arg (pc := 187) (k := 1) C hX hbl hbA hL (by omega) iN1 rfl rfl dL_law_187 dL_law_188 dL_law_189 dL_law_190 dL_law_191 ?_
  refine V_bool (pc := 192) C dL_law_192 dL_law_195 dL_law_196 dL_law_199 ?_
  refine V_arg (pc := 200) (k := 2) C hX hbl hbA hL (by omega) iN2 rfl rfl dL_law_200 dL_law_201 dL_law_202 dL_law_203 dL_law_204 ?_
  refine V_callLW (pc := 205) (rest := []) (st2 := [.int r]) C hA (X5_drop_ok h5) gL_X5_drop rfl ⟨rfl, hdX5_drop⟩ ⟨Nat.le_of_ble_eq_true rfl, Nat.le_of_ble_eq_true rfl⟩ ⟨Nat.le_of_ble_eq_true rfl, Nat.le_of_ble_eq_true rfl⟩ 5 rfl rfl rfl (Nat.le_of_ble_eq_true rfl) dL_law_205 rfl ?_
  refine V_aload_n (pc := 208) C dL_law_208 rfl 2 rfl ?_
  refine V_arg (pc := 209) (k := 1) C hX hbl hbA hL (by omega) iN1 rfl rfl dL_law_209 dL_law_210 dL_law_211 dL_law_212 dL_law_213 ?_
  refine V_bool (pc := 214) C dL_law_214 dL_law_217 dL_law_218 dL_law_221 ?_
  refine V_arg (pc := 222) (k := 2) C hX hbl hbA hL (by omega) iN2 rfl rfl dL_law_222 dL_law_223 dL_law_224 dL_law_225 dL_law_226 ?_
  refine V_callRW (pc := 227) (rest := [.int r]) (st2 := [.int r, .int r]) C hA (X6_drop_ok h6) gL_X6_drop rfl ⟨rfl, hdX6_drop⟩ ⟨Nat.le_of_ble_eq_true rfl, Nat.le_of_ble_eq_true rfl⟩ ⟨Nat.le_of_ble_eq_true rfl, Nat.le_of_ble_eq_true rfl⟩ 6 rfl rfl rfl (Nat.le_of_ble_eq_true rfl) dL_law_227 rfl ?_
  refine V_icmp_eq (pc := 230) C 761 dL_law_230 rfl (fun _ => ?_) (fun c => absurd rfl c)
  exact kk _ _ _ _ _ _ _ _ _ _ _ _ hR2
end LC
