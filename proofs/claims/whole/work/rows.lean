section
-- ===== PART A: goes FIRST, ahead of the names: the tables' words, and 'selects' of the private methods out of them =====
/-- a private method of a class that the tables say can be made, by its rows of tables_1 -/
def lw_okq (q : MethodName × Nat) : Prop := (q.1.cls ≠ "java/lang/invoke/MethodHandle" ∧ q.1.cls ≠ "java/lang/invoke/VarHandle") ∧ Cond.instantiable q.1.cls q.2 ∈ tables_1 ∧ Cond.privateMethod q.1 ∈ tables_1 ∧ Cond.instanceMethod q.1 ∈ tables_1
theorem lw_p0 : lw_okq (⟨"RunoffOffice$Reader", "begin", "()V"⟩, 6) := ⟨⟨by decide +kernel, by decide +kernel⟩, List.mem_of_getElem? (i := 22) (by decide +kernel), List.mem_of_getElem? (i := 188) (by decide +kernel), List.mem_of_getElem? (i := 189) (by decide +kernel)⟩
theorem lw_p1 : lw_okq (⟨"RunoffOffice$Reader", "goesOnWith", "(I)Z"⟩, 6) := ⟨⟨by decide +kernel, by decide +kernel⟩, List.mem_of_getElem? (i := 22) (by decide +kernel), List.mem_of_getElem? (i := 196) (by decide +kernel), List.mem_of_getElem? (i := 197) (by decide +kernel)⟩
theorem lw_p2 : lw_okq (⟨"RunoffOffice$Reader", "startsWith", "(I)Z"⟩, 6) := ⟨⟨by decide +kernel, by decide +kernel⟩, List.mem_of_getElem? (i := 22) (by decide +kernel), List.mem_of_getElem? (i := 200) (by decide +kernel), List.mem_of_getElem? (i := 201) (by decide +kernel)⟩
theorem lw_p3 : lw_okq (⟨"RunoffOffice$Reader", "rainGoesOnWith", "(I)Z"⟩, 6) := ⟨⟨by decide +kernel, by decide +kernel⟩, List.mem_of_getElem? (i := 22) (by decide +kernel), List.mem_of_getElem? (i := 204) (by decide +kernel), List.mem_of_getElem? (i := 205) (by decide +kernel)⟩
theorem lw_p4 : lw_okq (⟨"RunoffOffice$Reader", "takesColon", "(I)Z"⟩, 6) := ⟨⟨by decide +kernel, by decide +kernel⟩, List.mem_of_getElem? (i := 22) (by decide +kernel), List.mem_of_getElem? (i := 208) (by decide +kernel), List.mem_of_getElem? (i := 209) (by decide +kernel)⟩
theorem lw_p5 : lw_okq (⟨"RunoffOffice$Reader", "numbersGoOnWith", "(LRunoffOffice$Row;III)Z"⟩, 6) := ⟨⟨by decide +kernel, by decide +kernel⟩, List.mem_of_getElem? (i := 22) (by decide +kernel), List.mem_of_getElem? (i := 216) (by decide +kernel), List.mem_of_getElem? (i := 217) (by decide +kernel)⟩
theorem lw_p6 : lw_okq (⟨"RunoffOffice$Reader", "takesFigure", "(LRunoffOffice$Row;II)Z"⟩, 6) := ⟨⟨by decide +kernel, by decide +kernel⟩, List.mem_of_getElem? (i := 22) (by decide +kernel), List.mem_of_getElem? (i := 220) (by decide +kernel), List.mem_of_getElem? (i := 221) (by decide +kernel)⟩
theorem lw_p7 : lw_okq (⟨"RunoffOffice$Reader", "takesLength", "(I)Z"⟩, 6) := ⟨⟨by decide +kernel, by decide +kernel⟩, List.mem_of_getElem? (i := 22) (by decide +kernel), List.mem_of_getElem? (i := 236) (by decide +kernel), List.mem_of_getElem? (i := 237) (by decide +kernel)⟩
theorem lw_p8 : lw_okq (⟨"RunoffOffice", "takeUnit", "()I"⟩, 11) := ⟨⟨by decide +kernel, by decide +kernel⟩, List.mem_of_getElem? (i := 10) (by decide +kernel), List.mem_of_getElem? (i := 256) (by decide +kernel), List.mem_of_getElem? (i := 257) (by decide +kernel)⟩
theorem lw_p9 : lw_okq (⟨"RunoffOffice", "takeStorm", "()I"⟩, 11) := ⟨⟨by decide +kernel, by decide +kernel⟩, List.mem_of_getElem? (i := 10) (by decide +kernel), List.mem_of_getElem? (i := 272) (by decide +kernel), List.mem_of_getElem? (i := 273) (by decide +kernel)⟩
theorem lw_p10 : lw_okq (⟨"RunoffOffice$Storm", "divide", "()V"⟩, 4) := ⟨⟨by decide +kernel, by decide +kernel⟩, List.mem_of_getElem? (i := 94) (by decide +kernel), List.mem_of_getElem? (i := 281) (by decide +kernel), List.mem_of_getElem? (i := 282) (by decide +kernel)⟩
theorem lw_p11 : lw_okq (⟨"RunoffOffice", "dropUnit", "(I)I"⟩, 11) := ⟨⟨by decide +kernel, by decide +kernel⟩, List.mem_of_getElem? (i := 10) (by decide +kernel), List.mem_of_getElem? (i := 297) (by decide +kernel), List.mem_of_getElem? (i := 298) (by decide +kernel)⟩
theorem lw_p12 : lw_okq (⟨"RunoffOffice", "hasUnit", "(I)Z"⟩, 11) := ⟨⟨by decide +kernel, by decide +kernel⟩, List.mem_of_getElem? (i := 10) (by decide +kernel), List.mem_of_getElem? (i := 301) (by decide +kernel), List.mem_of_getElem? (i := 302) (by decide +kernel)⟩
theorem lw_p13 : lw_okq (⟨"RunoffOffice", "dropStorm", "(I)I"⟩, 11) := ⟨⟨by decide +kernel, by decide +kernel⟩, List.mem_of_getElem? (i := 10) (by decide +kernel), List.mem_of_getElem? (i := 306) (by decide +kernel), List.mem_of_getElem? (i := 307) (by decide +kernel)⟩
theorem lw_p14 : lw_okq (⟨"RunoffOffice", "hasStorm", "(I)Z"⟩, 11) := ⟨⟨by decide +kernel, by decide +kernel⟩, List.mem_of_getElem? (i := 10) (by decide +kernel), List.mem_of_getElem? (i := 310) (by decide +kernel), List.mem_of_getElem? (i := 311) (by decide +kernel)⟩
theorem lw_p15 : lw_okq (⟨"RunoffOffice", "canFit", "(II)Z"⟩, 11) := ⟨⟨by decide +kernel, by decide +kernel⟩, List.mem_of_getElem? (i := 10) (by decide +kernel), List.mem_of_getElem? (i := 383) (by decide +kernel), List.mem_of_getElem? (i := 384) (by decide +kernel)⟩
def lw_privs_1 : List (MethodName × Nat) := [(⟨"RunoffOffice$Reader", "begin", "()V"⟩, 6), (⟨"RunoffOffice$Reader", "goesOnWith", "(I)Z"⟩, 6), (⟨"RunoffOffice$Reader", "startsWith", "(I)Z"⟩, 6), (⟨"RunoffOffice$Reader", "rainGoesOnWith", "(I)Z"⟩, 6), (⟨"RunoffOffice$Reader", "takesColon", "(I)Z"⟩, 6), (⟨"RunoffOffice$Reader", "numbersGoOnWith", "(LRunoffOffice$Row;III)Z"⟩, 6), (⟨"RunoffOffice$Reader", "takesFigure", "(LRunoffOffice$Row;II)Z"⟩, 6), (⟨"RunoffOffice$Reader", "takesLength", "(I)Z"⟩, 6), (⟨"RunoffOffice", "takeUnit", "()I"⟩, 11), (⟨"RunoffOffice", "takeStorm", "()I"⟩, 11), (⟨"RunoffOffice$Storm", "divide", "()V"⟩, 4), (⟨"RunoffOffice", "dropUnit", "(I)I"⟩, 11), (⟨"RunoffOffice", "hasUnit", "(I)Z"⟩, 11), (⟨"RunoffOffice", "dropStorm", "(I)I"⟩, 11), (⟨"RunoffOffice", "hasStorm", "(I)Z"⟩, 11), (⟨"RunoffOffice", "canFit", "(II)Z"⟩, 11)]
theorem lw_r1 : ∀ q ∈ lw_privs_1, lw_okq q := List.forall_mem_cons.mpr ⟨lw_p0, List.forall_mem_cons.mpr ⟨lw_p1, List.forall_mem_cons.mpr ⟨lw_p2, List.forall_mem_cons.mpr ⟨lw_p3, List.forall_mem_cons.mpr ⟨lw_p4, List.forall_mem_cons.mpr ⟨lw_p5, List.forall_mem_cons.mpr ⟨lw_p6, List.forall_mem_cons.mpr ⟨lw_p7, List.forall_mem_cons.mpr ⟨lw_p8, List.forall_mem_cons.mpr ⟨lw_p9, List.forall_mem_cons.mpr ⟨lw_p10, List.forall_mem_cons.mpr ⟨lw_p11, List.forall_mem_cons.mpr ⟨lw_p12, List.forall_mem_cons.mpr ⟨lw_p13, List.forall_mem_cons.mpr ⟨lw_p14, List.forall_mem_cons.mpr ⟨lw_p15, fun _ h => absurd h List.not_mem_nil⟩⟩⟩⟩⟩⟩⟩⟩⟩⟩⟩⟩⟩⟩⟩⟩
theorem lw_p16 : lw_okq (⟨"RunoffOffice", "fitStorms", "(II)V"⟩, 11) := ⟨⟨by decide +kernel, by decide +kernel⟩, List.mem_of_getElem? (i := 10) (by decide +kernel), List.mem_of_getElem? (i := 391) (by decide +kernel), List.mem_of_getElem? (i := 392) (by decide +kernel)⟩
theorem lw_p17 : lw_okq (⟨"RunoffOffice$Fit", "fitsWith", "(I)Z"⟩, 8) := ⟨⟨by decide +kernel, by decide +kernel⟩, List.mem_of_getElem? (i := 63) (by decide +kernel), List.mem_of_getElem? (i := 414) (by decide +kernel), List.mem_of_getElem? (i := 415) (by decide +kernel)⟩
theorem lw_p18 : lw_okq (⟨"RunoffOffice$Fit", "determinant", "(II)J"⟩, 8) := ⟨⟨by decide +kernel, by decide +kernel⟩, List.mem_of_getElem? (i := 63) (by decide +kernel), List.mem_of_getElem? (i := 418) (by decide +kernel), List.mem_of_getElem? (i := 419) (by decide +kernel)⟩
theorem lw_p19 : lw_okq (⟨"RunoffOffice$Fit", "entry", "(IIII)J"⟩, 8) := ⟨⟨by decide +kernel, by decide +kernel⟩, List.mem_of_getElem? (i := 63) (by decide +kernel), List.mem_of_getElem? (i := 422) (by decide +kernel), List.mem_of_getElem? (i := 423) (by decide +kernel)⟩
theorem lw_p20 : lw_okq (⟨"RunoffOffice$Fit", "minor", "(III)J"⟩, 8) := ⟨⟨by decide +kernel, by decide +kernel⟩, List.mem_of_getElem? (i := 63) (by decide +kernel), List.mem_of_getElem? (i := 432) (by decide +kernel), List.mem_of_getElem? (i := 433) (by decide +kernel)⟩
theorem lw_p21 : lw_okq (⟨"RunoffOffice$Fit", "pressOn", "(I)J"⟩, 8) := ⟨⟨by decide +kernel, by decide +kernel⟩, List.mem_of_getElem? (i := 63) (by decide +kernel), List.mem_of_getElem? (i := 436) (by decide +kernel), List.mem_of_getElem? (i := 437) (by decide +kernel)⟩
theorem lw_p22 : lw_okq (⟨"RunoffOffice", "withStorm", "(JI)J"⟩, 11) := ⟨⟨by decide +kernel, by decide +kernel⟩, List.mem_of_getElem? (i := 10) (by decide +kernel), List.mem_of_getElem? (i := 492) (by decide +kernel), List.mem_of_getElem? (i := 493) (by decide +kernel)⟩
theorem lw_p23 : lw_okq (⟨"RunoffOffice", "withUnit", "(JI)J"⟩, 11) := ⟨⟨by decide +kernel, by decide +kernel⟩, List.mem_of_getElem? (i := 10) (by decide +kernel), List.mem_of_getElem? (i := 502) (by decide +kernel), List.mem_of_getElem? (i := 503) (by decide +kernel)⟩
theorem lw_p24 : lw_okq (⟨"RunoffOffice", "withFit", "(JI)J"⟩, 11) := ⟨⟨by decide +kernel, by decide +kernel⟩, List.mem_of_getElem? (i := 10) (by decide +kernel), List.mem_of_getElem? (i := 508) (by decide +kernel), List.mem_of_getElem? (i := 509) (by decide +kernel)⟩
theorem lw_p25 : lw_okq (⟨"RunoffOfficeModel", "goAlong", "()I"⟩, 33) := ⟨⟨by decide +kernel, by decide +kernel⟩, List.mem_of_getElem? (i := 516) (by decide +kernel), List.mem_of_getElem? (i := 639) (by decide +kernel), List.mem_of_getElem? (i := 640) (by decide +kernel)⟩
theorem lw_p26 : lw_okq (⟨"RunoffOfficeModel", "goesTo", "(I)Z"⟩, 33) := ⟨⟨by decide +kernel, by decide +kernel⟩, List.mem_of_getElem? (i := 516) (by decide +kernel), List.mem_of_getElem? (i := 643) (by decide +kernel), List.mem_of_getElem? (i := 644) (by decide +kernel)⟩
theorem lw_p27 : lw_okq (⟨"RunoffOfficeModel", "takes", "(I)Z"⟩, 33) := ⟨⟨by decide +kernel, by decide +kernel⟩, List.mem_of_getElem? (i := 516) (by decide +kernel), List.mem_of_getElem? (i := 647) (by decide +kernel), List.mem_of_getElem? (i := 648) (by decide +kernel)⟩
theorem lw_p28 : lw_okq (⟨"RunoffOfficeModel", "begins", "(I)Z"⟩, 33) := ⟨⟨by decide +kernel, by decide +kernel⟩, List.mem_of_getElem? (i := 516) (by decide +kernel), List.mem_of_getElem? (i := 651) (by decide +kernel), List.mem_of_getElem? (i := 652) (by decide +kernel)⟩
theorem lw_p29 : lw_okq (⟨"RunoffOfficeModel", "takesInRow", "(I)Z"⟩, 33) := ⟨⟨by decide +kernel, by decide +kernel⟩, List.mem_of_getElem? (i := 516) (by decide +kernel), List.mem_of_getElem? (i := 655) (by decide +kernel), List.mem_of_getElem? (i := 656) (by decide +kernel)⟩
theorem lw_p30 : lw_okq (⟨"RunoffOfficeModel", "takesFigure", "(I)Z"⟩, 33) := ⟨⟨by decide +kernel, by decide +kernel⟩, List.mem_of_getElem? (i := 516) (by decide +kernel), List.mem_of_getElem? (i := 659) (by decide +kernel), List.mem_of_getElem? (i := 660) (by decide +kernel)⟩
theorem lw_p31 : lw_okq (⟨"RunoffOfficeModel", "keepNumber", "()V"⟩, 33) := ⟨⟨by decide +kernel, by decide +kernel⟩, List.mem_of_getElem? (i := 516) (by decide +kernel), List.mem_of_getElem? (i := 663) (by decide +kernel), List.mem_of_getElem? (i := 664) (by decide +kernel)⟩
def lw_privs_2 : List (MethodName × Nat) := [(⟨"RunoffOffice", "fitStorms", "(II)V"⟩, 11), (⟨"RunoffOffice$Fit", "fitsWith", "(I)Z"⟩, 8), (⟨"RunoffOffice$Fit", "determinant", "(II)J"⟩, 8), (⟨"RunoffOffice$Fit", "entry", "(IIII)J"⟩, 8), (⟨"RunoffOffice$Fit", "minor", "(III)J"⟩, 8), (⟨"RunoffOffice$Fit", "pressOn", "(I)J"⟩, 8), (⟨"RunoffOffice", "withStorm", "(JI)J"⟩, 11), (⟨"RunoffOffice", "withUnit", "(JI)J"⟩, 11), (⟨"RunoffOffice", "withFit", "(JI)J"⟩, 11), (⟨"RunoffOfficeModel", "goAlong", "()I"⟩, 33), (⟨"RunoffOfficeModel", "goesTo", "(I)Z"⟩, 33), (⟨"RunoffOfficeModel", "takes", "(I)Z"⟩, 33), (⟨"RunoffOfficeModel", "begins", "(I)Z"⟩, 33), (⟨"RunoffOfficeModel", "takesInRow", "(I)Z"⟩, 33), (⟨"RunoffOfficeModel", "takesFigure", "(I)Z"⟩, 33), (⟨"RunoffOfficeModel", "keepNumber", "()V"⟩, 33)]
theorem lw_r2 : ∀ q ∈ lw_privs_2, lw_okq q := List.forall_mem_cons.mpr ⟨lw_p16, List.forall_mem_cons.mpr ⟨lw_p17, List.forall_mem_cons.mpr ⟨lw_p18, List.forall_mem_cons.mpr ⟨lw_p19, List.forall_mem_cons.mpr ⟨lw_p20, List.forall_mem_cons.mpr ⟨lw_p21, List.forall_mem_cons.mpr ⟨lw_p22, List.forall_mem_cons.mpr ⟨lw_p23, List.forall_mem_cons.mpr ⟨lw_p24, List.forall_mem_cons.mpr ⟨lw_p25, List.forall_mem_cons.mpr ⟨lw_p26, List.forall_mem_cons.mpr ⟨lw_p27, List.forall_mem_cons.mpr ⟨lw_p28, List.forall_mem_cons.mpr ⟨lw_p29, List.forall_mem_cons.mpr ⟨lw_p30, List.forall_mem_cons.mpr ⟨lw_p31, fun _ h => absurd h List.not_mem_nil⟩⟩⟩⟩⟩⟩⟩⟩⟩⟩⟩⟩⟩⟩⟩⟩
theorem lw_p32 : lw_okq (⟨"RunoffOfficeModel", "takeUnit", "()I"⟩, 33) := ⟨⟨by decide +kernel, by decide +kernel⟩, List.mem_of_getElem? (i := 516) (by decide +kernel), List.mem_of_getElem? (i := 672) (by decide +kernel), List.mem_of_getElem? (i := 673) (by decide +kernel)⟩
theorem lw_p33 : lw_okq (⟨"RunoffOfficeModel", "takeStorm", "()I"⟩, 33) := ⟨⟨by decide +kernel, by decide +kernel⟩, List.mem_of_getElem? (i := 516) (by decide +kernel), List.mem_of_getElem? (i := 676) (by decide +kernel), List.mem_of_getElem? (i := 677) (by decide +kernel)⟩
theorem lw_p34 : lw_okq (⟨"RunoffOfficeModel", "isUnitThere", "(I)Z"⟩, 33) := ⟨⟨by decide +kernel, by decide +kernel⟩, List.mem_of_getElem? (i := 516) (by decide +kernel), List.mem_of_getElem? (i := 684) (by decide +kernel), List.mem_of_getElem? (i := 685) (by decide +kernel)⟩
theorem lw_p35 : lw_okq (⟨"RunoffOfficeModel", "isStorm", "(I)Z"⟩, 33) := ⟨⟨by decide +kernel, by decide +kernel⟩, List.mem_of_getElem? (i := 516) (by decide +kernel), List.mem_of_getElem? (i := 688) (by decide +kernel), List.mem_of_getElem? (i := 689) (by decide +kernel)⟩
theorem lw_p36 : lw_okq (⟨"RunoffOfficeModel", "dropUnit", "(I)I"⟩, 33) := ⟨⟨by decide +kernel, by decide +kernel⟩, List.mem_of_getElem? (i := 516) (by decide +kernel), List.mem_of_getElem? (i := 693) (by decide +kernel), List.mem_of_getElem? (i := 694) (by decide +kernel)⟩
theorem lw_p37 : lw_okq (⟨"RunoffOfficeModel", "dropStorm", "(I)I"⟩, 33) := ⟨⟨by decide +kernel, by decide +kernel⟩, List.mem_of_getElem? (i := 516) (by decide +kernel), List.mem_of_getElem? (i := 697) (by decide +kernel), List.mem_of_getElem? (i := 698) (by decide +kernel)⟩
theorem lw_p38 : lw_okq (⟨"RunoffOfficeModel", "stormNow", "(II)I"⟩, 33) := ⟨⟨by decide +kernel, by decide +kernel⟩, List.mem_of_getElem? (i := 516) (by decide +kernel), List.mem_of_getElem? (i := 705) (by decide +kernel), List.mem_of_getElem? (i := 706) (by decide +kernel)⟩
theorem lw_p39 : lw_okq (⟨"RunoffOfficeModel", "rainAll", "(I)I"⟩, 33) := ⟨⟨by decide +kernel, by decide +kernel⟩, List.mem_of_getElem? (i := 516) (by decide +kernel), List.mem_of_getElem? (i := 709) (by decide +kernel), List.mem_of_getElem? (i := 710) (by decide +kernel)⟩
theorem lw_p40 : lw_okq (⟨"RunoffOfficeModel", "rainAt", "(II)I"⟩, 33) := ⟨⟨by decide +kernel, by decide +kernel⟩, List.mem_of_getElem? (i := 516) (by decide +kernel), List.mem_of_getElem? (i := 713) (by decide +kernel), List.mem_of_getElem? (i := 714) (by decide +kernel)⟩
theorem lw_p41 : lw_okq (⟨"RunoffOfficeModel", "runoffAll", "(I)I"⟩, 33) := ⟨⟨by decide +kernel, by decide +kernel⟩, List.mem_of_getElem? (i := 516) (by decide +kernel), List.mem_of_getElem? (i := 717) (by decide +kernel), List.mem_of_getElem? (i := 718) (by decide +kernel)⟩
theorem lw_p42 : lw_okq (⟨"RunoffOfficeModel", "runoffAt", "(II)I"⟩, 33) := ⟨⟨by decide +kernel, by decide +kernel⟩, List.mem_of_getElem? (i := 516) (by decide +kernel), List.mem_of_getElem? (i := 721) (by decide +kernel), List.mem_of_getElem? (i := 722) (by decide +kernel)⟩
theorem lw_p43 : lw_okq (⟨"RunoffOfficeModel", "dividedNow", "(II)I"⟩, 33) := ⟨⟨by decide +kernel, by decide +kernel⟩, List.mem_of_getElem? (i := 516) (by decide +kernel), List.mem_of_getElem? (i := 729) (by decide +kernel), List.mem_of_getElem? (i := 730) (by decide +kernel)⟩
theorem lw_p44 : lw_okq (⟨"RunoffOfficeModel", "isDivided", "(I)Z"⟩, 33) := ⟨⟨by decide +kernel, by decide +kernel⟩, List.mem_of_getElem? (i := 516) (by decide +kernel), List.mem_of_getElem? (i := 733) (by decide +kernel), List.mem_of_getElem? (i := 734) (by decide +kernel)⟩
theorem lw_p45 : lw_okq (⟨"RunoffOfficeModel", "unitNow", "(II)I"⟩, 33) := ⟨⟨by decide +kernel, by decide +kernel⟩, List.mem_of_getElem? (i := 516) (by decide +kernel), List.mem_of_getElem? (i := 742) (by decide +kernel), List.mem_of_getElem? (i := 743) (by decide +kernel)⟩
theorem lw_p46 : lw_okq (⟨"RunoffOfficeModel", "partAll", "(I)I"⟩, 33) := ⟨⟨by decide +kernel, by decide +kernel⟩, List.mem_of_getElem? (i := 516) (by decide +kernel), List.mem_of_getElem? (i := 746) (by decide +kernel), List.mem_of_getElem? (i := 747) (by decide +kernel)⟩
theorem lw_p47 : lw_okq (⟨"RunoffOfficeModel", "partAt", "(II)I"⟩, 33) := ⟨⟨by decide +kernel, by decide +kernel⟩, List.mem_of_getElem? (i := 516) (by decide +kernel), List.mem_of_getElem? (i := 750) (by decide +kernel), List.mem_of_getElem? (i := 751) (by decide +kernel)⟩
def lw_privs_3 : List (MethodName × Nat) := [(⟨"RunoffOfficeModel", "takeUnit", "()I"⟩, 33), (⟨"RunoffOfficeModel", "takeStorm", "()I"⟩, 33), (⟨"RunoffOfficeModel", "isUnitThere", "(I)Z"⟩, 33), (⟨"RunoffOfficeModel", "isStorm", "(I)Z"⟩, 33), (⟨"RunoffOfficeModel", "dropUnit", "(I)I"⟩, 33), (⟨"RunoffOfficeModel", "dropStorm", "(I)I"⟩, 33), (⟨"RunoffOfficeModel", "stormNow", "(II)I"⟩, 33), (⟨"RunoffOfficeModel", "rainAll", "(I)I"⟩, 33), (⟨"RunoffOfficeModel", "rainAt", "(II)I"⟩, 33), (⟨"RunoffOfficeModel", "runoffAll", "(I)I"⟩, 33), (⟨"RunoffOfficeModel", "runoffAt", "(II)I"⟩, 33), (⟨"RunoffOfficeModel", "dividedNow", "(II)I"⟩, 33), (⟨"RunoffOfficeModel", "isDivided", "(I)Z"⟩, 33), (⟨"RunoffOfficeModel", "unitNow", "(II)I"⟩, 33), (⟨"RunoffOfficeModel", "partAll", "(I)I"⟩, 33), (⟨"RunoffOfficeModel", "partAt", "(II)I"⟩, 33)]
theorem lw_r3 : ∀ q ∈ lw_privs_3, lw_okq q := List.forall_mem_cons.mpr ⟨lw_p32, List.forall_mem_cons.mpr ⟨lw_p33, List.forall_mem_cons.mpr ⟨lw_p34, List.forall_mem_cons.mpr ⟨lw_p35, List.forall_mem_cons.mpr ⟨lw_p36, List.forall_mem_cons.mpr ⟨lw_p37, List.forall_mem_cons.mpr ⟨lw_p38, List.forall_mem_cons.mpr ⟨lw_p39, List.forall_mem_cons.mpr ⟨lw_p40, List.forall_mem_cons.mpr ⟨lw_p41, List.forall_mem_cons.mpr ⟨lw_p42, List.forall_mem_cons.mpr ⟨lw_p43, List.forall_mem_cons.mpr ⟨lw_p44, List.forall_mem_cons.mpr ⟨lw_p45, List.forall_mem_cons.mpr ⟨lw_p46, List.forall_mem_cons.mpr ⟨lw_p47, fun _ h => absurd h List.not_mem_nil⟩⟩⟩⟩⟩⟩⟩⟩⟩⟩⟩⟩⟩⟩⟩⟩
theorem lw_p48 : lw_okq (⟨"RunoffOfficeModel", "madeAt", "(III)I"⟩, 33) := ⟨⟨by decide +kernel, by decide +kernel⟩, List.mem_of_getElem? (i := 516) (by decide +kernel), List.mem_of_getElem? (i := 758) (by decide +kernel), List.mem_of_getElem? (i := 759) (by decide +kernel)⟩
theorem lw_p49 : lw_okq (⟨"RunoffOfficeModel", "missedNow", "(II)I"⟩, 33) := ⟨⟨by decide +kernel, by decide +kernel⟩, List.mem_of_getElem? (i := 516) (by decide +kernel), List.mem_of_getElem? (i := 766) (by decide +kernel), List.mem_of_getElem? (i := 767) (by decide +kernel)⟩
theorem lw_p50 : lw_okq (⟨"RunoffOfficeModel", "sumAt", "(II)I"⟩, 33) := ⟨⟨by decide +kernel, by decide +kernel⟩, List.mem_of_getElem? (i := 516) (by decide +kernel), List.mem_of_getElem? (i := 774) (by decide +kernel), List.mem_of_getElem? (i := 775) (by decide +kernel)⟩
theorem lw_p51 : lw_okq (⟨"RunoffOfficeModel", "isAsk", "(II)Z"⟩, 33) := ⟨⟨by decide +kernel, by decide +kernel⟩, List.mem_of_getElem? (i := 516) (by decide +kernel), List.mem_of_getElem? (i := 792) (by decide +kernel), List.mem_of_getElem? (i := 793) (by decide +kernel)⟩
theorem lw_p52 : lw_okq (⟨"RunoffOfficeModel", "bestNow", "(IIII)J"⟩, 33) := ⟨⟨by decide +kernel, by decide +kernel⟩, List.mem_of_getElem? (i := 516) (by decide +kernel), List.mem_of_getElem? (i := 796) (by decide +kernel), List.mem_of_getElem? (i := 797) (by decide +kernel)⟩
theorem lw_p53 : lw_okq (⟨"RunoffOfficeModel", "layBest", "(II)V"⟩, 33) := ⟨⟨by decide +kernel, by decide +kernel⟩, List.mem_of_getElem? (i := 516) (by decide +kernel), List.mem_of_getElem? (i := 800) (by decide +kernel), List.mem_of_getElem? (i := 801) (by decide +kernel)⟩
theorem lw_p54 : lw_okq (⟨"RunoffOfficeModel", "layProducts", "(I)V"⟩, 33) := ⟨⟨by decide +kernel, by decide +kernel⟩, List.mem_of_getElem? (i := 516) (by decide +kernel), List.mem_of_getElem? (i := 804) (by decide +kernel), List.mem_of_getElem? (i := 805) (by decide +kernel)⟩
theorem lw_p55 : lw_okq (⟨"RunoffOfficeModel", "solve", "(II)V"⟩, 33) := ⟨⟨by decide +kernel, by decide +kernel⟩, List.mem_of_getElem? (i := 516) (by decide +kernel), List.mem_of_getElem? (i := 808) (by decide +kernel), List.mem_of_getElem? (i := 809) (by decide +kernel)⟩
theorem lw_p56 : lw_okq (⟨"RunoffOfficeModel", "clear", "(II)V"⟩, 33) := ⟨⟨by decide +kernel, by decide +kernel⟩, List.mem_of_getElem? (i := 516) (by decide +kernel), List.mem_of_getElem? (i := 815) (by decide +kernel), List.mem_of_getElem? (i := 816) (by decide +kernel)⟩
theorem lw_p57 : lw_okq (⟨"RunoffOfficeModel", "isBest", "(I)Z"⟩, 33) := ⟨⟨by decide +kernel, by decide +kernel⟩, List.mem_of_getElem? (i := 516) (by decide +kernel), List.mem_of_getElem? (i := 819) (by decide +kernel), List.mem_of_getElem? (i := 820) (by decide +kernel)⟩
theorem lw_p58 : lw_okq (⟨"RunoffOfficeModel", "pressAbove", "(II)J"⟩, 33) := ⟨⟨by decide +kernel, by decide +kernel⟩, List.mem_of_getElem? (i := 516) (by decide +kernel), List.mem_of_getElem? (i := 823) (by decide +kernel), List.mem_of_getElem? (i := 824) (by decide +kernel)⟩
theorem lw_p59 : lw_okq (⟨"RunoffOfficeModel", "lossNow", "(III)J"⟩, 33) := ⟨⟨by decide +kernel, by decide +kernel⟩, List.mem_of_getElem? (i := 516) (by decide +kernel), List.mem_of_getElem? (i := 832) (by decide +kernel), List.mem_of_getElem? (i := 833) (by decide +kernel)⟩
theorem lw_p60 : lw_okq (⟨"RunoffOfficeModel", "pressNow", "(IIII)J"⟩, 33) := ⟨⟨by decide +kernel, by decide +kernel⟩, List.mem_of_getElem? (i := 516) (by decide +kernel), List.mem_of_getElem? (i := 840) (by decide +kernel), List.mem_of_getElem? (i := 841) (by decide +kernel)⟩
theorem lw_p61 : lw_okq (⟨"RunoffOfficeModel", "nothingNow", "(II)I"⟩, 33) := ⟨⟨by decide +kernel, by decide +kernel⟩, List.mem_of_getElem? (i := 516) (by decide +kernel), List.mem_of_getElem? (i := 848) (by decide +kernel), List.mem_of_getElem? (i := 849) (by decide +kernel)⟩
theorem lw_p62 : lw_okq (⟨"RunoffOfficeModel", "isWhole", "(I)Z"⟩, 33) := ⟨⟨by decide +kernel, by decide +kernel⟩, List.mem_of_getElem? (i := 516) (by decide +kernel), List.mem_of_getElem? (i := 856) (by decide +kernel), List.mem_of_getElem? (i := 857) (by decide +kernel)⟩
theorem lw_p63 : lw_okq (⟨"RunoffOfficeModel", "howMany", "(I)I"⟩, 33) := ⟨⟨by decide +kernel, by decide +kernel⟩, List.mem_of_getElem? (i := 516) (by decide +kernel), List.mem_of_getElem? (i := 865) (by decide +kernel), List.mem_of_getElem? (i := 866) (by decide +kernel)⟩
def lw_privs_4 : List (MethodName × Nat) := [(⟨"RunoffOfficeModel", "madeAt", "(III)I"⟩, 33), (⟨"RunoffOfficeModel", "missedNow", "(II)I"⟩, 33), (⟨"RunoffOfficeModel", "sumAt", "(II)I"⟩, 33), (⟨"RunoffOfficeModel", "isAsk", "(II)Z"⟩, 33), (⟨"RunoffOfficeModel", "bestNow", "(IIII)J"⟩, 33), (⟨"RunoffOfficeModel", "layBest", "(II)V"⟩, 33), (⟨"RunoffOfficeModel", "layProducts", "(I)V"⟩, 33), (⟨"RunoffOfficeModel", "solve", "(II)V"⟩, 33), (⟨"RunoffOfficeModel", "clear", "(II)V"⟩, 33), (⟨"RunoffOfficeModel", "isBest", "(I)Z"⟩, 33), (⟨"RunoffOfficeModel", "pressAbove", "(II)J"⟩, 33), (⟨"RunoffOfficeModel", "lossNow", "(III)J"⟩, 33), (⟨"RunoffOfficeModel", "pressNow", "(IIII)J"⟩, 33), (⟨"RunoffOfficeModel", "nothingNow", "(II)I"⟩, 33), (⟨"RunoffOfficeModel", "isWhole", "(I)Z"⟩, 33), (⟨"RunoffOfficeModel", "howMany", "(I)I"⟩, 33)]
theorem lw_r4 : ∀ q ∈ lw_privs_4, lw_okq q := List.forall_mem_cons.mpr ⟨lw_p48, List.forall_mem_cons.mpr ⟨lw_p49, List.forall_mem_cons.mpr ⟨lw_p50, List.forall_mem_cons.mpr ⟨lw_p51, List.forall_mem_cons.mpr ⟨lw_p52, List.forall_mem_cons.mpr ⟨lw_p53, List.forall_mem_cons.mpr ⟨lw_p54, List.forall_mem_cons.mpr ⟨lw_p55, List.forall_mem_cons.mpr ⟨lw_p56, List.forall_mem_cons.mpr ⟨lw_p57, List.forall_mem_cons.mpr ⟨lw_p58, List.forall_mem_cons.mpr ⟨lw_p59, List.forall_mem_cons.mpr ⟨lw_p60, List.forall_mem_cons.mpr ⟨lw_p61, List.forall_mem_cons.mpr ⟨lw_p62, List.forall_mem_cons.mpr ⟨lw_p63, fun _ h => absurd h List.not_mem_nil⟩⟩⟩⟩⟩⟩⟩⟩⟩⟩⟩⟩⟩⟩⟩⟩
theorem lw_p64 : lw_okq (⟨"RunoffOfficeModel", "mixStorm", "(I)V"⟩, 33) := ⟨⟨by decide +kernel, by decide +kernel⟩, List.mem_of_getElem? (i := 516) (by decide +kernel), List.mem_of_getElem? (i := 874) (by decide +kernel), List.mem_of_getElem? (i := 875) (by decide +kernel)⟩
theorem lw_p65 : lw_okq (⟨"RunoffOfficeModel", "mix", "(J)V"⟩, 33) := ⟨⟨by decide +kernel, by decide +kernel⟩, List.mem_of_getElem? (i := 516) (by decide +kernel), List.mem_of_getElem? (i := 878) (by decide +kernel), List.mem_of_getElem? (i := 879) (by decide +kernel)⟩
theorem lw_p66 : lw_okq (⟨"RunoffOfficeModel", "mixUnits", "()V"⟩, 33) := ⟨⟨by decide +kernel, by decide +kernel⟩, List.mem_of_getElem? (i := 516) (by decide +kernel), List.mem_of_getElem? (i := 883) (by decide +kernel), List.mem_of_getElem? (i := 884) (by decide +kernel)⟩
theorem lw_p67 : lw_okq (⟨"RunoffOfficeModel", "mixBest", "(I)V"⟩, 33) := ⟨⟨by decide +kernel, by decide +kernel⟩, List.mem_of_getElem? (i := 516) (by decide +kernel), List.mem_of_getElem? (i := 887) (by decide +kernel), List.mem_of_getElem? (i := 888) (by decide +kernel)⟩
def lw_privs_5 : List (MethodName × Nat) := [(⟨"RunoffOfficeModel", "mixStorm", "(I)V"⟩, 33), (⟨"RunoffOfficeModel", "mix", "(J)V"⟩, 33), (⟨"RunoffOfficeModel", "mixUnits", "()V"⟩, 33), (⟨"RunoffOfficeModel", "mixBest", "(I)V"⟩, 33)]
theorem lw_r5 : ∀ q ∈ lw_privs_5, lw_okq q := List.forall_mem_cons.mpr ⟨lw_p64, List.forall_mem_cons.mpr ⟨lw_p65, List.forall_mem_cons.mpr ⟨lw_p66, List.forall_mem_cons.mpr ⟨lw_p67, fun _ h => absurd h List.not_mem_nil⟩⟩⟩⟩
def lw_privs : List (MethodName × Nat) := lw_privs_1 ++ (lw_privs_2 ++ (lw_privs_3 ++ (lw_privs_4 ++ (lw_privs_5))))
def lw_tbl : List Cond := k2_sels lw_privs ++ tables_1
theorem lw_privs_ok : ∀ q ∈ lw_privs, lw_okq q := by
  show ∀ q ∈ lw_privs_1 ++ (lw_privs_2 ++ (lw_privs_3 ++ (lw_privs_4 ++ (lw_privs_5)))), lw_okq q
  exact List.forall_mem_append.mpr ⟨lw_r1, List.forall_mem_append.mpr ⟨lw_r2, List.forall_mem_append.mpr ⟨lw_r3, List.forall_mem_append.mpr ⟨lw_r4, lw_r5⟩⟩⟩⟩
end
section
/-! ===== BEGIN words of one list among another's, by their places ===== -/
theorem goodIn_r {big : List Cond} (ws : List Cond) (ps : List Nat) (hp : ws = ps.filterMap (fun i => big[i]?)) (h : ws.all goodWord = true) : GoodIn big ws := by
  intro w hw
  have h1 := List.all_eq_true.mp h w hw
  rw [hp] at hw
  obtain ⟨i, -, hi⟩ := List.mem_filterMap.mp hw
  have hm : w ∈ big := by first | exact List.mem_of_getElem? hi | exact List.getElem?_mem hi
  exact ⟨hm, good_of_word h1⟩
theorem goodIn_app {big a b : List Cond} (ha : GoodIn big a) (hb : GoodIn big b) : GoodIn big (a ++ b) := fun w h => (List.mem_append.mp h).elim (ha w) (hb w)
theorem goodIn_ca {big a b : List Cond} {c : Cond} (ha : GoodIn big (c :: a)) (hb : GoodIn big b) : GoodIn big (c :: (a ++ b)) := fun w h => (List.mem_cons.mp h).elim (fun e => ha w (List.mem_cons.mpr (Or.inl e))) (fun h => (List.mem_append.mp h).elim (fun h => ha w (List.mem_cons.mpr (Or.inr h))) (hb w))
theorem goodIn_sub {big ws : List Cond} (hm : ∀ w ∈ ws, w ∈ big) (h : ws.all goodWord = true) : GoodIn big ws := fun w hw => ⟨hm w hw, good_of_word (List.all_eq_true.mp h w hw)⟩
/-! ===== END ===== -/

/-! ===== BEGIN printed: names, fields, word lists, decode rows ===== -/
def RX0 : String := "RunoffOffice$Fit"
def TX0 : u_T := fun k => match k with
  | 0 => ("RunoffOffice$Fit", "rainByDistance", "[J", true)
  | 1 => ("RunoffOffice$Fit", "rainByRunoff", "[J", true)
  | 2 => ("RunoffOffice$Fit", "matrix", "[J", true)
  | 3 => ("RunoffOffice$Fit", "above", "[J", true)
  | 4 => ("RunoffOffice$Fit", "pressing", "[J", true)
  | 5 => ("RunoffOffice$Fit", "below", "J", false)
  | 6 => ("RunoffOffice$Fit", "runoffSquares", "J", false)
  | _ => ("RunoffOffice$Fit", "size", "I", false)
def tyX0 : Nat → FieldType := fun k => match k with
  | 0 => .array .long
  | 1 => .array .long
  | 2 => .array .long
  | 3 => .array .long
  | 4 => .array .long
  | 5 => .long
  | 6 => .long
  | _ => .int
abbrev wsX00 : List Cond := u_ws RX0 TX0 8
theorem nmX0 : ∀ a, a < 8 → ∀ b, b < 8 → a ≠ b → (TX0 a).2.1 ≠ (TX0 b).2.1 := by decide +kernel
theorem tyX0_ok : ∀ k, k < 8 → parseFieldDescriptor (TX0 k).2.2.1 = some (tyX0 k) := by decide +kernel
abbrev cX0_init : ByteArray := prog_2_method_1_code
def yX0_init : MethodName := ⟨RX0, "<init>", "()V"⟩
abbrev cX0_begin : ByteArray := prog_2_method_2_code
def yX0_begin : MethodName := ⟨RX0, "begin", "(I)V"⟩
abbrev cX0_add : ByteArray := prog_2_method_3_code
def yX0_add : MethodName := ⟨RX0, "add", "(LRunoffOffice$Storm;)V"⟩
abbrev cX0_settle : ByteArray := prog_2_method_4_code
def yX0_settle : MethodName := ⟨RX0, "settle", "()V"⟩
abbrev cX0_below : ByteArray := prog_2_method_5_code
def yX0_below : MethodName := ⟨RX0, "below", "()J"⟩
abbrev cX0_partAbove : ByteArray := prog_2_method_6_code
def yX0_partAbove : MethodName := ⟨RX0, "partAbove", "(I)J"⟩
abbrev cX0_pressAbove : ByteArray := prog_2_method_7_code
def yX0_pressAbove : MethodName := ⟨RX0, "pressAbove", "(I)J"⟩
abbrev cX0_lossAbove : ByteArray := prog_2_method_8_code
def yX0_lossAbove : MethodName := ⟨RX0, "lossAbove", "()J"⟩
abbrev cX0_isOfUnitNumbers : ByteArray := prog_2_method_9_code
def yX0_isOfUnitNumbers : MethodName := ⟨RX0, "isOfUnitNumbers", "()Z"⟩
abbrev cX0_writeInto : ByteArray := prog_2_method_10_code
def yX0_writeInto : MethodName := ⟨RX0, "writeInto", "(LRunoffOffice$Row;)V"⟩
abbrev cX0_fitsWith : ByteArray := prog_2_method_11_code
def yX0_fitsWith : MethodName := ⟨RX0, "fitsWith", "(I)Z"⟩
abbrev cX0_isFree : ByteArray := prog_2_method_12_code
def yX0_isFree : MethodName := ⟨RX0, "isFree", "(II)Z"⟩
abbrev cX0_pressOn : ByteArray := prog_2_method_13_code
def yX0_pressOn : MethodName := ⟨RX0, "pressOn", "(I)J"⟩
abbrev cX0_determinant : ByteArray := prog_2_method_14_code
def yX0_determinant : MethodName := ⟨RX0, "determinant", "(II)J"⟩
abbrev cX0_entry : ByteArray := prog_2_method_15_code
def yX0_entry : MethodName := ⟨RX0, "entry", "(IIII)J"⟩
abbrev cX0_minor : ByteArray := prog_2_method_16_code
def yX0_minor : MethodName := ⟨RX0, "minor", "(III)J"⟩
def RX1 : String := "RunoffOffice$Reader"
def TX1 : u_T := fun k => match k with
  | 0 => ("RunoffOffice$Reader", "rain", "LRunoffOffice$Row;", true)
  | 1 => ("RunoffOffice$Reader", "row", "LRunoffOffice$Row;", true)
  | 2 => ("RunoffOffice$Reader", "place", "I", false)
  | 3 => ("RunoffOffice$Reader", "length", "I", false)
  | 4 => ("RunoffOffice$Reader", "ofUnit", "Z", false)
  | _ => ("RunoffOffice$Reader", "inNumber", "Z", false)
def tyX1 : Nat → FieldType := fun k => match k with
  | 0 => .object "RunoffOffice$Row"
  | 1 => .object "RunoffOffice$Row"
  | 2 => .int
  | 3 => .int
  | 4 => .boolean
  | _ => .boolean
abbrev wsX10 : List Cond := u_ws RX1 TX1 6
theorem nmX1 : ∀ a, a < 6 → ∀ b, b < 6 → a ≠ b → (TX1 a).2.1 ≠ (TX1 b).2.1 := by decide +kernel
theorem tyX1_ok : ∀ k, k < 6 → parseFieldDescriptor (TX1 k).2.2.1 = some (tyX1 k) := by decide +kernel
abbrev cX1_init : ByteArray := prog_3_method_1_code
def yX1_init : MethodName := ⟨RX1, "<init>", "()V"⟩
abbrev cX1_read : ByteArray := prog_3_method_2_code
def yX1_read : MethodName := ⟨RX1, "read", "([II)I"⟩
abbrev cX1_isWhole : ByteArray := prog_3_method_3_code
def yX1_isWhole : MethodName := ⟨RX1, "isWhole", "()Z"⟩
abbrev cX1_isOfUnit : ByteArray := prog_3_method_4_code
def yX1_isOfUnit : MethodName := ⟨RX1, "isOfUnit", "()Z"⟩
abbrev cX1_lengthOfUnit : ByteArray := prog_3_method_5_code
def yX1_lengthOfUnit : MethodName := ⟨RX1, "lengthOfUnit", "()I"⟩
abbrev cX1_begin : ByteArray := prog_3_method_6_code
def yX1_begin : MethodName := ⟨RX1, "begin", "()V"⟩
abbrev cX1_goesOnWith : ByteArray := prog_3_method_7_code
def yX1_goesOnWith : MethodName := ⟨RX1, "goesOnWith", "(I)Z"⟩
abbrev cX1_startsWith : ByteArray := prog_3_method_8_code
def yX1_startsWith : MethodName := ⟨RX1, "startsWith", "(I)Z"⟩
abbrev cX1_rainGoesOnWith : ByteArray := prog_3_method_9_code
def yX1_rainGoesOnWith : MethodName := ⟨RX1, "rainGoesOnWith", "(I)Z"⟩
abbrev cX1_takesLength : ByteArray := prog_3_method_10_code
def yX1_takesLength : MethodName := ⟨RX1, "takesLength", "(I)Z"⟩
abbrev cX1_takesColon : ByteArray := prog_3_method_11_code
def yX1_takesColon : MethodName := ⟨RX1, "takesColon", "(I)Z"⟩
abbrev cX1_numbersGoOnWith : ByteArray := prog_3_method_12_code
def yX1_numbersGoOnWith : MethodName := ⟨RX1, "numbersGoOnWith", "(LRunoffOffice$Row;III)Z"⟩
abbrev cX1_takesFigure : ByteArray := prog_3_method_13_code
def yX1_takesFigure : MethodName := ⟨RX1, "takesFigure", "(LRunoffOffice$Row;II)Z"⟩
def RX2 : String := "RunoffOffice$Row"
def TX2 : u_T := fun k => match k with
  | 0 => ("RunoffOffice$Row", "numbers", "[I", true)
  | _ => ("RunoffOffice$Row", "size", "I", false)
def tyX2 : Nat → FieldType := fun k => match k with
  | 0 => .array .int
  | _ => .int
abbrev wsX20 : List Cond := u_ws RX2 TX2 2
theorem nmX2 : ∀ a, a < 2 → ∀ b, b < 2 → a ≠ b → (TX2 a).2.1 ≠ (TX2 b).2.1 := by decide +kernel
theorem tyX2_ok : ∀ k, k < 2 → parseFieldDescriptor (TX2 k).2.2.1 = some (tyX2 k) := by decide +kernel
abbrev cX2_init : ByteArray := prog_4_method_1_code
def yX2_init : MethodName := ⟨RX2, "<init>", "()V"⟩
abbrev cX2_size : ByteArray := prog_4_method_2_code
def yX2_size : MethodName := ⟨RX2, "size", "()I"⟩
abbrev cX2_at : ByteArray := prog_4_method_3_code
def yX2_at : MethodName := ⟨RX2, "at", "(I)I"⟩
abbrev cX2_last : ByteArray := prog_4_method_4_code
def yX2_last : MethodName := ⟨RX2, "last", "()I"⟩
abbrev cX2_total : ByteArray := prog_4_method_5_code
def yX2_total : MethodName := ⟨RX2, "total", "()I"⟩
abbrev cX2_clear : ByteArray := prog_4_method_6_code
def yX2_clear : MethodName := ⟨RX2, "clear", "()V"⟩
abbrev cX2_add : ByteArray := prog_4_method_7_code
def yX2_add : MethodName := ⟨RX2, "add", "(I)V"⟩
abbrev cX2_setLast : ByteArray := prog_4_method_8_code
def yX2_setLast : MethodName := ⟨RX2, "setLast", "(I)V"⟩
abbrev cX2_become : ByteArray := prog_4_method_9_code
def yX2_become : MethodName := ⟨RX2, "become", "(LRunoffOffice$Row;)V"⟩
def RX3 : String := "RunoffOffice$Storm"
def TX3 : u_T := fun k => match k with
  | 0 => ("RunoffOffice$Storm", "rain", "LRunoffOffice$Row;", true)
  | 1 => ("RunoffOffice$Storm", "runoff", "LRunoffOffice$Row;", true)
  | 2 => ("RunoffOffice$Storm", "quotient", "LRunoffOffice$Row;", true)
  | _ => ("RunoffOffice$Storm", "evenly", "Z", false)
def tyX3 : Nat → FieldType := fun k => match k with
  | 0 => .object "RunoffOffice$Row"
  | 1 => .object "RunoffOffice$Row"
  | 2 => .object "RunoffOffice$Row"
  | _ => .boolean
abbrev wsX30 : List Cond := u_ws RX3 TX3 4
theorem nmX3 : ∀ a, a < 4 → ∀ b, b < 4 → a ≠ b → (TX3 a).2.1 ≠ (TX3 b).2.1 := by decide +kernel
theorem tyX3_ok : ∀ k, k < 4 → parseFieldDescriptor (TX3 k).2.2.1 = some (tyX3 k) := by decide +kernel
abbrev cX3_init : ByteArray := prog_5_method_1_code
def yX3_init : MethodName := ⟨RX3, "<init>", "()V"⟩
abbrev cX3_goesEvenly : ByteArray := prog_5_method_2_code
def yX3_goesEvenly : MethodName := ⟨RX3, "goesEvenly", "()Z"⟩
abbrev cX3_become : ByteArray := prog_5_method_3_code
def yX3_become : MethodName := ⟨RX3, "become", "(LRunoffOffice$Row;LRunoffOffice$Row;)V"⟩
abbrev cX3_rainTimes : ByteArray := prog_5_method_4_code
def yX3_rainTimes : MethodName := ⟨RX3, "rainTimes", "(LRunoffOffice$Row;I)I"⟩
abbrev cX3_squaresMissed : ByteArray := prog_5_method_5_code
def yX3_squaresMissed : MethodName := ⟨RX3, "squaresMissed", "(LRunoffOffice$Row;)I"⟩
abbrev cX3_divide : ByteArray := prog_5_method_6_code
def yX3_divide : MethodName := ⟨RX3, "divide", "()V"⟩
def RX4 : String := "RunoffOffice$Unit"
def TX4 : u_T := fun k => match k with
  | 0 => ("RunoffOffice$Unit", "parts", "LRunoffOffice$Row;", true)
  | _ => ("RunoffOffice$Unit", "length", "I", false)
def tyX4 : Nat → FieldType := fun k => match k with
  | 0 => .object "RunoffOffice$Row"
  | _ => .int
abbrev wsX40 : List Cond := u_ws RX4 TX4 2
theorem nmX4 : ∀ a, a < 2 → ∀ b, b < 2 → a ≠ b → (TX4 a).2.1 ≠ (TX4 b).2.1 := by decide +kernel
theorem tyX4_ok : ∀ k, k < 2 → parseFieldDescriptor (TX4 k).2.2.1 = some (tyX4 k) := by decide +kernel
abbrev cX4_init : ByteArray := prog_6_method_1_code
def yX4_init : MethodName := ⟨RX4, "<init>", "()V"⟩
abbrev cX4_summedAt : ByteArray := prog_6_method_2_code
def yX4_summedAt : MethodName := ⟨RX4, "summedAt", "(I)I"⟩
def RX5 : String := "RunoffOffice"
def TX5 : u_T := fun k => match k with
  | 0 => ("RunoffOffice", "page", "[I", true)
  | 1 => ("RunoffOffice", "heldStorms", "[LRunoffOffice$Storm;", true)
  | 2 => ("RunoffOffice", "heldUnits", "[LRunoffOffice$Unit;", true)
  | 3 => ("RunoffOffice", "reader", "LRunoffOffice$Reader;", true)
  | 4 => ("RunoffOffice", "fit", "LRunoffOffice$Fit;", true)
  | 5 => ("RunoffOffice", "letterCount", "I", false)
  | 6 => ("RunoffOffice", "stormCount", "I", false)
  | 7 => ("RunoffOffice", "unitCount", "I", false)
  | 8 => ("RunoffOffice", "cameAsTexts", "I", false)
  | 9 => ("RunoffOffice", "went", "I", false)
  | _ => ("RunoffOffice", "kept", "I", false)
def tyX5 : Nat → FieldType := fun k => match k with
  | 0 => .array .int
  | 1 => .array (.object "RunoffOffice$Storm")
  | 2 => .array (.object "RunoffOffice$Unit")
  | 3 => .object "RunoffOffice$Reader"
  | 4 => .object "RunoffOffice$Fit"
  | 5 => .int
  | 6 => .int
  | 7 => .int
  | 8 => .int
  | 9 => .int
  | _ => .int
abbrev wsX50 : List Cond := u_ws RX5 TX5 11
theorem nmX5 : ∀ a, a < 11 → ∀ b, b < 11 → a ≠ b → (TX5 a).2.1 ≠ (TX5 b).2.1 := by decide +kernel
theorem tyX5_ok : ∀ k, k < 11 → parseFieldDescriptor (TX5 k).2.2.1 = some (tyX5 k) := by decide +kernel
abbrev cX5_init : ByteArray := prog_1_method_1_code
def yX5_init : MethodName := ⟨RX5, "<init>", "()V"⟩
abbrev cX5_letter : ByteArray := prog_1_method_2_code
def yX5_letter : MethodName := ⟨RX5, "letter", "(I)I"⟩
abbrev cX5_blank : ByteArray := prog_1_method_3_code
def yX5_blank : MethodName := ⟨RX5, "blank", "()I"⟩
abbrev cX5_fault : ByteArray := prog_1_method_4_code
def yX5_fault : MethodName := ⟨RX5, "fault", "()I"⟩
abbrev cX5_take : ByteArray := prog_1_method_5_code
def yX5_take : MethodName := ⟨RX5, "take", "()I"⟩
abbrev cX5_drop : ByteArray := prog_1_method_6_code
def yX5_drop : MethodName := ⟨RX5, "drop", "(ZI)I"⟩
abbrev cX5_storm : ByteArray := prog_1_method_7_code
def yX5_storm : MethodName := ⟨RX5, "storm", "(II)I"⟩
abbrev cX5_divided : ByteArray := prog_1_method_8_code
def yX5_divided : MethodName := ⟨RX5, "divided", "(II)I"⟩
abbrev cX5_unit : ByteArray := prog_1_method_9_code
def yX5_unit : MethodName := ⟨RX5, "unit", "(II)I"⟩
abbrev cX5_made : ByteArray := prog_1_method_10_code
def yX5_made : MethodName := ⟨RX5, "made", "(III)I"⟩
abbrev cX5_missed : ByteArray := prog_1_method_11_code
def yX5_missed : MethodName := ⟨RX5, "missed", "(II)I"⟩
abbrev cX5_sum : ByteArray := prog_1_method_12_code
def yX5_sum : MethodName := ⟨RX5, "sum", "(II)I"⟩
abbrev cX5_other : ByteArray := prog_1_method_13_code
def yX5_other : MethodName := ⟨RX5, "other", "(IIII)I"⟩
abbrev cX5_best : ByteArray := prog_1_method_14_code
def yX5_best : MethodName := ⟨RX5, "best", "(IIII)J"⟩
abbrev cX5_loss : ByteArray := prog_1_method_15_code
def yX5_loss : MethodName := ⟨RX5, "loss", "(III)J"⟩
abbrev cX5_press : ByteArray := prog_1_method_16_code
def yX5_press : MethodName := ⟨RX5, "press", "(IIII)J"⟩
abbrev cX5_nothing : ByteArray := prog_1_method_17_code
def yX5_nothing : MethodName := ⟨RX5, "nothing", "(II)I"⟩
abbrev cX5_keep : ByteArray := prog_1_method_18_code
def yX5_keep : MethodName := ⟨RX5, "keep", "(III)I"⟩
abbrev cX5_count : ByteArray := prog_1_method_19_code
def yX5_count : MethodName := ⟨RX5, "count", "(I)I"⟩
abbrev cX5_digest : ByteArray := prog_1_method_20_code
def yX5_digest : MethodName := ⟨RX5, "digest", "()J"⟩
abbrev cX5_with : ByteArray := prog_1_method_21_code
def yX5_with : MethodName := ⟨RX5, "with", "(JJ)J"⟩
abbrev cX5_withStorm : ByteArray := prog_1_method_22_code
def yX5_withStorm : MethodName := ⟨RX5, "withStorm", "(JI)J"⟩
abbrev cX5_withUnit : ByteArray := prog_1_method_23_code
def yX5_withUnit : MethodName := ⟨RX5, "withUnit", "(JI)J"⟩
abbrev cX5_withFit : ByteArray := prog_1_method_24_code
def yX5_withFit : MethodName := ⟨RX5, "withFit", "(JI)J"⟩
abbrev cX5_withFraction : ByteArray := prog_1_method_25_code
def yX5_withFraction : MethodName := ⟨RX5, "withFraction", "(JJJ)J"⟩
abbrev cX5_takeStorm : ByteArray := prog_1_method_26_code
def yX5_takeStorm : MethodName := ⟨RX5, "takeStorm", "()I"⟩
abbrev cX5_takeUnit : ByteArray := prog_1_method_27_code
def yX5_takeUnit : MethodName := ⟨RX5, "takeUnit", "()I"⟩
abbrev cX5_dropStorm : ByteArray := prog_1_method_28_code
def yX5_dropStorm : MethodName := ⟨RX5, "dropStorm", "(I)I"⟩
abbrev cX5_dropUnit : ByteArray := prog_1_method_29_code
def yX5_dropUnit : MethodName := ⟨RX5, "dropUnit", "(I)I"⟩
abbrev cX5_hasStorm : ByteArray := prog_1_method_30_code
def yX5_hasStorm : MethodName := ⟨RX5, "hasStorm", "(I)Z"⟩
abbrev cX5_hasUnit : ByteArray := prog_1_method_31_code
def yX5_hasUnit : MethodName := ⟨RX5, "hasUnit", "(I)Z"⟩
abbrev cX5_isTick : ByteArray := prog_1_method_32_code
def yX5_isTick : MethodName := ⟨RX5, "isTick", "(I)Z"⟩
abbrev cX5_isLength : ByteArray := prog_1_method_33_code
def yX5_isLength : MethodName := ⟨RX5, "isLength", "(I)Z"⟩
abbrev cX5_isPartOfFraction : ByteArray := prog_1_method_34_code
def yX5_isPartOfFraction : MethodName := ⟨RX5, "isPartOfFraction", "(I)Z"⟩
abbrev cX5_canFit : ByteArray := prog_1_method_35_code
def yX5_canFit : MethodName := ⟨RX5, "canFit", "(II)Z"⟩
abbrev cX5_isFitted : ByteArray := prog_1_method_36_code
def yX5_isFitted : MethodName := ⟨RX5, "isFitted", "(II)Z"⟩
abbrev cX5_fitStorms : ByteArray := prog_1_method_37_code
def yX5_fitStorms : MethodName := ⟨RX5, "fitStorms", "(II)V"⟩
abbrev cX5_inLowestTerms : ByteArray := prog_1_method_38_code
def yX5_inLowestTerms : MethodName := ⟨RX5, "inLowestTerms", "(JJI)J"⟩
abbrev cX5_sharedDivisor : ByteArray := prog_1_method_39_code
def yX5_sharedDivisor : MethodName := ⟨RX5, "sharedDivisor", "(JJ)J"⟩
def RX6 : String := "RunoffOfficeModel"
def TX6 : u_T := fun k => match k with
  | 0 => ("RunoffOfficeModel", "pageLength", "I", false)
  | 1 => ("RunoffOfficeModel", "page", "[I", true)
  | 2 => ("RunoffOfficeModel", "storms", "I", false)
  | 3 => ("RunoffOfficeModel", "rainMany", "[I", true)
  | 4 => ("RunoffOfficeModel", "rains", "[I", true)
  | 5 => ("RunoffOfficeModel", "runoffMany", "[I", true)
  | 6 => ("RunoffOfficeModel", "runoffs", "[I", true)
  | 7 => ("RunoffOfficeModel", "units", "I", false)
  | 8 => ("RunoffOfficeModel", "lengthOf", "[I", true)
  | 9 => ("RunoffOfficeModel", "partMany", "[I", true)
  | 10 => ("RunoffOfficeModel", "parts", "[I", true)
  | 11 => ("RunoffOfficeModel", "cameEver", "I", false)
  | 12 => ("RunoffOfficeModel", "wentEver", "I", false)
  | 13 => ("RunoffOfficeModel", "keptEver", "I", false)
  | 14 => ("RunoffOfficeModel", "reads", "I", false)
  | 15 => ("RunoffOfficeModel", "isUnit", "Z", false)
  | 16 => ("RunoffOfficeModel", "newLength", "I", false)
  | 17 => ("RunoffOfficeModel", "newRains", "I", false)
  | 18 => ("RunoffOfficeModel", "newRain", "[I", true)
  | 19 => ("RunoffOfficeModel", "newRows", "I", false)
  | 20 => ("RunoffOfficeModel", "newRow", "[I", true)
  | 21 => ("RunoffOfficeModel", "figures", "I", false)
  | 22 => ("RunoffOfficeModel", "number", "I", false)
  | 23 => ("RunoffOfficeModel", "rowMany", "I", false)
  | 24 => ("RunoffOfficeModel", "row", "[I", true)
  | 25 => ("RunoffOfficeModel", "rainBy", "[J", true)
  | 26 => ("RunoffOfficeModel", "runoffBy", "[J", true)
  | 27 => ("RunoffOfficeModel", "runoffSquares", "J", false)
  | 28 => ("RunoffOfficeModel", "square", "[J", true)
  | 29 => ("RunoffOfficeModel", "freeAt", "[I", true)
  | 30 => ("RunoffOfficeModel", "below", "J", false)
  | 31 => ("RunoffOfficeModel", "above", "[J", true)
  | _ => ("RunoffOfficeModel", "h", "J", false)
def tyX6 : Nat → FieldType := fun k => match k with
  | 0 => .int
  | 1 => .array .int
  | 2 => .int
  | 3 => .array .int
  | 4 => .array .int
  | 5 => .array .int
  | 6 => .array .int
  | 7 => .int
  | 8 => .array .int
  | 9 => .array .int
  | 10 => .array .int
  | 11 => .int
  | 12 => .int
  | 13 => .int
  | 14 => .int
  | 15 => .boolean
  | 16 => .int
  | 17 => .int
  | 18 => .array .int
  | 19 => .int
  | 20 => .array .int
  | 21 => .int
  | 22 => .int
  | 23 => .int
  | 24 => .array .int
  | 25 => .array .long
  | 26 => .array .long
  | 27 => .long
  | 28 => .array .long
  | 29 => .array .int
  | 30 => .long
  | 31 => .array .long
  | _ => .long
abbrev wsX60 : List Cond := u_ws RX6 TX6 33
theorem nmX6 : ∀ a, a < 33 → ∀ b, b < 33 → a ≠ b → (TX6 a).2.1 ≠ (TX6 b).2.1 := by decide +kernel
theorem tyX6_ok : ∀ k, k < 33 → parseFieldDescriptor (TX6 k).2.2.1 = some (tyX6 k) := by decide +kernel
abbrev cX6_init : ByteArray := prog_8_method_1_code
def yX6_init : MethodName := ⟨RX6, "<init>", "()V"⟩
abbrev cX6_within : ByteArray := prog_8_method_3_code
def yX6_within : MethodName := ⟨RX6, "within", "(III)Z"⟩
abbrev cX6_letter : ByteArray := prog_8_method_4_code
def yX6_letter : MethodName := ⟨RX6, "letter", "(I)I"⟩
abbrev cX6_blank : ByteArray := prog_8_method_5_code
def yX6_blank : MethodName := ⟨RX6, "blank", "()I"⟩
abbrev cX6_goesTo : ByteArray := prog_8_method_6_code
def yX6_goesTo : MethodName := ⟨RX6, "goesTo", "(I)Z"⟩
abbrev cX6_begins : ByteArray := prog_8_method_7_code
def yX6_begins : MethodName := ⟨RX6, "begins", "(I)Z"⟩
abbrev cX6_takesFigure : ByteArray := prog_8_method_8_code
def yX6_takesFigure : MethodName := ⟨RX6, "takesFigure", "(I)Z"⟩
abbrev cX6_keepNumber : ByteArray := prog_8_method_9_code
def yX6_keepNumber : MethodName := ⟨RX6, "keepNumber", "()V"⟩
abbrev cX6_takesInRow : ByteArray := prog_8_method_10_code
def yX6_takesInRow : MethodName := ⟨RX6, "takesInRow", "(I)Z"⟩
abbrev cX6_takes : ByteArray := prog_8_method_11_code
def yX6_takes : MethodName := ⟨RX6, "takes", "(I)Z"⟩
abbrev cX6_goAlong : ByteArray := prog_8_method_12_code
def yX6_goAlong : MethodName := ⟨RX6, "goAlong", "()I"⟩
abbrev cX6_fault : ByteArray := prog_8_method_13_code
def yX6_fault : MethodName := ⟨RX6, "fault", "()I"⟩
abbrev cX6_takeStorm : ByteArray := prog_8_method_14_code
def yX6_takeStorm : MethodName := ⟨RX6, "takeStorm", "()I"⟩
abbrev cX6_takeUnit : ByteArray := prog_8_method_15_code
def yX6_takeUnit : MethodName := ⟨RX6, "takeUnit", "()I"⟩
abbrev cX6_take : ByteArray := prog_8_method_16_code
def yX6_take : MethodName := ⟨RX6, "take", "()I"⟩
abbrev cX6_dropStorm : ByteArray := prog_8_method_17_code
def yX6_dropStorm : MethodName := ⟨RX6, "dropStorm", "(I)I"⟩
abbrev cX6_dropUnit : ByteArray := prog_8_method_18_code
def yX6_dropUnit : MethodName := ⟨RX6, "dropUnit", "(I)I"⟩
abbrev cX6_isStorm : ByteArray := prog_8_method_19_code
def yX6_isStorm : MethodName := ⟨RX6, "isStorm", "(I)Z"⟩
abbrev cX6_isUnitThere : ByteArray := prog_8_method_20_code
def yX6_isUnitThere : MethodName := ⟨RX6, "isUnitThere", "(I)Z"⟩
abbrev cX6_drop : ByteArray := prog_8_method_21_code
def yX6_drop : MethodName := ⟨RX6, "drop", "(ZI)I"⟩
abbrev cX6_rainAt : ByteArray := prog_8_method_22_code
def yX6_rainAt : MethodName := ⟨RX6, "rainAt", "(II)I"⟩
abbrev cX6_runoffAt : ByteArray := prog_8_method_23_code
def yX6_runoffAt : MethodName := ⟨RX6, "runoffAt", "(II)I"⟩
abbrev cX6_rainAll : ByteArray := prog_8_method_24_code
def yX6_rainAll : MethodName := ⟨RX6, "rainAll", "(I)I"⟩
abbrev cX6_runoffAll : ByteArray := prog_8_method_25_code
def yX6_runoffAll : MethodName := ⟨RX6, "runoffAll", "(I)I"⟩
abbrev cX6_stormNow : ByteArray := prog_8_method_26_code
def yX6_stormNow : MethodName := ⟨RX6, "stormNow", "(II)I"⟩
abbrev cX6_storm : ByteArray := prog_8_method_27_code
def yX6_storm : MethodName := ⟨RX6, "storm", "(II)I"⟩
abbrev cX6_isDivided : ByteArray := prog_8_method_28_code
def yX6_isDivided : MethodName := ⟨RX6, "isDivided", "(I)Z"⟩
abbrev cX6_dividedNow : ByteArray := prog_8_method_29_code
def yX6_dividedNow : MethodName := ⟨RX6, "dividedNow", "(II)I"⟩
abbrev cX6_divided : ByteArray := prog_8_method_30_code
def yX6_divided : MethodName := ⟨RX6, "divided", "(II)I"⟩
abbrev cX6_partAt : ByteArray := prog_8_method_31_code
def yX6_partAt : MethodName := ⟨RX6, "partAt", "(II)I"⟩
abbrev cX6_partAll : ByteArray := prog_8_method_32_code
def yX6_partAll : MethodName := ⟨RX6, "partAll", "(I)I"⟩
abbrev cX6_unitNow : ByteArray := prog_8_method_33_code
def yX6_unitNow : MethodName := ⟨RX6, "unitNow", "(II)I"⟩
abbrev cX6_unit : ByteArray := prog_8_method_34_code
def yX6_unit : MethodName := ⟨RX6, "unit", "(II)I"⟩
abbrev cX6_madeAt : ByteArray := prog_8_method_35_code
def yX6_madeAt : MethodName := ⟨RX6, "madeAt", "(III)I"⟩
abbrev cX6_made : ByteArray := prog_8_method_36_code
def yX6_made : MethodName := ⟨RX6, "made", "(III)I"⟩
abbrev cX6_missedNow : ByteArray := prog_8_method_37_code
def yX6_missedNow : MethodName := ⟨RX6, "missedNow", "(II)I"⟩
abbrev cX6_missed : ByteArray := prog_8_method_38_code
def yX6_missed : MethodName := ⟨RX6, "missed", "(II)I"⟩
abbrev cX6_sumAt : ByteArray := prog_8_method_39_code
def yX6_sumAt : MethodName := ⟨RX6, "sumAt", "(II)I"⟩
abbrev cX6_sum : ByteArray := prog_8_method_40_code
def yX6_sum : MethodName := ⟨RX6, "sum", "(II)I"⟩
abbrev cX6_common : ByteArray := prog_8_method_41_code
def yX6_common : MethodName := ⟨RX6, "common", "(JJ)J"⟩
abbrev cX6_lowest : ByteArray := prog_8_method_42_code
def yX6_lowest : MethodName := ⟨RX6, "lowest", "(JJI)J"⟩
abbrev cX6_other : ByteArray := prog_8_method_43_code
def yX6_other : MethodName := ⟨RX6, "other", "(IIII)I"⟩
abbrev cX6_layProducts : ByteArray := prog_8_method_44_code
def yX6_layProducts : MethodName := ⟨RX6, "layProducts", "(I)V"⟩
abbrev cX6_apart : ByteArray := prog_8_method_45_code
def yX6_apart : MethodName := ⟨RX6, "apart", "(II)I"⟩
abbrev cX6_solve : ByteArray := prog_8_method_46_code
def yX6_solve : MethodName := ⟨RX6, "solve", "(II)V"⟩
abbrev cX6_clear : ByteArray := prog_8_method_47_code
def yX6_clear : MethodName := ⟨RX6, "clear", "(II)V"⟩
abbrev cX6_pressAbove : ByteArray := prog_8_method_48_code
def yX6_pressAbove : MethodName := ⟨RX6, "pressAbove", "(II)J"⟩
abbrev cX6_isBest : ByteArray := prog_8_method_49_code
def yX6_isBest : MethodName := ⟨RX6, "isBest", "(I)Z"⟩
abbrev cX6_layBest : ByteArray := prog_8_method_50_code
def yX6_layBest : MethodName := ⟨RX6, "layBest", "(II)V"⟩
abbrev cX6_isAsk : ByteArray := prog_8_method_51_code
def yX6_isAsk : MethodName := ⟨RX6, "isAsk", "(II)Z"⟩
abbrev cX6_bestNow : ByteArray := prog_8_method_52_code
def yX6_bestNow : MethodName := ⟨RX6, "bestNow", "(IIII)J"⟩
abbrev cX6_best : ByteArray := prog_8_method_53_code
def yX6_best : MethodName := ⟨RX6, "best", "(IIII)J"⟩
abbrev cX6_lossNow : ByteArray := prog_8_method_54_code
def yX6_lossNow : MethodName := ⟨RX6, "lossNow", "(III)J"⟩
abbrev cX6_loss : ByteArray := prog_8_method_55_code
def yX6_loss : MethodName := ⟨RX6, "loss", "(III)J"⟩
abbrev cX6_pressNow : ByteArray := prog_8_method_56_code
def yX6_pressNow : MethodName := ⟨RX6, "pressNow", "(IIII)J"⟩
abbrev cX6_press : ByteArray := prog_8_method_57_code
def yX6_press : MethodName := ⟨RX6, "press", "(IIII)J"⟩
abbrev cX6_nothingNow : ByteArray := prog_8_method_58_code
def yX6_nothingNow : MethodName := ⟨RX6, "nothingNow", "(II)I"⟩
abbrev cX6_nothing : ByteArray := prog_8_method_59_code
def yX6_nothing : MethodName := ⟨RX6, "nothing", "(II)I"⟩
abbrev cX6_isWhole : ByteArray := prog_8_method_60_code
def yX6_isWhole : MethodName := ⟨RX6, "isWhole", "(I)Z"⟩
abbrev cX6_keep : ByteArray := prog_8_method_61_code
def yX6_keep : MethodName := ⟨RX6, "keep", "(III)I"⟩
abbrev cX6_howMany : ByteArray := prog_8_method_62_code
def yX6_howMany : MethodName := ⟨RX6, "howMany", "(I)I"⟩
abbrev cX6_count : ByteArray := prog_8_method_63_code
def yX6_count : MethodName := ⟨RX6, "count", "(I)I"⟩
abbrev cX6_mix : ByteArray := prog_8_method_64_code
def yX6_mix : MethodName := ⟨RX6, "mix", "(J)V"⟩
abbrev cX6_mixStorm : ByteArray := prog_8_method_65_code
def yX6_mixStorm : MethodName := ⟨RX6, "mixStorm", "(I)V"⟩
abbrev cX6_mixUnits : ByteArray := prog_8_method_66_code
def yX6_mixUnits : MethodName := ⟨RX6, "mixUnits", "()V"⟩
abbrev cX6_mixBest : ByteArray := prog_8_method_67_code
def yX6_mixBest : MethodName := ⟨RX6, "mixBest", "(I)V"⟩
abbrev cX6_digest : ByteArray := prog_8_method_68_code
def yX6_digest : MethodName := ⟨RX6, "digest", "()J"⟩
def RJ9 : String := "java/lang/Math"
def TJ9 : u_T := fun k => match k with
  | _ => ("", "", "", false)
def tyJ9 : Nat → FieldType := fun k => match k with
  | _ => .int
abbrev wsJ90 : List Cond := u_ws RJ9 TJ9 0
theorem nmJ9 : ∀ a, a < 0 → ∀ b, b < 0 → a ≠ b → (TJ9 a).2.1 ≠ (TJ9 b).2.1 := by decide +kernel
theorem tyJ9_ok : ∀ k, k < 0 → parseFieldDescriptor (TJ9 k).2.2.1 = some (tyJ9 k) := by decide +kernel
abbrev cJ9_abs_0f7a4 : ByteArray := prog_9_method_59_code
def yJ9_abs_0f7a4 : MethodName := ⟨RJ9, "abs", "(I)I"⟩
abbrev cJ9_abs_067f4 : ByteArray := prog_9_method_61_code
def yJ9_abs_067f4 : MethodName := ⟨RJ9, "abs", "(J)J"⟩
abbrev cJ9_max_7cf53 : ByteArray := prog_9_method_65_code
def yJ9_max_7cf53 : MethodName := ⟨RJ9, "max", "(II)I"⟩
abbrev cJ9_min_7cf53 : ByteArray := prog_9_method_69_code
def yJ9_min_7cf53 : MethodName := ⟨RJ9, "min", "(II)I"⟩
def RL : String := "RunoffOfficeLaw"
abbrev cL_law : ByteArray := code
def yL_law : MethodName := ⟨RL, "law", "([I)Z"⟩
def wsX0_init : List Cond := .code yX0_init cX0_init 1 none :: ([.methodLink RX0 3 objectInit, .instanceMethod objectInit, .code objectInit ⟨#[0xb1]⟩ 1 none, .arrayClass .long, .fieldLink RX0 9 "RunoffOffice$Fit" "rainByDistance" "[J", .fieldLink RX0 15 "RunoffOffice$Fit" "rainByRunoff" "[J", .fieldLink RX0 18 "RunoffOffice$Fit" "matrix" "[J", .fieldLink RX0 21 "RunoffOffice$Fit" "above" "[J", .fieldLink RX0 24 "RunoffOffice$Fit" "pressing" "[J", .fieldLink RX0 27 "RunoffOffice$Fit" "below" "J"] ++ wsX00)
def wsX0_begin : List Cond := .code yX0_begin cX0_begin 3 none :: ([.methodLink RX0 31 Lib.Math.min.name, .static Lib.Math.min.name, .initialized "java/lang/Math", .code Lib.Math.min.name Lib.Math.min.code 2 (some .int), .methodLink RX0 37 Lib.Math.max.name, .static Lib.Math.max.name, .code Lib.Math.max.name Lib.Math.max.code 2 (some .int), .fieldLink RX0 40 "RunoffOffice$Fit" "size" "I", .fieldLink RX0 44 "RunoffOffice$Fit" "runoffSquares" "J", .fieldLink RX0 9 "RunoffOffice$Fit" "rainByDistance" "[J", .fieldLink RX0 15 "RunoffOffice$Fit" "rainByRunoff" "[J"] ++ wsX00)
def wsX2_at : List Cond := .code yX2_at cX2_at 2 (some .int) :: ([.fieldLink RX2 15 "RunoffOffice$Row" "size" "I", .fieldLink RX2 9 "RunoffOffice$Row" "numbers" "[I"] ++ wsX20)
def wsX0_add : List Cond := .code yX0_add cX0_add 4 none :: ([.fieldLink RX0 44 "RunoffOffice$Fit" "runoffSquares" "J", .fieldLink RX0 47 "RunoffOffice$Storm" "runoff" "LRunoffOffice$Row;", .fieldLink RX0 9 "RunoffOffice$Fit" "rainByDistance" "[J", .fieldLink RX0 59 "RunoffOffice$Storm" "rain" "LRunoffOffice$Row;", .fieldLink RX0 15 "RunoffOffice$Fit" "rainByRunoff" "[J", .methodLink RX0 53 yX2_at, .instanceMethod yX2_at, .selects RX2 yX2_at yX2_at, .initialized RX2, .code yX2_at cX2_at 2 (some .int), .fieldLink RX2 15 "RunoffOffice$Row" "size" "I", .fieldLink RX2 9 "RunoffOffice$Row" "numbers" "[I"] ++ wsX00 ++ wsX30 ++ wsX20)
def wsX0_isFree : List Cond := .code yX0_isFree cX0_isFree 2 (some .boolean) :: ([])
def wsX0_entry : List Cond := .code yX0_entry cX0_entry 6 (some .long) :: ([.fieldLink RX0 15 "RunoffOffice$Fit" "rainByRunoff" "[J", .fieldLink RX0 9 "RunoffOffice$Fit" "rainByDistance" "[J", .methodLink RX0 87 Lib.Math.abs.name, .static Lib.Math.abs.name, .initialized "java/lang/Math", .code Lib.Math.abs.name Lib.Math.abs.code 1 (some .int), .methodLink RX0 79 yX0_isFree, .static yX0_isFree, .initialized RX0, .code yX0_isFree cX0_isFree 2 (some .boolean)] ++ wsX00)
def wsX0_minor : List Cond := .code yX0_minor cX0_minor 4 (some .long) :: ([.fieldLink RX0 18 "RunoffOffice$Fit" "matrix" "[J"] ++ wsX00)
def wsX0_determinant : List Cond := .code yX0_determinant cX0_determinant 5 (some .long) :: ([.fieldLink RX0 18 "RunoffOffice$Fit" "matrix" "[J", .methodLink RX0 90 yX0_entry, .instanceMethod yX0_entry, .selects RX0 yX0_entry yX0_entry, .initialized RX0, .code yX0_entry cX0_entry 6 (some .long), .fieldLink RX0 15 "RunoffOffice$Fit" "rainByRunoff" "[J", .fieldLink RX0 9 "RunoffOffice$Fit" "rainByDistance" "[J", .methodLink RX0 87 Lib.Math.abs.name, .static Lib.Math.abs.name, .initialized "java/lang/Math", .code Lib.Math.abs.name Lib.Math.abs.code 1 (some .int), .methodLink RX0 79 yX0_isFree, .static yX0_isFree, .code yX0_isFree cX0_isFree 2 (some .boolean), .methodLink RX0 94 yX0_minor, .instanceMethod yX0_minor, .selects RX0 yX0_minor yX0_minor, .code yX0_minor cX0_minor 4 (some .long)] ++ wsX00)
def wsX0_pressOn : List Cond := .code yX0_pressOn cX0_pressOn 5 (some .long) :: ([.fieldLink RX0 15 "RunoffOffice$Fit" "rainByRunoff" "[J", .fieldLink RX0 27 "RunoffOffice$Fit" "below" "J", .fieldLink RX0 40 "RunoffOffice$Fit" "size" "I", .fieldLink RX0 9 "RunoffOffice$Fit" "rainByDistance" "[J", .methodLink RX0 87 Lib.Math.abs.name, .static Lib.Math.abs.name, .initialized "java/lang/Math", .code Lib.Math.abs.name Lib.Math.abs.code 1 (some .int), .fieldLink RX0 21 "RunoffOffice$Fit" "above" "[J"] ++ wsX00)
def wsX0_fitsWith_r1 : List Cond := [Cond.fieldLink RX0 27 "RunoffOffice$Fit" "below" "J", Cond.fieldLink RX0 40 "RunoffOffice$Fit" "size" "I", Cond.fieldLink RX0 21 "RunoffOffice$Fit" "above" "[J", Cond.fieldLink RX0 24 "RunoffOffice$Fit" "pressing" "[J", Cond.methodLink RX0 75 yX0_determinant, Cond.instanceMethod yX0_determinant, Cond.selects RX0 yX0_determinant yX0_determinant, Cond.initialized RX0, Cond.code yX0_determinant cX0_determinant 5 (some .long), Cond.fieldLink RX0 18 "RunoffOffice$Fit" "matrix" "[J", Cond.methodLink RX0 90 yX0_entry, Cond.instanceMethod yX0_entry, Cond.selects RX0 yX0_entry yX0_entry, Cond.code yX0_entry cX0_entry 6 (some .long), Cond.fieldLink RX0 15 "RunoffOffice$Fit" "rainByRunoff" "[J", Cond.fieldLink RX0 9 "RunoffOffice$Fit" "rainByDistance" "[J", Cond.methodLink RX0 87 Lib.Math.abs.name, Cond.static Lib.Math.abs.name, Cond.initialized "java/lang/Math", Cond.code Lib.Math.abs.name Lib.Math.abs.code 1 (some .int), Cond.methodLink RX0 79 yX0_isFree, Cond.static yX0_isFree, Cond.code yX0_isFree cX0_isFree 2 (some .boolean), Cond.methodLink RX0 94 yX0_minor]
def wsX0_fitsWith_r2 : List Cond := [Cond.instanceMethod yX0_minor, Cond.selects RX0 yX0_minor yX0_minor, Cond.code yX0_minor cX0_minor 4 (some .long), Cond.methodLink RX0 83 yX0_pressOn, Cond.instanceMethod yX0_pressOn, Cond.selects RX0 yX0_pressOn yX0_pressOn, Cond.code yX0_pressOn cX0_pressOn 5 (some .long)]
def wsX0_fitsWith : List Cond := .code yX0_fitsWith cX0_fitsWith 4 (some .boolean) :: ((wsX0_fitsWith_r1 ++ wsX0_fitsWith_r2) ++ wsX00)
def wsX0_settle_r1 : List Cond := [Cond.fieldLink RX0 40 "RunoffOffice$Fit" "size" "I", Cond.methodLink RX0 62 yX0_fitsWith, Cond.instanceMethod yX0_fitsWith, Cond.selects RX0 yX0_fitsWith yX0_fitsWith, Cond.initialized RX0, Cond.code yX0_fitsWith cX0_fitsWith 4 (some .boolean), Cond.fieldLink RX0 27 "RunoffOffice$Fit" "below" "J", Cond.fieldLink RX0 21 "RunoffOffice$Fit" "above" "[J", Cond.fieldLink RX0 24 "RunoffOffice$Fit" "pressing" "[J", Cond.methodLink RX0 75 yX0_determinant, Cond.instanceMethod yX0_determinant, Cond.selects RX0 yX0_determinant yX0_determinant, Cond.code yX0_determinant cX0_determinant 5 (some .long), Cond.fieldLink RX0 18 "RunoffOffice$Fit" "matrix" "[J", Cond.methodLink RX0 90 yX0_entry, Cond.instanceMethod yX0_entry, Cond.selects RX0 yX0_entry yX0_entry, Cond.code yX0_entry cX0_entry 6 (some .long), Cond.fieldLink RX0 15 "RunoffOffice$Fit" "rainByRunoff" "[J", Cond.fieldLink RX0 9 "RunoffOffice$Fit" "rainByDistance" "[J", Cond.methodLink RX0 87 Lib.Math.abs.name, Cond.static Lib.Math.abs.name, Cond.initialized "java/lang/Math", Cond.code Lib.Math.abs.name Lib.Math.abs.code 1 (some .int)]
def wsX0_settle_r2 : List Cond := [Cond.methodLink RX0 79 yX0_isFree, Cond.static yX0_isFree, Cond.code yX0_isFree cX0_isFree 2 (some .boolean), Cond.methodLink RX0 94 yX0_minor, Cond.instanceMethod yX0_minor, Cond.selects RX0 yX0_minor yX0_minor, Cond.code yX0_minor cX0_minor 4 (some .long), Cond.methodLink RX0 83 yX0_pressOn, Cond.instanceMethod yX0_pressOn, Cond.selects RX0 yX0_pressOn yX0_pressOn, Cond.code yX0_pressOn cX0_pressOn 5 (some .long)]
def wsX0_settle : List Cond := .code yX0_settle cX0_settle 3 none :: ((wsX0_settle_r1 ++ wsX0_settle_r2) ++ wsX00)
def wsX0_below : List Cond := .code yX0_below cX0_below 1 (some .long) :: ([.fieldLink RX0 27 "RunoffOffice$Fit" "below" "J"] ++ wsX00)
def wsX0_partAbove : List Cond := .code yX0_partAbove cX0_partAbove 2 (some .long) :: ([.fieldLink RX0 21 "RunoffOffice$Fit" "above" "[J"] ++ wsX00)
def wsX0_pressAbove : List Cond := .code yX0_pressAbove cX0_pressAbove 2 (some .long) :: ([.fieldLink RX0 24 "RunoffOffice$Fit" "pressing" "[J"] ++ wsX00)
def wsX0_lossAbove : List Cond := .code yX0_lossAbove cX0_lossAbove 4 (some .long) :: ([.fieldLink RX0 44 "RunoffOffice$Fit" "runoffSquares" "J", .fieldLink RX0 27 "RunoffOffice$Fit" "below" "J", .fieldLink RX0 40 "RunoffOffice$Fit" "size" "I", .fieldLink RX0 15 "RunoffOffice$Fit" "rainByRunoff" "[J", .fieldLink RX0 21 "RunoffOffice$Fit" "above" "[J"] ++ wsX00)
def wsX0_isOfUnitNumbers : List Cond := .code yX0_isOfUnitNumbers cX0_isOfUnitNumbers 3 (some .boolean) :: ([.fieldLink RX0 27 "RunoffOffice$Fit" "below" "J", .fieldLink RX0 40 "RunoffOffice$Fit" "size" "I", .fieldLink RX0 21 "RunoffOffice$Fit" "above" "[J", .constantLong RX0 66 (99)] ++ wsX00)
def wsX2_clear : List Cond := .code yX2_clear cX2_clear 1 none :: ([.fieldLink RX2 15 "RunoffOffice$Row" "size" "I"] ++ wsX20)
def wsX2_add : List Cond := .code yX2_add cX2_add 2 none :: ([.fieldLink RX2 15 "RunoffOffice$Row" "size" "I", .fieldLink RX2 9 "RunoffOffice$Row" "numbers" "[I"] ++ wsX20)
def wsX0_writeInto : List Cond := .code yX0_writeInto cX0_writeInto 3 none :: ([.fieldLink RX0 40 "RunoffOffice$Fit" "size" "I", .fieldLink RX0 27 "RunoffOffice$Fit" "below" "J", .fieldLink RX0 21 "RunoffOffice$Fit" "above" "[J", .methodLink RX0 68 yX2_clear, .instanceMethod yX2_clear, .selects RX2 yX2_clear yX2_clear, .initialized RX2, .code yX2_clear cX2_clear 1 none, .fieldLink RX2 15 "RunoffOffice$Row" "size" "I", .methodLink RX0 71 yX2_add, .instanceMethod yX2_add, .selects RX2 yX2_add yX2_add, .code yX2_add cX2_add 2 none, .fieldLink RX2 9 "RunoffOffice$Row" "numbers" "[I"] ++ wsX00 ++ wsX20)
def wsX2_init : List Cond := .code yX2_init cX2_init 1 none :: ([.methodLink RX2 3 objectInit, .instanceMethod objectInit, .code objectInit ⟨#[0xb1]⟩ 1 none, .arrayClass .int, .fieldLink RX2 9 "RunoffOffice$Row" "numbers" "[I"] ++ wsX20)
def wsX1_init : List Cond := .code yX1_init cX1_init 1 none :: ([.methodLink RX1 3 objectInit, .instanceMethod objectInit, .code objectInit ⟨#[0xb1]⟩ 1 none, .classLink RX1 9 RX2, .instantiable RX2 2, .initialized RX2, .fieldLink RX1 12 "RunoffOffice$Reader" "rain" "LRunoffOffice$Row;", .fieldLink RX1 18 "RunoffOffice$Reader" "row" "LRunoffOffice$Row;", .instanceMethod yX2_init, .code yX2_init cX2_init 1 none, .methodLink RX2 3 objectInit, .arrayClass .int, .fieldLink RX2 9 "RunoffOffice$Row" "numbers" "[I"] ++ wsX20 ++ wsX10)
def wsX1_begin : List Cond := .code yX1_begin cX1_begin 1 none :: ([.fieldLink RX1 12 "RunoffOffice$Reader" "rain" "LRunoffOffice$Row;", .fieldLink RX1 18 "RunoffOffice$Reader" "row" "LRunoffOffice$Row;", .fieldLink RX1 28 "RunoffOffice$Reader" "place" "I", .fieldLink RX1 39 "RunoffOffice$Reader" "length" "I", .fieldLink RX1 36 "RunoffOffice$Reader" "ofUnit" "Z", .fieldLink RX1 32 "RunoffOffice$Reader" "inNumber" "Z", .methodLink RX1 42 yX2_clear, .instanceMethod yX2_clear, .selects RX2 yX2_clear yX2_clear, .initialized RX2, .code yX2_clear cX2_clear 1 none, .fieldLink RX2 15 "RunoffOffice$Row" "size" "I"] ++ wsX10 ++ wsX20)
def wsX1_startsWith : List Cond := .code yX1_startsWith cX1_startsWith 2 (some .boolean) :: ([.fieldLink RX1 36 "RunoffOffice$Reader" "ofUnit" "Z", .fieldLink RX1 28 "RunoffOffice$Reader" "place" "I"] ++ wsX10)
def wsX1_takesColon : List Cond := .code yX1_takesColon cX1_takesColon 2 (some .boolean) :: ([.fieldLink RX1 28 "RunoffOffice$Reader" "place" "I", .fieldLink RX1 32 "RunoffOffice$Reader" "inNumber" "Z"] ++ wsX10)
def wsX2_size : List Cond := .code yX2_size cX2_size 1 (some .int) :: ([.fieldLink RX2 15 "RunoffOffice$Row" "size" "I"] ++ wsX20)
def wsX2_last : List Cond := .code yX2_last cX2_last 1 (some .int) :: ([.fieldLink RX2 15 "RunoffOffice$Row" "size" "I", .fieldLink RX2 9 "RunoffOffice$Row" "numbers" "[I"] ++ wsX20)
def wsX2_setLast : List Cond := .code yX2_setLast cX2_setLast 2 none :: ([.fieldLink RX2 15 "RunoffOffice$Row" "size" "I", .fieldLink RX2 9 "RunoffOffice$Row" "numbers" "[I"] ++ wsX20)
def wsX1_takesFigure : List Cond := .code yX1_takesFigure cX1_takesFigure 7 (some .boolean) :: ([.fieldLink RX1 32 "RunoffOffice$Reader" "inNumber" "Z", .methodLink RX1 72 yX2_last, .instanceMethod yX2_last, .selects RX2 yX2_last yX2_last, .initialized RX2, .code yX2_last cX2_last 1 (some .int), .fieldLink RX2 15 "RunoffOffice$Row" "size" "I", .fieldLink RX2 9 "RunoffOffice$Row" "numbers" "[I", .methodLink RX1 75 yX2_setLast, .instanceMethod yX2_setLast, .selects RX2 yX2_setLast yX2_setLast, .code yX2_setLast cX2_setLast 2 none, .methodLink RX1 79 yX2_add, .instanceMethod yX2_add, .selects RX2 yX2_add yX2_add, .code yX2_add cX2_add 2 none] ++ wsX10 ++ wsX20)
def wsX1_numbersGoOnWith_r1 : List Cond := [Cond.fieldLink RX1 32 "RunoffOffice$Reader" "inNumber" "Z", Cond.methodLink RX1 61 yX2_size, Cond.instanceMethod yX2_size, Cond.selects RX2 yX2_size yX2_size, Cond.initialized RX2, Cond.code yX2_size cX2_size 1 (some .int), Cond.fieldLink RX2 15 "RunoffOffice$Row" "size" "I", Cond.methodLink RX1 68 yX1_takesFigure, Cond.instanceMethod yX1_takesFigure, Cond.selects RX1 yX1_takesFigure yX1_takesFigure, Cond.initialized RX1, Cond.code yX1_takesFigure cX1_takesFigure 7 (some .boolean), Cond.methodLink RX1 72 yX2_last, Cond.instanceMethod yX2_last, Cond.selects RX2 yX2_last yX2_last, Cond.code yX2_last cX2_last 1 (some .int), Cond.fieldLink RX2 9 "RunoffOffice$Row" "numbers" "[I", Cond.methodLink RX1 75 yX2_setLast, Cond.instanceMethod yX2_setLast, Cond.selects RX2 yX2_setLast yX2_setLast, Cond.code yX2_setLast cX2_setLast 2 none, Cond.methodLink RX1 79 yX2_add, Cond.instanceMethod yX2_add, Cond.selects RX2 yX2_add yX2_add]
def wsX1_numbersGoOnWith_r2 : List Cond := [Cond.code yX2_add cX2_add 2 none]
def wsX1_numbersGoOnWith : List Cond := .code yX1_numbersGoOnWith cX1_numbersGoOnWith 6 (some .boolean) :: ((wsX1_numbersGoOnWith_r1 ++ wsX1_numbersGoOnWith_r2) ++ wsX10 ++ wsX20)
def wsX1_rainGoesOnWith_r1 : List Cond := [Cond.fieldLink RX1 32 "RunoffOffice$Reader" "inNumber" "Z", Cond.fieldLink RX1 12 "RunoffOffice$Reader" "rain" "LRunoffOffice$Row;", Cond.methodLink RX1 54 yX1_takesColon, Cond.instanceMethod yX1_takesColon, Cond.selects RX1 yX1_takesColon yX1_takesColon, Cond.initialized RX1, Cond.code yX1_takesColon cX1_takesColon 2 (some .boolean), Cond.fieldLink RX1 28 "RunoffOffice$Reader" "place" "I", Cond.methodLink RX1 61 yX2_size, Cond.instanceMethod yX2_size, Cond.selects RX2 yX2_size yX2_size, Cond.initialized RX2, Cond.code yX2_size cX2_size 1 (some .int), Cond.fieldLink RX2 15 "RunoffOffice$Row" "size" "I", Cond.methodLink RX1 57 yX1_numbersGoOnWith, Cond.instanceMethod yX1_numbersGoOnWith, Cond.selects RX1 yX1_numbersGoOnWith yX1_numbersGoOnWith, Cond.code yX1_numbersGoOnWith cX1_numbersGoOnWith 6 (some .boolean), Cond.methodLink RX1 68 yX1_takesFigure, Cond.instanceMethod yX1_takesFigure, Cond.selects RX1 yX1_takesFigure yX1_takesFigure, Cond.code yX1_takesFigure cX1_takesFigure 7 (some .boolean), Cond.methodLink RX1 72 yX2_last, Cond.instanceMethod yX2_last]
def wsX1_rainGoesOnWith_r2 : List Cond := [Cond.selects RX2 yX2_last yX2_last, Cond.code yX2_last cX2_last 1 (some .int), Cond.fieldLink RX2 9 "RunoffOffice$Row" "numbers" "[I", Cond.methodLink RX1 75 yX2_setLast, Cond.instanceMethod yX2_setLast, Cond.selects RX2 yX2_setLast yX2_setLast, Cond.code yX2_setLast cX2_setLast 2 none, Cond.methodLink RX1 79 yX2_add, Cond.instanceMethod yX2_add, Cond.selects RX2 yX2_add yX2_add, Cond.code yX2_add cX2_add 2 none]
def wsX1_rainGoesOnWith : List Cond := .code yX1_rainGoesOnWith cX1_rainGoesOnWith 2 (some .boolean) :: ((wsX1_rainGoesOnWith_r1 ++ wsX1_rainGoesOnWith_r2) ++ wsX10 ++ wsX20)
def wsX5_isLength : List Cond := .code yX5_isLength cX5_isLength 1 (some .boolean) :: ([])
def wsX1_takesLength : List Cond := .code yX1_takesLength cX1_takesLength 2 (some .boolean) :: ([.fieldLink RX1 39 "RunoffOffice$Reader" "length" "I", .fieldLink RX1 28 "RunoffOffice$Reader" "place" "I", .static yX5_isLength, .initialized RX5, .code yX5_isLength cX5_isLength 1 (some .boolean)] ++ wsX10)
def wsX1_goesOnWith_r1 : List Cond := [Cond.fieldLink RX1 28 "RunoffOffice$Reader" "place" "I", Cond.fieldLink RX1 18 "RunoffOffice$Reader" "row" "LRunoffOffice$Row;", Cond.methodLink RX1 45 yX1_startsWith, Cond.instanceMethod yX1_startsWith, Cond.selects RX1 yX1_startsWith yX1_startsWith, Cond.initialized RX1, Cond.code yX1_startsWith cX1_startsWith 2 (some .boolean), Cond.fieldLink RX1 36 "RunoffOffice$Reader" "ofUnit" "Z", Cond.methodLink RX1 48 yX1_rainGoesOnWith, Cond.instanceMethod yX1_rainGoesOnWith, Cond.selects RX1 yX1_rainGoesOnWith yX1_rainGoesOnWith, Cond.code yX1_rainGoesOnWith cX1_rainGoesOnWith 2 (some .boolean), Cond.fieldLink RX1 32 "RunoffOffice$Reader" "inNumber" "Z", Cond.fieldLink RX1 12 "RunoffOffice$Reader" "rain" "LRunoffOffice$Row;", Cond.methodLink RX1 54 yX1_takesColon, Cond.instanceMethod yX1_takesColon, Cond.selects RX1 yX1_takesColon yX1_takesColon, Cond.code yX1_takesColon cX1_takesColon 2 (some .boolean), Cond.methodLink RX1 61 yX2_size, Cond.instanceMethod yX2_size, Cond.selects RX2 yX2_size yX2_size, Cond.initialized RX2, Cond.code yX2_size cX2_size 1 (some .int), Cond.fieldLink RX2 15 "RunoffOffice$Row" "size" "I"]
def wsX1_goesOnWith_r2 : List Cond := [Cond.methodLink RX1 57 yX1_numbersGoOnWith, Cond.instanceMethod yX1_numbersGoOnWith, Cond.selects RX1 yX1_numbersGoOnWith yX1_numbersGoOnWith, Cond.code yX1_numbersGoOnWith cX1_numbersGoOnWith 6 (some .boolean), Cond.methodLink RX1 68 yX1_takesFigure, Cond.instanceMethod yX1_takesFigure, Cond.selects RX1 yX1_takesFigure yX1_takesFigure, Cond.code yX1_takesFigure cX1_takesFigure 7 (some .boolean), Cond.methodLink RX1 72 yX2_last, Cond.instanceMethod yX2_last, Cond.selects RX2 yX2_last yX2_last, Cond.code yX2_last cX2_last 1 (some .int), Cond.fieldLink RX2 9 "RunoffOffice$Row" "numbers" "[I", Cond.methodLink RX1 75 yX2_setLast, Cond.instanceMethod yX2_setLast, Cond.selects RX2 yX2_setLast yX2_setLast, Cond.code yX2_setLast cX2_setLast 2 none, Cond.methodLink RX1 79 yX2_add, Cond.instanceMethod yX2_add, Cond.selects RX2 yX2_add yX2_add, Cond.code yX2_add cX2_add 2 none, Cond.methodLink RX1 51 yX1_takesLength, Cond.instanceMethod yX1_takesLength, Cond.selects RX1 yX1_takesLength yX1_takesLength]
def wsX1_goesOnWith_r3 : List Cond := [Cond.code yX1_takesLength cX1_takesLength 2 (some .boolean), Cond.fieldLink RX1 39 "RunoffOffice$Reader" "length" "I", Cond.static yX5_isLength, Cond.initialized RX5, Cond.code yX5_isLength cX5_isLength 1 (some .boolean)]
def wsX1_goesOnWith : List Cond := .code yX1_goesOnWith cX1_goesOnWith 2 (some .boolean) :: ((wsX1_goesOnWith_r1 ++ (wsX1_goesOnWith_r2 ++ wsX1_goesOnWith_r3)) ++ wsX10 ++ wsX20)
def wsX1_read_r1 : List Cond := [Cond.methodLink RX1 21 yX1_begin, Cond.instanceMethod yX1_begin, Cond.selects RX1 yX1_begin yX1_begin, Cond.initialized RX1, Cond.code yX1_begin cX1_begin 1 none, Cond.fieldLink RX1 12 "RunoffOffice$Reader" "rain" "LRunoffOffice$Row;", Cond.fieldLink RX1 18 "RunoffOffice$Reader" "row" "LRunoffOffice$Row;", Cond.fieldLink RX1 28 "RunoffOffice$Reader" "place" "I", Cond.fieldLink RX1 39 "RunoffOffice$Reader" "length" "I", Cond.fieldLink RX1 36 "RunoffOffice$Reader" "ofUnit" "Z", Cond.fieldLink RX1 32 "RunoffOffice$Reader" "inNumber" "Z", Cond.methodLink RX1 42 yX2_clear, Cond.instanceMethod yX2_clear, Cond.selects RX2 yX2_clear yX2_clear, Cond.initialized RX2, Cond.code yX2_clear cX2_clear 1 none, Cond.fieldLink RX2 15 "RunoffOffice$Row" "size" "I", Cond.methodLink RX1 24 yX1_goesOnWith, Cond.instanceMethod yX1_goesOnWith, Cond.selects RX1 yX1_goesOnWith yX1_goesOnWith, Cond.code yX1_goesOnWith cX1_goesOnWith 2 (some .boolean), Cond.methodLink RX1 45 yX1_startsWith, Cond.instanceMethod yX1_startsWith, Cond.selects RX1 yX1_startsWith yX1_startsWith]
def wsX1_read_r2 : List Cond := [Cond.code yX1_startsWith cX1_startsWith 2 (some .boolean), Cond.methodLink RX1 48 yX1_rainGoesOnWith, Cond.instanceMethod yX1_rainGoesOnWith, Cond.selects RX1 yX1_rainGoesOnWith yX1_rainGoesOnWith, Cond.code yX1_rainGoesOnWith cX1_rainGoesOnWith 2 (some .boolean), Cond.methodLink RX1 54 yX1_takesColon, Cond.instanceMethod yX1_takesColon, Cond.selects RX1 yX1_takesColon yX1_takesColon, Cond.code yX1_takesColon cX1_takesColon 2 (some .boolean), Cond.methodLink RX1 61 yX2_size, Cond.instanceMethod yX2_size, Cond.selects RX2 yX2_size yX2_size, Cond.code yX2_size cX2_size 1 (some .int), Cond.methodLink RX1 57 yX1_numbersGoOnWith, Cond.instanceMethod yX1_numbersGoOnWith, Cond.selects RX1 yX1_numbersGoOnWith yX1_numbersGoOnWith, Cond.code yX1_numbersGoOnWith cX1_numbersGoOnWith 6 (some .boolean), Cond.methodLink RX1 68 yX1_takesFigure, Cond.instanceMethod yX1_takesFigure, Cond.selects RX1 yX1_takesFigure yX1_takesFigure, Cond.code yX1_takesFigure cX1_takesFigure 7 (some .boolean), Cond.methodLink RX1 72 yX2_last, Cond.instanceMethod yX2_last, Cond.selects RX2 yX2_last yX2_last]
def wsX1_read_r3 : List Cond := [Cond.code yX2_last cX2_last 1 (some .int), Cond.fieldLink RX2 9 "RunoffOffice$Row" "numbers" "[I", Cond.methodLink RX1 75 yX2_setLast, Cond.instanceMethod yX2_setLast, Cond.selects RX2 yX2_setLast yX2_setLast, Cond.code yX2_setLast cX2_setLast 2 none, Cond.methodLink RX1 79 yX2_add, Cond.instanceMethod yX2_add, Cond.selects RX2 yX2_add yX2_add, Cond.code yX2_add cX2_add 2 none, Cond.methodLink RX1 51 yX1_takesLength, Cond.instanceMethod yX1_takesLength, Cond.selects RX1 yX1_takesLength yX1_takesLength, Cond.code yX1_takesLength cX1_takesLength 2 (some .boolean), Cond.static yX5_isLength, Cond.initialized RX5, Cond.code yX5_isLength cX5_isLength 1 (some .boolean)]
def wsX1_read : List Cond := .code yX1_read cX1_read 4 (some .int) :: ((wsX1_read_r1 ++ (wsX1_read_r2 ++ wsX1_read_r3)) ++ wsX10 ++ wsX20)
def wsX1_isWhole : List Cond := .code yX1_isWhole cX1_isWhole 1 (some .boolean) :: ([.fieldLink RX1 28 "RunoffOffice$Reader" "place" "I", .fieldLink RX1 32 "RunoffOffice$Reader" "inNumber" "Z"] ++ wsX10)
def wsX1_isOfUnit : List Cond := .code yX1_isOfUnit cX1_isOfUnit 1 (some .boolean) :: ([.fieldLink RX1 36 "RunoffOffice$Reader" "ofUnit" "Z"] ++ wsX10)
def wsX1_lengthOfUnit : List Cond := .code yX1_lengthOfUnit cX1_lengthOfUnit 1 (some .int) :: ([.fieldLink RX1 39 "RunoffOffice$Reader" "length" "I"] ++ wsX10)
def wsX2_total : List Cond := .code yX2_total cX2_total 3 (some .int) :: ([.methodLink RX2 19 yX2_at, .instanceMethod yX2_at, .selects RX2 yX2_at yX2_at, .initialized RX2, .code yX2_at cX2_at 2 (some .int), .fieldLink RX2 15 "RunoffOffice$Row" "size" "I", .fieldLink RX2 9 "RunoffOffice$Row" "numbers" "[I"] ++ wsX20)
def wsX2_become : List Cond := .code yX2_become cX2_become 3 none :: ([.fieldLink RX2 15 "RunoffOffice$Row" "size" "I", .fieldLink RX2 9 "RunoffOffice$Row" "numbers" "[I", .methodLink RX2 19 yX2_at, .instanceMethod yX2_at, .selects RX2 yX2_at yX2_at, .initialized RX2, .code yX2_at cX2_at 2 (some .int)] ++ wsX20)
def wsX3_init : List Cond := .code yX3_init cX3_init 1 none :: ([.methodLink RX3 3 objectInit, .instanceMethod objectInit, .code objectInit ⟨#[0xb1]⟩ 1 none, .classLink RX3 9 RX2, .instantiable RX2 2, .initialized RX2, .fieldLink RX3 12 "RunoffOffice$Storm" "rain" "LRunoffOffice$Row;", .fieldLink RX3 18 "RunoffOffice$Storm" "runoff" "LRunoffOffice$Row;", .fieldLink RX3 21 "RunoffOffice$Storm" "quotient" "LRunoffOffice$Row;", .instanceMethod yX2_init, .code yX2_init cX2_init 1 none, .methodLink RX2 3 objectInit, .arrayClass .int, .fieldLink RX2 9 "RunoffOffice$Row" "numbers" "[I"] ++ wsX20 ++ wsX30)
def wsX3_goesEvenly : List Cond := .code yX3_goesEvenly cX3_goesEvenly 1 (some .boolean) :: ([.fieldLink RX3 24 "RunoffOffice$Storm" "evenly" "Z"] ++ wsX30)
def wsX3_rainTimes : List Cond := .code yX3_rainTimes cX3_rainTimes 5 (some .int) :: ([.fieldLink RX3 12 "RunoffOffice$Storm" "rain" "LRunoffOffice$Row;", .methodLink RX3 35 yX2_at, .instanceMethod yX2_at, .selects RX2 yX2_at yX2_at, .initialized RX2, .code yX2_at cX2_at 2 (some .int), .fieldLink RX2 15 "RunoffOffice$Row" "size" "I", .fieldLink RX2 9 "RunoffOffice$Row" "numbers" "[I"] ++ wsX30 ++ wsX20)
def wsX3_divide_r1 : List Cond := [Cond.fieldLink RX3 21 "RunoffOffice$Storm" "quotient" "LRunoffOffice$Row;", Cond.fieldLink RX3 18 "RunoffOffice$Storm" "runoff" "LRunoffOffice$Row;", Cond.fieldLink RX3 12 "RunoffOffice$Storm" "rain" "LRunoffOffice$Row;", Cond.fieldLink RX3 24 "RunoffOffice$Storm" "evenly" "Z", Cond.methodLink RX3 43 yX2_clear, Cond.instanceMethod yX2_clear, Cond.selects RX2 yX2_clear yX2_clear, Cond.initialized RX2, Cond.code yX2_clear cX2_clear 1 none, Cond.fieldLink RX2 15 "RunoffOffice$Row" "size" "I", Cond.methodLink RX3 46 yX2_size, Cond.instanceMethod yX2_size, Cond.selects RX2 yX2_size yX2_size, Cond.code yX2_size cX2_size 1 (some .int), Cond.methodLink RX3 35 yX2_at, Cond.instanceMethod yX2_at, Cond.selects RX2 yX2_at yX2_at, Cond.code yX2_at cX2_at 2 (some .int), Cond.fieldLink RX2 9 "RunoffOffice$Row" "numbers" "[I", Cond.methodLink RX3 39 yX3_rainTimes, Cond.instanceMethod yX3_rainTimes, Cond.selects RX3 yX3_rainTimes yX3_rainTimes, Cond.initialized RX3, Cond.code yX3_rainTimes cX3_rainTimes 5 (some .int)]
def wsX3_divide_r2 : List Cond := [Cond.methodLink RX3 50 yX2_add, Cond.instanceMethod yX2_add, Cond.selects RX2 yX2_add yX2_add, Cond.code yX2_add cX2_add 2 none]
def wsX3_divide : List Cond := .code yX3_divide cX3_divide 5 none :: ((wsX3_divide_r1 ++ wsX3_divide_r2) ++ wsX30 ++ wsX20)
def wsX3_become_r1 : List Cond := [Cond.fieldLink RX3 12 "RunoffOffice$Storm" "rain" "LRunoffOffice$Row;", Cond.fieldLink RX3 18 "RunoffOffice$Storm" "runoff" "LRunoffOffice$Row;", Cond.methodLink RX3 28 yX2_become, Cond.instanceMethod yX2_become, Cond.selects RX2 yX2_become yX2_become, Cond.initialized RX2, Cond.code yX2_become cX2_become 3 none, Cond.fieldLink RX2 15 "RunoffOffice$Row" "size" "I", Cond.fieldLink RX2 9 "RunoffOffice$Row" "numbers" "[I", Cond.methodLink RX2 19 yX2_at, Cond.instanceMethod yX2_at, Cond.selects RX2 yX2_at yX2_at, Cond.code yX2_at cX2_at 2 (some .int), Cond.methodLink RX3 32 yX3_divide, Cond.instanceMethod yX3_divide, Cond.selects RX3 yX3_divide yX3_divide, Cond.initialized RX3, Cond.code yX3_divide cX3_divide 5 none, Cond.fieldLink RX3 21 "RunoffOffice$Storm" "quotient" "LRunoffOffice$Row;", Cond.fieldLink RX3 24 "RunoffOffice$Storm" "evenly" "Z", Cond.methodLink RX3 43 yX2_clear, Cond.instanceMethod yX2_clear, Cond.selects RX2 yX2_clear yX2_clear, Cond.code yX2_clear cX2_clear 1 none]
def wsX3_become_r2 : List Cond := [Cond.methodLink RX3 46 yX2_size, Cond.instanceMethod yX2_size, Cond.selects RX2 yX2_size yX2_size, Cond.code yX2_size cX2_size 1 (some .int), Cond.methodLink RX3 35 yX2_at, Cond.methodLink RX3 39 yX3_rainTimes, Cond.instanceMethod yX3_rainTimes, Cond.selects RX3 yX3_rainTimes yX3_rainTimes, Cond.code yX3_rainTimes cX3_rainTimes 5 (some .int), Cond.methodLink RX3 50 yX2_add, Cond.instanceMethod yX2_add, Cond.selects RX2 yX2_add yX2_add, Cond.code yX2_add cX2_add 2 none]
def wsX3_become : List Cond := .code yX3_become cX3_become 3 none :: ((wsX3_become_r1 ++ wsX3_become_r2) ++ wsX30 ++ wsX20)
def wsX3_squaresMissed : List Cond := .code yX3_squaresMissed cX3_squaresMissed 5 (some .int) :: ([.fieldLink RX3 18 "RunoffOffice$Storm" "runoff" "LRunoffOffice$Row;", .methodLink RX3 39 yX3_rainTimes, .instanceMethod yX3_rainTimes, .selects RX3 yX3_rainTimes yX3_rainTimes, .initialized RX3, .code yX3_rainTimes cX3_rainTimes 5 (some .int), .fieldLink RX3 12 "RunoffOffice$Storm" "rain" "LRunoffOffice$Row;", .methodLink RX3 35 yX2_at, .instanceMethod yX2_at, .selects RX2 yX2_at yX2_at, .initialized RX2, .code yX2_at cX2_at 2 (some .int), .fieldLink RX2 15 "RunoffOffice$Row" "size" "I", .fieldLink RX2 9 "RunoffOffice$Row" "numbers" "[I"] ++ wsX30 ++ wsX20)
def wsX4_init : List Cond := .code yX4_init cX4_init 1 none :: ([.methodLink RX4 3 objectInit, .instanceMethod objectInit, .code objectInit ⟨#[0xb1]⟩ 1 none, .classLink RX4 9 RX2, .instantiable RX2 2, .initialized RX2, .fieldLink RX4 12 "RunoffOffice$Unit" "parts" "LRunoffOffice$Row;", .fieldLink RX4 18 "RunoffOffice$Unit" "length" "I", .instanceMethod yX2_init, .code yX2_init cX2_init 1 none, .methodLink RX2 3 objectInit, .arrayClass .int, .fieldLink RX2 9 "RunoffOffice$Row" "numbers" "[I"] ++ wsX20 ++ wsX40)
def wsX4_summedAt : List Cond := .code yX4_summedAt cX4_summedAt 4 (some .int) :: ([.fieldLink RX4 12 "RunoffOffice$Unit" "parts" "LRunoffOffice$Row;", .fieldLink RX4 18 "RunoffOffice$Unit" "length" "I", .methodLink RX4 22 yX2_at, .instanceMethod yX2_at, .selects RX2 yX2_at yX2_at, .initialized RX2, .code yX2_at cX2_at 2 (some .int), .fieldLink RX2 15 "RunoffOffice$Row" "size" "I", .fieldLink RX2 9 "RunoffOffice$Row" "numbers" "[I"] ++ wsX40 ++ wsX20)
def wsX5_init_r1 : List Cond := [Cond.methodLink RX5 1 objectInit, Cond.instanceMethod objectInit, Cond.code objectInit ⟨#[0xb1]⟩ 1 none, Cond.arrayClass .int, Cond.fieldLink RX5 9 "RunoffOffice" "page" "[I", Cond.classLink RX5 13 RX3, Cond.fieldLink RX5 15 "RunoffOffice" "heldStorms" "[LRunoffOffice$Storm;", Cond.classLink RX5 19 RX4, Cond.fieldLink RX5 21 "RunoffOffice" "heldUnits" "[LRunoffOffice$Unit;", Cond.classLink RX5 25 RX1, Cond.instantiable RX1 6, Cond.initialized RX1, Cond.fieldLink RX5 28 "RunoffOffice" "reader" "LRunoffOffice$Reader;", Cond.classLink RX5 32 RX0, Cond.instantiable RX0 8, Cond.initialized RX0, Cond.fieldLink RX5 35 "RunoffOffice" "fit" "LRunoffOffice$Fit;", Cond.instantiable RX3 4, Cond.initialized RX3, Cond.instantiable RX4 2, Cond.initialized RX4, Cond.instanceMethod yX1_init, Cond.code yX1_init cX1_init 1 none, Cond.methodLink RX1 3 objectInit]
def wsX5_init_r2 : List Cond := [Cond.classLink RX1 9 RX2, Cond.instantiable RX2 2, Cond.initialized RX2, Cond.fieldLink RX1 12 "RunoffOffice$Reader" "rain" "LRunoffOffice$Row;", Cond.fieldLink RX1 18 "RunoffOffice$Reader" "row" "LRunoffOffice$Row;", Cond.instanceMethod yX2_init, Cond.code yX2_init cX2_init 1 none, Cond.methodLink RX2 3 objectInit, Cond.fieldLink RX2 9 "RunoffOffice$Row" "numbers" "[I", Cond.instanceMethod yX0_init, Cond.code yX0_init cX0_init 1 none, Cond.methodLink RX0 3 objectInit, Cond.arrayClass .long, Cond.fieldLink RX0 9 "RunoffOffice$Fit" "rainByDistance" "[J", Cond.fieldLink RX0 15 "RunoffOffice$Fit" "rainByRunoff" "[J", Cond.fieldLink RX0 18 "RunoffOffice$Fit" "matrix" "[J", Cond.fieldLink RX0 21 "RunoffOffice$Fit" "above" "[J", Cond.fieldLink RX0 24 "RunoffOffice$Fit" "pressing" "[J", Cond.fieldLink RX0 27 "RunoffOffice$Fit" "below" "J", Cond.instanceMethod yX3_init, Cond.code yX3_init cX3_init 1 none, Cond.methodLink RX3 3 objectInit, Cond.classLink RX3 9 RX2, Cond.fieldLink RX3 12 "RunoffOffice$Storm" "rain" "LRunoffOffice$Row;"]
def wsX5_init_r3 : List Cond := [Cond.fieldLink RX3 18 "RunoffOffice$Storm" "runoff" "LRunoffOffice$Row;", Cond.fieldLink RX3 21 "RunoffOffice$Storm" "quotient" "LRunoffOffice$Row;", Cond.instanceMethod yX4_init, Cond.code yX4_init cX4_init 1 none, Cond.methodLink RX4 3 objectInit, Cond.classLink RX4 9 RX2, Cond.fieldLink RX4 12 "RunoffOffice$Unit" "parts" "LRunoffOffice$Row;", Cond.fieldLink RX4 18 "RunoffOffice$Unit" "length" "I"]
def wsX5_init : List Cond := .code yX5_init cX5_init 2 none :: ((wsX5_init_r1 ++ (wsX5_init_r2 ++ wsX5_init_r3)) ++ wsX50 ++ wsX10 ++ wsX00 ++ wsX30 ++ wsX40 ++ wsX20)
def wsX5_letter : List Cond := .code yX5_letter cX5_letter 2 (some .int) :: ([.constant RX5 41 (-1000003), .fieldLink RX5 42 "RunoffOffice" "letterCount" "I", .constant RX5 46 (-1000005), .fieldLink RX5 9 "RunoffOffice" "page" "[I"] ++ wsX50)
def wsX5_blank : List Cond := .code yX5_blank cX5_blank 2 (some .int) :: ([.fieldLink RX5 42 "RunoffOffice" "letterCount" "I"] ++ wsX50)
def wsX5_fault_r1 : List Cond := [Cond.fieldLink RX5 28 "RunoffOffice" "reader" "LRunoffOffice$Reader;", Cond.fieldLink RX5 9 "RunoffOffice" "page" "[I", Cond.fieldLink RX5 42 "RunoffOffice" "letterCount" "I", Cond.methodLink RX5 47 yX1_read, Cond.instanceMethod yX1_read, Cond.selects RX1 yX1_read yX1_read, Cond.initialized RX1, Cond.code yX1_read cX1_read 4 (some .int), Cond.methodLink RX1 21 yX1_begin, Cond.instanceMethod yX1_begin, Cond.selects RX1 yX1_begin yX1_begin, Cond.code yX1_begin cX1_begin 1 none, Cond.fieldLink RX1 12 "RunoffOffice$Reader" "rain" "LRunoffOffice$Row;", Cond.fieldLink RX1 18 "RunoffOffice$Reader" "row" "LRunoffOffice$Row;", Cond.fieldLink RX1 28 "RunoffOffice$Reader" "place" "I", Cond.fieldLink RX1 39 "RunoffOffice$Reader" "length" "I", Cond.fieldLink RX1 36 "RunoffOffice$Reader" "ofUnit" "Z", Cond.fieldLink RX1 32 "RunoffOffice$Reader" "inNumber" "Z", Cond.methodLink RX1 42 yX2_clear, Cond.instanceMethod yX2_clear, Cond.selects RX2 yX2_clear yX2_clear, Cond.initialized RX2, Cond.code yX2_clear cX2_clear 1 none, Cond.fieldLink RX2 15 "RunoffOffice$Row" "size" "I"]
def wsX5_fault_r2 : List Cond := [Cond.methodLink RX1 24 yX1_goesOnWith, Cond.instanceMethod yX1_goesOnWith, Cond.selects RX1 yX1_goesOnWith yX1_goesOnWith, Cond.code yX1_goesOnWith cX1_goesOnWith 2 (some .boolean), Cond.methodLink RX1 45 yX1_startsWith, Cond.instanceMethod yX1_startsWith, Cond.selects RX1 yX1_startsWith yX1_startsWith, Cond.code yX1_startsWith cX1_startsWith 2 (some .boolean), Cond.methodLink RX1 48 yX1_rainGoesOnWith, Cond.instanceMethod yX1_rainGoesOnWith, Cond.selects RX1 yX1_rainGoesOnWith yX1_rainGoesOnWith, Cond.code yX1_rainGoesOnWith cX1_rainGoesOnWith 2 (some .boolean), Cond.methodLink RX1 54 yX1_takesColon, Cond.instanceMethod yX1_takesColon, Cond.selects RX1 yX1_takesColon yX1_takesColon, Cond.code yX1_takesColon cX1_takesColon 2 (some .boolean), Cond.methodLink RX1 61 yX2_size, Cond.instanceMethod yX2_size, Cond.selects RX2 yX2_size yX2_size, Cond.code yX2_size cX2_size 1 (some .int), Cond.methodLink RX1 57 yX1_numbersGoOnWith, Cond.instanceMethod yX1_numbersGoOnWith, Cond.selects RX1 yX1_numbersGoOnWith yX1_numbersGoOnWith, Cond.code yX1_numbersGoOnWith cX1_numbersGoOnWith 6 (some .boolean)]
def wsX5_fault_r3 : List Cond := [Cond.methodLink RX1 68 yX1_takesFigure, Cond.instanceMethod yX1_takesFigure, Cond.selects RX1 yX1_takesFigure yX1_takesFigure, Cond.code yX1_takesFigure cX1_takesFigure 7 (some .boolean), Cond.methodLink RX1 72 yX2_last, Cond.instanceMethod yX2_last, Cond.selects RX2 yX2_last yX2_last, Cond.code yX2_last cX2_last 1 (some .int), Cond.fieldLink RX2 9 "RunoffOffice$Row" "numbers" "[I", Cond.methodLink RX1 75 yX2_setLast, Cond.instanceMethod yX2_setLast, Cond.selects RX2 yX2_setLast yX2_setLast, Cond.code yX2_setLast cX2_setLast 2 none, Cond.methodLink RX1 79 yX2_add, Cond.instanceMethod yX2_add, Cond.selects RX2 yX2_add yX2_add, Cond.code yX2_add cX2_add 2 none, Cond.methodLink RX1 51 yX1_takesLength, Cond.instanceMethod yX1_takesLength, Cond.selects RX1 yX1_takesLength yX1_takesLength, Cond.code yX1_takesLength cX1_takesLength 2 (some .boolean), Cond.static yX5_isLength, Cond.initialized RX5, Cond.code yX5_isLength cX5_isLength 1 (some .boolean)]
def wsX5_fault : List Cond := .code yX5_fault cX5_fault 1 (some .int) :: ((wsX5_fault_r1 ++ (wsX5_fault_r2 ++ wsX5_fault_r3)) ++ wsX50 ++ wsX10 ++ wsX20)
def wsX5_takeUnit : List Cond := .code yX5_takeUnit cX5_takeUnit 2 (some .int) :: ([.fieldLink RX5 169 "RunoffOffice" "unitCount" "I", .constant RX5 46 (-1000005), .fieldLink RX5 21 "RunoffOffice" "heldUnits" "[LRunoffOffice$Unit;", .fieldLink RX5 28 "RunoffOffice" "reader" "LRunoffOffice$Reader;", .fieldLink RX5 112 "RunoffOffice$Unit" "length" "I", .fieldLink RX5 109 "RunoffOffice$Unit" "parts" "LRunoffOffice$Row;", .fieldLink RX5 224 "RunoffOffice$Reader" "row" "LRunoffOffice$Row;", .methodLink RX5 231 yX1_lengthOfUnit, .instanceMethod yX1_lengthOfUnit, .selects RX1 yX1_lengthOfUnit yX1_lengthOfUnit, .initialized RX1, .code yX1_lengthOfUnit cX1_lengthOfUnit 1 (some .int), .fieldLink RX1 39 "RunoffOffice$Reader" "length" "I", .methodLink RX5 234 yX2_become, .instanceMethod yX2_become, .selects RX2 yX2_become yX2_become, .initialized RX2, .code yX2_become cX2_become 3 none, .fieldLink RX2 15 "RunoffOffice$Row" "size" "I", .fieldLink RX2 9 "RunoffOffice$Row" "numbers" "[I", .methodLink RX2 19 yX2_at, .instanceMethod yX2_at, .selects RX2 yX2_at yX2_at, .code yX2_at cX2_at 2 (some .int)] ++ wsX50 ++ wsX40 ++ wsX10 ++ wsX20)
def wsX5_takeStorm_r1 : List Cond := [Cond.fieldLink RX5 179 "RunoffOffice" "stormCount" "I", Cond.constant RX5 46 (-1000005), Cond.fieldLink RX5 15 "RunoffOffice" "heldStorms" "[LRunoffOffice$Storm;", Cond.fieldLink RX5 28 "RunoffOffice" "reader" "LRunoffOffice$Reader;", Cond.fieldLink RX5 223 "RunoffOffice$Reader" "rain" "LRunoffOffice$Row;", Cond.fieldLink RX5 224 "RunoffOffice$Reader" "row" "LRunoffOffice$Row;", Cond.methodLink RX5 227 yX3_become, Cond.instanceMethod yX3_become, Cond.selects RX3 yX3_become yX3_become, Cond.initialized RX3, Cond.code yX3_become cX3_become 3 none, Cond.fieldLink RX3 12 "RunoffOffice$Storm" "rain" "LRunoffOffice$Row;", Cond.fieldLink RX3 18 "RunoffOffice$Storm" "runoff" "LRunoffOffice$Row;", Cond.methodLink RX3 28 yX2_become, Cond.instanceMethod yX2_become, Cond.selects RX2 yX2_become yX2_become, Cond.initialized RX2, Cond.code yX2_become cX2_become 3 none, Cond.fieldLink RX2 15 "RunoffOffice$Row" "size" "I", Cond.fieldLink RX2 9 "RunoffOffice$Row" "numbers" "[I", Cond.methodLink RX2 19 yX2_at, Cond.instanceMethod yX2_at, Cond.selects RX2 yX2_at yX2_at, Cond.code yX2_at cX2_at 2 (some .int)]
def wsX5_takeStorm_r2 : List Cond := [Cond.methodLink RX3 32 yX3_divide, Cond.instanceMethod yX3_divide, Cond.selects RX3 yX3_divide yX3_divide, Cond.code yX3_divide cX3_divide 5 none, Cond.fieldLink RX3 21 "RunoffOffice$Storm" "quotient" "LRunoffOffice$Row;", Cond.fieldLink RX3 24 "RunoffOffice$Storm" "evenly" "Z", Cond.methodLink RX3 43 yX2_clear, Cond.instanceMethod yX2_clear, Cond.selects RX2 yX2_clear yX2_clear, Cond.code yX2_clear cX2_clear 1 none, Cond.methodLink RX3 46 yX2_size, Cond.instanceMethod yX2_size, Cond.selects RX2 yX2_size yX2_size, Cond.code yX2_size cX2_size 1 (some .int), Cond.methodLink RX3 35 yX2_at, Cond.methodLink RX3 39 yX3_rainTimes, Cond.instanceMethod yX3_rainTimes, Cond.selects RX3 yX3_rainTimes yX3_rainTimes, Cond.code yX3_rainTimes cX3_rainTimes 5 (some .int), Cond.methodLink RX3 50 yX2_add, Cond.instanceMethod yX2_add, Cond.selects RX2 yX2_add yX2_add, Cond.code yX2_add cX2_add 2 none]
def wsX5_takeStorm : List Cond := .code yX5_takeStorm cX5_takeStorm 1 (some .int) :: ((wsX5_takeStorm_r1 ++ wsX5_takeStorm_r2) ++ wsX50 ++ wsX10 ++ wsX30 ++ wsX20)
def wsX5_take_r1 : List Cond := [Cond.fieldLink RX5 28 "RunoffOffice" "reader" "LRunoffOffice$Reader;", Cond.fieldLink RX5 9 "RunoffOffice" "page" "[I", Cond.fieldLink RX5 42 "RunoffOffice" "letterCount" "I", Cond.constant RX5 55 (-1000004), Cond.constant RX5 46 (-1000005), Cond.fieldLink RX5 66 "RunoffOffice" "cameAsTexts" "I", Cond.methodLink RX5 47 yX1_read, Cond.instanceMethod yX1_read, Cond.selects RX1 yX1_read yX1_read, Cond.initialized RX1, Cond.code yX1_read cX1_read 4 (some .int), Cond.methodLink RX1 21 yX1_begin, Cond.instanceMethod yX1_begin, Cond.selects RX1 yX1_begin yX1_begin, Cond.code yX1_begin cX1_begin 1 none, Cond.fieldLink RX1 12 "RunoffOffice$Reader" "rain" "LRunoffOffice$Row;", Cond.fieldLink RX1 18 "RunoffOffice$Reader" "row" "LRunoffOffice$Row;", Cond.fieldLink RX1 28 "RunoffOffice$Reader" "place" "I", Cond.fieldLink RX1 39 "RunoffOffice$Reader" "length" "I", Cond.fieldLink RX1 36 "RunoffOffice$Reader" "ofUnit" "Z", Cond.fieldLink RX1 32 "RunoffOffice$Reader" "inNumber" "Z", Cond.methodLink RX1 42 yX2_clear, Cond.instanceMethod yX2_clear, Cond.selects RX2 yX2_clear yX2_clear]
def wsX5_take_r2 : List Cond := [Cond.initialized RX2, Cond.code yX2_clear cX2_clear 1 none, Cond.fieldLink RX2 15 "RunoffOffice$Row" "size" "I", Cond.methodLink RX1 24 yX1_goesOnWith, Cond.instanceMethod yX1_goesOnWith, Cond.selects RX1 yX1_goesOnWith yX1_goesOnWith, Cond.code yX1_goesOnWith cX1_goesOnWith 2 (some .boolean), Cond.methodLink RX1 45 yX1_startsWith, Cond.instanceMethod yX1_startsWith, Cond.selects RX1 yX1_startsWith yX1_startsWith, Cond.code yX1_startsWith cX1_startsWith 2 (some .boolean), Cond.methodLink RX1 48 yX1_rainGoesOnWith, Cond.instanceMethod yX1_rainGoesOnWith, Cond.selects RX1 yX1_rainGoesOnWith yX1_rainGoesOnWith, Cond.code yX1_rainGoesOnWith cX1_rainGoesOnWith 2 (some .boolean), Cond.methodLink RX1 54 yX1_takesColon, Cond.instanceMethod yX1_takesColon, Cond.selects RX1 yX1_takesColon yX1_takesColon, Cond.code yX1_takesColon cX1_takesColon 2 (some .boolean), Cond.methodLink RX1 61 yX2_size, Cond.instanceMethod yX2_size, Cond.selects RX2 yX2_size yX2_size, Cond.code yX2_size cX2_size 1 (some .int), Cond.methodLink RX1 57 yX1_numbersGoOnWith]
def wsX5_take_r3 : List Cond := [Cond.instanceMethod yX1_numbersGoOnWith, Cond.selects RX1 yX1_numbersGoOnWith yX1_numbersGoOnWith, Cond.code yX1_numbersGoOnWith cX1_numbersGoOnWith 6 (some .boolean), Cond.methodLink RX1 68 yX1_takesFigure, Cond.instanceMethod yX1_takesFigure, Cond.selects RX1 yX1_takesFigure yX1_takesFigure, Cond.code yX1_takesFigure cX1_takesFigure 7 (some .boolean), Cond.methodLink RX1 72 yX2_last, Cond.instanceMethod yX2_last, Cond.selects RX2 yX2_last yX2_last, Cond.code yX2_last cX2_last 1 (some .int), Cond.fieldLink RX2 9 "RunoffOffice$Row" "numbers" "[I", Cond.methodLink RX1 75 yX2_setLast, Cond.instanceMethod yX2_setLast, Cond.selects RX2 yX2_setLast yX2_setLast, Cond.code yX2_setLast cX2_setLast 2 none, Cond.methodLink RX1 79 yX2_add, Cond.instanceMethod yX2_add, Cond.selects RX2 yX2_add yX2_add, Cond.code yX2_add cX2_add 2 none, Cond.methodLink RX1 51 yX1_takesLength, Cond.instanceMethod yX1_takesLength, Cond.selects RX1 yX1_takesLength yX1_takesLength, Cond.code yX1_takesLength cX1_takesLength 2 (some .boolean)]
def wsX5_take_r4 : List Cond := [Cond.static yX5_isLength, Cond.initialized RX5, Cond.code yX5_isLength cX5_isLength 1 (some .boolean), Cond.methodLink RX5 51 yX1_isWhole, Cond.instanceMethod yX1_isWhole, Cond.selects RX1 yX1_isWhole yX1_isWhole, Cond.code yX1_isWhole cX1_isWhole 1 (some .boolean), Cond.methodLink RX5 56 yX1_isOfUnit, Cond.instanceMethod yX1_isOfUnit, Cond.selects RX1 yX1_isOfUnit yX1_isOfUnit, Cond.code yX1_isOfUnit cX1_isOfUnit 1 (some .boolean), Cond.methodLink RX5 59 yX5_takeUnit, Cond.instanceMethod yX5_takeUnit, Cond.selects RX5 yX5_takeUnit yX5_takeUnit, Cond.code yX5_takeUnit cX5_takeUnit 2 (some .int), Cond.fieldLink RX5 169 "RunoffOffice" "unitCount" "I", Cond.fieldLink RX5 21 "RunoffOffice" "heldUnits" "[LRunoffOffice$Unit;", Cond.fieldLink RX5 112 "RunoffOffice$Unit" "length" "I", Cond.fieldLink RX5 109 "RunoffOffice$Unit" "parts" "LRunoffOffice$Row;", Cond.fieldLink RX5 224 "RunoffOffice$Reader" "row" "LRunoffOffice$Row;", Cond.methodLink RX5 231 yX1_lengthOfUnit, Cond.instanceMethod yX1_lengthOfUnit, Cond.selects RX1 yX1_lengthOfUnit yX1_lengthOfUnit, Cond.code yX1_lengthOfUnit cX1_lengthOfUnit 1 (some .int)]
def wsX5_take_r5 : List Cond := [Cond.methodLink RX5 234 yX2_become, Cond.instanceMethod yX2_become, Cond.selects RX2 yX2_become yX2_become, Cond.code yX2_become cX2_become 3 none, Cond.methodLink RX2 19 yX2_at, Cond.instanceMethod yX2_at, Cond.selects RX2 yX2_at yX2_at, Cond.code yX2_at cX2_at 2 (some .int), Cond.methodLink RX5 63 yX5_takeStorm, Cond.instanceMethod yX5_takeStorm, Cond.selects RX5 yX5_takeStorm yX5_takeStorm, Cond.code yX5_takeStorm cX5_takeStorm 1 (some .int), Cond.fieldLink RX5 179 "RunoffOffice" "stormCount" "I", Cond.fieldLink RX5 15 "RunoffOffice" "heldStorms" "[LRunoffOffice$Storm;", Cond.fieldLink RX5 223 "RunoffOffice$Reader" "rain" "LRunoffOffice$Row;", Cond.methodLink RX5 227 yX3_become, Cond.instanceMethod yX3_become, Cond.selects RX3 yX3_become yX3_become, Cond.initialized RX3, Cond.code yX3_become cX3_become 3 none, Cond.fieldLink RX3 12 "RunoffOffice$Storm" "rain" "LRunoffOffice$Row;", Cond.fieldLink RX3 18 "RunoffOffice$Storm" "runoff" "LRunoffOffice$Row;", Cond.methodLink RX3 28 yX2_become, Cond.methodLink RX3 32 yX3_divide]
def wsX5_take_r6 : List Cond := [Cond.instanceMethod yX3_divide, Cond.selects RX3 yX3_divide yX3_divide, Cond.code yX3_divide cX3_divide 5 none, Cond.fieldLink RX3 21 "RunoffOffice$Storm" "quotient" "LRunoffOffice$Row;", Cond.fieldLink RX3 24 "RunoffOffice$Storm" "evenly" "Z", Cond.methodLink RX3 43 yX2_clear, Cond.methodLink RX3 46 yX2_size, Cond.methodLink RX3 35 yX2_at, Cond.methodLink RX3 39 yX3_rainTimes, Cond.instanceMethod yX3_rainTimes, Cond.selects RX3 yX3_rainTimes yX3_rainTimes, Cond.code yX3_rainTimes cX3_rainTimes 5 (some .int), Cond.methodLink RX3 50 yX2_add]
def wsX5_take : List Cond := .code yX5_take cX5_take 2 (some .int) :: ((wsX5_take_r1 ++ (wsX5_take_r2 ++ (wsX5_take_r3 ++ (wsX5_take_r4 ++ (wsX5_take_r5 ++ wsX5_take_r6))))) ++ wsX50 ++ wsX10 ++ wsX20 ++ wsX40 ++ wsX30)
def wsX5_hasUnit : List Cond := .code yX5_hasUnit cX5_hasUnit 2 (some .boolean) :: ([.fieldLink RX5 169 "RunoffOffice" "unitCount" "I"] ++ wsX50)
def wsX5_dropUnit : List Cond := .code yX5_dropUnit cX5_dropUnit 4 (some .int) :: ([.constant RX5 80 (-1000002), .fieldLink RX5 21 "RunoffOffice" "heldUnits" "[LRunoffOffice$Unit;", .fieldLink RX5 169 "RunoffOffice" "unitCount" "I", .fieldLink RX5 182 "RunoffOffice" "went" "I", .methodLink RX5 106 yX5_hasUnit, .instanceMethod yX5_hasUnit, .selects RX5 yX5_hasUnit yX5_hasUnit, .initialized RX5, .code yX5_hasUnit cX5_hasUnit 2 (some .boolean)] ++ wsX50)
def wsX5_hasStorm : List Cond := .code yX5_hasStorm cX5_hasStorm 2 (some .boolean) :: ([.fieldLink RX5 179 "RunoffOffice" "stormCount" "I"] ++ wsX50)
def wsX5_dropStorm : List Cond := .code yX5_dropStorm cX5_dropStorm 4 (some .int) :: ([.constant RX5 80 (-1000002), .fieldLink RX5 15 "RunoffOffice" "heldStorms" "[LRunoffOffice$Storm;", .fieldLink RX5 179 "RunoffOffice" "stormCount" "I", .fieldLink RX5 182 "RunoffOffice" "went" "I", .methodLink RX5 76 yX5_hasStorm, .instanceMethod yX5_hasStorm, .selects RX5 yX5_hasStorm yX5_hasStorm, .initialized RX5, .code yX5_hasStorm cX5_hasStorm 2 (some .boolean)] ++ wsX50)
def wsX5_drop : List Cond := .code yX5_drop cX5_drop 3 (some .int) :: ([.methodLink RX5 69 yX5_dropUnit, .instanceMethod yX5_dropUnit, .selects RX5 yX5_dropUnit yX5_dropUnit, .initialized RX5, .code yX5_dropUnit cX5_dropUnit 4 (some .int), .constant RX5 80 (-1000002), .fieldLink RX5 21 "RunoffOffice" "heldUnits" "[LRunoffOffice$Unit;", .fieldLink RX5 169 "RunoffOffice" "unitCount" "I", .fieldLink RX5 182 "RunoffOffice" "went" "I", .methodLink RX5 106 yX5_hasUnit, .instanceMethod yX5_hasUnit, .selects RX5 yX5_hasUnit yX5_hasUnit, .code yX5_hasUnit cX5_hasUnit 2 (some .boolean), .methodLink RX5 73 yX5_dropStorm, .instanceMethod yX5_dropStorm, .selects RX5 yX5_dropStorm yX5_dropStorm, .code yX5_dropStorm cX5_dropStorm 4 (some .int), .fieldLink RX5 15 "RunoffOffice" "heldStorms" "[LRunoffOffice$Storm;", .fieldLink RX5 179 "RunoffOffice" "stormCount" "I", .methodLink RX5 76 yX5_hasStorm, .instanceMethod yX5_hasStorm, .selects RX5 yX5_hasStorm yX5_hasStorm, .code yX5_hasStorm cX5_hasStorm 2 (some .boolean)] ++ wsX50)
def wsX5_storm_r1 : List Cond := [Cond.constant RX5 80 (-1000002), Cond.fieldLink RX5 15 "RunoffOffice" "heldStorms" "[LRunoffOffice$Storm;", Cond.fieldLink RX5 81 "RunoffOffice$Storm" "rain" "LRunoffOffice$Row;", Cond.fieldLink RX5 90 "RunoffOffice$Storm" "runoff" "LRunoffOffice$Row;", Cond.constant RX5 41 (-1000003), Cond.methodLink RX5 76 yX5_hasStorm, Cond.instanceMethod yX5_hasStorm, Cond.selects RX5 yX5_hasStorm yX5_hasStorm, Cond.initialized RX5, Cond.code yX5_hasStorm cX5_hasStorm 2 (some .boolean), Cond.fieldLink RX5 179 "RunoffOffice" "stormCount" "I", Cond.methodLink RX5 85 yX2_at, Cond.instanceMethod yX2_at, Cond.selects RX2 yX2_at yX2_at, Cond.initialized RX2, Cond.code yX2_at cX2_at 2 (some .int), Cond.fieldLink RX2 15 "RunoffOffice$Row" "size" "I", Cond.fieldLink RX2 9 "RunoffOffice$Row" "numbers" "[I", Cond.methodLink RX5 93 yX2_size, Cond.instanceMethod yX2_size, Cond.selects RX2 yX2_size yX2_size, Cond.code yX2_size cX2_size 1 (some .int), Cond.methodLink RX5 96 yX2_total, Cond.instanceMethod yX2_total]
def wsX5_storm_r2 : List Cond := [Cond.selects RX2 yX2_total yX2_total, Cond.code yX2_total cX2_total 3 (some .int), Cond.methodLink RX2 19 yX2_at]
def wsX5_storm : List Cond := .code yX5_storm cX5_storm 4 (some .int) :: ((wsX5_storm_r1 ++ wsX5_storm_r2) ++ wsX50 ++ wsX30 ++ wsX20)
def wsX5_divided_r1 : List Cond := [Cond.constant RX5 80 (-1000002), Cond.constant RX5 41 (-1000003), Cond.fieldLink RX5 15 "RunoffOffice" "heldStorms" "[LRunoffOffice$Storm;", Cond.constant RX5 102 (-1000001), Cond.fieldLink RX5 103 "RunoffOffice$Storm" "quotient" "LRunoffOffice$Row;", Cond.methodLink RX5 76 yX5_hasStorm, Cond.instanceMethod yX5_hasStorm, Cond.selects RX5 yX5_hasStorm yX5_hasStorm, Cond.initialized RX5, Cond.code yX5_hasStorm cX5_hasStorm 2 (some .boolean), Cond.fieldLink RX5 179 "RunoffOffice" "stormCount" "I", Cond.methodLink RX5 99 yX3_goesEvenly, Cond.instanceMethod yX3_goesEvenly, Cond.selects RX3 yX3_goesEvenly yX3_goesEvenly, Cond.initialized RX3, Cond.code yX3_goesEvenly cX3_goesEvenly 1 (some .boolean), Cond.fieldLink RX3 24 "RunoffOffice$Storm" "evenly" "Z", Cond.methodLink RX5 93 yX2_size, Cond.instanceMethod yX2_size, Cond.selects RX2 yX2_size yX2_size, Cond.initialized RX2, Cond.code yX2_size cX2_size 1 (some .int), Cond.fieldLink RX2 15 "RunoffOffice$Row" "size" "I", Cond.methodLink RX5 85 yX2_at]
def wsX5_divided_r2 : List Cond := [Cond.instanceMethod yX2_at, Cond.selects RX2 yX2_at yX2_at, Cond.code yX2_at cX2_at 2 (some .int), Cond.fieldLink RX2 9 "RunoffOffice$Row" "numbers" "[I"]
def wsX5_divided : List Cond := .code yX5_divided cX5_divided 6 (some .int) :: ((wsX5_divided_r1 ++ wsX5_divided_r2) ++ wsX50 ++ wsX30 ++ wsX20)
def wsX5_unit_r1 : List Cond := [Cond.constant RX5 80 (-1000002), Cond.fieldLink RX5 21 "RunoffOffice" "heldUnits" "[LRunoffOffice$Unit;", Cond.fieldLink RX5 109 "RunoffOffice$Unit" "parts" "LRunoffOffice$Row;", Cond.fieldLink RX5 112 "RunoffOffice$Unit" "length" "I", Cond.constant RX5 41 (-1000003), Cond.methodLink RX5 106 yX5_hasUnit, Cond.instanceMethod yX5_hasUnit, Cond.selects RX5 yX5_hasUnit yX5_hasUnit, Cond.initialized RX5, Cond.code yX5_hasUnit cX5_hasUnit 2 (some .boolean), Cond.fieldLink RX5 169 "RunoffOffice" "unitCount" "I", Cond.methodLink RX5 85 yX2_at, Cond.instanceMethod yX2_at, Cond.selects RX2 yX2_at yX2_at, Cond.initialized RX2, Cond.code yX2_at cX2_at 2 (some .int), Cond.fieldLink RX2 15 "RunoffOffice$Row" "size" "I", Cond.fieldLink RX2 9 "RunoffOffice$Row" "numbers" "[I", Cond.methodLink RX5 93 yX2_size, Cond.instanceMethod yX2_size, Cond.selects RX2 yX2_size yX2_size, Cond.code yX2_size cX2_size 1 (some .int), Cond.methodLink RX5 96 yX2_total, Cond.instanceMethod yX2_total]
def wsX5_unit_r2 : List Cond := [Cond.selects RX2 yX2_total yX2_total, Cond.code yX2_total cX2_total 3 (some .int), Cond.methodLink RX2 19 yX2_at]
def wsX5_unit : List Cond := .code yX5_unit cX5_unit 4 (some .int) :: ((wsX5_unit_r1 ++ wsX5_unit_r2) ++ wsX50 ++ wsX40 ++ wsX20)
def wsX5_isTick : List Cond := .code yX5_isTick cX5_isTick 1 (some .boolean) :: ([])
def wsX5_made_r1 : List Cond := [Cond.constant RX5 80 (-1000002), Cond.constant RX5 41 (-1000003), Cond.fieldLink RX5 15 "RunoffOffice" "heldStorms" "[LRunoffOffice$Storm;", Cond.fieldLink RX5 21 "RunoffOffice" "heldUnits" "[LRunoffOffice$Unit;", Cond.fieldLink RX5 109 "RunoffOffice$Unit" "parts" "LRunoffOffice$Row;", Cond.methodLink RX5 106 yX5_hasUnit, Cond.instanceMethod yX5_hasUnit, Cond.selects RX5 yX5_hasUnit yX5_hasUnit, Cond.initialized RX5, Cond.code yX5_hasUnit cX5_hasUnit 2 (some .boolean), Cond.fieldLink RX5 169 "RunoffOffice" "unitCount" "I", Cond.methodLink RX5 76 yX5_hasStorm, Cond.instanceMethod yX5_hasStorm, Cond.selects RX5 yX5_hasStorm yX5_hasStorm, Cond.code yX5_hasStorm cX5_hasStorm 2 (some .boolean), Cond.fieldLink RX5 179 "RunoffOffice" "stormCount" "I", Cond.methodLink RX5 115 yX5_isTick, Cond.static yX5_isTick, Cond.code yX5_isTick cX5_isTick 1 (some .boolean), Cond.methodLink RX5 118 yX3_rainTimes, Cond.instanceMethod yX3_rainTimes, Cond.selects RX3 yX3_rainTimes yX3_rainTimes, Cond.initialized RX3, Cond.code yX3_rainTimes cX3_rainTimes 5 (some .int)]
def wsX5_made_r2 : List Cond := [Cond.fieldLink RX3 12 "RunoffOffice$Storm" "rain" "LRunoffOffice$Row;", Cond.methodLink RX3 35 yX2_at, Cond.instanceMethod yX2_at, Cond.selects RX2 yX2_at yX2_at, Cond.initialized RX2, Cond.code yX2_at cX2_at 2 (some .int), Cond.fieldLink RX2 15 "RunoffOffice$Row" "size" "I", Cond.fieldLink RX2 9 "RunoffOffice$Row" "numbers" "[I"]
def wsX5_made : List Cond := .code yX5_made cX5_made 4 (some .int) :: ((wsX5_made_r1 ++ wsX5_made_r2) ++ wsX50 ++ wsX40 ++ wsX30 ++ wsX20)
def wsX5_missed_r1 : List Cond := [Cond.constant RX5 80 (-1000002), Cond.fieldLink RX5 15 "RunoffOffice" "heldStorms" "[LRunoffOffice$Storm;", Cond.fieldLink RX5 21 "RunoffOffice" "heldUnits" "[LRunoffOffice$Unit;", Cond.fieldLink RX5 109 "RunoffOffice$Unit" "parts" "LRunoffOffice$Row;", Cond.methodLink RX5 106 yX5_hasUnit, Cond.instanceMethod yX5_hasUnit, Cond.selects RX5 yX5_hasUnit yX5_hasUnit, Cond.initialized RX5, Cond.code yX5_hasUnit cX5_hasUnit 2 (some .boolean), Cond.fieldLink RX5 169 "RunoffOffice" "unitCount" "I", Cond.methodLink RX5 76 yX5_hasStorm, Cond.instanceMethod yX5_hasStorm, Cond.selects RX5 yX5_hasStorm yX5_hasStorm, Cond.code yX5_hasStorm cX5_hasStorm 2 (some .boolean), Cond.fieldLink RX5 179 "RunoffOffice" "stormCount" "I", Cond.methodLink RX5 122 yX3_squaresMissed, Cond.instanceMethod yX3_squaresMissed, Cond.selects RX3 yX3_squaresMissed yX3_squaresMissed, Cond.initialized RX3, Cond.code yX3_squaresMissed cX3_squaresMissed 5 (some .int), Cond.fieldLink RX3 18 "RunoffOffice$Storm" "runoff" "LRunoffOffice$Row;", Cond.methodLink RX3 39 yX3_rainTimes, Cond.instanceMethod yX3_rainTimes, Cond.selects RX3 yX3_rainTimes yX3_rainTimes]
def wsX5_missed_r2 : List Cond := [Cond.code yX3_rainTimes cX3_rainTimes 5 (some .int), Cond.fieldLink RX3 12 "RunoffOffice$Storm" "rain" "LRunoffOffice$Row;", Cond.methodLink RX3 35 yX2_at, Cond.instanceMethod yX2_at, Cond.selects RX2 yX2_at yX2_at, Cond.initialized RX2, Cond.code yX2_at cX2_at 2 (some .int), Cond.fieldLink RX2 15 "RunoffOffice$Row" "size" "I", Cond.fieldLink RX2 9 "RunoffOffice$Row" "numbers" "[I"]
def wsX5_missed : List Cond := .code yX5_missed cX5_missed 3 (some .int) :: ((wsX5_missed_r1 ++ wsX5_missed_r2) ++ wsX50 ++ wsX40 ++ wsX30 ++ wsX20)
def wsX5_sum_r1 : List Cond := [Cond.constant RX5 80 (-1000002), Cond.constant RX5 41 (-1000003), Cond.fieldLink RX5 21 "RunoffOffice" "heldUnits" "[LRunoffOffice$Unit;", Cond.methodLink RX5 106 yX5_hasUnit, Cond.instanceMethod yX5_hasUnit, Cond.selects RX5 yX5_hasUnit yX5_hasUnit, Cond.initialized RX5, Cond.code yX5_hasUnit cX5_hasUnit 2 (some .boolean), Cond.fieldLink RX5 169 "RunoffOffice" "unitCount" "I", Cond.methodLink RX5 115 yX5_isTick, Cond.static yX5_isTick, Cond.code yX5_isTick cX5_isTick 1 (some .boolean), Cond.methodLink RX5 126 yX4_summedAt, Cond.instanceMethod yX4_summedAt, Cond.selects RX4 yX4_summedAt yX4_summedAt, Cond.initialized RX4, Cond.code yX4_summedAt cX4_summedAt 4 (some .int), Cond.fieldLink RX4 12 "RunoffOffice$Unit" "parts" "LRunoffOffice$Row;", Cond.fieldLink RX4 18 "RunoffOffice$Unit" "length" "I", Cond.methodLink RX4 22 yX2_at, Cond.instanceMethod yX2_at, Cond.selects RX2 yX2_at yX2_at, Cond.initialized RX2, Cond.code yX2_at cX2_at 2 (some .int)]
def wsX5_sum_r2 : List Cond := [Cond.fieldLink RX2 15 "RunoffOffice$Row" "size" "I", Cond.fieldLink RX2 9 "RunoffOffice$Row" "numbers" "[I"]
def wsX5_sum : List Cond := .code yX5_sum cX5_sum 3 (some .int) :: ((wsX5_sum_r1 ++ wsX5_sum_r2) ++ wsX50 ++ wsX40 ++ wsX20)
def wsX5_isPartOfFraction : List Cond := .code yX5_isPartOfFraction cX5_isPartOfFraction 1 (some .boolean) :: ([])
def wsX5_sharedDivisor : List Cond := .code yX5_sharedDivisor cX5_sharedDivisor 11 (some .long) :: ([.methodLink RX5 250 Lib.MathLoose.abs_long.x, .static Lib.MathLoose.abs_long.x, .initialized "java/lang/Math", .code Lib.MathLoose.abs_long.x Lib.MathLoose.abs_long.code 2 (some .long)])
def wsX5_inLowestTerms : List Cond := .code yX5_inLowestTerms cX5_inLowestTerms 7 (some .long) :: ([.methodLink RX5 247 yX5_sharedDivisor, .static yX5_sharedDivisor, .initialized RX5, .code yX5_sharedDivisor cX5_sharedDivisor 11 (some .long), .methodLink RX5 250 Lib.MathLoose.abs_long.x, .static Lib.MathLoose.abs_long.x, .initialized "java/lang/Math", .code Lib.MathLoose.abs_long.x Lib.MathLoose.abs_long.code 2 (some .long)])
def wsX5_other_r1 : List Cond := [Cond.constant RX5 80 (-1000002), Cond.constant RX5 41 (-1000003), Cond.fieldLink RX5 21 "RunoffOffice" "heldUnits" "[LRunoffOffice$Unit;", Cond.fieldLink RX5 112 "RunoffOffice$Unit" "length" "I", Cond.methodLink RX5 106 yX5_hasUnit, Cond.instanceMethod yX5_hasUnit, Cond.selects RX5 yX5_hasUnit yX5_hasUnit, Cond.initialized RX5, Cond.code yX5_hasUnit cX5_hasUnit 2 (some .boolean), Cond.fieldLink RX5 169 "RunoffOffice" "unitCount" "I", Cond.methodLink RX5 129 yX5_isLength, Cond.static yX5_isLength, Cond.code yX5_isLength cX5_isLength 1 (some .boolean), Cond.methodLink RX5 115 yX5_isTick, Cond.static yX5_isTick, Cond.code yX5_isTick cX5_isTick 1 (some .boolean), Cond.methodLink RX5 132 yX5_isPartOfFraction, Cond.static yX5_isPartOfFraction, Cond.code yX5_isPartOfFraction cX5_isPartOfFraction 1 (some .boolean), Cond.methodLink RX5 126 yX4_summedAt, Cond.instanceMethod yX4_summedAt, Cond.selects RX4 yX4_summedAt yX4_summedAt, Cond.initialized RX4, Cond.code yX4_summedAt cX4_summedAt 4 (some .int)]
def wsX5_other_r2 : List Cond := [Cond.fieldLink RX4 12 "RunoffOffice$Unit" "parts" "LRunoffOffice$Row;", Cond.fieldLink RX4 18 "RunoffOffice$Unit" "length" "I", Cond.methodLink RX4 22 yX2_at, Cond.instanceMethod yX2_at, Cond.selects RX2 yX2_at yX2_at, Cond.initialized RX2, Cond.code yX2_at cX2_at 2 (some .int), Cond.fieldLink RX2 15 "RunoffOffice$Row" "size" "I", Cond.fieldLink RX2 9 "RunoffOffice$Row" "numbers" "[I", Cond.methodLink RX5 135 yX5_inLowestTerms, Cond.static yX5_inLowestTerms, Cond.code yX5_inLowestTerms cX5_inLowestTerms 7 (some .long), Cond.methodLink RX5 247 yX5_sharedDivisor, Cond.static yX5_sharedDivisor, Cond.code yX5_sharedDivisor cX5_sharedDivisor 11 (some .long), Cond.methodLink RX5 250 Lib.MathLoose.abs_long.x, Cond.static Lib.MathLoose.abs_long.x, Cond.initialized "java/lang/Math", Cond.code Lib.MathLoose.abs_long.x Lib.MathLoose.abs_long.code 2 (some .long)]
def wsX5_other : List Cond := .code yX5_other cX5_other 7 (some .int) :: ((wsX5_other_r1 ++ wsX5_other_r2) ++ wsX50 ++ wsX40 ++ wsX20)
def wsX5_canFit : List Cond := .code yX5_canFit cX5_canFit 3 (some .boolean) :: ([.fieldLink RX5 179 "RunoffOffice" "stormCount" "I"] ++ wsX50)
def wsX5_isFitted : List Cond := .code yX5_isFitted cX5_isFitted 2 (some .boolean) :: ([])
def wsX5_fitStorms_r1 : List Cond := [Cond.fieldLink RX5 35 "RunoffOffice" "fit" "LRunoffOffice$Fit;", Cond.fieldLink RX5 179 "RunoffOffice" "stormCount" "I", Cond.fieldLink RX5 15 "RunoffOffice" "heldStorms" "[LRunoffOffice$Storm;", Cond.methodLink RX5 236 yX0_begin, Cond.instanceMethod yX0_begin, Cond.selects RX0 yX0_begin yX0_begin, Cond.initialized RX0, Cond.code yX0_begin cX0_begin 3 none, Cond.methodLink RX0 31 Lib.Math.min.name, Cond.static Lib.Math.min.name, Cond.initialized "java/lang/Math", Cond.code Lib.Math.min.name Lib.Math.min.code 2 (some .int), Cond.methodLink RX0 37 Lib.Math.max.name, Cond.static Lib.Math.max.name, Cond.code Lib.Math.max.name Lib.Math.max.code 2 (some .int), Cond.fieldLink RX0 40 "RunoffOffice$Fit" "size" "I", Cond.fieldLink RX0 44 "RunoffOffice$Fit" "runoffSquares" "J", Cond.fieldLink RX0 9 "RunoffOffice$Fit" "rainByDistance" "[J", Cond.fieldLink RX0 15 "RunoffOffice$Fit" "rainByRunoff" "[J", Cond.methodLink RX5 240 yX0_add, Cond.instanceMethod yX0_add, Cond.selects RX0 yX0_add yX0_add, Cond.code yX0_add cX0_add 4 none, Cond.fieldLink RX0 47 "RunoffOffice$Storm" "runoff" "LRunoffOffice$Row;"]
def wsX5_fitStorms_r2 : List Cond := [Cond.fieldLink RX0 59 "RunoffOffice$Storm" "rain" "LRunoffOffice$Row;", Cond.methodLink RX0 53 yX2_at, Cond.instanceMethod yX2_at, Cond.selects RX2 yX2_at yX2_at, Cond.initialized RX2, Cond.code yX2_at cX2_at 2 (some .int), Cond.fieldLink RX2 15 "RunoffOffice$Row" "size" "I", Cond.fieldLink RX2 9 "RunoffOffice$Row" "numbers" "[I", Cond.methodLink RX5 244 yX0_settle, Cond.instanceMethod yX0_settle, Cond.selects RX0 yX0_settle yX0_settle, Cond.code yX0_settle cX0_settle 3 none, Cond.methodLink RX0 62 yX0_fitsWith, Cond.instanceMethod yX0_fitsWith, Cond.selects RX0 yX0_fitsWith yX0_fitsWith, Cond.code yX0_fitsWith cX0_fitsWith 4 (some .boolean), Cond.fieldLink RX0 27 "RunoffOffice$Fit" "below" "J", Cond.fieldLink RX0 21 "RunoffOffice$Fit" "above" "[J", Cond.fieldLink RX0 24 "RunoffOffice$Fit" "pressing" "[J", Cond.methodLink RX0 75 yX0_determinant, Cond.instanceMethod yX0_determinant, Cond.selects RX0 yX0_determinant yX0_determinant, Cond.code yX0_determinant cX0_determinant 5 (some .long), Cond.fieldLink RX0 18 "RunoffOffice$Fit" "matrix" "[J"]
def wsX5_fitStorms_r3 : List Cond := [Cond.methodLink RX0 90 yX0_entry, Cond.instanceMethod yX0_entry, Cond.selects RX0 yX0_entry yX0_entry, Cond.code yX0_entry cX0_entry 6 (some .long), Cond.methodLink RX0 87 Lib.Math.abs.name, Cond.static Lib.Math.abs.name, Cond.code Lib.Math.abs.name Lib.Math.abs.code 1 (some .int), Cond.methodLink RX0 79 yX0_isFree, Cond.static yX0_isFree, Cond.code yX0_isFree cX0_isFree 2 (some .boolean), Cond.methodLink RX0 94 yX0_minor, Cond.instanceMethod yX0_minor, Cond.selects RX0 yX0_minor yX0_minor, Cond.code yX0_minor cX0_minor 4 (some .long), Cond.methodLink RX0 83 yX0_pressOn, Cond.instanceMethod yX0_pressOn, Cond.selects RX0 yX0_pressOn yX0_pressOn, Cond.code yX0_pressOn cX0_pressOn 5 (some .long)]
def wsX5_fitStorms : List Cond := .code yX5_fitStorms cX5_fitStorms 4 none :: ((wsX5_fitStorms_r1 ++ (wsX5_fitStorms_r2 ++ wsX5_fitStorms_r3)) ++ wsX50 ++ wsX00 ++ wsX30 ++ wsX20)
def wsX5_best_r1 : List Cond := [Cond.constantLong RX5 146 (-1000003), Cond.fieldLink RX5 35 "RunoffOffice" "fit" "LRunoffOffice$Fit;", Cond.methodLink RX5 139 yX5_canFit, Cond.instanceMethod yX5_canFit, Cond.selects RX5 yX5_canFit yX5_canFit, Cond.initialized RX5, Cond.code yX5_canFit cX5_canFit 3 (some .boolean), Cond.fieldLink RX5 179 "RunoffOffice" "stormCount" "I", Cond.methodLink RX5 143 yX5_isFitted, Cond.static yX5_isFitted, Cond.code yX5_isFitted cX5_isFitted 2 (some .boolean), Cond.methodLink RX5 132 yX5_isPartOfFraction, Cond.static yX5_isPartOfFraction, Cond.code yX5_isPartOfFraction cX5_isPartOfFraction 1 (some .boolean), Cond.methodLink RX5 148 yX5_fitStorms, Cond.instanceMethod yX5_fitStorms, Cond.selects RX5 yX5_fitStorms yX5_fitStorms, Cond.code yX5_fitStorms cX5_fitStorms 4 none, Cond.fieldLink RX5 15 "RunoffOffice" "heldStorms" "[LRunoffOffice$Storm;", Cond.methodLink RX5 236 yX0_begin, Cond.instanceMethod yX0_begin, Cond.selects RX0 yX0_begin yX0_begin, Cond.initialized RX0, Cond.code yX0_begin cX0_begin 3 none]
def wsX5_best_r2 : List Cond := [Cond.methodLink RX0 31 Lib.Math.min.name, Cond.static Lib.Math.min.name, Cond.initialized "java/lang/Math", Cond.code Lib.Math.min.name Lib.Math.min.code 2 (some .int), Cond.methodLink RX0 37 Lib.Math.max.name, Cond.static Lib.Math.max.name, Cond.code Lib.Math.max.name Lib.Math.max.code 2 (some .int), Cond.fieldLink RX0 40 "RunoffOffice$Fit" "size" "I", Cond.fieldLink RX0 44 "RunoffOffice$Fit" "runoffSquares" "J", Cond.fieldLink RX0 9 "RunoffOffice$Fit" "rainByDistance" "[J", Cond.fieldLink RX0 15 "RunoffOffice$Fit" "rainByRunoff" "[J", Cond.methodLink RX5 240 yX0_add, Cond.instanceMethod yX0_add, Cond.selects RX0 yX0_add yX0_add, Cond.code yX0_add cX0_add 4 none, Cond.fieldLink RX0 47 "RunoffOffice$Storm" "runoff" "LRunoffOffice$Row;", Cond.fieldLink RX0 59 "RunoffOffice$Storm" "rain" "LRunoffOffice$Row;", Cond.methodLink RX0 53 yX2_at, Cond.instanceMethod yX2_at, Cond.selects RX2 yX2_at yX2_at, Cond.initialized RX2, Cond.code yX2_at cX2_at 2 (some .int), Cond.fieldLink RX2 15 "RunoffOffice$Row" "size" "I", Cond.fieldLink RX2 9 "RunoffOffice$Row" "numbers" "[I"]
def wsX5_best_r3 : List Cond := [Cond.methodLink RX5 244 yX0_settle, Cond.instanceMethod yX0_settle, Cond.selects RX0 yX0_settle yX0_settle, Cond.code yX0_settle cX0_settle 3 none, Cond.methodLink RX0 62 yX0_fitsWith, Cond.instanceMethod yX0_fitsWith, Cond.selects RX0 yX0_fitsWith yX0_fitsWith, Cond.code yX0_fitsWith cX0_fitsWith 4 (some .boolean), Cond.fieldLink RX0 27 "RunoffOffice$Fit" "below" "J", Cond.fieldLink RX0 21 "RunoffOffice$Fit" "above" "[J", Cond.fieldLink RX0 24 "RunoffOffice$Fit" "pressing" "[J", Cond.methodLink RX0 75 yX0_determinant, Cond.instanceMethod yX0_determinant, Cond.selects RX0 yX0_determinant yX0_determinant, Cond.code yX0_determinant cX0_determinant 5 (some .long), Cond.fieldLink RX0 18 "RunoffOffice$Fit" "matrix" "[J", Cond.methodLink RX0 90 yX0_entry, Cond.instanceMethod yX0_entry, Cond.selects RX0 yX0_entry yX0_entry, Cond.code yX0_entry cX0_entry 6 (some .long), Cond.methodLink RX0 87 Lib.Math.abs.name, Cond.static Lib.Math.abs.name, Cond.code Lib.Math.abs.name Lib.Math.abs.code 1 (some .int), Cond.methodLink RX0 79 yX0_isFree]
def wsX5_best_r4 : List Cond := [Cond.static yX0_isFree, Cond.code yX0_isFree cX0_isFree 2 (some .boolean), Cond.methodLink RX0 94 yX0_minor, Cond.instanceMethod yX0_minor, Cond.selects RX0 yX0_minor yX0_minor, Cond.code yX0_minor cX0_minor 4 (some .long), Cond.methodLink RX0 83 yX0_pressOn, Cond.instanceMethod yX0_pressOn, Cond.selects RX0 yX0_pressOn yX0_pressOn, Cond.code yX0_pressOn cX0_pressOn 5 (some .long), Cond.methodLink RX5 152 yX0_partAbove, Cond.instanceMethod yX0_partAbove, Cond.selects RX0 yX0_partAbove yX0_partAbove, Cond.code yX0_partAbove cX0_partAbove 2 (some .long), Cond.methodLink RX5 156 yX0_below, Cond.instanceMethod yX0_below, Cond.selects RX0 yX0_below yX0_below, Cond.code yX0_below cX0_below 1 (some .long), Cond.methodLink RX5 135 yX5_inLowestTerms, Cond.static yX5_inLowestTerms, Cond.code yX5_inLowestTerms cX5_inLowestTerms 7 (some .long), Cond.methodLink RX5 247 yX5_sharedDivisor, Cond.static yX5_sharedDivisor, Cond.code yX5_sharedDivisor cX5_sharedDivisor 11 (some .long)]
def wsX5_best_r5 : List Cond := [Cond.methodLink RX5 250 Lib.MathLoose.abs_long.x, Cond.static Lib.MathLoose.abs_long.x, Cond.code Lib.MathLoose.abs_long.x Lib.MathLoose.abs_long.code 2 (some .long)]
def wsX5_best : List Cond := .code yX5_best cX5_best 5 (some .long) :: ((wsX5_best_r1 ++ (wsX5_best_r2 ++ (wsX5_best_r3 ++ (wsX5_best_r4 ++ wsX5_best_r5)))) ++ wsX50 ++ wsX00 ++ wsX30 ++ wsX20)
def wsX5_loss_r1 : List Cond := [Cond.constantLong RX5 146 (-1000003), Cond.fieldLink RX5 35 "RunoffOffice" "fit" "LRunoffOffice$Fit;", Cond.methodLink RX5 139 yX5_canFit, Cond.instanceMethod yX5_canFit, Cond.selects RX5 yX5_canFit yX5_canFit, Cond.initialized RX5, Cond.code yX5_canFit cX5_canFit 3 (some .boolean), Cond.fieldLink RX5 179 "RunoffOffice" "stormCount" "I", Cond.methodLink RX5 132 yX5_isPartOfFraction, Cond.static yX5_isPartOfFraction, Cond.code yX5_isPartOfFraction cX5_isPartOfFraction 1 (some .boolean), Cond.methodLink RX5 148 yX5_fitStorms, Cond.instanceMethod yX5_fitStorms, Cond.selects RX5 yX5_fitStorms yX5_fitStorms, Cond.code yX5_fitStorms cX5_fitStorms 4 none, Cond.fieldLink RX5 15 "RunoffOffice" "heldStorms" "[LRunoffOffice$Storm;", Cond.methodLink RX5 236 yX0_begin, Cond.instanceMethod yX0_begin, Cond.selects RX0 yX0_begin yX0_begin, Cond.initialized RX0, Cond.code yX0_begin cX0_begin 3 none, Cond.methodLink RX0 31 Lib.Math.min.name, Cond.static Lib.Math.min.name, Cond.initialized "java/lang/Math"]
def wsX5_loss_r2 : List Cond := [Cond.code Lib.Math.min.name Lib.Math.min.code 2 (some .int), Cond.methodLink RX0 37 Lib.Math.max.name, Cond.static Lib.Math.max.name, Cond.code Lib.Math.max.name Lib.Math.max.code 2 (some .int), Cond.fieldLink RX0 40 "RunoffOffice$Fit" "size" "I", Cond.fieldLink RX0 44 "RunoffOffice$Fit" "runoffSquares" "J", Cond.fieldLink RX0 9 "RunoffOffice$Fit" "rainByDistance" "[J", Cond.fieldLink RX0 15 "RunoffOffice$Fit" "rainByRunoff" "[J", Cond.methodLink RX5 240 yX0_add, Cond.instanceMethod yX0_add, Cond.selects RX0 yX0_add yX0_add, Cond.code yX0_add cX0_add 4 none, Cond.fieldLink RX0 47 "RunoffOffice$Storm" "runoff" "LRunoffOffice$Row;", Cond.fieldLink RX0 59 "RunoffOffice$Storm" "rain" "LRunoffOffice$Row;", Cond.methodLink RX0 53 yX2_at, Cond.instanceMethod yX2_at, Cond.selects RX2 yX2_at yX2_at, Cond.initialized RX2, Cond.code yX2_at cX2_at 2 (some .int), Cond.fieldLink RX2 15 "RunoffOffice$Row" "size" "I", Cond.fieldLink RX2 9 "RunoffOffice$Row" "numbers" "[I", Cond.methodLink RX5 244 yX0_settle, Cond.instanceMethod yX0_settle, Cond.selects RX0 yX0_settle yX0_settle]
def wsX5_loss_r3 : List Cond := [Cond.code yX0_settle cX0_settle 3 none, Cond.methodLink RX0 62 yX0_fitsWith, Cond.instanceMethod yX0_fitsWith, Cond.selects RX0 yX0_fitsWith yX0_fitsWith, Cond.code yX0_fitsWith cX0_fitsWith 4 (some .boolean), Cond.fieldLink RX0 27 "RunoffOffice$Fit" "below" "J", Cond.fieldLink RX0 21 "RunoffOffice$Fit" "above" "[J", Cond.fieldLink RX0 24 "RunoffOffice$Fit" "pressing" "[J", Cond.methodLink RX0 75 yX0_determinant, Cond.instanceMethod yX0_determinant, Cond.selects RX0 yX0_determinant yX0_determinant, Cond.code yX0_determinant cX0_determinant 5 (some .long), Cond.fieldLink RX0 18 "RunoffOffice$Fit" "matrix" "[J", Cond.methodLink RX0 90 yX0_entry, Cond.instanceMethod yX0_entry, Cond.selects RX0 yX0_entry yX0_entry, Cond.code yX0_entry cX0_entry 6 (some .long), Cond.methodLink RX0 87 Lib.Math.abs.name, Cond.static Lib.Math.abs.name, Cond.code Lib.Math.abs.name Lib.Math.abs.code 1 (some .int), Cond.methodLink RX0 79 yX0_isFree, Cond.static yX0_isFree, Cond.code yX0_isFree cX0_isFree 2 (some .boolean), Cond.methodLink RX0 94 yX0_minor]
def wsX5_loss_r4 : List Cond := [Cond.instanceMethod yX0_minor, Cond.selects RX0 yX0_minor yX0_minor, Cond.code yX0_minor cX0_minor 4 (some .long), Cond.methodLink RX0 83 yX0_pressOn, Cond.instanceMethod yX0_pressOn, Cond.selects RX0 yX0_pressOn yX0_pressOn, Cond.code yX0_pressOn cX0_pressOn 5 (some .long), Cond.methodLink RX5 160 yX0_lossAbove, Cond.instanceMethod yX0_lossAbove, Cond.selects RX0 yX0_lossAbove yX0_lossAbove, Cond.code yX0_lossAbove cX0_lossAbove 4 (some .long), Cond.methodLink RX5 156 yX0_below, Cond.instanceMethod yX0_below, Cond.selects RX0 yX0_below yX0_below, Cond.code yX0_below cX0_below 1 (some .long), Cond.methodLink RX5 135 yX5_inLowestTerms, Cond.static yX5_inLowestTerms, Cond.code yX5_inLowestTerms cX5_inLowestTerms 7 (some .long), Cond.methodLink RX5 247 yX5_sharedDivisor, Cond.static yX5_sharedDivisor, Cond.code yX5_sharedDivisor cX5_sharedDivisor 11 (some .long), Cond.methodLink RX5 250 Lib.MathLoose.abs_long.x, Cond.static Lib.MathLoose.abs_long.x, Cond.code Lib.MathLoose.abs_long.x Lib.MathLoose.abs_long.code 2 (some .long)]
def wsX5_loss : List Cond := .code yX5_loss cX5_loss 4 (some .long) :: ((wsX5_loss_r1 ++ (wsX5_loss_r2 ++ (wsX5_loss_r3 ++ wsX5_loss_r4))) ++ wsX50 ++ wsX00 ++ wsX30 ++ wsX20)
def wsX5_press_r1 : List Cond := [Cond.constantLong RX5 146 (-1000003), Cond.fieldLink RX5 35 "RunoffOffice" "fit" "LRunoffOffice$Fit;", Cond.methodLink RX5 139 yX5_canFit, Cond.instanceMethod yX5_canFit, Cond.selects RX5 yX5_canFit yX5_canFit, Cond.initialized RX5, Cond.code yX5_canFit cX5_canFit 3 (some .boolean), Cond.fieldLink RX5 179 "RunoffOffice" "stormCount" "I", Cond.methodLink RX5 143 yX5_isFitted, Cond.static yX5_isFitted, Cond.code yX5_isFitted cX5_isFitted 2 (some .boolean), Cond.methodLink RX5 132 yX5_isPartOfFraction, Cond.static yX5_isPartOfFraction, Cond.code yX5_isPartOfFraction cX5_isPartOfFraction 1 (some .boolean), Cond.methodLink RX5 148 yX5_fitStorms, Cond.instanceMethod yX5_fitStorms, Cond.selects RX5 yX5_fitStorms yX5_fitStorms, Cond.code yX5_fitStorms cX5_fitStorms 4 none, Cond.fieldLink RX5 15 "RunoffOffice" "heldStorms" "[LRunoffOffice$Storm;", Cond.methodLink RX5 236 yX0_begin, Cond.instanceMethod yX0_begin, Cond.selects RX0 yX0_begin yX0_begin, Cond.initialized RX0, Cond.code yX0_begin cX0_begin 3 none]
def wsX5_press_r2 : List Cond := [Cond.methodLink RX0 31 Lib.Math.min.name, Cond.static Lib.Math.min.name, Cond.initialized "java/lang/Math", Cond.code Lib.Math.min.name Lib.Math.min.code 2 (some .int), Cond.methodLink RX0 37 Lib.Math.max.name, Cond.static Lib.Math.max.name, Cond.code Lib.Math.max.name Lib.Math.max.code 2 (some .int), Cond.fieldLink RX0 40 "RunoffOffice$Fit" "size" "I", Cond.fieldLink RX0 44 "RunoffOffice$Fit" "runoffSquares" "J", Cond.fieldLink RX0 9 "RunoffOffice$Fit" "rainByDistance" "[J", Cond.fieldLink RX0 15 "RunoffOffice$Fit" "rainByRunoff" "[J", Cond.methodLink RX5 240 yX0_add, Cond.instanceMethod yX0_add, Cond.selects RX0 yX0_add yX0_add, Cond.code yX0_add cX0_add 4 none, Cond.fieldLink RX0 47 "RunoffOffice$Storm" "runoff" "LRunoffOffice$Row;", Cond.fieldLink RX0 59 "RunoffOffice$Storm" "rain" "LRunoffOffice$Row;", Cond.methodLink RX0 53 yX2_at, Cond.instanceMethod yX2_at, Cond.selects RX2 yX2_at yX2_at, Cond.initialized RX2, Cond.code yX2_at cX2_at 2 (some .int), Cond.fieldLink RX2 15 "RunoffOffice$Row" "size" "I", Cond.fieldLink RX2 9 "RunoffOffice$Row" "numbers" "[I"]
def wsX5_press_r3 : List Cond := [Cond.methodLink RX5 244 yX0_settle, Cond.instanceMethod yX0_settle, Cond.selects RX0 yX0_settle yX0_settle, Cond.code yX0_settle cX0_settle 3 none, Cond.methodLink RX0 62 yX0_fitsWith, Cond.instanceMethod yX0_fitsWith, Cond.selects RX0 yX0_fitsWith yX0_fitsWith, Cond.code yX0_fitsWith cX0_fitsWith 4 (some .boolean), Cond.fieldLink RX0 27 "RunoffOffice$Fit" "below" "J", Cond.fieldLink RX0 21 "RunoffOffice$Fit" "above" "[J", Cond.fieldLink RX0 24 "RunoffOffice$Fit" "pressing" "[J", Cond.methodLink RX0 75 yX0_determinant, Cond.instanceMethod yX0_determinant, Cond.selects RX0 yX0_determinant yX0_determinant, Cond.code yX0_determinant cX0_determinant 5 (some .long), Cond.fieldLink RX0 18 "RunoffOffice$Fit" "matrix" "[J", Cond.methodLink RX0 90 yX0_entry, Cond.instanceMethod yX0_entry, Cond.selects RX0 yX0_entry yX0_entry, Cond.code yX0_entry cX0_entry 6 (some .long), Cond.methodLink RX0 87 Lib.Math.abs.name, Cond.static Lib.Math.abs.name, Cond.code Lib.Math.abs.name Lib.Math.abs.code 1 (some .int), Cond.methodLink RX0 79 yX0_isFree]
def wsX5_press_r4 : List Cond := [Cond.static yX0_isFree, Cond.code yX0_isFree cX0_isFree 2 (some .boolean), Cond.methodLink RX0 94 yX0_minor, Cond.instanceMethod yX0_minor, Cond.selects RX0 yX0_minor yX0_minor, Cond.code yX0_minor cX0_minor 4 (some .long), Cond.methodLink RX0 83 yX0_pressOn, Cond.instanceMethod yX0_pressOn, Cond.selects RX0 yX0_pressOn yX0_pressOn, Cond.code yX0_pressOn cX0_pressOn 5 (some .long), Cond.methodLink RX5 163 yX0_pressAbove, Cond.instanceMethod yX0_pressAbove, Cond.selects RX0 yX0_pressAbove yX0_pressAbove, Cond.code yX0_pressAbove cX0_pressAbove 2 (some .long), Cond.methodLink RX5 156 yX0_below, Cond.instanceMethod yX0_below, Cond.selects RX0 yX0_below yX0_below, Cond.code yX0_below cX0_below 1 (some .long), Cond.methodLink RX5 135 yX5_inLowestTerms, Cond.static yX5_inLowestTerms, Cond.code yX5_inLowestTerms cX5_inLowestTerms 7 (some .long), Cond.methodLink RX5 247 yX5_sharedDivisor, Cond.static yX5_sharedDivisor, Cond.code yX5_sharedDivisor cX5_sharedDivisor 11 (some .long)]
def wsX5_press_r5 : List Cond := [Cond.methodLink RX5 250 Lib.MathLoose.abs_long.x, Cond.static Lib.MathLoose.abs_long.x, Cond.code Lib.MathLoose.abs_long.x Lib.MathLoose.abs_long.code 2 (some .long)]
def wsX5_press : List Cond := .code yX5_press cX5_press 5 (some .long) :: ((wsX5_press_r1 ++ (wsX5_press_r2 ++ (wsX5_press_r3 ++ (wsX5_press_r4 ++ wsX5_press_r5)))) ++ wsX50 ++ wsX00 ++ wsX30 ++ wsX20)
def wsX5_nothing_r1 : List Cond := [Cond.constant RX5 41 (-1000003), Cond.fieldLink RX5 35 "RunoffOffice" "fit" "LRunoffOffice$Fit;", Cond.methodLink RX5 139 yX5_canFit, Cond.instanceMethod yX5_canFit, Cond.selects RX5 yX5_canFit yX5_canFit, Cond.initialized RX5, Cond.code yX5_canFit cX5_canFit 3 (some .boolean), Cond.fieldLink RX5 179 "RunoffOffice" "stormCount" "I", Cond.methodLink RX5 148 yX5_fitStorms, Cond.instanceMethod yX5_fitStorms, Cond.selects RX5 yX5_fitStorms yX5_fitStorms, Cond.code yX5_fitStorms cX5_fitStorms 4 none, Cond.fieldLink RX5 15 "RunoffOffice" "heldStorms" "[LRunoffOffice$Storm;", Cond.methodLink RX5 236 yX0_begin, Cond.instanceMethod yX0_begin, Cond.selects RX0 yX0_begin yX0_begin, Cond.initialized RX0, Cond.code yX0_begin cX0_begin 3 none, Cond.methodLink RX0 31 Lib.Math.min.name, Cond.static Lib.Math.min.name, Cond.initialized "java/lang/Math", Cond.code Lib.Math.min.name Lib.Math.min.code 2 (some .int), Cond.methodLink RX0 37 Lib.Math.max.name, Cond.static Lib.Math.max.name]
def wsX5_nothing_r2 : List Cond := [Cond.code Lib.Math.max.name Lib.Math.max.code 2 (some .int), Cond.fieldLink RX0 40 "RunoffOffice$Fit" "size" "I", Cond.fieldLink RX0 44 "RunoffOffice$Fit" "runoffSquares" "J", Cond.fieldLink RX0 9 "RunoffOffice$Fit" "rainByDistance" "[J", Cond.fieldLink RX0 15 "RunoffOffice$Fit" "rainByRunoff" "[J", Cond.methodLink RX5 240 yX0_add, Cond.instanceMethod yX0_add, Cond.selects RX0 yX0_add yX0_add, Cond.code yX0_add cX0_add 4 none, Cond.fieldLink RX0 47 "RunoffOffice$Storm" "runoff" "LRunoffOffice$Row;", Cond.fieldLink RX0 59 "RunoffOffice$Storm" "rain" "LRunoffOffice$Row;", Cond.methodLink RX0 53 yX2_at, Cond.instanceMethod yX2_at, Cond.selects RX2 yX2_at yX2_at, Cond.initialized RX2, Cond.code yX2_at cX2_at 2 (some .int), Cond.fieldLink RX2 15 "RunoffOffice$Row" "size" "I", Cond.fieldLink RX2 9 "RunoffOffice$Row" "numbers" "[I", Cond.methodLink RX5 244 yX0_settle, Cond.instanceMethod yX0_settle, Cond.selects RX0 yX0_settle yX0_settle, Cond.code yX0_settle cX0_settle 3 none, Cond.methodLink RX0 62 yX0_fitsWith, Cond.instanceMethod yX0_fitsWith]
def wsX5_nothing_r3 : List Cond := [Cond.selects RX0 yX0_fitsWith yX0_fitsWith, Cond.code yX0_fitsWith cX0_fitsWith 4 (some .boolean), Cond.fieldLink RX0 27 "RunoffOffice$Fit" "below" "J", Cond.fieldLink RX0 21 "RunoffOffice$Fit" "above" "[J", Cond.fieldLink RX0 24 "RunoffOffice$Fit" "pressing" "[J", Cond.methodLink RX0 75 yX0_determinant, Cond.instanceMethod yX0_determinant, Cond.selects RX0 yX0_determinant yX0_determinant, Cond.code yX0_determinant cX0_determinant 5 (some .long), Cond.fieldLink RX0 18 "RunoffOffice$Fit" "matrix" "[J", Cond.methodLink RX0 90 yX0_entry, Cond.instanceMethod yX0_entry, Cond.selects RX0 yX0_entry yX0_entry, Cond.code yX0_entry cX0_entry 6 (some .long), Cond.methodLink RX0 87 Lib.Math.abs.name, Cond.static Lib.Math.abs.name, Cond.code Lib.Math.abs.name Lib.Math.abs.code 1 (some .int), Cond.methodLink RX0 79 yX0_isFree, Cond.static yX0_isFree, Cond.code yX0_isFree cX0_isFree 2 (some .boolean), Cond.methodLink RX0 94 yX0_minor, Cond.instanceMethod yX0_minor, Cond.selects RX0 yX0_minor yX0_minor, Cond.code yX0_minor cX0_minor 4 (some .long)]
def wsX5_nothing_r4 : List Cond := [Cond.methodLink RX0 83 yX0_pressOn, Cond.instanceMethod yX0_pressOn, Cond.selects RX0 yX0_pressOn yX0_pressOn, Cond.code yX0_pressOn cX0_pressOn 5 (some .long), Cond.methodLink RX5 152 yX0_partAbove, Cond.instanceMethod yX0_partAbove, Cond.selects RX0 yX0_partAbove yX0_partAbove, Cond.code yX0_partAbove cX0_partAbove 2 (some .long)]
def wsX5_nothing : List Cond := .code yX5_nothing cX5_nothing 5 (some .int) :: ((wsX5_nothing_r1 ++ (wsX5_nothing_r2 ++ (wsX5_nothing_r3 ++ wsX5_nothing_r4))) ++ wsX50 ++ wsX00 ++ wsX30 ++ wsX20)
def wsX5_keep_r1 : List Cond := [Cond.constant RX5 41 (-1000003), Cond.fieldLink RX5 35 "RunoffOffice" "fit" "LRunoffOffice$Fit;", Cond.constant RX5 55 (-1000004), Cond.fieldLink RX5 169 "RunoffOffice" "unitCount" "I", Cond.constant RX5 46 (-1000005), Cond.fieldLink RX5 21 "RunoffOffice" "heldUnits" "[LRunoffOffice$Unit;", Cond.fieldLink RX5 112 "RunoffOffice$Unit" "length" "I", Cond.fieldLink RX5 109 "RunoffOffice$Unit" "parts" "LRunoffOffice$Row;", Cond.fieldLink RX5 176 "RunoffOffice" "kept" "I", Cond.methodLink RX5 139 yX5_canFit, Cond.instanceMethod yX5_canFit, Cond.selects RX5 yX5_canFit yX5_canFit, Cond.initialized RX5, Cond.code yX5_canFit cX5_canFit 3 (some .boolean), Cond.fieldLink RX5 179 "RunoffOffice" "stormCount" "I", Cond.methodLink RX5 129 yX5_isLength, Cond.static yX5_isLength, Cond.code yX5_isLength cX5_isLength 1 (some .boolean), Cond.methodLink RX5 148 yX5_fitStorms, Cond.instanceMethod yX5_fitStorms, Cond.selects RX5 yX5_fitStorms yX5_fitStorms, Cond.code yX5_fitStorms cX5_fitStorms 4 none, Cond.fieldLink RX5 15 "RunoffOffice" "heldStorms" "[LRunoffOffice$Storm;", Cond.methodLink RX5 236 yX0_begin]
def wsX5_keep_r2 : List Cond := [Cond.instanceMethod yX0_begin, Cond.selects RX0 yX0_begin yX0_begin, Cond.initialized RX0, Cond.code yX0_begin cX0_begin 3 none, Cond.methodLink RX0 31 Lib.Math.min.name, Cond.static Lib.Math.min.name, Cond.initialized "java/lang/Math", Cond.code Lib.Math.min.name Lib.Math.min.code 2 (some .int), Cond.methodLink RX0 37 Lib.Math.max.name, Cond.static Lib.Math.max.name, Cond.code Lib.Math.max.name Lib.Math.max.code 2 (some .int), Cond.fieldLink RX0 40 "RunoffOffice$Fit" "size" "I", Cond.fieldLink RX0 44 "RunoffOffice$Fit" "runoffSquares" "J", Cond.fieldLink RX0 9 "RunoffOffice$Fit" "rainByDistance" "[J", Cond.fieldLink RX0 15 "RunoffOffice$Fit" "rainByRunoff" "[J", Cond.methodLink RX5 240 yX0_add, Cond.instanceMethod yX0_add, Cond.selects RX0 yX0_add yX0_add, Cond.code yX0_add cX0_add 4 none, Cond.fieldLink RX0 47 "RunoffOffice$Storm" "runoff" "LRunoffOffice$Row;", Cond.fieldLink RX0 59 "RunoffOffice$Storm" "rain" "LRunoffOffice$Row;", Cond.methodLink RX0 53 yX2_at, Cond.instanceMethod yX2_at, Cond.selects RX2 yX2_at yX2_at]
def wsX5_keep_r3 : List Cond := [Cond.initialized RX2, Cond.code yX2_at cX2_at 2 (some .int), Cond.fieldLink RX2 15 "RunoffOffice$Row" "size" "I", Cond.fieldLink RX2 9 "RunoffOffice$Row" "numbers" "[I", Cond.methodLink RX5 244 yX0_settle, Cond.instanceMethod yX0_settle, Cond.selects RX0 yX0_settle yX0_settle, Cond.code yX0_settle cX0_settle 3 none, Cond.methodLink RX0 62 yX0_fitsWith, Cond.instanceMethod yX0_fitsWith, Cond.selects RX0 yX0_fitsWith yX0_fitsWith, Cond.code yX0_fitsWith cX0_fitsWith 4 (some .boolean), Cond.fieldLink RX0 27 "RunoffOffice$Fit" "below" "J", Cond.fieldLink RX0 21 "RunoffOffice$Fit" "above" "[J", Cond.fieldLink RX0 24 "RunoffOffice$Fit" "pressing" "[J", Cond.methodLink RX0 75 yX0_determinant, Cond.instanceMethod yX0_determinant, Cond.selects RX0 yX0_determinant yX0_determinant, Cond.code yX0_determinant cX0_determinant 5 (some .long), Cond.fieldLink RX0 18 "RunoffOffice$Fit" "matrix" "[J", Cond.methodLink RX0 90 yX0_entry, Cond.instanceMethod yX0_entry, Cond.selects RX0 yX0_entry yX0_entry, Cond.code yX0_entry cX0_entry 6 (some .long)]
def wsX5_keep_r4 : List Cond := [Cond.methodLink RX0 87 Lib.Math.abs.name, Cond.static Lib.Math.abs.name, Cond.code Lib.Math.abs.name Lib.Math.abs.code 1 (some .int), Cond.methodLink RX0 79 yX0_isFree, Cond.static yX0_isFree, Cond.code yX0_isFree cX0_isFree 2 (some .boolean), Cond.methodLink RX0 94 yX0_minor, Cond.instanceMethod yX0_minor, Cond.selects RX0 yX0_minor yX0_minor, Cond.code yX0_minor cX0_minor 4 (some .long), Cond.methodLink RX0 83 yX0_pressOn, Cond.instanceMethod yX0_pressOn, Cond.selects RX0 yX0_pressOn yX0_pressOn, Cond.code yX0_pressOn cX0_pressOn 5 (some .long), Cond.methodLink RX5 166 yX0_isOfUnitNumbers, Cond.instanceMethod yX0_isOfUnitNumbers, Cond.selects RX0 yX0_isOfUnitNumbers yX0_isOfUnitNumbers, Cond.code yX0_isOfUnitNumbers cX0_isOfUnitNumbers 3 (some .boolean), Cond.constantLong RX0 66 (99), Cond.methodLink RX5 172 yX0_writeInto, Cond.instanceMethod yX0_writeInto, Cond.selects RX0 yX0_writeInto yX0_writeInto, Cond.code yX0_writeInto cX0_writeInto 3 none, Cond.methodLink RX0 68 yX2_clear]
def wsX5_keep_r5 : List Cond := [Cond.instanceMethod yX2_clear, Cond.selects RX2 yX2_clear yX2_clear, Cond.code yX2_clear cX2_clear 1 none, Cond.methodLink RX0 71 yX2_add, Cond.instanceMethod yX2_add, Cond.selects RX2 yX2_add yX2_add, Cond.code yX2_add cX2_add 2 none]
def wsX5_keep : List Cond := .code yX5_keep cX5_keep 5 (some .int) :: ((wsX5_keep_r1 ++ (wsX5_keep_r2 ++ (wsX5_keep_r3 ++ (wsX5_keep_r4 ++ wsX5_keep_r5)))) ++ wsX50 ++ wsX40 ++ wsX00 ++ wsX30 ++ wsX20)
def wsX5_count : List Cond := .code yX5_count cX5_count 2 (some .int) :: ([.fieldLink RX5 179 "RunoffOffice" "stormCount" "I", .fieldLink RX5 169 "RunoffOffice" "unitCount" "I", .fieldLink RX5 42 "RunoffOffice" "letterCount" "I", .fieldLink RX5 66 "RunoffOffice" "cameAsTexts" "I", .fieldLink RX5 182 "RunoffOffice" "went" "I", .fieldLink RX5 176 "RunoffOffice" "kept" "I", .constant RX5 41 (-1000003)] ++ wsX50)
def wsX5_with : List Cond := .code yX5_with cX5_with 4 (some .long) :: ([.constantLong RX5 208 (31)])
def wsX5_withStorm_r1 : List Cond := [Cond.methodLink RX5 210 yX5_storm, Cond.instanceMethod yX5_storm, Cond.selects RX5 yX5_storm yX5_storm, Cond.initialized RX5, Cond.code yX5_storm cX5_storm 4 (some .int), Cond.constant RX5 80 (-1000002), Cond.fieldLink RX5 15 "RunoffOffice" "heldStorms" "[LRunoffOffice$Storm;", Cond.fieldLink RX5 81 "RunoffOffice$Storm" "rain" "LRunoffOffice$Row;", Cond.fieldLink RX5 90 "RunoffOffice$Storm" "runoff" "LRunoffOffice$Row;", Cond.constant RX5 41 (-1000003), Cond.methodLink RX5 76 yX5_hasStorm, Cond.instanceMethod yX5_hasStorm, Cond.selects RX5 yX5_hasStorm yX5_hasStorm, Cond.code yX5_hasStorm cX5_hasStorm 2 (some .boolean), Cond.fieldLink RX5 179 "RunoffOffice" "stormCount" "I", Cond.methodLink RX5 85 yX2_at, Cond.instanceMethod yX2_at, Cond.selects RX2 yX2_at yX2_at, Cond.initialized RX2, Cond.code yX2_at cX2_at 2 (some .int), Cond.fieldLink RX2 15 "RunoffOffice$Row" "size" "I", Cond.fieldLink RX2 9 "RunoffOffice$Row" "numbers" "[I", Cond.methodLink RX5 93 yX2_size, Cond.instanceMethod yX2_size]
def wsX5_withStorm_r2 : List Cond := [Cond.selects RX2 yX2_size yX2_size, Cond.code yX2_size cX2_size 1 (some .int), Cond.methodLink RX5 96 yX2_total, Cond.instanceMethod yX2_total, Cond.selects RX2 yX2_total yX2_total, Cond.code yX2_total cX2_total 3 (some .int), Cond.methodLink RX2 19 yX2_at, Cond.methodLink RX5 198 yX5_with, Cond.static yX5_with, Cond.code yX5_with cX5_with 4 (some .long), Cond.constantLong RX5 208 (31), Cond.methodLink RX5 213 yX5_divided, Cond.instanceMethod yX5_divided, Cond.selects RX5 yX5_divided yX5_divided, Cond.code yX5_divided cX5_divided 6 (some .int), Cond.constant RX5 102 (-1000001), Cond.fieldLink RX5 103 "RunoffOffice$Storm" "quotient" "LRunoffOffice$Row;", Cond.methodLink RX5 99 yX3_goesEvenly, Cond.instanceMethod yX3_goesEvenly, Cond.selects RX3 yX3_goesEvenly yX3_goesEvenly, Cond.initialized RX3, Cond.code yX3_goesEvenly cX3_goesEvenly 1 (some .boolean), Cond.fieldLink RX3 24 "RunoffOffice$Storm" "evenly" "Z"]
def wsX5_withStorm : List Cond := .code yX5_withStorm cX5_withStorm 7 (some .long) :: ((wsX5_withStorm_r1 ++ wsX5_withStorm_r2) ++ wsX50 ++ wsX30 ++ wsX20)
def wsX5_withUnit_r1 : List Cond := [Cond.methodLink RX5 216 yX5_unit, Cond.instanceMethod yX5_unit, Cond.selects RX5 yX5_unit yX5_unit, Cond.initialized RX5, Cond.code yX5_unit cX5_unit 4 (some .int), Cond.constant RX5 80 (-1000002), Cond.fieldLink RX5 21 "RunoffOffice" "heldUnits" "[LRunoffOffice$Unit;", Cond.fieldLink RX5 109 "RunoffOffice$Unit" "parts" "LRunoffOffice$Row;", Cond.fieldLink RX5 112 "RunoffOffice$Unit" "length" "I", Cond.constant RX5 41 (-1000003), Cond.methodLink RX5 106 yX5_hasUnit, Cond.instanceMethod yX5_hasUnit, Cond.selects RX5 yX5_hasUnit yX5_hasUnit, Cond.code yX5_hasUnit cX5_hasUnit 2 (some .boolean), Cond.fieldLink RX5 169 "RunoffOffice" "unitCount" "I", Cond.methodLink RX5 85 yX2_at, Cond.instanceMethod yX2_at, Cond.selects RX2 yX2_at yX2_at, Cond.initialized RX2, Cond.code yX2_at cX2_at 2 (some .int), Cond.fieldLink RX2 15 "RunoffOffice$Row" "size" "I", Cond.fieldLink RX2 9 "RunoffOffice$Row" "numbers" "[I", Cond.methodLink RX5 93 yX2_size, Cond.instanceMethod yX2_size]
def wsX5_withUnit_r2 : List Cond := [Cond.selects RX2 yX2_size yX2_size, Cond.code yX2_size cX2_size 1 (some .int), Cond.methodLink RX5 96 yX2_total, Cond.instanceMethod yX2_total, Cond.selects RX2 yX2_total yX2_total, Cond.code yX2_total cX2_total 3 (some .int), Cond.methodLink RX2 19 yX2_at, Cond.methodLink RX5 198 yX5_with, Cond.static yX5_with, Cond.code yX5_with cX5_with 4 (some .long), Cond.constantLong RX5 208 (31)]
def wsX5_withUnit : List Cond := .code yX5_withUnit cX5_withUnit 7 (some .long) :: ((wsX5_withUnit_r1 ++ wsX5_withUnit_r2) ++ wsX50 ++ wsX40 ++ wsX20)
def wsX5_withFraction : List Cond := .code yX5_withFraction cX5_withFraction 8 (some .long) :: ([.methodLink RX5 135 yX5_inLowestTerms, .static yX5_inLowestTerms, .initialized RX5, .code yX5_inLowestTerms cX5_inLowestTerms 7 (some .long), .methodLink RX5 247 yX5_sharedDivisor, .static yX5_sharedDivisor, .code yX5_sharedDivisor cX5_sharedDivisor 11 (some .long), .methodLink RX5 250 Lib.MathLoose.abs_long.x, .static Lib.MathLoose.abs_long.x, .initialized "java/lang/Math", .code Lib.MathLoose.abs_long.x Lib.MathLoose.abs_long.code 2 (some .long), .methodLink RX5 198 yX5_with, .static yX5_with, .code yX5_with cX5_with 4 (some .long), .constantLong RX5 208 (31)])
def wsX5_withFit_r1 : List Cond := [Cond.fieldLink RX5 35 "RunoffOffice" "fit" "LRunoffOffice$Fit;", Cond.methodLink RX5 152 yX0_partAbove, Cond.instanceMethod yX0_partAbove, Cond.selects RX0 yX0_partAbove yX0_partAbove, Cond.initialized RX0, Cond.code yX0_partAbove cX0_partAbove 2 (some .long), Cond.fieldLink RX0 21 "RunoffOffice$Fit" "above" "[J", Cond.methodLink RX5 156 yX0_below, Cond.instanceMethod yX0_below, Cond.selects RX0 yX0_below yX0_below, Cond.code yX0_below cX0_below 1 (some .long), Cond.fieldLink RX0 27 "RunoffOffice$Fit" "below" "J", Cond.methodLink RX5 219 yX5_withFraction, Cond.static yX5_withFraction, Cond.initialized RX5, Cond.code yX5_withFraction cX5_withFraction 8 (some .long), Cond.methodLink RX5 135 yX5_inLowestTerms, Cond.static yX5_inLowestTerms, Cond.code yX5_inLowestTerms cX5_inLowestTerms 7 (some .long), Cond.methodLink RX5 247 yX5_sharedDivisor, Cond.static yX5_sharedDivisor, Cond.code yX5_sharedDivisor cX5_sharedDivisor 11 (some .long), Cond.methodLink RX5 250 Lib.MathLoose.abs_long.x, Cond.static Lib.MathLoose.abs_long.x]
def wsX5_withFit_r2 : List Cond := [Cond.initialized "java/lang/Math", Cond.code Lib.MathLoose.abs_long.x Lib.MathLoose.abs_long.code 2 (some .long), Cond.methodLink RX5 198 yX5_with, Cond.static yX5_with, Cond.code yX5_with cX5_with 4 (some .long), Cond.constantLong RX5 208 (31), Cond.methodLink RX5 160 yX0_lossAbove, Cond.instanceMethod yX0_lossAbove, Cond.selects RX0 yX0_lossAbove yX0_lossAbove, Cond.code yX0_lossAbove cX0_lossAbove 4 (some .long), Cond.fieldLink RX0 44 "RunoffOffice$Fit" "runoffSquares" "J", Cond.fieldLink RX0 40 "RunoffOffice$Fit" "size" "I", Cond.fieldLink RX0 15 "RunoffOffice$Fit" "rainByRunoff" "[J"]
def wsX5_withFit : List Cond := .code yX5_withFit cX5_withFit 7 (some .long) :: ((wsX5_withFit_r1 ++ wsX5_withFit_r2) ++ wsX50 ++ wsX00)
def wsX5_digest_r1 : List Cond := [Cond.constantLong RX5 185 (1619), Cond.fieldLink RX5 179 "RunoffOffice" "stormCount" "I", Cond.fieldLink RX5 169 "RunoffOffice" "unitCount" "I", Cond.fieldLink RX5 42 "RunoffOffice" "letterCount" "I", Cond.fieldLink RX5 9 "RunoffOffice" "page" "[I", Cond.methodLink RX5 187 yX5_withStorm, Cond.instanceMethod yX5_withStorm, Cond.selects RX5 yX5_withStorm yX5_withStorm, Cond.initialized RX5, Cond.code yX5_withStorm cX5_withStorm 7 (some .long), Cond.methodLink RX5 210 yX5_storm, Cond.instanceMethod yX5_storm, Cond.selects RX5 yX5_storm yX5_storm, Cond.code yX5_storm cX5_storm 4 (some .int), Cond.constant RX5 80 (-1000002), Cond.fieldLink RX5 15 "RunoffOffice" "heldStorms" "[LRunoffOffice$Storm;", Cond.fieldLink RX5 81 "RunoffOffice$Storm" "rain" "LRunoffOffice$Row;", Cond.fieldLink RX5 90 "RunoffOffice$Storm" "runoff" "LRunoffOffice$Row;", Cond.constant RX5 41 (-1000003), Cond.methodLink RX5 76 yX5_hasStorm, Cond.instanceMethod yX5_hasStorm, Cond.selects RX5 yX5_hasStorm yX5_hasStorm, Cond.code yX5_hasStorm cX5_hasStorm 2 (some .boolean), Cond.methodLink RX5 85 yX2_at]
def wsX5_digest_r2 : List Cond := [Cond.instanceMethod yX2_at, Cond.selects RX2 yX2_at yX2_at, Cond.initialized RX2, Cond.code yX2_at cX2_at 2 (some .int), Cond.fieldLink RX2 15 "RunoffOffice$Row" "size" "I", Cond.fieldLink RX2 9 "RunoffOffice$Row" "numbers" "[I", Cond.methodLink RX5 93 yX2_size, Cond.instanceMethod yX2_size, Cond.selects RX2 yX2_size yX2_size, Cond.code yX2_size cX2_size 1 (some .int), Cond.methodLink RX5 96 yX2_total, Cond.instanceMethod yX2_total, Cond.selects RX2 yX2_total yX2_total, Cond.code yX2_total cX2_total 3 (some .int), Cond.methodLink RX2 19 yX2_at, Cond.methodLink RX5 198 yX5_with, Cond.static yX5_with, Cond.code yX5_with cX5_with 4 (some .long), Cond.constantLong RX5 208 (31), Cond.methodLink RX5 213 yX5_divided, Cond.instanceMethod yX5_divided, Cond.selects RX5 yX5_divided yX5_divided, Cond.code yX5_divided cX5_divided 6 (some .int), Cond.constant RX5 102 (-1000001)]
def wsX5_digest_r3 : List Cond := [Cond.fieldLink RX5 103 "RunoffOffice$Storm" "quotient" "LRunoffOffice$Row;", Cond.methodLink RX5 99 yX3_goesEvenly, Cond.instanceMethod yX3_goesEvenly, Cond.selects RX3 yX3_goesEvenly yX3_goesEvenly, Cond.initialized RX3, Cond.code yX3_goesEvenly cX3_goesEvenly 1 (some .boolean), Cond.fieldLink RX3 24 "RunoffOffice$Storm" "evenly" "Z", Cond.methodLink RX5 191 yX5_withUnit, Cond.instanceMethod yX5_withUnit, Cond.selects RX5 yX5_withUnit yX5_withUnit, Cond.code yX5_withUnit cX5_withUnit 7 (some .long), Cond.methodLink RX5 216 yX5_unit, Cond.instanceMethod yX5_unit, Cond.selects RX5 yX5_unit yX5_unit, Cond.code yX5_unit cX5_unit 4 (some .int), Cond.fieldLink RX5 21 "RunoffOffice" "heldUnits" "[LRunoffOffice$Unit;", Cond.fieldLink RX5 109 "RunoffOffice$Unit" "parts" "LRunoffOffice$Row;", Cond.fieldLink RX5 112 "RunoffOffice$Unit" "length" "I", Cond.methodLink RX5 106 yX5_hasUnit, Cond.instanceMethod yX5_hasUnit, Cond.selects RX5 yX5_hasUnit yX5_hasUnit, Cond.code yX5_hasUnit cX5_hasUnit 2 (some .boolean), Cond.methodLink RX5 194 yX5_missed, Cond.instanceMethod yX5_missed]
def wsX5_digest_r4 : List Cond := [Cond.selects RX5 yX5_missed yX5_missed, Cond.code yX5_missed cX5_missed 3 (some .int), Cond.methodLink RX5 122 yX3_squaresMissed, Cond.instanceMethod yX3_squaresMissed, Cond.selects RX3 yX3_squaresMissed yX3_squaresMissed, Cond.code yX3_squaresMissed cX3_squaresMissed 5 (some .int), Cond.fieldLink RX3 18 "RunoffOffice$Storm" "runoff" "LRunoffOffice$Row;", Cond.methodLink RX3 39 yX3_rainTimes, Cond.instanceMethod yX3_rainTimes, Cond.selects RX3 yX3_rainTimes yX3_rainTimes, Cond.code yX3_rainTimes cX3_rainTimes 5 (some .int), Cond.fieldLink RX3 12 "RunoffOffice$Storm" "rain" "LRunoffOffice$Row;", Cond.methodLink RX3 35 yX2_at, Cond.methodLink RX5 148 yX5_fitStorms, Cond.instanceMethod yX5_fitStorms, Cond.selects RX5 yX5_fitStorms yX5_fitStorms, Cond.code yX5_fitStorms cX5_fitStorms 4 none, Cond.fieldLink RX5 35 "RunoffOffice" "fit" "LRunoffOffice$Fit;", Cond.methodLink RX5 236 yX0_begin, Cond.instanceMethod yX0_begin, Cond.selects RX0 yX0_begin yX0_begin, Cond.initialized RX0, Cond.code yX0_begin cX0_begin 3 none, Cond.methodLink RX0 31 Lib.Math.min.name]
def wsX5_digest_r5 : List Cond := [Cond.static Lib.Math.min.name, Cond.initialized "java/lang/Math", Cond.code Lib.Math.min.name Lib.Math.min.code 2 (some .int), Cond.methodLink RX0 37 Lib.Math.max.name, Cond.static Lib.Math.max.name, Cond.code Lib.Math.max.name Lib.Math.max.code 2 (some .int), Cond.fieldLink RX0 40 "RunoffOffice$Fit" "size" "I", Cond.fieldLink RX0 44 "RunoffOffice$Fit" "runoffSquares" "J", Cond.fieldLink RX0 9 "RunoffOffice$Fit" "rainByDistance" "[J", Cond.fieldLink RX0 15 "RunoffOffice$Fit" "rainByRunoff" "[J", Cond.methodLink RX5 240 yX0_add, Cond.instanceMethod yX0_add, Cond.selects RX0 yX0_add yX0_add, Cond.code yX0_add cX0_add 4 none, Cond.fieldLink RX0 47 "RunoffOffice$Storm" "runoff" "LRunoffOffice$Row;", Cond.fieldLink RX0 59 "RunoffOffice$Storm" "rain" "LRunoffOffice$Row;", Cond.methodLink RX0 53 yX2_at, Cond.methodLink RX5 244 yX0_settle, Cond.instanceMethod yX0_settle, Cond.selects RX0 yX0_settle yX0_settle, Cond.code yX0_settle cX0_settle 3 none, Cond.methodLink RX0 62 yX0_fitsWith, Cond.instanceMethod yX0_fitsWith, Cond.selects RX0 yX0_fitsWith yX0_fitsWith]
def wsX5_digest_r6 : List Cond := [Cond.code yX0_fitsWith cX0_fitsWith 4 (some .boolean), Cond.fieldLink RX0 27 "RunoffOffice$Fit" "below" "J", Cond.fieldLink RX0 21 "RunoffOffice$Fit" "above" "[J", Cond.fieldLink RX0 24 "RunoffOffice$Fit" "pressing" "[J", Cond.methodLink RX0 75 yX0_determinant, Cond.instanceMethod yX0_determinant, Cond.selects RX0 yX0_determinant yX0_determinant, Cond.code yX0_determinant cX0_determinant 5 (some .long), Cond.fieldLink RX0 18 "RunoffOffice$Fit" "matrix" "[J", Cond.methodLink RX0 90 yX0_entry, Cond.instanceMethod yX0_entry, Cond.selects RX0 yX0_entry yX0_entry, Cond.code yX0_entry cX0_entry 6 (some .long), Cond.methodLink RX0 87 Lib.Math.abs.name, Cond.static Lib.Math.abs.name, Cond.code Lib.Math.abs.name Lib.Math.abs.code 1 (some .int), Cond.methodLink RX0 79 yX0_isFree, Cond.static yX0_isFree, Cond.code yX0_isFree cX0_isFree 2 (some .boolean), Cond.methodLink RX0 94 yX0_minor, Cond.instanceMethod yX0_minor, Cond.selects RX0 yX0_minor yX0_minor, Cond.code yX0_minor cX0_minor 4 (some .long), Cond.methodLink RX0 83 yX0_pressOn]
def wsX5_digest_r7 : List Cond := [Cond.instanceMethod yX0_pressOn, Cond.selects RX0 yX0_pressOn yX0_pressOn, Cond.code yX0_pressOn cX0_pressOn 5 (some .long), Cond.methodLink RX5 202 yX5_withFit, Cond.instanceMethod yX5_withFit, Cond.selects RX5 yX5_withFit yX5_withFit, Cond.code yX5_withFit cX5_withFit 7 (some .long), Cond.methodLink RX5 152 yX0_partAbove, Cond.instanceMethod yX0_partAbove, Cond.selects RX0 yX0_partAbove yX0_partAbove, Cond.code yX0_partAbove cX0_partAbove 2 (some .long), Cond.methodLink RX5 156 yX0_below, Cond.instanceMethod yX0_below, Cond.selects RX0 yX0_below yX0_below, Cond.code yX0_below cX0_below 1 (some .long), Cond.methodLink RX5 219 yX5_withFraction, Cond.static yX5_withFraction, Cond.code yX5_withFraction cX5_withFraction 8 (some .long), Cond.methodLink RX5 135 yX5_inLowestTerms, Cond.static yX5_inLowestTerms, Cond.code yX5_inLowestTerms cX5_inLowestTerms 7 (some .long), Cond.methodLink RX5 247 yX5_sharedDivisor, Cond.static yX5_sharedDivisor, Cond.code yX5_sharedDivisor cX5_sharedDivisor 11 (some .long)]
def wsX5_digest_r8 : List Cond := [Cond.methodLink RX5 250 Lib.MathLoose.abs_long.x, Cond.static Lib.MathLoose.abs_long.x, Cond.code Lib.MathLoose.abs_long.x Lib.MathLoose.abs_long.code 2 (some .long), Cond.methodLink RX5 160 yX0_lossAbove, Cond.instanceMethod yX0_lossAbove, Cond.selects RX0 yX0_lossAbove yX0_lossAbove, Cond.code yX0_lossAbove cX0_lossAbove 4 (some .long), Cond.methodLink RX5 205 yX5_count, Cond.instanceMethod yX5_count, Cond.selects RX5 yX5_count yX5_count, Cond.code yX5_count cX5_count 2 (some .int), Cond.fieldLink RX5 66 "RunoffOffice" "cameAsTexts" "I", Cond.fieldLink RX5 182 "RunoffOffice" "went" "I", Cond.fieldLink RX5 176 "RunoffOffice" "kept" "I"]
def wsX5_digest : List Cond := .code yX5_digest cX5_digest 5 (some .long) :: ((wsX5_digest_r1 ++ (wsX5_digest_r2 ++ (wsX5_digest_r3 ++ (wsX5_digest_r4 ++ (wsX5_digest_r5 ++ (wsX5_digest_r6 ++ (wsX5_digest_r7 ++ wsX5_digest_r8))))))) ++ wsX50 ++ wsX30 ++ wsX20 ++ wsX40 ++ wsX00)
def wsX6_init : List Cond := .code yX6_init cX6_init 1 none :: ([.methodLink RX6 1 objectInit, .instanceMethod objectInit, .code objectInit ⟨#[0xb1]⟩ 1 none, .arrayClass .int, .fieldLink RX6 7 "RunoffOfficeModel" "page" "[I", .fieldLink RX6 13 "RunoffOfficeModel" "rainMany" "[I", .fieldLink RX6 16 "RunoffOfficeModel" "rains" "[I", .fieldLink RX6 19 "RunoffOfficeModel" "runoffMany" "[I", .fieldLink RX6 22 "RunoffOfficeModel" "runoffs" "[I", .fieldLink RX6 25 "RunoffOfficeModel" "lengthOf" "[I", .fieldLink RX6 28 "RunoffOfficeModel" "partMany" "[I", .fieldLink RX6 31 "RunoffOfficeModel" "parts" "[I", .fieldLink RX6 34 "RunoffOfficeModel" "newRain" "[I", .fieldLink RX6 37 "RunoffOfficeModel" "newRow" "[I", .fieldLink RX6 40 "RunoffOfficeModel" "row" "[I", .arrayClass .long, .fieldLink RX6 43 "RunoffOfficeModel" "rainBy" "[J", .fieldLink RX6 47 "RunoffOfficeModel" "runoffBy" "[J", .fieldLink RX6 50 "RunoffOfficeModel" "square" "[J", .fieldLink RX6 53 "RunoffOfficeModel" "freeAt" "[I", .fieldLink RX6 56 "RunoffOfficeModel" "above" "[J"] ++ wsX60)
def wsX6_within : List Cond := .code yX6_within cX6_within 3 (some .boolean) :: ([])
def wsX6_letter : List Cond := .code yX6_letter cX6_letter 2 (some .int) :: ([.constant RX6 63 (-1000003), .fieldLink RX6 64 "RunoffOfficeModel" "pageLength" "I", .constant RX6 68 (-1000005), .fieldLink RX6 7 "RunoffOfficeModel" "page" "[I", .methodLink RX6 59 yX6_within, .static yX6_within, .initialized RX6, .code yX6_within cX6_within 3 (some .boolean)] ++ wsX60)
def wsX6_blank : List Cond := .code yX6_blank cX6_blank 2 (some .int) :: ([.fieldLink RX6 64 "RunoffOfficeModel" "pageLength" "I"] ++ wsX60)
def wsX6_goesTo : List Cond := .code yX6_goesTo cX6_goesTo 2 (some .boolean) :: ([.fieldLink RX6 69 "RunoffOfficeModel" "reads" "I", .fieldLink RX6 72 "RunoffOfficeModel" "figures" "I", .fieldLink RX6 75 "RunoffOfficeModel" "number" "I"] ++ wsX60)
def wsX6_begins : List Cond := .code yX6_begins cX6_begins 2 (some .boolean) :: ([.fieldLink RX6 78 "RunoffOfficeModel" "isUnit" "Z", .fieldLink RX6 82 "RunoffOfficeModel" "newRains" "I", .fieldLink RX6 85 "RunoffOfficeModel" "newRows" "I", .methodLink RX6 88 yX6_goesTo, .instanceMethod yX6_goesTo, .selects RX6 yX6_goesTo yX6_goesTo, .initialized RX6, .code yX6_goesTo cX6_goesTo 2 (some .boolean), .fieldLink RX6 69 "RunoffOfficeModel" "reads" "I", .fieldLink RX6 72 "RunoffOfficeModel" "figures" "I", .fieldLink RX6 75 "RunoffOfficeModel" "number" "I"] ++ wsX60)
def wsX6_takesFigure : List Cond := .code yX6_takesFigure cX6_takesFigure 5 (some .boolean) :: ([.fieldLink RX6 69 "RunoffOfficeModel" "reads" "I", .fieldLink RX6 82 "RunoffOfficeModel" "newRains" "I", .fieldLink RX6 72 "RunoffOfficeModel" "figures" "I", .fieldLink RX6 75 "RunoffOfficeModel" "number" "I"] ++ wsX60)
def wsX6_keepNumber : List Cond := .code yX6_keepNumber cX6_keepNumber 1 none :: ([.fieldLink RX6 69 "RunoffOfficeModel" "reads" "I", .fieldLink RX6 34 "RunoffOfficeModel" "newRain" "[I", .fieldLink RX6 82 "RunoffOfficeModel" "newRains" "I", .fieldLink RX6 75 "RunoffOfficeModel" "number" "I", .fieldLink RX6 37 "RunoffOfficeModel" "newRow" "[I", .fieldLink RX6 85 "RunoffOfficeModel" "newRows" "I"] ++ wsX60)
def wsX6_takesInRow : List Cond := .code yX6_takesInRow cX6_takesInRow 5 (some .boolean) :: ([.fieldLink RX6 69 "RunoffOfficeModel" "reads" "I", .fieldLink RX6 82 "RunoffOfficeModel" "newRains" "I", .fieldLink RX6 85 "RunoffOfficeModel" "newRows" "I", .fieldLink RX6 72 "RunoffOfficeModel" "figures" "I", .methodLink RX6 59 yX6_within, .static yX6_within, .initialized RX6, .code yX6_within cX6_within 3 (some .boolean), .methodLink RX6 92 yX6_takesFigure, .instanceMethod yX6_takesFigure, .selects RX6 yX6_takesFigure yX6_takesFigure, .code yX6_takesFigure cX6_takesFigure 5 (some .boolean), .fieldLink RX6 75 "RunoffOfficeModel" "number" "I", .methodLink RX6 95 yX6_keepNumber, .instanceMethod yX6_keepNumber, .selects RX6 yX6_keepNumber yX6_keepNumber, .code yX6_keepNumber cX6_keepNumber 1 none, .fieldLink RX6 34 "RunoffOfficeModel" "newRain" "[I", .fieldLink RX6 37 "RunoffOfficeModel" "newRow" "[I", .methodLink RX6 88 yX6_goesTo, .instanceMethod yX6_goesTo, .selects RX6 yX6_goesTo yX6_goesTo, .code yX6_goesTo cX6_goesTo 2 (some .boolean)] ++ wsX60)
def wsX6_takes_r1 : List Cond := [Cond.fieldLink RX6 69 "RunoffOfficeModel" "reads" "I", Cond.fieldLink RX6 101 "RunoffOfficeModel" "newLength" "I", Cond.methodLink RX6 98 yX6_begins, Cond.instanceMethod yX6_begins, Cond.selects RX6 yX6_begins yX6_begins, Cond.initialized RX6, Cond.code yX6_begins cX6_begins 2 (some .boolean), Cond.fieldLink RX6 78 "RunoffOfficeModel" "isUnit" "Z", Cond.fieldLink RX6 82 "RunoffOfficeModel" "newRains" "I", Cond.fieldLink RX6 85 "RunoffOfficeModel" "newRows" "I", Cond.methodLink RX6 88 yX6_goesTo, Cond.instanceMethod yX6_goesTo, Cond.selects RX6 yX6_goesTo yX6_goesTo, Cond.code yX6_goesTo cX6_goesTo 2 (some .boolean), Cond.fieldLink RX6 72 "RunoffOfficeModel" "figures" "I", Cond.fieldLink RX6 75 "RunoffOfficeModel" "number" "I", Cond.methodLink RX6 59 yX6_within, Cond.static yX6_within, Cond.code yX6_within cX6_within 3 (some .boolean), Cond.methodLink RX6 104 yX6_takesInRow, Cond.instanceMethod yX6_takesInRow, Cond.selects RX6 yX6_takesInRow yX6_takesInRow, Cond.code yX6_takesInRow cX6_takesInRow 5 (some .boolean), Cond.methodLink RX6 92 yX6_takesFigure]
def wsX6_takes_r2 : List Cond := [Cond.instanceMethod yX6_takesFigure, Cond.selects RX6 yX6_takesFigure yX6_takesFigure, Cond.code yX6_takesFigure cX6_takesFigure 5 (some .boolean), Cond.methodLink RX6 95 yX6_keepNumber, Cond.instanceMethod yX6_keepNumber, Cond.selects RX6 yX6_keepNumber yX6_keepNumber, Cond.code yX6_keepNumber cX6_keepNumber 1 none, Cond.fieldLink RX6 34 "RunoffOfficeModel" "newRain" "[I", Cond.fieldLink RX6 37 "RunoffOfficeModel" "newRow" "[I"]
def wsX6_takes : List Cond := .code yX6_takes cX6_takes 2 (some .boolean) :: ((wsX6_takes_r1 ++ wsX6_takes_r2) ++ wsX60)
def wsX6_goAlong_r1 : List Cond := [Cond.fieldLink RX6 64 "RunoffOfficeModel" "pageLength" "I", Cond.fieldLink RX6 7 "RunoffOfficeModel" "page" "[I", Cond.methodLink RX6 88 yX6_goesTo, Cond.instanceMethod yX6_goesTo, Cond.selects RX6 yX6_goesTo yX6_goesTo, Cond.initialized RX6, Cond.code yX6_goesTo cX6_goesTo 2 (some .boolean), Cond.fieldLink RX6 69 "RunoffOfficeModel" "reads" "I", Cond.fieldLink RX6 72 "RunoffOfficeModel" "figures" "I", Cond.fieldLink RX6 75 "RunoffOfficeModel" "number" "I", Cond.methodLink RX6 107 yX6_takes, Cond.instanceMethod yX6_takes, Cond.selects RX6 yX6_takes yX6_takes, Cond.code yX6_takes cX6_takes 2 (some .boolean), Cond.fieldLink RX6 101 "RunoffOfficeModel" "newLength" "I", Cond.methodLink RX6 98 yX6_begins, Cond.instanceMethod yX6_begins, Cond.selects RX6 yX6_begins yX6_begins, Cond.code yX6_begins cX6_begins 2 (some .boolean), Cond.fieldLink RX6 78 "RunoffOfficeModel" "isUnit" "Z", Cond.fieldLink RX6 82 "RunoffOfficeModel" "newRains" "I", Cond.fieldLink RX6 85 "RunoffOfficeModel" "newRows" "I", Cond.methodLink RX6 59 yX6_within, Cond.static yX6_within]
def wsX6_goAlong_r2 : List Cond := [Cond.code yX6_within cX6_within 3 (some .boolean), Cond.methodLink RX6 104 yX6_takesInRow, Cond.instanceMethod yX6_takesInRow, Cond.selects RX6 yX6_takesInRow yX6_takesInRow, Cond.code yX6_takesInRow cX6_takesInRow 5 (some .boolean), Cond.methodLink RX6 92 yX6_takesFigure, Cond.instanceMethod yX6_takesFigure, Cond.selects RX6 yX6_takesFigure yX6_takesFigure, Cond.code yX6_takesFigure cX6_takesFigure 5 (some .boolean), Cond.methodLink RX6 95 yX6_keepNumber, Cond.instanceMethod yX6_keepNumber, Cond.selects RX6 yX6_keepNumber yX6_keepNumber, Cond.code yX6_keepNumber cX6_keepNumber 1 none, Cond.fieldLink RX6 34 "RunoffOfficeModel" "newRain" "[I", Cond.fieldLink RX6 37 "RunoffOfficeModel" "newRow" "[I"]
def wsX6_goAlong : List Cond := .code yX6_goAlong cX6_goAlong 2 (some .int) :: ((wsX6_goAlong_r1 ++ wsX6_goAlong_r2) ++ wsX60)
def wsX6_fault_r1 : List Cond := [Cond.methodLink RX6 110 yX6_goAlong, Cond.instanceMethod yX6_goAlong, Cond.selects RX6 yX6_goAlong yX6_goAlong, Cond.initialized RX6, Cond.code yX6_goAlong cX6_goAlong 2 (some .int), Cond.fieldLink RX6 64 "RunoffOfficeModel" "pageLength" "I", Cond.fieldLink RX6 7 "RunoffOfficeModel" "page" "[I", Cond.methodLink RX6 88 yX6_goesTo, Cond.instanceMethod yX6_goesTo, Cond.selects RX6 yX6_goesTo yX6_goesTo, Cond.code yX6_goesTo cX6_goesTo 2 (some .boolean), Cond.fieldLink RX6 69 "RunoffOfficeModel" "reads" "I", Cond.fieldLink RX6 72 "RunoffOfficeModel" "figures" "I", Cond.fieldLink RX6 75 "RunoffOfficeModel" "number" "I", Cond.methodLink RX6 107 yX6_takes, Cond.instanceMethod yX6_takes, Cond.selects RX6 yX6_takes yX6_takes, Cond.code yX6_takes cX6_takes 2 (some .boolean), Cond.fieldLink RX6 101 "RunoffOfficeModel" "newLength" "I", Cond.methodLink RX6 98 yX6_begins, Cond.instanceMethod yX6_begins, Cond.selects RX6 yX6_begins yX6_begins, Cond.code yX6_begins cX6_begins 2 (some .boolean), Cond.fieldLink RX6 78 "RunoffOfficeModel" "isUnit" "Z"]
def wsX6_fault_r2 : List Cond := [Cond.fieldLink RX6 82 "RunoffOfficeModel" "newRains" "I", Cond.fieldLink RX6 85 "RunoffOfficeModel" "newRows" "I", Cond.methodLink RX6 59 yX6_within, Cond.static yX6_within, Cond.code yX6_within cX6_within 3 (some .boolean), Cond.methodLink RX6 104 yX6_takesInRow, Cond.instanceMethod yX6_takesInRow, Cond.selects RX6 yX6_takesInRow yX6_takesInRow, Cond.code yX6_takesInRow cX6_takesInRow 5 (some .boolean), Cond.methodLink RX6 92 yX6_takesFigure, Cond.instanceMethod yX6_takesFigure, Cond.selects RX6 yX6_takesFigure yX6_takesFigure, Cond.code yX6_takesFigure cX6_takesFigure 5 (some .boolean), Cond.methodLink RX6 95 yX6_keepNumber, Cond.instanceMethod yX6_keepNumber, Cond.selects RX6 yX6_keepNumber yX6_keepNumber, Cond.code yX6_keepNumber cX6_keepNumber 1 none, Cond.fieldLink RX6 34 "RunoffOfficeModel" "newRain" "[I", Cond.fieldLink RX6 37 "RunoffOfficeModel" "newRow" "[I"]
def wsX6_fault : List Cond := .code yX6_fault cX6_fault 1 (some .int) :: ((wsX6_fault_r1 ++ wsX6_fault_r2) ++ wsX60)
def wsX6_takeStorm : List Cond := .code yX6_takeStorm cX6_takeStorm 2 (some .int) :: ([.fieldLink RX6 13 "RunoffOfficeModel" "rainMany" "[I", .fieldLink RX6 114 "RunoffOfficeModel" "storms" "I", .fieldLink RX6 82 "RunoffOfficeModel" "newRains" "I", .fieldLink RX6 19 "RunoffOfficeModel" "runoffMany" "[I", .fieldLink RX6 85 "RunoffOfficeModel" "newRows" "I", .fieldLink RX6 16 "RunoffOfficeModel" "rains" "[I", .fieldLink RX6 34 "RunoffOfficeModel" "newRain" "[I", .fieldLink RX6 22 "RunoffOfficeModel" "runoffs" "[I", .fieldLink RX6 37 "RunoffOfficeModel" "newRow" "[I"] ++ wsX60)
def wsX6_takeUnit : List Cond := .code yX6_takeUnit cX6_takeUnit 2 (some .int) :: ([.fieldLink RX6 25 "RunoffOfficeModel" "lengthOf" "[I", .fieldLink RX6 117 "RunoffOfficeModel" "units" "I", .fieldLink RX6 101 "RunoffOfficeModel" "newLength" "I", .fieldLink RX6 28 "RunoffOfficeModel" "partMany" "[I", .fieldLink RX6 85 "RunoffOfficeModel" "newRows" "I", .fieldLink RX6 31 "RunoffOfficeModel" "parts" "[I", .fieldLink RX6 37 "RunoffOfficeModel" "newRow" "[I"] ++ wsX60)
def wsX6_take_r1 : List Cond := [Cond.fieldLink RX6 64 "RunoffOfficeModel" "pageLength" "I", Cond.fieldLink RX6 69 "RunoffOfficeModel" "reads" "I", Cond.fieldLink RX6 72 "RunoffOfficeModel" "figures" "I", Cond.constant RX6 120 (-1000004), Cond.fieldLink RX6 78 "RunoffOfficeModel" "isUnit" "Z", Cond.fieldLink RX6 117 "RunoffOfficeModel" "units" "I", Cond.fieldLink RX6 114 "RunoffOfficeModel" "storms" "I", Cond.constant RX6 68 (-1000005), Cond.fieldLink RX6 121 "RunoffOfficeModel" "cameEver" "I", Cond.methodLink RX6 110 yX6_goAlong, Cond.instanceMethod yX6_goAlong, Cond.selects RX6 yX6_goAlong yX6_goAlong, Cond.initialized RX6, Cond.code yX6_goAlong cX6_goAlong 2 (some .int), Cond.fieldLink RX6 7 "RunoffOfficeModel" "page" "[I", Cond.methodLink RX6 88 yX6_goesTo, Cond.instanceMethod yX6_goesTo, Cond.selects RX6 yX6_goesTo yX6_goesTo, Cond.code yX6_goesTo cX6_goesTo 2 (some .boolean), Cond.fieldLink RX6 75 "RunoffOfficeModel" "number" "I", Cond.methodLink RX6 107 yX6_takes, Cond.instanceMethod yX6_takes, Cond.selects RX6 yX6_takes yX6_takes, Cond.code yX6_takes cX6_takes 2 (some .boolean)]
def wsX6_take_r2 : List Cond := [Cond.fieldLink RX6 101 "RunoffOfficeModel" "newLength" "I", Cond.methodLink RX6 98 yX6_begins, Cond.instanceMethod yX6_begins, Cond.selects RX6 yX6_begins yX6_begins, Cond.code yX6_begins cX6_begins 2 (some .boolean), Cond.fieldLink RX6 82 "RunoffOfficeModel" "newRains" "I", Cond.fieldLink RX6 85 "RunoffOfficeModel" "newRows" "I", Cond.methodLink RX6 59 yX6_within, Cond.static yX6_within, Cond.code yX6_within cX6_within 3 (some .boolean), Cond.methodLink RX6 104 yX6_takesInRow, Cond.instanceMethod yX6_takesInRow, Cond.selects RX6 yX6_takesInRow yX6_takesInRow, Cond.code yX6_takesInRow cX6_takesInRow 5 (some .boolean), Cond.methodLink RX6 92 yX6_takesFigure, Cond.instanceMethod yX6_takesFigure, Cond.selects RX6 yX6_takesFigure yX6_takesFigure, Cond.code yX6_takesFigure cX6_takesFigure 5 (some .boolean), Cond.methodLink RX6 95 yX6_keepNumber, Cond.instanceMethod yX6_keepNumber, Cond.selects RX6 yX6_keepNumber yX6_keepNumber, Cond.code yX6_keepNumber cX6_keepNumber 1 none, Cond.fieldLink RX6 34 "RunoffOfficeModel" "newRain" "[I", Cond.fieldLink RX6 37 "RunoffOfficeModel" "newRow" "[I"]
def wsX6_take_r3 : List Cond := [Cond.methodLink RX6 124 yX6_takeUnit, Cond.instanceMethod yX6_takeUnit, Cond.selects RX6 yX6_takeUnit yX6_takeUnit, Cond.code yX6_takeUnit cX6_takeUnit 2 (some .int), Cond.fieldLink RX6 25 "RunoffOfficeModel" "lengthOf" "[I", Cond.fieldLink RX6 28 "RunoffOfficeModel" "partMany" "[I", Cond.fieldLink RX6 31 "RunoffOfficeModel" "parts" "[I", Cond.methodLink RX6 127 yX6_takeStorm, Cond.instanceMethod yX6_takeStorm, Cond.selects RX6 yX6_takeStorm yX6_takeStorm, Cond.code yX6_takeStorm cX6_takeStorm 2 (some .int), Cond.fieldLink RX6 13 "RunoffOfficeModel" "rainMany" "[I", Cond.fieldLink RX6 19 "RunoffOfficeModel" "runoffMany" "[I", Cond.fieldLink RX6 16 "RunoffOfficeModel" "rains" "[I", Cond.fieldLink RX6 22 "RunoffOfficeModel" "runoffs" "[I"]
def wsX6_take : List Cond := .code yX6_take cX6_take 1 (some .int) :: ((wsX6_take_r1 ++ (wsX6_take_r2 ++ wsX6_take_r3)) ++ wsX60)
def wsX6_dropStorm : List Cond := .code yX6_dropStorm cX6_dropStorm 4 (some .int) :: ([.fieldLink RX6 114 "RunoffOfficeModel" "storms" "I", .fieldLink RX6 13 "RunoffOfficeModel" "rainMany" "[I", .fieldLink RX6 19 "RunoffOfficeModel" "runoffMany" "[I", .fieldLink RX6 16 "RunoffOfficeModel" "rains" "[I", .fieldLink RX6 22 "RunoffOfficeModel" "runoffs" "[I"] ++ wsX60)
def wsX6_dropUnit : List Cond := .code yX6_dropUnit cX6_dropUnit 4 (some .int) :: ([.fieldLink RX6 117 "RunoffOfficeModel" "units" "I", .fieldLink RX6 25 "RunoffOfficeModel" "lengthOf" "[I", .fieldLink RX6 28 "RunoffOfficeModel" "partMany" "[I", .fieldLink RX6 31 "RunoffOfficeModel" "parts" "[I"] ++ wsX60)
def wsX6_isStorm : List Cond := .code yX6_isStorm cX6_isStorm 2 (some .boolean) :: ([.fieldLink RX6 114 "RunoffOfficeModel" "storms" "I", .methodLink RX6 59 yX6_within, .static yX6_within, .initialized RX6, .code yX6_within cX6_within 3 (some .boolean)] ++ wsX60)
def wsX6_isUnitThere : List Cond := .code yX6_isUnitThere cX6_isUnitThere 2 (some .boolean) :: ([.fieldLink RX6 117 "RunoffOfficeModel" "units" "I", .methodLink RX6 59 yX6_within, .static yX6_within, .initialized RX6, .code yX6_within cX6_within 3 (some .boolean)] ++ wsX60)
def wsX6_drop_r1 : List Cond := [Cond.constant RX6 136 (-1000002), Cond.fieldLink RX6 137 "RunoffOfficeModel" "wentEver" "I", Cond.methodLink RX6 130 yX6_isUnitThere, Cond.instanceMethod yX6_isUnitThere, Cond.selects RX6 yX6_isUnitThere yX6_isUnitThere, Cond.initialized RX6, Cond.code yX6_isUnitThere cX6_isUnitThere 2 (some .boolean), Cond.fieldLink RX6 117 "RunoffOfficeModel" "units" "I", Cond.methodLink RX6 59 yX6_within, Cond.static yX6_within, Cond.code yX6_within cX6_within 3 (some .boolean), Cond.methodLink RX6 133 yX6_isStorm, Cond.instanceMethod yX6_isStorm, Cond.selects RX6 yX6_isStorm yX6_isStorm, Cond.code yX6_isStorm cX6_isStorm 2 (some .boolean), Cond.fieldLink RX6 114 "RunoffOfficeModel" "storms" "I", Cond.methodLink RX6 140 yX6_dropUnit, Cond.instanceMethod yX6_dropUnit, Cond.selects RX6 yX6_dropUnit yX6_dropUnit, Cond.code yX6_dropUnit cX6_dropUnit 4 (some .int), Cond.fieldLink RX6 25 "RunoffOfficeModel" "lengthOf" "[I", Cond.fieldLink RX6 28 "RunoffOfficeModel" "partMany" "[I", Cond.fieldLink RX6 31 "RunoffOfficeModel" "parts" "[I", Cond.methodLink RX6 144 yX6_dropStorm]
def wsX6_drop_r2 : List Cond := [Cond.instanceMethod yX6_dropStorm, Cond.selects RX6 yX6_dropStorm yX6_dropStorm, Cond.code yX6_dropStorm cX6_dropStorm 4 (some .int), Cond.fieldLink RX6 13 "RunoffOfficeModel" "rainMany" "[I", Cond.fieldLink RX6 19 "RunoffOfficeModel" "runoffMany" "[I", Cond.fieldLink RX6 16 "RunoffOfficeModel" "rains" "[I", Cond.fieldLink RX6 22 "RunoffOfficeModel" "runoffs" "[I"]
def wsX6_drop : List Cond := .code yX6_drop cX6_drop 3 (some .int) :: ((wsX6_drop_r1 ++ wsX6_drop_r2) ++ wsX60)
def wsX6_rainAt : List Cond := .code yX6_rainAt cX6_rainAt 3 (some .int) :: ([.fieldLink RX6 16 "RunoffOfficeModel" "rains" "[I", .methodLink RX6 59 yX6_within, .static yX6_within, .initialized RX6, .code yX6_within cX6_within 3 (some .boolean)] ++ wsX60)
def wsX6_runoffAt : List Cond := .code yX6_runoffAt cX6_runoffAt 3 (some .int) :: ([.fieldLink RX6 22 "RunoffOfficeModel" "runoffs" "[I", .methodLink RX6 59 yX6_within, .static yX6_within, .initialized RX6, .code yX6_within cX6_within 3 (some .boolean)] ++ wsX60)
def wsX6_rainAll : List Cond := .code yX6_rainAll cX6_rainAll 2 (some .int) :: ([.methodLink RX6 147 yX6_rainAt, .instanceMethod yX6_rainAt, .selects RX6 yX6_rainAt yX6_rainAt, .initialized RX6, .code yX6_rainAt cX6_rainAt 3 (some .int), .fieldLink RX6 16 "RunoffOfficeModel" "rains" "[I", .methodLink RX6 59 yX6_within, .static yX6_within, .code yX6_within cX6_within 3 (some .boolean)] ++ wsX60)
def wsX6_runoffAll : List Cond := .code yX6_runoffAll cX6_runoffAll 4 (some .int) :: ([.methodLink RX6 151 yX6_runoffAt, .instanceMethod yX6_runoffAt, .selects RX6 yX6_runoffAt yX6_runoffAt, .initialized RX6, .code yX6_runoffAt cX6_runoffAt 3 (some .int), .fieldLink RX6 22 "RunoffOfficeModel" "runoffs" "[I", .methodLink RX6 59 yX6_within, .static yX6_within, .code yX6_within cX6_within 3 (some .boolean)] ++ wsX60)
def wsX6_stormNow : List Cond := .code yX6_stormNow cX6_stormNow 3 (some .int) :: ([.fieldLink RX6 13 "RunoffOfficeModel" "rainMany" "[I", .fieldLink RX6 19 "RunoffOfficeModel" "runoffMany" "[I", .methodLink RX6 154 yX6_rainAll, .instanceMethod yX6_rainAll, .selects RX6 yX6_rainAll yX6_rainAll, .initialized RX6, .code yX6_rainAll cX6_rainAll 2 (some .int), .methodLink RX6 147 yX6_rainAt, .instanceMethod yX6_rainAt, .selects RX6 yX6_rainAt yX6_rainAt, .code yX6_rainAt cX6_rainAt 3 (some .int), .fieldLink RX6 16 "RunoffOfficeModel" "rains" "[I", .methodLink RX6 59 yX6_within, .static yX6_within, .code yX6_within cX6_within 3 (some .boolean), .methodLink RX6 157 yX6_runoffAll, .instanceMethod yX6_runoffAll, .selects RX6 yX6_runoffAll yX6_runoffAll, .code yX6_runoffAll cX6_runoffAll 4 (some .int), .methodLink RX6 151 yX6_runoffAt, .instanceMethod yX6_runoffAt, .selects RX6 yX6_runoffAt yX6_runoffAt, .code yX6_runoffAt cX6_runoffAt 3 (some .int), .fieldLink RX6 22 "RunoffOfficeModel" "runoffs" "[I"] ++ wsX60)
def wsX6_storm_r1 : List Cond := [Cond.constant RX6 136 (-1000002), Cond.constant RX6 63 (-1000003), Cond.methodLink RX6 133 yX6_isStorm, Cond.instanceMethod yX6_isStorm, Cond.selects RX6 yX6_isStorm yX6_isStorm, Cond.initialized RX6, Cond.code yX6_isStorm cX6_isStorm 2 (some .boolean), Cond.fieldLink RX6 114 "RunoffOfficeModel" "storms" "I", Cond.methodLink RX6 59 yX6_within, Cond.static yX6_within, Cond.code yX6_within cX6_within 3 (some .boolean), Cond.methodLink RX6 160 yX6_stormNow, Cond.instanceMethod yX6_stormNow, Cond.selects RX6 yX6_stormNow yX6_stormNow, Cond.code yX6_stormNow cX6_stormNow 3 (some .int), Cond.fieldLink RX6 13 "RunoffOfficeModel" "rainMany" "[I", Cond.fieldLink RX6 19 "RunoffOfficeModel" "runoffMany" "[I", Cond.methodLink RX6 154 yX6_rainAll, Cond.instanceMethod yX6_rainAll, Cond.selects RX6 yX6_rainAll yX6_rainAll, Cond.code yX6_rainAll cX6_rainAll 2 (some .int), Cond.methodLink RX6 147 yX6_rainAt, Cond.instanceMethod yX6_rainAt, Cond.selects RX6 yX6_rainAt yX6_rainAt]
def wsX6_storm_r2 : List Cond := [Cond.code yX6_rainAt cX6_rainAt 3 (some .int), Cond.fieldLink RX6 16 "RunoffOfficeModel" "rains" "[I", Cond.methodLink RX6 157 yX6_runoffAll, Cond.instanceMethod yX6_runoffAll, Cond.selects RX6 yX6_runoffAll yX6_runoffAll, Cond.code yX6_runoffAll cX6_runoffAll 4 (some .int), Cond.methodLink RX6 151 yX6_runoffAt, Cond.instanceMethod yX6_runoffAt, Cond.selects RX6 yX6_runoffAt yX6_runoffAt, Cond.code yX6_runoffAt cX6_runoffAt 3 (some .int), Cond.fieldLink RX6 22 "RunoffOfficeModel" "runoffs" "[I"]
def wsX6_storm : List Cond := .code yX6_storm cX6_storm 4 (some .int) :: ((wsX6_storm_r1 ++ wsX6_storm_r2) ++ wsX60)
def wsX6_isDivided : List Cond := .code yX6_isDivided cX6_isDivided 5 (some .boolean) :: ([.fieldLink RX6 19 "RunoffOfficeModel" "runoffMany" "[I", .fieldLink RX6 13 "RunoffOfficeModel" "rainMany" "[I", .fieldLink RX6 163 "RunoffOfficeModel" "rowMany" "I", .fieldLink RX6 40 "RunoffOfficeModel" "row" "[I", .methodLink RX6 151 yX6_runoffAt, .instanceMethod yX6_runoffAt, .selects RX6 yX6_runoffAt yX6_runoffAt, .initialized RX6, .code yX6_runoffAt cX6_runoffAt 3 (some .int), .fieldLink RX6 22 "RunoffOfficeModel" "runoffs" "[I", .methodLink RX6 59 yX6_within, .static yX6_within, .code yX6_within cX6_within 3 (some .boolean), .methodLink RX6 147 yX6_rainAt, .instanceMethod yX6_rainAt, .selects RX6 yX6_rainAt yX6_rainAt, .code yX6_rainAt cX6_rainAt 3 (some .int), .fieldLink RX6 16 "RunoffOfficeModel" "rains" "[I"] ++ wsX60)
def wsX6_dividedNow : List Cond := .code yX6_dividedNow cX6_dividedNow 3 (some .int) :: ([.constant RX6 169 (-1000001), .fieldLink RX6 163 "RunoffOfficeModel" "rowMany" "I", .fieldLink RX6 40 "RunoffOfficeModel" "row" "[I", .methodLink RX6 166 yX6_isDivided, .instanceMethod yX6_isDivided, .selects RX6 yX6_isDivided yX6_isDivided, .initialized RX6, .code yX6_isDivided cX6_isDivided 5 (some .boolean), .fieldLink RX6 19 "RunoffOfficeModel" "runoffMany" "[I", .fieldLink RX6 13 "RunoffOfficeModel" "rainMany" "[I", .methodLink RX6 151 yX6_runoffAt, .instanceMethod yX6_runoffAt, .selects RX6 yX6_runoffAt yX6_runoffAt, .code yX6_runoffAt cX6_runoffAt 3 (some .int), .fieldLink RX6 22 "RunoffOfficeModel" "runoffs" "[I", .methodLink RX6 59 yX6_within, .static yX6_within, .code yX6_within cX6_within 3 (some .boolean), .methodLink RX6 147 yX6_rainAt, .instanceMethod yX6_rainAt, .selects RX6 yX6_rainAt yX6_rainAt, .code yX6_rainAt cX6_rainAt 3 (some .int), .fieldLink RX6 16 "RunoffOfficeModel" "rains" "[I"] ++ wsX60)
def wsX6_divided_r1 : List Cond := [Cond.constant RX6 136 (-1000002), Cond.constant RX6 63 (-1000003), Cond.methodLink RX6 133 yX6_isStorm, Cond.instanceMethod yX6_isStorm, Cond.selects RX6 yX6_isStorm yX6_isStorm, Cond.initialized RX6, Cond.code yX6_isStorm cX6_isStorm 2 (some .boolean), Cond.fieldLink RX6 114 "RunoffOfficeModel" "storms" "I", Cond.methodLink RX6 59 yX6_within, Cond.static yX6_within, Cond.code yX6_within cX6_within 3 (some .boolean), Cond.methodLink RX6 170 yX6_dividedNow, Cond.instanceMethod yX6_dividedNow, Cond.selects RX6 yX6_dividedNow yX6_dividedNow, Cond.code yX6_dividedNow cX6_dividedNow 3 (some .int), Cond.constant RX6 169 (-1000001), Cond.fieldLink RX6 163 "RunoffOfficeModel" "rowMany" "I", Cond.fieldLink RX6 40 "RunoffOfficeModel" "row" "[I", Cond.methodLink RX6 166 yX6_isDivided, Cond.instanceMethod yX6_isDivided, Cond.selects RX6 yX6_isDivided yX6_isDivided, Cond.code yX6_isDivided cX6_isDivided 5 (some .boolean), Cond.fieldLink RX6 19 "RunoffOfficeModel" "runoffMany" "[I", Cond.fieldLink RX6 13 "RunoffOfficeModel" "rainMany" "[I"]
def wsX6_divided_r2 : List Cond := [Cond.methodLink RX6 151 yX6_runoffAt, Cond.instanceMethod yX6_runoffAt, Cond.selects RX6 yX6_runoffAt yX6_runoffAt, Cond.code yX6_runoffAt cX6_runoffAt 3 (some .int), Cond.fieldLink RX6 22 "RunoffOfficeModel" "runoffs" "[I", Cond.methodLink RX6 147 yX6_rainAt, Cond.instanceMethod yX6_rainAt, Cond.selects RX6 yX6_rainAt yX6_rainAt, Cond.code yX6_rainAt cX6_rainAt 3 (some .int), Cond.fieldLink RX6 16 "RunoffOfficeModel" "rains" "[I"]
def wsX6_divided : List Cond := .code yX6_divided cX6_divided 3 (some .int) :: ((wsX6_divided_r1 ++ wsX6_divided_r2) ++ wsX60)
def wsX6_partAt : List Cond := .code yX6_partAt cX6_partAt 3 (some .int) :: ([.fieldLink RX6 31 "RunoffOfficeModel" "parts" "[I", .methodLink RX6 59 yX6_within, .static yX6_within, .initialized RX6, .code yX6_within cX6_within 3 (some .boolean)] ++ wsX60)
def wsX6_partAll : List Cond := .code yX6_partAll cX6_partAll 4 (some .int) :: ([.methodLink RX6 173 yX6_partAt, .instanceMethod yX6_partAt, .selects RX6 yX6_partAt yX6_partAt, .initialized RX6, .code yX6_partAt cX6_partAt 3 (some .int), .fieldLink RX6 31 "RunoffOfficeModel" "parts" "[I", .methodLink RX6 59 yX6_within, .static yX6_within, .code yX6_within cX6_within 3 (some .boolean)] ++ wsX60)
def wsX6_unitNow : List Cond := .code yX6_unitNow cX6_unitNow 3 (some .int) :: ([.fieldLink RX6 25 "RunoffOfficeModel" "lengthOf" "[I", .fieldLink RX6 28 "RunoffOfficeModel" "partMany" "[I", .methodLink RX6 176 yX6_partAll, .instanceMethod yX6_partAll, .selects RX6 yX6_partAll yX6_partAll, .initialized RX6, .code yX6_partAll cX6_partAll 4 (some .int), .methodLink RX6 173 yX6_partAt, .instanceMethod yX6_partAt, .selects RX6 yX6_partAt yX6_partAt, .code yX6_partAt cX6_partAt 3 (some .int), .fieldLink RX6 31 "RunoffOfficeModel" "parts" "[I", .methodLink RX6 59 yX6_within, .static yX6_within, .code yX6_within cX6_within 3 (some .boolean)] ++ wsX60)
def wsX6_unit_r1 : List Cond := [Cond.constant RX6 136 (-1000002), Cond.constant RX6 63 (-1000003), Cond.methodLink RX6 130 yX6_isUnitThere, Cond.instanceMethod yX6_isUnitThere, Cond.selects RX6 yX6_isUnitThere yX6_isUnitThere, Cond.initialized RX6, Cond.code yX6_isUnitThere cX6_isUnitThere 2 (some .boolean), Cond.fieldLink RX6 117 "RunoffOfficeModel" "units" "I", Cond.methodLink RX6 59 yX6_within, Cond.static yX6_within, Cond.code yX6_within cX6_within 3 (some .boolean), Cond.methodLink RX6 179 yX6_unitNow, Cond.instanceMethod yX6_unitNow, Cond.selects RX6 yX6_unitNow yX6_unitNow, Cond.code yX6_unitNow cX6_unitNow 3 (some .int), Cond.fieldLink RX6 25 "RunoffOfficeModel" "lengthOf" "[I", Cond.fieldLink RX6 28 "RunoffOfficeModel" "partMany" "[I", Cond.methodLink RX6 176 yX6_partAll, Cond.instanceMethod yX6_partAll, Cond.selects RX6 yX6_partAll yX6_partAll, Cond.code yX6_partAll cX6_partAll 4 (some .int), Cond.methodLink RX6 173 yX6_partAt, Cond.instanceMethod yX6_partAt, Cond.selects RX6 yX6_partAt yX6_partAt]
def wsX6_unit_r2 : List Cond := [Cond.code yX6_partAt cX6_partAt 3 (some .int), Cond.fieldLink RX6 31 "RunoffOfficeModel" "parts" "[I"]
def wsX6_unit : List Cond := .code yX6_unit cX6_unit 3 (some .int) :: ((wsX6_unit_r1 ++ wsX6_unit_r2) ++ wsX60)
def wsX6_madeAt : List Cond := .code yX6_madeAt cX6_madeAt 6 (some .int) :: ([.methodLink RX6 147 yX6_rainAt, .instanceMethod yX6_rainAt, .selects RX6 yX6_rainAt yX6_rainAt, .initialized RX6, .code yX6_rainAt cX6_rainAt 3 (some .int), .fieldLink RX6 16 "RunoffOfficeModel" "rains" "[I", .methodLink RX6 59 yX6_within, .static yX6_within, .code yX6_within cX6_within 3 (some .boolean), .methodLink RX6 173 yX6_partAt, .instanceMethod yX6_partAt, .selects RX6 yX6_partAt yX6_partAt, .code yX6_partAt cX6_partAt 3 (some .int), .fieldLink RX6 31 "RunoffOfficeModel" "parts" "[I"] ++ wsX60)
def wsX6_made_r1 : List Cond := [Cond.constant RX6 136 (-1000002), Cond.constant RX6 63 (-1000003), Cond.methodLink RX6 130 yX6_isUnitThere, Cond.instanceMethod yX6_isUnitThere, Cond.selects RX6 yX6_isUnitThere yX6_isUnitThere, Cond.initialized RX6, Cond.code yX6_isUnitThere cX6_isUnitThere 2 (some .boolean), Cond.fieldLink RX6 117 "RunoffOfficeModel" "units" "I", Cond.methodLink RX6 59 yX6_within, Cond.static yX6_within, Cond.code yX6_within cX6_within 3 (some .boolean), Cond.methodLink RX6 133 yX6_isStorm, Cond.instanceMethod yX6_isStorm, Cond.selects RX6 yX6_isStorm yX6_isStorm, Cond.code yX6_isStorm cX6_isStorm 2 (some .boolean), Cond.fieldLink RX6 114 "RunoffOfficeModel" "storms" "I", Cond.methodLink RX6 182 yX6_madeAt, Cond.instanceMethod yX6_madeAt, Cond.selects RX6 yX6_madeAt yX6_madeAt, Cond.code yX6_madeAt cX6_madeAt 6 (some .int), Cond.methodLink RX6 147 yX6_rainAt, Cond.instanceMethod yX6_rainAt, Cond.selects RX6 yX6_rainAt yX6_rainAt, Cond.code yX6_rainAt cX6_rainAt 3 (some .int)]
def wsX6_made_r2 : List Cond := [Cond.fieldLink RX6 16 "RunoffOfficeModel" "rains" "[I", Cond.methodLink RX6 173 yX6_partAt, Cond.instanceMethod yX6_partAt, Cond.selects RX6 yX6_partAt yX6_partAt, Cond.code yX6_partAt cX6_partAt 3 (some .int), Cond.fieldLink RX6 31 "RunoffOfficeModel" "parts" "[I"]
def wsX6_made : List Cond := .code yX6_made cX6_made 4 (some .int) :: ((wsX6_made_r1 ++ wsX6_made_r2) ++ wsX60)
def wsX6_missedNow : List Cond := .code yX6_missedNow cX6_missedNow 6 (some .int) :: ([.methodLink RX6 182 yX6_madeAt, .instanceMethod yX6_madeAt, .selects RX6 yX6_madeAt yX6_madeAt, .initialized RX6, .code yX6_madeAt cX6_madeAt 6 (some .int), .methodLink RX6 147 yX6_rainAt, .instanceMethod yX6_rainAt, .selects RX6 yX6_rainAt yX6_rainAt, .code yX6_rainAt cX6_rainAt 3 (some .int), .fieldLink RX6 16 "RunoffOfficeModel" "rains" "[I", .methodLink RX6 59 yX6_within, .static yX6_within, .code yX6_within cX6_within 3 (some .boolean), .methodLink RX6 173 yX6_partAt, .instanceMethod yX6_partAt, .selects RX6 yX6_partAt yX6_partAt, .code yX6_partAt cX6_partAt 3 (some .int), .fieldLink RX6 31 "RunoffOfficeModel" "parts" "[I", .methodLink RX6 151 yX6_runoffAt, .instanceMethod yX6_runoffAt, .selects RX6 yX6_runoffAt yX6_runoffAt, .code yX6_runoffAt cX6_runoffAt 3 (some .int), .fieldLink RX6 22 "RunoffOfficeModel" "runoffs" "[I"] ++ wsX60)
def wsX6_missed_r1 : List Cond := [Cond.constant RX6 136 (-1000002), Cond.methodLink RX6 130 yX6_isUnitThere, Cond.instanceMethod yX6_isUnitThere, Cond.selects RX6 yX6_isUnitThere yX6_isUnitThere, Cond.initialized RX6, Cond.code yX6_isUnitThere cX6_isUnitThere 2 (some .boolean), Cond.fieldLink RX6 117 "RunoffOfficeModel" "units" "I", Cond.methodLink RX6 59 yX6_within, Cond.static yX6_within, Cond.code yX6_within cX6_within 3 (some .boolean), Cond.methodLink RX6 133 yX6_isStorm, Cond.instanceMethod yX6_isStorm, Cond.selects RX6 yX6_isStorm yX6_isStorm, Cond.code yX6_isStorm cX6_isStorm 2 (some .boolean), Cond.fieldLink RX6 114 "RunoffOfficeModel" "storms" "I", Cond.methodLink RX6 186 yX6_missedNow, Cond.instanceMethod yX6_missedNow, Cond.selects RX6 yX6_missedNow yX6_missedNow, Cond.code yX6_missedNow cX6_missedNow 6 (some .int), Cond.methodLink RX6 182 yX6_madeAt, Cond.instanceMethod yX6_madeAt, Cond.selects RX6 yX6_madeAt yX6_madeAt, Cond.code yX6_madeAt cX6_madeAt 6 (some .int), Cond.methodLink RX6 147 yX6_rainAt]
def wsX6_missed_r2 : List Cond := [Cond.instanceMethod yX6_rainAt, Cond.selects RX6 yX6_rainAt yX6_rainAt, Cond.code yX6_rainAt cX6_rainAt 3 (some .int), Cond.fieldLink RX6 16 "RunoffOfficeModel" "rains" "[I", Cond.methodLink RX6 173 yX6_partAt, Cond.instanceMethod yX6_partAt, Cond.selects RX6 yX6_partAt yX6_partAt, Cond.code yX6_partAt cX6_partAt 3 (some .int), Cond.fieldLink RX6 31 "RunoffOfficeModel" "parts" "[I", Cond.methodLink RX6 151 yX6_runoffAt, Cond.instanceMethod yX6_runoffAt, Cond.selects RX6 yX6_runoffAt yX6_runoffAt, Cond.code yX6_runoffAt cX6_runoffAt 3 (some .int), Cond.fieldLink RX6 22 "RunoffOfficeModel" "runoffs" "[I"]
def wsX6_missed : List Cond := .code yX6_missed cX6_missed 3 (some .int) :: ((wsX6_missed_r1 ++ wsX6_missed_r2) ++ wsX60)
def wsX6_sumAt : List Cond := .code yX6_sumAt cX6_sumAt 5 (some .int) :: ([.fieldLink RX6 25 "RunoffOfficeModel" "lengthOf" "[I", .methodLink RX6 173 yX6_partAt, .instanceMethod yX6_partAt, .selects RX6 yX6_partAt yX6_partAt, .initialized RX6, .code yX6_partAt cX6_partAt 3 (some .int), .fieldLink RX6 31 "RunoffOfficeModel" "parts" "[I", .methodLink RX6 59 yX6_within, .static yX6_within, .code yX6_within cX6_within 3 (some .boolean)] ++ wsX60)
def wsX6_sum : List Cond := .code yX6_sum cX6_sum 3 (some .int) :: ([.constant RX6 136 (-1000002), .constant RX6 63 (-1000003), .methodLink RX6 130 yX6_isUnitThere, .instanceMethod yX6_isUnitThere, .selects RX6 yX6_isUnitThere yX6_isUnitThere, .initialized RX6, .code yX6_isUnitThere cX6_isUnitThere 2 (some .boolean), .fieldLink RX6 117 "RunoffOfficeModel" "units" "I", .methodLink RX6 59 yX6_within, .static yX6_within, .code yX6_within cX6_within 3 (some .boolean), .methodLink RX6 189 yX6_sumAt, .instanceMethod yX6_sumAt, .selects RX6 yX6_sumAt yX6_sumAt, .code yX6_sumAt cX6_sumAt 5 (some .int), .fieldLink RX6 25 "RunoffOfficeModel" "lengthOf" "[I", .methodLink RX6 173 yX6_partAt, .instanceMethod yX6_partAt, .selects RX6 yX6_partAt yX6_partAt, .code yX6_partAt cX6_partAt 3 (some .int), .fieldLink RX6 31 "RunoffOfficeModel" "parts" "[I"] ++ wsX60)
def wsX6_common : List Cond := .code yX6_common cX6_common 10 (some .long) :: ([])
def wsX6_lowest : List Cond := .code yX6_lowest cX6_lowest 7 (some .long) :: ([.methodLink RX6 192 yX6_common, .static yX6_common, .initialized RX6, .code yX6_common cX6_common 10 (some .long)])
def wsX6_other_r1 : List Cond := [Cond.constant RX6 136 (-1000002), Cond.constant RX6 63 (-1000003), Cond.fieldLink RX6 25 "RunoffOfficeModel" "lengthOf" "[I", Cond.methodLink RX6 130 yX6_isUnitThere, Cond.instanceMethod yX6_isUnitThere, Cond.selects RX6 yX6_isUnitThere yX6_isUnitThere, Cond.initialized RX6, Cond.code yX6_isUnitThere cX6_isUnitThere 2 (some .boolean), Cond.fieldLink RX6 117 "RunoffOfficeModel" "units" "I", Cond.methodLink RX6 59 yX6_within, Cond.static yX6_within, Cond.code yX6_within cX6_within 3 (some .boolean), Cond.methodLink RX6 189 yX6_sumAt, Cond.instanceMethod yX6_sumAt, Cond.selects RX6 yX6_sumAt yX6_sumAt, Cond.code yX6_sumAt cX6_sumAt 5 (some .int), Cond.methodLink RX6 173 yX6_partAt, Cond.instanceMethod yX6_partAt, Cond.selects RX6 yX6_partAt yX6_partAt, Cond.code yX6_partAt cX6_partAt 3 (some .int), Cond.fieldLink RX6 31 "RunoffOfficeModel" "parts" "[I", Cond.methodLink RX6 196 yX6_lowest, Cond.static yX6_lowest, Cond.code yX6_lowest cX6_lowest 7 (some .long)]
def wsX6_other_r2 : List Cond := [Cond.methodLink RX6 192 yX6_common, Cond.static yX6_common, Cond.code yX6_common cX6_common 10 (some .long)]
def wsX6_other : List Cond := .code yX6_other cX6_other 5 (some .int) :: ((wsX6_other_r1 ++ wsX6_other_r2) ++ wsX60)
def wsX6_layProducts : List Cond := .code yX6_layProducts cX6_layProducts 5 none :: ([.fieldLink RX6 200 "RunoffOfficeModel" "runoffSquares" "J", .fieldLink RX6 43 "RunoffOfficeModel" "rainBy" "[J", .fieldLink RX6 47 "RunoffOfficeModel" "runoffBy" "[J", .fieldLink RX6 114 "RunoffOfficeModel" "storms" "I", .methodLink RX6 151 yX6_runoffAt, .instanceMethod yX6_runoffAt, .selects RX6 yX6_runoffAt yX6_runoffAt, .initialized RX6, .code yX6_runoffAt cX6_runoffAt 3 (some .int), .fieldLink RX6 22 "RunoffOfficeModel" "runoffs" "[I", .methodLink RX6 59 yX6_within, .static yX6_within, .code yX6_within cX6_within 3 (some .boolean), .methodLink RX6 147 yX6_rainAt, .instanceMethod yX6_rainAt, .selects RX6 yX6_rainAt yX6_rainAt, .code yX6_rainAt cX6_rainAt 3 (some .int), .fieldLink RX6 16 "RunoffOfficeModel" "rains" "[I"] ++ wsX60)
def wsX6_apart : List Cond := .code yX6_apart cX6_apart 2 (some .int) :: ([])
def wsX6_clear : List Cond := .code yX6_clear cX6_clear 9 none :: ([.fieldLink RX6 50 "RunoffOfficeModel" "square" "[J", .fieldLink RX6 207 "RunoffOfficeModel" "below" "J"] ++ wsX60)
def wsX6_solve : List Cond := .code yX6_solve cX6_solve 6 none :: ([.fieldLink RX6 56 "RunoffOfficeModel" "above" "[J", .fieldLink RX6 53 "RunoffOfficeModel" "freeAt" "[I", .fieldLink RX6 50 "RunoffOfficeModel" "square" "[J", .fieldLink RX6 43 "RunoffOfficeModel" "rainBy" "[J", .fieldLink RX6 47 "RunoffOfficeModel" "runoffBy" "[J", .fieldLink RX6 207 "RunoffOfficeModel" "below" "J", .methodLink RX6 204 yX6_apart, .static yX6_apart, .initialized RX6, .code yX6_apart cX6_apart 2 (some .int), .methodLink RX6 210 yX6_clear, .instanceMethod yX6_clear, .selects RX6 yX6_clear yX6_clear, .code yX6_clear cX6_clear 9 none] ++ wsX60)
def wsX6_pressAbove : List Cond := .code yX6_pressAbove cX6_pressAbove 6 (some .long) :: ([.fieldLink RX6 47 "RunoffOfficeModel" "runoffBy" "[J", .fieldLink RX6 207 "RunoffOfficeModel" "below" "J", .fieldLink RX6 43 "RunoffOfficeModel" "rainBy" "[J", .fieldLink RX6 56 "RunoffOfficeModel" "above" "[J", .methodLink RX6 204 yX6_apart, .static yX6_apart, .initialized RX6, .code yX6_apart cX6_apart 2 (some .int)] ++ wsX60)
def wsX6_isBest : List Cond := .code yX6_isBest cX6_isBest 4 (some .boolean) :: ([.fieldLink RX6 56 "RunoffOfficeModel" "above" "[J", .methodLink RX6 214 yX6_pressAbove, .instanceMethod yX6_pressAbove, .selects RX6 yX6_pressAbove yX6_pressAbove, .initialized RX6, .code yX6_pressAbove cX6_pressAbove 6 (some .long), .fieldLink RX6 47 "RunoffOfficeModel" "runoffBy" "[J", .fieldLink RX6 207 "RunoffOfficeModel" "below" "J", .fieldLink RX6 43 "RunoffOfficeModel" "rainBy" "[J", .methodLink RX6 204 yX6_apart, .static yX6_apart, .code yX6_apart cX6_apart 2 (some .int)] ++ wsX60)
def wsX6_layBest_r1 : List Cond := [Cond.methodLink RX6 218 yX6_layProducts, Cond.instanceMethod yX6_layProducts, Cond.selects RX6 yX6_layProducts yX6_layProducts, Cond.initialized RX6, Cond.code yX6_layProducts cX6_layProducts 5 none, Cond.fieldLink RX6 200 "RunoffOfficeModel" "runoffSquares" "J", Cond.fieldLink RX6 43 "RunoffOfficeModel" "rainBy" "[J", Cond.fieldLink RX6 47 "RunoffOfficeModel" "runoffBy" "[J", Cond.fieldLink RX6 114 "RunoffOfficeModel" "storms" "I", Cond.methodLink RX6 151 yX6_runoffAt, Cond.instanceMethod yX6_runoffAt, Cond.selects RX6 yX6_runoffAt yX6_runoffAt, Cond.code yX6_runoffAt cX6_runoffAt 3 (some .int), Cond.fieldLink RX6 22 "RunoffOfficeModel" "runoffs" "[I", Cond.methodLink RX6 59 yX6_within, Cond.static yX6_within, Cond.code yX6_within cX6_within 3 (some .boolean), Cond.methodLink RX6 147 yX6_rainAt, Cond.instanceMethod yX6_rainAt, Cond.selects RX6 yX6_rainAt yX6_rainAt, Cond.code yX6_rainAt cX6_rainAt 3 (some .int), Cond.fieldLink RX6 16 "RunoffOfficeModel" "rains" "[I", Cond.methodLink RX6 222 yX6_solve, Cond.instanceMethod yX6_solve]
def wsX6_layBest_r2 : List Cond := [Cond.selects RX6 yX6_solve yX6_solve, Cond.code yX6_solve cX6_solve 6 none, Cond.fieldLink RX6 56 "RunoffOfficeModel" "above" "[J", Cond.fieldLink RX6 53 "RunoffOfficeModel" "freeAt" "[I", Cond.fieldLink RX6 50 "RunoffOfficeModel" "square" "[J", Cond.fieldLink RX6 207 "RunoffOfficeModel" "below" "J", Cond.methodLink RX6 204 yX6_apart, Cond.static yX6_apart, Cond.code yX6_apart cX6_apart 2 (some .int), Cond.methodLink RX6 210 yX6_clear, Cond.instanceMethod yX6_clear, Cond.selects RX6 yX6_clear yX6_clear, Cond.code yX6_clear cX6_clear 9 none, Cond.methodLink RX6 225 yX6_isBest, Cond.instanceMethod yX6_isBest, Cond.selects RX6 yX6_isBest yX6_isBest, Cond.code yX6_isBest cX6_isBest 4 (some .boolean), Cond.methodLink RX6 214 yX6_pressAbove, Cond.instanceMethod yX6_pressAbove, Cond.selects RX6 yX6_pressAbove yX6_pressAbove, Cond.code yX6_pressAbove cX6_pressAbove 6 (some .long)]
def wsX6_layBest : List Cond := .code yX6_layBest cX6_layBest 4 none :: ((wsX6_layBest_r1 ++ wsX6_layBest_r2) ++ wsX60)
def wsX6_isAsk : List Cond := .code yX6_isAsk cX6_isAsk 3 (some .boolean) :: ([.fieldLink RX6 114 "RunoffOfficeModel" "storms" "I", .methodLink RX6 59 yX6_within, .static yX6_within, .initialized RX6, .code yX6_within cX6_within 3 (some .boolean)] ++ wsX60)
def wsX6_bestNow_r1 : List Cond := [Cond.fieldLink RX6 56 "RunoffOfficeModel" "above" "[J", Cond.fieldLink RX6 207 "RunoffOfficeModel" "below" "J", Cond.methodLink RX6 228 yX6_layBest, Cond.instanceMethod yX6_layBest, Cond.selects RX6 yX6_layBest yX6_layBest, Cond.initialized RX6, Cond.code yX6_layBest cX6_layBest 4 none, Cond.methodLink RX6 218 yX6_layProducts, Cond.instanceMethod yX6_layProducts, Cond.selects RX6 yX6_layProducts yX6_layProducts, Cond.code yX6_layProducts cX6_layProducts 5 none, Cond.fieldLink RX6 200 "RunoffOfficeModel" "runoffSquares" "J", Cond.fieldLink RX6 43 "RunoffOfficeModel" "rainBy" "[J", Cond.fieldLink RX6 47 "RunoffOfficeModel" "runoffBy" "[J", Cond.fieldLink RX6 114 "RunoffOfficeModel" "storms" "I", Cond.methodLink RX6 151 yX6_runoffAt, Cond.instanceMethod yX6_runoffAt, Cond.selects RX6 yX6_runoffAt yX6_runoffAt, Cond.code yX6_runoffAt cX6_runoffAt 3 (some .int), Cond.fieldLink RX6 22 "RunoffOfficeModel" "runoffs" "[I", Cond.methodLink RX6 59 yX6_within, Cond.static yX6_within, Cond.code yX6_within cX6_within 3 (some .boolean), Cond.methodLink RX6 147 yX6_rainAt]
def wsX6_bestNow_r2 : List Cond := [Cond.instanceMethod yX6_rainAt, Cond.selects RX6 yX6_rainAt yX6_rainAt, Cond.code yX6_rainAt cX6_rainAt 3 (some .int), Cond.fieldLink RX6 16 "RunoffOfficeModel" "rains" "[I", Cond.methodLink RX6 222 yX6_solve, Cond.instanceMethod yX6_solve, Cond.selects RX6 yX6_solve yX6_solve, Cond.code yX6_solve cX6_solve 6 none, Cond.fieldLink RX6 53 "RunoffOfficeModel" "freeAt" "[I", Cond.fieldLink RX6 50 "RunoffOfficeModel" "square" "[J", Cond.methodLink RX6 204 yX6_apart, Cond.static yX6_apart, Cond.code yX6_apart cX6_apart 2 (some .int), Cond.methodLink RX6 210 yX6_clear, Cond.instanceMethod yX6_clear, Cond.selects RX6 yX6_clear yX6_clear, Cond.code yX6_clear cX6_clear 9 none, Cond.methodLink RX6 225 yX6_isBest, Cond.instanceMethod yX6_isBest, Cond.selects RX6 yX6_isBest yX6_isBest, Cond.code yX6_isBest cX6_isBest 4 (some .boolean), Cond.methodLink RX6 214 yX6_pressAbove, Cond.instanceMethod yX6_pressAbove, Cond.selects RX6 yX6_pressAbove yX6_pressAbove]
def wsX6_bestNow_r3 : List Cond := [Cond.code yX6_pressAbove cX6_pressAbove 6 (some .long), Cond.methodLink RX6 196 yX6_lowest, Cond.static yX6_lowest, Cond.code yX6_lowest cX6_lowest 7 (some .long), Cond.methodLink RX6 192 yX6_common, Cond.static yX6_common, Cond.code yX6_common cX6_common 10 (some .long)]
def wsX6_bestNow : List Cond := .code yX6_bestNow cX6_bestNow 5 (some .long) :: ((wsX6_bestNow_r1 ++ (wsX6_bestNow_r2 ++ wsX6_bestNow_r3)) ++ wsX60)
def wsX6_best_r1 : List Cond := [Cond.constantLong RX6 239 (-1000003), Cond.methodLink RX6 231 yX6_isAsk, Cond.instanceMethod yX6_isAsk, Cond.selects RX6 yX6_isAsk yX6_isAsk, Cond.initialized RX6, Cond.code yX6_isAsk cX6_isAsk 3 (some .boolean), Cond.fieldLink RX6 114 "RunoffOfficeModel" "storms" "I", Cond.methodLink RX6 59 yX6_within, Cond.static yX6_within, Cond.code yX6_within cX6_within 3 (some .boolean), Cond.methodLink RX6 235 yX6_bestNow, Cond.instanceMethod yX6_bestNow, Cond.selects RX6 yX6_bestNow yX6_bestNow, Cond.code yX6_bestNow cX6_bestNow 5 (some .long), Cond.fieldLink RX6 56 "RunoffOfficeModel" "above" "[J", Cond.fieldLink RX6 207 "RunoffOfficeModel" "below" "J", Cond.methodLink RX6 228 yX6_layBest, Cond.instanceMethod yX6_layBest, Cond.selects RX6 yX6_layBest yX6_layBest, Cond.code yX6_layBest cX6_layBest 4 none, Cond.methodLink RX6 218 yX6_layProducts, Cond.instanceMethod yX6_layProducts, Cond.selects RX6 yX6_layProducts yX6_layProducts, Cond.code yX6_layProducts cX6_layProducts 5 none]
def wsX6_best_r2 : List Cond := [Cond.fieldLink RX6 200 "RunoffOfficeModel" "runoffSquares" "J", Cond.fieldLink RX6 43 "RunoffOfficeModel" "rainBy" "[J", Cond.fieldLink RX6 47 "RunoffOfficeModel" "runoffBy" "[J", Cond.methodLink RX6 151 yX6_runoffAt, Cond.instanceMethod yX6_runoffAt, Cond.selects RX6 yX6_runoffAt yX6_runoffAt, Cond.code yX6_runoffAt cX6_runoffAt 3 (some .int), Cond.fieldLink RX6 22 "RunoffOfficeModel" "runoffs" "[I", Cond.methodLink RX6 147 yX6_rainAt, Cond.instanceMethod yX6_rainAt, Cond.selects RX6 yX6_rainAt yX6_rainAt, Cond.code yX6_rainAt cX6_rainAt 3 (some .int), Cond.fieldLink RX6 16 "RunoffOfficeModel" "rains" "[I", Cond.methodLink RX6 222 yX6_solve, Cond.instanceMethod yX6_solve, Cond.selects RX6 yX6_solve yX6_solve, Cond.code yX6_solve cX6_solve 6 none, Cond.fieldLink RX6 53 "RunoffOfficeModel" "freeAt" "[I", Cond.fieldLink RX6 50 "RunoffOfficeModel" "square" "[J", Cond.methodLink RX6 204 yX6_apart, Cond.static yX6_apart, Cond.code yX6_apart cX6_apart 2 (some .int), Cond.methodLink RX6 210 yX6_clear, Cond.instanceMethod yX6_clear]
def wsX6_best_r3 : List Cond := [Cond.selects RX6 yX6_clear yX6_clear, Cond.code yX6_clear cX6_clear 9 none, Cond.methodLink RX6 225 yX6_isBest, Cond.instanceMethod yX6_isBest, Cond.selects RX6 yX6_isBest yX6_isBest, Cond.code yX6_isBest cX6_isBest 4 (some .boolean), Cond.methodLink RX6 214 yX6_pressAbove, Cond.instanceMethod yX6_pressAbove, Cond.selects RX6 yX6_pressAbove yX6_pressAbove, Cond.code yX6_pressAbove cX6_pressAbove 6 (some .long), Cond.methodLink RX6 196 yX6_lowest, Cond.static yX6_lowest, Cond.code yX6_lowest cX6_lowest 7 (some .long), Cond.methodLink RX6 192 yX6_common, Cond.static yX6_common, Cond.code yX6_common cX6_common 10 (some .long)]
def wsX6_best : List Cond := .code yX6_best cX6_best 5 (some .long) :: ((wsX6_best_r1 ++ (wsX6_best_r2 ++ wsX6_best_r3)) ++ wsX60)
def wsX6_lossNow_r1 : List Cond := [Cond.fieldLink RX6 200 "RunoffOfficeModel" "runoffSquares" "J", Cond.fieldLink RX6 207 "RunoffOfficeModel" "below" "J", Cond.fieldLink RX6 56 "RunoffOfficeModel" "above" "[J", Cond.fieldLink RX6 47 "RunoffOfficeModel" "runoffBy" "[J", Cond.methodLink RX6 228 yX6_layBest, Cond.instanceMethod yX6_layBest, Cond.selects RX6 yX6_layBest yX6_layBest, Cond.initialized RX6, Cond.code yX6_layBest cX6_layBest 4 none, Cond.methodLink RX6 218 yX6_layProducts, Cond.instanceMethod yX6_layProducts, Cond.selects RX6 yX6_layProducts yX6_layProducts, Cond.code yX6_layProducts cX6_layProducts 5 none, Cond.fieldLink RX6 43 "RunoffOfficeModel" "rainBy" "[J", Cond.fieldLink RX6 114 "RunoffOfficeModel" "storms" "I", Cond.methodLink RX6 151 yX6_runoffAt, Cond.instanceMethod yX6_runoffAt, Cond.selects RX6 yX6_runoffAt yX6_runoffAt, Cond.code yX6_runoffAt cX6_runoffAt 3 (some .int), Cond.fieldLink RX6 22 "RunoffOfficeModel" "runoffs" "[I", Cond.methodLink RX6 59 yX6_within, Cond.static yX6_within, Cond.code yX6_within cX6_within 3 (some .boolean), Cond.methodLink RX6 147 yX6_rainAt]
def wsX6_lossNow_r2 : List Cond := [Cond.instanceMethod yX6_rainAt, Cond.selects RX6 yX6_rainAt yX6_rainAt, Cond.code yX6_rainAt cX6_rainAt 3 (some .int), Cond.fieldLink RX6 16 "RunoffOfficeModel" "rains" "[I", Cond.methodLink RX6 222 yX6_solve, Cond.instanceMethod yX6_solve, Cond.selects RX6 yX6_solve yX6_solve, Cond.code yX6_solve cX6_solve 6 none, Cond.fieldLink RX6 53 "RunoffOfficeModel" "freeAt" "[I", Cond.fieldLink RX6 50 "RunoffOfficeModel" "square" "[J", Cond.methodLink RX6 204 yX6_apart, Cond.static yX6_apart, Cond.code yX6_apart cX6_apart 2 (some .int), Cond.methodLink RX6 210 yX6_clear, Cond.instanceMethod yX6_clear, Cond.selects RX6 yX6_clear yX6_clear, Cond.code yX6_clear cX6_clear 9 none, Cond.methodLink RX6 225 yX6_isBest, Cond.instanceMethod yX6_isBest, Cond.selects RX6 yX6_isBest yX6_isBest, Cond.code yX6_isBest cX6_isBest 4 (some .boolean), Cond.methodLink RX6 214 yX6_pressAbove, Cond.instanceMethod yX6_pressAbove, Cond.selects RX6 yX6_pressAbove yX6_pressAbove]
def wsX6_lossNow_r3 : List Cond := [Cond.code yX6_pressAbove cX6_pressAbove 6 (some .long), Cond.methodLink RX6 196 yX6_lowest, Cond.static yX6_lowest, Cond.code yX6_lowest cX6_lowest 7 (some .long), Cond.methodLink RX6 192 yX6_common, Cond.static yX6_common, Cond.code yX6_common cX6_common 10 (some .long)]
def wsX6_lossNow : List Cond := .code yX6_lossNow cX6_lossNow 7 (some .long) :: ((wsX6_lossNow_r1 ++ (wsX6_lossNow_r2 ++ wsX6_lossNow_r3)) ++ wsX60)
def wsX6_loss_r1 : List Cond := [Cond.constantLong RX6 239 (-1000003), Cond.methodLink RX6 231 yX6_isAsk, Cond.instanceMethod yX6_isAsk, Cond.selects RX6 yX6_isAsk yX6_isAsk, Cond.initialized RX6, Cond.code yX6_isAsk cX6_isAsk 3 (some .boolean), Cond.fieldLink RX6 114 "RunoffOfficeModel" "storms" "I", Cond.methodLink RX6 59 yX6_within, Cond.static yX6_within, Cond.code yX6_within cX6_within 3 (some .boolean), Cond.methodLink RX6 241 yX6_lossNow, Cond.instanceMethod yX6_lossNow, Cond.selects RX6 yX6_lossNow yX6_lossNow, Cond.code yX6_lossNow cX6_lossNow 7 (some .long), Cond.fieldLink RX6 200 "RunoffOfficeModel" "runoffSquares" "J", Cond.fieldLink RX6 207 "RunoffOfficeModel" "below" "J", Cond.fieldLink RX6 56 "RunoffOfficeModel" "above" "[J", Cond.fieldLink RX6 47 "RunoffOfficeModel" "runoffBy" "[J", Cond.methodLink RX6 228 yX6_layBest, Cond.instanceMethod yX6_layBest, Cond.selects RX6 yX6_layBest yX6_layBest, Cond.code yX6_layBest cX6_layBest 4 none, Cond.methodLink RX6 218 yX6_layProducts, Cond.instanceMethod yX6_layProducts]
def wsX6_loss_r2 : List Cond := [Cond.selects RX6 yX6_layProducts yX6_layProducts, Cond.code yX6_layProducts cX6_layProducts 5 none, Cond.fieldLink RX6 43 "RunoffOfficeModel" "rainBy" "[J", Cond.methodLink RX6 151 yX6_runoffAt, Cond.instanceMethod yX6_runoffAt, Cond.selects RX6 yX6_runoffAt yX6_runoffAt, Cond.code yX6_runoffAt cX6_runoffAt 3 (some .int), Cond.fieldLink RX6 22 "RunoffOfficeModel" "runoffs" "[I", Cond.methodLink RX6 147 yX6_rainAt, Cond.instanceMethod yX6_rainAt, Cond.selects RX6 yX6_rainAt yX6_rainAt, Cond.code yX6_rainAt cX6_rainAt 3 (some .int), Cond.fieldLink RX6 16 "RunoffOfficeModel" "rains" "[I", Cond.methodLink RX6 222 yX6_solve, Cond.instanceMethod yX6_solve, Cond.selects RX6 yX6_solve yX6_solve, Cond.code yX6_solve cX6_solve 6 none, Cond.fieldLink RX6 53 "RunoffOfficeModel" "freeAt" "[I", Cond.fieldLink RX6 50 "RunoffOfficeModel" "square" "[J", Cond.methodLink RX6 204 yX6_apart, Cond.static yX6_apart, Cond.code yX6_apart cX6_apart 2 (some .int), Cond.methodLink RX6 210 yX6_clear, Cond.instanceMethod yX6_clear]
def wsX6_loss_r3 : List Cond := [Cond.selects RX6 yX6_clear yX6_clear, Cond.code yX6_clear cX6_clear 9 none, Cond.methodLink RX6 225 yX6_isBest, Cond.instanceMethod yX6_isBest, Cond.selects RX6 yX6_isBest yX6_isBest, Cond.code yX6_isBest cX6_isBest 4 (some .boolean), Cond.methodLink RX6 214 yX6_pressAbove, Cond.instanceMethod yX6_pressAbove, Cond.selects RX6 yX6_pressAbove yX6_pressAbove, Cond.code yX6_pressAbove cX6_pressAbove 6 (some .long), Cond.methodLink RX6 196 yX6_lowest, Cond.static yX6_lowest, Cond.code yX6_lowest cX6_lowest 7 (some .long), Cond.methodLink RX6 192 yX6_common, Cond.static yX6_common, Cond.code yX6_common cX6_common 10 (some .long)]
def wsX6_loss : List Cond := .code yX6_loss cX6_loss 4 (some .long) :: ((wsX6_loss_r1 ++ (wsX6_loss_r2 ++ wsX6_loss_r3)) ++ wsX60)
def wsX6_pressNow_r1 : List Cond := [Cond.fieldLink RX6 207 "RunoffOfficeModel" "below" "J", Cond.methodLink RX6 228 yX6_layBest, Cond.instanceMethod yX6_layBest, Cond.selects RX6 yX6_layBest yX6_layBest, Cond.initialized RX6, Cond.code yX6_layBest cX6_layBest 4 none, Cond.methodLink RX6 218 yX6_layProducts, Cond.instanceMethod yX6_layProducts, Cond.selects RX6 yX6_layProducts yX6_layProducts, Cond.code yX6_layProducts cX6_layProducts 5 none, Cond.fieldLink RX6 200 "RunoffOfficeModel" "runoffSquares" "J", Cond.fieldLink RX6 43 "RunoffOfficeModel" "rainBy" "[J", Cond.fieldLink RX6 47 "RunoffOfficeModel" "runoffBy" "[J", Cond.fieldLink RX6 114 "RunoffOfficeModel" "storms" "I", Cond.methodLink RX6 151 yX6_runoffAt, Cond.instanceMethod yX6_runoffAt, Cond.selects RX6 yX6_runoffAt yX6_runoffAt, Cond.code yX6_runoffAt cX6_runoffAt 3 (some .int), Cond.fieldLink RX6 22 "RunoffOfficeModel" "runoffs" "[I", Cond.methodLink RX6 59 yX6_within, Cond.static yX6_within, Cond.code yX6_within cX6_within 3 (some .boolean), Cond.methodLink RX6 147 yX6_rainAt, Cond.instanceMethod yX6_rainAt]
def wsX6_pressNow_r2 : List Cond := [Cond.selects RX6 yX6_rainAt yX6_rainAt, Cond.code yX6_rainAt cX6_rainAt 3 (some .int), Cond.fieldLink RX6 16 "RunoffOfficeModel" "rains" "[I", Cond.methodLink RX6 222 yX6_solve, Cond.instanceMethod yX6_solve, Cond.selects RX6 yX6_solve yX6_solve, Cond.code yX6_solve cX6_solve 6 none, Cond.fieldLink RX6 56 "RunoffOfficeModel" "above" "[J", Cond.fieldLink RX6 53 "RunoffOfficeModel" "freeAt" "[I", Cond.fieldLink RX6 50 "RunoffOfficeModel" "square" "[J", Cond.methodLink RX6 204 yX6_apart, Cond.static yX6_apart, Cond.code yX6_apart cX6_apart 2 (some .int), Cond.methodLink RX6 210 yX6_clear, Cond.instanceMethod yX6_clear, Cond.selects RX6 yX6_clear yX6_clear, Cond.code yX6_clear cX6_clear 9 none, Cond.methodLink RX6 225 yX6_isBest, Cond.instanceMethod yX6_isBest, Cond.selects RX6 yX6_isBest yX6_isBest, Cond.code yX6_isBest cX6_isBest 4 (some .boolean), Cond.methodLink RX6 214 yX6_pressAbove, Cond.instanceMethod yX6_pressAbove, Cond.selects RX6 yX6_pressAbove yX6_pressAbove]
def wsX6_pressNow_r3 : List Cond := [Cond.code yX6_pressAbove cX6_pressAbove 6 (some .long), Cond.methodLink RX6 196 yX6_lowest, Cond.static yX6_lowest, Cond.code yX6_lowest cX6_lowest 7 (some .long), Cond.methodLink RX6 192 yX6_common, Cond.static yX6_common, Cond.code yX6_common cX6_common 10 (some .long)]
def wsX6_pressNow : List Cond := .code yX6_pressNow cX6_pressNow 5 (some .long) :: ((wsX6_pressNow_r1 ++ (wsX6_pressNow_r2 ++ wsX6_pressNow_r3)) ++ wsX60)
def wsX6_press_r1 : List Cond := [Cond.constantLong RX6 239 (-1000003), Cond.methodLink RX6 231 yX6_isAsk, Cond.instanceMethod yX6_isAsk, Cond.selects RX6 yX6_isAsk yX6_isAsk, Cond.initialized RX6, Cond.code yX6_isAsk cX6_isAsk 3 (some .boolean), Cond.fieldLink RX6 114 "RunoffOfficeModel" "storms" "I", Cond.methodLink RX6 59 yX6_within, Cond.static yX6_within, Cond.code yX6_within cX6_within 3 (some .boolean), Cond.methodLink RX6 245 yX6_pressNow, Cond.instanceMethod yX6_pressNow, Cond.selects RX6 yX6_pressNow yX6_pressNow, Cond.code yX6_pressNow cX6_pressNow 5 (some .long), Cond.fieldLink RX6 207 "RunoffOfficeModel" "below" "J", Cond.methodLink RX6 228 yX6_layBest, Cond.instanceMethod yX6_layBest, Cond.selects RX6 yX6_layBest yX6_layBest, Cond.code yX6_layBest cX6_layBest 4 none, Cond.methodLink RX6 218 yX6_layProducts, Cond.instanceMethod yX6_layProducts, Cond.selects RX6 yX6_layProducts yX6_layProducts, Cond.code yX6_layProducts cX6_layProducts 5 none, Cond.fieldLink RX6 200 "RunoffOfficeModel" "runoffSquares" "J"]
def wsX6_press_r2 : List Cond := [Cond.fieldLink RX6 43 "RunoffOfficeModel" "rainBy" "[J", Cond.fieldLink RX6 47 "RunoffOfficeModel" "runoffBy" "[J", Cond.methodLink RX6 151 yX6_runoffAt, Cond.instanceMethod yX6_runoffAt, Cond.selects RX6 yX6_runoffAt yX6_runoffAt, Cond.code yX6_runoffAt cX6_runoffAt 3 (some .int), Cond.fieldLink RX6 22 "RunoffOfficeModel" "runoffs" "[I", Cond.methodLink RX6 147 yX6_rainAt, Cond.instanceMethod yX6_rainAt, Cond.selects RX6 yX6_rainAt yX6_rainAt, Cond.code yX6_rainAt cX6_rainAt 3 (some .int), Cond.fieldLink RX6 16 "RunoffOfficeModel" "rains" "[I", Cond.methodLink RX6 222 yX6_solve, Cond.instanceMethod yX6_solve, Cond.selects RX6 yX6_solve yX6_solve, Cond.code yX6_solve cX6_solve 6 none, Cond.fieldLink RX6 56 "RunoffOfficeModel" "above" "[J", Cond.fieldLink RX6 53 "RunoffOfficeModel" "freeAt" "[I", Cond.fieldLink RX6 50 "RunoffOfficeModel" "square" "[J", Cond.methodLink RX6 204 yX6_apart, Cond.static yX6_apart, Cond.code yX6_apart cX6_apart 2 (some .int), Cond.methodLink RX6 210 yX6_clear, Cond.instanceMethod yX6_clear]
def wsX6_press_r3 : List Cond := [Cond.selects RX6 yX6_clear yX6_clear, Cond.code yX6_clear cX6_clear 9 none, Cond.methodLink RX6 225 yX6_isBest, Cond.instanceMethod yX6_isBest, Cond.selects RX6 yX6_isBest yX6_isBest, Cond.code yX6_isBest cX6_isBest 4 (some .boolean), Cond.methodLink RX6 214 yX6_pressAbove, Cond.instanceMethod yX6_pressAbove, Cond.selects RX6 yX6_pressAbove yX6_pressAbove, Cond.code yX6_pressAbove cX6_pressAbove 6 (some .long), Cond.methodLink RX6 196 yX6_lowest, Cond.static yX6_lowest, Cond.code yX6_lowest cX6_lowest 7 (some .long), Cond.methodLink RX6 192 yX6_common, Cond.static yX6_common, Cond.code yX6_common cX6_common 10 (some .long)]
def wsX6_press : List Cond := .code yX6_press cX6_press 5 (some .long) :: ((wsX6_press_r1 ++ (wsX6_press_r2 ++ wsX6_press_r3)) ++ wsX60)
def wsX6_nothingNow_r1 : List Cond := [Cond.fieldLink RX6 56 "RunoffOfficeModel" "above" "[J", Cond.methodLink RX6 228 yX6_layBest, Cond.instanceMethod yX6_layBest, Cond.selects RX6 yX6_layBest yX6_layBest, Cond.initialized RX6, Cond.code yX6_layBest cX6_layBest 4 none, Cond.methodLink RX6 218 yX6_layProducts, Cond.instanceMethod yX6_layProducts, Cond.selects RX6 yX6_layProducts yX6_layProducts, Cond.code yX6_layProducts cX6_layProducts 5 none, Cond.fieldLink RX6 200 "RunoffOfficeModel" "runoffSquares" "J", Cond.fieldLink RX6 43 "RunoffOfficeModel" "rainBy" "[J", Cond.fieldLink RX6 47 "RunoffOfficeModel" "runoffBy" "[J", Cond.fieldLink RX6 114 "RunoffOfficeModel" "storms" "I", Cond.methodLink RX6 151 yX6_runoffAt, Cond.instanceMethod yX6_runoffAt, Cond.selects RX6 yX6_runoffAt yX6_runoffAt, Cond.code yX6_runoffAt cX6_runoffAt 3 (some .int), Cond.fieldLink RX6 22 "RunoffOfficeModel" "runoffs" "[I", Cond.methodLink RX6 59 yX6_within, Cond.static yX6_within, Cond.code yX6_within cX6_within 3 (some .boolean), Cond.methodLink RX6 147 yX6_rainAt, Cond.instanceMethod yX6_rainAt]
def wsX6_nothingNow_r2 : List Cond := [Cond.selects RX6 yX6_rainAt yX6_rainAt, Cond.code yX6_rainAt cX6_rainAt 3 (some .int), Cond.fieldLink RX6 16 "RunoffOfficeModel" "rains" "[I", Cond.methodLink RX6 222 yX6_solve, Cond.instanceMethod yX6_solve, Cond.selects RX6 yX6_solve yX6_solve, Cond.code yX6_solve cX6_solve 6 none, Cond.fieldLink RX6 53 "RunoffOfficeModel" "freeAt" "[I", Cond.fieldLink RX6 50 "RunoffOfficeModel" "square" "[J", Cond.fieldLink RX6 207 "RunoffOfficeModel" "below" "J", Cond.methodLink RX6 204 yX6_apart, Cond.static yX6_apart, Cond.code yX6_apart cX6_apart 2 (some .int), Cond.methodLink RX6 210 yX6_clear, Cond.instanceMethod yX6_clear, Cond.selects RX6 yX6_clear yX6_clear, Cond.code yX6_clear cX6_clear 9 none, Cond.methodLink RX6 225 yX6_isBest, Cond.instanceMethod yX6_isBest, Cond.selects RX6 yX6_isBest yX6_isBest, Cond.code yX6_isBest cX6_isBest 4 (some .boolean), Cond.methodLink RX6 214 yX6_pressAbove, Cond.instanceMethod yX6_pressAbove, Cond.selects RX6 yX6_pressAbove yX6_pressAbove]
def wsX6_nothingNow_r3 : List Cond := [Cond.code yX6_pressAbove cX6_pressAbove 6 (some .long)]
def wsX6_nothingNow : List Cond := .code yX6_nothingNow cX6_nothingNow 5 (some .int) :: ((wsX6_nothingNow_r1 ++ (wsX6_nothingNow_r2 ++ wsX6_nothingNow_r3)) ++ wsX60)
def wsX6_nothing_r1 : List Cond := [Cond.constant RX6 63 (-1000003), Cond.methodLink RX6 231 yX6_isAsk, Cond.instanceMethod yX6_isAsk, Cond.selects RX6 yX6_isAsk yX6_isAsk, Cond.initialized RX6, Cond.code yX6_isAsk cX6_isAsk 3 (some .boolean), Cond.fieldLink RX6 114 "RunoffOfficeModel" "storms" "I", Cond.methodLink RX6 59 yX6_within, Cond.static yX6_within, Cond.code yX6_within cX6_within 3 (some .boolean), Cond.methodLink RX6 248 yX6_nothingNow, Cond.instanceMethod yX6_nothingNow, Cond.selects RX6 yX6_nothingNow yX6_nothingNow, Cond.code yX6_nothingNow cX6_nothingNow 5 (some .int), Cond.fieldLink RX6 56 "RunoffOfficeModel" "above" "[J", Cond.methodLink RX6 228 yX6_layBest, Cond.instanceMethod yX6_layBest, Cond.selects RX6 yX6_layBest yX6_layBest, Cond.code yX6_layBest cX6_layBest 4 none, Cond.methodLink RX6 218 yX6_layProducts, Cond.instanceMethod yX6_layProducts, Cond.selects RX6 yX6_layProducts yX6_layProducts, Cond.code yX6_layProducts cX6_layProducts 5 none, Cond.fieldLink RX6 200 "RunoffOfficeModel" "runoffSquares" "J"]
def wsX6_nothing_r2 : List Cond := [Cond.fieldLink RX6 43 "RunoffOfficeModel" "rainBy" "[J", Cond.fieldLink RX6 47 "RunoffOfficeModel" "runoffBy" "[J", Cond.methodLink RX6 151 yX6_runoffAt, Cond.instanceMethod yX6_runoffAt, Cond.selects RX6 yX6_runoffAt yX6_runoffAt, Cond.code yX6_runoffAt cX6_runoffAt 3 (some .int), Cond.fieldLink RX6 22 "RunoffOfficeModel" "runoffs" "[I", Cond.methodLink RX6 147 yX6_rainAt, Cond.instanceMethod yX6_rainAt, Cond.selects RX6 yX6_rainAt yX6_rainAt, Cond.code yX6_rainAt cX6_rainAt 3 (some .int), Cond.fieldLink RX6 16 "RunoffOfficeModel" "rains" "[I", Cond.methodLink RX6 222 yX6_solve, Cond.instanceMethod yX6_solve, Cond.selects RX6 yX6_solve yX6_solve, Cond.code yX6_solve cX6_solve 6 none, Cond.fieldLink RX6 53 "RunoffOfficeModel" "freeAt" "[I", Cond.fieldLink RX6 50 "RunoffOfficeModel" "square" "[J", Cond.fieldLink RX6 207 "RunoffOfficeModel" "below" "J", Cond.methodLink RX6 204 yX6_apart, Cond.static yX6_apart, Cond.code yX6_apart cX6_apart 2 (some .int), Cond.methodLink RX6 210 yX6_clear, Cond.instanceMethod yX6_clear]
def wsX6_nothing_r3 : List Cond := [Cond.selects RX6 yX6_clear yX6_clear, Cond.code yX6_clear cX6_clear 9 none, Cond.methodLink RX6 225 yX6_isBest, Cond.instanceMethod yX6_isBest, Cond.selects RX6 yX6_isBest yX6_isBest, Cond.code yX6_isBest cX6_isBest 4 (some .boolean), Cond.methodLink RX6 214 yX6_pressAbove, Cond.instanceMethod yX6_pressAbove, Cond.selects RX6 yX6_pressAbove yX6_pressAbove, Cond.code yX6_pressAbove cX6_pressAbove 6 (some .long)]
def wsX6_nothing : List Cond := .code yX6_nothing cX6_nothing 3 (some .int) :: ((wsX6_nothing_r1 ++ (wsX6_nothing_r2 ++ wsX6_nothing_r3)) ++ wsX60)
def wsX6_isWhole : List Cond := .code yX6_isWhole cX6_isWhole 4 (some .boolean) :: ([.fieldLink RX6 56 "RunoffOfficeModel" "above" "[J", .fieldLink RX6 207 "RunoffOfficeModel" "below" "J", .constantLong RX6 251 (99)] ++ wsX60)
def wsX6_keep_r1 : List Cond := [Cond.constant RX6 63 (-1000003), Cond.constant RX6 120 (-1000004), Cond.fieldLink RX6 117 "RunoffOfficeModel" "units" "I", Cond.constant RX6 68 (-1000005), Cond.fieldLink RX6 101 "RunoffOfficeModel" "newLength" "I", Cond.fieldLink RX6 85 "RunoffOfficeModel" "newRows" "I", Cond.fieldLink RX6 37 "RunoffOfficeModel" "newRow" "[I", Cond.fieldLink RX6 56 "RunoffOfficeModel" "above" "[J", Cond.fieldLink RX6 207 "RunoffOfficeModel" "below" "J", Cond.fieldLink RX6 256 "RunoffOfficeModel" "keptEver" "I", Cond.methodLink RX6 231 yX6_isAsk, Cond.instanceMethod yX6_isAsk, Cond.selects RX6 yX6_isAsk yX6_isAsk, Cond.initialized RX6, Cond.code yX6_isAsk cX6_isAsk 3 (some .boolean), Cond.fieldLink RX6 114 "RunoffOfficeModel" "storms" "I", Cond.methodLink RX6 59 yX6_within, Cond.static yX6_within, Cond.code yX6_within cX6_within 3 (some .boolean), Cond.methodLink RX6 228 yX6_layBest, Cond.instanceMethod yX6_layBest, Cond.selects RX6 yX6_layBest yX6_layBest, Cond.code yX6_layBest cX6_layBest 4 none, Cond.methodLink RX6 218 yX6_layProducts]
def wsX6_keep_r2 : List Cond := [Cond.instanceMethod yX6_layProducts, Cond.selects RX6 yX6_layProducts yX6_layProducts, Cond.code yX6_layProducts cX6_layProducts 5 none, Cond.fieldLink RX6 200 "RunoffOfficeModel" "runoffSquares" "J", Cond.fieldLink RX6 43 "RunoffOfficeModel" "rainBy" "[J", Cond.fieldLink RX6 47 "RunoffOfficeModel" "runoffBy" "[J", Cond.methodLink RX6 151 yX6_runoffAt, Cond.instanceMethod yX6_runoffAt, Cond.selects RX6 yX6_runoffAt yX6_runoffAt, Cond.code yX6_runoffAt cX6_runoffAt 3 (some .int), Cond.fieldLink RX6 22 "RunoffOfficeModel" "runoffs" "[I", Cond.methodLink RX6 147 yX6_rainAt, Cond.instanceMethod yX6_rainAt, Cond.selects RX6 yX6_rainAt yX6_rainAt, Cond.code yX6_rainAt cX6_rainAt 3 (some .int), Cond.fieldLink RX6 16 "RunoffOfficeModel" "rains" "[I", Cond.methodLink RX6 222 yX6_solve, Cond.instanceMethod yX6_solve, Cond.selects RX6 yX6_solve yX6_solve, Cond.code yX6_solve cX6_solve 6 none, Cond.fieldLink RX6 53 "RunoffOfficeModel" "freeAt" "[I", Cond.fieldLink RX6 50 "RunoffOfficeModel" "square" "[J", Cond.methodLink RX6 204 yX6_apart, Cond.static yX6_apart]
def wsX6_keep_r3 : List Cond := [Cond.code yX6_apart cX6_apart 2 (some .int), Cond.methodLink RX6 210 yX6_clear, Cond.instanceMethod yX6_clear, Cond.selects RX6 yX6_clear yX6_clear, Cond.code yX6_clear cX6_clear 9 none, Cond.methodLink RX6 225 yX6_isBest, Cond.instanceMethod yX6_isBest, Cond.selects RX6 yX6_isBest yX6_isBest, Cond.code yX6_isBest cX6_isBest 4 (some .boolean), Cond.methodLink RX6 214 yX6_pressAbove, Cond.instanceMethod yX6_pressAbove, Cond.selects RX6 yX6_pressAbove yX6_pressAbove, Cond.code yX6_pressAbove cX6_pressAbove 6 (some .long), Cond.methodLink RX6 253 yX6_isWhole, Cond.instanceMethod yX6_isWhole, Cond.selects RX6 yX6_isWhole yX6_isWhole, Cond.code yX6_isWhole cX6_isWhole 4 (some .boolean), Cond.constantLong RX6 251 (99), Cond.methodLink RX6 124 yX6_takeUnit, Cond.instanceMethod yX6_takeUnit, Cond.selects RX6 yX6_takeUnit yX6_takeUnit, Cond.code yX6_takeUnit cX6_takeUnit 2 (some .int), Cond.fieldLink RX6 25 "RunoffOfficeModel" "lengthOf" "[I", Cond.fieldLink RX6 28 "RunoffOfficeModel" "partMany" "[I"]
def wsX6_keep_r4 : List Cond := [Cond.fieldLink RX6 31 "RunoffOfficeModel" "parts" "[I"]
def wsX6_keep : List Cond := .code yX6_keep cX6_keep 5 (some .int) :: ((wsX6_keep_r1 ++ (wsX6_keep_r2 ++ (wsX6_keep_r3 ++ wsX6_keep_r4))) ++ wsX60)
def wsX6_howMany : List Cond := .code yX6_howMany cX6_howMany 2 (some .int) :: ([.fieldLink RX6 114 "RunoffOfficeModel" "storms" "I", .fieldLink RX6 117 "RunoffOfficeModel" "units" "I", .fieldLink RX6 64 "RunoffOfficeModel" "pageLength" "I", .fieldLink RX6 121 "RunoffOfficeModel" "cameEver" "I", .fieldLink RX6 137 "RunoffOfficeModel" "wentEver" "I", .fieldLink RX6 256 "RunoffOfficeModel" "keptEver" "I", .constant RX6 63 (-1000003)] ++ wsX60)
def wsX6_count : List Cond := .code yX6_count cX6_count 2 (some .int) :: ([.methodLink RX6 259 yX6_howMany, .instanceMethod yX6_howMany, .selects RX6 yX6_howMany yX6_howMany, .initialized RX6, .code yX6_howMany cX6_howMany 2 (some .int), .fieldLink RX6 114 "RunoffOfficeModel" "storms" "I", .fieldLink RX6 117 "RunoffOfficeModel" "units" "I", .fieldLink RX6 64 "RunoffOfficeModel" "pageLength" "I", .fieldLink RX6 121 "RunoffOfficeModel" "cameEver" "I", .fieldLink RX6 137 "RunoffOfficeModel" "wentEver" "I", .fieldLink RX6 256 "RunoffOfficeModel" "keptEver" "I", .constant RX6 63 (-1000003)] ++ wsX60)
def wsX6_mix : List Cond := .code yX6_mix cX6_mix 3 none :: ([.constantLong RX6 262 (31), .fieldLink RX6 264 "RunoffOfficeModel" "h" "J"] ++ wsX60)
def wsX6_mixStorm_r1 : List Cond := [Cond.methodLink RX6 59 yX6_within, Cond.static yX6_within, Cond.initialized RX6, Cond.code yX6_within cX6_within 3 (some .boolean), Cond.methodLink RX6 160 yX6_stormNow, Cond.instanceMethod yX6_stormNow, Cond.selects RX6 yX6_stormNow yX6_stormNow, Cond.code yX6_stormNow cX6_stormNow 3 (some .int), Cond.fieldLink RX6 13 "RunoffOfficeModel" "rainMany" "[I", Cond.fieldLink RX6 19 "RunoffOfficeModel" "runoffMany" "[I", Cond.methodLink RX6 154 yX6_rainAll, Cond.instanceMethod yX6_rainAll, Cond.selects RX6 yX6_rainAll yX6_rainAll, Cond.code yX6_rainAll cX6_rainAll 2 (some .int), Cond.methodLink RX6 147 yX6_rainAt, Cond.instanceMethod yX6_rainAt, Cond.selects RX6 yX6_rainAt yX6_rainAt, Cond.code yX6_rainAt cX6_rainAt 3 (some .int), Cond.fieldLink RX6 16 "RunoffOfficeModel" "rains" "[I", Cond.methodLink RX6 157 yX6_runoffAll, Cond.instanceMethod yX6_runoffAll, Cond.selects RX6 yX6_runoffAll yX6_runoffAll, Cond.code yX6_runoffAll cX6_runoffAll 4 (some .int), Cond.methodLink RX6 151 yX6_runoffAt]
def wsX6_mixStorm_r2 : List Cond := [Cond.instanceMethod yX6_runoffAt, Cond.selects RX6 yX6_runoffAt yX6_runoffAt, Cond.code yX6_runoffAt cX6_runoffAt 3 (some .int), Cond.fieldLink RX6 22 "RunoffOfficeModel" "runoffs" "[I", Cond.methodLink RX6 267 yX6_mix, Cond.instanceMethod yX6_mix, Cond.selects RX6 yX6_mix yX6_mix, Cond.code yX6_mix cX6_mix 3 none, Cond.constantLong RX6 262 (31), Cond.fieldLink RX6 264 "RunoffOfficeModel" "h" "J", Cond.methodLink RX6 170 yX6_dividedNow, Cond.instanceMethod yX6_dividedNow, Cond.selects RX6 yX6_dividedNow yX6_dividedNow, Cond.code yX6_dividedNow cX6_dividedNow 3 (some .int), Cond.constant RX6 169 (-1000001), Cond.fieldLink RX6 163 "RunoffOfficeModel" "rowMany" "I", Cond.fieldLink RX6 40 "RunoffOfficeModel" "row" "[I", Cond.methodLink RX6 166 yX6_isDivided, Cond.instanceMethod yX6_isDivided, Cond.selects RX6 yX6_isDivided yX6_isDivided, Cond.code yX6_isDivided cX6_isDivided 5 (some .boolean)]
def wsX6_mixStorm : List Cond := .code yX6_mixStorm cX6_mixStorm 3 none :: ((wsX6_mixStorm_r1 ++ wsX6_mixStorm_r2) ++ wsX60)
def wsX6_mixUnits_r1 : List Cond := [Cond.fieldLink RX6 117 "RunoffOfficeModel" "units" "I", Cond.fieldLink RX6 114 "RunoffOfficeModel" "storms" "I", Cond.methodLink RX6 179 yX6_unitNow, Cond.instanceMethod yX6_unitNow, Cond.selects RX6 yX6_unitNow yX6_unitNow, Cond.initialized RX6, Cond.code yX6_unitNow cX6_unitNow 3 (some .int), Cond.fieldLink RX6 25 "RunoffOfficeModel" "lengthOf" "[I", Cond.fieldLink RX6 28 "RunoffOfficeModel" "partMany" "[I", Cond.methodLink RX6 176 yX6_partAll, Cond.instanceMethod yX6_partAll, Cond.selects RX6 yX6_partAll yX6_partAll, Cond.code yX6_partAll cX6_partAll 4 (some .int), Cond.methodLink RX6 173 yX6_partAt, Cond.instanceMethod yX6_partAt, Cond.selects RX6 yX6_partAt yX6_partAt, Cond.code yX6_partAt cX6_partAt 3 (some .int), Cond.fieldLink RX6 31 "RunoffOfficeModel" "parts" "[I", Cond.methodLink RX6 59 yX6_within, Cond.static yX6_within, Cond.code yX6_within cX6_within 3 (some .boolean), Cond.methodLink RX6 267 yX6_mix, Cond.instanceMethod yX6_mix, Cond.selects RX6 yX6_mix yX6_mix]
def wsX6_mixUnits_r2 : List Cond := [Cond.code yX6_mix cX6_mix 3 none, Cond.constantLong RX6 262 (31), Cond.fieldLink RX6 264 "RunoffOfficeModel" "h" "J", Cond.methodLink RX6 186 yX6_missedNow, Cond.instanceMethod yX6_missedNow, Cond.selects RX6 yX6_missedNow yX6_missedNow, Cond.code yX6_missedNow cX6_missedNow 6 (some .int), Cond.methodLink RX6 182 yX6_madeAt, Cond.instanceMethod yX6_madeAt, Cond.selects RX6 yX6_madeAt yX6_madeAt, Cond.code yX6_madeAt cX6_madeAt 6 (some .int), Cond.methodLink RX6 147 yX6_rainAt, Cond.instanceMethod yX6_rainAt, Cond.selects RX6 yX6_rainAt yX6_rainAt, Cond.code yX6_rainAt cX6_rainAt 3 (some .int), Cond.fieldLink RX6 16 "RunoffOfficeModel" "rains" "[I", Cond.methodLink RX6 151 yX6_runoffAt, Cond.instanceMethod yX6_runoffAt, Cond.selects RX6 yX6_runoffAt yX6_runoffAt, Cond.code yX6_runoffAt cX6_runoffAt 3 (some .int), Cond.fieldLink RX6 22 "RunoffOfficeModel" "runoffs" "[I"]
def wsX6_mixUnits : List Cond := .code yX6_mixUnits cX6_mixUnits 3 none :: ((wsX6_mixUnits_r1 ++ wsX6_mixUnits_r2) ++ wsX60)
def wsX6_mixBest_r1 : List Cond := [Cond.methodLink RX6 235 yX6_bestNow, Cond.instanceMethod yX6_bestNow, Cond.selects RX6 yX6_bestNow yX6_bestNow, Cond.initialized RX6, Cond.code yX6_bestNow cX6_bestNow 5 (some .long), Cond.fieldLink RX6 56 "RunoffOfficeModel" "above" "[J", Cond.fieldLink RX6 207 "RunoffOfficeModel" "below" "J", Cond.methodLink RX6 228 yX6_layBest, Cond.instanceMethod yX6_layBest, Cond.selects RX6 yX6_layBest yX6_layBest, Cond.code yX6_layBest cX6_layBest 4 none, Cond.methodLink RX6 218 yX6_layProducts, Cond.instanceMethod yX6_layProducts, Cond.selects RX6 yX6_layProducts yX6_layProducts, Cond.code yX6_layProducts cX6_layProducts 5 none, Cond.fieldLink RX6 200 "RunoffOfficeModel" "runoffSquares" "J", Cond.fieldLink RX6 43 "RunoffOfficeModel" "rainBy" "[J", Cond.fieldLink RX6 47 "RunoffOfficeModel" "runoffBy" "[J", Cond.fieldLink RX6 114 "RunoffOfficeModel" "storms" "I", Cond.methodLink RX6 151 yX6_runoffAt, Cond.instanceMethod yX6_runoffAt, Cond.selects RX6 yX6_runoffAt yX6_runoffAt, Cond.code yX6_runoffAt cX6_runoffAt 3 (some .int), Cond.fieldLink RX6 22 "RunoffOfficeModel" "runoffs" "[I"]
def wsX6_mixBest_r2 : List Cond := [Cond.methodLink RX6 59 yX6_within, Cond.static yX6_within, Cond.code yX6_within cX6_within 3 (some .boolean), Cond.methodLink RX6 147 yX6_rainAt, Cond.instanceMethod yX6_rainAt, Cond.selects RX6 yX6_rainAt yX6_rainAt, Cond.code yX6_rainAt cX6_rainAt 3 (some .int), Cond.fieldLink RX6 16 "RunoffOfficeModel" "rains" "[I", Cond.methodLink RX6 222 yX6_solve, Cond.instanceMethod yX6_solve, Cond.selects RX6 yX6_solve yX6_solve, Cond.code yX6_solve cX6_solve 6 none, Cond.fieldLink RX6 53 "RunoffOfficeModel" "freeAt" "[I", Cond.fieldLink RX6 50 "RunoffOfficeModel" "square" "[J", Cond.methodLink RX6 204 yX6_apart, Cond.static yX6_apart, Cond.code yX6_apart cX6_apart 2 (some .int), Cond.methodLink RX6 210 yX6_clear, Cond.instanceMethod yX6_clear, Cond.selects RX6 yX6_clear yX6_clear, Cond.code yX6_clear cX6_clear 9 none, Cond.methodLink RX6 225 yX6_isBest, Cond.instanceMethod yX6_isBest, Cond.selects RX6 yX6_isBest yX6_isBest]
def wsX6_mixBest_r3 : List Cond := [Cond.code yX6_isBest cX6_isBest 4 (some .boolean), Cond.methodLink RX6 214 yX6_pressAbove, Cond.instanceMethod yX6_pressAbove, Cond.selects RX6 yX6_pressAbove yX6_pressAbove, Cond.code yX6_pressAbove cX6_pressAbove 6 (some .long), Cond.methodLink RX6 196 yX6_lowest, Cond.static yX6_lowest, Cond.code yX6_lowest cX6_lowest 7 (some .long), Cond.methodLink RX6 192 yX6_common, Cond.static yX6_common, Cond.code yX6_common cX6_common 10 (some .long), Cond.methodLink RX6 267 yX6_mix, Cond.instanceMethod yX6_mix, Cond.selects RX6 yX6_mix yX6_mix, Cond.code yX6_mix cX6_mix 3 none, Cond.constantLong RX6 262 (31), Cond.fieldLink RX6 264 "RunoffOfficeModel" "h" "J", Cond.methodLink RX6 241 yX6_lossNow, Cond.instanceMethod yX6_lossNow, Cond.selects RX6 yX6_lossNow yX6_lossNow, Cond.code yX6_lossNow cX6_lossNow 7 (some .long)]
def wsX6_mixBest : List Cond := .code yX6_mixBest cX6_mixBest 4 none :: ((wsX6_mixBest_r1 ++ (wsX6_mixBest_r2 ++ wsX6_mixBest_r3)) ++ wsX60)
def wsX6_digest_r1 : List Cond := [Cond.constantLong RX6 271 (1619), Cond.fieldLink RX6 264 "RunoffOfficeModel" "h" "J", Cond.fieldLink RX6 114 "RunoffOfficeModel" "storms" "I", Cond.fieldLink RX6 64 "RunoffOfficeModel" "pageLength" "I", Cond.fieldLink RX6 7 "RunoffOfficeModel" "page" "[I", Cond.methodLink RX6 273 yX6_mixStorm, Cond.instanceMethod yX6_mixStorm, Cond.selects RX6 yX6_mixStorm yX6_mixStorm, Cond.initialized RX6, Cond.code yX6_mixStorm cX6_mixStorm 3 none, Cond.methodLink RX6 59 yX6_within, Cond.static yX6_within, Cond.code yX6_within cX6_within 3 (some .boolean), Cond.methodLink RX6 160 yX6_stormNow, Cond.instanceMethod yX6_stormNow, Cond.selects RX6 yX6_stormNow yX6_stormNow, Cond.code yX6_stormNow cX6_stormNow 3 (some .int), Cond.fieldLink RX6 13 "RunoffOfficeModel" "rainMany" "[I", Cond.fieldLink RX6 19 "RunoffOfficeModel" "runoffMany" "[I", Cond.methodLink RX6 154 yX6_rainAll, Cond.instanceMethod yX6_rainAll, Cond.selects RX6 yX6_rainAll yX6_rainAll, Cond.code yX6_rainAll cX6_rainAll 2 (some .int), Cond.methodLink RX6 147 yX6_rainAt]
def wsX6_digest_r2 : List Cond := [Cond.instanceMethod yX6_rainAt, Cond.selects RX6 yX6_rainAt yX6_rainAt, Cond.code yX6_rainAt cX6_rainAt 3 (some .int), Cond.fieldLink RX6 16 "RunoffOfficeModel" "rains" "[I", Cond.methodLink RX6 157 yX6_runoffAll, Cond.instanceMethod yX6_runoffAll, Cond.selects RX6 yX6_runoffAll yX6_runoffAll, Cond.code yX6_runoffAll cX6_runoffAll 4 (some .int), Cond.methodLink RX6 151 yX6_runoffAt, Cond.instanceMethod yX6_runoffAt, Cond.selects RX6 yX6_runoffAt yX6_runoffAt, Cond.code yX6_runoffAt cX6_runoffAt 3 (some .int), Cond.fieldLink RX6 22 "RunoffOfficeModel" "runoffs" "[I", Cond.methodLink RX6 267 yX6_mix, Cond.instanceMethod yX6_mix, Cond.selects RX6 yX6_mix yX6_mix, Cond.code yX6_mix cX6_mix 3 none, Cond.constantLong RX6 262 (31), Cond.methodLink RX6 170 yX6_dividedNow, Cond.instanceMethod yX6_dividedNow, Cond.selects RX6 yX6_dividedNow yX6_dividedNow, Cond.code yX6_dividedNow cX6_dividedNow 3 (some .int), Cond.constant RX6 169 (-1000001), Cond.fieldLink RX6 163 "RunoffOfficeModel" "rowMany" "I"]
def wsX6_digest_r3 : List Cond := [Cond.fieldLink RX6 40 "RunoffOfficeModel" "row" "[I", Cond.methodLink RX6 166 yX6_isDivided, Cond.instanceMethod yX6_isDivided, Cond.selects RX6 yX6_isDivided yX6_isDivided, Cond.code yX6_isDivided cX6_isDivided 5 (some .boolean), Cond.methodLink RX6 276 yX6_mixUnits, Cond.instanceMethod yX6_mixUnits, Cond.selects RX6 yX6_mixUnits yX6_mixUnits, Cond.code yX6_mixUnits cX6_mixUnits 3 none, Cond.fieldLink RX6 117 "RunoffOfficeModel" "units" "I", Cond.methodLink RX6 179 yX6_unitNow, Cond.instanceMethod yX6_unitNow, Cond.selects RX6 yX6_unitNow yX6_unitNow, Cond.code yX6_unitNow cX6_unitNow 3 (some .int), Cond.fieldLink RX6 25 "RunoffOfficeModel" "lengthOf" "[I", Cond.fieldLink RX6 28 "RunoffOfficeModel" "partMany" "[I", Cond.methodLink RX6 176 yX6_partAll, Cond.instanceMethod yX6_partAll, Cond.selects RX6 yX6_partAll yX6_partAll, Cond.code yX6_partAll cX6_partAll 4 (some .int), Cond.methodLink RX6 173 yX6_partAt, Cond.instanceMethod yX6_partAt, Cond.selects RX6 yX6_partAt yX6_partAt, Cond.code yX6_partAt cX6_partAt 3 (some .int)]
def wsX6_digest_r4 : List Cond := [Cond.fieldLink RX6 31 "RunoffOfficeModel" "parts" "[I", Cond.methodLink RX6 186 yX6_missedNow, Cond.instanceMethod yX6_missedNow, Cond.selects RX6 yX6_missedNow yX6_missedNow, Cond.code yX6_missedNow cX6_missedNow 6 (some .int), Cond.methodLink RX6 182 yX6_madeAt, Cond.instanceMethod yX6_madeAt, Cond.selects RX6 yX6_madeAt yX6_madeAt, Cond.code yX6_madeAt cX6_madeAt 6 (some .int), Cond.methodLink RX6 279 yX6_mixBest, Cond.instanceMethod yX6_mixBest, Cond.selects RX6 yX6_mixBest yX6_mixBest, Cond.code yX6_mixBest cX6_mixBest 4 none, Cond.methodLink RX6 235 yX6_bestNow, Cond.instanceMethod yX6_bestNow, Cond.selects RX6 yX6_bestNow yX6_bestNow, Cond.code yX6_bestNow cX6_bestNow 5 (some .long), Cond.fieldLink RX6 56 "RunoffOfficeModel" "above" "[J", Cond.fieldLink RX6 207 "RunoffOfficeModel" "below" "J", Cond.methodLink RX6 228 yX6_layBest, Cond.instanceMethod yX6_layBest, Cond.selects RX6 yX6_layBest yX6_layBest, Cond.code yX6_layBest cX6_layBest 4 none, Cond.methodLink RX6 218 yX6_layProducts]
def wsX6_digest_r5 : List Cond := [Cond.instanceMethod yX6_layProducts, Cond.selects RX6 yX6_layProducts yX6_layProducts, Cond.code yX6_layProducts cX6_layProducts 5 none, Cond.fieldLink RX6 200 "RunoffOfficeModel" "runoffSquares" "J", Cond.fieldLink RX6 43 "RunoffOfficeModel" "rainBy" "[J", Cond.fieldLink RX6 47 "RunoffOfficeModel" "runoffBy" "[J", Cond.methodLink RX6 222 yX6_solve, Cond.instanceMethod yX6_solve, Cond.selects RX6 yX6_solve yX6_solve, Cond.code yX6_solve cX6_solve 6 none, Cond.fieldLink RX6 53 "RunoffOfficeModel" "freeAt" "[I", Cond.fieldLink RX6 50 "RunoffOfficeModel" "square" "[J", Cond.methodLink RX6 204 yX6_apart, Cond.static yX6_apart, Cond.code yX6_apart cX6_apart 2 (some .int), Cond.methodLink RX6 210 yX6_clear, Cond.instanceMethod yX6_clear, Cond.selects RX6 yX6_clear yX6_clear, Cond.code yX6_clear cX6_clear 9 none, Cond.methodLink RX6 225 yX6_isBest, Cond.instanceMethod yX6_isBest, Cond.selects RX6 yX6_isBest yX6_isBest, Cond.code yX6_isBest cX6_isBest 4 (some .boolean), Cond.methodLink RX6 214 yX6_pressAbove]
def wsX6_digest_r6 : List Cond := [Cond.instanceMethod yX6_pressAbove, Cond.selects RX6 yX6_pressAbove yX6_pressAbove, Cond.code yX6_pressAbove cX6_pressAbove 6 (some .long), Cond.methodLink RX6 196 yX6_lowest, Cond.static yX6_lowest, Cond.code yX6_lowest cX6_lowest 7 (some .long), Cond.methodLink RX6 192 yX6_common, Cond.static yX6_common, Cond.code yX6_common cX6_common 10 (some .long), Cond.methodLink RX6 241 yX6_lossNow, Cond.instanceMethod yX6_lossNow, Cond.selects RX6 yX6_lossNow yX6_lossNow, Cond.code yX6_lossNow cX6_lossNow 7 (some .long), Cond.methodLink RX6 259 yX6_howMany, Cond.instanceMethod yX6_howMany, Cond.selects RX6 yX6_howMany yX6_howMany, Cond.code yX6_howMany cX6_howMany 2 (some .int), Cond.fieldLink RX6 121 "RunoffOfficeModel" "cameEver" "I", Cond.fieldLink RX6 137 "RunoffOfficeModel" "wentEver" "I", Cond.fieldLink RX6 256 "RunoffOfficeModel" "keptEver" "I", Cond.constant RX6 63 (-1000003)]
def wsX6_digest : List Cond := .code yX6_digest cX6_digest 2 (some .long) :: ((wsX6_digest_r1 ++ (wsX6_digest_r2 ++ (wsX6_digest_r3 ++ (wsX6_digest_r4 ++ (wsX6_digest_r5 ++ wsX6_digest_r6))))) ++ wsX60)
def wsJ9_abs_0f7a4 : List Cond := .code yJ9_abs_0f7a4 cJ9_abs_0f7a4 1 (some .int) :: ([])
def wsJ9_abs_067f4 : List Cond := .code yJ9_abs_067f4 cJ9_abs_067f4 2 (some .long) :: ([])
def wsJ9_max_7cf53 : List Cond := .code yJ9_max_7cf53 cJ9_max_7cf53 2 (some .int) :: ([])
def wsJ9_min_7cf53 : List Cond := .code yJ9_min_7cf53 cJ9_min_7cf53 2 (some .int) :: ([])
theorem inJ9 : ∀ w ∈ wsJ90, w ∈ lw_tbl := by decide +kernel
abbrev vwCl : List vw_C := [(RX0, TX0, 8), (RX1, TX1, 6), (RX2, TX2, 2), (RX3, TX3, 4), (RX4, TX4, 2), (RX5, TX5, 11), (RX6, TX6, 33)]
end
section
theorem dX0_init_0 : decode cX0_init 0 = .ok (.aload_n 0, 1) := by decide +kernel
theorem dX0_init_1 : decode cX0_init 1 = .ok (.invokespecial 3, 3) := by decide +kernel
theorem dX0_init_4 : decode cX0_init 4 = .ok (.aload_n 0, 1) := by decide +kernel
theorem dX0_init_5 : decode cX0_init 5 = .ok (.iconst 4, 1) := by decide +kernel
theorem dX0_init_6 : decode cX0_init 6 = .ok (.newarray .long, 2) := by decide +kernel
theorem dX0_init_8 : decode cX0_init 8 = .ok (.putfield 9, 3) := by decide +kernel
theorem dX0_init_11 : decode cX0_init 11 = .ok (.aload_n 0, 1) := by decide +kernel
theorem dX0_init_12 : decode cX0_init 12 = .ok (.iconst 4, 1) := by decide +kernel
theorem dX0_init_13 : decode cX0_init 13 = .ok (.newarray .long, 2) := by decide +kernel
theorem dX0_init_15 : decode cX0_init 15 = .ok (.putfield 15, 3) := by decide +kernel
theorem dX0_init_18 : decode cX0_init 18 = .ok (.aload_n 0, 1) := by decide +kernel
theorem dX0_init_19 : decode cX0_init 19 = .ok (.bipush 16, 2) := by decide +kernel
theorem dX0_init_21 : decode cX0_init 21 = .ok (.newarray .long, 2) := by decide +kernel
theorem dX0_init_23 : decode cX0_init 23 = .ok (.putfield 18, 3) := by decide +kernel
theorem dX0_init_26 : decode cX0_init 26 = .ok (.aload_n 0, 1) := by decide +kernel
theorem dX0_init_27 : decode cX0_init 27 = .ok (.iconst 4, 1) := by decide +kernel
theorem dX0_init_28 : decode cX0_init 28 = .ok (.newarray .long, 2) := by decide +kernel
theorem dX0_init_30 : decode cX0_init 30 = .ok (.putfield 21, 3) := by decide +kernel
theorem dX0_init_33 : decode cX0_init 33 = .ok (.aload_n 0, 1) := by decide +kernel
theorem dX0_init_34 : decode cX0_init 34 = .ok (.iconst 4, 1) := by decide +kernel
theorem dX0_init_35 : decode cX0_init 35 = .ok (.newarray .long, 2) := by decide +kernel
theorem dX0_init_37 : decode cX0_init 37 = .ok (.putfield 24, 3) := by decide +kernel
theorem dX0_init_40 : decode cX0_init 40 = .ok (.aload_n 0, 1) := by decide +kernel
theorem dX0_init_41 : decode cX0_init 41 = .ok (.lconst 1, 1) := by decide +kernel
theorem dX0_init_42 : decode cX0_init 42 = .ok (.putfield 27, 3) := by decide +kernel
theorem dX0_init_45 : decode cX0_init 45 = .ok (.return_, 1) := by decide +kernel
theorem dX0_begin_0 : decode cX0_begin 0 = .ok (.aload_n 0, 1) := by decide +kernel
theorem dX0_begin_1 : decode cX0_begin 1 = .ok (.iconst 0, 1) := by decide +kernel
theorem dX0_begin_2 : decode cX0_begin 2 = .ok (.iload_n 1, 1) := by decide +kernel
theorem dX0_begin_3 : decode cX0_begin 3 = .ok (.iconst 4, 1) := by decide +kernel
theorem dX0_begin_4 : decode cX0_begin 4 = .ok (.invokestatic 31, 3) := by decide +kernel
theorem dX0_begin_7 : decode cX0_begin 7 = .ok (.invokestatic 37, 3) := by decide +kernel
theorem dX0_begin_10 : decode cX0_begin 10 = .ok (.putfield 40, 3) := by decide +kernel
theorem dX0_begin_13 : decode cX0_begin 13 = .ok (.aload_n 0, 1) := by decide +kernel
theorem dX0_begin_14 : decode cX0_begin 14 = .ok (.lconst 0, 1) := by decide +kernel
theorem dX0_begin_15 : decode cX0_begin 15 = .ok (.putfield 44, 3) := by decide +kernel
theorem dX0_begin_18 : decode cX0_begin 18 = .ok (.iconst 0, 1) := by decide +kernel
theorem dX0_begin_19 : decode cX0_begin 19 = .ok (.istore_n 2, 1) := by decide +kernel
theorem dX0_begin_20 : decode cX0_begin 20 = .ok (.iload_n 2, 1) := by decide +kernel
theorem dX0_begin_21 : decode cX0_begin 21 = .ok (.iconst 4, 1) := by decide +kernel
theorem dX0_begin_22 : decode cX0_begin 22 = .ok (.if_icmp .ge 23, 3) := by decide +kernel
theorem dX0_begin_25 : decode cX0_begin 25 = .ok (.aload_n 0, 1) := by decide +kernel
theorem dX0_begin_26 : decode cX0_begin 26 = .ok (.getfield 9, 3) := by decide +kernel
theorem dX0_begin_29 : decode cX0_begin 29 = .ok (.iload_n 2, 1) := by decide +kernel
theorem dX0_begin_30 : decode cX0_begin 30 = .ok (.lconst 0, 1) := by decide +kernel
theorem dX0_begin_31 : decode cX0_begin 31 = .ok (.lastore, 1) := by decide +kernel
theorem dX0_begin_32 : decode cX0_begin 32 = .ok (.aload_n 0, 1) := by decide +kernel
theorem dX0_begin_33 : decode cX0_begin 33 = .ok (.getfield 15, 3) := by decide +kernel
theorem dX0_begin_36 : decode cX0_begin 36 = .ok (.iload_n 2, 1) := by decide +kernel
theorem dX0_begin_37 : decode cX0_begin 37 = .ok (.lconst 0, 1) := by decide +kernel
theorem dX0_begin_38 : decode cX0_begin 38 = .ok (.lastore, 1) := by decide +kernel
theorem dX0_begin_39 : decode cX0_begin 39 = .ok (.iinc 2 1, 3) := by decide +kernel
theorem dX0_begin_42 : decode cX0_begin 42 = .ok (.goto (-22), 3) := by decide +kernel
theorem dX0_begin_45 : decode cX0_begin 45 = .ok (.return_, 1) := by decide +kernel
set_option maxRecDepth 20000 in
theorem ggX0_add_X2_at : GoodIn wsX0_add wsX2_at := goodIn_r _ [10, 11, 12, 25, 26] (by decide +kernel) (by decide +kernel)
set_option maxRecDepth 20000 in
theorem gX0_add_X2_at : GoodIn wsX0_add (wsV RX0 53 RX2 yX2_at wsX2_at) := goodIn_app (goodIn_of _ (by decide +kernel)) ggX0_add_X2_at
theorem dX0_add_0 : decode cX0_add 0 = .ok (.iconst 0, 1) := by decide +kernel
theorem dX0_add_1 : decode cX0_add 1 = .ok (.istore_n 2, 1) := by decide +kernel
theorem dX0_add_2 : decode cX0_add 2 = .ok (.iload_n 2, 1) := by decide +kernel
theorem dX0_add_3 : decode cX0_add 3 = .ok (.bipush 8, 2) := by decide +kernel
theorem dX0_add_5 : decode cX0_add 5 = .ok (.if_icmp .ge 36, 3) := by decide +kernel
theorem dX0_add_8 : decode cX0_add 8 = .ok (.aload_n 0, 1) := by decide +kernel
theorem dX0_add_9 : decode cX0_add 9 = .ok (.dup, 1) := by decide +kernel
theorem dX0_add_10 : decode cX0_add 10 = .ok (.getfield 44, 3) := by decide +kernel
theorem dX0_add_13 : decode cX0_add 13 = .ok (.aload_n 1, 1) := by decide +kernel
theorem dX0_add_14 : decode cX0_add 14 = .ok (.getfield 47, 3) := by decide +kernel
theorem dX0_add_17 : decode cX0_add 17 = .ok (.iload_n 2, 1) := by decide +kernel
theorem dX0_add_18 : decode cX0_add 18 = .ok (.invokevirtual 53, 3) := by decide +kernel
theorem dX0_add_21 : decode cX0_add 21 = .ok (.aload_n 1, 1) := by decide +kernel
theorem dX0_add_22 : decode cX0_add 22 = .ok (.getfield 47, 3) := by decide +kernel
theorem dX0_add_25 : decode cX0_add 25 = .ok (.iload_n 2, 1) := by decide +kernel
theorem dX0_add_26 : decode cX0_add 26 = .ok (.invokevirtual 53, 3) := by decide +kernel
theorem dX0_add_29 : decode cX0_add 29 = .ok (.imul, 1) := by decide +kernel
theorem dX0_add_30 : decode cX0_add 30 = .ok (.i2l, 1) := by decide +kernel
theorem dX0_add_31 : decode cX0_add 31 = .ok (.ladd, 1) := by decide +kernel
theorem dX0_add_32 : decode cX0_add 32 = .ok (.putfield 44, 3) := by decide +kernel
theorem dX0_add_35 : decode cX0_add 35 = .ok (.iinc 2 1, 3) := by decide +kernel
theorem dX0_add_38 : decode cX0_add 38 = .ok (.goto (-36), 3) := by decide +kernel
theorem dX0_add_41 : decode cX0_add 41 = .ok (.iconst 0, 1) := by decide +kernel
theorem dX0_add_42 : decode cX0_add 42 = .ok (.istore_n 2, 1) := by decide +kernel
theorem dX0_add_43 : decode cX0_add 43 = .ok (.iload_n 2, 1) := by decide +kernel
theorem dX0_add_44 : decode cX0_add 44 = .ok (.iconst 4, 1) := by decide +kernel
theorem dX0_add_45 : decode cX0_add 45 = .ok (.if_icmp .ge 80, 3) := by decide +kernel
theorem dX0_add_48 : decode cX0_add 48 = .ok (.iconst 0, 1) := by decide +kernel
theorem dX0_add_49 : decode cX0_add 49 = .ok (.istore_n 3, 1) := by decide +kernel
theorem dX0_add_50 : decode cX0_add 50 = .ok (.iload_n 3, 1) := by decide +kernel
theorem dX0_add_51 : decode cX0_add 51 = .ok (.iconst 3, 1) := by decide +kernel
theorem dX0_add_52 : decode cX0_add 52 = .ok (.if_icmp .ge 67, 3) := by decide +kernel
theorem dX0_add_55 : decode cX0_add 55 = .ok (.aload_n 0, 1) := by decide +kernel
theorem dX0_add_56 : decode cX0_add 56 = .ok (.getfield 9, 3) := by decide +kernel
theorem dX0_add_59 : decode cX0_add 59 = .ok (.iload_n 2, 1) := by decide +kernel
theorem dX0_add_60 : decode cX0_add 60 = .ok (.dup2, 1) := by decide +kernel
theorem dX0_add_61 : decode cX0_add 61 = .ok (.laload, 1) := by decide +kernel
theorem dX0_add_62 : decode cX0_add 62 = .ok (.aload_n 1, 1) := by decide +kernel
theorem dX0_add_63 : decode cX0_add 63 = .ok (.getfield 59, 3) := by decide +kernel
theorem dX0_add_66 : decode cX0_add 66 = .ok (.iload_n 3, 1) := by decide +kernel
theorem dX0_add_67 : decode cX0_add 67 = .ok (.invokevirtual 53, 3) := by decide +kernel
theorem dX0_add_70 : decode cX0_add 70 = .ok (.aload_n 1, 1) := by decide +kernel
theorem dX0_add_71 : decode cX0_add 71 = .ok (.getfield 59, 3) := by decide +kernel
theorem dX0_add_74 : decode cX0_add 74 = .ok (.iload_n 3, 1) := by decide +kernel
theorem dX0_add_75 : decode cX0_add 75 = .ok (.iload_n 2, 1) := by decide +kernel
theorem dX0_add_76 : decode cX0_add 76 = .ok (.iadd, 1) := by decide +kernel
theorem dX0_add_77 : decode cX0_add 77 = .ok (.invokevirtual 53, 3) := by decide +kernel
theorem dX0_add_80 : decode cX0_add 80 = .ok (.imul, 1) := by decide +kernel
theorem dX0_add_81 : decode cX0_add 81 = .ok (.i2l, 1) := by decide +kernel
theorem dX0_add_82 : decode cX0_add 82 = .ok (.ladd, 1) := by decide +kernel
theorem dX0_add_83 : decode cX0_add 83 = .ok (.lastore, 1) := by decide +kernel
theorem dX0_add_84 : decode cX0_add 84 = .ok (.aload_n 0, 1) := by decide +kernel
theorem dX0_add_85 : decode cX0_add 85 = .ok (.getfield 15, 3) := by decide +kernel
theorem dX0_add_88 : decode cX0_add 88 = .ok (.iload_n 2, 1) := by decide +kernel
theorem dX0_add_89 : decode cX0_add 89 = .ok (.dup2, 1) := by decide +kernel
theorem dX0_add_90 : decode cX0_add 90 = .ok (.laload, 1) := by decide +kernel
theorem dX0_add_91 : decode cX0_add 91 = .ok (.aload_n 1, 1) := by decide +kernel
theorem dX0_add_92 : decode cX0_add 92 = .ok (.getfield 59, 3) := by decide +kernel
theorem dX0_add_95 : decode cX0_add 95 = .ok (.iload_n 3, 1) := by decide +kernel
theorem dX0_add_96 : decode cX0_add 96 = .ok (.invokevirtual 53, 3) := by decide +kernel
theorem dX0_add_99 : decode cX0_add 99 = .ok (.aload_n 1, 1) := by decide +kernel
theorem dX0_add_100 : decode cX0_add 100 = .ok (.getfield 47, 3) := by decide +kernel
theorem dX0_add_103 : decode cX0_add 103 = .ok (.iload_n 3, 1) := by decide +kernel
theorem dX0_add_104 : decode cX0_add 104 = .ok (.iload_n 2, 1) := by decide +kernel
theorem dX0_add_105 : decode cX0_add 105 = .ok (.iadd, 1) := by decide +kernel
theorem dX0_add_106 : decode cX0_add 106 = .ok (.invokevirtual 53, 3) := by decide +kernel
theorem dX0_add_109 : decode cX0_add 109 = .ok (.imul, 1) := by decide +kernel
theorem dX0_add_110 : decode cX0_add 110 = .ok (.i2l, 1) := by decide +kernel
theorem dX0_add_111 : decode cX0_add 111 = .ok (.ladd, 1) := by decide +kernel
theorem dX0_add_112 : decode cX0_add 112 = .ok (.lastore, 1) := by decide +kernel
theorem dX0_add_113 : decode cX0_add 113 = .ok (.iinc 3 1, 3) := by decide +kernel
theorem dX0_add_116 : decode cX0_add 116 = .ok (.goto (-66), 3) := by decide +kernel
theorem dX0_add_119 : decode cX0_add 119 = .ok (.iinc 2 1, 3) := by decide +kernel
theorem dX0_add_122 : decode cX0_add 122 = .ok (.goto (-79), 3) := by decide +kernel
theorem dX0_add_125 : decode cX0_add 125 = .ok (.return_, 1) := by decide +kernel
set_option maxRecDepth 20000 in
theorem ggX0_settle_X0_fitsWith : GoodIn wsX0_settle wsX0_fitsWith := goodIn_r _ [6, 7, 1, 8, 9, 10, 11, 12, 5, 13, 14, 15, 16, 17, 18, 19, 20, 21, 22, 23, 24, 25, 26, 27, 28, 29, 30, 31, 32, 33, 34, 35, 36, 37, 38, 39, 40, 41, 42, 43] (by decide +kernel) (by decide +kernel)
set_option maxRecDepth 20000 in
theorem gX0_settle_X0_fitsWith : GoodIn wsX0_settle (wsV RX0 62 RX0 yX0_fitsWith wsX0_fitsWith) := goodIn_app (goodIn_of _ (by decide +kernel)) ggX0_settle_X0_fitsWith
theorem dX0_settle_0 : decode cX0_settle 0 = .ok (.iconst 0, 1) := by decide +kernel
theorem dX0_settle_1 : decode cX0_settle 1 = .ok (.istore_n 1, 1) := by decide +kernel
theorem dX0_settle_2 : decode cX0_settle 2 = .ok (.iconst 1, 1) := by decide +kernel
theorem dX0_settle_3 : decode cX0_settle 3 = .ok (.aload_n 0, 1) := by decide +kernel
theorem dX0_settle_4 : decode cX0_settle 4 = .ok (.getfield 40, 3) := by decide +kernel
theorem dX0_settle_7 : decode cX0_settle 7 = .ok (.ishl, 1) := by decide +kernel
theorem dX0_settle_8 : decode cX0_settle 8 = .ok (.iconst 1, 1) := by decide +kernel
theorem dX0_settle_9 : decode cX0_settle 9 = .ok (.isub, 1) := by decide +kernel
theorem dX0_settle_10 : decode cX0_settle 10 = .ok (.istore_n 2, 1) := by decide +kernel
theorem dX0_settle_11 : decode cX0_settle 11 = .ok (.iload_n 2, 1) := by decide +kernel
theorem dX0_settle_12 : decode cX0_settle 12 = .ok (.ifCond .lt 19, 3) := by decide +kernel
theorem dX0_settle_15 : decode cX0_settle 15 = .ok (.iload_n 1, 1) := by decide +kernel
theorem dX0_settle_16 : decode cX0_settle 16 = .ok (.ifCond .ne 15, 3) := by decide +kernel
theorem dX0_settle_19 : decode cX0_settle 19 = .ok (.aload_n 0, 1) := by decide +kernel
theorem dX0_settle_20 : decode cX0_settle 20 = .ok (.iload_n 2, 1) := by decide +kernel
theorem dX0_settle_21 : decode cX0_settle 21 = .ok (.invokevirtual 62, 3) := by decide +kernel
theorem dX0_settle_24 : decode cX0_settle 24 = .ok (.istore_n 1, 1) := by decide +kernel
theorem dX0_settle_25 : decode cX0_settle 25 = .ok (.iinc 2 (-1), 3) := by decide +kernel
theorem dX0_settle_28 : decode cX0_settle 28 = .ok (.goto (-17), 3) := by decide +kernel
theorem dX0_settle_31 : decode cX0_settle 31 = .ok (.return_, 1) := by decide +kernel
theorem dX0_below_0 : decode cX0_below 0 = .ok (.aload_n 0, 1) := by decide +kernel
theorem dX0_below_1 : decode cX0_below 1 = .ok (.getfield 27, 3) := by decide +kernel
theorem dX0_below_4 : decode cX0_below 4 = .ok (.lreturn, 1) := by decide +kernel
theorem dX0_partAbove_0 : decode cX0_partAbove 0 = .ok (.iload_n 1, 1) := by decide +kernel
theorem dX0_partAbove_1 : decode cX0_partAbove 1 = .ok (.ifCond .lt 17, 3) := by decide +kernel
theorem dX0_partAbove_4 : decode cX0_partAbove 4 = .ok (.iload_n 1, 1) := by decide +kernel
theorem dX0_partAbove_5 : decode cX0_partAbove 5 = .ok (.iconst 4, 1) := by decide +kernel
theorem dX0_partAbove_6 : decode cX0_partAbove 6 = .ok (.if_icmp .ge 12, 3) := by decide +kernel
theorem dX0_partAbove_9 : decode cX0_partAbove 9 = .ok (.aload_n 0, 1) := by decide +kernel
theorem dX0_partAbove_10 : decode cX0_partAbove 10 = .ok (.getfield 21, 3) := by decide +kernel
theorem dX0_partAbove_13 : decode cX0_partAbove 13 = .ok (.iload_n 1, 1) := by decide +kernel
theorem dX0_partAbove_14 : decode cX0_partAbove 14 = .ok (.laload, 1) := by decide +kernel
theorem dX0_partAbove_15 : decode cX0_partAbove 15 = .ok (.goto 4, 3) := by decide +kernel
theorem dX0_partAbove_18 : decode cX0_partAbove 18 = .ok (.lconst 0, 1) := by decide +kernel
theorem dX0_partAbove_19 : decode cX0_partAbove 19 = .ok (.lreturn, 1) := by decide +kernel
theorem dX0_pressAbove_0 : decode cX0_pressAbove 0 = .ok (.iload_n 1, 1) := by decide +kernel
theorem dX0_pressAbove_1 : decode cX0_pressAbove 1 = .ok (.ifCond .lt 17, 3) := by decide +kernel
theorem dX0_pressAbove_4 : decode cX0_pressAbove 4 = .ok (.iload_n 1, 1) := by decide +kernel
theorem dX0_pressAbove_5 : decode cX0_pressAbove 5 = .ok (.iconst 4, 1) := by decide +kernel
theorem dX0_pressAbove_6 : decode cX0_pressAbove 6 = .ok (.if_icmp .ge 12, 3) := by decide +kernel
theorem dX0_pressAbove_9 : decode cX0_pressAbove 9 = .ok (.aload_n 0, 1) := by decide +kernel
theorem dX0_pressAbove_10 : decode cX0_pressAbove 10 = .ok (.getfield 24, 3) := by decide +kernel
theorem dX0_pressAbove_13 : decode cX0_pressAbove 13 = .ok (.iload_n 1, 1) := by decide +kernel
theorem dX0_pressAbove_14 : decode cX0_pressAbove 14 = .ok (.laload, 1) := by decide +kernel
theorem dX0_pressAbove_15 : decode cX0_pressAbove 15 = .ok (.goto 4, 3) := by decide +kernel
theorem dX0_pressAbove_18 : decode cX0_pressAbove 18 = .ok (.lconst 0, 1) := by decide +kernel
theorem dX0_pressAbove_19 : decode cX0_pressAbove 19 = .ok (.lreturn, 1) := by decide +kernel
theorem dX0_lossAbove_0 : decode cX0_lossAbove 0 = .ok (.aload_n 0, 1) := by decide +kernel
theorem dX0_lossAbove_1 : decode cX0_lossAbove 1 = .ok (.getfield 44, 3) := by decide +kernel
theorem dX0_lossAbove_4 : decode cX0_lossAbove 4 = .ok (.aload_n 0, 1) := by decide +kernel
theorem dX0_lossAbove_5 : decode cX0_lossAbove 5 = .ok (.getfield 27, 3) := by decide +kernel
theorem dX0_lossAbove_8 : decode cX0_lossAbove 8 = .ok (.lmul, 1) := by decide +kernel
theorem dX0_lossAbove_9 : decode cX0_lossAbove 9 = .ok (.lstore_n 1, 1) := by decide +kernel
theorem dX0_lossAbove_10 : decode cX0_lossAbove 10 = .ok (.iconst 0, 1) := by decide +kernel
theorem dX0_lossAbove_11 : decode cX0_lossAbove 11 = .ok (.istore_n 3, 1) := by decide +kernel
theorem dX0_lossAbove_12 : decode cX0_lossAbove 12 = .ok (.iload_n 3, 1) := by decide +kernel
theorem dX0_lossAbove_13 : decode cX0_lossAbove 13 = .ok (.aload_n 0, 1) := by decide +kernel
theorem dX0_lossAbove_14 : decode cX0_lossAbove 14 = .ok (.getfield 40, 3) := by decide +kernel
theorem dX0_lossAbove_17 : decode cX0_lossAbove 17 = .ok (.if_icmp .ge 25, 3) := by decide +kernel
theorem dX0_lossAbove_20 : decode cX0_lossAbove 20 = .ok (.lload_n 1, 1) := by decide +kernel
theorem dX0_lossAbove_21 : decode cX0_lossAbove 21 = .ok (.aload_n 0, 1) := by decide +kernel
theorem dX0_lossAbove_22 : decode cX0_lossAbove 22 = .ok (.getfield 15, 3) := by decide +kernel
theorem dX0_lossAbove_25 : decode cX0_lossAbove 25 = .ok (.iload_n 3, 1) := by decide +kernel
theorem dX0_lossAbove_26 : decode cX0_lossAbove 26 = .ok (.laload, 1) := by decide +kernel
theorem dX0_lossAbove_27 : decode cX0_lossAbove 27 = .ok (.aload_n 0, 1) := by decide +kernel
theorem dX0_lossAbove_28 : decode cX0_lossAbove 28 = .ok (.getfield 21, 3) := by decide +kernel
theorem dX0_lossAbove_31 : decode cX0_lossAbove 31 = .ok (.iload_n 3, 1) := by decide +kernel
theorem dX0_lossAbove_32 : decode cX0_lossAbove 32 = .ok (.laload, 1) := by decide +kernel
theorem dX0_lossAbove_33 : decode cX0_lossAbove 33 = .ok (.lmul, 1) := by decide +kernel
theorem dX0_lossAbove_34 : decode cX0_lossAbove 34 = .ok (.lsub, 1) := by decide +kernel
theorem dX0_lossAbove_35 : decode cX0_lossAbove 35 = .ok (.lstore_n 1, 1) := by decide +kernel
theorem dX0_lossAbove_36 : decode cX0_lossAbove 36 = .ok (.iinc 3 1, 3) := by decide +kernel
theorem dX0_lossAbove_39 : decode cX0_lossAbove 39 = .ok (.goto (-27), 3) := by decide +kernel
theorem dX0_lossAbove_42 : decode cX0_lossAbove 42 = .ok (.lload_n 1, 1) := by decide +kernel
theorem dX0_lossAbove_43 : decode cX0_lossAbove 43 = .ok (.lreturn, 1) := by decide +kernel
theorem dX0_isOfUnitNumbers_0 : decode cX0_isOfUnitNumbers 0 = .ok (.aload_n 0, 1) := by decide +kernel
theorem dX0_isOfUnitNumbers_1 : decode cX0_isOfUnitNumbers 1 = .ok (.getfield 27, 3) := by decide +kernel
theorem dX0_isOfUnitNumbers_4 : decode cX0_isOfUnitNumbers 4 = .ok (.lconst 0, 1) := by decide +kernel
theorem dX0_isOfUnitNumbers_5 : decode cX0_isOfUnitNumbers 5 = .ok (.lcmp, 1) := by decide +kernel
theorem dX0_isOfUnitNumbers_6 : decode cX0_isOfUnitNumbers 6 = .ok (.ifCond .le 7, 3) := by decide +kernel
theorem dX0_isOfUnitNumbers_9 : decode cX0_isOfUnitNumbers 9 = .ok (.iconst 1, 1) := by decide +kernel
theorem dX0_isOfUnitNumbers_10 : decode cX0_isOfUnitNumbers 10 = .ok (.goto 4, 3) := by decide +kernel
theorem dX0_isOfUnitNumbers_13 : decode cX0_isOfUnitNumbers 13 = .ok (.iconst 0, 1) := by decide +kernel
theorem dX0_isOfUnitNumbers_14 : decode cX0_isOfUnitNumbers 14 = .ok (.istore_n 1, 1) := by decide +kernel
theorem dX0_isOfUnitNumbers_15 : decode cX0_isOfUnitNumbers 15 = .ok (.iconst 0, 1) := by decide +kernel
theorem dX0_isOfUnitNumbers_16 : decode cX0_isOfUnitNumbers 16 = .ok (.istore_n 2, 1) := by decide +kernel
theorem dX0_isOfUnitNumbers_17 : decode cX0_isOfUnitNumbers 17 = .ok (.iload_n 2, 1) := by decide +kernel
theorem dX0_isOfUnitNumbers_18 : decode cX0_isOfUnitNumbers 18 = .ok (.aload_n 0, 1) := by decide +kernel
theorem dX0_isOfUnitNumbers_19 : decode cX0_isOfUnitNumbers 19 = .ok (.getfield 40, 3) := by decide +kernel
theorem dX0_isOfUnitNumbers_22 : decode cX0_isOfUnitNumbers 22 = .ok (.if_icmp .ge 62, 3) := by decide +kernel
theorem dX0_isOfUnitNumbers_25 : decode cX0_isOfUnitNumbers 25 = .ok (.iload_n 1, 1) := by decide +kernel
theorem dX0_isOfUnitNumbers_26 : decode cX0_isOfUnitNumbers 26 = .ok (.ifCond .eq 58, 3) := by decide +kernel
theorem dX0_isOfUnitNumbers_29 : decode cX0_isOfUnitNumbers 29 = .ok (.aload_n 0, 1) := by decide +kernel
theorem dX0_isOfUnitNumbers_30 : decode cX0_isOfUnitNumbers 30 = .ok (.getfield 27, 3) := by decide +kernel
theorem dX0_isOfUnitNumbers_33 : decode cX0_isOfUnitNumbers 33 = .ok (.lconst 0, 1) := by decide +kernel
theorem dX0_isOfUnitNumbers_34 : decode cX0_isOfUnitNumbers 34 = .ok (.lcmp, 1) := by decide +kernel
theorem dX0_isOfUnitNumbers_35 : decode cX0_isOfUnitNumbers 35 = .ok (.ifCond .le 41, 3) := by decide +kernel
theorem dX0_isOfUnitNumbers_38 : decode cX0_isOfUnitNumbers 38 = .ok (.aload_n 0, 1) := by decide +kernel
theorem dX0_isOfUnitNumbers_39 : decode cX0_isOfUnitNumbers 39 = .ok (.getfield 21, 3) := by decide +kernel
theorem dX0_isOfUnitNumbers_42 : decode cX0_isOfUnitNumbers 42 = .ok (.iload_n 2, 1) := by decide +kernel
theorem dX0_isOfUnitNumbers_43 : decode cX0_isOfUnitNumbers 43 = .ok (.laload, 1) := by decide +kernel
theorem dX0_isOfUnitNumbers_44 : decode cX0_isOfUnitNumbers 44 = .ok (.aload_n 0, 1) := by decide +kernel
theorem dX0_isOfUnitNumbers_45 : decode cX0_isOfUnitNumbers 45 = .ok (.getfield 27, 3) := by decide +kernel
theorem dX0_isOfUnitNumbers_48 : decode cX0_isOfUnitNumbers 48 = .ok (.lrem, 1) := by decide +kernel
theorem dX0_isOfUnitNumbers_49 : decode cX0_isOfUnitNumbers 49 = .ok (.lconst 0, 1) := by decide +kernel
theorem dX0_isOfUnitNumbers_50 : decode cX0_isOfUnitNumbers 50 = .ok (.lcmp, 1) := by decide +kernel
theorem dX0_isOfUnitNumbers_51 : decode cX0_isOfUnitNumbers 51 = .ok (.ifCond .ne 25, 3) := by decide +kernel
theorem dX0_isOfUnitNumbers_54 : decode cX0_isOfUnitNumbers 54 = .ok (.aload_n 0, 1) := by decide +kernel
theorem dX0_isOfUnitNumbers_55 : decode cX0_isOfUnitNumbers 55 = .ok (.getfield 21, 3) := by decide +kernel
theorem dX0_isOfUnitNumbers_58 : decode cX0_isOfUnitNumbers 58 = .ok (.iload_n 2, 1) := by decide +kernel
theorem dX0_isOfUnitNumbers_59 : decode cX0_isOfUnitNumbers 59 = .ok (.laload, 1) := by decide +kernel
theorem dX0_isOfUnitNumbers_60 : decode cX0_isOfUnitNumbers 60 = .ok (.aload_n 0, 1) := by decide +kernel
theorem dX0_isOfUnitNumbers_61 : decode cX0_isOfUnitNumbers 61 = .ok (.getfield 27, 3) := by decide +kernel
theorem dX0_isOfUnitNumbers_64 : decode cX0_isOfUnitNumbers 64 = .ok (.ldiv, 1) := by decide +kernel
theorem dX0_isOfUnitNumbers_65 : decode cX0_isOfUnitNumbers 65 = .ok (.ldc2_w 66, 3) := by decide +kernel
theorem dX0_isOfUnitNumbers_68 : decode cX0_isOfUnitNumbers 68 = .ok (.lcmp, 1) := by decide +kernel
theorem dX0_isOfUnitNumbers_69 : decode cX0_isOfUnitNumbers 69 = .ok (.ifCond .gt 7, 3) := by decide +kernel
theorem dX0_isOfUnitNumbers_72 : decode cX0_isOfUnitNumbers 72 = .ok (.iconst 1, 1) := by decide +kernel
theorem dX0_isOfUnitNumbers_73 : decode cX0_isOfUnitNumbers 73 = .ok (.goto 4, 3) := by decide +kernel
theorem dX0_isOfUnitNumbers_76 : decode cX0_isOfUnitNumbers 76 = .ok (.iconst 0, 1) := by decide +kernel
theorem dX0_isOfUnitNumbers_77 : decode cX0_isOfUnitNumbers 77 = .ok (.istore_n 1, 1) := by decide +kernel
theorem dX0_isOfUnitNumbers_78 : decode cX0_isOfUnitNumbers 78 = .ok (.iinc 2 1, 3) := by decide +kernel
theorem dX0_isOfUnitNumbers_81 : decode cX0_isOfUnitNumbers 81 = .ok (.goto (-64), 3) := by decide +kernel
theorem dX0_isOfUnitNumbers_84 : decode cX0_isOfUnitNumbers 84 = .ok (.iload_n 1, 1) := by decide +kernel
theorem dX0_isOfUnitNumbers_85 : decode cX0_isOfUnitNumbers 85 = .ok (.ireturn, 1) := by decide +kernel
set_option maxRecDepth 20000 in
theorem ggX0_writeInto_X2_clear : GoodIn wsX0_writeInto wsX2_clear := goodIn_r _ [8, 9, 23, 24] (by decide +kernel) (by decide +kernel)
set_option maxRecDepth 20000 in
theorem gX0_writeInto_X2_clear : GoodIn wsX0_writeInto (wsV RX0 68 RX2 yX2_clear wsX2_clear) := goodIn_app (goodIn_of _ (by decide +kernel)) ggX0_writeInto_X2_clear
set_option maxRecDepth 20000 in
theorem ggX0_writeInto_X2_add : GoodIn wsX0_writeInto wsX2_add := goodIn_r _ [13, 9, 14, 23, 24] (by decide +kernel) (by decide +kernel)
set_option maxRecDepth 20000 in
theorem gX0_writeInto_X2_add : GoodIn wsX0_writeInto (wsV RX0 71 RX2 yX2_add wsX2_add) := goodIn_app (goodIn_of _ (by decide +kernel)) ggX0_writeInto_X2_add
theorem dX0_writeInto_0 : decode cX0_writeInto 0 = .ok (.aload_n 1, 1) := by decide +kernel
theorem dX0_writeInto_1 : decode cX0_writeInto 1 = .ok (.invokevirtual 68, 3) := by decide +kernel
theorem dX0_writeInto_4 : decode cX0_writeInto 4 = .ok (.iconst 0, 1) := by decide +kernel
theorem dX0_writeInto_5 : decode cX0_writeInto 5 = .ok (.istore_n 2, 1) := by decide +kernel
theorem dX0_writeInto_6 : decode cX0_writeInto 6 = .ok (.iload_n 2, 1) := by decide +kernel
theorem dX0_writeInto_7 : decode cX0_writeInto 7 = .ok (.aload_n 0, 1) := by decide +kernel
theorem dX0_writeInto_8 : decode cX0_writeInto 8 = .ok (.getfield 40, 3) := by decide +kernel
theorem dX0_writeInto_11 : decode cX0_writeInto 11 = .ok (.if_icmp .ge 34, 3) := by decide +kernel
theorem dX0_writeInto_14 : decode cX0_writeInto 14 = .ok (.aload_n 0, 1) := by decide +kernel
theorem dX0_writeInto_15 : decode cX0_writeInto 15 = .ok (.getfield 27, 3) := by decide +kernel
theorem dX0_writeInto_18 : decode cX0_writeInto 18 = .ok (.lconst 0, 1) := by decide +kernel
theorem dX0_writeInto_19 : decode cX0_writeInto 19 = .ok (.lcmp, 1) := by decide +kernel
theorem dX0_writeInto_20 : decode cX0_writeInto 20 = .ok (.ifCond .le 25, 3) := by decide +kernel
theorem dX0_writeInto_23 : decode cX0_writeInto 23 = .ok (.aload_n 1, 1) := by decide +kernel
theorem dX0_writeInto_24 : decode cX0_writeInto 24 = .ok (.aload_n 0, 1) := by decide +kernel
theorem dX0_writeInto_25 : decode cX0_writeInto 25 = .ok (.getfield 21, 3) := by decide +kernel
theorem dX0_writeInto_28 : decode cX0_writeInto 28 = .ok (.iload_n 2, 1) := by decide +kernel
theorem dX0_writeInto_29 : decode cX0_writeInto 29 = .ok (.laload, 1) := by decide +kernel
theorem dX0_writeInto_30 : decode cX0_writeInto 30 = .ok (.aload_n 0, 1) := by decide +kernel
theorem dX0_writeInto_31 : decode cX0_writeInto 31 = .ok (.getfield 27, 3) := by decide +kernel
theorem dX0_writeInto_34 : decode cX0_writeInto 34 = .ok (.ldiv, 1) := by decide +kernel
theorem dX0_writeInto_35 : decode cX0_writeInto 35 = .ok (.l2i, 1) := by decide +kernel
theorem dX0_writeInto_36 : decode cX0_writeInto 36 = .ok (.invokevirtual 71, 3) := by decide +kernel
theorem dX0_writeInto_39 : decode cX0_writeInto 39 = .ok (.iinc 2 1, 3) := by decide +kernel
theorem dX0_writeInto_42 : decode cX0_writeInto 42 = .ok (.goto (-36), 3) := by decide +kernel
theorem dX0_writeInto_45 : decode cX0_writeInto 45 = .ok (.return_, 1) := by decide +kernel
set_option maxRecDepth 20000 in
theorem ggX0_fitsWith_X0_determinant : GoodIn wsX0_fitsWith wsX0_determinant := goodIn_r _ [9, 10, 11, 12, 13, 8, 14, 15, 16, 17, 18, 19, 20, 21, 22, 23, 24, 25, 26, 27, 32, 33, 34, 35, 36, 37, 38, 39] (by decide +kernel) (by decide +kernel)
set_option maxRecDepth 20000 in
theorem gX0_fitsWith_X0_determinant : GoodIn wsX0_fitsWith (wsV RX0 75 RX0 yX0_determinant wsX0_determinant) := goodIn_app (goodIn_of _ (by decide +kernel)) ggX0_fitsWith_X0_determinant
set_option maxRecDepth 20000 in
theorem ggX0_fitsWith_X0_isFree : GoodIn wsX0_fitsWith wsX0_isFree := goodIn_r _ [23] (by decide +kernel) (by decide +kernel)
set_option maxRecDepth 20000 in
theorem gX0_fitsWith_X0_isFree : GoodIn wsX0_fitsWith (va_wsS RX0 79 yX0_isFree wsX0_isFree) := goodIn_app (goodIn_of _ (by decide +kernel)) ggX0_fitsWith_X0_isFree
set_option maxRecDepth 20000 in
theorem ggX0_fitsWith_X0_pressOn : GoodIn wsX0_fitsWith wsX0_pressOn := goodIn_r _ [31, 15, 1, 2, 16, 17, 18, 19, 20, 3, 32, 33, 34, 35, 36, 37, 38, 39] (by decide +kernel) (by decide +kernel)
set_option maxRecDepth 20000 in
theorem gX0_fitsWith_X0_pressOn : GoodIn wsX0_fitsWith (wsV RX0 83 RX0 yX0_pressOn wsX0_pressOn) := goodIn_app (goodIn_of _ (by decide +kernel)) ggX0_fitsWith_X0_pressOn
theorem dX0_fitsWith_0 : decode cX0_fitsWith 0 = .ok (.aload_n 0, 1) := by decide +kernel
theorem dX0_fitsWith_1 : decode cX0_fitsWith 1 = .ok (.aload_n 0, 1) := by decide +kernel
theorem dX0_fitsWith_2 : decode cX0_fitsWith 2 = .ok (.iload_n 1, 1) := by decide +kernel
theorem dX0_fitsWith_3 : decode cX0_fitsWith 3 = .ok (.iconst 4, 1) := by decide +kernel
theorem dX0_fitsWith_4 : decode cX0_fitsWith 4 = .ok (.invokevirtual 75, 3) := by decide +kernel
theorem dX0_fitsWith_7 : decode cX0_fitsWith 7 = .ok (.putfield 27, 3) := by decide +kernel
theorem dX0_fitsWith_10 : decode cX0_fitsWith 10 = .ok (.aload_n 0, 1) := by decide +kernel
theorem dX0_fitsWith_11 : decode cX0_fitsWith 11 = .ok (.getfield 27, 3) := by decide +kernel
theorem dX0_fitsWith_14 : decode cX0_fitsWith 14 = .ok (.lconst 0, 1) := by decide +kernel
theorem dX0_fitsWith_15 : decode cX0_fitsWith 15 = .ok (.lcmp, 1) := by decide +kernel
theorem dX0_fitsWith_16 : decode cX0_fitsWith 16 = .ok (.ifCond .le 7, 3) := by decide +kernel
theorem dX0_fitsWith_19 : decode cX0_fitsWith 19 = .ok (.iconst 1, 1) := by decide +kernel
theorem dX0_fitsWith_20 : decode cX0_fitsWith 20 = .ok (.goto 4, 3) := by decide +kernel
theorem dX0_fitsWith_23 : decode cX0_fitsWith 23 = .ok (.iconst 0, 1) := by decide +kernel
theorem dX0_fitsWith_24 : decode cX0_fitsWith 24 = .ok (.istore_n 2, 1) := by decide +kernel
theorem dX0_fitsWith_25 : decode cX0_fitsWith 25 = .ok (.iconst 0, 1) := by decide +kernel
theorem dX0_fitsWith_26 : decode cX0_fitsWith 26 = .ok (.istore_n 3, 1) := by decide +kernel
theorem dX0_fitsWith_27 : decode cX0_fitsWith 27 = .ok (.iload_n 3, 1) := by decide +kernel
theorem dX0_fitsWith_28 : decode cX0_fitsWith 28 = .ok (.aload_n 0, 1) := by decide +kernel
theorem dX0_fitsWith_29 : decode cX0_fitsWith 29 = .ok (.getfield 40, 3) := by decide +kernel
theorem dX0_fitsWith_32 : decode cX0_fitsWith 32 = .ok (.if_icmp .ge 54, 3) := by decide +kernel
theorem dX0_fitsWith_35 : decode cX0_fitsWith 35 = .ok (.iload_n 2, 1) := by decide +kernel
theorem dX0_fitsWith_36 : decode cX0_fitsWith 36 = .ok (.ifCond .eq 50, 3) := by decide +kernel
theorem dX0_fitsWith_39 : decode cX0_fitsWith 39 = .ok (.aload_n 0, 1) := by decide +kernel
theorem dX0_fitsWith_40 : decode cX0_fitsWith 40 = .ok (.getfield 21, 3) := by decide +kernel
theorem dX0_fitsWith_43 : decode cX0_fitsWith 43 = .ok (.iload_n 3, 1) := by decide +kernel
theorem dX0_fitsWith_44 : decode cX0_fitsWith 44 = .ok (.iload_n 1, 1) := by decide +kernel
theorem dX0_fitsWith_45 : decode cX0_fitsWith 45 = .ok (.iload_n 3, 1) := by decide +kernel
theorem dX0_fitsWith_46 : decode cX0_fitsWith 46 = .ok (.invokestatic 79, 3) := by decide +kernel
theorem dX0_fitsWith_49 : decode cX0_fitsWith 49 = .ok (.ifCond .eq 12, 3) := by decide +kernel
theorem dX0_fitsWith_52 : decode cX0_fitsWith 52 = .ok (.aload_n 0, 1) := by decide +kernel
theorem dX0_fitsWith_53 : decode cX0_fitsWith 53 = .ok (.iload_n 1, 1) := by decide +kernel
theorem dX0_fitsWith_54 : decode cX0_fitsWith 54 = .ok (.iload_n 3, 1) := by decide +kernel
theorem dX0_fitsWith_55 : decode cX0_fitsWith 55 = .ok (.invokevirtual 75, 3) := by decide +kernel
theorem dX0_fitsWith_58 : decode cX0_fitsWith 58 = .ok (.goto 4, 3) := by decide +kernel
theorem dX0_fitsWith_61 : decode cX0_fitsWith 61 = .ok (.lconst 0, 1) := by decide +kernel
theorem dX0_fitsWith_62 : decode cX0_fitsWith 62 = .ok (.lastore, 1) := by decide +kernel
theorem dX0_fitsWith_63 : decode cX0_fitsWith 63 = .ok (.aload_n 0, 1) := by decide +kernel
theorem dX0_fitsWith_64 : decode cX0_fitsWith 64 = .ok (.getfield 21, 3) := by decide +kernel
theorem dX0_fitsWith_67 : decode cX0_fitsWith 67 = .ok (.iload_n 3, 1) := by decide +kernel
theorem dX0_fitsWith_68 : decode cX0_fitsWith 68 = .ok (.laload, 1) := by decide +kernel
theorem dX0_fitsWith_69 : decode cX0_fitsWith 69 = .ok (.lconst 0, 1) := by decide +kernel
theorem dX0_fitsWith_70 : decode cX0_fitsWith 70 = .ok (.lcmp, 1) := by decide +kernel
theorem dX0_fitsWith_71 : decode cX0_fitsWith 71 = .ok (.ifCond .lt 7, 3) := by decide +kernel
theorem dX0_fitsWith_74 : decode cX0_fitsWith 74 = .ok (.iconst 1, 1) := by decide +kernel
theorem dX0_fitsWith_75 : decode cX0_fitsWith 75 = .ok (.goto 4, 3) := by decide +kernel
theorem dX0_fitsWith_78 : decode cX0_fitsWith 78 = .ok (.iconst 0, 1) := by decide +kernel
theorem dX0_fitsWith_79 : decode cX0_fitsWith 79 = .ok (.istore_n 2, 1) := by decide +kernel
theorem dX0_fitsWith_80 : decode cX0_fitsWith 80 = .ok (.iinc 3 1, 3) := by decide +kernel
theorem dX0_fitsWith_83 : decode cX0_fitsWith 83 = .ok (.goto (-56), 3) := by decide +kernel
theorem dX0_fitsWith_86 : decode cX0_fitsWith 86 = .ok (.iconst 0, 1) := by decide +kernel
theorem dX0_fitsWith_87 : decode cX0_fitsWith 87 = .ok (.istore_n 3, 1) := by decide +kernel
theorem dX0_fitsWith_88 : decode cX0_fitsWith 88 = .ok (.iload_n 3, 1) := by decide +kernel
theorem dX0_fitsWith_89 : decode cX0_fitsWith 89 = .ok (.aload_n 0, 1) := by decide +kernel
theorem dX0_fitsWith_90 : decode cX0_fitsWith 90 = .ok (.getfield 40, 3) := by decide +kernel
theorem dX0_fitsWith_93 : decode cX0_fitsWith 93 = .ok (.if_icmp .ge 41, 3) := by decide +kernel
theorem dX0_fitsWith_96 : decode cX0_fitsWith 96 = .ok (.iload_n 2, 1) := by decide +kernel
theorem dX0_fitsWith_97 : decode cX0_fitsWith 97 = .ok (.ifCond .eq 37, 3) := by decide +kernel
theorem dX0_fitsWith_100 : decode cX0_fitsWith 100 = .ok (.aload_n 0, 1) := by decide +kernel
theorem dX0_fitsWith_101 : decode cX0_fitsWith 101 = .ok (.getfield 24, 3) := by decide +kernel
theorem dX0_fitsWith_104 : decode cX0_fitsWith 104 = .ok (.iload_n 3, 1) := by decide +kernel
theorem dX0_fitsWith_105 : decode cX0_fitsWith 105 = .ok (.aload_n 0, 1) := by decide +kernel
theorem dX0_fitsWith_106 : decode cX0_fitsWith 106 = .ok (.iload_n 3, 1) := by decide +kernel
theorem dX0_fitsWith_107 : decode cX0_fitsWith 107 = .ok (.invokevirtual 83, 3) := by decide +kernel
theorem dX0_fitsWith_110 : decode cX0_fitsWith 110 = .ok (.lastore, 1) := by decide +kernel
theorem dX0_fitsWith_111 : decode cX0_fitsWith 111 = .ok (.aload_n 0, 1) := by decide +kernel
theorem dX0_fitsWith_112 : decode cX0_fitsWith 112 = .ok (.getfield 24, 3) := by decide +kernel
theorem dX0_fitsWith_115 : decode cX0_fitsWith 115 = .ok (.iload_n 3, 1) := by decide +kernel
theorem dX0_fitsWith_116 : decode cX0_fitsWith 116 = .ok (.laload, 1) := by decide +kernel
theorem dX0_fitsWith_117 : decode cX0_fitsWith 117 = .ok (.lconst 0, 1) := by decide +kernel
theorem dX0_fitsWith_118 : decode cX0_fitsWith 118 = .ok (.lcmp, 1) := by decide +kernel
theorem dX0_fitsWith_119 : decode cX0_fitsWith 119 = .ok (.ifCond .lt 7, 3) := by decide +kernel
theorem dX0_fitsWith_122 : decode cX0_fitsWith 122 = .ok (.iconst 1, 1) := by decide +kernel
theorem dX0_fitsWith_123 : decode cX0_fitsWith 123 = .ok (.goto 4, 3) := by decide +kernel
theorem dX0_fitsWith_126 : decode cX0_fitsWith 126 = .ok (.iconst 0, 1) := by decide +kernel
theorem dX0_fitsWith_127 : decode cX0_fitsWith 127 = .ok (.istore_n 2, 1) := by decide +kernel
theorem dX0_fitsWith_128 : decode cX0_fitsWith 128 = .ok (.iinc 3 1, 3) := by decide +kernel
theorem dX0_fitsWith_131 : decode cX0_fitsWith 131 = .ok (.goto (-43), 3) := by decide +kernel
theorem dX0_fitsWith_134 : decode cX0_fitsWith 134 = .ok (.iload_n 2, 1) := by decide +kernel
theorem dX0_fitsWith_135 : decode cX0_fitsWith 135 = .ok (.ireturn, 1) := by decide +kernel
theorem dX0_isFree_0 : decode cX0_isFree 0 = .ok (.iload_n 0, 1) := by decide +kernel
theorem dX0_isFree_1 : decode cX0_isFree 1 = .ok (.iload_n 1, 1) := by decide +kernel
theorem dX0_isFree_2 : decode cX0_isFree 2 = .ok (.ishr, 1) := by decide +kernel
theorem dX0_isFree_3 : decode cX0_isFree 3 = .ok (.iconst 1, 1) := by decide +kernel
theorem dX0_isFree_4 : decode cX0_isFree 4 = .ok (.iand, 1) := by decide +kernel
theorem dX0_isFree_5 : decode cX0_isFree 5 = .ok (.iconst 1, 1) := by decide +kernel
theorem dX0_isFree_6 : decode cX0_isFree 6 = .ok (.if_icmp .ne 7, 3) := by decide +kernel
theorem dX0_isFree_9 : decode cX0_isFree 9 = .ok (.iconst 1, 1) := by decide +kernel
theorem dX0_isFree_10 : decode cX0_isFree 10 = .ok (.goto 4, 3) := by decide +kernel
theorem dX0_isFree_13 : decode cX0_isFree 13 = .ok (.iconst 0, 1) := by decide +kernel
theorem dX0_isFree_14 : decode cX0_isFree 14 = .ok (.ireturn, 1) := by decide +kernel
theorem dX0_pressOn_0 : decode cX0_pressOn 0 = .ok (.aload_n 0, 1) := by decide +kernel
theorem dX0_pressOn_1 : decode cX0_pressOn 1 = .ok (.getfield 15, 3) := by decide +kernel
theorem dX0_pressOn_4 : decode cX0_pressOn 4 = .ok (.iload_n 1, 1) := by decide +kernel
theorem dX0_pressOn_5 : decode cX0_pressOn 5 = .ok (.laload, 1) := by decide +kernel
theorem dX0_pressOn_6 : decode cX0_pressOn 6 = .ok (.lneg, 1) := by decide +kernel
theorem dX0_pressOn_7 : decode cX0_pressOn 7 = .ok (.aload_n 0, 1) := by decide +kernel
theorem dX0_pressOn_8 : decode cX0_pressOn 8 = .ok (.getfield 27, 3) := by decide +kernel
theorem dX0_pressOn_11 : decode cX0_pressOn 11 = .ok (.lmul, 1) := by decide +kernel
theorem dX0_pressOn_12 : decode cX0_pressOn 12 = .ok (.lstore_n 2, 1) := by decide +kernel
theorem dX0_pressOn_13 : decode cX0_pressOn 13 = .ok (.iconst 0, 1) := by decide +kernel
theorem dX0_pressOn_14 : decode cX0_pressOn 14 = .ok (.istore 4, 2) := by decide +kernel
theorem dX0_pressOn_16 : decode cX0_pressOn 16 = .ok (.iload 4, 2) := by decide +kernel
theorem dX0_pressOn_18 : decode cX0_pressOn 18 = .ok (.aload_n 0, 1) := by decide +kernel
theorem dX0_pressOn_19 : decode cX0_pressOn 19 = .ok (.getfield 40, 3) := by decide +kernel
theorem dX0_pressOn_22 : decode cX0_pressOn 22 = .ok (.if_icmp .ge 32, 3) := by decide +kernel
theorem dX0_pressOn_25 : decode cX0_pressOn 25 = .ok (.lload_n 2, 1) := by decide +kernel
theorem dX0_pressOn_26 : decode cX0_pressOn 26 = .ok (.aload_n 0, 1) := by decide +kernel
theorem dX0_pressOn_27 : decode cX0_pressOn 27 = .ok (.getfield 9, 3) := by decide +kernel
theorem dX0_pressOn_30 : decode cX0_pressOn 30 = .ok (.iload 4, 2) := by decide +kernel
theorem dX0_pressOn_32 : decode cX0_pressOn 32 = .ok (.iload_n 1, 1) := by decide +kernel
theorem dX0_pressOn_33 : decode cX0_pressOn 33 = .ok (.isub, 1) := by decide +kernel
theorem dX0_pressOn_34 : decode cX0_pressOn 34 = .ok (.invokestatic 87, 3) := by decide +kernel
theorem dX0_pressOn_37 : decode cX0_pressOn 37 = .ok (.laload, 1) := by decide +kernel
theorem dX0_pressOn_38 : decode cX0_pressOn 38 = .ok (.aload_n 0, 1) := by decide +kernel
theorem dX0_pressOn_39 : decode cX0_pressOn 39 = .ok (.getfield 21, 3) := by decide +kernel
theorem dX0_pressOn_42 : decode cX0_pressOn 42 = .ok (.iload 4, 2) := by decide +kernel
theorem dX0_pressOn_44 : decode cX0_pressOn 44 = .ok (.laload, 1) := by decide +kernel
theorem dX0_pressOn_45 : decode cX0_pressOn 45 = .ok (.lmul, 1) := by decide +kernel
theorem dX0_pressOn_46 : decode cX0_pressOn 46 = .ok (.ladd, 1) := by decide +kernel
theorem dX0_pressOn_47 : decode cX0_pressOn 47 = .ok (.lstore_n 2, 1) := by decide +kernel
theorem dX0_pressOn_48 : decode cX0_pressOn 48 = .ok (.iinc 4 1, 3) := by decide +kernel
theorem dX0_pressOn_51 : decode cX0_pressOn 51 = .ok (.goto (-35), 3) := by decide +kernel
theorem dX0_pressOn_54 : decode cX0_pressOn 54 = .ok (.lload_n 2, 1) := by decide +kernel
theorem dX0_pressOn_55 : decode cX0_pressOn 55 = .ok (.lreturn, 1) := by decide +kernel
set_option maxRecDepth 20000 in
theorem ggX0_determinant_X0_entry : GoodIn wsX0_determinant wsX0_entry := goodIn_r _ [6, 7, 8, 9, 10, 11, 12, 13, 14, 5, 15, 20, 21, 22, 23, 24, 25, 26, 27] (by decide +kernel) (by decide +kernel)
set_option maxRecDepth 20000 in
theorem gX0_determinant_X0_entry : GoodIn wsX0_determinant (wsV RX0 90 RX0 yX0_entry wsX0_entry) := goodIn_app (goodIn_of _ (by decide +kernel)) ggX0_determinant_X0_entry
set_option maxRecDepth 20000 in
theorem ggX0_determinant_X0_minor : GoodIn wsX0_determinant wsX0_minor := goodIn_r _ [19, 1, 20, 21, 22, 23, 24, 25, 26, 27] (by decide +kernel) (by decide +kernel)
set_option maxRecDepth 20000 in
theorem gX0_determinant_X0_minor : GoodIn wsX0_determinant (wsV RX0 94 RX0 yX0_minor wsX0_minor) := goodIn_app (goodIn_of _ (by decide +kernel)) ggX0_determinant_X0_minor
theorem dX0_determinant_0 : decode cX0_determinant 0 = .ok (.iconst 0, 1) := by decide +kernel
theorem dX0_determinant_1 : decode cX0_determinant 1 = .ok (.istore_n 3, 1) := by decide +kernel
theorem dX0_determinant_2 : decode cX0_determinant 2 = .ok (.iload_n 3, 1) := by decide +kernel
theorem dX0_determinant_3 : decode cX0_determinant 3 = .ok (.iconst 4, 1) := by decide +kernel
theorem dX0_determinant_4 : decode cX0_determinant 4 = .ok (.if_icmp .ge 44, 3) := by decide +kernel
theorem dX0_determinant_7 : decode cX0_determinant 7 = .ok (.iconst 0, 1) := by decide +kernel
theorem dX0_determinant_8 : decode cX0_determinant 8 = .ok (.istore 4, 2) := by decide +kernel
theorem dX0_determinant_10 : decode cX0_determinant 10 = .ok (.iload 4, 2) := by decide +kernel
theorem dX0_determinant_12 : decode cX0_determinant 12 = .ok (.iconst 4, 1) := by decide +kernel
theorem dX0_determinant_13 : decode cX0_determinant 13 = .ok (.if_icmp .ge 29, 3) := by decide +kernel
theorem dX0_determinant_16 : decode cX0_determinant 16 = .ok (.aload_n 0, 1) := by decide +kernel
theorem dX0_determinant_17 : decode cX0_determinant 17 = .ok (.getfield 18, 3) := by decide +kernel
theorem dX0_determinant_20 : decode cX0_determinant 20 = .ok (.iload_n 3, 1) := by decide +kernel
theorem dX0_determinant_21 : decode cX0_determinant 21 = .ok (.iconst 4, 1) := by decide +kernel
theorem dX0_determinant_22 : decode cX0_determinant 22 = .ok (.imul, 1) := by decide +kernel
theorem dX0_determinant_23 : decode cX0_determinant 23 = .ok (.iload 4, 2) := by decide +kernel
theorem dX0_determinant_25 : decode cX0_determinant 25 = .ok (.iadd, 1) := by decide +kernel
theorem dX0_determinant_26 : decode cX0_determinant 26 = .ok (.aload_n 0, 1) := by decide +kernel
theorem dX0_determinant_27 : decode cX0_determinant 27 = .ok (.iload_n 1, 1) := by decide +kernel
theorem dX0_determinant_28 : decode cX0_determinant 28 = .ok (.iload_n 3, 1) := by decide +kernel
theorem dX0_determinant_29 : decode cX0_determinant 29 = .ok (.iload 4, 2) := by decide +kernel
theorem dX0_determinant_31 : decode cX0_determinant 31 = .ok (.iload_n 2, 1) := by decide +kernel
theorem dX0_determinant_32 : decode cX0_determinant 32 = .ok (.invokevirtual 90, 3) := by decide +kernel
theorem dX0_determinant_35 : decode cX0_determinant 35 = .ok (.lastore, 1) := by decide +kernel
theorem dX0_determinant_36 : decode cX0_determinant 36 = .ok (.iinc 4 1, 3) := by decide +kernel
theorem dX0_determinant_39 : decode cX0_determinant 39 = .ok (.goto (-29), 3) := by decide +kernel
theorem dX0_determinant_42 : decode cX0_determinant 42 = .ok (.iinc 3 1, 3) := by decide +kernel
theorem dX0_determinant_45 : decode cX0_determinant 45 = .ok (.goto (-43), 3) := by decide +kernel
theorem dX0_determinant_48 : decode cX0_determinant 48 = .ok (.lconst 0, 1) := by decide +kernel
theorem dX0_determinant_49 : decode cX0_determinant 49 = .ok (.lstore_n 3, 1) := by decide +kernel
theorem dX0_determinant_50 : decode cX0_determinant 50 = .ok (.lload_n 3, 1) := by decide +kernel
theorem dX0_determinant_51 : decode cX0_determinant 51 = .ok (.aload_n 0, 1) := by decide +kernel
theorem dX0_determinant_52 : decode cX0_determinant 52 = .ok (.iconst 0, 1) := by decide +kernel
theorem dX0_determinant_53 : decode cX0_determinant 53 = .ok (.iconst 0, 1) := by decide +kernel
theorem dX0_determinant_54 : decode cX0_determinant 54 = .ok (.iconst 1, 1) := by decide +kernel
theorem dX0_determinant_55 : decode cX0_determinant 55 = .ok (.invokevirtual 94, 3) := by decide +kernel
theorem dX0_determinant_58 : decode cX0_determinant 58 = .ok (.aload_n 0, 1) := by decide +kernel
theorem dX0_determinant_59 : decode cX0_determinant 59 = .ok (.bipush 8, 2) := by decide +kernel
theorem dX0_determinant_61 : decode cX0_determinant 61 = .ok (.iconst 2, 1) := by decide +kernel
theorem dX0_determinant_62 : decode cX0_determinant 62 = .ok (.iconst 3, 1) := by decide +kernel
theorem dX0_determinant_63 : decode cX0_determinant 63 = .ok (.invokevirtual 94, 3) := by decide +kernel
theorem dX0_determinant_66 : decode cX0_determinant 66 = .ok (.lmul, 1) := by decide +kernel
theorem dX0_determinant_67 : decode cX0_determinant 67 = .ok (.ladd, 1) := by decide +kernel
theorem dX0_determinant_68 : decode cX0_determinant 68 = .ok (.lstore_n 3, 1) := by decide +kernel
theorem dX0_determinant_69 : decode cX0_determinant 69 = .ok (.lload_n 3, 1) := by decide +kernel
theorem dX0_determinant_70 : decode cX0_determinant 70 = .ok (.aload_n 0, 1) := by decide +kernel
theorem dX0_determinant_71 : decode cX0_determinant 71 = .ok (.iconst 0, 1) := by decide +kernel
theorem dX0_determinant_72 : decode cX0_determinant 72 = .ok (.iconst 0, 1) := by decide +kernel
theorem dX0_determinant_73 : decode cX0_determinant 73 = .ok (.iconst 2, 1) := by decide +kernel
theorem dX0_determinant_74 : decode cX0_determinant 74 = .ok (.invokevirtual 94, 3) := by decide +kernel
theorem dX0_determinant_77 : decode cX0_determinant 77 = .ok (.aload_n 0, 1) := by decide +kernel
theorem dX0_determinant_78 : decode cX0_determinant 78 = .ok (.bipush 8, 2) := by decide +kernel
theorem dX0_determinant_80 : decode cX0_determinant 80 = .ok (.iconst 1, 1) := by decide +kernel
theorem dX0_determinant_81 : decode cX0_determinant 81 = .ok (.iconst 3, 1) := by decide +kernel
theorem dX0_determinant_82 : decode cX0_determinant 82 = .ok (.invokevirtual 94, 3) := by decide +kernel
theorem dX0_determinant_85 : decode cX0_determinant 85 = .ok (.lmul, 1) := by decide +kernel
theorem dX0_determinant_86 : decode cX0_determinant 86 = .ok (.lsub, 1) := by decide +kernel
theorem dX0_determinant_87 : decode cX0_determinant 87 = .ok (.lstore_n 3, 1) := by decide +kernel
theorem dX0_determinant_88 : decode cX0_determinant 88 = .ok (.lload_n 3, 1) := by decide +kernel
theorem dX0_determinant_89 : decode cX0_determinant 89 = .ok (.aload_n 0, 1) := by decide +kernel
theorem dX0_determinant_90 : decode cX0_determinant 90 = .ok (.iconst 0, 1) := by decide +kernel
theorem dX0_determinant_91 : decode cX0_determinant 91 = .ok (.iconst 0, 1) := by decide +kernel
theorem dX0_determinant_92 : decode cX0_determinant 92 = .ok (.iconst 3, 1) := by decide +kernel
theorem dX0_determinant_93 : decode cX0_determinant 93 = .ok (.invokevirtual 94, 3) := by decide +kernel
theorem dX0_determinant_96 : decode cX0_determinant 96 = .ok (.aload_n 0, 1) := by decide +kernel
theorem dX0_determinant_97 : decode cX0_determinant 97 = .ok (.bipush 8, 2) := by decide +kernel
theorem dX0_determinant_99 : decode cX0_determinant 99 = .ok (.iconst 1, 1) := by decide +kernel
theorem dX0_determinant_100 : decode cX0_determinant 100 = .ok (.iconst 2, 1) := by decide +kernel
theorem dX0_determinant_101 : decode cX0_determinant 101 = .ok (.invokevirtual 94, 3) := by decide +kernel
theorem dX0_determinant_104 : decode cX0_determinant 104 = .ok (.lmul, 1) := by decide +kernel
theorem dX0_determinant_105 : decode cX0_determinant 105 = .ok (.ladd, 1) := by decide +kernel
theorem dX0_determinant_106 : decode cX0_determinant 106 = .ok (.lstore_n 3, 1) := by decide +kernel
theorem dX0_determinant_107 : decode cX0_determinant 107 = .ok (.lload_n 3, 1) := by decide +kernel
theorem dX0_determinant_108 : decode cX0_determinant 108 = .ok (.aload_n 0, 1) := by decide +kernel
theorem dX0_determinant_109 : decode cX0_determinant 109 = .ok (.iconst 0, 1) := by decide +kernel
theorem dX0_determinant_110 : decode cX0_determinant 110 = .ok (.iconst 1, 1) := by decide +kernel
theorem dX0_determinant_111 : decode cX0_determinant 111 = .ok (.iconst 2, 1) := by decide +kernel
theorem dX0_determinant_112 : decode cX0_determinant 112 = .ok (.invokevirtual 94, 3) := by decide +kernel
theorem dX0_determinant_115 : decode cX0_determinant 115 = .ok (.aload_n 0, 1) := by decide +kernel
theorem dX0_determinant_116 : decode cX0_determinant 116 = .ok (.bipush 8, 2) := by decide +kernel
theorem dX0_determinant_118 : decode cX0_determinant 118 = .ok (.iconst 0, 1) := by decide +kernel
theorem dX0_determinant_119 : decode cX0_determinant 119 = .ok (.iconst 3, 1) := by decide +kernel
theorem dX0_determinant_120 : decode cX0_determinant 120 = .ok (.invokevirtual 94, 3) := by decide +kernel
theorem dX0_determinant_123 : decode cX0_determinant 123 = .ok (.lmul, 1) := by decide +kernel
theorem dX0_determinant_124 : decode cX0_determinant 124 = .ok (.ladd, 1) := by decide +kernel
theorem dX0_determinant_125 : decode cX0_determinant 125 = .ok (.lstore_n 3, 1) := by decide +kernel
theorem dX0_determinant_126 : decode cX0_determinant 126 = .ok (.lload_n 3, 1) := by decide +kernel
theorem dX0_determinant_127 : decode cX0_determinant 127 = .ok (.aload_n 0, 1) := by decide +kernel
theorem dX0_determinant_128 : decode cX0_determinant 128 = .ok (.iconst 0, 1) := by decide +kernel
theorem dX0_determinant_129 : decode cX0_determinant 129 = .ok (.iconst 1, 1) := by decide +kernel
theorem dX0_determinant_130 : decode cX0_determinant 130 = .ok (.iconst 3, 1) := by decide +kernel
theorem dX0_determinant_131 : decode cX0_determinant 131 = .ok (.invokevirtual 94, 3) := by decide +kernel
theorem dX0_determinant_134 : decode cX0_determinant 134 = .ok (.aload_n 0, 1) := by decide +kernel
theorem dX0_determinant_135 : decode cX0_determinant 135 = .ok (.bipush 8, 2) := by decide +kernel
theorem dX0_determinant_137 : decode cX0_determinant 137 = .ok (.iconst 0, 1) := by decide +kernel
theorem dX0_determinant_138 : decode cX0_determinant 138 = .ok (.iconst 2, 1) := by decide +kernel
theorem dX0_determinant_139 : decode cX0_determinant 139 = .ok (.invokevirtual 94, 3) := by decide +kernel
theorem dX0_determinant_142 : decode cX0_determinant 142 = .ok (.lmul, 1) := by decide +kernel
theorem dX0_determinant_143 : decode cX0_determinant 143 = .ok (.lsub, 1) := by decide +kernel
theorem dX0_determinant_144 : decode cX0_determinant 144 = .ok (.lstore_n 3, 1) := by decide +kernel
theorem dX0_determinant_145 : decode cX0_determinant 145 = .ok (.lload_n 3, 1) := by decide +kernel
theorem dX0_determinant_146 : decode cX0_determinant 146 = .ok (.aload_n 0, 1) := by decide +kernel
theorem dX0_determinant_147 : decode cX0_determinant 147 = .ok (.iconst 0, 1) := by decide +kernel
theorem dX0_determinant_148 : decode cX0_determinant 148 = .ok (.iconst 2, 1) := by decide +kernel
theorem dX0_determinant_149 : decode cX0_determinant 149 = .ok (.iconst 3, 1) := by decide +kernel
theorem dX0_determinant_150 : decode cX0_determinant 150 = .ok (.invokevirtual 94, 3) := by decide +kernel
theorem dX0_determinant_153 : decode cX0_determinant 153 = .ok (.aload_n 0, 1) := by decide +kernel
theorem dX0_determinant_154 : decode cX0_determinant 154 = .ok (.bipush 8, 2) := by decide +kernel
theorem dX0_determinant_156 : decode cX0_determinant 156 = .ok (.iconst 0, 1) := by decide +kernel
theorem dX0_determinant_157 : decode cX0_determinant 157 = .ok (.iconst 1, 1) := by decide +kernel
theorem dX0_determinant_158 : decode cX0_determinant 158 = .ok (.invokevirtual 94, 3) := by decide +kernel
theorem dX0_determinant_161 : decode cX0_determinant 161 = .ok (.lmul, 1) := by decide +kernel
theorem dX0_determinant_162 : decode cX0_determinant 162 = .ok (.ladd, 1) := by decide +kernel
theorem dX0_determinant_163 : decode cX0_determinant 163 = .ok (.lstore_n 3, 1) := by decide +kernel
theorem dX0_determinant_164 : decode cX0_determinant 164 = .ok (.lload_n 3, 1) := by decide +kernel
theorem dX0_determinant_165 : decode cX0_determinant 165 = .ok (.lreturn, 1) := by decide +kernel
set_option maxRecDepth 20000 in
theorem ggX0_entry_X0_isFree : GoodIn wsX0_entry wsX0_isFree := goodIn_r _ [10] (by decide +kernel) (by decide +kernel)
set_option maxRecDepth 20000 in
theorem gX0_entry_X0_isFree : GoodIn wsX0_entry (va_wsS RX0 79 yX0_isFree wsX0_isFree) := goodIn_app (goodIn_of _ (by decide +kernel)) ggX0_entry_X0_isFree
theorem dX0_entry_0 : decode cX0_entry 0 = .ok (.iload_n 1, 1) := by decide +kernel
theorem dX0_entry_1 : decode cX0_entry 1 = .ok (.iload_n 2, 1) := by decide +kernel
theorem dX0_entry_2 : decode cX0_entry 2 = .ok (.invokestatic 79, 3) := by decide +kernel
theorem dX0_entry_5 : decode cX0_entry 5 = .ok (.istore 5, 2) := by decide +kernel
theorem dX0_entry_7 : decode cX0_entry 7 = .ok (.iload_n 3, 1) := by decide +kernel
theorem dX0_entry_8 : decode cX0_entry 8 = .ok (.iload 4, 2) := by decide +kernel
theorem dX0_entry_10 : decode cX0_entry 10 = .ok (.if_icmp .ne 19, 3) := by decide +kernel
theorem dX0_entry_13 : decode cX0_entry 13 = .ok (.iload 5, 2) := by decide +kernel
theorem dX0_entry_15 : decode cX0_entry 15 = .ok (.ifCond .eq 12, 3) := by decide +kernel
theorem dX0_entry_18 : decode cX0_entry 18 = .ok (.aload_n 0, 1) := by decide +kernel
theorem dX0_entry_19 : decode cX0_entry 19 = .ok (.getfield 15, 3) := by decide +kernel
theorem dX0_entry_22 : decode cX0_entry 22 = .ok (.iload_n 2, 1) := by decide +kernel
theorem dX0_entry_23 : decode cX0_entry 23 = .ok (.laload, 1) := by decide +kernel
theorem dX0_entry_24 : decode cX0_entry 24 = .ok (.goto 4, 3) := by decide +kernel
theorem dX0_entry_27 : decode cX0_entry 27 = .ok (.lconst 0, 1) := by decide +kernel
theorem dX0_entry_28 : decode cX0_entry 28 = .ok (.lreturn, 1) := by decide +kernel
theorem dX0_entry_29 : decode cX0_entry 29 = .ok (.iload 5, 2) := by decide +kernel
theorem dX0_entry_31 : decode cX0_entry 31 = .ok (.ifCond .eq 23, 3) := by decide +kernel
theorem dX0_entry_34 : decode cX0_entry 34 = .ok (.iload_n 1, 1) := by decide +kernel
theorem dX0_entry_35 : decode cX0_entry 35 = .ok (.iload_n 3, 1) := by decide +kernel
theorem dX0_entry_36 : decode cX0_entry 36 = .ok (.invokestatic 79, 3) := by decide +kernel
theorem dX0_entry_39 : decode cX0_entry 39 = .ok (.ifCond .eq 15, 3) := by decide +kernel
theorem dX0_entry_42 : decode cX0_entry 42 = .ok (.aload_n 0, 1) := by decide +kernel
theorem dX0_entry_43 : decode cX0_entry 43 = .ok (.getfield 9, 3) := by decide +kernel
theorem dX0_entry_46 : decode cX0_entry 46 = .ok (.iload_n 2, 1) := by decide +kernel
theorem dX0_entry_47 : decode cX0_entry 47 = .ok (.iload_n 3, 1) := by decide +kernel
theorem dX0_entry_48 : decode cX0_entry 48 = .ok (.isub, 1) := by decide +kernel
theorem dX0_entry_49 : decode cX0_entry 49 = .ok (.invokestatic 87, 3) := by decide +kernel
theorem dX0_entry_52 : decode cX0_entry 52 = .ok (.laload, 1) := by decide +kernel
theorem dX0_entry_53 : decode cX0_entry 53 = .ok (.lreturn, 1) := by decide +kernel
theorem dX0_entry_54 : decode cX0_entry 54 = .ok (.iload_n 2, 1) := by decide +kernel
theorem dX0_entry_55 : decode cX0_entry 55 = .ok (.iload_n 3, 1) := by decide +kernel
theorem dX0_entry_56 : decode cX0_entry 56 = .ok (.if_icmp .ne 7, 3) := by decide +kernel
theorem dX0_entry_59 : decode cX0_entry 59 = .ok (.lconst 1, 1) := by decide +kernel
theorem dX0_entry_60 : decode cX0_entry 60 = .ok (.goto 4, 3) := by decide +kernel
theorem dX0_entry_63 : decode cX0_entry 63 = .ok (.lconst 0, 1) := by decide +kernel
theorem dX0_entry_64 : decode cX0_entry 64 = .ok (.lreturn, 1) := by decide +kernel
theorem dX0_minor_0 : decode cX0_minor 0 = .ok (.aload_n 0, 1) := by decide +kernel
theorem dX0_minor_1 : decode cX0_minor 1 = .ok (.getfield 18, 3) := by decide +kernel
theorem dX0_minor_4 : decode cX0_minor 4 = .ok (.iload_n 1, 1) := by decide +kernel
theorem dX0_minor_5 : decode cX0_minor 5 = .ok (.iload_n 2, 1) := by decide +kernel
theorem dX0_minor_6 : decode cX0_minor 6 = .ok (.iadd, 1) := by decide +kernel
theorem dX0_minor_7 : decode cX0_minor 7 = .ok (.laload, 1) := by decide +kernel
theorem dX0_minor_8 : decode cX0_minor 8 = .ok (.aload_n 0, 1) := by decide +kernel
theorem dX0_minor_9 : decode cX0_minor 9 = .ok (.getfield 18, 3) := by decide +kernel
theorem dX0_minor_12 : decode cX0_minor 12 = .ok (.iload_n 1, 1) := by decide +kernel
theorem dX0_minor_13 : decode cX0_minor 13 = .ok (.iconst 4, 1) := by decide +kernel
theorem dX0_minor_14 : decode cX0_minor 14 = .ok (.iadd, 1) := by decide +kernel
theorem dX0_minor_15 : decode cX0_minor 15 = .ok (.iload_n 3, 1) := by decide +kernel
theorem dX0_minor_16 : decode cX0_minor 16 = .ok (.iadd, 1) := by decide +kernel
theorem dX0_minor_17 : decode cX0_minor 17 = .ok (.laload, 1) := by decide +kernel
theorem dX0_minor_18 : decode cX0_minor 18 = .ok (.lmul, 1) := by decide +kernel
theorem dX0_minor_19 : decode cX0_minor 19 = .ok (.aload_n 0, 1) := by decide +kernel
theorem dX0_minor_20 : decode cX0_minor 20 = .ok (.getfield 18, 3) := by decide +kernel
theorem dX0_minor_23 : decode cX0_minor 23 = .ok (.iload_n 1, 1) := by decide +kernel
theorem dX0_minor_24 : decode cX0_minor 24 = .ok (.iload_n 3, 1) := by decide +kernel
theorem dX0_minor_25 : decode cX0_minor 25 = .ok (.iadd, 1) := by decide +kernel
theorem dX0_minor_26 : decode cX0_minor 26 = .ok (.laload, 1) := by decide +kernel
theorem dX0_minor_27 : decode cX0_minor 27 = .ok (.aload_n 0, 1) := by decide +kernel
theorem dX0_minor_28 : decode cX0_minor 28 = .ok (.getfield 18, 3) := by decide +kernel
theorem dX0_minor_31 : decode cX0_minor 31 = .ok (.iload_n 1, 1) := by decide +kernel
theorem dX0_minor_32 : decode cX0_minor 32 = .ok (.iconst 4, 1) := by decide +kernel
theorem dX0_minor_33 : decode cX0_minor 33 = .ok (.iadd, 1) := by decide +kernel
theorem dX0_minor_34 : decode cX0_minor 34 = .ok (.iload_n 2, 1) := by decide +kernel
theorem dX0_minor_35 : decode cX0_minor 35 = .ok (.iadd, 1) := by decide +kernel
theorem dX0_minor_36 : decode cX0_minor 36 = .ok (.laload, 1) := by decide +kernel
theorem dX0_minor_37 : decode cX0_minor 37 = .ok (.lmul, 1) := by decide +kernel
theorem dX0_minor_38 : decode cX0_minor 38 = .ok (.lsub, 1) := by decide +kernel
theorem dX0_minor_39 : decode cX0_minor 39 = .ok (.lreturn, 1) := by decide +kernel
set_option maxRecDepth 20000 in
theorem ggX1_init_X2_init : GoodIn wsX1_init wsX2_init := goodIn_r _ [10, 11, 2, 3, 12, 13, 14, 15] (by decide +kernel) (by decide +kernel)
set_option maxRecDepth 20000 in
theorem gX1_init_X2_init_n11 : GoodIn wsX1_init (wsX2_init) := ggX1_init_X2_init
theorem dX1_init_0 : decode cX1_init 0 = .ok (.aload_n 0, 1) := by decide +kernel
theorem dX1_init_1 : decode cX1_init 1 = .ok (.invokespecial 3, 3) := by decide +kernel
theorem dX1_init_4 : decode cX1_init 4 = .ok (.aload_n 0, 1) := by decide +kernel
theorem dX1_init_5 : decode cX1_init 5 = .ok (.new 9, 3) := by decide +kernel
theorem dX1_init_8 : decode cX1_init 8 = .ok (.dup, 1) := by decide +kernel
theorem dX1_init_9 : decode cX1_init 9 = .ok (.invokespecial 11, 3) := by decide +kernel
theorem dX1_init_12 : decode cX1_init 12 = .ok (.putfield 12, 3) := by decide +kernel
theorem dX1_init_15 : decode cX1_init 15 = .ok (.aload_n 0, 1) := by decide +kernel
theorem dX1_init_16 : decode cX1_init 16 = .ok (.new 9, 3) := by decide +kernel
theorem dX1_init_19 : decode cX1_init 19 = .ok (.dup, 1) := by decide +kernel
theorem dX1_init_20 : decode cX1_init 20 = .ok (.invokespecial 11, 3) := by decide +kernel
theorem dX1_init_23 : decode cX1_init 23 = .ok (.putfield 18, 3) := by decide +kernel
theorem dX1_init_26 : decode cX1_init 26 = .ok (.return_, 1) := by decide +kernel
set_option maxRecDepth 20000 in
theorem ggX1_read_X1_begin : GoodIn wsX1_read wsX1_begin := goodIn_r _ [5, 6, 7, 8, 9, 10, 11, 12, 13, 14, 15, 16, 17, 66, 67, 68, 69, 70, 71, 72, 73] (by decide +kernel) (by decide +kernel)
set_option maxRecDepth 20000 in
theorem gX1_read_X1_begin : GoodIn wsX1_read (wsV RX1 21 RX1 yX1_begin wsX1_begin) := goodIn_app (goodIn_of _ (by decide +kernel)) ggX1_read_X1_begin
set_option maxRecDepth 20000 in
theorem ggX1_read_X1_goesOnWith : GoodIn wsX1_read wsX1_goesOnWith := goodIn_r _ [21, 8, 7, 22, 23, 24, 4, 25, 10, 26, 27, 28, 29, 11, 6, 30, 31, 32, 33, 34, 35, 36, 15, 37, 17, 38, 39, 40, 41, 42, 43, 44, 45, 46, 47, 48, 49, 50, 51, 52, 53, 54, 55, 56, 57, 58, 59, 60, 61, 62, 9, 63, 64, 65, 66, 67, 68, 69, 70, 71, 72, 73] (by decide +kernel) (by decide +kernel)
set_option maxRecDepth 20000 in
theorem gX1_read_X1_goesOnWith : GoodIn wsX1_read (wsV RX1 24 RX1 yX1_goesOnWith wsX1_goesOnWith) := goodIn_app (goodIn_of _ (by decide +kernel)) ggX1_read_X1_goesOnWith
theorem dX1_read_0 : decode cX1_read 0 = .ok (.aload_n 0, 1) := by decide +kernel
theorem dX1_read_1 : decode cX1_read 1 = .ok (.invokevirtual 21, 3) := by decide +kernel
theorem dX1_read_4 : decode cX1_read 4 = .ok (.iconst 0, 1) := by decide +kernel
theorem dX1_read_5 : decode cX1_read 5 = .ok (.istore_n 3, 1) := by decide +kernel
theorem dX1_read_6 : decode cX1_read 6 = .ok (.iload_n 3, 1) := by decide +kernel
theorem dX1_read_7 : decode cX1_read 7 = .ok (.iload_n 2, 1) := by decide +kernel
theorem dX1_read_8 : decode cX1_read 8 = .ok (.if_icmp .ge 27, 3) := by decide +kernel
theorem dX1_read_11 : decode cX1_read 11 = .ok (.iload_n 3, 1) := by decide +kernel
theorem dX1_read_12 : decode cX1_read 12 = .ok (.aload_n 1, 1) := by decide +kernel
theorem dX1_read_13 : decode cX1_read 13 = .ok (.arraylength, 1) := by decide +kernel
theorem dX1_read_14 : decode cX1_read 14 = .ok (.if_icmp .ge 21, 3) := by decide +kernel
theorem dX1_read_17 : decode cX1_read 17 = .ok (.aload_n 0, 1) := by decide +kernel
theorem dX1_read_18 : decode cX1_read 18 = .ok (.aload_n 1, 1) := by decide +kernel
theorem dX1_read_19 : decode cX1_read 19 = .ok (.iload_n 3, 1) := by decide +kernel
theorem dX1_read_20 : decode cX1_read 20 = .ok (.iaload, 1) := by decide +kernel
theorem dX1_read_21 : decode cX1_read 21 = .ok (.invokevirtual 24, 3) := by decide +kernel
theorem dX1_read_24 : decode cX1_read 24 = .ok (.ifCond .ne 5, 3) := by decide +kernel
theorem dX1_read_27 : decode cX1_read 27 = .ok (.iload_n 3, 1) := by decide +kernel
theorem dX1_read_28 : decode cX1_read 28 = .ok (.ireturn, 1) := by decide +kernel
theorem dX1_read_29 : decode cX1_read 29 = .ok (.iinc 3 1, 3) := by decide +kernel
theorem dX1_read_32 : decode cX1_read 32 = .ok (.goto (-26), 3) := by decide +kernel
theorem dX1_read_35 : decode cX1_read 35 = .ok (.iload_n 2, 1) := by decide +kernel
theorem dX1_read_36 : decode cX1_read 36 = .ok (.ireturn, 1) := by decide +kernel
theorem dX1_isWhole_0 : decode cX1_isWhole 0 = .ok (.aload_n 0, 1) := by decide +kernel
theorem dX1_isWhole_1 : decode cX1_isWhole 1 = .ok (.getfield 28, 3) := by decide +kernel
theorem dX1_isWhole_4 : decode cX1_isWhole 4 = .ok (.iconst 4, 1) := by decide +kernel
theorem dX1_isWhole_5 : decode cX1_isWhole 5 = .ok (.if_icmp .ne 14, 3) := by decide +kernel
theorem dX1_isWhole_8 : decode cX1_isWhole 8 = .ok (.aload_n 0, 1) := by decide +kernel
theorem dX1_isWhole_9 : decode cX1_isWhole 9 = .ok (.getfield 32, 3) := by decide +kernel
theorem dX1_isWhole_12 : decode cX1_isWhole 12 = .ok (.ifCond .eq 7, 3) := by decide +kernel
theorem dX1_isWhole_15 : decode cX1_isWhole 15 = .ok (.iconst 1, 1) := by decide +kernel
theorem dX1_isWhole_16 : decode cX1_isWhole 16 = .ok (.goto 4, 3) := by decide +kernel
theorem dX1_isWhole_19 : decode cX1_isWhole 19 = .ok (.iconst 0, 1) := by decide +kernel
theorem dX1_isWhole_20 : decode cX1_isWhole 20 = .ok (.ireturn, 1) := by decide +kernel
theorem dX1_isOfUnit_0 : decode cX1_isOfUnit 0 = .ok (.aload_n 0, 1) := by decide +kernel
theorem dX1_isOfUnit_1 : decode cX1_isOfUnit 1 = .ok (.getfield 36, 3) := by decide +kernel
theorem dX1_isOfUnit_4 : decode cX1_isOfUnit 4 = .ok (.ireturn, 1) := by decide +kernel
theorem dX1_lengthOfUnit_0 : decode cX1_lengthOfUnit 0 = .ok (.aload_n 0, 1) := by decide +kernel
theorem dX1_lengthOfUnit_1 : decode cX1_lengthOfUnit 1 = .ok (.getfield 39, 3) := by decide +kernel
theorem dX1_lengthOfUnit_4 : decode cX1_lengthOfUnit 4 = .ok (.ireturn, 1) := by decide +kernel
set_option maxRecDepth 20000 in
theorem ggX1_begin_X2_clear : GoodIn wsX1_begin wsX2_clear := goodIn_r _ [11, 12, 19, 20] (by decide +kernel) (by decide +kernel)
set_option maxRecDepth 20000 in
theorem gX1_begin_X2_clear : GoodIn wsX1_begin (wsV RX1 42 RX2 yX2_clear wsX2_clear) := goodIn_app (goodIn_of _ (by decide +kernel)) ggX1_begin_X2_clear
theorem dX1_begin_0 : decode cX1_begin 0 = .ok (.aload_n 0, 1) := by decide +kernel
theorem dX1_begin_1 : decode cX1_begin 1 = .ok (.getfield 12, 3) := by decide +kernel
theorem dX1_begin_4 : decode cX1_begin 4 = .ok (.invokevirtual 42, 3) := by decide +kernel
theorem dX1_begin_7 : decode cX1_begin 7 = .ok (.aload_n 0, 1) := by decide +kernel
theorem dX1_begin_8 : decode cX1_begin 8 = .ok (.getfield 18, 3) := by decide +kernel
theorem dX1_begin_11 : decode cX1_begin 11 = .ok (.invokevirtual 42, 3) := by decide +kernel
theorem dX1_begin_14 : decode cX1_begin 14 = .ok (.aload_n 0, 1) := by decide +kernel
theorem dX1_begin_15 : decode cX1_begin 15 = .ok (.iconst 0, 1) := by decide +kernel
theorem dX1_begin_16 : decode cX1_begin 16 = .ok (.putfield 28, 3) := by decide +kernel
theorem dX1_begin_19 : decode cX1_begin 19 = .ok (.aload_n 0, 1) := by decide +kernel
theorem dX1_begin_20 : decode cX1_begin 20 = .ok (.iconst 1, 1) := by decide +kernel
theorem dX1_begin_21 : decode cX1_begin 21 = .ok (.putfield 39, 3) := by decide +kernel
theorem dX1_begin_24 : decode cX1_begin 24 = .ok (.aload_n 0, 1) := by decide +kernel
theorem dX1_begin_25 : decode cX1_begin 25 = .ok (.iconst 0, 1) := by decide +kernel
theorem dX1_begin_26 : decode cX1_begin 26 = .ok (.putfield 36, 3) := by decide +kernel
theorem dX1_begin_29 : decode cX1_begin 29 = .ok (.aload_n 0, 1) := by decide +kernel
theorem dX1_begin_30 : decode cX1_begin 30 = .ok (.iconst 0, 1) := by decide +kernel
theorem dX1_begin_31 : decode cX1_begin 31 = .ok (.putfield 32, 3) := by decide +kernel
theorem dX1_begin_34 : decode cX1_begin 34 = .ok (.return_, 1) := by decide +kernel
set_option maxRecDepth 20000 in
theorem ggX1_goesOnWith_X1_startsWith : GoodIn wsX1_goesOnWith wsX1_startsWith := goodIn_r _ [7, 8, 1, 54, 55, 56, 57, 58, 59] (by decide +kernel) (by decide +kernel)
set_option maxRecDepth 20000 in
theorem gX1_goesOnWith_X1_startsWith : GoodIn wsX1_goesOnWith (wsV RX1 45 RX1 yX1_startsWith wsX1_startsWith) := goodIn_app (goodIn_of _ (by decide +kernel)) ggX1_goesOnWith_X1_startsWith
set_option maxRecDepth 20000 in
theorem ggX1_goesOnWith_X1_rainGoesOnWith : GoodIn wsX1_goesOnWith wsX1_rainGoesOnWith := goodIn_r _ [12, 13, 14, 15, 16, 17, 6, 18, 1, 19, 20, 21, 22, 23, 24, 25, 26, 27, 28, 29, 30, 31, 32, 33, 34, 35, 36, 37, 38, 39, 40, 41, 42, 43, 44, 45, 54, 55, 56, 57, 58, 59, 60, 61] (by decide +kernel) (by decide +kernel)
set_option maxRecDepth 20000 in
theorem gX1_goesOnWith_X1_rainGoesOnWith : GoodIn wsX1_goesOnWith (wsV RX1 48 RX1 yX1_rainGoesOnWith wsX1_rainGoesOnWith) := goodIn_app (goodIn_of _ (by decide +kernel)) ggX1_goesOnWith_X1_rainGoesOnWith
set_option maxRecDepth 20000 in
theorem ggX1_goesOnWith_X1_takesLength : GoodIn wsX1_goesOnWith wsX1_takesLength := goodIn_r _ [49, 50, 1, 51, 52, 53, 54, 55, 56, 57, 58, 59] (by decide +kernel) (by decide +kernel)
set_option maxRecDepth 20000 in
theorem gX1_goesOnWith_X1_takesLength : GoodIn wsX1_goesOnWith (wsV RX1 51 RX1 yX1_takesLength wsX1_takesLength) := goodIn_app (goodIn_of _ (by decide +kernel)) ggX1_goesOnWith_X1_takesLength
set_option maxRecDepth 20000 in
theorem ggX1_goesOnWith_X1_takesColon : GoodIn wsX1_goesOnWith wsX1_takesColon := goodIn_r _ [18, 1, 13, 54, 55, 56, 57, 58, 59] (by decide +kernel) (by decide +kernel)
set_option maxRecDepth 20000 in
theorem gX1_goesOnWith_X1_takesColon : GoodIn wsX1_goesOnWith (wsV RX1 54 RX1 yX1_takesColon wsX1_takesColon) := goodIn_app (goodIn_of _ (by decide +kernel)) ggX1_goesOnWith_X1_takesColon
set_option maxRecDepth 20000 in
theorem ggX1_goesOnWith_X1_numbersGoOnWith : GoodIn wsX1_goesOnWith wsX1_numbersGoOnWith := goodIn_r _ [28, 13, 19, 20, 21, 22, 23, 24, 29, 30, 31, 6, 32, 33, 34, 35, 36, 37, 38, 39, 40, 41, 42, 43, 44, 45, 54, 55, 56, 57, 58, 59, 60, 61] (by decide +kernel) (by decide +kernel)
set_option maxRecDepth 20000 in
theorem gX1_goesOnWith_X1_numbersGoOnWith : GoodIn wsX1_goesOnWith (wsV RX1 57 RX1 yX1_numbersGoOnWith wsX1_numbersGoOnWith) := goodIn_app (goodIn_of _ (by decide +kernel)) ggX1_goesOnWith_X1_numbersGoOnWith
theorem dX1_goesOnWith_0 : decode cX1_goesOnWith 0 = .ok (.aload_n 0, 1) := by decide +kernel
theorem dX1_goesOnWith_1 : decode cX1_goesOnWith 1 = .ok (.getfield 28, 3) := by decide +kernel
theorem dX1_goesOnWith_4 : decode cX1_goesOnWith 4 = .ok (.tableswitch 59 0 3 #[32, 38, 44, 53], 32) := by decide +kernel
theorem dX1_goesOnWith_36 : decode cX1_goesOnWith 36 = .ok (.aload_n 0, 1) := by decide +kernel
theorem dX1_goesOnWith_37 : decode cX1_goesOnWith 37 = .ok (.iload_n 1, 1) := by decide +kernel
theorem dX1_goesOnWith_38 : decode cX1_goesOnWith 38 = .ok (.invokevirtual 45, 3) := by decide +kernel
theorem dX1_goesOnWith_41 : decode cX1_goesOnWith 41 = .ok (.ireturn, 1) := by decide +kernel
theorem dX1_goesOnWith_42 : decode cX1_goesOnWith 42 = .ok (.aload_n 0, 1) := by decide +kernel
theorem dX1_goesOnWith_43 : decode cX1_goesOnWith 43 = .ok (.iload_n 1, 1) := by decide +kernel
theorem dX1_goesOnWith_44 : decode cX1_goesOnWith 44 = .ok (.invokevirtual 48, 3) := by decide +kernel
theorem dX1_goesOnWith_47 : decode cX1_goesOnWith 47 = .ok (.ireturn, 1) := by decide +kernel
theorem dX1_goesOnWith_48 : decode cX1_goesOnWith 48 = .ok (.aload_n 0, 1) := by decide +kernel
theorem dX1_goesOnWith_49 : decode cX1_goesOnWith 49 = .ok (.iload_n 1, 1) := by decide +kernel
theorem dX1_goesOnWith_50 : decode cX1_goesOnWith 50 = .ok (.bipush 48, 2) := by decide +kernel
theorem dX1_goesOnWith_52 : decode cX1_goesOnWith 52 = .ok (.isub, 1) := by decide +kernel
theorem dX1_goesOnWith_53 : decode cX1_goesOnWith 53 = .ok (.invokevirtual 51, 3) := by decide +kernel
theorem dX1_goesOnWith_56 : decode cX1_goesOnWith 56 = .ok (.ireturn, 1) := by decide +kernel
theorem dX1_goesOnWith_57 : decode cX1_goesOnWith 57 = .ok (.aload_n 0, 1) := by decide +kernel
theorem dX1_goesOnWith_58 : decode cX1_goesOnWith 58 = .ok (.iload_n 1, 1) := by decide +kernel
theorem dX1_goesOnWith_59 : decode cX1_goesOnWith 59 = .ok (.invokevirtual 54, 3) := by decide +kernel
theorem dX1_goesOnWith_62 : decode cX1_goesOnWith 62 = .ok (.ireturn, 1) := by decide +kernel
theorem dX1_goesOnWith_63 : decode cX1_goesOnWith 63 = .ok (.aload_n 0, 1) := by decide +kernel
theorem dX1_goesOnWith_64 : decode cX1_goesOnWith 64 = .ok (.aload_n 0, 1) := by decide +kernel
theorem dX1_goesOnWith_65 : decode cX1_goesOnWith 65 = .ok (.getfield 18, 3) := by decide +kernel
theorem dX1_goesOnWith_68 : decode cX1_goesOnWith 68 = .ok (.iload_n 1, 1) := by decide +kernel
theorem dX1_goesOnWith_69 : decode cX1_goesOnWith 69 = .ok (.bipush 8, 2) := by decide +kernel
theorem dX1_goesOnWith_71 : decode cX1_goesOnWith 71 = .ok (.bipush 99, 2) := by decide +kernel
theorem dX1_goesOnWith_73 : decode cX1_goesOnWith 73 = .ok (.invokevirtual 57, 3) := by decide +kernel
theorem dX1_goesOnWith_76 : decode cX1_goesOnWith 76 = .ok (.ireturn, 1) := by decide +kernel
theorem dX1_startsWith_0 : decode cX1_startsWith 0 = .ok (.aload_n 0, 1) := by decide +kernel
theorem dX1_startsWith_1 : decode cX1_startsWith 1 = .ok (.iload_n 1, 1) := by decide +kernel
theorem dX1_startsWith_2 : decode cX1_startsWith 2 = .ok (.bipush 117, 2) := by decide +kernel
theorem dX1_startsWith_4 : decode cX1_startsWith 4 = .ok (.if_icmp .ne 7, 3) := by decide +kernel
theorem dX1_startsWith_7 : decode cX1_startsWith 7 = .ok (.iconst 1, 1) := by decide +kernel
theorem dX1_startsWith_8 : decode cX1_startsWith 8 = .ok (.goto 4, 3) := by decide +kernel
theorem dX1_startsWith_11 : decode cX1_startsWith 11 = .ok (.iconst 0, 1) := by decide +kernel
theorem dX1_startsWith_12 : decode cX1_startsWith 12 = .ok (.putfield 36, 3) := by decide +kernel
theorem dX1_startsWith_15 : decode cX1_startsWith 15 = .ok (.aload_n 0, 1) := by decide +kernel
theorem dX1_startsWith_16 : decode cX1_startsWith 16 = .ok (.aload_n 0, 1) := by decide +kernel
theorem dX1_startsWith_17 : decode cX1_startsWith 17 = .ok (.getfield 36, 3) := by decide +kernel
theorem dX1_startsWith_20 : decode cX1_startsWith 20 = .ok (.ifCond .eq 7, 3) := by decide +kernel
theorem dX1_startsWith_23 : decode cX1_startsWith 23 = .ok (.iconst 2, 1) := by decide +kernel
theorem dX1_startsWith_24 : decode cX1_startsWith 24 = .ok (.goto 4, 3) := by decide +kernel
theorem dX1_startsWith_27 : decode cX1_startsWith 27 = .ok (.iconst 1, 1) := by decide +kernel
theorem dX1_startsWith_28 : decode cX1_startsWith 28 = .ok (.putfield 28, 3) := by decide +kernel
theorem dX1_startsWith_31 : decode cX1_startsWith 31 = .ok (.aload_n 0, 1) := by decide +kernel
theorem dX1_startsWith_32 : decode cX1_startsWith 32 = .ok (.getfield 36, 3) := by decide +kernel
theorem dX1_startsWith_35 : decode cX1_startsWith 35 = .ok (.ifCond .ne 9, 3) := by decide +kernel
theorem dX1_startsWith_38 : decode cX1_startsWith 38 = .ok (.iload_n 1, 1) := by decide +kernel
theorem dX1_startsWith_39 : decode cX1_startsWith 39 = .ok (.bipush 114, 2) := by decide +kernel
theorem dX1_startsWith_41 : decode cX1_startsWith 41 = .ok (.if_icmp .ne 7, 3) := by decide +kernel
theorem dX1_startsWith_44 : decode cX1_startsWith 44 = .ok (.iconst 1, 1) := by decide +kernel
theorem dX1_startsWith_45 : decode cX1_startsWith 45 = .ok (.goto 4, 3) := by decide +kernel
theorem dX1_startsWith_48 : decode cX1_startsWith 48 = .ok (.iconst 0, 1) := by decide +kernel
theorem dX1_startsWith_49 : decode cX1_startsWith 49 = .ok (.ireturn, 1) := by decide +kernel
set_option maxRecDepth 20000 in
theorem ggX1_rainGoesOnWith_X1_takesColon : GoodIn wsX1_rainGoesOnWith wsX1_takesColon := goodIn_r _ [7, 8, 1, 36, 37, 38, 39, 40, 41] (by decide +kernel) (by decide +kernel)
set_option maxRecDepth 20000 in
theorem gX1_rainGoesOnWith_X1_takesColon : GoodIn wsX1_rainGoesOnWith (wsV RX1 54 RX1 yX1_takesColon wsX1_takesColon) := goodIn_app (goodIn_of _ (by decide +kernel)) ggX1_rainGoesOnWith_X1_takesColon
set_option maxRecDepth 20000 in
theorem ggX1_rainGoesOnWith_X2_size : GoodIn wsX1_rainGoesOnWith wsX2_size := goodIn_r _ [13, 14, 42, 43] (by decide +kernel) (by decide +kernel)
set_option maxRecDepth 20000 in
theorem gX1_rainGoesOnWith_X2_size : GoodIn wsX1_rainGoesOnWith (wsV RX1 61 RX2 yX2_size wsX2_size) := goodIn_app (goodIn_of _ (by decide +kernel)) ggX1_rainGoesOnWith_X2_size
set_option maxRecDepth 20000 in
theorem ggX1_rainGoesOnWith_X1_numbersGoOnWith : GoodIn wsX1_rainGoesOnWith wsX1_numbersGoOnWith := goodIn_r _ [18, 1, 9, 10, 11, 12, 13, 14, 19, 20, 21, 6, 22, 23, 24, 25, 26, 27, 28, 29, 30, 31, 32, 33, 34, 35, 36, 37, 38, 39, 40, 41, 42, 43] (by decide +kernel) (by decide +kernel)
set_option maxRecDepth 20000 in
theorem gX1_rainGoesOnWith_X1_numbersGoOnWith : GoodIn wsX1_rainGoesOnWith (wsV RX1 57 RX1 yX1_numbersGoOnWith wsX1_numbersGoOnWith) := goodIn_app (goodIn_of _ (by decide +kernel)) ggX1_rainGoesOnWith_X1_numbersGoOnWith
end
section
theorem dX1_rainGoesOnWith_0 : decode cX1_rainGoesOnWith 0 = .ok (.iload_n 1, 1) := by decide +kernel
theorem dX1_rainGoesOnWith_1 : decode cX1_rainGoesOnWith 1 = .ok (.bipush 58, 2) := by decide +kernel
theorem dX1_rainGoesOnWith_3 : decode cX1_rainGoesOnWith 3 = .ok (.if_icmp .ne 24, 3) := by decide +kernel
theorem dX1_rainGoesOnWith_6 : decode cX1_rainGoesOnWith 6 = .ok (.aload_n 0, 1) := by decide +kernel
theorem dX1_rainGoesOnWith_7 : decode cX1_rainGoesOnWith 7 = .ok (.getfield 32, 3) := by decide +kernel
theorem dX1_rainGoesOnWith_10 : decode cX1_rainGoesOnWith 10 = .ok (.ifCond .eq 15, 3) := by decide +kernel
theorem dX1_rainGoesOnWith_13 : decode cX1_rainGoesOnWith 13 = .ok (.aload_n 0, 1) := by decide +kernel
theorem dX1_rainGoesOnWith_14 : decode cX1_rainGoesOnWith 14 = .ok (.iload_n 1, 1) := by decide +kernel
theorem dX1_rainGoesOnWith_15 : decode cX1_rainGoesOnWith 15 = .ok (.invokevirtual 54, 3) := by decide +kernel
theorem dX1_rainGoesOnWith_18 : decode cX1_rainGoesOnWith 18 = .ok (.ifCond .eq 7, 3) := by decide +kernel
theorem dX1_rainGoesOnWith_21 : decode cX1_rainGoesOnWith 21 = .ok (.iconst 1, 1) := by decide +kernel
theorem dX1_rainGoesOnWith_22 : decode cX1_rainGoesOnWith 22 = .ok (.goto 4, 3) := by decide +kernel
theorem dX1_rainGoesOnWith_25 : decode cX1_rainGoesOnWith 25 = .ok (.iconst 0, 1) := by decide +kernel
theorem dX1_rainGoesOnWith_26 : decode cX1_rainGoesOnWith 26 = .ok (.ireturn, 1) := by decide +kernel
theorem dX1_rainGoesOnWith_27 : decode cX1_rainGoesOnWith 27 = .ok (.iload_n 1, 1) := by decide +kernel
theorem dX1_rainGoesOnWith_28 : decode cX1_rainGoesOnWith 28 = .ok (.bipush 48, 2) := by decide +kernel
theorem dX1_rainGoesOnWith_30 : decode cX1_rainGoesOnWith 30 = .ok (.if_icmp .ne 15, 3) := by decide +kernel
theorem dX1_rainGoesOnWith_33 : decode cX1_rainGoesOnWith 33 = .ok (.aload_n 0, 1) := by decide +kernel
theorem dX1_rainGoesOnWith_34 : decode cX1_rainGoesOnWith 34 = .ok (.getfield 12, 3) := by decide +kernel
theorem dX1_rainGoesOnWith_37 : decode cX1_rainGoesOnWith 37 = .ok (.invokevirtual 61, 3) := by decide +kernel
theorem dX1_rainGoesOnWith_40 : decode cX1_rainGoesOnWith 40 = .ok (.ifCond .ne 5, 3) := by decide +kernel
theorem dX1_rainGoesOnWith_43 : decode cX1_rainGoesOnWith 43 = .ok (.iconst 0, 1) := by decide +kernel
theorem dX1_rainGoesOnWith_44 : decode cX1_rainGoesOnWith 44 = .ok (.ireturn, 1) := by decide +kernel
theorem dX1_rainGoesOnWith_45 : decode cX1_rainGoesOnWith 45 = .ok (.aload_n 0, 1) := by decide +kernel
theorem dX1_rainGoesOnWith_46 : decode cX1_rainGoesOnWith 46 = .ok (.aload_n 0, 1) := by decide +kernel
theorem dX1_rainGoesOnWith_47 : decode cX1_rainGoesOnWith 47 = .ok (.getfield 12, 3) := by decide +kernel
theorem dX1_rainGoesOnWith_50 : decode cX1_rainGoesOnWith 50 = .ok (.iload_n 1, 1) := by decide +kernel
theorem dX1_rainGoesOnWith_51 : decode cX1_rainGoesOnWith 51 = .ok (.iconst 3, 1) := by decide +kernel
theorem dX1_rainGoesOnWith_52 : decode cX1_rainGoesOnWith 52 = .ok (.iconst 5, 1) := by decide +kernel
theorem dX1_rainGoesOnWith_53 : decode cX1_rainGoesOnWith 53 = .ok (.invokevirtual 57, 3) := by decide +kernel
theorem dX1_rainGoesOnWith_56 : decode cX1_rainGoesOnWith 56 = .ok (.ireturn, 1) := by decide +kernel
set_option maxRecDepth 20000 in
theorem ggX1_takesLength_X5_isLength : GoodIn wsX1_takesLength wsX5_isLength := goodIn_r _ [5] (by decide +kernel) (by decide +kernel)
set_option maxRecDepth 20000 in
theorem gX1_takesLength_X5_isLength_n65 : GoodIn wsX1_takesLength (wsX5_isLength) := ggX1_takesLength_X5_isLength
theorem dX1_takesLength_0 : decode cX1_takesLength 0 = .ok (.aload_n 0, 1) := by decide +kernel
theorem dX1_takesLength_1 : decode cX1_takesLength 1 = .ok (.iload_n 1, 1) := by decide +kernel
theorem dX1_takesLength_2 : decode cX1_takesLength 2 = .ok (.putfield 39, 3) := by decide +kernel
theorem dX1_takesLength_5 : decode cX1_takesLength 5 = .ok (.aload_n 0, 1) := by decide +kernel
theorem dX1_takesLength_6 : decode cX1_takesLength 6 = .ok (.iconst 3, 1) := by decide +kernel
theorem dX1_takesLength_7 : decode cX1_takesLength 7 = .ok (.putfield 28, 3) := by decide +kernel
theorem dX1_takesLength_10 : decode cX1_takesLength 10 = .ok (.iload_n 1, 1) := by decide +kernel
theorem dX1_takesLength_11 : decode cX1_takesLength 11 = .ok (.invokestatic 65, 3) := by decide +kernel
theorem dX1_takesLength_14 : decode cX1_takesLength 14 = .ok (.ireturn, 1) := by decide +kernel
theorem dX1_takesColon_0 : decode cX1_takesColon 0 = .ok (.aload_n 0, 1) := by decide +kernel
theorem dX1_takesColon_1 : decode cX1_takesColon 1 = .ok (.iconst 4, 1) := by decide +kernel
theorem dX1_takesColon_2 : decode cX1_takesColon 2 = .ok (.putfield 28, 3) := by decide +kernel
theorem dX1_takesColon_5 : decode cX1_takesColon 5 = .ok (.aload_n 0, 1) := by decide +kernel
theorem dX1_takesColon_6 : decode cX1_takesColon 6 = .ok (.iconst 0, 1) := by decide +kernel
theorem dX1_takesColon_7 : decode cX1_takesColon 7 = .ok (.putfield 32, 3) := by decide +kernel
theorem dX1_takesColon_10 : decode cX1_takesColon 10 = .ok (.iload_n 1, 1) := by decide +kernel
theorem dX1_takesColon_11 : decode cX1_takesColon 11 = .ok (.bipush 58, 2) := by decide +kernel
theorem dX1_takesColon_13 : decode cX1_takesColon 13 = .ok (.if_icmp .ne 7, 3) := by decide +kernel
theorem dX1_takesColon_16 : decode cX1_takesColon 16 = .ok (.iconst 1, 1) := by decide +kernel
theorem dX1_takesColon_17 : decode cX1_takesColon 17 = .ok (.goto 4, 3) := by decide +kernel
theorem dX1_takesColon_20 : decode cX1_takesColon 20 = .ok (.iconst 0, 1) := by decide +kernel
theorem dX1_takesColon_21 : decode cX1_takesColon 21 = .ok (.ireturn, 1) := by decide +kernel
set_option maxRecDepth 20000 in
theorem ggX1_numbersGoOnWith_X2_size : GoodIn wsX1_numbersGoOnWith wsX2_size := goodIn_r _ [6, 7, 32, 33] (by decide +kernel) (by decide +kernel)
set_option maxRecDepth 20000 in
theorem gX1_numbersGoOnWith_X2_size : GoodIn wsX1_numbersGoOnWith (wsV RX1 61 RX2 yX2_size wsX2_size) := goodIn_app (goodIn_of _ (by decide +kernel)) ggX1_numbersGoOnWith_X2_size
set_option maxRecDepth 20000 in
theorem ggX1_numbersGoOnWith_X1_takesFigure : GoodIn wsX1_numbersGoOnWith wsX1_takesFigure := goodIn_r _ [12, 1, 13, 14, 15, 5, 16, 7, 17, 18, 19, 20, 21, 22, 23, 24, 25, 26, 27, 28, 29, 30, 31, 32, 33] (by decide +kernel) (by decide +kernel)
set_option maxRecDepth 20000 in
theorem gX1_numbersGoOnWith_X1_takesFigure : GoodIn wsX1_numbersGoOnWith (wsV RX1 68 RX1 yX1_takesFigure wsX1_takesFigure) := goodIn_app (goodIn_of _ (by decide +kernel)) ggX1_numbersGoOnWith_X1_takesFigure
theorem dX1_numbersGoOnWith_0 : decode cX1_numbersGoOnWith 0 = .ok (.iload_n 2, 1) := by decide +kernel
theorem dX1_numbersGoOnWith_1 : decode cX1_numbersGoOnWith 1 = .ok (.bipush 44, 2) := by decide +kernel
theorem dX1_numbersGoOnWith_3 : decode cX1_numbersGoOnWith 3 = .ok (.if_icmp .ne 33, 3) := by decide +kernel
theorem dX1_numbersGoOnWith_6 : decode cX1_numbersGoOnWith 6 = .ok (.aload_n 0, 1) := by decide +kernel
theorem dX1_numbersGoOnWith_7 : decode cX1_numbersGoOnWith 7 = .ok (.getfield 32, 3) := by decide +kernel
theorem dX1_numbersGoOnWith_10 : decode cX1_numbersGoOnWith 10 = .ok (.ifCond .eq 15, 3) := by decide +kernel
theorem dX1_numbersGoOnWith_13 : decode cX1_numbersGoOnWith 13 = .ok (.aload_n 1, 1) := by decide +kernel
theorem dX1_numbersGoOnWith_14 : decode cX1_numbersGoOnWith 14 = .ok (.invokevirtual 61, 3) := by decide +kernel
theorem dX1_numbersGoOnWith_17 : decode cX1_numbersGoOnWith 17 = .ok (.iload_n 3, 1) := by decide +kernel
theorem dX1_numbersGoOnWith_18 : decode cX1_numbersGoOnWith 18 = .ok (.if_icmp .ge 7, 3) := by decide +kernel
theorem dX1_numbersGoOnWith_21 : decode cX1_numbersGoOnWith 21 = .ok (.iconst 1, 1) := by decide +kernel
theorem dX1_numbersGoOnWith_22 : decode cX1_numbersGoOnWith 22 = .ok (.goto 4, 3) := by decide +kernel
theorem dX1_numbersGoOnWith_25 : decode cX1_numbersGoOnWith 25 = .ok (.iconst 0, 1) := by decide +kernel
theorem dX1_numbersGoOnWith_26 : decode cX1_numbersGoOnWith 26 = .ok (.istore 5, 2) := by decide +kernel
theorem dX1_numbersGoOnWith_28 : decode cX1_numbersGoOnWith 28 = .ok (.aload_n 0, 1) := by decide +kernel
theorem dX1_numbersGoOnWith_29 : decode cX1_numbersGoOnWith 29 = .ok (.iconst 0, 1) := by decide +kernel
theorem dX1_numbersGoOnWith_30 : decode cX1_numbersGoOnWith 30 = .ok (.putfield 32, 3) := by decide +kernel
theorem dX1_numbersGoOnWith_33 : decode cX1_numbersGoOnWith 33 = .ok (.iload 5, 2) := by decide +kernel
theorem dX1_numbersGoOnWith_35 : decode cX1_numbersGoOnWith 35 = .ok (.ireturn, 1) := by decide +kernel
theorem dX1_numbersGoOnWith_36 : decode cX1_numbersGoOnWith 36 = .ok (.iload_n 2, 1) := by decide +kernel
theorem dX1_numbersGoOnWith_37 : decode cX1_numbersGoOnWith 37 = .ok (.bipush 48, 2) := by decide +kernel
theorem dX1_numbersGoOnWith_39 : decode cX1_numbersGoOnWith 39 = .ok (.if_icmp .lt 9, 3) := by decide +kernel
theorem dX1_numbersGoOnWith_42 : decode cX1_numbersGoOnWith 42 = .ok (.iload_n 2, 1) := by decide +kernel
theorem dX1_numbersGoOnWith_43 : decode cX1_numbersGoOnWith 43 = .ok (.bipush 57, 2) := by decide +kernel
theorem dX1_numbersGoOnWith_45 : decode cX1_numbersGoOnWith 45 = .ok (.if_icmp .le 5, 3) := by decide +kernel
theorem dX1_numbersGoOnWith_48 : decode cX1_numbersGoOnWith 48 = .ok (.iconst 0, 1) := by decide +kernel
theorem dX1_numbersGoOnWith_49 : decode cX1_numbersGoOnWith 49 = .ok (.ireturn, 1) := by decide +kernel
theorem dX1_numbersGoOnWith_50 : decode cX1_numbersGoOnWith 50 = .ok (.aload_n 0, 1) := by decide +kernel
theorem dX1_numbersGoOnWith_51 : decode cX1_numbersGoOnWith 51 = .ok (.aload_n 1, 1) := by decide +kernel
theorem dX1_numbersGoOnWith_52 : decode cX1_numbersGoOnWith 52 = .ok (.iload_n 2, 1) := by decide +kernel
theorem dX1_numbersGoOnWith_53 : decode cX1_numbersGoOnWith 53 = .ok (.bipush 48, 2) := by decide +kernel
theorem dX1_numbersGoOnWith_55 : decode cX1_numbersGoOnWith 55 = .ok (.isub, 1) := by decide +kernel
theorem dX1_numbersGoOnWith_56 : decode cX1_numbersGoOnWith 56 = .ok (.iload 4, 2) := by decide +kernel
theorem dX1_numbersGoOnWith_58 : decode cX1_numbersGoOnWith 58 = .ok (.invokevirtual 68, 3) := by decide +kernel
theorem dX1_numbersGoOnWith_61 : decode cX1_numbersGoOnWith 61 = .ok (.ireturn, 1) := by decide +kernel
set_option maxRecDepth 20000 in
theorem ggX1_takesFigure_X2_last : GoodIn wsX1_takesFigure wsX2_last := goodIn_r _ [6, 7, 8, 23, 24] (by decide +kernel) (by decide +kernel)
set_option maxRecDepth 20000 in
theorem gX1_takesFigure_X2_last : GoodIn wsX1_takesFigure (wsV RX1 72 RX2 yX2_last wsX2_last) := goodIn_app (goodIn_of _ (by decide +kernel)) ggX1_takesFigure_X2_last
set_option maxRecDepth 20000 in
theorem ggX1_takesFigure_X2_setLast : GoodIn wsX1_takesFigure wsX2_setLast := goodIn_r _ [12, 7, 8, 23, 24] (by decide +kernel) (by decide +kernel)
set_option maxRecDepth 20000 in
theorem gX1_takesFigure_X2_setLast : GoodIn wsX1_takesFigure (wsV RX1 75 RX2 yX2_setLast wsX2_setLast) := goodIn_app (goodIn_of _ (by decide +kernel)) ggX1_takesFigure_X2_setLast
set_option maxRecDepth 20000 in
theorem ggX1_takesFigure_X2_add : GoodIn wsX1_takesFigure wsX2_add := goodIn_r _ [16, 7, 8, 23, 24] (by decide +kernel) (by decide +kernel)
set_option maxRecDepth 20000 in
theorem gX1_takesFigure_X2_add : GoodIn wsX1_takesFigure (wsV RX1 79 RX2 yX2_add wsX2_add) := goodIn_app (goodIn_of _ (by decide +kernel)) ggX1_takesFigure_X2_add
theorem dX1_takesFigure_0 : decode cX1_takesFigure 0 = .ok (.aload_n 0, 1) := by decide +kernel
theorem dX1_takesFigure_1 : decode cX1_takesFigure 1 = .ok (.getfield 32, 3) := by decide +kernel
theorem dX1_takesFigure_4 : decode cX1_takesFigure 4 = .ok (.ifCond .eq 10, 3) := by decide +kernel
theorem dX1_takesFigure_7 : decode cX1_takesFigure 7 = .ok (.aload_n 1, 1) := by decide +kernel
theorem dX1_takesFigure_8 : decode cX1_takesFigure 8 = .ok (.invokevirtual 72, 3) := by decide +kernel
theorem dX1_takesFigure_11 : decode cX1_takesFigure 11 = .ok (.goto 4, 3) := by decide +kernel
theorem dX1_takesFigure_14 : decode cX1_takesFigure 14 = .ok (.iconst 0, 1) := by decide +kernel
theorem dX1_takesFigure_15 : decode cX1_takesFigure 15 = .ok (.istore 4, 2) := by decide +kernel
theorem dX1_takesFigure_17 : decode cX1_takesFigure 17 = .ok (.iload 4, 2) := by decide +kernel
theorem dX1_takesFigure_19 : decode cX1_takesFigure 19 = .ok (.bipush 10, 2) := by decide +kernel
theorem dX1_takesFigure_21 : decode cX1_takesFigure 21 = .ok (.imul, 1) := by decide +kernel
theorem dX1_takesFigure_22 : decode cX1_takesFigure 22 = .ok (.iload_n 2, 1) := by decide +kernel
theorem dX1_takesFigure_23 : decode cX1_takesFigure 23 = .ok (.iadd, 1) := by decide +kernel
theorem dX1_takesFigure_24 : decode cX1_takesFigure 24 = .ok (.istore 5, 2) := by decide +kernel
theorem dX1_takesFigure_26 : decode cX1_takesFigure 26 = .ok (.aload_n 0, 1) := by decide +kernel
theorem dX1_takesFigure_27 : decode cX1_takesFigure 27 = .ok (.getfield 32, 3) := by decide +kernel
theorem dX1_takesFigure_30 : decode cX1_takesFigure 30 = .ok (.ifCond .eq 12, 3) := by decide +kernel
theorem dX1_takesFigure_33 : decode cX1_takesFigure 33 = .ok (.iload 4, 2) := by decide +kernel
theorem dX1_takesFigure_35 : decode cX1_takesFigure 35 = .ok (.ifCond .ne 7, 3) := by decide +kernel
theorem dX1_takesFigure_38 : decode cX1_takesFigure 38 = .ok (.iconst 1, 1) := by decide +kernel
theorem dX1_takesFigure_39 : decode cX1_takesFigure 39 = .ok (.goto 4, 3) := by decide +kernel
theorem dX1_takesFigure_42 : decode cX1_takesFigure 42 = .ok (.iconst 0, 1) := by decide +kernel
theorem dX1_takesFigure_43 : decode cX1_takesFigure 43 = .ok (.istore 6, 2) := by decide +kernel
theorem dX1_takesFigure_45 : decode cX1_takesFigure 45 = .ok (.iload 6, 2) := by decide +kernel
theorem dX1_takesFigure_47 : decode cX1_takesFigure 47 = .ok (.ifCond .ne 9, 3) := by decide +kernel
theorem dX1_takesFigure_50 : decode cX1_takesFigure 50 = .ok (.iload 5, 2) := by decide +kernel
theorem dX1_takesFigure_52 : decode cX1_takesFigure 52 = .ok (.iload_n 3, 1) := by decide +kernel
theorem dX1_takesFigure_53 : decode cX1_takesFigure 53 = .ok (.if_icmp .le 5, 3) := by decide +kernel
theorem dX1_takesFigure_56 : decode cX1_takesFigure 56 = .ok (.iconst 0, 1) := by decide +kernel
theorem dX1_takesFigure_57 : decode cX1_takesFigure 57 = .ok (.ireturn, 1) := by decide +kernel
theorem dX1_takesFigure_58 : decode cX1_takesFigure 58 = .ok (.aload_n 0, 1) := by decide +kernel
theorem dX1_takesFigure_59 : decode cX1_takesFigure 59 = .ok (.getfield 32, 3) := by decide +kernel
theorem dX1_takesFigure_62 : decode cX1_takesFigure 62 = .ok (.ifCond .eq 12, 3) := by decide +kernel
theorem dX1_takesFigure_65 : decode cX1_takesFigure 65 = .ok (.aload_n 1, 1) := by decide +kernel
theorem dX1_takesFigure_66 : decode cX1_takesFigure 66 = .ok (.iload 5, 2) := by decide +kernel
theorem dX1_takesFigure_68 : decode cX1_takesFigure 68 = .ok (.invokevirtual 75, 3) := by decide +kernel
theorem dX1_takesFigure_71 : decode cX1_takesFigure 71 = .ok (.goto 9, 3) := by decide +kernel
theorem dX1_takesFigure_74 : decode cX1_takesFigure 74 = .ok (.aload_n 1, 1) := by decide +kernel
theorem dX1_takesFigure_75 : decode cX1_takesFigure 75 = .ok (.iload 5, 2) := by decide +kernel
theorem dX1_takesFigure_77 : decode cX1_takesFigure 77 = .ok (.invokevirtual 79, 3) := by decide +kernel
theorem dX1_takesFigure_80 : decode cX1_takesFigure 80 = .ok (.aload_n 0, 1) := by decide +kernel
theorem dX1_takesFigure_81 : decode cX1_takesFigure 81 = .ok (.iconst 1, 1) := by decide +kernel
theorem dX1_takesFigure_82 : decode cX1_takesFigure 82 = .ok (.putfield 32, 3) := by decide +kernel
theorem dX1_takesFigure_85 : decode cX1_takesFigure 85 = .ok (.iconst 1, 1) := by decide +kernel
theorem dX1_takesFigure_86 : decode cX1_takesFigure 86 = .ok (.ireturn, 1) := by decide +kernel
theorem dX2_init_0 : decode cX2_init 0 = .ok (.aload_n 0, 1) := by decide +kernel
theorem dX2_init_1 : decode cX2_init 1 = .ok (.invokespecial 3, 3) := by decide +kernel
theorem dX2_init_4 : decode cX2_init 4 = .ok (.aload_n 0, 1) := by decide +kernel
theorem dX2_init_5 : decode cX2_init 5 = .ok (.bipush 8, 2) := by decide +kernel
theorem dX2_init_7 : decode cX2_init 7 = .ok (.newarray .int, 2) := by decide +kernel
theorem dX2_init_9 : decode cX2_init 9 = .ok (.putfield 9, 3) := by decide +kernel
theorem dX2_init_12 : decode cX2_init 12 = .ok (.return_, 1) := by decide +kernel
theorem dX2_size_0 : decode cX2_size 0 = .ok (.aload_n 0, 1) := by decide +kernel
theorem dX2_size_1 : decode cX2_size 1 = .ok (.getfield 15, 3) := by decide +kernel
theorem dX2_size_4 : decode cX2_size 4 = .ok (.ireturn, 1) := by decide +kernel
theorem dX2_at_0 : decode cX2_at 0 = .ok (.iload_n 1, 1) := by decide +kernel
theorem dX2_at_1 : decode cX2_at 1 = .ok (.ifCond .lt 26, 3) := by decide +kernel
theorem dX2_at_4 : decode cX2_at 4 = .ok (.iload_n 1, 1) := by decide +kernel
theorem dX2_at_5 : decode cX2_at 5 = .ok (.aload_n 0, 1) := by decide +kernel
theorem dX2_at_6 : decode cX2_at 6 = .ok (.getfield 15, 3) := by decide +kernel
theorem dX2_at_9 : decode cX2_at 9 = .ok (.if_icmp .ge 18, 3) := by decide +kernel
theorem dX2_at_12 : decode cX2_at 12 = .ok (.iload_n 1, 1) := by decide +kernel
theorem dX2_at_13 : decode cX2_at 13 = .ok (.bipush 8, 2) := by decide +kernel
theorem dX2_at_15 : decode cX2_at 15 = .ok (.if_icmp .ge 12, 3) := by decide +kernel
theorem dX2_at_18 : decode cX2_at 18 = .ok (.aload_n 0, 1) := by decide +kernel
theorem dX2_at_19 : decode cX2_at 19 = .ok (.getfield 9, 3) := by decide +kernel
theorem dX2_at_22 : decode cX2_at 22 = .ok (.iload_n 1, 1) := by decide +kernel
theorem dX2_at_23 : decode cX2_at 23 = .ok (.iaload, 1) := by decide +kernel
theorem dX2_at_24 : decode cX2_at 24 = .ok (.goto 4, 3) := by decide +kernel
theorem dX2_at_27 : decode cX2_at 27 = .ok (.iconst 0, 1) := by decide +kernel
theorem dX2_at_28 : decode cX2_at 28 = .ok (.ireturn, 1) := by decide +kernel
theorem dX2_last_0 : decode cX2_last 0 = .ok (.aload_n 0, 1) := by decide +kernel
theorem dX2_last_1 : decode cX2_last 1 = .ok (.getfield 15, 3) := by decide +kernel
theorem dX2_last_4 : decode cX2_last 4 = .ok (.ifCond .le 26, 3) := by decide +kernel
theorem dX2_last_7 : decode cX2_last 7 = .ok (.aload_n 0, 1) := by decide +kernel
theorem dX2_last_8 : decode cX2_last 8 = .ok (.getfield 15, 3) := by decide +kernel
theorem dX2_last_11 : decode cX2_last 11 = .ok (.bipush 8, 2) := by decide +kernel
theorem dX2_last_13 : decode cX2_last 13 = .ok (.if_icmp .gt 17, 3) := by decide +kernel
theorem dX2_last_16 : decode cX2_last 16 = .ok (.aload_n 0, 1) := by decide +kernel
theorem dX2_last_17 : decode cX2_last 17 = .ok (.getfield 9, 3) := by decide +kernel
theorem dX2_last_20 : decode cX2_last 20 = .ok (.aload_n 0, 1) := by decide +kernel
theorem dX2_last_21 : decode cX2_last 21 = .ok (.getfield 15, 3) := by decide +kernel
theorem dX2_last_24 : decode cX2_last 24 = .ok (.iconst 1, 1) := by decide +kernel
theorem dX2_last_25 : decode cX2_last 25 = .ok (.isub, 1) := by decide +kernel
theorem dX2_last_26 : decode cX2_last 26 = .ok (.iaload, 1) := by decide +kernel
theorem dX2_last_27 : decode cX2_last 27 = .ok (.goto 4, 3) := by decide +kernel
theorem dX2_last_30 : decode cX2_last 30 = .ok (.iconst 0, 1) := by decide +kernel
theorem dX2_last_31 : decode cX2_last 31 = .ok (.ireturn, 1) := by decide +kernel
set_option maxRecDepth 20000 in
theorem ggX2_total_X2_at : GoodIn wsX2_total wsX2_at := goodIn_r _ [5, 6, 7, 8, 9] (by decide +kernel) (by decide +kernel)
set_option maxRecDepth 20000 in
theorem gX2_total_X2_at : GoodIn wsX2_total (wsV RX2 19 RX2 yX2_at wsX2_at) := goodIn_app (goodIn_of _ (by decide +kernel)) ggX2_total_X2_at
theorem dX2_total_0 : decode cX2_total 0 = .ok (.iconst 0, 1) := by decide +kernel
theorem dX2_total_1 : decode cX2_total 1 = .ok (.istore_n 1, 1) := by decide +kernel
theorem dX2_total_2 : decode cX2_total 2 = .ok (.iconst 0, 1) := by decide +kernel
theorem dX2_total_3 : decode cX2_total 3 = .ok (.istore_n 2, 1) := by decide +kernel
theorem dX2_total_4 : decode cX2_total 4 = .ok (.iload_n 2, 1) := by decide +kernel
theorem dX2_total_5 : decode cX2_total 5 = .ok (.bipush 8, 2) := by decide +kernel
theorem dX2_total_7 : decode cX2_total 7 = .ok (.if_icmp .ge 17, 3) := by decide +kernel
theorem dX2_total_10 : decode cX2_total 10 = .ok (.iload_n 1, 1) := by decide +kernel
theorem dX2_total_11 : decode cX2_total 11 = .ok (.aload_n 0, 1) := by decide +kernel
theorem dX2_total_12 : decode cX2_total 12 = .ok (.iload_n 2, 1) := by decide +kernel
theorem dX2_total_13 : decode cX2_total 13 = .ok (.invokevirtual 19, 3) := by decide +kernel
theorem dX2_total_16 : decode cX2_total 16 = .ok (.iadd, 1) := by decide +kernel
theorem dX2_total_17 : decode cX2_total 17 = .ok (.istore_n 1, 1) := by decide +kernel
theorem dX2_total_18 : decode cX2_total 18 = .ok (.iinc 2 1, 3) := by decide +kernel
theorem dX2_total_21 : decode cX2_total 21 = .ok (.goto (-17), 3) := by decide +kernel
theorem dX2_total_24 : decode cX2_total 24 = .ok (.iload_n 1, 1) := by decide +kernel
theorem dX2_total_25 : decode cX2_total 25 = .ok (.ireturn, 1) := by decide +kernel
theorem dX2_clear_0 : decode cX2_clear 0 = .ok (.aload_n 0, 1) := by decide +kernel
theorem dX2_clear_1 : decode cX2_clear 1 = .ok (.iconst 0, 1) := by decide +kernel
theorem dX2_clear_2 : decode cX2_clear 2 = .ok (.putfield 15, 3) := by decide +kernel
theorem dX2_clear_5 : decode cX2_clear 5 = .ok (.return_, 1) := by decide +kernel
theorem dX2_add_0 : decode cX2_add 0 = .ok (.aload_n 0, 1) := by decide +kernel
theorem dX2_add_1 : decode cX2_add 1 = .ok (.getfield 15, 3) := by decide +kernel
theorem dX2_add_4 : decode cX2_add 4 = .ok (.bipush 8, 2) := by decide +kernel
theorem dX2_add_6 : decode cX2_add 6 = .ok (.if_icmp .ge 23, 3) := by decide +kernel
theorem dX2_add_9 : decode cX2_add 9 = .ok (.aload_n 0, 1) := by decide +kernel
theorem dX2_add_10 : decode cX2_add 10 = .ok (.getfield 9, 3) := by decide +kernel
theorem dX2_add_13 : decode cX2_add 13 = .ok (.aload_n 0, 1) := by decide +kernel
theorem dX2_add_14 : decode cX2_add 14 = .ok (.getfield 15, 3) := by decide +kernel
theorem dX2_add_17 : decode cX2_add 17 = .ok (.iload_n 1, 1) := by decide +kernel
theorem dX2_add_18 : decode cX2_add 18 = .ok (.iastore, 1) := by decide +kernel
theorem dX2_add_19 : decode cX2_add 19 = .ok (.aload_n 0, 1) := by decide +kernel
theorem dX2_add_20 : decode cX2_add 20 = .ok (.dup, 1) := by decide +kernel
theorem dX2_add_21 : decode cX2_add 21 = .ok (.getfield 15, 3) := by decide +kernel
theorem dX2_add_24 : decode cX2_add 24 = .ok (.iconst 1, 1) := by decide +kernel
theorem dX2_add_25 : decode cX2_add 25 = .ok (.iadd, 1) := by decide +kernel
theorem dX2_add_26 : decode cX2_add 26 = .ok (.putfield 15, 3) := by decide +kernel
theorem dX2_add_29 : decode cX2_add 29 = .ok (.return_, 1) := by decide +kernel
theorem dX2_setLast_0 : decode cX2_setLast 0 = .ok (.aload_n 0, 1) := by decide +kernel
theorem dX2_setLast_1 : decode cX2_setLast 1 = .ok (.getfield 15, 3) := by decide +kernel
theorem dX2_setLast_4 : decode cX2_setLast 4 = .ok (.ifCond .le 24, 3) := by decide +kernel
theorem dX2_setLast_7 : decode cX2_setLast 7 = .ok (.aload_n 0, 1) := by decide +kernel
theorem dX2_setLast_8 : decode cX2_setLast 8 = .ok (.getfield 15, 3) := by decide +kernel
theorem dX2_setLast_11 : decode cX2_setLast 11 = .ok (.bipush 8, 2) := by decide +kernel
theorem dX2_setLast_13 : decode cX2_setLast 13 = .ok (.if_icmp .gt 15, 3) := by decide +kernel
theorem dX2_setLast_16 : decode cX2_setLast 16 = .ok (.aload_n 0, 1) := by decide +kernel
theorem dX2_setLast_17 : decode cX2_setLast 17 = .ok (.getfield 9, 3) := by decide +kernel
theorem dX2_setLast_20 : decode cX2_setLast 20 = .ok (.aload_n 0, 1) := by decide +kernel
theorem dX2_setLast_21 : decode cX2_setLast 21 = .ok (.getfield 15, 3) := by decide +kernel
theorem dX2_setLast_24 : decode cX2_setLast 24 = .ok (.iconst 1, 1) := by decide +kernel
theorem dX2_setLast_25 : decode cX2_setLast 25 = .ok (.isub, 1) := by decide +kernel
theorem dX2_setLast_26 : decode cX2_setLast 26 = .ok (.iload_n 1, 1) := by decide +kernel
theorem dX2_setLast_27 : decode cX2_setLast 27 = .ok (.iastore, 1) := by decide +kernel
theorem dX2_setLast_28 : decode cX2_setLast 28 = .ok (.return_, 1) := by decide +kernel
set_option maxRecDepth 20000 in
theorem ggX2_become_X2_at : GoodIn wsX2_become wsX2_at := goodIn_r _ [7, 1, 2, 8, 9] (by decide +kernel) (by decide +kernel)
set_option maxRecDepth 20000 in
theorem gX2_become_X2_at : GoodIn wsX2_become (wsV RX2 19 RX2 yX2_at wsX2_at) := goodIn_app (goodIn_of _ (by decide +kernel)) ggX2_become_X2_at
theorem dX2_become_0 : decode cX2_become 0 = .ok (.aload_n 0, 1) := by decide +kernel
theorem dX2_become_1 : decode cX2_become 1 = .ok (.aload_n 1, 1) := by decide +kernel
theorem dX2_become_2 : decode cX2_become 2 = .ok (.getfield 15, 3) := by decide +kernel
theorem dX2_become_5 : decode cX2_become 5 = .ok (.putfield 15, 3) := by decide +kernel
theorem dX2_become_8 : decode cX2_become 8 = .ok (.iconst 0, 1) := by decide +kernel
theorem dX2_become_9 : decode cX2_become 9 = .ok (.istore_n 2, 1) := by decide +kernel
theorem dX2_become_10 : decode cX2_become 10 = .ok (.iload_n 2, 1) := by decide +kernel
theorem dX2_become_11 : decode cX2_become 11 = .ok (.bipush 8, 2) := by decide +kernel
theorem dX2_become_13 : decode cX2_become 13 = .ok (.if_icmp .ge 20, 3) := by decide +kernel
theorem dX2_become_16 : decode cX2_become 16 = .ok (.aload_n 0, 1) := by decide +kernel
theorem dX2_become_17 : decode cX2_become 17 = .ok (.getfield 9, 3) := by decide +kernel
theorem dX2_become_20 : decode cX2_become 20 = .ok (.iload_n 2, 1) := by decide +kernel
theorem dX2_become_21 : decode cX2_become 21 = .ok (.aload_n 1, 1) := by decide +kernel
theorem dX2_become_22 : decode cX2_become 22 = .ok (.iload_n 2, 1) := by decide +kernel
theorem dX2_become_23 : decode cX2_become 23 = .ok (.invokevirtual 19, 3) := by decide +kernel
theorem dX2_become_26 : decode cX2_become 26 = .ok (.iastore, 1) := by decide +kernel
theorem dX2_become_27 : decode cX2_become 27 = .ok (.iinc 2 1, 3) := by decide +kernel
theorem dX2_become_30 : decode cX2_become 30 = .ok (.goto (-20), 3) := by decide +kernel
theorem dX2_become_33 : decode cX2_become 33 = .ok (.return_, 1) := by decide +kernel
set_option maxRecDepth 20000 in
theorem ggX3_init_X2_init : GoodIn wsX3_init wsX2_init := goodIn_r _ [11, 12, 2, 3, 13, 14, 15, 16] (by decide +kernel) (by decide +kernel)
set_option maxRecDepth 20000 in
theorem gX3_init_X2_init_n11 : GoodIn wsX3_init (wsX2_init) := ggX3_init_X2_init
theorem dX3_init_0 : decode cX3_init 0 = .ok (.aload_n 0, 1) := by decide +kernel
theorem dX3_init_1 : decode cX3_init 1 = .ok (.invokespecial 3, 3) := by decide +kernel
theorem dX3_init_4 : decode cX3_init 4 = .ok (.aload_n 0, 1) := by decide +kernel
theorem dX3_init_5 : decode cX3_init 5 = .ok (.new 9, 3) := by decide +kernel
theorem dX3_init_8 : decode cX3_init 8 = .ok (.dup, 1) := by decide +kernel
theorem dX3_init_9 : decode cX3_init 9 = .ok (.invokespecial 11, 3) := by decide +kernel
theorem dX3_init_12 : decode cX3_init 12 = .ok (.putfield 12, 3) := by decide +kernel
theorem dX3_init_15 : decode cX3_init 15 = .ok (.aload_n 0, 1) := by decide +kernel
theorem dX3_init_16 : decode cX3_init 16 = .ok (.new 9, 3) := by decide +kernel
theorem dX3_init_19 : decode cX3_init 19 = .ok (.dup, 1) := by decide +kernel
theorem dX3_init_20 : decode cX3_init 20 = .ok (.invokespecial 11, 3) := by decide +kernel
theorem dX3_init_23 : decode cX3_init 23 = .ok (.putfield 18, 3) := by decide +kernel
theorem dX3_init_26 : decode cX3_init 26 = .ok (.aload_n 0, 1) := by decide +kernel
theorem dX3_init_27 : decode cX3_init 27 = .ok (.new 9, 3) := by decide +kernel
theorem dX3_init_30 : decode cX3_init 30 = .ok (.dup, 1) := by decide +kernel
theorem dX3_init_31 : decode cX3_init 31 = .ok (.invokespecial 11, 3) := by decide +kernel
theorem dX3_init_34 : decode cX3_init 34 = .ok (.putfield 21, 3) := by decide +kernel
theorem dX3_init_37 : decode cX3_init 37 = .ok (.return_, 1) := by decide +kernel
theorem dX3_goesEvenly_0 : decode cX3_goesEvenly 0 = .ok (.aload_n 0, 1) := by decide +kernel
theorem dX3_goesEvenly_1 : decode cX3_goesEvenly 1 = .ok (.getfield 24, 3) := by decide +kernel
theorem dX3_goesEvenly_4 : decode cX3_goesEvenly 4 = .ok (.ireturn, 1) := by decide +kernel
set_option maxRecDepth 20000 in
theorem ggX3_become_X2_become : GoodIn wsX3_become wsX2_become := goodIn_r _ [7, 8, 9, 10, 11, 12, 6, 13, 42, 43] (by decide +kernel) (by decide +kernel)
set_option maxRecDepth 20000 in
theorem gX3_become_X2_become : GoodIn wsX3_become (wsV RX3 28 RX2 yX2_become wsX2_become) := goodIn_app (goodIn_of _ (by decide +kernel)) ggX3_become_X2_become
set_option maxRecDepth 20000 in
theorem ggX3_become_X3_divide : GoodIn wsX3_become wsX3_divide := goodIn_r _ [18, 19, 2, 1, 20, 21, 22, 23, 6, 24, 8, 25, 26, 27, 28, 29, 11, 12, 13, 9, 30, 31, 32, 17, 33, 34, 35, 36, 37, 38, 39, 40, 41, 42, 43] (by decide +kernel) (by decide +kernel)
set_option maxRecDepth 20000 in
theorem gX3_become_X3_divide : GoodIn wsX3_become (wsV RX3 32 RX3 yX3_divide wsX3_divide) := goodIn_app (goodIn_of _ (by decide +kernel)) ggX3_become_X3_divide
theorem dX3_become_0 : decode cX3_become 0 = .ok (.aload_n 0, 1) := by decide +kernel
theorem dX3_become_1 : decode cX3_become 1 = .ok (.getfield 12, 3) := by decide +kernel
theorem dX3_become_4 : decode cX3_become 4 = .ok (.aload_n 1, 1) := by decide +kernel
theorem dX3_become_5 : decode cX3_become 5 = .ok (.invokevirtual 28, 3) := by decide +kernel
theorem dX3_become_8 : decode cX3_become 8 = .ok (.aload_n 0, 1) := by decide +kernel
theorem dX3_become_9 : decode cX3_become 9 = .ok (.getfield 18, 3) := by decide +kernel
theorem dX3_become_12 : decode cX3_become 12 = .ok (.aload_n 2, 1) := by decide +kernel
theorem dX3_become_13 : decode cX3_become 13 = .ok (.invokevirtual 28, 3) := by decide +kernel
theorem dX3_become_16 : decode cX3_become 16 = .ok (.aload_n 0, 1) := by decide +kernel
theorem dX3_become_17 : decode cX3_become 17 = .ok (.invokevirtual 32, 3) := by decide +kernel
theorem dX3_become_20 : decode cX3_become 20 = .ok (.return_, 1) := by decide +kernel
set_option maxRecDepth 20000 in
theorem ggX3_rainTimes_X2_at : GoodIn wsX3_rainTimes wsX2_at := goodIn_r _ [6, 7, 8, 13, 14] (by decide +kernel) (by decide +kernel)
set_option maxRecDepth 20000 in
theorem gX3_rainTimes_X2_at : GoodIn wsX3_rainTimes (wsV RX3 35 RX2 yX2_at wsX2_at) := goodIn_app (goodIn_of _ (by decide +kernel)) ggX3_rainTimes_X2_at
theorem dX3_rainTimes_0 : decode cX3_rainTimes 0 = .ok (.iconst 0, 1) := by decide +kernel
theorem dX3_rainTimes_1 : decode cX3_rainTimes 1 = .ok (.istore_n 3, 1) := by decide +kernel
theorem dX3_rainTimes_2 : decode cX3_rainTimes 2 = .ok (.iconst 0, 1) := by decide +kernel
theorem dX3_rainTimes_3 : decode cX3_rainTimes 3 = .ok (.istore 4, 2) := by decide +kernel
theorem dX3_rainTimes_5 : decode cX3_rainTimes 5 = .ok (.iload 4, 2) := by decide +kernel
theorem dX3_rainTimes_7 : decode cX3_rainTimes 7 = .ok (.iconst 3, 1) := by decide +kernel
theorem dX3_rainTimes_8 : decode cX3_rainTimes 8 = .ok (.if_icmp .ge 30, 3) := by decide +kernel
theorem dX3_rainTimes_11 : decode cX3_rainTimes 11 = .ok (.iload_n 3, 1) := by decide +kernel
theorem dX3_rainTimes_12 : decode cX3_rainTimes 12 = .ok (.aload_n 0, 1) := by decide +kernel
theorem dX3_rainTimes_13 : decode cX3_rainTimes 13 = .ok (.getfield 12, 3) := by decide +kernel
theorem dX3_rainTimes_16 : decode cX3_rainTimes 16 = .ok (.iload 4, 2) := by decide +kernel
theorem dX3_rainTimes_18 : decode cX3_rainTimes 18 = .ok (.invokevirtual 35, 3) := by decide +kernel
theorem dX3_rainTimes_21 : decode cX3_rainTimes 21 = .ok (.aload_n 1, 1) := by decide +kernel
theorem dX3_rainTimes_22 : decode cX3_rainTimes 22 = .ok (.iload_n 2, 1) := by decide +kernel
theorem dX3_rainTimes_23 : decode cX3_rainTimes 23 = .ok (.iload 4, 2) := by decide +kernel
theorem dX3_rainTimes_25 : decode cX3_rainTimes 25 = .ok (.isub, 1) := by decide +kernel
theorem dX3_rainTimes_26 : decode cX3_rainTimes 26 = .ok (.invokevirtual 35, 3) := by decide +kernel
theorem dX3_rainTimes_29 : decode cX3_rainTimes 29 = .ok (.imul, 1) := by decide +kernel
theorem dX3_rainTimes_30 : decode cX3_rainTimes 30 = .ok (.iadd, 1) := by decide +kernel
theorem dX3_rainTimes_31 : decode cX3_rainTimes 31 = .ok (.istore_n 3, 1) := by decide +kernel
theorem dX3_rainTimes_32 : decode cX3_rainTimes 32 = .ok (.iinc 4 1, 3) := by decide +kernel
theorem dX3_rainTimes_35 : decode cX3_rainTimes 35 = .ok (.goto (-30), 3) := by decide +kernel
theorem dX3_rainTimes_38 : decode cX3_rainTimes 38 = .ok (.iload_n 3, 1) := by decide +kernel
theorem dX3_rainTimes_39 : decode cX3_rainTimes 39 = .ok (.ireturn, 1) := by decide +kernel
set_option maxRecDepth 20000 in
theorem ggX3_squaresMissed_X3_rainTimes : GoodIn wsX3_squaresMissed wsX3_rainTimes := goodIn_r _ [6, 7, 8, 9, 10, 11, 12, 13, 14, 15, 16, 17, 18, 19, 20] (by decide +kernel) (by decide +kernel)
set_option maxRecDepth 20000 in
theorem gX3_squaresMissed_X3_rainTimes : GoodIn wsX3_squaresMissed (wsV RX3 39 RX3 yX3_rainTimes wsX3_rainTimes) := goodIn_app (goodIn_of _ (by decide +kernel)) ggX3_squaresMissed_X3_rainTimes
set_option maxRecDepth 20000 in
theorem ggX3_squaresMissed_X2_at : GoodIn wsX3_squaresMissed wsX2_at := goodIn_r _ [12, 13, 14, 19, 20] (by decide +kernel) (by decide +kernel)
set_option maxRecDepth 20000 in
theorem gX3_squaresMissed_X2_at : GoodIn wsX3_squaresMissed (wsV RX3 35 RX2 yX2_at wsX2_at) := goodIn_app (goodIn_of _ (by decide +kernel)) ggX3_squaresMissed_X2_at
theorem dX3_squaresMissed_0 : decode cX3_squaresMissed 0 = .ok (.iconst 0, 1) := by decide +kernel
theorem dX3_squaresMissed_1 : decode cX3_squaresMissed 1 = .ok (.istore_n 2, 1) := by decide +kernel
theorem dX3_squaresMissed_2 : decode cX3_squaresMissed 2 = .ok (.iconst 0, 1) := by decide +kernel
theorem dX3_squaresMissed_3 : decode cX3_squaresMissed 3 = .ok (.istore_n 3, 1) := by decide +kernel
theorem dX3_squaresMissed_4 : decode cX3_squaresMissed 4 = .ok (.iload_n 3, 1) := by decide +kernel
theorem dX3_squaresMissed_5 : decode cX3_squaresMissed 5 = .ok (.bipush 20, 2) := by decide +kernel
theorem dX3_squaresMissed_7 : decode cX3_squaresMissed 7 = .ok (.if_icmp .gt 34, 3) := by decide +kernel
theorem dX3_squaresMissed_10 : decode cX3_squaresMissed 10 = .ok (.aload_n 0, 1) := by decide +kernel
theorem dX3_squaresMissed_11 : decode cX3_squaresMissed 11 = .ok (.aload_n 1, 1) := by decide +kernel
theorem dX3_squaresMissed_12 : decode cX3_squaresMissed 12 = .ok (.iload_n 3, 1) := by decide +kernel
theorem dX3_squaresMissed_13 : decode cX3_squaresMissed 13 = .ok (.invokevirtual 39, 3) := by decide +kernel
theorem dX3_squaresMissed_16 : decode cX3_squaresMissed 16 = .ok (.aload_n 0, 1) := by decide +kernel
theorem dX3_squaresMissed_17 : decode cX3_squaresMissed 17 = .ok (.getfield 18, 3) := by decide +kernel
theorem dX3_squaresMissed_20 : decode cX3_squaresMissed 20 = .ok (.iload_n 3, 1) := by decide +kernel
theorem dX3_squaresMissed_21 : decode cX3_squaresMissed 21 = .ok (.invokevirtual 35, 3) := by decide +kernel
theorem dX3_squaresMissed_24 : decode cX3_squaresMissed 24 = .ok (.isub, 1) := by decide +kernel
theorem dX3_squaresMissed_25 : decode cX3_squaresMissed 25 = .ok (.istore 4, 2) := by decide +kernel
theorem dX3_squaresMissed_27 : decode cX3_squaresMissed 27 = .ok (.iload_n 2, 1) := by decide +kernel
theorem dX3_squaresMissed_28 : decode cX3_squaresMissed 28 = .ok (.iload 4, 2) := by decide +kernel
theorem dX3_squaresMissed_30 : decode cX3_squaresMissed 30 = .ok (.iload 4, 2) := by decide +kernel
theorem dX3_squaresMissed_32 : decode cX3_squaresMissed 32 = .ok (.imul, 1) := by decide +kernel
theorem dX3_squaresMissed_33 : decode cX3_squaresMissed 33 = .ok (.iadd, 1) := by decide +kernel
theorem dX3_squaresMissed_34 : decode cX3_squaresMissed 34 = .ok (.istore_n 2, 1) := by decide +kernel
theorem dX3_squaresMissed_35 : decode cX3_squaresMissed 35 = .ok (.iinc 3 1, 3) := by decide +kernel
theorem dX3_squaresMissed_38 : decode cX3_squaresMissed 38 = .ok (.goto (-34), 3) := by decide +kernel
theorem dX3_squaresMissed_41 : decode cX3_squaresMissed 41 = .ok (.iload_n 2, 1) := by decide +kernel
theorem dX3_squaresMissed_42 : decode cX3_squaresMissed 42 = .ok (.ireturn, 1) := by decide +kernel
set_option maxRecDepth 20000 in
theorem ggX3_divide_X2_clear : GoodIn wsX3_divide wsX2_clear := goodIn_r _ [9, 10, 33, 34] (by decide +kernel) (by decide +kernel)
set_option maxRecDepth 20000 in
theorem gX3_divide_X2_clear : GoodIn wsX3_divide (wsV RX3 43 RX2 yX2_clear wsX2_clear) := goodIn_app (goodIn_of _ (by decide +kernel)) ggX3_divide_X2_clear
set_option maxRecDepth 20000 in
theorem ggX3_divide_X2_size : GoodIn wsX3_divide wsX2_size := goodIn_r _ [14, 10, 33, 34] (by decide +kernel) (by decide +kernel)
set_option maxRecDepth 20000 in
theorem gX3_divide_X2_size : GoodIn wsX3_divide (wsV RX3 46 RX2 yX2_size wsX2_size) := goodIn_app (goodIn_of _ (by decide +kernel)) ggX3_divide_X2_size
set_option maxRecDepth 20000 in
theorem ggX3_divide_X2_at : GoodIn wsX3_divide wsX2_at := goodIn_r _ [18, 10, 19, 33, 34] (by decide +kernel) (by decide +kernel)
set_option maxRecDepth 20000 in
theorem gX3_divide_X2_at : GoodIn wsX3_divide (wsV RX3 35 RX2 yX2_at wsX2_at) := goodIn_app (goodIn_of _ (by decide +kernel)) ggX3_divide_X2_at
set_option maxRecDepth 20000 in
theorem ggX3_divide_X3_rainTimes : GoodIn wsX3_divide wsX3_rainTimes := goodIn_r _ [24, 3, 15, 16, 17, 8, 18, 10, 19, 29, 30, 31, 32, 33, 34] (by decide +kernel) (by decide +kernel)
set_option maxRecDepth 20000 in
theorem gX3_divide_X3_rainTimes : GoodIn wsX3_divide (wsV RX3 39 RX3 yX3_rainTimes wsX3_rainTimes) := goodIn_app (goodIn_of _ (by decide +kernel)) ggX3_divide_X3_rainTimes
set_option maxRecDepth 20000 in
theorem ggX3_divide_X2_add : GoodIn wsX3_divide wsX2_add := goodIn_r _ [28, 10, 19, 33, 34] (by decide +kernel) (by decide +kernel)
set_option maxRecDepth 20000 in
theorem gX3_divide_X2_add : GoodIn wsX3_divide (wsV RX3 50 RX2 yX2_add wsX2_add) := goodIn_app (goodIn_of _ (by decide +kernel)) ggX3_divide_X2_add
theorem dX3_divide_0 : decode cX3_divide 0 = .ok (.aload_n 0, 1) := by decide +kernel
theorem dX3_divide_1 : decode cX3_divide 1 = .ok (.getfield 21, 3) := by decide +kernel
theorem dX3_divide_4 : decode cX3_divide 4 = .ok (.invokevirtual 43, 3) := by decide +kernel
theorem dX3_divide_7 : decode cX3_divide 7 = .ok (.aload_n 0, 1) := by decide +kernel
theorem dX3_divide_8 : decode cX3_divide 8 = .ok (.getfield 18, 3) := by decide +kernel
theorem dX3_divide_11 : decode cX3_divide 11 = .ok (.invokevirtual 46, 3) := by decide +kernel
theorem dX3_divide_14 : decode cX3_divide 14 = .ok (.aload_n 0, 1) := by decide +kernel
theorem dX3_divide_15 : decode cX3_divide 15 = .ok (.getfield 12, 3) := by decide +kernel
theorem dX3_divide_18 : decode cX3_divide 18 = .ok (.invokevirtual 46, 3) := by decide +kernel
theorem dX3_divide_21 : decode cX3_divide 21 = .ok (.isub, 1) := by decide +kernel
theorem dX3_divide_22 : decode cX3_divide 22 = .ok (.iconst 1, 1) := by decide +kernel
theorem dX3_divide_23 : decode cX3_divide 23 = .ok (.iadd, 1) := by decide +kernel
theorem dX3_divide_24 : decode cX3_divide 24 = .ok (.istore_n 1, 1) := by decide +kernel
theorem dX3_divide_25 : decode cX3_divide 25 = .ok (.aload_n 0, 1) := by decide +kernel
theorem dX3_divide_26 : decode cX3_divide 26 = .ok (.getfield 12, 3) := by decide +kernel
theorem dX3_divide_29 : decode cX3_divide 29 = .ok (.iconst 0, 1) := by decide +kernel
theorem dX3_divide_30 : decode cX3_divide 30 = .ok (.invokevirtual 35, 3) := by decide +kernel
theorem dX3_divide_33 : decode cX3_divide 33 = .ok (.istore_n 2, 1) := by decide +kernel
theorem dX3_divide_34 : decode cX3_divide 34 = .ok (.aload_n 0, 1) := by decide +kernel
theorem dX3_divide_35 : decode cX3_divide 35 = .ok (.iload_n 1, 1) := by decide +kernel
theorem dX3_divide_36 : decode cX3_divide 36 = .ok (.ifCond .le 11, 3) := by decide +kernel
theorem dX3_divide_39 : decode cX3_divide 39 = .ok (.iload_n 2, 1) := by decide +kernel
theorem dX3_divide_40 : decode cX3_divide 40 = .ok (.ifCond .le 7, 3) := by decide +kernel
theorem dX3_divide_43 : decode cX3_divide 43 = .ok (.iconst 1, 1) := by decide +kernel
theorem dX3_divide_44 : decode cX3_divide 44 = .ok (.goto 4, 3) := by decide +kernel
theorem dX3_divide_47 : decode cX3_divide 47 = .ok (.iconst 0, 1) := by decide +kernel
theorem dX3_divide_48 : decode cX3_divide 48 = .ok (.putfield 24, 3) := by decide +kernel
theorem dX3_divide_51 : decode cX3_divide 51 = .ok (.iconst 0, 1) := by decide +kernel
theorem dX3_divide_52 : decode cX3_divide 52 = .ok (.istore_n 3, 1) := by decide +kernel
theorem dX3_divide_53 : decode cX3_divide 53 = .ok (.iload_n 3, 1) := by decide +kernel
theorem dX3_divide_54 : decode cX3_divide 54 = .ok (.bipush 8, 2) := by decide +kernel
theorem dX3_divide_56 : decode cX3_divide 56 = .ok (.if_icmp .ge 88, 3) := by decide +kernel
theorem dX3_divide_59 : decode cX3_divide 59 = .ok (.aload_n 0, 1) := by decide +kernel
theorem dX3_divide_60 : decode cX3_divide 60 = .ok (.getfield 24, 3) := by decide +kernel
theorem dX3_divide_63 : decode cX3_divide 63 = .ok (.ifCond .eq 81, 3) := by decide +kernel
theorem dX3_divide_66 : decode cX3_divide 66 = .ok (.aload_n 0, 1) := by decide +kernel
theorem dX3_divide_67 : decode cX3_divide 67 = .ok (.getfield 18, 3) := by decide +kernel
theorem dX3_divide_70 : decode cX3_divide 70 = .ok (.iload_n 3, 1) := by decide +kernel
theorem dX3_divide_71 : decode cX3_divide 71 = .ok (.invokevirtual 35, 3) := by decide +kernel
theorem dX3_divide_74 : decode cX3_divide 74 = .ok (.aload_n 0, 1) := by decide +kernel
theorem dX3_divide_75 : decode cX3_divide 75 = .ok (.aload_n 0, 1) := by decide +kernel
theorem dX3_divide_76 : decode cX3_divide 76 = .ok (.getfield 21, 3) := by decide +kernel
theorem dX3_divide_79 : decode cX3_divide 79 = .ok (.iload_n 3, 1) := by decide +kernel
theorem dX3_divide_80 : decode cX3_divide 80 = .ok (.invokevirtual 39, 3) := by decide +kernel
theorem dX3_divide_83 : decode cX3_divide 83 = .ok (.isub, 1) := by decide +kernel
theorem dX3_divide_84 : decode cX3_divide 84 = .ok (.istore 4, 2) := by decide +kernel
theorem dX3_divide_86 : decode cX3_divide 86 = .ok (.iload_n 3, 1) := by decide +kernel
theorem dX3_divide_87 : decode cX3_divide 87 = .ok (.iload_n 1, 1) := by decide +kernel
theorem dX3_divide_88 : decode cX3_divide 88 = .ok (.if_icmp .lt 20, 3) := by decide +kernel
theorem dX3_divide_91 : decode cX3_divide 91 = .ok (.aload_n 0, 1) := by decide +kernel
theorem dX3_divide_92 : decode cX3_divide 92 = .ok (.iload 4, 2) := by decide +kernel
theorem dX3_divide_94 : decode cX3_divide 94 = .ok (.ifCond .ne 7, 3) := by decide +kernel
theorem dX3_divide_97 : decode cX3_divide 97 = .ok (.iconst 1, 1) := by decide +kernel
theorem dX3_divide_98 : decode cX3_divide 98 = .ok (.goto 4, 3) := by decide +kernel
theorem dX3_divide_101 : decode cX3_divide 101 = .ok (.iconst 0, 1) := by decide +kernel
theorem dX3_divide_102 : decode cX3_divide 102 = .ok (.putfield 24, 3) := by decide +kernel
theorem dX3_divide_105 : decode cX3_divide 105 = .ok (.goto 33, 3) := by decide +kernel
theorem dX3_divide_108 : decode cX3_divide 108 = .ok (.iload_n 2, 1) := by decide +kernel
theorem dX3_divide_109 : decode cX3_divide 109 = .ok (.ifCond .le 24, 3) := by decide +kernel
theorem dX3_divide_112 : decode cX3_divide 112 = .ok (.iload 4, 2) := by decide +kernel
theorem dX3_divide_114 : decode cX3_divide 114 = .ok (.iload_n 2, 1) := by decide +kernel
theorem dX3_divide_115 : decode cX3_divide 115 = .ok (.irem, 1) := by decide +kernel
theorem dX3_divide_116 : decode cX3_divide 116 = .ok (.ifCond .ne 17, 3) := by decide +kernel
theorem dX3_divide_119 : decode cX3_divide 119 = .ok (.aload_n 0, 1) := by decide +kernel
theorem dX3_divide_120 : decode cX3_divide 120 = .ok (.getfield 21, 3) := by decide +kernel
theorem dX3_divide_123 : decode cX3_divide 123 = .ok (.iload 4, 2) := by decide +kernel
theorem dX3_divide_125 : decode cX3_divide 125 = .ok (.iload_n 2, 1) := by decide +kernel
theorem dX3_divide_126 : decode cX3_divide 126 = .ok (.idiv, 1) := by decide +kernel
theorem dX3_divide_127 : decode cX3_divide 127 = .ok (.invokevirtual 50, 3) := by decide +kernel
theorem dX3_divide_130 : decode cX3_divide 130 = .ok (.goto 8, 3) := by decide +kernel
theorem dX3_divide_133 : decode cX3_divide 133 = .ok (.aload_n 0, 1) := by decide +kernel
theorem dX3_divide_134 : decode cX3_divide 134 = .ok (.iconst 0, 1) := by decide +kernel
theorem dX3_divide_135 : decode cX3_divide 135 = .ok (.putfield 24, 3) := by decide +kernel
theorem dX3_divide_138 : decode cX3_divide 138 = .ok (.iinc 3 1, 3) := by decide +kernel
theorem dX3_divide_141 : decode cX3_divide 141 = .ok (.goto (-88), 3) := by decide +kernel
theorem dX3_divide_144 : decode cX3_divide 144 = .ok (.return_, 1) := by decide +kernel
set_option maxRecDepth 20000 in
theorem ggX4_init_X2_init : GoodIn wsX4_init wsX2_init := goodIn_r _ [10, 11, 2, 3, 12, 13, 14, 15] (by decide +kernel) (by decide +kernel)
set_option maxRecDepth 20000 in
theorem gX4_init_X2_init_n11 : GoodIn wsX4_init (wsX2_init) := ggX4_init_X2_init
theorem dX4_init_0 : decode cX4_init 0 = .ok (.aload_n 0, 1) := by decide +kernel
theorem dX4_init_1 : decode cX4_init 1 = .ok (.invokespecial 3, 3) := by decide +kernel
theorem dX4_init_4 : decode cX4_init 4 = .ok (.aload_n 0, 1) := by decide +kernel
theorem dX4_init_5 : decode cX4_init 5 = .ok (.new 9, 3) := by decide +kernel
theorem dX4_init_8 : decode cX4_init 8 = .ok (.dup, 1) := by decide +kernel
theorem dX4_init_9 : decode cX4_init 9 = .ok (.invokespecial 11, 3) := by decide +kernel
theorem dX4_init_12 : decode cX4_init 12 = .ok (.putfield 12, 3) := by decide +kernel
theorem dX4_init_15 : decode cX4_init 15 = .ok (.aload_n 0, 1) := by decide +kernel
theorem dX4_init_16 : decode cX4_init 16 = .ok (.iconst 1, 1) := by decide +kernel
theorem dX4_init_17 : decode cX4_init 17 = .ok (.putfield 18, 3) := by decide +kernel
theorem dX4_init_20 : decode cX4_init 20 = .ok (.return_, 1) := by decide +kernel
set_option maxRecDepth 20000 in
theorem ggX4_summedAt_X2_at : GoodIn wsX4_summedAt wsX2_at := goodIn_r _ [7, 8, 9, 12, 13] (by decide +kernel) (by decide +kernel)
set_option maxRecDepth 20000 in
theorem gX4_summedAt_X2_at : GoodIn wsX4_summedAt (wsV RX4 22 RX2 yX2_at wsX2_at) := goodIn_app (goodIn_of _ (by decide +kernel)) ggX4_summedAt_X2_at
theorem dX4_summedAt_0 : decode cX4_summedAt 0 = .ok (.iconst 0, 1) := by decide +kernel
theorem dX4_summedAt_1 : decode cX4_summedAt 1 = .ok (.istore_n 2, 1) := by decide +kernel
theorem dX4_summedAt_2 : decode cX4_summedAt 2 = .ok (.iconst 0, 1) := by decide +kernel
theorem dX4_summedAt_3 : decode cX4_summedAt 3 = .ok (.istore_n 3, 1) := by decide +kernel
theorem dX4_summedAt_4 : decode cX4_summedAt 4 = .ok (.iload_n 3, 1) := by decide +kernel
theorem dX4_summedAt_5 : decode cX4_summedAt 5 = .ok (.bipush 20, 2) := by decide +kernel
theorem dX4_summedAt_7 : decode cX4_summedAt 7 = .ok (.if_icmp .gt 27, 3) := by decide +kernel
theorem dX4_summedAt_10 : decode cX4_summedAt 10 = .ok (.iload_n 2, 1) := by decide +kernel
theorem dX4_summedAt_11 : decode cX4_summedAt 11 = .ok (.aload_n 0, 1) := by decide +kernel
theorem dX4_summedAt_12 : decode cX4_summedAt 12 = .ok (.getfield 12, 3) := by decide +kernel
theorem dX4_summedAt_15 : decode cX4_summedAt 15 = .ok (.iload_n 1, 1) := by decide +kernel
theorem dX4_summedAt_16 : decode cX4_summedAt 16 = .ok (.iload_n 3, 1) := by decide +kernel
theorem dX4_summedAt_17 : decode cX4_summedAt 17 = .ok (.aload_n 0, 1) := by decide +kernel
theorem dX4_summedAt_18 : decode cX4_summedAt 18 = .ok (.getfield 18, 3) := by decide +kernel
theorem dX4_summedAt_21 : decode cX4_summedAt 21 = .ok (.imul, 1) := by decide +kernel
theorem dX4_summedAt_22 : decode cX4_summedAt 22 = .ok (.isub, 1) := by decide +kernel
theorem dX4_summedAt_23 : decode cX4_summedAt 23 = .ok (.invokevirtual 22, 3) := by decide +kernel
theorem dX4_summedAt_26 : decode cX4_summedAt 26 = .ok (.iadd, 1) := by decide +kernel
theorem dX4_summedAt_27 : decode cX4_summedAt 27 = .ok (.istore_n 2, 1) := by decide +kernel
theorem dX4_summedAt_28 : decode cX4_summedAt 28 = .ok (.iinc 3 1, 3) := by decide +kernel
theorem dX4_summedAt_31 : decode cX4_summedAt 31 = .ok (.goto (-27), 3) := by decide +kernel
theorem dX4_summedAt_34 : decode cX4_summedAt 34 = .ok (.iload_n 2, 1) := by decide +kernel
theorem dX4_summedAt_35 : decode cX4_summedAt 35 = .ok (.ireturn, 1) := by decide +kernel
set_option maxRecDepth 20000 in
theorem ggX5_init_X1_init : GoodIn wsX5_init wsX1_init := goodIn_r _ [23, 24, 2, 3, 25, 26, 27, 28, 29, 30, 31, 32, 4, 33, 88, 89, 68, 69, 70, 71, 72, 73] (by decide +kernel) (by decide +kernel)
set_option maxRecDepth 20000 in
theorem gX5_init_X1_init_n27 : GoodIn wsX5_init (wsX1_init) := ggX5_init_X1_init
set_option maxRecDepth 20000 in
theorem ggX5_init_X0_init : GoodIn wsX5_init wsX0_init := goodIn_r _ [35, 36, 2, 3, 37, 38, 39, 40, 41, 42, 43, 74, 75, 76, 77, 78, 79, 80, 81] (by decide +kernel) (by decide +kernel)
set_option maxRecDepth 20000 in
theorem gX5_init_X0_init_n34 : GoodIn wsX5_init (wsX0_init) := ggX5_init_X0_init
set_option maxRecDepth 20000 in
theorem ggX5_init_X3_init : GoodIn wsX5_init wsX3_init := goodIn_r _ [45, 46, 2, 3, 47, 26, 27, 48, 49, 50, 30, 31, 32, 4, 33, 88, 89, 82, 83, 84, 85] (by decide +kernel) (by decide +kernel)
set_option maxRecDepth 20000 in
theorem gX5_init_X3_init_n39 : GoodIn wsX5_init (wsX3_init) := ggX5_init_X3_init
set_option maxRecDepth 20000 in
theorem ggX5_init_X4_init : GoodIn wsX5_init wsX4_init := goodIn_r _ [52, 53, 2, 3, 54, 26, 27, 55, 56, 30, 31, 32, 4, 33, 88, 89, 86, 87] (by decide +kernel) (by decide +kernel)
set_option maxRecDepth 20000 in
theorem gX5_init_X4_init_n40 : GoodIn wsX5_init (wsX4_init) := ggX5_init_X4_init
theorem dX5_init_0 : decode cX5_init 0 = .ok (.aload_n 0, 1) := by decide +kernel
theorem dX5_init_1 : decode cX5_init 1 = .ok (.invokespecial 1, 3) := by decide +kernel
theorem dX5_init_4 : decode cX5_init 4 = .ok (.aload_n 0, 1) := by decide +kernel
theorem dX5_init_5 : decode cX5_init 5 = .ok (.bipush 40, 2) := by decide +kernel
theorem dX5_init_7 : decode cX5_init 7 = .ok (.newarray .int, 2) := by decide +kernel
theorem dX5_init_9 : decode cX5_init 9 = .ok (.putfield 9, 3) := by decide +kernel
theorem dX5_init_12 : decode cX5_init 12 = .ok (.aload_n 0, 1) := by decide +kernel
theorem dX5_init_13 : decode cX5_init 13 = .ok (.iconst 3, 1) := by decide +kernel
theorem dX5_init_14 : decode cX5_init 14 = .ok (.anewarray 13, 3) := by decide +kernel
theorem dX5_init_17 : decode cX5_init 17 = .ok (.putfield 15, 3) := by decide +kernel
theorem dX5_init_20 : decode cX5_init 20 = .ok (.aload_n 0, 1) := by decide +kernel
theorem dX5_init_21 : decode cX5_init 21 = .ok (.iconst 4, 1) := by decide +kernel
theorem dX5_init_22 : decode cX5_init 22 = .ok (.anewarray 19, 3) := by decide +kernel
theorem dX5_init_25 : decode cX5_init 25 = .ok (.putfield 21, 3) := by decide +kernel
theorem dX5_init_28 : decode cX5_init 28 = .ok (.aload_n 0, 1) := by decide +kernel
theorem dX5_init_29 : decode cX5_init 29 = .ok (.new 25, 3) := by decide +kernel
theorem dX5_init_32 : decode cX5_init 32 = .ok (.dup, 1) := by decide +kernel
theorem dX5_init_33 : decode cX5_init 33 = .ok (.invokespecial 27, 3) := by decide +kernel
theorem dX5_init_36 : decode cX5_init 36 = .ok (.putfield 28, 3) := by decide +kernel
theorem dX5_init_39 : decode cX5_init 39 = .ok (.aload_n 0, 1) := by decide +kernel
theorem dX5_init_40 : decode cX5_init 40 = .ok (.new 32, 3) := by decide +kernel
theorem dX5_init_43 : decode cX5_init 43 = .ok (.dup, 1) := by decide +kernel
theorem dX5_init_44 : decode cX5_init 44 = .ok (.invokespecial 34, 3) := by decide +kernel
theorem dX5_init_47 : decode cX5_init 47 = .ok (.putfield 35, 3) := by decide +kernel
theorem dX5_init_50 : decode cX5_init 50 = .ok (.iconst 0, 1) := by decide +kernel
theorem dX5_init_51 : decode cX5_init 51 = .ok (.istore_n 1, 1) := by decide +kernel
theorem dX5_init_52 : decode cX5_init 52 = .ok (.iload_n 1, 1) := by decide +kernel
theorem dX5_init_53 : decode cX5_init 53 = .ok (.iconst 3, 1) := by decide +kernel
theorem dX5_init_54 : decode cX5_init 54 = .ok (.if_icmp .ge 22, 3) := by decide +kernel
theorem dX5_init_57 : decode cX5_init 57 = .ok (.aload_n 0, 1) := by decide +kernel
theorem dX5_init_58 : decode cX5_init 58 = .ok (.getfield 15, 3) := by decide +kernel
theorem dX5_init_61 : decode cX5_init 61 = .ok (.iload_n 1, 1) := by decide +kernel
theorem dX5_init_62 : decode cX5_init 62 = .ok (.new 13, 3) := by decide +kernel
theorem dX5_init_65 : decode cX5_init 65 = .ok (.dup, 1) := by decide +kernel
theorem dX5_init_66 : decode cX5_init 66 = .ok (.invokespecial 39, 3) := by decide +kernel
theorem dX5_init_69 : decode cX5_init 69 = .ok (.aastore, 1) := by decide +kernel
theorem dX5_init_70 : decode cX5_init 70 = .ok (.iinc 1 1, 3) := by decide +kernel
theorem dX5_init_73 : decode cX5_init 73 = .ok (.goto (-21), 3) := by decide +kernel
theorem dX5_init_76 : decode cX5_init 76 = .ok (.iconst 0, 1) := by decide +kernel
theorem dX5_init_77 : decode cX5_init 77 = .ok (.istore_n 1, 1) := by decide +kernel
theorem dX5_init_78 : decode cX5_init 78 = .ok (.iload_n 1, 1) := by decide +kernel
theorem dX5_init_79 : decode cX5_init 79 = .ok (.iconst 4, 1) := by decide +kernel
theorem dX5_init_80 : decode cX5_init 80 = .ok (.if_icmp .ge 22, 3) := by decide +kernel
theorem dX5_init_83 : decode cX5_init 83 = .ok (.aload_n 0, 1) := by decide +kernel
theorem dX5_init_84 : decode cX5_init 84 = .ok (.getfield 21, 3) := by decide +kernel
theorem dX5_init_87 : decode cX5_init 87 = .ok (.iload_n 1, 1) := by decide +kernel
theorem dX5_init_88 : decode cX5_init 88 = .ok (.new 19, 3) := by decide +kernel
theorem dX5_init_91 : decode cX5_init 91 = .ok (.dup, 1) := by decide +kernel
theorem dX5_init_92 : decode cX5_init 92 = .ok (.invokespecial 40, 3) := by decide +kernel
theorem dX5_init_95 : decode cX5_init 95 = .ok (.aastore, 1) := by decide +kernel
theorem dX5_init_96 : decode cX5_init 96 = .ok (.iinc 1 1, 3) := by decide +kernel
theorem dX5_init_99 : decode cX5_init 99 = .ok (.goto (-21), 3) := by decide +kernel
theorem dX5_init_102 : decode cX5_init 102 = .ok (.return_, 1) := by decide +kernel
theorem dX5_letter_0 : decode cX5_letter 0 = .ok (.iload_n 1, 1) := by decide +kernel
theorem dX5_letter_1 : decode cX5_letter 1 = .ok (.bipush 32, 2) := by decide +kernel
theorem dX5_letter_3 : decode cX5_letter 3 = .ok (.if_icmp .lt 9, 3) := by decide +kernel
theorem dX5_letter_6 : decode cX5_letter 6 = .ok (.iload_n 1, 1) := by decide +kernel
theorem dX5_letter_7 : decode cX5_letter 7 = .ok (.bipush 126, 2) := by decide +kernel
theorem dX5_letter_9 : decode cX5_letter 9 = .ok (.if_icmp .le 6, 3) := by decide +kernel
theorem dX5_letter_12 : decode cX5_letter 12 = .ok (.ldc 41, 2) := by decide +kernel
theorem dX5_letter_14 : decode cX5_letter 14 = .ok (.ireturn, 1) := by decide +kernel
theorem dX5_letter_15 : decode cX5_letter 15 = .ok (.aload_n 0, 1) := by decide +kernel
theorem dX5_letter_16 : decode cX5_letter 16 = .ok (.getfield 42, 3) := by decide +kernel
theorem dX5_letter_19 : decode cX5_letter 19 = .ok (.bipush 40, 2) := by decide +kernel
theorem dX5_letter_21 : decode cX5_letter 21 = .ok (.if_icmp .lt 6, 3) := by decide +kernel
theorem dX5_letter_24 : decode cX5_letter 24 = .ok (.ldc 46, 2) := by decide +kernel
theorem dX5_letter_26 : decode cX5_letter 26 = .ok (.ireturn, 1) := by decide +kernel
theorem dX5_letter_27 : decode cX5_letter 27 = .ok (.aload_n 0, 1) := by decide +kernel
theorem dX5_letter_28 : decode cX5_letter 28 = .ok (.getfield 9, 3) := by decide +kernel
theorem dX5_letter_31 : decode cX5_letter 31 = .ok (.aload_n 0, 1) := by decide +kernel
theorem dX5_letter_32 : decode cX5_letter 32 = .ok (.getfield 42, 3) := by decide +kernel
theorem dX5_letter_35 : decode cX5_letter 35 = .ok (.iload_n 1, 1) := by decide +kernel
theorem dX5_letter_36 : decode cX5_letter 36 = .ok (.iastore, 1) := by decide +kernel
theorem dX5_letter_37 : decode cX5_letter 37 = .ok (.aload_n 0, 1) := by decide +kernel
theorem dX5_letter_38 : decode cX5_letter 38 = .ok (.dup, 1) := by decide +kernel
theorem dX5_letter_39 : decode cX5_letter 39 = .ok (.getfield 42, 3) := by decide +kernel
theorem dX5_letter_42 : decode cX5_letter 42 = .ok (.iconst 1, 1) := by decide +kernel
theorem dX5_letter_43 : decode cX5_letter 43 = .ok (.iadd, 1) := by decide +kernel
theorem dX5_letter_44 : decode cX5_letter 44 = .ok (.putfield 42, 3) := by decide +kernel
theorem dX5_letter_47 : decode cX5_letter 47 = .ok (.aload_n 0, 1) := by decide +kernel
theorem dX5_letter_48 : decode cX5_letter 48 = .ok (.getfield 42, 3) := by decide +kernel
theorem dX5_letter_51 : decode cX5_letter 51 = .ok (.ireturn, 1) := by decide +kernel
theorem dX5_blank_0 : decode cX5_blank 0 = .ok (.aload_n 0, 1) := by decide +kernel
theorem dX5_blank_1 : decode cX5_blank 1 = .ok (.getfield 42, 3) := by decide +kernel
theorem dX5_blank_4 : decode cX5_blank 4 = .ok (.istore_n 1, 1) := by decide +kernel
theorem dX5_blank_5 : decode cX5_blank 5 = .ok (.aload_n 0, 1) := by decide +kernel
theorem dX5_blank_6 : decode cX5_blank 6 = .ok (.iconst 0, 1) := by decide +kernel
theorem dX5_blank_7 : decode cX5_blank 7 = .ok (.putfield 42, 3) := by decide +kernel
theorem dX5_blank_10 : decode cX5_blank 10 = .ok (.iload_n 1, 1) := by decide +kernel
theorem dX5_blank_11 : decode cX5_blank 11 = .ok (.ireturn, 1) := by decide +kernel
set_option maxRecDepth 20000 in
theorem ggX5_fault_X1_read : GoodIn wsX5_fault wsX1_read := goodIn_r _ [8, 9, 10, 11, 7, 12, 13, 14, 15, 16, 17, 18, 19, 20, 21, 22, 23, 24, 25, 26, 27, 28, 29, 30, 31, 32, 33, 34, 35, 36, 37, 38, 39, 40, 41, 42, 43, 44, 45, 46, 47, 48, 49, 50, 51, 52, 53, 54, 55, 56, 57, 58, 59, 60, 61, 62, 63, 64, 65, 66, 67, 68, 69, 70, 71, 72, 84, 85, 86, 87, 88, 89, 90, 91] (by decide +kernel) (by decide +kernel)
set_option maxRecDepth 20000 in
theorem gX5_fault_X1_read : GoodIn wsX5_fault (wsV RX5 47 RX1 yX1_read wsX1_read) := goodIn_app (goodIn_of _ (by decide +kernel)) ggX5_fault_X1_read
theorem dX5_fault_0 : decode cX5_fault 0 = .ok (.aload_n 0, 1) := by decide +kernel
theorem dX5_fault_1 : decode cX5_fault 1 = .ok (.getfield 28, 3) := by decide +kernel
theorem dX5_fault_4 : decode cX5_fault 4 = .ok (.aload_n 0, 1) := by decide +kernel
theorem dX5_fault_5 : decode cX5_fault 5 = .ok (.getfield 9, 3) := by decide +kernel
theorem dX5_fault_8 : decode cX5_fault 8 = .ok (.aload_n 0, 1) := by decide +kernel
theorem dX5_fault_9 : decode cX5_fault 9 = .ok (.getfield 42, 3) := by decide +kernel
theorem dX5_fault_12 : decode cX5_fault 12 = .ok (.invokevirtual 47, 3) := by decide +kernel
theorem dX5_fault_15 : decode cX5_fault 15 = .ok (.ireturn, 1) := by decide +kernel
set_option maxRecDepth 20000 in
theorem ggX5_take_X1_read : GoodIn wsX5_take wsX1_read := goodIn_r _ [11, 12, 13, 14, 10, 15, 16, 17, 18, 19, 20, 21, 22, 23, 24, 25, 26, 27, 28, 29, 30, 31, 32, 33, 34, 35, 36, 37, 38, 39, 40, 41, 42, 43, 44, 45, 46, 47, 48, 49, 50, 51, 52, 53, 54, 55, 56, 57, 58, 59, 60, 61, 62, 63, 64, 65, 66, 67, 68, 69, 70, 71, 72, 73, 74, 75, 145, 146, 147, 148, 149, 150, 151, 152] (by decide +kernel) (by decide +kernel)
set_option maxRecDepth 20000 in
theorem gX5_take_X1_read : GoodIn wsX5_take (wsV RX5 47 RX1 yX1_read wsX1_read) := goodIn_app (goodIn_of _ (by decide +kernel)) ggX5_take_X1_read
set_option maxRecDepth 20000 in
theorem ggX5_take_X1_isWhole : GoodIn wsX5_take wsX1_isWhole := goodIn_r _ [79, 18, 21, 145, 146, 147, 148, 149, 150] (by decide +kernel) (by decide +kernel)
set_option maxRecDepth 20000 in
theorem gX5_take_X1_isWhole : GoodIn wsX5_take (wsV RX5 51 RX1 yX1_isWhole wsX1_isWhole) := goodIn_app (goodIn_of _ (by decide +kernel)) ggX5_take_X1_isWhole
set_option maxRecDepth 20000 in
theorem ggX5_take_X1_isOfUnit : GoodIn wsX5_take wsX1_isOfUnit := goodIn_r _ [83, 20, 145, 146, 147, 148, 149, 150] (by decide +kernel) (by decide +kernel)
set_option maxRecDepth 20000 in
theorem gX5_take_X1_isOfUnit : GoodIn wsX5_take (wsV RX5 56 RX1 yX1_isOfUnit wsX1_isOfUnit) := goodIn_app (goodIn_of _ (by decide +kernel)) ggX5_take_X1_isOfUnit
set_option maxRecDepth 20000 in
theorem ggX5_take_X5_takeUnit : GoodIn wsX5_take wsX5_takeUnit := goodIn_r _ [87, 88, 5, 89, 1, 90, 91, 92, 93, 94, 95, 10, 96, 19, 97, 98, 99, 25, 100, 27, 60, 101, 102, 103, 104, 134, 135, 136, 137, 138, 139, 140, 141, 142, 143, 144, 153, 154, 145, 146, 147, 148, 149, 150, 151, 152] (by decide +kernel) (by decide +kernel)
set_option maxRecDepth 20000 in
theorem gX5_take_X5_takeUnit : GoodIn wsX5_take (wsV RX5 59 RX5 yX5_takeUnit wsX5_takeUnit) := goodIn_app (goodIn_of _ (by decide +kernel)) ggX5_take_X5_takeUnit
set_option maxRecDepth 20000 in
theorem ggX5_take_X5_takeStorm : GoodIn wsX5_take wsX5_takeStorm := goodIn_r _ [108, 109, 5, 110, 1, 111, 92, 112, 113, 114, 115, 116, 117, 118, 119, 98, 99, 25, 100, 27, 60, 101, 102, 103, 104, 120, 121, 122, 123, 124, 125, 126, 23, 24, 26, 127, 45, 46, 47, 128, 129, 130, 131, 132, 133, 66, 67, 68, 134, 135, 136, 137, 138, 139, 140, 141, 142, 143, 144, 145, 146, 147, 148, 149, 150, 155, 156, 157, 158, 151, 152] (by decide +kernel) (by decide +kernel)
set_option maxRecDepth 20000 in
theorem gX5_take_X5_takeStorm : GoodIn wsX5_take (wsV RX5 63 RX5 yX5_takeStorm wsX5_takeStorm) := goodIn_app (goodIn_of _ (by decide +kernel)) ggX5_take_X5_takeStorm
theorem dX5_take_0 : decode cX5_take 0 = .ok (.aload_n 0, 1) := by decide +kernel
theorem dX5_take_1 : decode cX5_take 1 = .ok (.getfield 28, 3) := by decide +kernel
theorem dX5_take_4 : decode cX5_take 4 = .ok (.aload_n 0, 1) := by decide +kernel
theorem dX5_take_5 : decode cX5_take 5 = .ok (.getfield 9, 3) := by decide +kernel
theorem dX5_take_8 : decode cX5_take 8 = .ok (.aload_n 0, 1) := by decide +kernel
theorem dX5_take_9 : decode cX5_take 9 = .ok (.getfield 42, 3) := by decide +kernel
theorem dX5_take_12 : decode cX5_take 12 = .ok (.invokevirtual 47, 3) := by decide +kernel
theorem dX5_take_15 : decode cX5_take 15 = .ok (.aload_n 0, 1) := by decide +kernel
theorem dX5_take_16 : decode cX5_take 16 = .ok (.getfield 42, 3) := by decide +kernel
theorem dX5_take_19 : decode cX5_take 19 = .ok (.if_icmp .lt 13, 3) := by decide +kernel
theorem dX5_take_22 : decode cX5_take 22 = .ok (.aload_n 0, 1) := by decide +kernel
theorem dX5_take_23 : decode cX5_take 23 = .ok (.getfield 28, 3) := by decide +kernel
theorem dX5_take_26 : decode cX5_take 26 = .ok (.invokevirtual 51, 3) := by decide +kernel
theorem dX5_take_29 : decode cX5_take 29 = .ok (.ifCond .ne 6, 3) := by decide +kernel
theorem dX5_take_32 : decode cX5_take 32 = .ok (.ldc 55, 2) := by decide +kernel
theorem dX5_take_34 : decode cX5_take 34 = .ok (.ireturn, 1) := by decide +kernel
theorem dX5_take_35 : decode cX5_take 35 = .ok (.aload_n 0, 1) := by decide +kernel
theorem dX5_take_36 : decode cX5_take 36 = .ok (.getfield 28, 3) := by decide +kernel
theorem dX5_take_39 : decode cX5_take 39 = .ok (.invokevirtual 56, 3) := by decide +kernel
theorem dX5_take_42 : decode cX5_take 42 = .ok (.ifCond .eq 10, 3) := by decide +kernel
theorem dX5_take_45 : decode cX5_take 45 = .ok (.aload_n 0, 1) := by decide +kernel
theorem dX5_take_46 : decode cX5_take 46 = .ok (.invokevirtual 59, 3) := by decide +kernel
theorem dX5_take_49 : decode cX5_take 49 = .ok (.goto 7, 3) := by decide +kernel
theorem dX5_take_52 : decode cX5_take 52 = .ok (.aload_n 0, 1) := by decide +kernel
theorem dX5_take_53 : decode cX5_take 53 = .ok (.invokevirtual 63, 3) := by decide +kernel
theorem dX5_take_56 : decode cX5_take 56 = .ok (.istore_n 1, 1) := by decide +kernel
theorem dX5_take_57 : decode cX5_take 57 = .ok (.iload_n 1, 1) := by decide +kernel
theorem dX5_take_58 : decode cX5_take 58 = .ok (.ldc 46, 2) := by decide +kernel
theorem dX5_take_60 : decode cX5_take 60 = .ok (.if_icmp .ne 6, 3) := by decide +kernel
theorem dX5_take_63 : decode cX5_take 63 = .ok (.ldc 46, 2) := by decide +kernel
theorem dX5_take_65 : decode cX5_take 65 = .ok (.ireturn, 1) := by decide +kernel
theorem dX5_take_66 : decode cX5_take 66 = .ok (.aload_n 0, 1) := by decide +kernel
theorem dX5_take_67 : decode cX5_take 67 = .ok (.iconst 0, 1) := by decide +kernel
theorem dX5_take_68 : decode cX5_take 68 = .ok (.putfield 42, 3) := by decide +kernel
theorem dX5_take_71 : decode cX5_take 71 = .ok (.aload_n 0, 1) := by decide +kernel
theorem dX5_take_72 : decode cX5_take 72 = .ok (.dup, 1) := by decide +kernel
theorem dX5_take_73 : decode cX5_take 73 = .ok (.getfield 66, 3) := by decide +kernel
theorem dX5_take_76 : decode cX5_take 76 = .ok (.iconst 1, 1) := by decide +kernel
theorem dX5_take_77 : decode cX5_take 77 = .ok (.iadd, 1) := by decide +kernel
theorem dX5_take_78 : decode cX5_take 78 = .ok (.putfield 66, 3) := by decide +kernel
theorem dX5_take_81 : decode cX5_take 81 = .ok (.iload_n 1, 1) := by decide +kernel
theorem dX5_take_82 : decode cX5_take 82 = .ok (.ireturn, 1) := by decide +kernel
set_option maxRecDepth 20000 in
theorem ggX5_drop_X5_dropUnit : GoodIn wsX5_drop wsX5_dropUnit := goodIn_r _ [5, 6, 7, 8, 9, 10, 11, 12, 4, 13, 24, 25, 26, 27, 28, 29, 30, 31, 32, 33, 34] (by decide +kernel) (by decide +kernel)
set_option maxRecDepth 20000 in
theorem gX5_drop_X5_dropUnit : GoodIn wsX5_drop (wsV RX5 69 RX5 yX5_dropUnit wsX5_dropUnit) := goodIn_app (goodIn_of _ (by decide +kernel)) ggX5_drop_X5_dropUnit
set_option maxRecDepth 20000 in
theorem ggX5_drop_X5_dropStorm : GoodIn wsX5_drop wsX5_dropStorm := goodIn_r _ [17, 6, 18, 19, 9, 20, 21, 22, 4, 23, 24, 25, 26, 27, 28, 29, 30, 31, 32, 33, 34] (by decide +kernel) (by decide +kernel)
set_option maxRecDepth 20000 in
theorem gX5_drop_X5_dropStorm : GoodIn wsX5_drop (wsV RX5 73 RX5 yX5_dropStorm wsX5_dropStorm) := goodIn_app (goodIn_of _ (by decide +kernel)) ggX5_drop_X5_dropStorm
theorem dX5_drop_0 : decode cX5_drop 0 = .ok (.iload_n 1, 1) := by decide +kernel
theorem dX5_drop_1 : decode cX5_drop 1 = .ok (.ifCond .eq 11, 3) := by decide +kernel
theorem dX5_drop_4 : decode cX5_drop 4 = .ok (.aload_n 0, 1) := by decide +kernel
theorem dX5_drop_5 : decode cX5_drop 5 = .ok (.iload_n 2, 1) := by decide +kernel
theorem dX5_drop_6 : decode cX5_drop 6 = .ok (.invokevirtual 69, 3) := by decide +kernel
theorem dX5_drop_9 : decode cX5_drop 9 = .ok (.goto 8, 3) := by decide +kernel
theorem dX5_drop_12 : decode cX5_drop 12 = .ok (.aload_n 0, 1) := by decide +kernel
theorem dX5_drop_13 : decode cX5_drop 13 = .ok (.iload_n 2, 1) := by decide +kernel
theorem dX5_drop_14 : decode cX5_drop 14 = .ok (.invokevirtual 73, 3) := by decide +kernel
theorem dX5_drop_17 : decode cX5_drop 17 = .ok (.ireturn, 1) := by decide +kernel
set_option maxRecDepth 20000 in
theorem ggX5_storm_X5_hasStorm : GoodIn wsX5_storm wsX5_hasStorm := goodIn_r _ [10, 11, 28, 29, 30, 31, 32, 33, 34, 35, 36, 37, 38] (by decide +kernel) (by decide +kernel)
set_option maxRecDepth 20000 in
theorem gX5_storm_X5_hasStorm : GoodIn wsX5_storm (wsV RX5 76 RX5 yX5_hasStorm wsX5_hasStorm) := goodIn_app (goodIn_of _ (by decide +kernel)) ggX5_storm_X5_hasStorm
set_option maxRecDepth 20000 in
theorem ggX5_storm_X2_at : GoodIn wsX5_storm wsX2_at := goodIn_r _ [16, 17, 18, 43, 44] (by decide +kernel) (by decide +kernel)
set_option maxRecDepth 20000 in
theorem gX5_storm_X2_at : GoodIn wsX5_storm (wsV RX5 85 RX2 yX2_at wsX2_at) := goodIn_app (goodIn_of _ (by decide +kernel)) ggX5_storm_X2_at
set_option maxRecDepth 20000 in
theorem ggX5_storm_X2_size : GoodIn wsX5_storm wsX2_size := goodIn_r _ [22, 17, 43, 44] (by decide +kernel) (by decide +kernel)
set_option maxRecDepth 20000 in
theorem gX5_storm_X2_size : GoodIn wsX5_storm (wsV RX5 93 RX2 yX2_size wsX2_size) := goodIn_app (goodIn_of _ (by decide +kernel)) ggX5_storm_X2_size
set_option maxRecDepth 20000 in
theorem ggX5_storm_X2_total : GoodIn wsX5_storm wsX2_total := goodIn_r _ [26, 27, 13, 14, 15, 16, 17, 18, 43, 44] (by decide +kernel) (by decide +kernel)
set_option maxRecDepth 20000 in
theorem gX5_storm_X2_total : GoodIn wsX5_storm (wsV RX5 96 RX2 yX2_total wsX2_total) := goodIn_app (goodIn_of _ (by decide +kernel)) ggX5_storm_X2_total
theorem dX5_storm_0 : decode cX5_storm 0 = .ok (.aload_n 0, 1) := by decide +kernel
theorem dX5_storm_1 : decode cX5_storm 1 = .ok (.iload_n 1, 1) := by decide +kernel
theorem dX5_storm_2 : decode cX5_storm 2 = .ok (.invokevirtual 76, 3) := by decide +kernel
theorem dX5_storm_5 : decode cX5_storm 5 = .ok (.ifCond .ne 6, 3) := by decide +kernel
theorem dX5_storm_8 : decode cX5_storm 8 = .ok (.ldc 80, 2) := by decide +kernel
theorem dX5_storm_10 : decode cX5_storm 10 = .ok (.ireturn, 1) := by decide +kernel
theorem dX5_storm_11 : decode cX5_storm 11 = .ok (.aload_n 0, 1) := by decide +kernel
theorem dX5_storm_12 : decode cX5_storm 12 = .ok (.getfield 15, 3) := by decide +kernel
theorem dX5_storm_15 : decode cX5_storm 15 = .ok (.iload_n 1, 1) := by decide +kernel
theorem dX5_storm_16 : decode cX5_storm 16 = .ok (.aaload, 1) := by decide +kernel
theorem dX5_storm_17 : decode cX5_storm 17 = .ok (.astore_n 3, 1) := by decide +kernel
theorem dX5_storm_18 : decode cX5_storm 18 = .ok (.iload_n 2, 1) := by decide +kernel
theorem dX5_storm_19 : decode cX5_storm 19 = .ok (.bipush 10, 2) := by decide +kernel
theorem dX5_storm_21 : decode cX5_storm 21 = .ok (.if_icmp .lt 21, 3) := by decide +kernel
theorem dX5_storm_24 : decode cX5_storm 24 = .ok (.iload_n 2, 1) := by decide +kernel
theorem dX5_storm_25 : decode cX5_storm 25 = .ok (.bipush 13, 2) := by decide +kernel
theorem dX5_storm_27 : decode cX5_storm 27 = .ok (.if_icmp .ge 15, 3) := by decide +kernel
theorem dX5_storm_30 : decode cX5_storm 30 = .ok (.aload_n 3, 1) := by decide +kernel
theorem dX5_storm_31 : decode cX5_storm 31 = .ok (.getfield 81, 3) := by decide +kernel
theorem dX5_storm_34 : decode cX5_storm 34 = .ok (.iload_n 2, 1) := by decide +kernel
theorem dX5_storm_35 : decode cX5_storm 35 = .ok (.bipush 10, 2) := by decide +kernel
theorem dX5_storm_37 : decode cX5_storm 37 = .ok (.isub, 1) := by decide +kernel
theorem dX5_storm_38 : decode cX5_storm 38 = .ok (.invokevirtual 85, 3) := by decide +kernel
theorem dX5_storm_41 : decode cX5_storm 41 = .ok (.ireturn, 1) := by decide +kernel
theorem dX5_storm_42 : decode cX5_storm 42 = .ok (.iload_n 2, 1) := by decide +kernel
theorem dX5_storm_43 : decode cX5_storm 43 = .ok (.bipush 20, 2) := by decide +kernel
theorem dX5_storm_45 : decode cX5_storm 45 = .ok (.if_icmp .lt 21, 3) := by decide +kernel
theorem dX5_storm_48 : decode cX5_storm 48 = .ok (.iload_n 2, 1) := by decide +kernel
theorem dX5_storm_49 : decode cX5_storm 49 = .ok (.bipush 28, 2) := by decide +kernel
theorem dX5_storm_51 : decode cX5_storm 51 = .ok (.if_icmp .ge 15, 3) := by decide +kernel
theorem dX5_storm_54 : decode cX5_storm 54 = .ok (.aload_n 3, 1) := by decide +kernel
theorem dX5_storm_55 : decode cX5_storm 55 = .ok (.getfield 90, 3) := by decide +kernel
theorem dX5_storm_58 : decode cX5_storm 58 = .ok (.iload_n 2, 1) := by decide +kernel
theorem dX5_storm_59 : decode cX5_storm 59 = .ok (.bipush 20, 2) := by decide +kernel
theorem dX5_storm_61 : decode cX5_storm 61 = .ok (.isub, 1) := by decide +kernel
theorem dX5_storm_62 : decode cX5_storm 62 = .ok (.invokevirtual 85, 3) := by decide +kernel
theorem dX5_storm_65 : decode cX5_storm 65 = .ok (.ireturn, 1) := by decide +kernel
theorem dX5_storm_66 : decode cX5_storm 66 = .ok (.iload_n 2, 1) := by decide +kernel
theorem dX5_storm_67 : decode cX5_storm 67 = .ok (.tableswitch 61 0 3 #[29, 37, 45, 53], 29) := by decide +kernel
theorem dX5_storm_96 : decode cX5_storm 96 = .ok (.aload_n 3, 1) := by decide +kernel
theorem dX5_storm_97 : decode cX5_storm 97 = .ok (.getfield 81, 3) := by decide +kernel
theorem dX5_storm_100 : decode cX5_storm 100 = .ok (.invokevirtual 93, 3) := by decide +kernel
theorem dX5_storm_103 : decode cX5_storm 103 = .ok (.ireturn, 1) := by decide +kernel
theorem dX5_storm_104 : decode cX5_storm 104 = .ok (.aload_n 3, 1) := by decide +kernel
theorem dX5_storm_105 : decode cX5_storm 105 = .ok (.getfield 90, 3) := by decide +kernel
theorem dX5_storm_108 : decode cX5_storm 108 = .ok (.invokevirtual 93, 3) := by decide +kernel
theorem dX5_storm_111 : decode cX5_storm 111 = .ok (.ireturn, 1) := by decide +kernel
theorem dX5_storm_112 : decode cX5_storm 112 = .ok (.aload_n 3, 1) := by decide +kernel
theorem dX5_storm_113 : decode cX5_storm 113 = .ok (.getfield 81, 3) := by decide +kernel
theorem dX5_storm_116 : decode cX5_storm 116 = .ok (.invokevirtual 96, 3) := by decide +kernel
theorem dX5_storm_119 : decode cX5_storm 119 = .ok (.ireturn, 1) := by decide +kernel
theorem dX5_storm_120 : decode cX5_storm 120 = .ok (.aload_n 3, 1) := by decide +kernel
theorem dX5_storm_121 : decode cX5_storm 121 = .ok (.getfield 90, 3) := by decide +kernel
theorem dX5_storm_124 : decode cX5_storm 124 = .ok (.invokevirtual 96, 3) := by decide +kernel
theorem dX5_storm_127 : decode cX5_storm 127 = .ok (.ireturn, 1) := by decide +kernel
theorem dX5_storm_128 : decode cX5_storm 128 = .ok (.ldc 41, 2) := by decide +kernel
theorem dX5_storm_130 : decode cX5_storm 130 = .ok (.ireturn, 1) := by decide +kernel
set_option maxRecDepth 20000 in
theorem ggX5_divided_X5_hasStorm : GoodIn wsX5_divided wsX5_hasStorm := goodIn_r _ [10, 11, 29, 30, 31, 32, 33, 34, 35, 36, 37, 38, 39] (by decide +kernel) (by decide +kernel)
set_option maxRecDepth 20000 in
theorem gX5_divided_X5_hasStorm : GoodIn wsX5_divided (wsV RX5 76 RX5 yX5_hasStorm wsX5_hasStorm) := goodIn_app (goodIn_of _ (by decide +kernel)) ggX5_divided_X5_hasStorm
set_option maxRecDepth 20000 in
theorem ggX5_divided_X3_goesEvenly : GoodIn wsX5_divided wsX3_goesEvenly := goodIn_r _ [16, 17, 40, 41, 42, 43] (by decide +kernel) (by decide +kernel)
set_option maxRecDepth 20000 in
theorem gX5_divided_X3_goesEvenly : GoodIn wsX5_divided (wsV RX5 99 RX3 yX3_goesEvenly wsX3_goesEvenly) := goodIn_app (goodIn_of _ (by decide +kernel)) ggX5_divided_X3_goesEvenly
set_option maxRecDepth 20000 in
theorem ggX5_divided_X2_size : GoodIn wsX5_divided wsX2_size := goodIn_r _ [22, 23, 44, 45] (by decide +kernel) (by decide +kernel)
set_option maxRecDepth 20000 in
theorem gX5_divided_X2_size : GoodIn wsX5_divided (wsV RX5 93 RX2 yX2_size wsX2_size) := goodIn_app (goodIn_of _ (by decide +kernel)) ggX5_divided_X2_size
set_option maxRecDepth 20000 in
theorem ggX5_divided_X2_at : GoodIn wsX5_divided wsX2_at := goodIn_r _ [27, 23, 28, 44, 45] (by decide +kernel) (by decide +kernel)
set_option maxRecDepth 20000 in
theorem gX5_divided_X2_at : GoodIn wsX5_divided (wsV RX5 85 RX2 yX2_at wsX2_at) := goodIn_app (goodIn_of _ (by decide +kernel)) ggX5_divided_X2_at
end
section
theorem dX5_divided_0 : decode cX5_divided 0 = .ok (.aload_n 0, 1) := by decide +kernel
theorem dX5_divided_1 : decode cX5_divided 1 = .ok (.iload_n 1, 1) := by decide +kernel
theorem dX5_divided_2 : decode cX5_divided 2 = .ok (.invokevirtual 76, 3) := by decide +kernel
theorem dX5_divided_5 : decode cX5_divided 5 = .ok (.ifCond .ne 6, 3) := by decide +kernel
theorem dX5_divided_8 : decode cX5_divided 8 = .ok (.ldc 80, 2) := by decide +kernel
theorem dX5_divided_10 : decode cX5_divided 10 = .ok (.ireturn, 1) := by decide +kernel
theorem dX5_divided_11 : decode cX5_divided 11 = .ok (.iload_n 2, 1) := by decide +kernel
theorem dX5_divided_12 : decode cX5_divided 12 = .ok (.bipush 10, 2) := by decide +kernel
theorem dX5_divided_14 : decode cX5_divided 14 = .ok (.isub, 1) := by decide +kernel
theorem dX5_divided_15 : decode cX5_divided 15 = .ok (.istore_n 3, 1) := by decide +kernel
theorem dX5_divided_16 : decode cX5_divided 16 = .ok (.iload_n 2, 1) := by decide +kernel
theorem dX5_divided_17 : decode cX5_divided 17 = .ok (.bipush 10, 2) := by decide +kernel
theorem dX5_divided_19 : decode cX5_divided 19 = .ok (.if_icmp .lt 13, 3) := by decide +kernel
theorem dX5_divided_22 : decode cX5_divided 22 = .ok (.iload_n 2, 1) := by decide +kernel
theorem dX5_divided_23 : decode cX5_divided 23 = .ok (.bipush 18, 2) := by decide +kernel
theorem dX5_divided_25 : decode cX5_divided 25 = .ok (.if_icmp .ge 7, 3) := by decide +kernel
theorem dX5_divided_28 : decode cX5_divided 28 = .ok (.iconst 1, 1) := by decide +kernel
theorem dX5_divided_29 : decode cX5_divided 29 = .ok (.goto 4, 3) := by decide +kernel
theorem dX5_divided_32 : decode cX5_divided 32 = .ok (.iconst 0, 1) := by decide +kernel
theorem dX5_divided_33 : decode cX5_divided 33 = .ok (.istore 4, 2) := by decide +kernel
theorem dX5_divided_35 : decode cX5_divided 35 = .ok (.iload_n 2, 1) := by decide +kernel
theorem dX5_divided_36 : decode cX5_divided 36 = .ok (.ifCond .eq 11, 3) := by decide +kernel
theorem dX5_divided_39 : decode cX5_divided 39 = .ok (.iload 4, 2) := by decide +kernel
theorem dX5_divided_41 : decode cX5_divided 41 = .ok (.ifCond .ne 6, 3) := by decide +kernel
theorem dX5_divided_44 : decode cX5_divided 44 = .ok (.ldc 41, 2) := by decide +kernel
theorem dX5_divided_46 : decode cX5_divided 46 = .ok (.ireturn, 1) := by decide +kernel
theorem dX5_divided_47 : decode cX5_divided 47 = .ok (.aload_n 0, 1) := by decide +kernel
theorem dX5_divided_48 : decode cX5_divided 48 = .ok (.getfield 15, 3) := by decide +kernel
theorem dX5_divided_51 : decode cX5_divided 51 = .ok (.iload_n 1, 1) := by decide +kernel
theorem dX5_divided_52 : decode cX5_divided 52 = .ok (.aaload, 1) := by decide +kernel
theorem dX5_divided_53 : decode cX5_divided 53 = .ok (.astore 5, 2) := by decide +kernel
theorem dX5_divided_55 : decode cX5_divided 55 = .ok (.aload 5, 2) := by decide +kernel
theorem dX5_divided_57 : decode cX5_divided 57 = .ok (.invokevirtual 99, 3) := by decide +kernel
theorem dX5_divided_60 : decode cX5_divided 60 = .ok (.ifCond .ne 6, 3) := by decide +kernel
theorem dX5_divided_63 : decode cX5_divided 63 = .ok (.ldc 102, 2) := by decide +kernel
theorem dX5_divided_65 : decode cX5_divided 65 = .ok (.ireturn, 1) := by decide +kernel
theorem dX5_divided_66 : decode cX5_divided 66 = .ok (.iload_n 2, 1) := by decide +kernel
theorem dX5_divided_67 : decode cX5_divided 67 = .ok (.ifCond .ne 12, 3) := by decide +kernel
theorem dX5_divided_70 : decode cX5_divided 70 = .ok (.aload 5, 2) := by decide +kernel
theorem dX5_divided_72 : decode cX5_divided 72 = .ok (.getfield 103, 3) := by decide +kernel
theorem dX5_divided_75 : decode cX5_divided 75 = .ok (.invokevirtual 93, 3) := by decide +kernel
theorem dX5_divided_78 : decode cX5_divided 78 = .ok (.ireturn, 1) := by decide +kernel
theorem dX5_divided_79 : decode cX5_divided 79 = .ok (.iload_n 3, 1) := by decide +kernel
theorem dX5_divided_80 : decode cX5_divided 80 = .ok (.aload 5, 2) := by decide +kernel
theorem dX5_divided_82 : decode cX5_divided 82 = .ok (.getfield 103, 3) := by decide +kernel
theorem dX5_divided_85 : decode cX5_divided 85 = .ok (.invokevirtual 93, 3) := by decide +kernel
theorem dX5_divided_88 : decode cX5_divided 88 = .ok (.if_icmp .ge 15, 3) := by decide +kernel
theorem dX5_divided_91 : decode cX5_divided 91 = .ok (.aload 5, 2) := by decide +kernel
theorem dX5_divided_93 : decode cX5_divided 93 = .ok (.getfield 103, 3) := by decide +kernel
theorem dX5_divided_96 : decode cX5_divided 96 = .ok (.iload_n 3, 1) := by decide +kernel
theorem dX5_divided_97 : decode cX5_divided 97 = .ok (.invokevirtual 85, 3) := by decide +kernel
theorem dX5_divided_100 : decode cX5_divided 100 = .ok (.goto 5, 3) := by decide +kernel
theorem dX5_divided_103 : decode cX5_divided 103 = .ok (.ldc 102, 2) := by decide +kernel
theorem dX5_divided_105 : decode cX5_divided 105 = .ok (.ireturn, 1) := by decide +kernel
set_option maxRecDepth 20000 in
theorem ggX5_unit_X5_hasUnit : GoodIn wsX5_unit wsX5_hasUnit := goodIn_r _ [10, 11, 28, 29, 30, 31, 32, 33, 34, 35, 36, 37, 38] (by decide +kernel) (by decide +kernel)
set_option maxRecDepth 20000 in
theorem gX5_unit_X5_hasUnit : GoodIn wsX5_unit (wsV RX5 106 RX5 yX5_hasUnit wsX5_hasUnit) := goodIn_app (goodIn_of _ (by decide +kernel)) ggX5_unit_X5_hasUnit
set_option maxRecDepth 20000 in
theorem ggX5_unit_X2_at : GoodIn wsX5_unit wsX2_at := goodIn_r _ [16, 17, 18, 41, 42] (by decide +kernel) (by decide +kernel)
set_option maxRecDepth 20000 in
theorem gX5_unit_X2_at : GoodIn wsX5_unit (wsV RX5 85 RX2 yX2_at wsX2_at) := goodIn_app (goodIn_of _ (by decide +kernel)) ggX5_unit_X2_at
set_option maxRecDepth 20000 in
theorem ggX5_unit_X2_size : GoodIn wsX5_unit wsX2_size := goodIn_r _ [22, 17, 41, 42] (by decide +kernel) (by decide +kernel)
set_option maxRecDepth 20000 in
theorem gX5_unit_X2_size : GoodIn wsX5_unit (wsV RX5 93 RX2 yX2_size wsX2_size) := goodIn_app (goodIn_of _ (by decide +kernel)) ggX5_unit_X2_size
set_option maxRecDepth 20000 in
theorem ggX5_unit_X2_total : GoodIn wsX5_unit wsX2_total := goodIn_r _ [26, 27, 13, 14, 15, 16, 17, 18, 41, 42] (by decide +kernel) (by decide +kernel)
set_option maxRecDepth 20000 in
theorem gX5_unit_X2_total : GoodIn wsX5_unit (wsV RX5 96 RX2 yX2_total wsX2_total) := goodIn_app (goodIn_of _ (by decide +kernel)) ggX5_unit_X2_total
theorem dX5_unit_0 : decode cX5_unit 0 = .ok (.aload_n 0, 1) := by decide +kernel
theorem dX5_unit_1 : decode cX5_unit 1 = .ok (.iload_n 1, 1) := by decide +kernel
theorem dX5_unit_2 : decode cX5_unit 2 = .ok (.invokevirtual 106, 3) := by decide +kernel
theorem dX5_unit_5 : decode cX5_unit 5 = .ok (.ifCond .ne 6, 3) := by decide +kernel
theorem dX5_unit_8 : decode cX5_unit 8 = .ok (.ldc 80, 2) := by decide +kernel
theorem dX5_unit_10 : decode cX5_unit 10 = .ok (.ireturn, 1) := by decide +kernel
theorem dX5_unit_11 : decode cX5_unit 11 = .ok (.aload_n 0, 1) := by decide +kernel
theorem dX5_unit_12 : decode cX5_unit 12 = .ok (.getfield 21, 3) := by decide +kernel
theorem dX5_unit_15 : decode cX5_unit 15 = .ok (.iload_n 1, 1) := by decide +kernel
theorem dX5_unit_16 : decode cX5_unit 16 = .ok (.aaload, 1) := by decide +kernel
theorem dX5_unit_17 : decode cX5_unit 17 = .ok (.astore_n 3, 1) := by decide +kernel
theorem dX5_unit_18 : decode cX5_unit 18 = .ok (.iload_n 2, 1) := by decide +kernel
theorem dX5_unit_19 : decode cX5_unit 19 = .ok (.bipush 10, 2) := by decide +kernel
theorem dX5_unit_21 : decode cX5_unit 21 = .ok (.if_icmp .lt 21, 3) := by decide +kernel
theorem dX5_unit_24 : decode cX5_unit 24 = .ok (.iload_n 2, 1) := by decide +kernel
theorem dX5_unit_25 : decode cX5_unit 25 = .ok (.bipush 18, 2) := by decide +kernel
theorem dX5_unit_27 : decode cX5_unit 27 = .ok (.if_icmp .ge 15, 3) := by decide +kernel
theorem dX5_unit_30 : decode cX5_unit 30 = .ok (.aload_n 3, 1) := by decide +kernel
theorem dX5_unit_31 : decode cX5_unit 31 = .ok (.getfield 109, 3) := by decide +kernel
theorem dX5_unit_34 : decode cX5_unit 34 = .ok (.iload_n 2, 1) := by decide +kernel
theorem dX5_unit_35 : decode cX5_unit 35 = .ok (.bipush 10, 2) := by decide +kernel
theorem dX5_unit_37 : decode cX5_unit 37 = .ok (.isub, 1) := by decide +kernel
theorem dX5_unit_38 : decode cX5_unit 38 = .ok (.invokevirtual 85, 3) := by decide +kernel
theorem dX5_unit_41 : decode cX5_unit 41 = .ok (.ireturn, 1) := by decide +kernel
theorem dX5_unit_42 : decode cX5_unit 42 = .ok (.iload_n 2, 1) := by decide +kernel
theorem dX5_unit_43 : decode cX5_unit 43 = .ok (.tableswitch 46 0 2 #[25, 30, 38], 25) := by decide +kernel
theorem dX5_unit_68 : decode cX5_unit 68 = .ok (.aload_n 3, 1) := by decide +kernel
theorem dX5_unit_69 : decode cX5_unit 69 = .ok (.getfield 112, 3) := by decide +kernel
theorem dX5_unit_72 : decode cX5_unit 72 = .ok (.ireturn, 1) := by decide +kernel
theorem dX5_unit_73 : decode cX5_unit 73 = .ok (.aload_n 3, 1) := by decide +kernel
theorem dX5_unit_74 : decode cX5_unit 74 = .ok (.getfield 109, 3) := by decide +kernel
theorem dX5_unit_77 : decode cX5_unit 77 = .ok (.invokevirtual 93, 3) := by decide +kernel
theorem dX5_unit_80 : decode cX5_unit 80 = .ok (.ireturn, 1) := by decide +kernel
theorem dX5_unit_81 : decode cX5_unit 81 = .ok (.aload_n 3, 1) := by decide +kernel
theorem dX5_unit_82 : decode cX5_unit 82 = .ok (.getfield 109, 3) := by decide +kernel
theorem dX5_unit_85 : decode cX5_unit 85 = .ok (.invokevirtual 96, 3) := by decide +kernel
theorem dX5_unit_88 : decode cX5_unit 88 = .ok (.ireturn, 1) := by decide +kernel
theorem dX5_unit_89 : decode cX5_unit 89 = .ok (.ldc 41, 2) := by decide +kernel
theorem dX5_unit_91 : decode cX5_unit 91 = .ok (.ireturn, 1) := by decide +kernel
set_option maxRecDepth 20000 in
theorem ggX5_made_X5_hasUnit : GoodIn wsX5_made wsX5_hasUnit := goodIn_r _ [10, 11, 33, 34, 35, 36, 37, 38, 39, 40, 41, 42, 43] (by decide +kernel) (by decide +kernel)
set_option maxRecDepth 20000 in
theorem gX5_made_X5_hasUnit : GoodIn wsX5_made (wsV RX5 106 RX5 yX5_hasUnit wsX5_hasUnit) := goodIn_app (goodIn_of _ (by decide +kernel)) ggX5_made_X5_hasUnit
set_option maxRecDepth 20000 in
theorem ggX5_made_X5_hasStorm : GoodIn wsX5_made wsX5_hasStorm := goodIn_r _ [15, 16, 33, 34, 35, 36, 37, 38, 39, 40, 41, 42, 43] (by decide +kernel) (by decide +kernel)
set_option maxRecDepth 20000 in
theorem gX5_made_X5_hasStorm : GoodIn wsX5_made (wsV RX5 76 RX5 yX5_hasStorm wsX5_hasStorm) := goodIn_app (goodIn_of _ (by decide +kernel)) ggX5_made_X5_hasStorm
set_option maxRecDepth 20000 in
theorem ggX5_made_X5_isTick : GoodIn wsX5_made wsX5_isTick := goodIn_r _ [19] (by decide +kernel) (by decide +kernel)
set_option maxRecDepth 20000 in
theorem gX5_made_X5_isTick : GoodIn wsX5_made (va_wsS RX5 115 yX5_isTick wsX5_isTick) := goodIn_app (goodIn_of _ (by decide +kernel)) ggX5_made_X5_isTick
set_option maxRecDepth 20000 in
theorem ggX5_made_X3_rainTimes : GoodIn wsX5_made wsX3_rainTimes := goodIn_r _ [24, 25, 26, 27, 28, 29, 30, 31, 32, 46, 47, 48, 49, 50, 51] (by decide +kernel) (by decide +kernel)
set_option maxRecDepth 20000 in
theorem gX5_made_X3_rainTimes : GoodIn wsX5_made (wsV RX5 118 RX3 yX3_rainTimes wsX3_rainTimes) := goodIn_app (goodIn_of _ (by decide +kernel)) ggX5_made_X3_rainTimes
theorem dX5_made_0 : decode cX5_made 0 = .ok (.aload_n 0, 1) := by decide +kernel
theorem dX5_made_1 : decode cX5_made 1 = .ok (.iload_n 1, 1) := by decide +kernel
theorem dX5_made_2 : decode cX5_made 2 = .ok (.invokevirtual 106, 3) := by decide +kernel
theorem dX5_made_5 : decode cX5_made 5 = .ok (.ifCond .eq 11, 3) := by decide +kernel
theorem dX5_made_8 : decode cX5_made 8 = .ok (.aload_n 0, 1) := by decide +kernel
theorem dX5_made_9 : decode cX5_made 9 = .ok (.iload_n 2, 1) := by decide +kernel
theorem dX5_made_10 : decode cX5_made 10 = .ok (.invokevirtual 76, 3) := by decide +kernel
theorem dX5_made_13 : decode cX5_made 13 = .ok (.ifCond .ne 6, 3) := by decide +kernel
theorem dX5_made_16 : decode cX5_made 16 = .ok (.ldc 80, 2) := by decide +kernel
theorem dX5_made_18 : decode cX5_made 18 = .ok (.ireturn, 1) := by decide +kernel
theorem dX5_made_19 : decode cX5_made 19 = .ok (.iload_n 3, 1) := by decide +kernel
theorem dX5_made_20 : decode cX5_made 20 = .ok (.invokestatic 115, 3) := by decide +kernel
theorem dX5_made_23 : decode cX5_made 23 = .ok (.ifCond .ne 6, 3) := by decide +kernel
theorem dX5_made_26 : decode cX5_made 26 = .ok (.ldc 41, 2) := by decide +kernel
theorem dX5_made_28 : decode cX5_made 28 = .ok (.ireturn, 1) := by decide +kernel
theorem dX5_made_29 : decode cX5_made 29 = .ok (.aload_n 0, 1) := by decide +kernel
theorem dX5_made_30 : decode cX5_made 30 = .ok (.getfield 15, 3) := by decide +kernel
theorem dX5_made_33 : decode cX5_made 33 = .ok (.iload_n 2, 1) := by decide +kernel
theorem dX5_made_34 : decode cX5_made 34 = .ok (.aaload, 1) := by decide +kernel
theorem dX5_made_35 : decode cX5_made 35 = .ok (.aload_n 0, 1) := by decide +kernel
theorem dX5_made_36 : decode cX5_made 36 = .ok (.getfield 21, 3) := by decide +kernel
theorem dX5_made_39 : decode cX5_made 39 = .ok (.iload_n 1, 1) := by decide +kernel
theorem dX5_made_40 : decode cX5_made 40 = .ok (.aaload, 1) := by decide +kernel
theorem dX5_made_41 : decode cX5_made 41 = .ok (.getfield 109, 3) := by decide +kernel
theorem dX5_made_44 : decode cX5_made 44 = .ok (.iload_n 3, 1) := by decide +kernel
theorem dX5_made_45 : decode cX5_made 45 = .ok (.invokevirtual 118, 3) := by decide +kernel
theorem dX5_made_48 : decode cX5_made 48 = .ok (.ireturn, 1) := by decide +kernel
set_option maxRecDepth 20000 in
theorem ggX5_missed_X5_hasUnit : GoodIn wsX5_missed wsX5_hasUnit := goodIn_r _ [9, 10, 34, 35, 36, 37, 38, 39, 40, 41, 42, 43, 44] (by decide +kernel) (by decide +kernel)
set_option maxRecDepth 20000 in
theorem gX5_missed_X5_hasUnit : GoodIn wsX5_missed (wsV RX5 106 RX5 yX5_hasUnit wsX5_hasUnit) := goodIn_app (goodIn_of _ (by decide +kernel)) ggX5_missed_X5_hasUnit
set_option maxRecDepth 20000 in
theorem ggX5_missed_X5_hasStorm : GoodIn wsX5_missed wsX5_hasStorm := goodIn_r _ [14, 15, 34, 35, 36, 37, 38, 39, 40, 41, 42, 43, 44] (by decide +kernel) (by decide +kernel)
set_option maxRecDepth 20000 in
theorem gX5_missed_X5_hasStorm : GoodIn wsX5_missed (wsV RX5 76 RX5 yX5_hasStorm wsX5_hasStorm) := goodIn_app (goodIn_of _ (by decide +kernel)) ggX5_missed_X5_hasStorm
set_option maxRecDepth 20000 in
theorem ggX5_missed_X3_squaresMissed : GoodIn wsX5_missed wsX3_squaresMissed := goodIn_r _ [20, 21, 22, 23, 24, 19, 25, 26, 27, 28, 29, 30, 31, 32, 33, 47, 48, 49, 50, 51, 52] (by decide +kernel) (by decide +kernel)
set_option maxRecDepth 20000 in
theorem gX5_missed_X3_squaresMissed : GoodIn wsX5_missed (wsV RX5 122 RX3 yX3_squaresMissed wsX3_squaresMissed) := goodIn_app (goodIn_of _ (by decide +kernel)) ggX5_missed_X3_squaresMissed
theorem dX5_missed_0 : decode cX5_missed 0 = .ok (.aload_n 0, 1) := by decide +kernel
theorem dX5_missed_1 : decode cX5_missed 1 = .ok (.iload_n 1, 1) := by decide +kernel
theorem dX5_missed_2 : decode cX5_missed 2 = .ok (.invokevirtual 106, 3) := by decide +kernel
theorem dX5_missed_5 : decode cX5_missed 5 = .ok (.ifCond .eq 11, 3) := by decide +kernel
theorem dX5_missed_8 : decode cX5_missed 8 = .ok (.aload_n 0, 1) := by decide +kernel
theorem dX5_missed_9 : decode cX5_missed 9 = .ok (.iload_n 2, 1) := by decide +kernel
theorem dX5_missed_10 : decode cX5_missed 10 = .ok (.invokevirtual 76, 3) := by decide +kernel
theorem dX5_missed_13 : decode cX5_missed 13 = .ok (.ifCond .ne 6, 3) := by decide +kernel
theorem dX5_missed_16 : decode cX5_missed 16 = .ok (.ldc 80, 2) := by decide +kernel
theorem dX5_missed_18 : decode cX5_missed 18 = .ok (.ireturn, 1) := by decide +kernel
theorem dX5_missed_19 : decode cX5_missed 19 = .ok (.aload_n 0, 1) := by decide +kernel
theorem dX5_missed_20 : decode cX5_missed 20 = .ok (.getfield 15, 3) := by decide +kernel
theorem dX5_missed_23 : decode cX5_missed 23 = .ok (.iload_n 2, 1) := by decide +kernel
theorem dX5_missed_24 : decode cX5_missed 24 = .ok (.aaload, 1) := by decide +kernel
theorem dX5_missed_25 : decode cX5_missed 25 = .ok (.aload_n 0, 1) := by decide +kernel
theorem dX5_missed_26 : decode cX5_missed 26 = .ok (.getfield 21, 3) := by decide +kernel
theorem dX5_missed_29 : decode cX5_missed 29 = .ok (.iload_n 1, 1) := by decide +kernel
theorem dX5_missed_30 : decode cX5_missed 30 = .ok (.aaload, 1) := by decide +kernel
theorem dX5_missed_31 : decode cX5_missed 31 = .ok (.getfield 109, 3) := by decide +kernel
theorem dX5_missed_34 : decode cX5_missed 34 = .ok (.invokevirtual 122, 3) := by decide +kernel
theorem dX5_missed_37 : decode cX5_missed 37 = .ok (.ireturn, 1) := by decide +kernel
set_option maxRecDepth 20000 in
theorem ggX5_sum_X5_hasUnit : GoodIn wsX5_sum wsX5_hasUnit := goodIn_r _ [8, 9, 27, 28, 29, 30, 31, 32, 33, 34, 35, 36, 37] (by decide +kernel) (by decide +kernel)
set_option maxRecDepth 20000 in
theorem gX5_sum_X5_hasUnit : GoodIn wsX5_sum (wsV RX5 106 RX5 yX5_hasUnit wsX5_hasUnit) := goodIn_app (goodIn_of _ (by decide +kernel)) ggX5_sum_X5_hasUnit
set_option maxRecDepth 20000 in
theorem ggX5_sum_X5_isTick : GoodIn wsX5_sum wsX5_isTick := goodIn_r _ [12] (by decide +kernel) (by decide +kernel)
set_option maxRecDepth 20000 in
theorem gX5_sum_X5_isTick : GoodIn wsX5_sum (va_wsS RX5 115 yX5_isTick wsX5_isTick) := goodIn_app (goodIn_of _ (by decide +kernel)) ggX5_sum_X5_isTick
set_option maxRecDepth 20000 in
theorem ggX5_sum_X4_summedAt : GoodIn wsX5_sum wsX4_summedAt := goodIn_r _ [17, 18, 19, 20, 21, 22, 23, 24, 25, 26, 38, 39, 40, 41] (by decide +kernel) (by decide +kernel)
set_option maxRecDepth 20000 in
theorem gX5_sum_X4_summedAt : GoodIn wsX5_sum (wsV RX5 126 RX4 yX4_summedAt wsX4_summedAt) := goodIn_app (goodIn_of _ (by decide +kernel)) ggX5_sum_X4_summedAt
theorem dX5_sum_0 : decode cX5_sum 0 = .ok (.aload_n 0, 1) := by decide +kernel
theorem dX5_sum_1 : decode cX5_sum 1 = .ok (.iload_n 1, 1) := by decide +kernel
theorem dX5_sum_2 : decode cX5_sum 2 = .ok (.invokevirtual 106, 3) := by decide +kernel
theorem dX5_sum_5 : decode cX5_sum 5 = .ok (.ifCond .ne 6, 3) := by decide +kernel
theorem dX5_sum_8 : decode cX5_sum 8 = .ok (.ldc 80, 2) := by decide +kernel
theorem dX5_sum_10 : decode cX5_sum 10 = .ok (.ireturn, 1) := by decide +kernel
theorem dX5_sum_11 : decode cX5_sum 11 = .ok (.iload_n 2, 1) := by decide +kernel
theorem dX5_sum_12 : decode cX5_sum 12 = .ok (.invokestatic 115, 3) := by decide +kernel
theorem dX5_sum_15 : decode cX5_sum 15 = .ok (.ifCond .ne 6, 3) := by decide +kernel
theorem dX5_sum_18 : decode cX5_sum 18 = .ok (.ldc 41, 2) := by decide +kernel
theorem dX5_sum_20 : decode cX5_sum 20 = .ok (.ireturn, 1) := by decide +kernel
theorem dX5_sum_21 : decode cX5_sum 21 = .ok (.aload_n 0, 1) := by decide +kernel
theorem dX5_sum_22 : decode cX5_sum 22 = .ok (.getfield 21, 3) := by decide +kernel
theorem dX5_sum_25 : decode cX5_sum 25 = .ok (.iload_n 1, 1) := by decide +kernel
theorem dX5_sum_26 : decode cX5_sum 26 = .ok (.aaload, 1) := by decide +kernel
theorem dX5_sum_27 : decode cX5_sum 27 = .ok (.iload_n 2, 1) := by decide +kernel
theorem dX5_sum_28 : decode cX5_sum 28 = .ok (.invokevirtual 126, 3) := by decide +kernel
theorem dX5_sum_31 : decode cX5_sum 31 = .ok (.ireturn, 1) := by decide +kernel
set_option maxRecDepth 20000 in
theorem ggX5_other_X5_hasUnit : GoodIn wsX5_other wsX5_hasUnit := goodIn_r _ [9, 10, 44, 45, 46, 47, 48, 49, 50, 51, 52, 53, 54] (by decide +kernel) (by decide +kernel)
set_option maxRecDepth 20000 in
theorem gX5_other_X5_hasUnit : GoodIn wsX5_other (wsV RX5 106 RX5 yX5_hasUnit wsX5_hasUnit) := goodIn_app (goodIn_of _ (by decide +kernel)) ggX5_other_X5_hasUnit
set_option maxRecDepth 20000 in
theorem ggX5_other_X5_isLength : GoodIn wsX5_other wsX5_isLength := goodIn_r _ [13] (by decide +kernel) (by decide +kernel)
set_option maxRecDepth 20000 in
theorem gX5_other_X5_isLength : GoodIn wsX5_other (va_wsS RX5 129 yX5_isLength wsX5_isLength) := goodIn_app (goodIn_of _ (by decide +kernel)) ggX5_other_X5_isLength
set_option maxRecDepth 20000 in
theorem ggX5_other_X5_isTick : GoodIn wsX5_other wsX5_isTick := goodIn_r _ [16] (by decide +kernel) (by decide +kernel)
set_option maxRecDepth 20000 in
theorem gX5_other_X5_isTick : GoodIn wsX5_other (va_wsS RX5 115 yX5_isTick wsX5_isTick) := goodIn_app (goodIn_of _ (by decide +kernel)) ggX5_other_X5_isTick
set_option maxRecDepth 20000 in
theorem ggX5_other_X5_isPartOfFraction : GoodIn wsX5_other wsX5_isPartOfFraction := goodIn_r _ [19] (by decide +kernel) (by decide +kernel)
set_option maxRecDepth 20000 in
theorem gX5_other_X5_isPartOfFraction : GoodIn wsX5_other (va_wsS RX5 132 yX5_isPartOfFraction wsX5_isPartOfFraction) := goodIn_app (goodIn_of _ (by decide +kernel)) ggX5_other_X5_isPartOfFraction
set_option maxRecDepth 20000 in
theorem ggX5_other_X4_summedAt : GoodIn wsX5_other wsX4_summedAt := goodIn_r _ [24, 25, 26, 27, 28, 29, 30, 31, 32, 33, 55, 56, 57, 58] (by decide +kernel) (by decide +kernel)
set_option maxRecDepth 20000 in
theorem gX5_other_X4_summedAt : GoodIn wsX5_other (wsV RX5 126 RX4 yX4_summedAt wsX4_summedAt) := goodIn_app (goodIn_of _ (by decide +kernel)) ggX5_other_X4_summedAt
set_option maxRecDepth 20000 in
theorem ggX5_other_X5_inLowestTerms : GoodIn wsX5_other wsX5_inLowestTerms := goodIn_r _ [36, 37, 38, 8, 39, 40, 41, 42, 43] (by decide +kernel) (by decide +kernel)
set_option maxRecDepth 20000 in
theorem gX5_other_X5_inLowestTerms : GoodIn wsX5_other (va_wsS RX5 135 yX5_inLowestTerms wsX5_inLowestTerms) := goodIn_app (goodIn_of _ (by decide +kernel)) ggX5_other_X5_inLowestTerms
theorem dX5_other_0 : decode cX5_other 0 = .ok (.aload_n 0, 1) := by decide +kernel
theorem dX5_other_1 : decode cX5_other 1 = .ok (.iload_n 1, 1) := by decide +kernel
theorem dX5_other_2 : decode cX5_other 2 = .ok (.invokevirtual 106, 3) := by decide +kernel
theorem dX5_other_5 : decode cX5_other 5 = .ok (.ifCond .ne 6, 3) := by decide +kernel
theorem dX5_other_8 : decode cX5_other 8 = .ok (.ldc 80, 2) := by decide +kernel
theorem dX5_other_10 : decode cX5_other 10 = .ok (.ireturn, 1) := by decide +kernel
theorem dX5_other_11 : decode cX5_other 11 = .ok (.iload_n 2, 1) := by decide +kernel
theorem dX5_other_12 : decode cX5_other 12 = .ok (.invokestatic 129, 3) := by decide +kernel
theorem dX5_other_15 : decode cX5_other 15 = .ok (.ifCond .eq 18, 3) := by decide +kernel
theorem dX5_other_18 : decode cX5_other 18 = .ok (.iload_n 3, 1) := by decide +kernel
theorem dX5_other_19 : decode cX5_other 19 = .ok (.invokestatic 115, 3) := by decide +kernel
theorem dX5_other_22 : decode cX5_other 22 = .ok (.ifCond .eq 11, 3) := by decide +kernel
theorem dX5_other_25 : decode cX5_other 25 = .ok (.iload 4, 2) := by decide +kernel
theorem dX5_other_27 : decode cX5_other 27 = .ok (.invokestatic 132, 3) := by decide +kernel
theorem dX5_other_30 : decode cX5_other 30 = .ok (.ifCond .ne 6, 3) := by decide +kernel
theorem dX5_other_33 : decode cX5_other 33 = .ok (.ldc 41, 2) := by decide +kernel
theorem dX5_other_35 : decode cX5_other 35 = .ok (.ireturn, 1) := by decide +kernel
theorem dX5_other_36 : decode cX5_other 36 = .ok (.aload_n 0, 1) := by decide +kernel
theorem dX5_other_37 : decode cX5_other 37 = .ok (.getfield 21, 3) := by decide +kernel
theorem dX5_other_40 : decode cX5_other 40 = .ok (.iload_n 1, 1) := by decide +kernel
theorem dX5_other_41 : decode cX5_other 41 = .ok (.aaload, 1) := by decide +kernel
theorem dX5_other_42 : decode cX5_other 42 = .ok (.astore 5, 2) := by decide +kernel
theorem dX5_other_44 : decode cX5_other 44 = .ok (.aload 5, 2) := by decide +kernel
theorem dX5_other_46 : decode cX5_other 46 = .ok (.iload_n 3, 1) := by decide +kernel
theorem dX5_other_47 : decode cX5_other 47 = .ok (.invokevirtual 126, 3) := by decide +kernel
theorem dX5_other_50 : decode cX5_other 50 = .ok (.aload 5, 2) := by decide +kernel
theorem dX5_other_52 : decode cX5_other 52 = .ok (.iload_n 3, 1) := by decide +kernel
theorem dX5_other_53 : decode cX5_other 53 = .ok (.iload_n 2, 1) := by decide +kernel
theorem dX5_other_54 : decode cX5_other 54 = .ok (.isub, 1) := by decide +kernel
theorem dX5_other_55 : decode cX5_other 55 = .ok (.invokevirtual 126, 3) := by decide +kernel
theorem dX5_other_58 : decode cX5_other 58 = .ok (.isub, 1) := by decide +kernel
theorem dX5_other_59 : decode cX5_other 59 = .ok (.istore 6, 2) := by decide +kernel
theorem dX5_other_61 : decode cX5_other 61 = .ok (.iload 6, 2) := by decide +kernel
theorem dX5_other_63 : decode cX5_other 63 = .ok (.aload 5, 2) := by decide +kernel
theorem dX5_other_65 : decode cX5_other 65 = .ok (.getfield 112, 3) := by decide +kernel
theorem dX5_other_68 : decode cX5_other 68 = .ok (.imul, 1) := by decide +kernel
theorem dX5_other_69 : decode cX5_other 69 = .ok (.i2l, 1) := by decide +kernel
theorem dX5_other_70 : decode cX5_other 70 = .ok (.iload_n 2, 1) := by decide +kernel
theorem dX5_other_71 : decode cX5_other 71 = .ok (.i2l, 1) := by decide +kernel
theorem dX5_other_72 : decode cX5_other 72 = .ok (.iload 4, 2) := by decide +kernel
theorem dX5_other_74 : decode cX5_other 74 = .ok (.invokestatic 135, 3) := by decide +kernel
theorem dX5_other_77 : decode cX5_other 77 = .ok (.l2i, 1) := by decide +kernel
theorem dX5_other_78 : decode cX5_other 78 = .ok (.ireturn, 1) := by decide +kernel
set_option maxRecDepth 20000 in
theorem ggX5_best_X5_canFit : GoodIn wsX5_best wsX5_canFit := goodIn_r _ [7, 8, 100, 101, 102, 103, 104, 105, 106, 107, 108, 109, 110] (by decide +kernel) (by decide +kernel)
set_option maxRecDepth 20000 in
theorem gX5_best_X5_canFit : GoodIn wsX5_best (wsV RX5 139 RX5 yX5_canFit wsX5_canFit) := goodIn_app (goodIn_of _ (by decide +kernel)) ggX5_best_X5_canFit
set_option maxRecDepth 20000 in
theorem ggX5_best_X5_isFitted : GoodIn wsX5_best wsX5_isFitted := goodIn_r _ [11] (by decide +kernel) (by decide +kernel)
set_option maxRecDepth 20000 in
theorem gX5_best_X5_isFitted : GoodIn wsX5_best (va_wsS RX5 143 yX5_isFitted wsX5_isFitted) := goodIn_app (goodIn_of _ (by decide +kernel)) ggX5_best_X5_isFitted
set_option maxRecDepth 20000 in
theorem ggX5_best_X5_isPartOfFraction : GoodIn wsX5_best wsX5_isPartOfFraction := goodIn_r _ [14] (by decide +kernel) (by decide +kernel)
set_option maxRecDepth 20000 in
theorem gX5_best_X5_isPartOfFraction : GoodIn wsX5_best (va_wsS RX5 132 yX5_isPartOfFraction wsX5_isPartOfFraction) := goodIn_app (goodIn_of _ (by decide +kernel)) ggX5_best_X5_isPartOfFraction
set_option maxRecDepth 20000 in
theorem ggX5_best_X5_fitStorms : GoodIn wsX5_best wsX5_fitStorms := goodIn_r _ [18, 2, 8, 19, 20, 21, 22, 23, 24, 25, 26, 27, 28, 29, 30, 31, 32, 33, 34, 35, 36, 37, 38, 39, 40, 41, 42, 43, 44, 45, 46, 47, 48, 49, 50, 51, 52, 53, 54, 55, 56, 57, 58, 59, 60, 61, 62, 63, 64, 65, 66, 67, 68, 69, 70, 71, 72, 73, 74, 75, 76, 77, 78, 79, 80, 81, 82, 100, 101, 102, 103, 104, 105, 106, 107, 108, 109, 110, 111, 112, 113, 114, 115, 116, 117, 118, 119, 120, 121, 122, 123, 124] (by decide +kernel) (by decide +kernel)
set_option maxRecDepth 20000 in
theorem gX5_best_X5_fitStorms : GoodIn wsX5_best (wsV RX5 148 RX5 yX5_fitStorms wsX5_fitStorms) := goodIn_app (goodIn_of _ (by decide +kernel)) ggX5_best_X5_fitStorms
set_option maxRecDepth 20000 in
theorem ggX5_best_X0_partAbove : GoodIn wsX5_best wsX0_partAbove := goodIn_r _ [86, 58, 111, 112, 113, 114, 115, 116, 117, 118] (by decide +kernel) (by decide +kernel)
set_option maxRecDepth 20000 in
theorem gX5_best_X0_partAbove : GoodIn wsX5_best (wsV RX5 152 RX0 yX0_partAbove wsX0_partAbove) := goodIn_app (goodIn_of _ (by decide +kernel)) ggX5_best_X0_partAbove
set_option maxRecDepth 20000 in
theorem ggX5_best_X0_below : GoodIn wsX5_best wsX0_below := goodIn_r _ [90, 57, 111, 112, 113, 114, 115, 116, 117, 118] (by decide +kernel) (by decide +kernel)
set_option maxRecDepth 20000 in
theorem gX5_best_X0_below : GoodIn wsX5_best (wsV RX5 156 RX0 yX0_below wsX0_below) := goodIn_app (goodIn_of _ (by decide +kernel)) ggX5_best_X0_below
set_option maxRecDepth 20000 in
theorem ggX5_best_X5_inLowestTerms : GoodIn wsX5_best wsX5_inLowestTerms := goodIn_r _ [93, 94, 95, 6, 96, 97, 98, 27, 99] (by decide +kernel) (by decide +kernel)
set_option maxRecDepth 20000 in
theorem gX5_best_X5_inLowestTerms : GoodIn wsX5_best (va_wsS RX5 135 yX5_inLowestTerms wsX5_inLowestTerms) := goodIn_app (goodIn_of _ (by decide +kernel)) ggX5_best_X5_inLowestTerms
theorem dX5_best_0 : decode cX5_best 0 = .ok (.aload_n 0, 1) := by decide +kernel
theorem dX5_best_1 : decode cX5_best 1 = .ok (.iload_n 1, 1) := by decide +kernel
theorem dX5_best_2 : decode cX5_best 2 = .ok (.iload_n 2, 1) := by decide +kernel
theorem dX5_best_3 : decode cX5_best 3 = .ok (.invokevirtual 139, 3) := by decide +kernel
theorem dX5_best_6 : decode cX5_best 6 = .ok (.ifCond .eq 19, 3) := by decide +kernel
theorem dX5_best_9 : decode cX5_best 9 = .ok (.iload_n 3, 1) := by decide +kernel
theorem dX5_best_10 : decode cX5_best 10 = .ok (.iload_n 2, 1) := by decide +kernel
theorem dX5_best_11 : decode cX5_best 11 = .ok (.invokestatic 143, 3) := by decide +kernel
theorem dX5_best_14 : decode cX5_best 14 = .ok (.ifCond .eq 11, 3) := by decide +kernel
theorem dX5_best_17 : decode cX5_best 17 = .ok (.iload 4, 2) := by decide +kernel
theorem dX5_best_19 : decode cX5_best 19 = .ok (.invokestatic 132, 3) := by decide +kernel
theorem dX5_best_22 : decode cX5_best 22 = .ok (.ifCond .ne 7, 3) := by decide +kernel
theorem dX5_best_25 : decode cX5_best 25 = .ok (.ldc2_w 146, 3) := by decide +kernel
theorem dX5_best_28 : decode cX5_best 28 = .ok (.lreturn, 1) := by decide +kernel
theorem dX5_best_29 : decode cX5_best 29 = .ok (.aload_n 0, 1) := by decide +kernel
theorem dX5_best_30 : decode cX5_best 30 = .ok (.iload_n 1, 1) := by decide +kernel
theorem dX5_best_31 : decode cX5_best 31 = .ok (.iload_n 2, 1) := by decide +kernel
theorem dX5_best_32 : decode cX5_best 32 = .ok (.invokevirtual 148, 3) := by decide +kernel
theorem dX5_best_35 : decode cX5_best 35 = .ok (.aload_n 0, 1) := by decide +kernel
theorem dX5_best_36 : decode cX5_best 36 = .ok (.getfield 35, 3) := by decide +kernel
theorem dX5_best_39 : decode cX5_best 39 = .ok (.iload_n 3, 1) := by decide +kernel
theorem dX5_best_40 : decode cX5_best 40 = .ok (.invokevirtual 152, 3) := by decide +kernel
theorem dX5_best_43 : decode cX5_best 43 = .ok (.aload_n 0, 1) := by decide +kernel
theorem dX5_best_44 : decode cX5_best 44 = .ok (.getfield 35, 3) := by decide +kernel
theorem dX5_best_47 : decode cX5_best 47 = .ok (.invokevirtual 156, 3) := by decide +kernel
theorem dX5_best_50 : decode cX5_best 50 = .ok (.iload 4, 2) := by decide +kernel
theorem dX5_best_52 : decode cX5_best 52 = .ok (.invokestatic 135, 3) := by decide +kernel
theorem dX5_best_55 : decode cX5_best 55 = .ok (.lreturn, 1) := by decide +kernel
set_option maxRecDepth 20000 in
theorem ggX5_loss_X5_canFit : GoodIn wsX5_loss wsX5_canFit := goodIn_r _ [7, 8, 97, 98, 99, 100, 101, 102, 103, 104, 105, 106, 107] (by decide +kernel) (by decide +kernel)
set_option maxRecDepth 20000 in
theorem gX5_loss_X5_canFit : GoodIn wsX5_loss (wsV RX5 139 RX5 yX5_canFit wsX5_canFit) := goodIn_app (goodIn_of _ (by decide +kernel)) ggX5_loss_X5_canFit
set_option maxRecDepth 20000 in
theorem ggX5_loss_X5_isPartOfFraction : GoodIn wsX5_loss wsX5_isPartOfFraction := goodIn_r _ [11] (by decide +kernel) (by decide +kernel)
set_option maxRecDepth 20000 in
theorem gX5_loss_X5_isPartOfFraction : GoodIn wsX5_loss (va_wsS RX5 132 yX5_isPartOfFraction wsX5_isPartOfFraction) := goodIn_app (goodIn_of _ (by decide +kernel)) ggX5_loss_X5_isPartOfFraction
set_option maxRecDepth 20000 in
theorem ggX5_loss_X5_fitStorms : GoodIn wsX5_loss wsX5_fitStorms := goodIn_r _ [15, 2, 8, 16, 17, 18, 19, 20, 21, 22, 23, 24, 25, 26, 27, 28, 29, 30, 31, 32, 33, 34, 35, 36, 37, 38, 39, 40, 41, 42, 43, 44, 45, 46, 47, 48, 49, 50, 51, 52, 53, 54, 55, 56, 57, 58, 59, 60, 61, 62, 63, 64, 65, 66, 67, 68, 69, 70, 71, 72, 73, 74, 75, 76, 77, 78, 79, 97, 98, 99, 100, 101, 102, 103, 104, 105, 106, 107, 108, 109, 110, 111, 112, 113, 114, 115, 116, 117, 118, 119, 120, 121] (by decide +kernel) (by decide +kernel)
set_option maxRecDepth 20000 in
theorem gX5_loss_X5_fitStorms : GoodIn wsX5_loss (wsV RX5 148 RX5 yX5_fitStorms wsX5_fitStorms) := goodIn_app (goodIn_of _ (by decide +kernel)) ggX5_loss_X5_fitStorms
set_option maxRecDepth 20000 in
theorem ggX5_loss_X0_lossAbove : GoodIn wsX5_loss wsX0_lossAbove := goodIn_r _ [83, 30, 54, 29, 32, 55, 108, 109, 110, 111, 112, 113, 114, 115] (by decide +kernel) (by decide +kernel)
set_option maxRecDepth 20000 in
theorem gX5_loss_X0_lossAbove : GoodIn wsX5_loss (wsV RX5 160 RX0 yX0_lossAbove wsX0_lossAbove) := goodIn_app (goodIn_of _ (by decide +kernel)) ggX5_loss_X0_lossAbove
set_option maxRecDepth 20000 in
theorem ggX5_loss_X0_below : GoodIn wsX5_loss wsX0_below := goodIn_r _ [87, 54, 108, 109, 110, 111, 112, 113, 114, 115] (by decide +kernel) (by decide +kernel)
set_option maxRecDepth 20000 in
theorem gX5_loss_X0_below : GoodIn wsX5_loss (wsV RX5 156 RX0 yX0_below wsX0_below) := goodIn_app (goodIn_of _ (by decide +kernel)) ggX5_loss_X0_below
set_option maxRecDepth 20000 in
theorem ggX5_loss_X5_inLowestTerms : GoodIn wsX5_loss wsX5_inLowestTerms := goodIn_r _ [90, 91, 92, 6, 93, 94, 95, 24, 96] (by decide +kernel) (by decide +kernel)
set_option maxRecDepth 20000 in
theorem gX5_loss_X5_inLowestTerms : GoodIn wsX5_loss (va_wsS RX5 135 yX5_inLowestTerms wsX5_inLowestTerms) := goodIn_app (goodIn_of _ (by decide +kernel)) ggX5_loss_X5_inLowestTerms
theorem dX5_loss_0 : decode cX5_loss 0 = .ok (.aload_n 0, 1) := by decide +kernel
theorem dX5_loss_1 : decode cX5_loss 1 = .ok (.iload_n 1, 1) := by decide +kernel
theorem dX5_loss_2 : decode cX5_loss 2 = .ok (.iload_n 2, 1) := by decide +kernel
theorem dX5_loss_3 : decode cX5_loss 3 = .ok (.invokevirtual 139, 3) := by decide +kernel
theorem dX5_loss_6 : decode cX5_loss 6 = .ok (.ifCond .eq 10, 3) := by decide +kernel
theorem dX5_loss_9 : decode cX5_loss 9 = .ok (.iload_n 3, 1) := by decide +kernel
theorem dX5_loss_10 : decode cX5_loss 10 = .ok (.invokestatic 132, 3) := by decide +kernel
theorem dX5_loss_13 : decode cX5_loss 13 = .ok (.ifCond .ne 7, 3) := by decide +kernel
theorem dX5_loss_16 : decode cX5_loss 16 = .ok (.ldc2_w 146, 3) := by decide +kernel
theorem dX5_loss_19 : decode cX5_loss 19 = .ok (.lreturn, 1) := by decide +kernel
theorem dX5_loss_20 : decode cX5_loss 20 = .ok (.aload_n 0, 1) := by decide +kernel
theorem dX5_loss_21 : decode cX5_loss 21 = .ok (.iload_n 1, 1) := by decide +kernel
theorem dX5_loss_22 : decode cX5_loss 22 = .ok (.iload_n 2, 1) := by decide +kernel
theorem dX5_loss_23 : decode cX5_loss 23 = .ok (.invokevirtual 148, 3) := by decide +kernel
theorem dX5_loss_26 : decode cX5_loss 26 = .ok (.aload_n 0, 1) := by decide +kernel
theorem dX5_loss_27 : decode cX5_loss 27 = .ok (.getfield 35, 3) := by decide +kernel
theorem dX5_loss_30 : decode cX5_loss 30 = .ok (.invokevirtual 160, 3) := by decide +kernel
theorem dX5_loss_33 : decode cX5_loss 33 = .ok (.aload_n 0, 1) := by decide +kernel
theorem dX5_loss_34 : decode cX5_loss 34 = .ok (.getfield 35, 3) := by decide +kernel
theorem dX5_loss_37 : decode cX5_loss 37 = .ok (.invokevirtual 156, 3) := by decide +kernel
theorem dX5_loss_40 : decode cX5_loss 40 = .ok (.iload_n 3, 1) := by decide +kernel
theorem dX5_loss_41 : decode cX5_loss 41 = .ok (.invokestatic 135, 3) := by decide +kernel
theorem dX5_loss_44 : decode cX5_loss 44 = .ok (.lreturn, 1) := by decide +kernel
set_option maxRecDepth 20000 in
theorem ggX5_press_X5_canFit : GoodIn wsX5_press wsX5_canFit := goodIn_r _ [7, 8, 100, 101, 102, 103, 104, 105, 106, 107, 108, 109, 110] (by decide +kernel) (by decide +kernel)
set_option maxRecDepth 20000 in
theorem gX5_press_X5_canFit : GoodIn wsX5_press (wsV RX5 139 RX5 yX5_canFit wsX5_canFit) := goodIn_app (goodIn_of _ (by decide +kernel)) ggX5_press_X5_canFit
set_option maxRecDepth 20000 in
theorem ggX5_press_X5_isFitted : GoodIn wsX5_press wsX5_isFitted := goodIn_r _ [11] (by decide +kernel) (by decide +kernel)
set_option maxRecDepth 20000 in
theorem gX5_press_X5_isFitted : GoodIn wsX5_press (va_wsS RX5 143 yX5_isFitted wsX5_isFitted) := goodIn_app (goodIn_of _ (by decide +kernel)) ggX5_press_X5_isFitted
set_option maxRecDepth 20000 in
theorem ggX5_press_X5_isPartOfFraction : GoodIn wsX5_press wsX5_isPartOfFraction := goodIn_r _ [14] (by decide +kernel) (by decide +kernel)
set_option maxRecDepth 20000 in
theorem gX5_press_X5_isPartOfFraction : GoodIn wsX5_press (va_wsS RX5 132 yX5_isPartOfFraction wsX5_isPartOfFraction) := goodIn_app (goodIn_of _ (by decide +kernel)) ggX5_press_X5_isPartOfFraction
set_option maxRecDepth 20000 in
theorem ggX5_press_X5_fitStorms : GoodIn wsX5_press wsX5_fitStorms := goodIn_r _ [18, 2, 8, 19, 20, 21, 22, 23, 24, 25, 26, 27, 28, 29, 30, 31, 32, 33, 34, 35, 36, 37, 38, 39, 40, 41, 42, 43, 44, 45, 46, 47, 48, 49, 50, 51, 52, 53, 54, 55, 56, 57, 58, 59, 60, 61, 62, 63, 64, 65, 66, 67, 68, 69, 70, 71, 72, 73, 74, 75, 76, 77, 78, 79, 80, 81, 82, 100, 101, 102, 103, 104, 105, 106, 107, 108, 109, 110, 111, 112, 113, 114, 115, 116, 117, 118, 119, 120, 121, 122, 123, 124] (by decide +kernel) (by decide +kernel)
set_option maxRecDepth 20000 in
theorem gX5_press_X5_fitStorms : GoodIn wsX5_press (wsV RX5 148 RX5 yX5_fitStorms wsX5_fitStorms) := goodIn_app (goodIn_of _ (by decide +kernel)) ggX5_press_X5_fitStorms
set_option maxRecDepth 20000 in
theorem ggX5_press_X0_pressAbove : GoodIn wsX5_press wsX0_pressAbove := goodIn_r _ [86, 59, 111, 112, 113, 114, 115, 116, 117, 118] (by decide +kernel) (by decide +kernel)
set_option maxRecDepth 20000 in
theorem gX5_press_X0_pressAbove : GoodIn wsX5_press (wsV RX5 163 RX0 yX0_pressAbove wsX0_pressAbove) := goodIn_app (goodIn_of _ (by decide +kernel)) ggX5_press_X0_pressAbove
set_option maxRecDepth 20000 in
theorem ggX5_press_X0_below : GoodIn wsX5_press wsX0_below := goodIn_r _ [90, 57, 111, 112, 113, 114, 115, 116, 117, 118] (by decide +kernel) (by decide +kernel)
set_option maxRecDepth 20000 in
theorem gX5_press_X0_below : GoodIn wsX5_press (wsV RX5 156 RX0 yX0_below wsX0_below) := goodIn_app (goodIn_of _ (by decide +kernel)) ggX5_press_X0_below
set_option maxRecDepth 20000 in
theorem ggX5_press_X5_inLowestTerms : GoodIn wsX5_press wsX5_inLowestTerms := goodIn_r _ [93, 94, 95, 6, 96, 97, 98, 27, 99] (by decide +kernel) (by decide +kernel)
set_option maxRecDepth 20000 in
theorem gX5_press_X5_inLowestTerms : GoodIn wsX5_press (va_wsS RX5 135 yX5_inLowestTerms wsX5_inLowestTerms) := goodIn_app (goodIn_of _ (by decide +kernel)) ggX5_press_X5_inLowestTerms
theorem dX5_press_0 : decode cX5_press 0 = .ok (.aload_n 0, 1) := by decide +kernel
theorem dX5_press_1 : decode cX5_press 1 = .ok (.iload_n 1, 1) := by decide +kernel
theorem dX5_press_2 : decode cX5_press 2 = .ok (.iload_n 2, 1) := by decide +kernel
theorem dX5_press_3 : decode cX5_press 3 = .ok (.invokevirtual 139, 3) := by decide +kernel
theorem dX5_press_6 : decode cX5_press 6 = .ok (.ifCond .eq 19, 3) := by decide +kernel
theorem dX5_press_9 : decode cX5_press 9 = .ok (.iload_n 3, 1) := by decide +kernel
theorem dX5_press_10 : decode cX5_press 10 = .ok (.iload_n 2, 1) := by decide +kernel
theorem dX5_press_11 : decode cX5_press 11 = .ok (.invokestatic 143, 3) := by decide +kernel
theorem dX5_press_14 : decode cX5_press 14 = .ok (.ifCond .eq 11, 3) := by decide +kernel
theorem dX5_press_17 : decode cX5_press 17 = .ok (.iload 4, 2) := by decide +kernel
theorem dX5_press_19 : decode cX5_press 19 = .ok (.invokestatic 132, 3) := by decide +kernel
theorem dX5_press_22 : decode cX5_press 22 = .ok (.ifCond .ne 7, 3) := by decide +kernel
theorem dX5_press_25 : decode cX5_press 25 = .ok (.ldc2_w 146, 3) := by decide +kernel
theorem dX5_press_28 : decode cX5_press 28 = .ok (.lreturn, 1) := by decide +kernel
theorem dX5_press_29 : decode cX5_press 29 = .ok (.aload_n 0, 1) := by decide +kernel
theorem dX5_press_30 : decode cX5_press 30 = .ok (.iload_n 1, 1) := by decide +kernel
theorem dX5_press_31 : decode cX5_press 31 = .ok (.iload_n 2, 1) := by decide +kernel
theorem dX5_press_32 : decode cX5_press 32 = .ok (.invokevirtual 148, 3) := by decide +kernel
theorem dX5_press_35 : decode cX5_press 35 = .ok (.aload_n 0, 1) := by decide +kernel
theorem dX5_press_36 : decode cX5_press 36 = .ok (.getfield 35, 3) := by decide +kernel
theorem dX5_press_39 : decode cX5_press 39 = .ok (.iload_n 3, 1) := by decide +kernel
theorem dX5_press_40 : decode cX5_press 40 = .ok (.invokevirtual 163, 3) := by decide +kernel
theorem dX5_press_43 : decode cX5_press 43 = .ok (.aload_n 0, 1) := by decide +kernel
theorem dX5_press_44 : decode cX5_press 44 = .ok (.getfield 35, 3) := by decide +kernel
theorem dX5_press_47 : decode cX5_press 47 = .ok (.invokevirtual 156, 3) := by decide +kernel
theorem dX5_press_50 : decode cX5_press 50 = .ok (.iload 4, 2) := by decide +kernel
theorem dX5_press_52 : decode cX5_press 52 = .ok (.invokestatic 135, 3) := by decide +kernel
theorem dX5_press_55 : decode cX5_press 55 = .ok (.lreturn, 1) := by decide +kernel
set_option maxRecDepth 20000 in
theorem ggX5_nothing_X5_canFit : GoodIn wsX5_nothing wsX5_canFit := goodIn_r _ [7, 8, 81, 82, 83, 84, 85, 86, 87, 88, 89, 90, 91] (by decide +kernel) (by decide +kernel)
set_option maxRecDepth 20000 in
theorem gX5_nothing_X5_canFit : GoodIn wsX5_nothing (wsV RX5 139 RX5 yX5_canFit wsX5_canFit) := goodIn_app (goodIn_of _ (by decide +kernel)) ggX5_nothing_X5_canFit
set_option maxRecDepth 20000 in
theorem ggX5_nothing_X5_fitStorms : GoodIn wsX5_nothing wsX5_fitStorms := goodIn_r _ [12, 2, 8, 13, 14, 15, 16, 17, 18, 19, 20, 21, 22, 23, 24, 25, 26, 27, 28, 29, 30, 31, 32, 33, 34, 35, 36, 37, 38, 39, 40, 41, 42, 43, 44, 45, 46, 47, 48, 49, 50, 51, 52, 53, 54, 55, 56, 57, 58, 59, 60, 61, 62, 63, 64, 65, 66, 67, 68, 69, 70, 71, 72, 73, 74, 75, 76, 81, 82, 83, 84, 85, 86, 87, 88, 89, 90, 91, 92, 93, 94, 95, 96, 97, 98, 99, 100, 101, 102, 103, 104, 105] (by decide +kernel) (by decide +kernel)
set_option maxRecDepth 20000 in
theorem gX5_nothing_X5_fitStorms : GoodIn wsX5_nothing (wsV RX5 148 RX5 yX5_fitStorms wsX5_fitStorms) := goodIn_app (goodIn_of _ (by decide +kernel)) ggX5_nothing_X5_fitStorms
set_option maxRecDepth 20000 in
theorem ggX5_nothing_X0_partAbove : GoodIn wsX5_nothing wsX0_partAbove := goodIn_r _ [80, 52, 92, 93, 94, 95, 96, 97, 98, 99] (by decide +kernel) (by decide +kernel)
set_option maxRecDepth 20000 in
theorem gX5_nothing_X0_partAbove : GoodIn wsX5_nothing (wsV RX5 152 RX0 yX0_partAbove wsX0_partAbove) := goodIn_app (goodIn_of _ (by decide +kernel)) ggX5_nothing_X0_partAbove
theorem dX5_nothing_0 : decode cX5_nothing 0 = .ok (.aload_n 0, 1) := by decide +kernel
theorem dX5_nothing_1 : decode cX5_nothing 1 = .ok (.iload_n 1, 1) := by decide +kernel
theorem dX5_nothing_2 : decode cX5_nothing 2 = .ok (.iload_n 2, 1) := by decide +kernel
theorem dX5_nothing_3 : decode cX5_nothing 3 = .ok (.invokevirtual 139, 3) := by decide +kernel
theorem dX5_nothing_6 : decode cX5_nothing 6 = .ok (.ifCond .ne 6, 3) := by decide +kernel
theorem dX5_nothing_9 : decode cX5_nothing 9 = .ok (.ldc 41, 2) := by decide +kernel
theorem dX5_nothing_11 : decode cX5_nothing 11 = .ok (.ireturn, 1) := by decide +kernel
theorem dX5_nothing_12 : decode cX5_nothing 12 = .ok (.aload_n 0, 1) := by decide +kernel
theorem dX5_nothing_13 : decode cX5_nothing 13 = .ok (.iload_n 1, 1) := by decide +kernel
theorem dX5_nothing_14 : decode cX5_nothing 14 = .ok (.iload_n 2, 1) := by decide +kernel
theorem dX5_nothing_15 : decode cX5_nothing 15 = .ok (.invokevirtual 148, 3) := by decide +kernel
theorem dX5_nothing_18 : decode cX5_nothing 18 = .ok (.iconst 0, 1) := by decide +kernel
theorem dX5_nothing_19 : decode cX5_nothing 19 = .ok (.istore_n 3, 1) := by decide +kernel
theorem dX5_nothing_20 : decode cX5_nothing 20 = .ok (.iconst 0, 1) := by decide +kernel
theorem dX5_nothing_21 : decode cX5_nothing 21 = .ok (.istore 4, 2) := by decide +kernel
theorem dX5_nothing_23 : decode cX5_nothing 23 = .ok (.iload 4, 2) := by decide +kernel
theorem dX5_nothing_25 : decode cX5_nothing 25 = .ok (.iload_n 2, 1) := by decide +kernel
theorem dX5_nothing_26 : decode cX5_nothing 26 = .ok (.if_icmp .ge 30, 3) := by decide +kernel
theorem dX5_nothing_29 : decode cX5_nothing 29 = .ok (.aload_n 0, 1) := by decide +kernel
theorem dX5_nothing_30 : decode cX5_nothing 30 = .ok (.getfield 35, 3) := by decide +kernel
theorem dX5_nothing_33 : decode cX5_nothing 33 = .ok (.iload 4, 2) := by decide +kernel
theorem dX5_nothing_35 : decode cX5_nothing 35 = .ok (.invokevirtual 152, 3) := by decide +kernel
theorem dX5_nothing_38 : decode cX5_nothing 38 = .ok (.lconst 0, 1) := by decide +kernel
theorem dX5_nothing_39 : decode cX5_nothing 39 = .ok (.lcmp, 1) := by decide +kernel
theorem dX5_nothing_40 : decode cX5_nothing 40 = .ok (.ifCond .ne 10, 3) := by decide +kernel
theorem dX5_nothing_43 : decode cX5_nothing 43 = .ok (.iload_n 3, 1) := by decide +kernel
theorem dX5_nothing_44 : decode cX5_nothing 44 = .ok (.iconst 1, 1) := by decide +kernel
theorem dX5_nothing_45 : decode cX5_nothing 45 = .ok (.iload 4, 2) := by decide +kernel
theorem dX5_nothing_47 : decode cX5_nothing 47 = .ok (.ishl, 1) := by decide +kernel
theorem dX5_nothing_48 : decode cX5_nothing 48 = .ok (.ior, 1) := by decide +kernel
theorem dX5_nothing_49 : decode cX5_nothing 49 = .ok (.istore_n 3, 1) := by decide +kernel
theorem dX5_nothing_50 : decode cX5_nothing 50 = .ok (.iinc 4 1, 3) := by decide +kernel
theorem dX5_nothing_53 : decode cX5_nothing 53 = .ok (.goto (-30), 3) := by decide +kernel
theorem dX5_nothing_56 : decode cX5_nothing 56 = .ok (.iload_n 3, 1) := by decide +kernel
theorem dX5_nothing_57 : decode cX5_nothing 57 = .ok (.ireturn, 1) := by decide +kernel
set_option maxRecDepth 20000 in
theorem ggX5_keep_X5_canFit : GoodIn wsX5_keep wsX5_canFit := goodIn_r _ [14, 15, 104, 105, 106, 107, 108, 109, 110, 111, 112, 113, 114] (by decide +kernel) (by decide +kernel)
set_option maxRecDepth 20000 in
theorem gX5_keep_X5_canFit : GoodIn wsX5_keep (wsV RX5 139 RX5 yX5_canFit wsX5_canFit) := goodIn_app (goodIn_of _ (by decide +kernel)) ggX5_keep_X5_canFit
set_option maxRecDepth 20000 in
theorem ggX5_keep_X5_isLength : GoodIn wsX5_keep wsX5_isLength := goodIn_r _ [18] (by decide +kernel) (by decide +kernel)
set_option maxRecDepth 20000 in
theorem gX5_keep_X5_isLength : GoodIn wsX5_keep (va_wsS RX5 129 yX5_isLength wsX5_isLength) := goodIn_app (goodIn_of _ (by decide +kernel)) ggX5_keep_X5_isLength
set_option maxRecDepth 20000 in
theorem ggX5_keep_X5_fitStorms : GoodIn wsX5_keep wsX5_fitStorms := goodIn_r _ [22, 2, 15, 23, 24, 25, 26, 27, 28, 29, 30, 31, 32, 33, 34, 35, 36, 37, 38, 39, 40, 41, 42, 43, 44, 45, 46, 47, 48, 49, 50, 51, 52, 53, 54, 55, 56, 57, 58, 59, 60, 61, 62, 63, 64, 65, 66, 67, 68, 69, 70, 71, 72, 73, 74, 75, 76, 77, 78, 79, 80, 81, 82, 83, 84, 85, 86, 104, 105, 106, 107, 108, 109, 110, 111, 112, 113, 114, 117, 118, 119, 120, 121, 122, 123, 124, 125, 126, 127, 128, 129, 130] (by decide +kernel) (by decide +kernel)
set_option maxRecDepth 20000 in
theorem gX5_keep_X5_fitStorms : GoodIn wsX5_keep (wsV RX5 148 RX5 yX5_fitStorms wsX5_fitStorms) := goodIn_app (goodIn_of _ (by decide +kernel)) ggX5_keep_X5_fitStorms
set_option maxRecDepth 20000 in
theorem ggX5_keep_X0_isOfUnitNumbers : GoodIn wsX5_keep wsX0_isOfUnitNumbers := goodIn_r _ [90, 61, 36, 62, 91, 117, 118, 119, 120, 121, 122, 123, 124] (by decide +kernel) (by decide +kernel)
set_option maxRecDepth 20000 in
theorem gX5_keep_X0_isOfUnitNumbers : GoodIn wsX5_keep (wsV RX5 166 RX0 yX0_isOfUnitNumbers wsX0_isOfUnitNumbers) := goodIn_app (goodIn_of _ (by decide +kernel)) ggX5_keep_X0_isOfUnitNumbers
set_option maxRecDepth 20000 in
theorem ggX5_keep_X0_writeInto : GoodIn wsX5_keep wsX0_writeInto := goodIn_r _ [95, 36, 61, 62, 96, 97, 98, 49, 99, 51, 100, 101, 102, 103, 52, 117, 118, 119, 120, 121, 122, 123, 124, 129, 130] (by decide +kernel) (by decide +kernel)
set_option maxRecDepth 20000 in
theorem gX5_keep_X0_writeInto : GoodIn wsX5_keep (wsV RX5 172 RX0 yX0_writeInto wsX0_writeInto) := goodIn_app (goodIn_of _ (by decide +kernel)) ggX5_keep_X0_writeInto
theorem dX5_keep_0 : decode cX5_keep 0 = .ok (.aload_n 0, 1) := by decide +kernel
theorem dX5_keep_1 : decode cX5_keep 1 = .ok (.iload_n 1, 1) := by decide +kernel
theorem dX5_keep_2 : decode cX5_keep 2 = .ok (.iload_n 2, 1) := by decide +kernel
theorem dX5_keep_3 : decode cX5_keep 3 = .ok (.invokevirtual 139, 3) := by decide +kernel
theorem dX5_keep_6 : decode cX5_keep 6 = .ok (.ifCond .eq 10, 3) := by decide +kernel
theorem dX5_keep_9 : decode cX5_keep 9 = .ok (.iload_n 3, 1) := by decide +kernel
theorem dX5_keep_10 : decode cX5_keep 10 = .ok (.invokestatic 129, 3) := by decide +kernel
theorem dX5_keep_13 : decode cX5_keep 13 = .ok (.ifCond .ne 6, 3) := by decide +kernel
theorem dX5_keep_16 : decode cX5_keep 16 = .ok (.ldc 41, 2) := by decide +kernel
theorem dX5_keep_18 : decode cX5_keep 18 = .ok (.ireturn, 1) := by decide +kernel
theorem dX5_keep_19 : decode cX5_keep 19 = .ok (.aload_n 0, 1) := by decide +kernel
theorem dX5_keep_20 : decode cX5_keep 20 = .ok (.iload_n 1, 1) := by decide +kernel
theorem dX5_keep_21 : decode cX5_keep 21 = .ok (.iload_n 2, 1) := by decide +kernel
theorem dX5_keep_22 : decode cX5_keep 22 = .ok (.invokevirtual 148, 3) := by decide +kernel
theorem dX5_keep_25 : decode cX5_keep 25 = .ok (.aload_n 0, 1) := by decide +kernel
theorem dX5_keep_26 : decode cX5_keep 26 = .ok (.getfield 35, 3) := by decide +kernel
theorem dX5_keep_29 : decode cX5_keep 29 = .ok (.invokevirtual 166, 3) := by decide +kernel
theorem dX5_keep_32 : decode cX5_keep 32 = .ok (.ifCond .ne 6, 3) := by decide +kernel
theorem dX5_keep_35 : decode cX5_keep 35 = .ok (.ldc 55, 2) := by decide +kernel
theorem dX5_keep_37 : decode cX5_keep 37 = .ok (.ireturn, 1) := by decide +kernel
theorem dX5_keep_38 : decode cX5_keep 38 = .ok (.aload_n 0, 1) := by decide +kernel
theorem dX5_keep_39 : decode cX5_keep 39 = .ok (.getfield 169, 3) := by decide +kernel
theorem dX5_keep_42 : decode cX5_keep 42 = .ok (.iconst 4, 1) := by decide +kernel
theorem dX5_keep_43 : decode cX5_keep 43 = .ok (.if_icmp .lt 6, 3) := by decide +kernel
theorem dX5_keep_46 : decode cX5_keep 46 = .ok (.ldc 46, 2) := by decide +kernel
theorem dX5_keep_48 : decode cX5_keep 48 = .ok (.ireturn, 1) := by decide +kernel
theorem dX5_keep_49 : decode cX5_keep 49 = .ok (.aload_n 0, 1) := by decide +kernel
theorem dX5_keep_50 : decode cX5_keep 50 = .ok (.getfield 21, 3) := by decide +kernel
theorem dX5_keep_53 : decode cX5_keep 53 = .ok (.aload_n 0, 1) := by decide +kernel
theorem dX5_keep_54 : decode cX5_keep 54 = .ok (.getfield 169, 3) := by decide +kernel
theorem dX5_keep_57 : decode cX5_keep 57 = .ok (.aaload, 1) := by decide +kernel
theorem dX5_keep_58 : decode cX5_keep 58 = .ok (.astore 4, 2) := by decide +kernel
theorem dX5_keep_60 : decode cX5_keep 60 = .ok (.aload 4, 2) := by decide +kernel
theorem dX5_keep_62 : decode cX5_keep 62 = .ok (.iload_n 3, 1) := by decide +kernel
theorem dX5_keep_63 : decode cX5_keep 63 = .ok (.putfield 112, 3) := by decide +kernel
theorem dX5_keep_66 : decode cX5_keep 66 = .ok (.aload_n 0, 1) := by decide +kernel
theorem dX5_keep_67 : decode cX5_keep 67 = .ok (.getfield 35, 3) := by decide +kernel
theorem dX5_keep_70 : decode cX5_keep 70 = .ok (.aload 4, 2) := by decide +kernel
theorem dX5_keep_72 : decode cX5_keep 72 = .ok (.getfield 109, 3) := by decide +kernel
theorem dX5_keep_75 : decode cX5_keep 75 = .ok (.invokevirtual 172, 3) := by decide +kernel
theorem dX5_keep_78 : decode cX5_keep 78 = .ok (.aload_n 0, 1) := by decide +kernel
theorem dX5_keep_79 : decode cX5_keep 79 = .ok (.dup, 1) := by decide +kernel
theorem dX5_keep_80 : decode cX5_keep 80 = .ok (.getfield 169, 3) := by decide +kernel
theorem dX5_keep_83 : decode cX5_keep 83 = .ok (.iconst 1, 1) := by decide +kernel
theorem dX5_keep_84 : decode cX5_keep 84 = .ok (.iadd, 1) := by decide +kernel
theorem dX5_keep_85 : decode cX5_keep 85 = .ok (.putfield 169, 3) := by decide +kernel
theorem dX5_keep_88 : decode cX5_keep 88 = .ok (.aload_n 0, 1) := by decide +kernel
theorem dX5_keep_89 : decode cX5_keep 89 = .ok (.dup, 1) := by decide +kernel
theorem dX5_keep_90 : decode cX5_keep 90 = .ok (.getfield 176, 3) := by decide +kernel
theorem dX5_keep_93 : decode cX5_keep 93 = .ok (.iconst 1, 1) := by decide +kernel
theorem dX5_keep_94 : decode cX5_keep 94 = .ok (.iadd, 1) := by decide +kernel
theorem dX5_keep_95 : decode cX5_keep 95 = .ok (.putfield 176, 3) := by decide +kernel
theorem dX5_keep_98 : decode cX5_keep 98 = .ok (.aload_n 0, 1) := by decide +kernel
theorem dX5_keep_99 : decode cX5_keep 99 = .ok (.getfield 169, 3) := by decide +kernel
theorem dX5_keep_102 : decode cX5_keep 102 = .ok (.iconst 1, 1) := by decide +kernel
theorem dX5_keep_103 : decode cX5_keep 103 = .ok (.isub, 1) := by decide +kernel
theorem dX5_keep_104 : decode cX5_keep 104 = .ok (.ireturn, 1) := by decide +kernel
theorem dX5_count_0 : decode cX5_count 0 = .ok (.iload_n 1, 1) := by decide +kernel
theorem dX5_count_1 : decode cX5_count 1 = .ok (.tableswitch 69 0 5 #[39, 44, 49, 54, 59, 64], 39) := by decide +kernel
theorem dX5_count_40 : decode cX5_count 40 = .ok (.aload_n 0, 1) := by decide +kernel
theorem dX5_count_41 : decode cX5_count 41 = .ok (.getfield 179, 3) := by decide +kernel
theorem dX5_count_44 : decode cX5_count 44 = .ok (.ireturn, 1) := by decide +kernel
theorem dX5_count_45 : decode cX5_count 45 = .ok (.aload_n 0, 1) := by decide +kernel
theorem dX5_count_46 : decode cX5_count 46 = .ok (.getfield 169, 3) := by decide +kernel
theorem dX5_count_49 : decode cX5_count 49 = .ok (.ireturn, 1) := by decide +kernel
theorem dX5_count_50 : decode cX5_count 50 = .ok (.aload_n 0, 1) := by decide +kernel
theorem dX5_count_51 : decode cX5_count 51 = .ok (.getfield 42, 3) := by decide +kernel
theorem dX5_count_54 : decode cX5_count 54 = .ok (.ireturn, 1) := by decide +kernel
theorem dX5_count_55 : decode cX5_count 55 = .ok (.aload_n 0, 1) := by decide +kernel
theorem dX5_count_56 : decode cX5_count 56 = .ok (.getfield 66, 3) := by decide +kernel
theorem dX5_count_59 : decode cX5_count 59 = .ok (.ireturn, 1) := by decide +kernel
theorem dX5_count_60 : decode cX5_count 60 = .ok (.aload_n 0, 1) := by decide +kernel
theorem dX5_count_61 : decode cX5_count 61 = .ok (.getfield 182, 3) := by decide +kernel
theorem dX5_count_64 : decode cX5_count 64 = .ok (.ireturn, 1) := by decide +kernel
theorem dX5_count_65 : decode cX5_count 65 = .ok (.aload_n 0, 1) := by decide +kernel
theorem dX5_count_66 : decode cX5_count 66 = .ok (.getfield 176, 3) := by decide +kernel
theorem dX5_count_69 : decode cX5_count 69 = .ok (.ireturn, 1) := by decide +kernel
theorem dX5_count_70 : decode cX5_count 70 = .ok (.ldc 41, 2) := by decide +kernel
theorem dX5_count_72 : decode cX5_count 72 = .ok (.ireturn, 1) := by decide +kernel
set_option maxRecDepth 20000 in
theorem ggX5_digest_X5_withStorm : GoodIn wsX5_digest wsX5_withStorm := goodIn_r _ [10, 11, 12, 13, 9, 14, 15, 16, 17, 18, 19, 20, 21, 22, 23, 2, 24, 25, 26, 27, 28, 29, 30, 31, 32, 33, 34, 35, 36, 37, 38, 39, 40, 41, 42, 43, 44, 45, 46, 47, 48, 49, 50, 51, 52, 53, 54, 55, 183, 184, 185, 186, 187, 188, 189, 190, 191, 192, 193, 194, 195, 196, 197, 198, 199] (by decide +kernel) (by decide +kernel)
set_option maxRecDepth 20000 in
theorem gX5_digest_X5_withStorm : GoodIn wsX5_digest (wsV RX5 187 RX5 yX5_withStorm wsX5_withStorm) := goodIn_app (goodIn_of _ (by decide +kernel)) ggX5_digest_X5_withStorm
set_option maxRecDepth 20000 in
theorem ggX5_digest_X5_withUnit : GoodIn wsX5_digest wsX5_withUnit := goodIn_r _ [59, 60, 61, 62, 9, 63, 15, 64, 65, 66, 19, 67, 68, 69, 70, 3, 24, 25, 26, 27, 28, 29, 30, 31, 32, 33, 34, 35, 36, 37, 38, 39, 40, 41, 42, 43, 183, 184, 185, 186, 187, 188, 189, 190, 191, 192, 193, 200, 201, 198, 199] (by decide +kernel) (by decide +kernel)
set_option maxRecDepth 20000 in
theorem gX5_digest_X5_withUnit : GoodIn wsX5_digest (wsV RX5 191 RX5 yX5_withUnit wsX5_withUnit) := goodIn_app (goodIn_of _ (by decide +kernel)) ggX5_digest_X5_withUnit
set_option maxRecDepth 20000 in
theorem ggX5_digest_X5_missed : GoodIn wsX5_digest wsX5_missed := goodIn_r _ [74, 15, 16, 64, 65, 67, 68, 69, 9, 70, 3, 20, 21, 22, 23, 2, 75, 76, 77, 53, 78, 79, 80, 81, 82, 83, 84, 85, 25, 26, 27, 28, 29, 30, 183, 184, 185, 186, 187, 188, 189, 190, 191, 192, 193, 200, 201, 194, 195, 196, 197, 198, 199] (by decide +kernel) (by decide +kernel)
set_option maxRecDepth 20000 in
theorem gX5_digest_X5_missed : GoodIn wsX5_digest (wsV RX5 194 RX5 yX5_missed wsX5_missed) := goodIn_app (goodIn_of _ (by decide +kernel)) ggX5_digest_X5_missed
set_option maxRecDepth 20000 in
theorem ggX5_digest_X5_with : GoodIn wsX5_digest wsX5_with := goodIn_r _ [42, 43] (by decide +kernel) (by decide +kernel)
set_option maxRecDepth 20000 in
theorem gX5_digest_X5_with : GoodIn wsX5_digest (va_wsS RX5 198 yX5_with wsX5_with) := goodIn_app (goodIn_of _ (by decide +kernel)) ggX5_digest_X5_with
set_option maxRecDepth 20000 in
theorem ggX5_digest_X5_fitStorms : GoodIn wsX5_digest wsX5_fitStorms := goodIn_r _ [89, 90, 2, 16, 91, 92, 93, 94, 95, 96, 97, 98, 99, 100, 101, 102, 103, 104, 105, 106, 107, 108, 109, 110, 111, 112, 113, 25, 26, 27, 28, 29, 30, 114, 115, 116, 117, 118, 119, 120, 121, 122, 123, 124, 125, 126, 127, 128, 129, 130, 131, 132, 133, 134, 135, 136, 137, 138, 139, 140, 141, 142, 143, 144, 145, 146, 147, 183, 184, 185, 186, 187, 188, 189, 190, 191, 192, 193, 202, 203, 204, 205, 206, 207, 208, 209, 194, 195, 196, 197, 198, 199] (by decide +kernel) (by decide +kernel)
set_option maxRecDepth 20000 in
theorem gX5_digest_X5_fitStorms : GoodIn wsX5_digest (wsV RX5 148 RX5 yX5_fitStorms wsX5_fitStorms) := goodIn_app (goodIn_of _ (by decide +kernel)) ggX5_digest_X5_fitStorms
set_option maxRecDepth 20000 in
theorem ggX5_digest_X5_withFit : GoodIn wsX5_digest wsX5_withFit := goodIn_r _ [151, 90, 152, 153, 154, 94, 155, 123, 156, 157, 158, 159, 122, 160, 161, 9, 162, 163, 164, 165, 166, 167, 168, 169, 170, 98, 171, 40, 41, 42, 43, 172, 173, 174, 175, 104, 103, 106, 183, 184, 185, 186, 187, 188, 189, 190, 191, 192, 193, 202, 203, 204, 205, 206, 207, 208, 209] (by decide +kernel) (by decide +kernel)
set_option maxRecDepth 20000 in
theorem gX5_digest_X5_withFit : GoodIn wsX5_digest (wsV RX5 202 RX5 yX5_withFit wsX5_withFit) := goodIn_app (goodIn_of _ (by decide +kernel)) ggX5_digest_X5_withFit
set_option maxRecDepth 20000 in
theorem ggX5_digest_X5_count : GoodIn wsX5_digest wsX5_count := goodIn_r _ [179, 2, 3, 4, 180, 181, 182, 19, 183, 184, 185, 186, 187, 188, 189, 190, 191, 192, 193] (by decide +kernel) (by decide +kernel)
set_option maxRecDepth 20000 in
theorem gX5_digest_X5_count : GoodIn wsX5_digest (wsV RX5 205 RX5 yX5_count wsX5_count) := goodIn_app (goodIn_of _ (by decide +kernel)) ggX5_digest_X5_count
theorem dX5_digest_0 : decode cX5_digest 0 = .ok (.ldc2_w 185, 3) := by decide +kernel
theorem dX5_digest_3 : decode cX5_digest 3 = .ok (.lstore_n 1, 1) := by decide +kernel
theorem dX5_digest_4 : decode cX5_digest 4 = .ok (.iconst 0, 1) := by decide +kernel
theorem dX5_digest_5 : decode cX5_digest 5 = .ok (.istore_n 3, 1) := by decide +kernel
theorem dX5_digest_6 : decode cX5_digest 6 = .ok (.iload_n 3, 1) := by decide +kernel
theorem dX5_digest_7 : decode cX5_digest 7 = .ok (.aload_n 0, 1) := by decide +kernel
theorem dX5_digest_8 : decode cX5_digest 8 = .ok (.getfield 179, 3) := by decide +kernel
theorem dX5_digest_11 : decode cX5_digest 11 = .ok (.if_icmp .ge 16, 3) := by decide +kernel
theorem dX5_digest_14 : decode cX5_digest 14 = .ok (.aload_n 0, 1) := by decide +kernel
theorem dX5_digest_15 : decode cX5_digest 15 = .ok (.lload_n 1, 1) := by decide +kernel
theorem dX5_digest_16 : decode cX5_digest 16 = .ok (.iload_n 3, 1) := by decide +kernel
theorem dX5_digest_17 : decode cX5_digest 17 = .ok (.invokevirtual 187, 3) := by decide +kernel
theorem dX5_digest_20 : decode cX5_digest 20 = .ok (.lstore_n 1, 1) := by decide +kernel
theorem dX5_digest_21 : decode cX5_digest 21 = .ok (.iinc 3 1, 3) := by decide +kernel
theorem dX5_digest_24 : decode cX5_digest 24 = .ok (.goto (-18), 3) := by decide +kernel
theorem dX5_digest_27 : decode cX5_digest 27 = .ok (.iconst 0, 1) := by decide +kernel
theorem dX5_digest_28 : decode cX5_digest 28 = .ok (.istore_n 3, 1) := by decide +kernel
theorem dX5_digest_29 : decode cX5_digest 29 = .ok (.iload_n 3, 1) := by decide +kernel
theorem dX5_digest_30 : decode cX5_digest 30 = .ok (.aload_n 0, 1) := by decide +kernel
theorem dX5_digest_31 : decode cX5_digest 31 = .ok (.getfield 169, 3) := by decide +kernel
theorem dX5_digest_34 : decode cX5_digest 34 = .ok (.if_icmp .ge 16, 3) := by decide +kernel
theorem dX5_digest_37 : decode cX5_digest 37 = .ok (.aload_n 0, 1) := by decide +kernel
theorem dX5_digest_38 : decode cX5_digest 38 = .ok (.lload_n 1, 1) := by decide +kernel
theorem dX5_digest_39 : decode cX5_digest 39 = .ok (.iload_n 3, 1) := by decide +kernel
theorem dX5_digest_40 : decode cX5_digest 40 = .ok (.invokevirtual 191, 3) := by decide +kernel
theorem dX5_digest_43 : decode cX5_digest 43 = .ok (.lstore_n 1, 1) := by decide +kernel
theorem dX5_digest_44 : decode cX5_digest 44 = .ok (.iinc 3 1, 3) := by decide +kernel
theorem dX5_digest_47 : decode cX5_digest 47 = .ok (.goto (-18), 3) := by decide +kernel
theorem dX5_digest_50 : decode cX5_digest 50 = .ok (.iconst 0, 1) := by decide +kernel
theorem dX5_digest_51 : decode cX5_digest 51 = .ok (.istore_n 3, 1) := by decide +kernel
theorem dX5_digest_52 : decode cX5_digest 52 = .ok (.iload_n 3, 1) := by decide +kernel
theorem dX5_digest_53 : decode cX5_digest 53 = .ok (.aload_n 0, 1) := by decide +kernel
theorem dX5_digest_54 : decode cX5_digest 54 = .ok (.getfield 169, 3) := by decide +kernel
theorem dX5_digest_57 : decode cX5_digest 57 = .ok (.if_icmp .ge 40, 3) := by decide +kernel
theorem dX5_digest_60 : decode cX5_digest 60 = .ok (.iconst 0, 1) := by decide +kernel
theorem dX5_digest_61 : decode cX5_digest 61 = .ok (.istore 4, 2) := by decide +kernel
theorem dX5_digest_63 : decode cX5_digest 63 = .ok (.iload 4, 2) := by decide +kernel
theorem dX5_digest_65 : decode cX5_digest 65 = .ok (.aload_n 0, 1) := by decide +kernel
theorem dX5_digest_66 : decode cX5_digest 66 = .ok (.getfield 179, 3) := by decide +kernel
theorem dX5_digest_69 : decode cX5_digest 69 = .ok (.if_icmp .ge 22, 3) := by decide +kernel
theorem dX5_digest_72 : decode cX5_digest 72 = .ok (.lload_n 1, 1) := by decide +kernel
theorem dX5_digest_73 : decode cX5_digest 73 = .ok (.aload_n 0, 1) := by decide +kernel
theorem dX5_digest_74 : decode cX5_digest 74 = .ok (.iload_n 3, 1) := by decide +kernel
theorem dX5_digest_75 : decode cX5_digest 75 = .ok (.iload 4, 2) := by decide +kernel
theorem dX5_digest_77 : decode cX5_digest 77 = .ok (.invokevirtual 194, 3) := by decide +kernel
theorem dX5_digest_80 : decode cX5_digest 80 = .ok (.i2l, 1) := by decide +kernel
theorem dX5_digest_81 : decode cX5_digest 81 = .ok (.invokestatic 198, 3) := by decide +kernel
theorem dX5_digest_84 : decode cX5_digest 84 = .ok (.lstore_n 1, 1) := by decide +kernel
theorem dX5_digest_85 : decode cX5_digest 85 = .ok (.iinc 4 1, 3) := by decide +kernel
theorem dX5_digest_88 : decode cX5_digest 88 = .ok (.goto (-25), 3) := by decide +kernel
theorem dX5_digest_91 : decode cX5_digest 91 = .ok (.iinc 3 1, 3) := by decide +kernel
theorem dX5_digest_94 : decode cX5_digest 94 = .ok (.goto (-42), 3) := by decide +kernel
theorem dX5_digest_97 : decode cX5_digest 97 = .ok (.iconst 1, 1) := by decide +kernel
theorem dX5_digest_98 : decode cX5_digest 98 = .ok (.istore_n 3, 1) := by decide +kernel
theorem dX5_digest_99 : decode cX5_digest 99 = .ok (.iload_n 3, 1) := by decide +kernel
theorem dX5_digest_100 : decode cX5_digest 100 = .ok (.iconst 4, 1) := by decide +kernel
theorem dX5_digest_101 : decode cX5_digest 101 = .ok (.if_icmp .gt 36, 3) := by decide +kernel
theorem dX5_digest_104 : decode cX5_digest 104 = .ok (.aload_n 0, 1) := by decide +kernel
theorem dX5_digest_105 : decode cX5_digest 105 = .ok (.getfield 179, 3) := by decide +kernel
theorem dX5_digest_108 : decode cX5_digest 108 = .ok (.ifCond .le 29, 3) := by decide +kernel
theorem dX5_digest_111 : decode cX5_digest 111 = .ok (.aload_n 0, 1) := by decide +kernel
theorem dX5_digest_112 : decode cX5_digest 112 = .ok (.iconst 1, 1) := by decide +kernel
theorem dX5_digest_113 : decode cX5_digest 113 = .ok (.aload_n 0, 1) := by decide +kernel
theorem dX5_digest_114 : decode cX5_digest 114 = .ok (.getfield 179, 3) := by decide +kernel
theorem dX5_digest_117 : decode cX5_digest 117 = .ok (.ishl, 1) := by decide +kernel
theorem dX5_digest_118 : decode cX5_digest 118 = .ok (.iconst 1, 1) := by decide +kernel
theorem dX5_digest_119 : decode cX5_digest 119 = .ok (.isub, 1) := by decide +kernel
theorem dX5_digest_120 : decode cX5_digest 120 = .ok (.iload_n 3, 1) := by decide +kernel
theorem dX5_digest_121 : decode cX5_digest 121 = .ok (.invokevirtual 148, 3) := by decide +kernel
theorem dX5_digest_124 : decode cX5_digest 124 = .ok (.aload_n 0, 1) := by decide +kernel
theorem dX5_digest_125 : decode cX5_digest 125 = .ok (.lload_n 1, 1) := by decide +kernel
theorem dX5_digest_126 : decode cX5_digest 126 = .ok (.iload_n 3, 1) := by decide +kernel
theorem dX5_digest_127 : decode cX5_digest 127 = .ok (.invokevirtual 202, 3) := by decide +kernel
theorem dX5_digest_130 : decode cX5_digest 130 = .ok (.lstore_n 1, 1) := by decide +kernel
theorem dX5_digest_131 : decode cX5_digest 131 = .ok (.iinc 3 1, 3) := by decide +kernel
theorem dX5_digest_134 : decode cX5_digest 134 = .ok (.goto (-35), 3) := by decide +kernel
theorem dX5_digest_137 : decode cX5_digest 137 = .ok (.iconst 0, 1) := by decide +kernel
theorem dX5_digest_138 : decode cX5_digest 138 = .ok (.istore_n 3, 1) := by decide +kernel
theorem dX5_digest_139 : decode cX5_digest 139 = .ok (.iload_n 3, 1) := by decide +kernel
theorem dX5_digest_140 : decode cX5_digest 140 = .ok (.aload_n 0, 1) := by decide +kernel
theorem dX5_digest_141 : decode cX5_digest 141 = .ok (.getfield 42, 3) := by decide +kernel
theorem dX5_digest_144 : decode cX5_digest 144 = .ok (.if_icmp .ge 21, 3) := by decide +kernel
theorem dX5_digest_147 : decode cX5_digest 147 = .ok (.lload_n 1, 1) := by decide +kernel
theorem dX5_digest_148 : decode cX5_digest 148 = .ok (.aload_n 0, 1) := by decide +kernel
theorem dX5_digest_149 : decode cX5_digest 149 = .ok (.getfield 9, 3) := by decide +kernel
theorem dX5_digest_152 : decode cX5_digest 152 = .ok (.iload_n 3, 1) := by decide +kernel
theorem dX5_digest_153 : decode cX5_digest 153 = .ok (.iaload, 1) := by decide +kernel
theorem dX5_digest_154 : decode cX5_digest 154 = .ok (.i2l, 1) := by decide +kernel
theorem dX5_digest_155 : decode cX5_digest 155 = .ok (.invokestatic 198, 3) := by decide +kernel
theorem dX5_digest_158 : decode cX5_digest 158 = .ok (.lstore_n 1, 1) := by decide +kernel
theorem dX5_digest_159 : decode cX5_digest 159 = .ok (.iinc 3 1, 3) := by decide +kernel
theorem dX5_digest_162 : decode cX5_digest 162 = .ok (.goto (-23), 3) := by decide +kernel
theorem dX5_digest_165 : decode cX5_digest 165 = .ok (.iconst 0, 1) := by decide +kernel
theorem dX5_digest_166 : decode cX5_digest 166 = .ok (.istore_n 3, 1) := by decide +kernel
theorem dX5_digest_167 : decode cX5_digest 167 = .ok (.iload_n 3, 1) := by decide +kernel
theorem dX5_digest_168 : decode cX5_digest 168 = .ok (.bipush 6, 2) := by decide +kernel
theorem dX5_digest_170 : decode cX5_digest 170 = .ok (.if_icmp .ge 20, 3) := by decide +kernel
theorem dX5_digest_173 : decode cX5_digest 173 = .ok (.lload_n 1, 1) := by decide +kernel
theorem dX5_digest_174 : decode cX5_digest 174 = .ok (.aload_n 0, 1) := by decide +kernel
theorem dX5_digest_175 : decode cX5_digest 175 = .ok (.iload_n 3, 1) := by decide +kernel
theorem dX5_digest_176 : decode cX5_digest 176 = .ok (.invokevirtual 205, 3) := by decide +kernel
theorem dX5_digest_179 : decode cX5_digest 179 = .ok (.i2l, 1) := by decide +kernel
theorem dX5_digest_180 : decode cX5_digest 180 = .ok (.invokestatic 198, 3) := by decide +kernel
theorem dX5_digest_183 : decode cX5_digest 183 = .ok (.lstore_n 1, 1) := by decide +kernel
theorem dX5_digest_184 : decode cX5_digest 184 = .ok (.iinc 3 1, 3) := by decide +kernel
theorem dX5_digest_187 : decode cX5_digest 187 = .ok (.goto (-20), 3) := by decide +kernel
theorem dX5_digest_190 : decode cX5_digest 190 = .ok (.lload_n 1, 1) := by decide +kernel
theorem dX5_digest_191 : decode cX5_digest 191 = .ok (.lreturn, 1) := by decide +kernel
theorem dX5_with_0 : decode cX5_with 0 = .ok (.ldc2_w 208, 3) := by decide +kernel
theorem dX5_with_3 : decode cX5_with 3 = .ok (.lload_n 0, 1) := by decide +kernel
theorem dX5_with_4 : decode cX5_with 4 = .ok (.lmul, 1) := by decide +kernel
theorem dX5_with_5 : decode cX5_with 5 = .ok (.lload_n 2, 1) := by decide +kernel
theorem dX5_with_6 : decode cX5_with 6 = .ok (.ladd, 1) := by decide +kernel
theorem dX5_with_7 : decode cX5_with 7 = .ok (.lreturn, 1) := by decide +kernel
set_option maxRecDepth 20000 in
theorem ggX5_withStorm_X5_storm : GoodIn wsX5_withStorm wsX5_storm := goodIn_r _ [5, 6, 7, 8, 9, 10, 11, 12, 13, 4, 14, 15, 16, 17, 18, 19, 20, 21, 22, 23, 24, 25, 26, 27, 28, 29, 30, 31, 48, 49, 50, 51, 52, 53, 54, 55, 56, 57, 58, 59, 60, 61, 62, 63, 64] (by decide +kernel) (by decide +kernel)
set_option maxRecDepth 20000 in
theorem gX5_withStorm_X5_storm : GoodIn wsX5_withStorm (wsV RX5 210 RX5 yX5_storm wsX5_storm) := goodIn_app (goodIn_of _ (by decide +kernel)) ggX5_withStorm_X5_storm
set_option maxRecDepth 20000 in
theorem ggX5_withStorm_X5_with : GoodIn wsX5_withStorm wsX5_with := goodIn_r _ [34, 35] (by decide +kernel) (by decide +kernel)
set_option maxRecDepth 20000 in
theorem gX5_withStorm_X5_with : GoodIn wsX5_withStorm (va_wsS RX5 198 yX5_with wsX5_with) := goodIn_app (goodIn_of _ (by decide +kernel)) ggX5_withStorm_X5_with
set_option maxRecDepth 20000 in
theorem ggX5_withStorm_X5_divided : GoodIn wsX5_withStorm wsX5_divided := goodIn_r _ [39, 6, 10, 7, 40, 41, 11, 12, 13, 4, 14, 15, 42, 43, 44, 45, 46, 47, 23, 24, 25, 19, 26, 21, 16, 17, 18, 20, 22, 48, 49, 50, 51, 52, 53, 54, 55, 56, 57, 58, 59, 60, 61, 62, 63, 64] (by decide +kernel) (by decide +kernel)
set_option maxRecDepth 20000 in
theorem gX5_withStorm_X5_divided : GoodIn wsX5_withStorm (wsV RX5 213 RX5 yX5_divided wsX5_divided) := goodIn_app (goodIn_of _ (by decide +kernel)) ggX5_withStorm_X5_divided
theorem dX5_withStorm_0 : decode cX5_withStorm 0 = .ok (.lload_n 1, 1) := by decide +kernel
theorem dX5_withStorm_1 : decode cX5_withStorm 1 = .ok (.lstore 4, 2) := by decide +kernel
theorem dX5_withStorm_3 : decode cX5_withStorm 3 = .ok (.iconst 0, 1) := by decide +kernel
theorem dX5_withStorm_4 : decode cX5_withStorm 4 = .ok (.istore 6, 2) := by decide +kernel
theorem dX5_withStorm_6 : decode cX5_withStorm 6 = .ok (.iload 6, 2) := by decide +kernel
theorem dX5_withStorm_8 : decode cX5_withStorm 8 = .ok (.iconst 3, 1) := by decide +kernel
theorem dX5_withStorm_9 : decode cX5_withStorm 9 = .ok (.if_icmp .gt 24, 3) := by decide +kernel
theorem dX5_withStorm_12 : decode cX5_withStorm 12 = .ok (.lload 4, 2) := by decide +kernel
theorem dX5_withStorm_14 : decode cX5_withStorm 14 = .ok (.aload_n 0, 1) := by decide +kernel
theorem dX5_withStorm_15 : decode cX5_withStorm 15 = .ok (.iload_n 3, 1) := by decide +kernel
theorem dX5_withStorm_16 : decode cX5_withStorm 16 = .ok (.iload 6, 2) := by decide +kernel
theorem dX5_withStorm_18 : decode cX5_withStorm 18 = .ok (.invokevirtual 210, 3) := by decide +kernel
theorem dX5_withStorm_21 : decode cX5_withStorm 21 = .ok (.i2l, 1) := by decide +kernel
theorem dX5_withStorm_22 : decode cX5_withStorm 22 = .ok (.invokestatic 198, 3) := by decide +kernel
theorem dX5_withStorm_25 : decode cX5_withStorm 25 = .ok (.lstore 4, 2) := by decide +kernel
theorem dX5_withStorm_27 : decode cX5_withStorm 27 = .ok (.iinc 6 1, 3) := by decide +kernel
theorem dX5_withStorm_30 : decode cX5_withStorm 30 = .ok (.goto (-24), 3) := by decide +kernel
theorem dX5_withStorm_33 : decode cX5_withStorm 33 = .ok (.iconst 0, 1) := by decide +kernel
theorem dX5_withStorm_34 : decode cX5_withStorm 34 = .ok (.istore 6, 2) := by decide +kernel
theorem dX5_withStorm_36 : decode cX5_withStorm 36 = .ok (.iload 6, 2) := by decide +kernel
theorem dX5_withStorm_38 : decode cX5_withStorm 38 = .ok (.iconst 3, 1) := by decide +kernel
theorem dX5_withStorm_39 : decode cX5_withStorm 39 = .ok (.if_icmp .ge 27, 3) := by decide +kernel
theorem dX5_withStorm_42 : decode cX5_withStorm 42 = .ok (.lload 4, 2) := by decide +kernel
theorem dX5_withStorm_44 : decode cX5_withStorm 44 = .ok (.aload_n 0, 1) := by decide +kernel
theorem dX5_withStorm_45 : decode cX5_withStorm 45 = .ok (.iload_n 3, 1) := by decide +kernel
theorem dX5_withStorm_46 : decode cX5_withStorm 46 = .ok (.bipush 10, 2) := by decide +kernel
theorem dX5_withStorm_48 : decode cX5_withStorm 48 = .ok (.iload 6, 2) := by decide +kernel
theorem dX5_withStorm_50 : decode cX5_withStorm 50 = .ok (.iadd, 1) := by decide +kernel
theorem dX5_withStorm_51 : decode cX5_withStorm 51 = .ok (.invokevirtual 210, 3) := by decide +kernel
theorem dX5_withStorm_54 : decode cX5_withStorm 54 = .ok (.i2l, 1) := by decide +kernel
theorem dX5_withStorm_55 : decode cX5_withStorm 55 = .ok (.invokestatic 198, 3) := by decide +kernel
theorem dX5_withStorm_58 : decode cX5_withStorm 58 = .ok (.lstore 4, 2) := by decide +kernel
theorem dX5_withStorm_60 : decode cX5_withStorm 60 = .ok (.iinc 6 1, 3) := by decide +kernel
theorem dX5_withStorm_63 : decode cX5_withStorm 63 = .ok (.goto (-27), 3) := by decide +kernel
theorem dX5_withStorm_66 : decode cX5_withStorm 66 = .ok (.iconst 0, 1) := by decide +kernel
theorem dX5_withStorm_67 : decode cX5_withStorm 67 = .ok (.istore 6, 2) := by decide +kernel
theorem dX5_withStorm_69 : decode cX5_withStorm 69 = .ok (.iload 6, 2) := by decide +kernel
theorem dX5_withStorm_71 : decode cX5_withStorm 71 = .ok (.bipush 8, 2) := by decide +kernel
theorem dX5_withStorm_73 : decode cX5_withStorm 73 = .ok (.if_icmp .ge 27, 3) := by decide +kernel
theorem dX5_withStorm_76 : decode cX5_withStorm 76 = .ok (.lload 4, 2) := by decide +kernel
theorem dX5_withStorm_78 : decode cX5_withStorm 78 = .ok (.aload_n 0, 1) := by decide +kernel
theorem dX5_withStorm_79 : decode cX5_withStorm 79 = .ok (.iload_n 3, 1) := by decide +kernel
theorem dX5_withStorm_80 : decode cX5_withStorm 80 = .ok (.bipush 20, 2) := by decide +kernel
theorem dX5_withStorm_82 : decode cX5_withStorm 82 = .ok (.iload 6, 2) := by decide +kernel
theorem dX5_withStorm_84 : decode cX5_withStorm 84 = .ok (.iadd, 1) := by decide +kernel
theorem dX5_withStorm_85 : decode cX5_withStorm 85 = .ok (.invokevirtual 210, 3) := by decide +kernel
theorem dX5_withStorm_88 : decode cX5_withStorm 88 = .ok (.i2l, 1) := by decide +kernel
theorem dX5_withStorm_89 : decode cX5_withStorm 89 = .ok (.invokestatic 198, 3) := by decide +kernel
theorem dX5_withStorm_92 : decode cX5_withStorm 92 = .ok (.lstore 4, 2) := by decide +kernel
theorem dX5_withStorm_94 : decode cX5_withStorm 94 = .ok (.iinc 6 1, 3) := by decide +kernel
theorem dX5_withStorm_97 : decode cX5_withStorm 97 = .ok (.goto (-28), 3) := by decide +kernel
theorem dX5_withStorm_100 : decode cX5_withStorm 100 = .ok (.lload 4, 2) := by decide +kernel
theorem dX5_withStorm_102 : decode cX5_withStorm 102 = .ok (.aload_n 0, 1) := by decide +kernel
theorem dX5_withStorm_103 : decode cX5_withStorm 103 = .ok (.iload_n 3, 1) := by decide +kernel
theorem dX5_withStorm_104 : decode cX5_withStorm 104 = .ok (.iconst 0, 1) := by decide +kernel
theorem dX5_withStorm_105 : decode cX5_withStorm 105 = .ok (.invokevirtual 213, 3) := by decide +kernel
theorem dX5_withStorm_108 : decode cX5_withStorm 108 = .ok (.i2l, 1) := by decide +kernel
theorem dX5_withStorm_109 : decode cX5_withStorm 109 = .ok (.invokestatic 198, 3) := by decide +kernel
theorem dX5_withStorm_112 : decode cX5_withStorm 112 = .ok (.lstore 4, 2) := by decide +kernel
end
section
theorem dX5_withStorm_114 : decode cX5_withStorm 114 = .ok (.iconst 0, 1) := by decide +kernel
theorem dX5_withStorm_115 : decode cX5_withStorm 115 = .ok (.istore 6, 2) := by decide +kernel
theorem dX5_withStorm_117 : decode cX5_withStorm 117 = .ok (.iload 6, 2) := by decide +kernel
theorem dX5_withStorm_119 : decode cX5_withStorm 119 = .ok (.bipush 8, 2) := by decide +kernel
theorem dX5_withStorm_121 : decode cX5_withStorm 121 = .ok (.if_icmp .ge 27, 3) := by decide +kernel
theorem dX5_withStorm_124 : decode cX5_withStorm 124 = .ok (.lload 4, 2) := by decide +kernel
theorem dX5_withStorm_126 : decode cX5_withStorm 126 = .ok (.aload_n 0, 1) := by decide +kernel
theorem dX5_withStorm_127 : decode cX5_withStorm 127 = .ok (.iload_n 3, 1) := by decide +kernel
theorem dX5_withStorm_128 : decode cX5_withStorm 128 = .ok (.bipush 10, 2) := by decide +kernel
theorem dX5_withStorm_130 : decode cX5_withStorm 130 = .ok (.iload 6, 2) := by decide +kernel
theorem dX5_withStorm_132 : decode cX5_withStorm 132 = .ok (.iadd, 1) := by decide +kernel
theorem dX5_withStorm_133 : decode cX5_withStorm 133 = .ok (.invokevirtual 213, 3) := by decide +kernel
theorem dX5_withStorm_136 : decode cX5_withStorm 136 = .ok (.i2l, 1) := by decide +kernel
theorem dX5_withStorm_137 : decode cX5_withStorm 137 = .ok (.invokestatic 198, 3) := by decide +kernel
theorem dX5_withStorm_140 : decode cX5_withStorm 140 = .ok (.lstore 4, 2) := by decide +kernel
theorem dX5_withStorm_142 : decode cX5_withStorm 142 = .ok (.iinc 6 1, 3) := by decide +kernel
theorem dX5_withStorm_145 : decode cX5_withStorm 145 = .ok (.goto (-28), 3) := by decide +kernel
theorem dX5_withStorm_148 : decode cX5_withStorm 148 = .ok (.lload 4, 2) := by decide +kernel
theorem dX5_withStorm_150 : decode cX5_withStorm 150 = .ok (.lreturn, 1) := by decide +kernel
set_option maxRecDepth 20000 in
theorem ggX5_withUnit_X5_unit : GoodIn wsX5_withUnit wsX5_unit := goodIn_r _ [5, 6, 7, 8, 9, 10, 11, 12, 13, 4, 14, 15, 16, 17, 18, 19, 20, 21, 22, 23, 24, 25, 26, 27, 28, 29, 30, 31, 36, 37, 38, 39, 40, 41, 42, 43, 44, 45, 46, 47, 48, 49, 50] (by decide +kernel) (by decide +kernel)
set_option maxRecDepth 20000 in
theorem gX5_withUnit_X5_unit : GoodIn wsX5_withUnit (wsV RX5 216 RX5 yX5_unit wsX5_unit) := goodIn_app (goodIn_of _ (by decide +kernel)) ggX5_withUnit_X5_unit
set_option maxRecDepth 20000 in
theorem ggX5_withUnit_X5_with : GoodIn wsX5_withUnit wsX5_with := goodIn_r _ [34, 35] (by decide +kernel) (by decide +kernel)
set_option maxRecDepth 20000 in
theorem gX5_withUnit_X5_with : GoodIn wsX5_withUnit (va_wsS RX5 198 yX5_with wsX5_with) := goodIn_app (goodIn_of _ (by decide +kernel)) ggX5_withUnit_X5_with
theorem dX5_withUnit_0 : decode cX5_withUnit 0 = .ok (.lload_n 1, 1) := by decide +kernel
theorem dX5_withUnit_1 : decode cX5_withUnit 1 = .ok (.lstore 4, 2) := by decide +kernel
theorem dX5_withUnit_3 : decode cX5_withUnit 3 = .ok (.iconst 0, 1) := by decide +kernel
theorem dX5_withUnit_4 : decode cX5_withUnit 4 = .ok (.istore 6, 2) := by decide +kernel
theorem dX5_withUnit_6 : decode cX5_withUnit 6 = .ok (.iload 6, 2) := by decide +kernel
theorem dX5_withUnit_8 : decode cX5_withUnit 8 = .ok (.iconst 2, 1) := by decide +kernel
theorem dX5_withUnit_9 : decode cX5_withUnit 9 = .ok (.if_icmp .gt 24, 3) := by decide +kernel
theorem dX5_withUnit_12 : decode cX5_withUnit 12 = .ok (.lload 4, 2) := by decide +kernel
theorem dX5_withUnit_14 : decode cX5_withUnit 14 = .ok (.aload_n 0, 1) := by decide +kernel
theorem dX5_withUnit_15 : decode cX5_withUnit 15 = .ok (.iload_n 3, 1) := by decide +kernel
theorem dX5_withUnit_16 : decode cX5_withUnit 16 = .ok (.iload 6, 2) := by decide +kernel
theorem dX5_withUnit_18 : decode cX5_withUnit 18 = .ok (.invokevirtual 216, 3) := by decide +kernel
theorem dX5_withUnit_21 : decode cX5_withUnit 21 = .ok (.i2l, 1) := by decide +kernel
theorem dX5_withUnit_22 : decode cX5_withUnit 22 = .ok (.invokestatic 198, 3) := by decide +kernel
theorem dX5_withUnit_25 : decode cX5_withUnit 25 = .ok (.lstore 4, 2) := by decide +kernel
theorem dX5_withUnit_27 : decode cX5_withUnit 27 = .ok (.iinc 6 1, 3) := by decide +kernel
theorem dX5_withUnit_30 : decode cX5_withUnit 30 = .ok (.goto (-24), 3) := by decide +kernel
theorem dX5_withUnit_33 : decode cX5_withUnit 33 = .ok (.iconst 0, 1) := by decide +kernel
theorem dX5_withUnit_34 : decode cX5_withUnit 34 = .ok (.istore 6, 2) := by decide +kernel
theorem dX5_withUnit_36 : decode cX5_withUnit 36 = .ok (.iload 6, 2) := by decide +kernel
theorem dX5_withUnit_38 : decode cX5_withUnit 38 = .ok (.bipush 8, 2) := by decide +kernel
theorem dX5_withUnit_40 : decode cX5_withUnit 40 = .ok (.if_icmp .ge 27, 3) := by decide +kernel
theorem dX5_withUnit_43 : decode cX5_withUnit 43 = .ok (.lload 4, 2) := by decide +kernel
theorem dX5_withUnit_45 : decode cX5_withUnit 45 = .ok (.aload_n 0, 1) := by decide +kernel
theorem dX5_withUnit_46 : decode cX5_withUnit 46 = .ok (.iload_n 3, 1) := by decide +kernel
theorem dX5_withUnit_47 : decode cX5_withUnit 47 = .ok (.bipush 10, 2) := by decide +kernel
theorem dX5_withUnit_49 : decode cX5_withUnit 49 = .ok (.iload 6, 2) := by decide +kernel
theorem dX5_withUnit_51 : decode cX5_withUnit 51 = .ok (.iadd, 1) := by decide +kernel
theorem dX5_withUnit_52 : decode cX5_withUnit 52 = .ok (.invokevirtual 216, 3) := by decide +kernel
theorem dX5_withUnit_55 : decode cX5_withUnit 55 = .ok (.i2l, 1) := by decide +kernel
theorem dX5_withUnit_56 : decode cX5_withUnit 56 = .ok (.invokestatic 198, 3) := by decide +kernel
theorem dX5_withUnit_59 : decode cX5_withUnit 59 = .ok (.lstore 4, 2) := by decide +kernel
theorem dX5_withUnit_61 : decode cX5_withUnit 61 = .ok (.iinc 6 1, 3) := by decide +kernel
theorem dX5_withUnit_64 : decode cX5_withUnit 64 = .ok (.goto (-28), 3) := by decide +kernel
theorem dX5_withUnit_67 : decode cX5_withUnit 67 = .ok (.lload 4, 2) := by decide +kernel
theorem dX5_withUnit_69 : decode cX5_withUnit 69 = .ok (.lreturn, 1) := by decide +kernel
set_option maxRecDepth 20000 in
theorem ggX5_withFit_X0_partAbove : GoodIn wsX5_withFit wsX0_partAbove := goodIn_r _ [6, 7, 49, 50, 51, 52, 53, 54, 55, 56] (by decide +kernel) (by decide +kernel)
set_option maxRecDepth 20000 in
theorem gX5_withFit_X0_partAbove : GoodIn wsX5_withFit (wsV RX5 152 RX0 yX0_partAbove wsX0_partAbove) := goodIn_app (goodIn_of _ (by decide +kernel)) ggX5_withFit_X0_partAbove
set_option maxRecDepth 20000 in
theorem ggX5_withFit_X0_below : GoodIn wsX5_withFit wsX0_below := goodIn_r _ [11, 12, 49, 50, 51, 52, 53, 54, 55, 56] (by decide +kernel) (by decide +kernel)
set_option maxRecDepth 20000 in
theorem gX5_withFit_X0_below : GoodIn wsX5_withFit (wsV RX5 156 RX0 yX0_below wsX0_below) := goodIn_app (goodIn_of _ (by decide +kernel)) ggX5_withFit_X0_below
set_option maxRecDepth 20000 in
theorem ggX5_withFit_X5_withFraction : GoodIn wsX5_withFit wsX5_withFraction := goodIn_r _ [16, 17, 18, 15, 19, 20, 21, 22, 23, 24, 25, 26, 27, 28, 29, 30] (by decide +kernel) (by decide +kernel)
set_option maxRecDepth 20000 in
theorem gX5_withFit_X5_withFraction : GoodIn wsX5_withFit (va_wsS RX5 219 yX5_withFraction wsX5_withFraction) := goodIn_app (goodIn_of _ (by decide +kernel)) ggX5_withFit_X5_withFraction
set_option maxRecDepth 20000 in
theorem ggX5_withFit_X0_lossAbove : GoodIn wsX5_withFit wsX0_lossAbove := goodIn_r _ [34, 35, 12, 36, 37, 7, 49, 50, 51, 52, 53, 54, 55, 56] (by decide +kernel) (by decide +kernel)
set_option maxRecDepth 20000 in
theorem gX5_withFit_X0_lossAbove : GoodIn wsX5_withFit (wsV RX5 160 RX0 yX0_lossAbove wsX0_lossAbove) := goodIn_app (goodIn_of _ (by decide +kernel)) ggX5_withFit_X0_lossAbove
theorem dX5_withFit_0 : decode cX5_withFit 0 = .ok (.lload_n 1, 1) := by decide +kernel
theorem dX5_withFit_1 : decode cX5_withFit 1 = .ok (.lstore 4, 2) := by decide +kernel
theorem dX5_withFit_3 : decode cX5_withFit 3 = .ok (.iconst 0, 1) := by decide +kernel
theorem dX5_withFit_4 : decode cX5_withFit 4 = .ok (.istore 6, 2) := by decide +kernel
theorem dX5_withFit_6 : decode cX5_withFit 6 = .ok (.iload 6, 2) := by decide +kernel
theorem dX5_withFit_8 : decode cX5_withFit 8 = .ok (.iload_n 3, 1) := by decide +kernel
theorem dX5_withFit_9 : decode cX5_withFit 9 = .ok (.if_icmp .ge 32, 3) := by decide +kernel
theorem dX5_withFit_12 : decode cX5_withFit 12 = .ok (.lload 4, 2) := by decide +kernel
theorem dX5_withFit_14 : decode cX5_withFit 14 = .ok (.aload_n 0, 1) := by decide +kernel
theorem dX5_withFit_15 : decode cX5_withFit 15 = .ok (.getfield 35, 3) := by decide +kernel
theorem dX5_withFit_18 : decode cX5_withFit 18 = .ok (.iload 6, 2) := by decide +kernel
theorem dX5_withFit_20 : decode cX5_withFit 20 = .ok (.invokevirtual 152, 3) := by decide +kernel
theorem dX5_withFit_23 : decode cX5_withFit 23 = .ok (.aload_n 0, 1) := by decide +kernel
theorem dX5_withFit_24 : decode cX5_withFit 24 = .ok (.getfield 35, 3) := by decide +kernel
theorem dX5_withFit_27 : decode cX5_withFit 27 = .ok (.invokevirtual 156, 3) := by decide +kernel
theorem dX5_withFit_30 : decode cX5_withFit 30 = .ok (.invokestatic 219, 3) := by decide +kernel
theorem dX5_withFit_33 : decode cX5_withFit 33 = .ok (.lstore 4, 2) := by decide +kernel
theorem dX5_withFit_35 : decode cX5_withFit 35 = .ok (.iinc 6 1, 3) := by decide +kernel
theorem dX5_withFit_38 : decode cX5_withFit 38 = .ok (.goto (-32), 3) := by decide +kernel
theorem dX5_withFit_41 : decode cX5_withFit 41 = .ok (.lload 4, 2) := by decide +kernel
theorem dX5_withFit_43 : decode cX5_withFit 43 = .ok (.aload_n 0, 1) := by decide +kernel
theorem dX5_withFit_44 : decode cX5_withFit 44 = .ok (.getfield 35, 3) := by decide +kernel
theorem dX5_withFit_47 : decode cX5_withFit 47 = .ok (.invokevirtual 160, 3) := by decide +kernel
theorem dX5_withFit_50 : decode cX5_withFit 50 = .ok (.aload_n 0, 1) := by decide +kernel
theorem dX5_withFit_51 : decode cX5_withFit 51 = .ok (.getfield 35, 3) := by decide +kernel
theorem dX5_withFit_54 : decode cX5_withFit 54 = .ok (.invokevirtual 156, 3) := by decide +kernel
theorem dX5_withFit_57 : decode cX5_withFit 57 = .ok (.invokestatic 219, 3) := by decide +kernel
theorem dX5_withFit_60 : decode cX5_withFit 60 = .ok (.lreturn, 1) := by decide +kernel
set_option maxRecDepth 20000 in
theorem ggX5_withFraction_X5_inLowestTerms : GoodIn wsX5_withFraction wsX5_inLowestTerms := goodIn_r _ [4, 5, 6, 3, 7, 8, 9, 10, 11] (by decide +kernel) (by decide +kernel)
set_option maxRecDepth 20000 in
theorem gX5_withFraction_X5_inLowestTerms : GoodIn wsX5_withFraction (va_wsS RX5 135 yX5_inLowestTerms wsX5_inLowestTerms) := goodIn_app (goodIn_of _ (by decide +kernel)) ggX5_withFraction_X5_inLowestTerms
set_option maxRecDepth 20000 in
theorem ggX5_withFraction_X5_with : GoodIn wsX5_withFraction wsX5_with := goodIn_r _ [14, 15] (by decide +kernel) (by decide +kernel)
set_option maxRecDepth 20000 in
theorem gX5_withFraction_X5_with : GoodIn wsX5_withFraction (va_wsS RX5 198 yX5_with wsX5_with) := goodIn_app (goodIn_of _ (by decide +kernel)) ggX5_withFraction_X5_with
theorem dX5_withFraction_0 : decode cX5_withFraction 0 = .ok (.lload_n 0, 1) := by decide +kernel
theorem dX5_withFraction_1 : decode cX5_withFraction 1 = .ok (.lload_n 2, 1) := by decide +kernel
theorem dX5_withFraction_2 : decode cX5_withFraction 2 = .ok (.lload 4, 2) := by decide +kernel
theorem dX5_withFraction_4 : decode cX5_withFraction 4 = .ok (.iconst 0, 1) := by decide +kernel
theorem dX5_withFraction_5 : decode cX5_withFraction 5 = .ok (.invokestatic 135, 3) := by decide +kernel
theorem dX5_withFraction_8 : decode cX5_withFraction 8 = .ok (.invokestatic 198, 3) := by decide +kernel
theorem dX5_withFraction_11 : decode cX5_withFraction 11 = .ok (.lstore 6, 2) := by decide +kernel
theorem dX5_withFraction_13 : decode cX5_withFraction 13 = .ok (.lload 6, 2) := by decide +kernel
theorem dX5_withFraction_15 : decode cX5_withFraction 15 = .ok (.lload_n 2, 1) := by decide +kernel
theorem dX5_withFraction_16 : decode cX5_withFraction 16 = .ok (.lload 4, 2) := by decide +kernel
theorem dX5_withFraction_18 : decode cX5_withFraction 18 = .ok (.iconst 1, 1) := by decide +kernel
theorem dX5_withFraction_19 : decode cX5_withFraction 19 = .ok (.invokestatic 135, 3) := by decide +kernel
theorem dX5_withFraction_22 : decode cX5_withFraction 22 = .ok (.invokestatic 198, 3) := by decide +kernel
theorem dX5_withFraction_25 : decode cX5_withFraction 25 = .ok (.lreturn, 1) := by decide +kernel
set_option maxRecDepth 20000 in
theorem ggX5_takeStorm_X3_become : GoodIn wsX5_takeStorm wsX3_become := goodIn_r _ [11, 12, 13, 14, 15, 16, 17, 18, 19, 20, 21, 22, 23, 24, 25, 26, 27, 10, 28, 29, 30, 31, 32, 33, 34, 35, 36, 37, 38, 39, 40, 41, 42, 43, 44, 45, 46, 47, 65, 66, 67, 68, 69, 70] (by decide +kernel) (by decide +kernel)
set_option maxRecDepth 20000 in
theorem gX5_takeStorm_X3_become : GoodIn wsX5_takeStorm (wsV RX5 227 RX3 yX3_become wsX3_become) := goodIn_app (goodIn_of _ (by decide +kernel)) ggX5_takeStorm_X3_become
theorem dX5_takeStorm_0 : decode cX5_takeStorm 0 = .ok (.aload_n 0, 1) := by decide +kernel
theorem dX5_takeStorm_1 : decode cX5_takeStorm 1 = .ok (.getfield 179, 3) := by decide +kernel
theorem dX5_takeStorm_4 : decode cX5_takeStorm 4 = .ok (.iconst 3, 1) := by decide +kernel
theorem dX5_takeStorm_5 : decode cX5_takeStorm 5 = .ok (.if_icmp .lt 6, 3) := by decide +kernel
theorem dX5_takeStorm_8 : decode cX5_takeStorm 8 = .ok (.ldc 46, 2) := by decide +kernel
theorem dX5_takeStorm_10 : decode cX5_takeStorm 10 = .ok (.ireturn, 1) := by decide +kernel
theorem dX5_takeStorm_11 : decode cX5_takeStorm 11 = .ok (.aload_n 0, 1) := by decide +kernel
theorem dX5_takeStorm_12 : decode cX5_takeStorm 12 = .ok (.getfield 15, 3) := by decide +kernel
theorem dX5_takeStorm_15 : decode cX5_takeStorm 15 = .ok (.aload_n 0, 1) := by decide +kernel
theorem dX5_takeStorm_16 : decode cX5_takeStorm 16 = .ok (.getfield 179, 3) := by decide +kernel
theorem dX5_takeStorm_19 : decode cX5_takeStorm 19 = .ok (.aaload, 1) := by decide +kernel
theorem dX5_takeStorm_20 : decode cX5_takeStorm 20 = .ok (.aload_n 0, 1) := by decide +kernel
theorem dX5_takeStorm_21 : decode cX5_takeStorm 21 = .ok (.getfield 28, 3) := by decide +kernel
theorem dX5_takeStorm_24 : decode cX5_takeStorm 24 = .ok (.getfield 223, 3) := by decide +kernel
theorem dX5_takeStorm_27 : decode cX5_takeStorm 27 = .ok (.aload_n 0, 1) := by decide +kernel
theorem dX5_takeStorm_28 : decode cX5_takeStorm 28 = .ok (.getfield 28, 3) := by decide +kernel
theorem dX5_takeStorm_31 : decode cX5_takeStorm 31 = .ok (.getfield 224, 3) := by decide +kernel
theorem dX5_takeStorm_34 : decode cX5_takeStorm 34 = .ok (.invokevirtual 227, 3) := by decide +kernel
theorem dX5_takeStorm_37 : decode cX5_takeStorm 37 = .ok (.aload_n 0, 1) := by decide +kernel
theorem dX5_takeStorm_38 : decode cX5_takeStorm 38 = .ok (.dup, 1) := by decide +kernel
theorem dX5_takeStorm_39 : decode cX5_takeStorm 39 = .ok (.getfield 179, 3) := by decide +kernel
theorem dX5_takeStorm_42 : decode cX5_takeStorm 42 = .ok (.iconst 1, 1) := by decide +kernel
theorem dX5_takeStorm_43 : decode cX5_takeStorm 43 = .ok (.iadd, 1) := by decide +kernel
theorem dX5_takeStorm_44 : decode cX5_takeStorm 44 = .ok (.putfield 179, 3) := by decide +kernel
theorem dX5_takeStorm_47 : decode cX5_takeStorm 47 = .ok (.aload_n 0, 1) := by decide +kernel
theorem dX5_takeStorm_48 : decode cX5_takeStorm 48 = .ok (.getfield 179, 3) := by decide +kernel
theorem dX5_takeStorm_51 : decode cX5_takeStorm 51 = .ok (.iconst 1, 1) := by decide +kernel
theorem dX5_takeStorm_52 : decode cX5_takeStorm 52 = .ok (.isub, 1) := by decide +kernel
theorem dX5_takeStorm_53 : decode cX5_takeStorm 53 = .ok (.ireturn, 1) := by decide +kernel
set_option maxRecDepth 20000 in
theorem ggX5_takeUnit_X1_lengthOfUnit : GoodIn wsX5_takeUnit wsX1_lengthOfUnit := goodIn_r _ [12, 13, 38, 39, 40, 41, 42, 43] (by decide +kernel) (by decide +kernel)
set_option maxRecDepth 20000 in
theorem gX5_takeUnit_X1_lengthOfUnit : GoodIn wsX5_takeUnit (wsV RX5 231 RX1 yX1_lengthOfUnit wsX1_lengthOfUnit) := goodIn_app (goodIn_of _ (by decide +kernel)) ggX5_takeUnit_X1_lengthOfUnit
set_option maxRecDepth 20000 in
theorem ggX5_takeUnit_X2_become : GoodIn wsX5_takeUnit wsX2_become := goodIn_r _ [18, 19, 20, 21, 22, 23, 17, 24, 44, 45] (by decide +kernel) (by decide +kernel)
set_option maxRecDepth 20000 in
theorem gX5_takeUnit_X2_become : GoodIn wsX5_takeUnit (wsV RX5 234 RX2 yX2_become wsX2_become) := goodIn_app (goodIn_of _ (by decide +kernel)) ggX5_takeUnit_X2_become
theorem dX5_takeUnit_0 : decode cX5_takeUnit 0 = .ok (.aload_n 0, 1) := by decide +kernel
theorem dX5_takeUnit_1 : decode cX5_takeUnit 1 = .ok (.getfield 169, 3) := by decide +kernel
theorem dX5_takeUnit_4 : decode cX5_takeUnit 4 = .ok (.iconst 4, 1) := by decide +kernel
theorem dX5_takeUnit_5 : decode cX5_takeUnit 5 = .ok (.if_icmp .lt 6, 3) := by decide +kernel
theorem dX5_takeUnit_8 : decode cX5_takeUnit 8 = .ok (.ldc 46, 2) := by decide +kernel
theorem dX5_takeUnit_10 : decode cX5_takeUnit 10 = .ok (.ireturn, 1) := by decide +kernel
theorem dX5_takeUnit_11 : decode cX5_takeUnit 11 = .ok (.aload_n 0, 1) := by decide +kernel
theorem dX5_takeUnit_12 : decode cX5_takeUnit 12 = .ok (.getfield 21, 3) := by decide +kernel
theorem dX5_takeUnit_15 : decode cX5_takeUnit 15 = .ok (.aload_n 0, 1) := by decide +kernel
theorem dX5_takeUnit_16 : decode cX5_takeUnit 16 = .ok (.getfield 169, 3) := by decide +kernel
theorem dX5_takeUnit_19 : decode cX5_takeUnit 19 = .ok (.aaload, 1) := by decide +kernel
theorem dX5_takeUnit_20 : decode cX5_takeUnit 20 = .ok (.astore_n 1, 1) := by decide +kernel
theorem dX5_takeUnit_21 : decode cX5_takeUnit 21 = .ok (.aload_n 1, 1) := by decide +kernel
theorem dX5_takeUnit_22 : decode cX5_takeUnit 22 = .ok (.aload_n 0, 1) := by decide +kernel
theorem dX5_takeUnit_23 : decode cX5_takeUnit 23 = .ok (.getfield 28, 3) := by decide +kernel
theorem dX5_takeUnit_26 : decode cX5_takeUnit 26 = .ok (.invokevirtual 231, 3) := by decide +kernel
theorem dX5_takeUnit_29 : decode cX5_takeUnit 29 = .ok (.putfield 112, 3) := by decide +kernel
theorem dX5_takeUnit_32 : decode cX5_takeUnit 32 = .ok (.aload_n 1, 1) := by decide +kernel
theorem dX5_takeUnit_33 : decode cX5_takeUnit 33 = .ok (.getfield 109, 3) := by decide +kernel
theorem dX5_takeUnit_36 : decode cX5_takeUnit 36 = .ok (.aload_n 0, 1) := by decide +kernel
theorem dX5_takeUnit_37 : decode cX5_takeUnit 37 = .ok (.getfield 28, 3) := by decide +kernel
theorem dX5_takeUnit_40 : decode cX5_takeUnit 40 = .ok (.getfield 224, 3) := by decide +kernel
theorem dX5_takeUnit_43 : decode cX5_takeUnit 43 = .ok (.invokevirtual 234, 3) := by decide +kernel
theorem dX5_takeUnit_46 : decode cX5_takeUnit 46 = .ok (.aload_n 0, 1) := by decide +kernel
theorem dX5_takeUnit_47 : decode cX5_takeUnit 47 = .ok (.dup, 1) := by decide +kernel
theorem dX5_takeUnit_48 : decode cX5_takeUnit 48 = .ok (.getfield 169, 3) := by decide +kernel
theorem dX5_takeUnit_51 : decode cX5_takeUnit 51 = .ok (.iconst 1, 1) := by decide +kernel
theorem dX5_takeUnit_52 : decode cX5_takeUnit 52 = .ok (.iadd, 1) := by decide +kernel
theorem dX5_takeUnit_53 : decode cX5_takeUnit 53 = .ok (.putfield 169, 3) := by decide +kernel
theorem dX5_takeUnit_56 : decode cX5_takeUnit 56 = .ok (.aload_n 0, 1) := by decide +kernel
theorem dX5_takeUnit_57 : decode cX5_takeUnit 57 = .ok (.getfield 169, 3) := by decide +kernel
theorem dX5_takeUnit_60 : decode cX5_takeUnit 60 = .ok (.iconst 1, 1) := by decide +kernel
theorem dX5_takeUnit_61 : decode cX5_takeUnit 61 = .ok (.isub, 1) := by decide +kernel
theorem dX5_takeUnit_62 : decode cX5_takeUnit 62 = .ok (.ireturn, 1) := by decide +kernel
set_option maxRecDepth 20000 in
theorem ggX5_dropStorm_X5_hasStorm : GoodIn wsX5_dropStorm wsX5_hasStorm := goodIn_r _ [9, 3, 10, 11, 12, 13, 14, 15, 16, 17, 18, 19, 20] (by decide +kernel) (by decide +kernel)
set_option maxRecDepth 20000 in
theorem gX5_dropStorm_X5_hasStorm : GoodIn wsX5_dropStorm (wsV RX5 76 RX5 yX5_hasStorm wsX5_hasStorm) := goodIn_app (goodIn_of _ (by decide +kernel)) ggX5_dropStorm_X5_hasStorm
theorem dX5_dropStorm_0 : decode cX5_dropStorm 0 = .ok (.aload_n 0, 1) := by decide +kernel
theorem dX5_dropStorm_1 : decode cX5_dropStorm 1 = .ok (.iload_n 1, 1) := by decide +kernel
theorem dX5_dropStorm_2 : decode cX5_dropStorm 2 = .ok (.invokevirtual 76, 3) := by decide +kernel
theorem dX5_dropStorm_5 : decode cX5_dropStorm 5 = .ok (.ifCond .ne 6, 3) := by decide +kernel
theorem dX5_dropStorm_8 : decode cX5_dropStorm 8 = .ok (.ldc 80, 2) := by decide +kernel
theorem dX5_dropStorm_10 : decode cX5_dropStorm 10 = .ok (.ireturn, 1) := by decide +kernel
theorem dX5_dropStorm_11 : decode cX5_dropStorm 11 = .ok (.aload_n 0, 1) := by decide +kernel
theorem dX5_dropStorm_12 : decode cX5_dropStorm 12 = .ok (.getfield 15, 3) := by decide +kernel
theorem dX5_dropStorm_15 : decode cX5_dropStorm 15 = .ok (.iload_n 1, 1) := by decide +kernel
theorem dX5_dropStorm_16 : decode cX5_dropStorm 16 = .ok (.aaload, 1) := by decide +kernel
theorem dX5_dropStorm_17 : decode cX5_dropStorm 17 = .ok (.astore_n 2, 1) := by decide +kernel
theorem dX5_dropStorm_18 : decode cX5_dropStorm 18 = .ok (.iload_n 1, 1) := by decide +kernel
theorem dX5_dropStorm_19 : decode cX5_dropStorm 19 = .ok (.istore_n 3, 1) := by decide +kernel
theorem dX5_dropStorm_20 : decode cX5_dropStorm 20 = .ok (.iload_n 3, 1) := by decide +kernel
theorem dX5_dropStorm_21 : decode cX5_dropStorm 21 = .ok (.aload_n 0, 1) := by decide +kernel
theorem dX5_dropStorm_22 : decode cX5_dropStorm 22 = .ok (.getfield 179, 3) := by decide +kernel
theorem dX5_dropStorm_25 : decode cX5_dropStorm 25 = .ok (.iconst 1, 1) := by decide +kernel
theorem dX5_dropStorm_26 : decode cX5_dropStorm 26 = .ok (.isub, 1) := by decide +kernel
theorem dX5_dropStorm_27 : decode cX5_dropStorm 27 = .ok (.if_icmp .ge 23, 3) := by decide +kernel
theorem dX5_dropStorm_30 : decode cX5_dropStorm 30 = .ok (.aload_n 0, 1) := by decide +kernel
theorem dX5_dropStorm_31 : decode cX5_dropStorm 31 = .ok (.getfield 15, 3) := by decide +kernel
theorem dX5_dropStorm_34 : decode cX5_dropStorm 34 = .ok (.iload_n 3, 1) := by decide +kernel
theorem dX5_dropStorm_35 : decode cX5_dropStorm 35 = .ok (.aload_n 0, 1) := by decide +kernel
theorem dX5_dropStorm_36 : decode cX5_dropStorm 36 = .ok (.getfield 15, 3) := by decide +kernel
theorem dX5_dropStorm_39 : decode cX5_dropStorm 39 = .ok (.iload_n 3, 1) := by decide +kernel
theorem dX5_dropStorm_40 : decode cX5_dropStorm 40 = .ok (.iconst 1, 1) := by decide +kernel
theorem dX5_dropStorm_41 : decode cX5_dropStorm 41 = .ok (.iadd, 1) := by decide +kernel
theorem dX5_dropStorm_42 : decode cX5_dropStorm 42 = .ok (.aaload, 1) := by decide +kernel
theorem dX5_dropStorm_43 : decode cX5_dropStorm 43 = .ok (.aastore, 1) := by decide +kernel
theorem dX5_dropStorm_44 : decode cX5_dropStorm 44 = .ok (.iinc 3 1, 3) := by decide +kernel
theorem dX5_dropStorm_47 : decode cX5_dropStorm 47 = .ok (.goto (-27), 3) := by decide +kernel
theorem dX5_dropStorm_50 : decode cX5_dropStorm 50 = .ok (.aload_n 0, 1) := by decide +kernel
theorem dX5_dropStorm_51 : decode cX5_dropStorm 51 = .ok (.dup, 1) := by decide +kernel
theorem dX5_dropStorm_52 : decode cX5_dropStorm 52 = .ok (.getfield 179, 3) := by decide +kernel
theorem dX5_dropStorm_55 : decode cX5_dropStorm 55 = .ok (.iconst 1, 1) := by decide +kernel
theorem dX5_dropStorm_56 : decode cX5_dropStorm 56 = .ok (.isub, 1) := by decide +kernel
theorem dX5_dropStorm_57 : decode cX5_dropStorm 57 = .ok (.putfield 179, 3) := by decide +kernel
theorem dX5_dropStorm_60 : decode cX5_dropStorm 60 = .ok (.aload_n 0, 1) := by decide +kernel
theorem dX5_dropStorm_61 : decode cX5_dropStorm 61 = .ok (.getfield 15, 3) := by decide +kernel
theorem dX5_dropStorm_64 : decode cX5_dropStorm 64 = .ok (.aload_n 0, 1) := by decide +kernel
theorem dX5_dropStorm_65 : decode cX5_dropStorm 65 = .ok (.getfield 179, 3) := by decide +kernel
theorem dX5_dropStorm_68 : decode cX5_dropStorm 68 = .ok (.aload_n 2, 1) := by decide +kernel
theorem dX5_dropStorm_69 : decode cX5_dropStorm 69 = .ok (.aastore, 1) := by decide +kernel
theorem dX5_dropStorm_70 : decode cX5_dropStorm 70 = .ok (.aload_n 0, 1) := by decide +kernel
theorem dX5_dropStorm_71 : decode cX5_dropStorm 71 = .ok (.dup, 1) := by decide +kernel
theorem dX5_dropStorm_72 : decode cX5_dropStorm 72 = .ok (.getfield 182, 3) := by decide +kernel
theorem dX5_dropStorm_75 : decode cX5_dropStorm 75 = .ok (.iconst 1, 1) := by decide +kernel
theorem dX5_dropStorm_76 : decode cX5_dropStorm 76 = .ok (.iadd, 1) := by decide +kernel
theorem dX5_dropStorm_77 : decode cX5_dropStorm 77 = .ok (.putfield 182, 3) := by decide +kernel
theorem dX5_dropStorm_80 : decode cX5_dropStorm 80 = .ok (.aload_n 0, 1) := by decide +kernel
theorem dX5_dropStorm_81 : decode cX5_dropStorm 81 = .ok (.getfield 179, 3) := by decide +kernel
theorem dX5_dropStorm_84 : decode cX5_dropStorm 84 = .ok (.ireturn, 1) := by decide +kernel
set_option maxRecDepth 20000 in
theorem ggX5_dropUnit_X5_hasUnit : GoodIn wsX5_dropUnit wsX5_hasUnit := goodIn_r _ [9, 3, 10, 11, 12, 13, 14, 15, 16, 17, 18, 19, 20] (by decide +kernel) (by decide +kernel)
set_option maxRecDepth 20000 in
theorem gX5_dropUnit_X5_hasUnit : GoodIn wsX5_dropUnit (wsV RX5 106 RX5 yX5_hasUnit wsX5_hasUnit) := goodIn_app (goodIn_of _ (by decide +kernel)) ggX5_dropUnit_X5_hasUnit
theorem dX5_dropUnit_0 : decode cX5_dropUnit 0 = .ok (.aload_n 0, 1) := by decide +kernel
theorem dX5_dropUnit_1 : decode cX5_dropUnit 1 = .ok (.iload_n 1, 1) := by decide +kernel
theorem dX5_dropUnit_2 : decode cX5_dropUnit 2 = .ok (.invokevirtual 106, 3) := by decide +kernel
theorem dX5_dropUnit_5 : decode cX5_dropUnit 5 = .ok (.ifCond .ne 6, 3) := by decide +kernel
theorem dX5_dropUnit_8 : decode cX5_dropUnit 8 = .ok (.ldc 80, 2) := by decide +kernel
theorem dX5_dropUnit_10 : decode cX5_dropUnit 10 = .ok (.ireturn, 1) := by decide +kernel
theorem dX5_dropUnit_11 : decode cX5_dropUnit 11 = .ok (.aload_n 0, 1) := by decide +kernel
theorem dX5_dropUnit_12 : decode cX5_dropUnit 12 = .ok (.getfield 21, 3) := by decide +kernel
theorem dX5_dropUnit_15 : decode cX5_dropUnit 15 = .ok (.iload_n 1, 1) := by decide +kernel
theorem dX5_dropUnit_16 : decode cX5_dropUnit 16 = .ok (.aaload, 1) := by decide +kernel
theorem dX5_dropUnit_17 : decode cX5_dropUnit 17 = .ok (.astore_n 2, 1) := by decide +kernel
theorem dX5_dropUnit_18 : decode cX5_dropUnit 18 = .ok (.iload_n 1, 1) := by decide +kernel
theorem dX5_dropUnit_19 : decode cX5_dropUnit 19 = .ok (.istore_n 3, 1) := by decide +kernel
theorem dX5_dropUnit_20 : decode cX5_dropUnit 20 = .ok (.iload_n 3, 1) := by decide +kernel
theorem dX5_dropUnit_21 : decode cX5_dropUnit 21 = .ok (.aload_n 0, 1) := by decide +kernel
theorem dX5_dropUnit_22 : decode cX5_dropUnit 22 = .ok (.getfield 169, 3) := by decide +kernel
theorem dX5_dropUnit_25 : decode cX5_dropUnit 25 = .ok (.iconst 1, 1) := by decide +kernel
theorem dX5_dropUnit_26 : decode cX5_dropUnit 26 = .ok (.isub, 1) := by decide +kernel
theorem dX5_dropUnit_27 : decode cX5_dropUnit 27 = .ok (.if_icmp .ge 23, 3) := by decide +kernel
theorem dX5_dropUnit_30 : decode cX5_dropUnit 30 = .ok (.aload_n 0, 1) := by decide +kernel
theorem dX5_dropUnit_31 : decode cX5_dropUnit 31 = .ok (.getfield 21, 3) := by decide +kernel
theorem dX5_dropUnit_34 : decode cX5_dropUnit 34 = .ok (.iload_n 3, 1) := by decide +kernel
theorem dX5_dropUnit_35 : decode cX5_dropUnit 35 = .ok (.aload_n 0, 1) := by decide +kernel
theorem dX5_dropUnit_36 : decode cX5_dropUnit 36 = .ok (.getfield 21, 3) := by decide +kernel
theorem dX5_dropUnit_39 : decode cX5_dropUnit 39 = .ok (.iload_n 3, 1) := by decide +kernel
theorem dX5_dropUnit_40 : decode cX5_dropUnit 40 = .ok (.iconst 1, 1) := by decide +kernel
theorem dX5_dropUnit_41 : decode cX5_dropUnit 41 = .ok (.iadd, 1) := by decide +kernel
theorem dX5_dropUnit_42 : decode cX5_dropUnit 42 = .ok (.aaload, 1) := by decide +kernel
theorem dX5_dropUnit_43 : decode cX5_dropUnit 43 = .ok (.aastore, 1) := by decide +kernel
theorem dX5_dropUnit_44 : decode cX5_dropUnit 44 = .ok (.iinc 3 1, 3) := by decide +kernel
theorem dX5_dropUnit_47 : decode cX5_dropUnit 47 = .ok (.goto (-27), 3) := by decide +kernel
theorem dX5_dropUnit_50 : decode cX5_dropUnit 50 = .ok (.aload_n 0, 1) := by decide +kernel
theorem dX5_dropUnit_51 : decode cX5_dropUnit 51 = .ok (.dup, 1) := by decide +kernel
theorem dX5_dropUnit_52 : decode cX5_dropUnit 52 = .ok (.getfield 169, 3) := by decide +kernel
theorem dX5_dropUnit_55 : decode cX5_dropUnit 55 = .ok (.iconst 1, 1) := by decide +kernel
theorem dX5_dropUnit_56 : decode cX5_dropUnit 56 = .ok (.isub, 1) := by decide +kernel
theorem dX5_dropUnit_57 : decode cX5_dropUnit 57 = .ok (.putfield 169, 3) := by decide +kernel
theorem dX5_dropUnit_60 : decode cX5_dropUnit 60 = .ok (.aload_n 0, 1) := by decide +kernel
theorem dX5_dropUnit_61 : decode cX5_dropUnit 61 = .ok (.getfield 21, 3) := by decide +kernel
theorem dX5_dropUnit_64 : decode cX5_dropUnit 64 = .ok (.aload_n 0, 1) := by decide +kernel
theorem dX5_dropUnit_65 : decode cX5_dropUnit 65 = .ok (.getfield 169, 3) := by decide +kernel
theorem dX5_dropUnit_68 : decode cX5_dropUnit 68 = .ok (.aload_n 2, 1) := by decide +kernel
theorem dX5_dropUnit_69 : decode cX5_dropUnit 69 = .ok (.aastore, 1) := by decide +kernel
theorem dX5_dropUnit_70 : decode cX5_dropUnit 70 = .ok (.aload_n 0, 1) := by decide +kernel
theorem dX5_dropUnit_71 : decode cX5_dropUnit 71 = .ok (.dup, 1) := by decide +kernel
theorem dX5_dropUnit_72 : decode cX5_dropUnit 72 = .ok (.getfield 182, 3) := by decide +kernel
theorem dX5_dropUnit_75 : decode cX5_dropUnit 75 = .ok (.iconst 1, 1) := by decide +kernel
theorem dX5_dropUnit_76 : decode cX5_dropUnit 76 = .ok (.iadd, 1) := by decide +kernel
theorem dX5_dropUnit_77 : decode cX5_dropUnit 77 = .ok (.putfield 182, 3) := by decide +kernel
theorem dX5_dropUnit_80 : decode cX5_dropUnit 80 = .ok (.aload_n 0, 1) := by decide +kernel
theorem dX5_dropUnit_81 : decode cX5_dropUnit 81 = .ok (.getfield 169, 3) := by decide +kernel
theorem dX5_dropUnit_84 : decode cX5_dropUnit 84 = .ok (.ireturn, 1) := by decide +kernel
theorem dX5_hasStorm_0 : decode cX5_hasStorm 0 = .ok (.iload_n 1, 1) := by decide +kernel
theorem dX5_hasStorm_1 : decode cX5_hasStorm 1 = .ok (.ifCond .lt 15, 3) := by decide +kernel
theorem dX5_hasStorm_4 : decode cX5_hasStorm 4 = .ok (.iload_n 1, 1) := by decide +kernel
theorem dX5_hasStorm_5 : decode cX5_hasStorm 5 = .ok (.aload_n 0, 1) := by decide +kernel
theorem dX5_hasStorm_6 : decode cX5_hasStorm 6 = .ok (.getfield 179, 3) := by decide +kernel
theorem dX5_hasStorm_9 : decode cX5_hasStorm 9 = .ok (.if_icmp .ge 7, 3) := by decide +kernel
theorem dX5_hasStorm_12 : decode cX5_hasStorm 12 = .ok (.iconst 1, 1) := by decide +kernel
theorem dX5_hasStorm_13 : decode cX5_hasStorm 13 = .ok (.goto 4, 3) := by decide +kernel
theorem dX5_hasStorm_16 : decode cX5_hasStorm 16 = .ok (.iconst 0, 1) := by decide +kernel
theorem dX5_hasStorm_17 : decode cX5_hasStorm 17 = .ok (.ireturn, 1) := by decide +kernel
theorem dX5_hasUnit_0 : decode cX5_hasUnit 0 = .ok (.iload_n 1, 1) := by decide +kernel
theorem dX5_hasUnit_1 : decode cX5_hasUnit 1 = .ok (.ifCond .lt 15, 3) := by decide +kernel
theorem dX5_hasUnit_4 : decode cX5_hasUnit 4 = .ok (.iload_n 1, 1) := by decide +kernel
theorem dX5_hasUnit_5 : decode cX5_hasUnit 5 = .ok (.aload_n 0, 1) := by decide +kernel
theorem dX5_hasUnit_6 : decode cX5_hasUnit 6 = .ok (.getfield 169, 3) := by decide +kernel
theorem dX5_hasUnit_9 : decode cX5_hasUnit 9 = .ok (.if_icmp .ge 7, 3) := by decide +kernel
theorem dX5_hasUnit_12 : decode cX5_hasUnit 12 = .ok (.iconst 1, 1) := by decide +kernel
theorem dX5_hasUnit_13 : decode cX5_hasUnit 13 = .ok (.goto 4, 3) := by decide +kernel
theorem dX5_hasUnit_16 : decode cX5_hasUnit 16 = .ok (.iconst 0, 1) := by decide +kernel
theorem dX5_hasUnit_17 : decode cX5_hasUnit 17 = .ok (.ireturn, 1) := by decide +kernel
theorem dX5_isTick_0 : decode cX5_isTick 0 = .ok (.iload_n 0, 1) := by decide +kernel
theorem dX5_isTick_1 : decode cX5_isTick 1 = .ok (.ifCond .lt 13, 3) := by decide +kernel
theorem dX5_isTick_4 : decode cX5_isTick 4 = .ok (.iload_n 0, 1) := by decide +kernel
theorem dX5_isTick_5 : decode cX5_isTick 5 = .ok (.bipush 20, 2) := by decide +kernel
theorem dX5_isTick_7 : decode cX5_isTick 7 = .ok (.if_icmp .gt 7, 3) := by decide +kernel
theorem dX5_isTick_10 : decode cX5_isTick 10 = .ok (.iconst 1, 1) := by decide +kernel
theorem dX5_isTick_11 : decode cX5_isTick 11 = .ok (.goto 4, 3) := by decide +kernel
theorem dX5_isTick_14 : decode cX5_isTick 14 = .ok (.iconst 0, 1) := by decide +kernel
theorem dX5_isTick_15 : decode cX5_isTick 15 = .ok (.ireturn, 1) := by decide +kernel
theorem dX5_isLength_0 : decode cX5_isLength 0 = .ok (.iload_n 0, 1) := by decide +kernel
theorem dX5_isLength_1 : decode cX5_isLength 1 = .ok (.iconst 1, 1) := by decide +kernel
theorem dX5_isLength_2 : decode cX5_isLength 2 = .ok (.if_icmp .lt 12, 3) := by decide +kernel
theorem dX5_isLength_5 : decode cX5_isLength 5 = .ok (.iload_n 0, 1) := by decide +kernel
theorem dX5_isLength_6 : decode cX5_isLength 6 = .ok (.iconst 4, 1) := by decide +kernel
theorem dX5_isLength_7 : decode cX5_isLength 7 = .ok (.if_icmp .gt 7, 3) := by decide +kernel
theorem dX5_isLength_10 : decode cX5_isLength 10 = .ok (.iconst 1, 1) := by decide +kernel
theorem dX5_isLength_11 : decode cX5_isLength 11 = .ok (.goto 4, 3) := by decide +kernel
theorem dX5_isLength_14 : decode cX5_isLength 14 = .ok (.iconst 0, 1) := by decide +kernel
theorem dX5_isLength_15 : decode cX5_isLength 15 = .ok (.ireturn, 1) := by decide +kernel
theorem dX5_isPartOfFraction_0 : decode cX5_isPartOfFraction 0 = .ok (.iload_n 0, 1) := by decide +kernel
theorem dX5_isPartOfFraction_1 : decode cX5_isPartOfFraction 1 = .ok (.ifCond .eq 8, 3) := by decide +kernel
theorem dX5_isPartOfFraction_4 : decode cX5_isPartOfFraction 4 = .ok (.iload_n 0, 1) := by decide +kernel
theorem dX5_isPartOfFraction_5 : decode cX5_isPartOfFraction 5 = .ok (.iconst 1, 1) := by decide +kernel
theorem dX5_isPartOfFraction_6 : decode cX5_isPartOfFraction 6 = .ok (.if_icmp .ne 7, 3) := by decide +kernel
theorem dX5_isPartOfFraction_9 : decode cX5_isPartOfFraction 9 = .ok (.iconst 1, 1) := by decide +kernel
theorem dX5_isPartOfFraction_10 : decode cX5_isPartOfFraction 10 = .ok (.goto 4, 3) := by decide +kernel
theorem dX5_isPartOfFraction_13 : decode cX5_isPartOfFraction 13 = .ok (.iconst 0, 1) := by decide +kernel
theorem dX5_isPartOfFraction_14 : decode cX5_isPartOfFraction 14 = .ok (.ireturn, 1) := by decide +kernel
theorem dX5_canFit_0 : decode cX5_canFit 0 = .ok (.iload_n 1, 1) := by decide +kernel
theorem dX5_canFit_1 : decode cX5_canFit 1 = .ok (.iconst 1, 1) := by decide +kernel
theorem dX5_canFit_2 : decode cX5_canFit 2 = .ok (.if_icmp .lt 27, 3) := by decide +kernel
theorem dX5_canFit_5 : decode cX5_canFit 5 = .ok (.iload_n 1, 1) := by decide +kernel
theorem dX5_canFit_6 : decode cX5_canFit 6 = .ok (.iconst 1, 1) := by decide +kernel
theorem dX5_canFit_7 : decode cX5_canFit 7 = .ok (.aload_n 0, 1) := by decide +kernel
theorem dX5_canFit_8 : decode cX5_canFit 8 = .ok (.getfield 179, 3) := by decide +kernel
theorem dX5_canFit_11 : decode cX5_canFit 11 = .ok (.ishl, 1) := by decide +kernel
theorem dX5_canFit_12 : decode cX5_canFit 12 = .ok (.if_icmp .ge 17, 3) := by decide +kernel
theorem dX5_canFit_15 : decode cX5_canFit 15 = .ok (.iload_n 2, 1) := by decide +kernel
theorem dX5_canFit_16 : decode cX5_canFit 16 = .ok (.iconst 1, 1) := by decide +kernel
theorem dX5_canFit_17 : decode cX5_canFit 17 = .ok (.if_icmp .lt 12, 3) := by decide +kernel
theorem dX5_canFit_20 : decode cX5_canFit 20 = .ok (.iload_n 2, 1) := by decide +kernel
theorem dX5_canFit_21 : decode cX5_canFit 21 = .ok (.iconst 4, 1) := by decide +kernel
theorem dX5_canFit_22 : decode cX5_canFit 22 = .ok (.if_icmp .gt 7, 3) := by decide +kernel
theorem dX5_canFit_25 : decode cX5_canFit 25 = .ok (.iconst 1, 1) := by decide +kernel
theorem dX5_canFit_26 : decode cX5_canFit 26 = .ok (.goto 4, 3) := by decide +kernel
theorem dX5_canFit_29 : decode cX5_canFit 29 = .ok (.iconst 0, 1) := by decide +kernel
theorem dX5_canFit_30 : decode cX5_canFit 30 = .ok (.ireturn, 1) := by decide +kernel
theorem dX5_isFitted_0 : decode cX5_isFitted 0 = .ok (.iload_n 0, 1) := by decide +kernel
theorem dX5_isFitted_1 : decode cX5_isFitted 1 = .ok (.ifCond .lt 12, 3) := by decide +kernel
theorem dX5_isFitted_4 : decode cX5_isFitted 4 = .ok (.iload_n 0, 1) := by decide +kernel
theorem dX5_isFitted_5 : decode cX5_isFitted 5 = .ok (.iload_n 1, 1) := by decide +kernel
theorem dX5_isFitted_6 : decode cX5_isFitted 6 = .ok (.if_icmp .ge 7, 3) := by decide +kernel
theorem dX5_isFitted_9 : decode cX5_isFitted 9 = .ok (.iconst 1, 1) := by decide +kernel
theorem dX5_isFitted_10 : decode cX5_isFitted 10 = .ok (.goto 4, 3) := by decide +kernel
theorem dX5_isFitted_13 : decode cX5_isFitted 13 = .ok (.iconst 0, 1) := by decide +kernel
theorem dX5_isFitted_14 : decode cX5_isFitted 14 = .ok (.ireturn, 1) := by decide +kernel
set_option maxRecDepth 20000 in
theorem ggX5_fitStorms_X0_begin : GoodIn wsX5_fitStorms wsX0_begin := goodIn_r _ [8, 9, 10, 11, 12, 13, 14, 15, 16, 17, 18, 19, 78, 79, 80, 81, 82, 83, 84, 85] (by decide +kernel) (by decide +kernel)
set_option maxRecDepth 20000 in
theorem gX5_fitStorms_X0_begin : GoodIn wsX5_fitStorms (wsV RX5 236 RX0 yX0_begin wsX0_begin) := goodIn_app (goodIn_of _ (by decide +kernel)) ggX5_fitStorms_X0_begin
set_option maxRecDepth 20000 in
theorem ggX5_fitStorms_X0_add : GoodIn wsX5_fitStorms wsX0_add := goodIn_r _ [23, 17, 24, 18, 25, 19, 26, 27, 28, 29, 30, 31, 32, 78, 79, 80, 81, 82, 83, 84, 85, 86, 87, 88, 89, 90, 91] (by decide +kernel) (by decide +kernel)
set_option maxRecDepth 20000 in
theorem gX5_fitStorms_X0_add : GoodIn wsX5_fitStorms (wsV RX5 240 RX0 yX0_add wsX0_add) := goodIn_app (goodIn_of _ (by decide +kernel)) ggX5_fitStorms_X0_add
set_option maxRecDepth 20000 in
theorem ggX5_fitStorms_X0_settle : GoodIn wsX5_fitStorms wsX0_settle := goodIn_r _ [36, 16, 37, 38, 39, 7, 40, 41, 42, 43, 44, 45, 46, 47, 48, 49, 50, 51, 52, 19, 18, 53, 54, 11, 55, 56, 57, 58, 59, 60, 61, 62, 63, 64, 65, 66, 78, 79, 80, 81, 82, 83, 84, 85] (by decide +kernel) (by decide +kernel)
set_option maxRecDepth 20000 in
theorem gX5_fitStorms_X0_settle : GoodIn wsX5_fitStorms (wsV RX5 244 RX0 yX0_settle wsX0_settle) := goodIn_app (goodIn_of _ (by decide +kernel)) ggX5_fitStorms_X0_settle
theorem dX5_fitStorms_0 : decode cX5_fitStorms 0 = .ok (.aload_n 0, 1) := by decide +kernel
theorem dX5_fitStorms_1 : decode cX5_fitStorms 1 = .ok (.getfield 35, 3) := by decide +kernel
theorem dX5_fitStorms_4 : decode cX5_fitStorms 4 = .ok (.iload_n 2, 1) := by decide +kernel
theorem dX5_fitStorms_5 : decode cX5_fitStorms 5 = .ok (.invokevirtual 236, 3) := by decide +kernel
theorem dX5_fitStorms_8 : decode cX5_fitStorms 8 = .ok (.iconst 0, 1) := by decide +kernel
theorem dX5_fitStorms_9 : decode cX5_fitStorms 9 = .ok (.istore_n 3, 1) := by decide +kernel
theorem dX5_fitStorms_10 : decode cX5_fitStorms 10 = .ok (.iload_n 3, 1) := by decide +kernel
theorem dX5_fitStorms_11 : decode cX5_fitStorms 11 = .ok (.aload_n 0, 1) := by decide +kernel
theorem dX5_fitStorms_12 : decode cX5_fitStorms 12 = .ok (.getfield 179, 3) := by decide +kernel
theorem dX5_fitStorms_15 : decode cX5_fitStorms 15 = .ok (.if_icmp .ge 31, 3) := by decide +kernel
theorem dX5_fitStorms_18 : decode cX5_fitStorms 18 = .ok (.iload_n 1, 1) := by decide +kernel
theorem dX5_fitStorms_19 : decode cX5_fitStorms 19 = .ok (.iload_n 3, 1) := by decide +kernel
theorem dX5_fitStorms_20 : decode cX5_fitStorms 20 = .ok (.ishr, 1) := by decide +kernel
theorem dX5_fitStorms_21 : decode cX5_fitStorms 21 = .ok (.iconst 1, 1) := by decide +kernel
theorem dX5_fitStorms_22 : decode cX5_fitStorms 22 = .ok (.iand, 1) := by decide +kernel
theorem dX5_fitStorms_23 : decode cX5_fitStorms 23 = .ok (.iconst 1, 1) := by decide +kernel
theorem dX5_fitStorms_24 : decode cX5_fitStorms 24 = .ok (.if_icmp .ne 16, 3) := by decide +kernel
theorem dX5_fitStorms_27 : decode cX5_fitStorms 27 = .ok (.aload_n 0, 1) := by decide +kernel
theorem dX5_fitStorms_28 : decode cX5_fitStorms 28 = .ok (.getfield 35, 3) := by decide +kernel
theorem dX5_fitStorms_31 : decode cX5_fitStorms 31 = .ok (.aload_n 0, 1) := by decide +kernel
theorem dX5_fitStorms_32 : decode cX5_fitStorms 32 = .ok (.getfield 15, 3) := by decide +kernel
theorem dX5_fitStorms_35 : decode cX5_fitStorms 35 = .ok (.iload_n 3, 1) := by decide +kernel
theorem dX5_fitStorms_36 : decode cX5_fitStorms 36 = .ok (.aaload, 1) := by decide +kernel
theorem dX5_fitStorms_37 : decode cX5_fitStorms 37 = .ok (.invokevirtual 240, 3) := by decide +kernel
theorem dX5_fitStorms_40 : decode cX5_fitStorms 40 = .ok (.iinc 3 1, 3) := by decide +kernel
theorem dX5_fitStorms_43 : decode cX5_fitStorms 43 = .ok (.goto (-33), 3) := by decide +kernel
theorem dX5_fitStorms_46 : decode cX5_fitStorms 46 = .ok (.aload_n 0, 1) := by decide +kernel
theorem dX5_fitStorms_47 : decode cX5_fitStorms 47 = .ok (.getfield 35, 3) := by decide +kernel
theorem dX5_fitStorms_50 : decode cX5_fitStorms 50 = .ok (.invokevirtual 244, 3) := by decide +kernel
theorem dX5_fitStorms_53 : decode cX5_fitStorms 53 = .ok (.return_, 1) := by decide +kernel
set_option maxRecDepth 20000 in
theorem ggX5_inLowestTerms_X5_sharedDivisor : GoodIn wsX5_inLowestTerms wsX5_sharedDivisor := goodIn_r _ [4, 5, 6, 7, 8] (by decide +kernel) (by decide +kernel)
set_option maxRecDepth 20000 in
theorem gX5_inLowestTerms_X5_sharedDivisor : GoodIn wsX5_inLowestTerms (va_wsS RX5 247 yX5_sharedDivisor wsX5_sharedDivisor) := goodIn_app (goodIn_of _ (by decide +kernel)) ggX5_inLowestTerms_X5_sharedDivisor
theorem dX5_inLowestTerms_0 : decode cX5_inLowestTerms 0 = .ok (.lload_n 0, 1) := by decide +kernel
theorem dX5_inLowestTerms_1 : decode cX5_inLowestTerms 1 = .ok (.lload_n 2, 1) := by decide +kernel
theorem dX5_inLowestTerms_2 : decode cX5_inLowestTerms 2 = .ok (.invokestatic 247, 3) := by decide +kernel
theorem dX5_inLowestTerms_5 : decode cX5_inLowestTerms 5 = .ok (.lstore 5, 2) := by decide +kernel
theorem dX5_inLowestTerms_7 : decode cX5_inLowestTerms 7 = .ok (.lload 5, 2) := by decide +kernel
theorem dX5_inLowestTerms_9 : decode cX5_inLowestTerms 9 = .ok (.lconst 0, 1) := by decide +kernel
theorem dX5_inLowestTerms_10 : decode cX5_inLowestTerms 10 = .ok (.lcmp, 1) := by decide +kernel
theorem dX5_inLowestTerms_11 : decode cX5_inLowestTerms 11 = .ok (.ifCond .ne 14, 3) := by decide +kernel
theorem dX5_inLowestTerms_14 : decode cX5_inLowestTerms 14 = .ok (.iload 4, 2) := by decide +kernel
theorem dX5_inLowestTerms_16 : decode cX5_inLowestTerms 16 = .ok (.ifCond .ne 7, 3) := by decide +kernel
theorem dX5_inLowestTerms_19 : decode cX5_inLowestTerms 19 = .ok (.lconst 0, 1) := by decide +kernel
theorem dX5_inLowestTerms_20 : decode cX5_inLowestTerms 20 = .ok (.goto 4, 3) := by decide +kernel
theorem dX5_inLowestTerms_23 : decode cX5_inLowestTerms 23 = .ok (.lconst 1, 1) := by decide +kernel
theorem dX5_inLowestTerms_24 : decode cX5_inLowestTerms 24 = .ok (.lreturn, 1) := by decide +kernel
theorem dX5_inLowestTerms_25 : decode cX5_inLowestTerms 25 = .ok (.iload 4, 2) := by decide +kernel
theorem dX5_inLowestTerms_27 : decode cX5_inLowestTerms 27 = .ok (.ifCond .ne 10, 3) := by decide +kernel
theorem dX5_inLowestTerms_30 : decode cX5_inLowestTerms 30 = .ok (.lload_n 0, 1) := by decide +kernel
theorem dX5_inLowestTerms_31 : decode cX5_inLowestTerms 31 = .ok (.lload 5, 2) := by decide +kernel
theorem dX5_inLowestTerms_33 : decode cX5_inLowestTerms 33 = .ok (.ldiv, 1) := by decide +kernel
theorem dX5_inLowestTerms_34 : decode cX5_inLowestTerms 34 = .ok (.goto 7, 3) := by decide +kernel
theorem dX5_inLowestTerms_37 : decode cX5_inLowestTerms 37 = .ok (.lload_n 2, 1) := by decide +kernel
theorem dX5_inLowestTerms_38 : decode cX5_inLowestTerms 38 = .ok (.lload 5, 2) := by decide +kernel
theorem dX5_inLowestTerms_40 : decode cX5_inLowestTerms 40 = .ok (.ldiv, 1) := by decide +kernel
theorem dX5_inLowestTerms_41 : decode cX5_inLowestTerms 41 = .ok (.lreturn, 1) := by decide +kernel
theorem dX5_sharedDivisor_0 : decode cX5_sharedDivisor 0 = .ok (.lload_n 0, 1) := by decide +kernel
theorem dX5_sharedDivisor_1 : decode cX5_sharedDivisor 1 = .ok (.invokestatic 250, 3) := by decide +kernel
theorem dX5_sharedDivisor_4 : decode cX5_sharedDivisor 4 = .ok (.lstore 4, 2) := by decide +kernel
theorem dX5_sharedDivisor_6 : decode cX5_sharedDivisor 6 = .ok (.lload_n 2, 1) := by decide +kernel
theorem dX5_sharedDivisor_7 : decode cX5_sharedDivisor 7 = .ok (.invokestatic 250, 3) := by decide +kernel
theorem dX5_sharedDivisor_10 : decode cX5_sharedDivisor 10 = .ok (.lstore 6, 2) := by decide +kernel
theorem dX5_sharedDivisor_12 : decode cX5_sharedDivisor 12 = .ok (.iconst 0, 1) := by decide +kernel
theorem dX5_sharedDivisor_13 : decode cX5_sharedDivisor 13 = .ok (.istore 8, 2) := by decide +kernel
theorem dX5_sharedDivisor_15 : decode cX5_sharedDivisor 15 = .ok (.iload 8, 2) := by decide +kernel
theorem dX5_sharedDivisor_17 : decode cX5_sharedDivisor 17 = .ok (.bipush 100, 2) := by decide +kernel
theorem dX5_sharedDivisor_19 : decode cX5_sharedDivisor 19 = .ok (.if_icmp .ge 31, 3) := by decide +kernel
theorem dX5_sharedDivisor_22 : decode cX5_sharedDivisor 22 = .ok (.lload 6, 2) := by decide +kernel
theorem dX5_sharedDivisor_24 : decode cX5_sharedDivisor 24 = .ok (.lconst 0, 1) := by decide +kernel
theorem dX5_sharedDivisor_25 : decode cX5_sharedDivisor 25 = .ok (.lcmp, 1) := by decide +kernel
theorem dX5_sharedDivisor_26 : decode cX5_sharedDivisor 26 = .ok (.ifCond .eq 24, 3) := by decide +kernel
theorem dX5_sharedDivisor_29 : decode cX5_sharedDivisor 29 = .ok (.lload 4, 2) := by decide +kernel
theorem dX5_sharedDivisor_31 : decode cX5_sharedDivisor 31 = .ok (.lload 6, 2) := by decide +kernel
theorem dX5_sharedDivisor_33 : decode cX5_sharedDivisor 33 = .ok (.lrem, 1) := by decide +kernel
theorem dX5_sharedDivisor_34 : decode cX5_sharedDivisor 34 = .ok (.lstore 9, 2) := by decide +kernel
theorem dX5_sharedDivisor_36 : decode cX5_sharedDivisor 36 = .ok (.lload 6, 2) := by decide +kernel
theorem dX5_sharedDivisor_38 : decode cX5_sharedDivisor 38 = .ok (.lstore 4, 2) := by decide +kernel
theorem dX5_sharedDivisor_40 : decode cX5_sharedDivisor 40 = .ok (.lload 9, 2) := by decide +kernel
theorem dX5_sharedDivisor_42 : decode cX5_sharedDivisor 42 = .ok (.lstore 6, 2) := by decide +kernel
theorem dX5_sharedDivisor_44 : decode cX5_sharedDivisor 44 = .ok (.iinc 8 1, 3) := by decide +kernel
theorem dX5_sharedDivisor_47 : decode cX5_sharedDivisor 47 = .ok (.goto (-32), 3) := by decide +kernel
theorem dX5_sharedDivisor_50 : decode cX5_sharedDivisor 50 = .ok (.lload 4, 2) := by decide +kernel
theorem dX5_sharedDivisor_52 : decode cX5_sharedDivisor 52 = .ok (.lreturn, 1) := by decide +kernel
theorem dX6_init_0 : decode cX6_init 0 = .ok (.aload_n 0, 1) := by decide +kernel
theorem dX6_init_1 : decode cX6_init 1 = .ok (.invokespecial 1, 3) := by decide +kernel
theorem dX6_init_4 : decode cX6_init 4 = .ok (.aload_n 0, 1) := by decide +kernel
theorem dX6_init_5 : decode cX6_init 5 = .ok (.bipush 40, 2) := by decide +kernel
theorem dX6_init_7 : decode cX6_init 7 = .ok (.newarray .int, 2) := by decide +kernel
theorem dX6_init_9 : decode cX6_init 9 = .ok (.putfield 7, 3) := by decide +kernel
theorem dX6_init_12 : decode cX6_init 12 = .ok (.aload_n 0, 1) := by decide +kernel
theorem dX6_init_13 : decode cX6_init 13 = .ok (.iconst 3, 1) := by decide +kernel
theorem dX6_init_14 : decode cX6_init 14 = .ok (.newarray .int, 2) := by decide +kernel
theorem dX6_init_16 : decode cX6_init 16 = .ok (.putfield 13, 3) := by decide +kernel
theorem dX6_init_19 : decode cX6_init 19 = .ok (.aload_n 0, 1) := by decide +kernel
theorem dX6_init_20 : decode cX6_init 20 = .ok (.bipush 9, 2) := by decide +kernel
theorem dX6_init_22 : decode cX6_init 22 = .ok (.newarray .int, 2) := by decide +kernel
theorem dX6_init_24 : decode cX6_init 24 = .ok (.putfield 16, 3) := by decide +kernel
theorem dX6_init_27 : decode cX6_init 27 = .ok (.aload_n 0, 1) := by decide +kernel
theorem dX6_init_28 : decode cX6_init 28 = .ok (.iconst 3, 1) := by decide +kernel
theorem dX6_init_29 : decode cX6_init 29 = .ok (.newarray .int, 2) := by decide +kernel
theorem dX6_init_31 : decode cX6_init 31 = .ok (.putfield 19, 3) := by decide +kernel
theorem dX6_init_34 : decode cX6_init 34 = .ok (.aload_n 0, 1) := by decide +kernel
theorem dX6_init_35 : decode cX6_init 35 = .ok (.bipush 24, 2) := by decide +kernel
theorem dX6_init_37 : decode cX6_init 37 = .ok (.newarray .int, 2) := by decide +kernel
theorem dX6_init_39 : decode cX6_init 39 = .ok (.putfield 22, 3) := by decide +kernel
theorem dX6_init_42 : decode cX6_init 42 = .ok (.aload_n 0, 1) := by decide +kernel
theorem dX6_init_43 : decode cX6_init 43 = .ok (.iconst 4, 1) := by decide +kernel
theorem dX6_init_44 : decode cX6_init 44 = .ok (.newarray .int, 2) := by decide +kernel
theorem dX6_init_46 : decode cX6_init 46 = .ok (.putfield 25, 3) := by decide +kernel
theorem dX6_init_49 : decode cX6_init 49 = .ok (.aload_n 0, 1) := by decide +kernel
theorem dX6_init_50 : decode cX6_init 50 = .ok (.iconst 4, 1) := by decide +kernel
theorem dX6_init_51 : decode cX6_init 51 = .ok (.newarray .int, 2) := by decide +kernel
theorem dX6_init_53 : decode cX6_init 53 = .ok (.putfield 28, 3) := by decide +kernel
theorem dX6_init_56 : decode cX6_init 56 = .ok (.aload_n 0, 1) := by decide +kernel
theorem dX6_init_57 : decode cX6_init 57 = .ok (.bipush 32, 2) := by decide +kernel
theorem dX6_init_59 : decode cX6_init 59 = .ok (.newarray .int, 2) := by decide +kernel
theorem dX6_init_61 : decode cX6_init 61 = .ok (.putfield 31, 3) := by decide +kernel
theorem dX6_init_64 : decode cX6_init 64 = .ok (.aload_n 0, 1) := by decide +kernel
theorem dX6_init_65 : decode cX6_init 65 = .ok (.iconst 3, 1) := by decide +kernel
theorem dX6_init_66 : decode cX6_init 66 = .ok (.newarray .int, 2) := by decide +kernel
theorem dX6_init_68 : decode cX6_init 68 = .ok (.putfield 34, 3) := by decide +kernel
theorem dX6_init_71 : decode cX6_init 71 = .ok (.aload_n 0, 1) := by decide +kernel
theorem dX6_init_72 : decode cX6_init 72 = .ok (.bipush 8, 2) := by decide +kernel
theorem dX6_init_74 : decode cX6_init 74 = .ok (.newarray .int, 2) := by decide +kernel
theorem dX6_init_76 : decode cX6_init 76 = .ok (.putfield 37, 3) := by decide +kernel
theorem dX6_init_79 : decode cX6_init 79 = .ok (.aload_n 0, 1) := by decide +kernel
theorem dX6_init_80 : decode cX6_init 80 = .ok (.bipush 8, 2) := by decide +kernel
theorem dX6_init_82 : decode cX6_init 82 = .ok (.newarray .int, 2) := by decide +kernel
theorem dX6_init_84 : decode cX6_init 84 = .ok (.putfield 40, 3) := by decide +kernel
theorem dX6_init_87 : decode cX6_init 87 = .ok (.aload_n 0, 1) := by decide +kernel
theorem dX6_init_88 : decode cX6_init 88 = .ok (.iconst 4, 1) := by decide +kernel
theorem dX6_init_89 : decode cX6_init 89 = .ok (.newarray .long, 2) := by decide +kernel
theorem dX6_init_91 : decode cX6_init 91 = .ok (.putfield 43, 3) := by decide +kernel
theorem dX6_init_94 : decode cX6_init 94 = .ok (.aload_n 0, 1) := by decide +kernel
theorem dX6_init_95 : decode cX6_init 95 = .ok (.iconst 4, 1) := by decide +kernel
theorem dX6_init_96 : decode cX6_init 96 = .ok (.newarray .long, 2) := by decide +kernel
theorem dX6_init_98 : decode cX6_init 98 = .ok (.putfield 47, 3) := by decide +kernel
theorem dX6_init_101 : decode cX6_init 101 = .ok (.aload_n 0, 1) := by decide +kernel
theorem dX6_init_102 : decode cX6_init 102 = .ok (.bipush 20, 2) := by decide +kernel
theorem dX6_init_104 : decode cX6_init 104 = .ok (.newarray .long, 2) := by decide +kernel
theorem dX6_init_106 : decode cX6_init 106 = .ok (.putfield 50, 3) := by decide +kernel
theorem dX6_init_109 : decode cX6_init 109 = .ok (.aload_n 0, 1) := by decide +kernel
theorem dX6_init_110 : decode cX6_init 110 = .ok (.iconst 4, 1) := by decide +kernel
theorem dX6_init_111 : decode cX6_init 111 = .ok (.newarray .int, 2) := by decide +kernel
theorem dX6_init_113 : decode cX6_init 113 = .ok (.putfield 53, 3) := by decide +kernel
theorem dX6_init_116 : decode cX6_init 116 = .ok (.aload_n 0, 1) := by decide +kernel
theorem dX6_init_117 : decode cX6_init 117 = .ok (.iconst 4, 1) := by decide +kernel
theorem dX6_init_118 : decode cX6_init 118 = .ok (.newarray .long, 2) := by decide +kernel
theorem dX6_init_120 : decode cX6_init 120 = .ok (.putfield 56, 3) := by decide +kernel
theorem dX6_init_123 : decode cX6_init 123 = .ok (.return_, 1) := by decide +kernel
theorem dX6_within_0 : decode cX6_within 0 = .ok (.iload_n 0, 1) := by decide +kernel
theorem dX6_within_1 : decode cX6_within 1 = .ok (.iload_n 1, 1) := by decide +kernel
theorem dX6_within_2 : decode cX6_within 2 = .ok (.if_icmp .lt 12, 3) := by decide +kernel
theorem dX6_within_5 : decode cX6_within 5 = .ok (.iload_n 0, 1) := by decide +kernel
theorem dX6_within_6 : decode cX6_within 6 = .ok (.iload_n 2, 1) := by decide +kernel
theorem dX6_within_7 : decode cX6_within 7 = .ok (.if_icmp .gt 7, 3) := by decide +kernel
theorem dX6_within_10 : decode cX6_within 10 = .ok (.iconst 1, 1) := by decide +kernel
theorem dX6_within_11 : decode cX6_within 11 = .ok (.goto 4, 3) := by decide +kernel
theorem dX6_within_14 : decode cX6_within 14 = .ok (.iconst 0, 1) := by decide +kernel
theorem dX6_within_15 : decode cX6_within 15 = .ok (.ireturn, 1) := by decide +kernel
set_option maxRecDepth 20000 in
theorem ggX6_letter_X6_within : GoodIn wsX6_letter wsX6_within := goodIn_r _ [8] (by decide +kernel) (by decide +kernel)
set_option maxRecDepth 20000 in
theorem gX6_letter_X6_within : GoodIn wsX6_letter (va_wsS RX6 59 yX6_within wsX6_within) := goodIn_app (goodIn_of _ (by decide +kernel)) ggX6_letter_X6_within
theorem dX6_letter_0 : decode cX6_letter 0 = .ok (.iload_n 1, 1) := by decide +kernel
theorem dX6_letter_1 : decode cX6_letter 1 = .ok (.bipush 32, 2) := by decide +kernel
theorem dX6_letter_3 : decode cX6_letter 3 = .ok (.bipush 126, 2) := by decide +kernel
theorem dX6_letter_5 : decode cX6_letter 5 = .ok (.invokestatic 59, 3) := by decide +kernel
theorem dX6_letter_8 : decode cX6_letter 8 = .ok (.ifCond .ne 6, 3) := by decide +kernel
theorem dX6_letter_11 : decode cX6_letter 11 = .ok (.ldc 63, 2) := by decide +kernel
theorem dX6_letter_13 : decode cX6_letter 13 = .ok (.ireturn, 1) := by decide +kernel
theorem dX6_letter_14 : decode cX6_letter 14 = .ok (.aload_n 0, 1) := by decide +kernel
theorem dX6_letter_15 : decode cX6_letter 15 = .ok (.getfield 64, 3) := by decide +kernel
theorem dX6_letter_18 : decode cX6_letter 18 = .ok (.bipush 40, 2) := by decide +kernel
theorem dX6_letter_20 : decode cX6_letter 20 = .ok (.if_icmp .ne 6, 3) := by decide +kernel
theorem dX6_letter_23 : decode cX6_letter 23 = .ok (.ldc 68, 2) := by decide +kernel
theorem dX6_letter_25 : decode cX6_letter 25 = .ok (.ireturn, 1) := by decide +kernel
theorem dX6_letter_26 : decode cX6_letter 26 = .ok (.aload_n 0, 1) := by decide +kernel
theorem dX6_letter_27 : decode cX6_letter 27 = .ok (.getfield 7, 3) := by decide +kernel
theorem dX6_letter_30 : decode cX6_letter 30 = .ok (.aload_n 0, 1) := by decide +kernel
theorem dX6_letter_31 : decode cX6_letter 31 = .ok (.getfield 64, 3) := by decide +kernel
theorem dX6_letter_34 : decode cX6_letter 34 = .ok (.iload_n 1, 1) := by decide +kernel
theorem dX6_letter_35 : decode cX6_letter 35 = .ok (.iastore, 1) := by decide +kernel
theorem dX6_letter_36 : decode cX6_letter 36 = .ok (.aload_n 0, 1) := by decide +kernel
theorem dX6_letter_37 : decode cX6_letter 37 = .ok (.dup, 1) := by decide +kernel
theorem dX6_letter_38 : decode cX6_letter 38 = .ok (.getfield 64, 3) := by decide +kernel
theorem dX6_letter_41 : decode cX6_letter 41 = .ok (.iconst 1, 1) := by decide +kernel
theorem dX6_letter_42 : decode cX6_letter 42 = .ok (.iadd, 1) := by decide +kernel
theorem dX6_letter_43 : decode cX6_letter 43 = .ok (.putfield 64, 3) := by decide +kernel
theorem dX6_letter_46 : decode cX6_letter 46 = .ok (.aload_n 0, 1) := by decide +kernel
theorem dX6_letter_47 : decode cX6_letter 47 = .ok (.getfield 64, 3) := by decide +kernel
theorem dX6_letter_50 : decode cX6_letter 50 = .ok (.ireturn, 1) := by decide +kernel
theorem dX6_blank_0 : decode cX6_blank 0 = .ok (.aload_n 0, 1) := by decide +kernel
theorem dX6_blank_1 : decode cX6_blank 1 = .ok (.getfield 64, 3) := by decide +kernel
theorem dX6_blank_4 : decode cX6_blank 4 = .ok (.istore_n 1, 1) := by decide +kernel
theorem dX6_blank_5 : decode cX6_blank 5 = .ok (.aload_n 0, 1) := by decide +kernel
theorem dX6_blank_6 : decode cX6_blank 6 = .ok (.iconst 0, 1) := by decide +kernel
theorem dX6_blank_7 : decode cX6_blank 7 = .ok (.putfield 64, 3) := by decide +kernel
theorem dX6_blank_10 : decode cX6_blank 10 = .ok (.iload_n 1, 1) := by decide +kernel
theorem dX6_blank_11 : decode cX6_blank 11 = .ok (.ireturn, 1) := by decide +kernel
theorem dX6_goesTo_0 : decode cX6_goesTo 0 = .ok (.aload_n 0, 1) := by decide +kernel
theorem dX6_goesTo_1 : decode cX6_goesTo 1 = .ok (.iload_n 1, 1) := by decide +kernel
theorem dX6_goesTo_2 : decode cX6_goesTo 2 = .ok (.putfield 69, 3) := by decide +kernel
theorem dX6_goesTo_5 : decode cX6_goesTo 5 = .ok (.aload_n 0, 1) := by decide +kernel
theorem dX6_goesTo_6 : decode cX6_goesTo 6 = .ok (.iconst 0, 1) := by decide +kernel
theorem dX6_goesTo_7 : decode cX6_goesTo 7 = .ok (.putfield 72, 3) := by decide +kernel
theorem dX6_goesTo_10 : decode cX6_goesTo 10 = .ok (.aload_n 0, 1) := by decide +kernel
theorem dX6_goesTo_11 : decode cX6_goesTo 11 = .ok (.iconst 0, 1) := by decide +kernel
theorem dX6_goesTo_12 : decode cX6_goesTo 12 = .ok (.putfield 75, 3) := by decide +kernel
theorem dX6_goesTo_15 : decode cX6_goesTo 15 = .ok (.iconst 1, 1) := by decide +kernel
theorem dX6_goesTo_16 : decode cX6_goesTo 16 = .ok (.ireturn, 1) := by decide +kernel
set_option maxRecDepth 20000 in
theorem ggX6_begins_X6_goesTo : GoodIn wsX6_begins wsX6_goesTo := goodIn_r _ [8, 9, 10, 11, 12, 13, 14, 15, 16, 17, 18, 19, 20, 21, 22, 23, 24, 25, 26, 27, 28, 29, 30, 31, 32, 33, 34, 35, 36, 37, 38, 39, 40, 41, 42, 43, 44] (by decide +kernel) (by decide +kernel)
set_option maxRecDepth 20000 in
theorem gX6_begins_X6_goesTo : GoodIn wsX6_begins (wsV RX6 88 RX6 yX6_goesTo wsX6_goesTo) := goodIn_app (goodIn_of _ (by decide +kernel)) ggX6_begins_X6_goesTo
theorem dX6_begins_0 : decode cX6_begins 0 = .ok (.aload_n 0, 1) := by decide +kernel
theorem dX6_begins_1 : decode cX6_begins 1 = .ok (.iload_n 1, 1) := by decide +kernel
theorem dX6_begins_2 : decode cX6_begins 2 = .ok (.bipush 117, 2) := by decide +kernel
theorem dX6_begins_4 : decode cX6_begins 4 = .ok (.if_icmp .ne 7, 3) := by decide +kernel
theorem dX6_begins_7 : decode cX6_begins 7 = .ok (.iconst 1, 1) := by decide +kernel
theorem dX6_begins_8 : decode cX6_begins 8 = .ok (.goto 4, 3) := by decide +kernel
theorem dX6_begins_11 : decode cX6_begins 11 = .ok (.iconst 0, 1) := by decide +kernel
theorem dX6_begins_12 : decode cX6_begins 12 = .ok (.putfield 78, 3) := by decide +kernel
theorem dX6_begins_15 : decode cX6_begins 15 = .ok (.aload_n 0, 1) := by decide +kernel
theorem dX6_begins_16 : decode cX6_begins 16 = .ok (.iconst 0, 1) := by decide +kernel
theorem dX6_begins_17 : decode cX6_begins 17 = .ok (.putfield 82, 3) := by decide +kernel
theorem dX6_begins_20 : decode cX6_begins 20 = .ok (.aload_n 0, 1) := by decide +kernel
theorem dX6_begins_21 : decode cX6_begins 21 = .ok (.iconst 0, 1) := by decide +kernel
theorem dX6_begins_22 : decode cX6_begins 22 = .ok (.putfield 85, 3) := by decide +kernel
theorem dX6_begins_25 : decode cX6_begins 25 = .ok (.iload_n 1, 1) := by decide +kernel
theorem dX6_begins_26 : decode cX6_begins 26 = .ok (.bipush 114, 2) := by decide +kernel
theorem dX6_begins_28 : decode cX6_begins 28 = .ok (.if_icmp .eq 9, 3) := by decide +kernel
theorem dX6_begins_31 : decode cX6_begins 31 = .ok (.iload_n 1, 1) := by decide +kernel
theorem dX6_begins_32 : decode cX6_begins 32 = .ok (.bipush 117, 2) := by decide +kernel
theorem dX6_begins_34 : decode cX6_begins 34 = .ok (.if_icmp .ne 26, 3) := by decide +kernel
theorem dX6_begins_37 : decode cX6_begins 37 = .ok (.aload_n 0, 1) := by decide +kernel
theorem dX6_begins_38 : decode cX6_begins 38 = .ok (.aload_n 0, 1) := by decide +kernel
theorem dX6_begins_39 : decode cX6_begins 39 = .ok (.getfield 78, 3) := by decide +kernel
theorem dX6_begins_42 : decode cX6_begins 42 = .ok (.ifCond .eq 7, 3) := by decide +kernel
theorem dX6_begins_45 : decode cX6_begins 45 = .ok (.iconst 2, 1) := by decide +kernel
theorem dX6_begins_46 : decode cX6_begins 46 = .ok (.goto 4, 3) := by decide +kernel
theorem dX6_begins_49 : decode cX6_begins 49 = .ok (.iconst 1, 1) := by decide +kernel
theorem dX6_begins_50 : decode cX6_begins 50 = .ok (.invokevirtual 88, 3) := by decide +kernel
theorem dX6_begins_53 : decode cX6_begins 53 = .ok (.ifCond .eq 7, 3) := by decide +kernel
theorem dX6_begins_56 : decode cX6_begins 56 = .ok (.iconst 1, 1) := by decide +kernel
theorem dX6_begins_57 : decode cX6_begins 57 = .ok (.goto 4, 3) := by decide +kernel
theorem dX6_begins_60 : decode cX6_begins 60 = .ok (.iconst 0, 1) := by decide +kernel
theorem dX6_begins_61 : decode cX6_begins 61 = .ok (.ireturn, 1) := by decide +kernel
theorem dX6_takesFigure_0 : decode cX6_takesFigure 0 = .ok (.aload_n 0, 1) := by decide +kernel
theorem dX6_takesFigure_1 : decode cX6_takesFigure 1 = .ok (.getfield 69, 3) := by decide +kernel
theorem dX6_takesFigure_4 : decode cX6_takesFigure 4 = .ok (.iconst 1, 1) := by decide +kernel
theorem dX6_takesFigure_5 : decode cX6_takesFigure 5 = .ok (.if_icmp .ne 7, 3) := by decide +kernel
theorem dX6_takesFigure_8 : decode cX6_takesFigure 8 = .ok (.iconst 5, 1) := by decide +kernel
theorem dX6_takesFigure_9 : decode cX6_takesFigure 9 = .ok (.goto 5, 3) := by decide +kernel
theorem dX6_takesFigure_12 : decode cX6_takesFigure 12 = .ok (.bipush 99, 2) := by decide +kernel
theorem dX6_takesFigure_14 : decode cX6_takesFigure 14 = .ok (.istore_n 2, 1) := by decide +kernel
theorem dX6_takesFigure_15 : decode cX6_takesFigure 15 = .ok (.aload_n 0, 1) := by decide +kernel
theorem dX6_takesFigure_16 : decode cX6_takesFigure 16 = .ok (.getfield 69, 3) := by decide +kernel
theorem dX6_takesFigure_19 : decode cX6_takesFigure 19 = .ok (.iconst 1, 1) := by decide +kernel
theorem dX6_takesFigure_20 : decode cX6_takesFigure 20 = .ok (.if_icmp .ne 14, 3) := by decide +kernel
theorem dX6_takesFigure_23 : decode cX6_takesFigure 23 = .ok (.aload_n 0, 1) := by decide +kernel
theorem dX6_takesFigure_24 : decode cX6_takesFigure 24 = .ok (.getfield 82, 3) := by decide +kernel
theorem dX6_takesFigure_27 : decode cX6_takesFigure 27 = .ok (.ifCond .ne 7, 3) := by decide +kernel
theorem dX6_takesFigure_30 : decode cX6_takesFigure 30 = .ok (.iconst 1, 1) := by decide +kernel
theorem dX6_takesFigure_31 : decode cX6_takesFigure 31 = .ok (.goto 4, 3) := by decide +kernel
theorem dX6_takesFigure_34 : decode cX6_takesFigure 34 = .ok (.iconst 0, 1) := by decide +kernel
theorem dX6_takesFigure_35 : decode cX6_takesFigure 35 = .ok (.istore_n 3, 1) := by decide +kernel
theorem dX6_takesFigure_36 : decode cX6_takesFigure 36 = .ok (.aload_n 0, 1) := by decide +kernel
theorem dX6_takesFigure_37 : decode cX6_takesFigure 37 = .ok (.getfield 72, 3) := by decide +kernel
theorem dX6_takesFigure_40 : decode cX6_takesFigure 40 = .ok (.ifCond .ne 19, 3) := by decide +kernel
theorem dX6_takesFigure_43 : decode cX6_takesFigure 43 = .ok (.iload_n 1, 1) := by decide +kernel
theorem dX6_takesFigure_44 : decode cX6_takesFigure 44 = .ok (.ifCond .gt 7, 3) := by decide +kernel
theorem dX6_takesFigure_47 : decode cX6_takesFigure 47 = .ok (.iload_n 3, 1) := by decide +kernel
theorem dX6_takesFigure_48 : decode cX6_takesFigure 48 = .ok (.ifCond .ne 7, 3) := by decide +kernel
theorem dX6_takesFigure_51 : decode cX6_takesFigure 51 = .ok (.iconst 1, 1) := by decide +kernel
theorem dX6_takesFigure_52 : decode cX6_takesFigure 52 = .ok (.goto 19, 3) := by decide +kernel
theorem dX6_takesFigure_55 : decode cX6_takesFigure 55 = .ok (.iconst 0, 1) := by decide +kernel
theorem dX6_takesFigure_56 : decode cX6_takesFigure 56 = .ok (.goto 15, 3) := by decide +kernel
theorem dX6_takesFigure_59 : decode cX6_takesFigure 59 = .ok (.aload_n 0, 1) := by decide +kernel
theorem dX6_takesFigure_60 : decode cX6_takesFigure 60 = .ok (.getfield 75, 3) := by decide +kernel
theorem dX6_takesFigure_63 : decode cX6_takesFigure 63 = .ok (.ifCond .le 7, 3) := by decide +kernel
theorem dX6_takesFigure_66 : decode cX6_takesFigure 66 = .ok (.iconst 1, 1) := by decide +kernel
theorem dX6_takesFigure_67 : decode cX6_takesFigure 67 = .ok (.goto 4, 3) := by decide +kernel
theorem dX6_takesFigure_70 : decode cX6_takesFigure 70 = .ok (.iconst 0, 1) := by decide +kernel
theorem dX6_takesFigure_71 : decode cX6_takesFigure 71 = .ok (.istore 4, 2) := by decide +kernel
theorem dX6_takesFigure_73 : decode cX6_takesFigure 73 = .ok (.iload 4, 2) := by decide +kernel
theorem dX6_takesFigure_75 : decode cX6_takesFigure 75 = .ok (.ifCond .eq 20, 3) := by decide +kernel
theorem dX6_takesFigure_78 : decode cX6_takesFigure 78 = .ok (.bipush 10, 2) := by decide +kernel
theorem dX6_takesFigure_80 : decode cX6_takesFigure 80 = .ok (.aload_n 0, 1) := by decide +kernel
theorem dX6_takesFigure_81 : decode cX6_takesFigure 81 = .ok (.getfield 75, 3) := by decide +kernel
theorem dX6_takesFigure_84 : decode cX6_takesFigure 84 = .ok (.imul, 1) := by decide +kernel
theorem dX6_takesFigure_85 : decode cX6_takesFigure 85 = .ok (.iload_n 1, 1) := by decide +kernel
theorem dX6_takesFigure_86 : decode cX6_takesFigure 86 = .ok (.iadd, 1) := by decide +kernel
theorem dX6_takesFigure_87 : decode cX6_takesFigure 87 = .ok (.iload_n 2, 1) := by decide +kernel
theorem dX6_takesFigure_88 : decode cX6_takesFigure 88 = .ok (.if_icmp .gt 7, 3) := by decide +kernel
theorem dX6_takesFigure_91 : decode cX6_takesFigure 91 = .ok (.iconst 1, 1) := by decide +kernel
theorem dX6_takesFigure_92 : decode cX6_takesFigure 92 = .ok (.goto 4, 3) := by decide +kernel
theorem dX6_takesFigure_95 : decode cX6_takesFigure 95 = .ok (.iconst 0, 1) := by decide +kernel
theorem dX6_takesFigure_96 : decode cX6_takesFigure 96 = .ok (.istore 4, 2) := by decide +kernel
theorem dX6_takesFigure_98 : decode cX6_takesFigure 98 = .ok (.aload_n 0, 1) := by decide +kernel
theorem dX6_takesFigure_99 : decode cX6_takesFigure 99 = .ok (.iload 4, 2) := by decide +kernel
theorem dX6_takesFigure_101 : decode cX6_takesFigure 101 = .ok (.ifCond .eq 15, 3) := by decide +kernel
theorem dX6_takesFigure_104 : decode cX6_takesFigure 104 = .ok (.bipush 10, 2) := by decide +kernel
theorem dX6_takesFigure_106 : decode cX6_takesFigure 106 = .ok (.aload_n 0, 1) := by decide +kernel
theorem dX6_takesFigure_107 : decode cX6_takesFigure 107 = .ok (.getfield 75, 3) := by decide +kernel
theorem dX6_takesFigure_110 : decode cX6_takesFigure 110 = .ok (.imul, 1) := by decide +kernel
theorem dX6_takesFigure_111 : decode cX6_takesFigure 111 = .ok (.iload_n 1, 1) := by decide +kernel
theorem dX6_takesFigure_112 : decode cX6_takesFigure 112 = .ok (.iadd, 1) := by decide +kernel
theorem dX6_takesFigure_113 : decode cX6_takesFigure 113 = .ok (.goto 7, 3) := by decide +kernel
theorem dX6_takesFigure_116 : decode cX6_takesFigure 116 = .ok (.aload_n 0, 1) := by decide +kernel
theorem dX6_takesFigure_117 : decode cX6_takesFigure 117 = .ok (.getfield 75, 3) := by decide +kernel
theorem dX6_takesFigure_120 : decode cX6_takesFigure 120 = .ok (.putfield 75, 3) := by decide +kernel
theorem dX6_takesFigure_123 : decode cX6_takesFigure 123 = .ok (.aload_n 0, 1) := by decide +kernel
theorem dX6_takesFigure_124 : decode cX6_takesFigure 124 = .ok (.dup, 1) := by decide +kernel
theorem dX6_takesFigure_125 : decode cX6_takesFigure 125 = .ok (.getfield 72, 3) := by decide +kernel
theorem dX6_takesFigure_128 : decode cX6_takesFigure 128 = .ok (.iload 4, 2) := by decide +kernel
theorem dX6_takesFigure_130 : decode cX6_takesFigure 130 = .ok (.ifCond .eq 7, 3) := by decide +kernel
theorem dX6_takesFigure_133 : decode cX6_takesFigure 133 = .ok (.iconst 1, 1) := by decide +kernel
theorem dX6_takesFigure_134 : decode cX6_takesFigure 134 = .ok (.goto 4, 3) := by decide +kernel
theorem dX6_takesFigure_137 : decode cX6_takesFigure 137 = .ok (.iconst 0, 1) := by decide +kernel
theorem dX6_takesFigure_138 : decode cX6_takesFigure 138 = .ok (.iadd, 1) := by decide +kernel
theorem dX6_takesFigure_139 : decode cX6_takesFigure 139 = .ok (.putfield 72, 3) := by decide +kernel
theorem dX6_takesFigure_142 : decode cX6_takesFigure 142 = .ok (.iload 4, 2) := by decide +kernel
theorem dX6_takesFigure_144 : decode cX6_takesFigure 144 = .ok (.ireturn, 1) := by decide +kernel
theorem dX6_keepNumber_0 : decode cX6_keepNumber 0 = .ok (.aload_n 0, 1) := by decide +kernel
theorem dX6_keepNumber_1 : decode cX6_keepNumber 1 = .ok (.getfield 69, 3) := by decide +kernel
theorem dX6_keepNumber_4 : decode cX6_keepNumber 4 = .ok (.iconst 1, 1) := by decide +kernel
theorem dX6_keepNumber_5 : decode cX6_keepNumber 5 = .ok (.if_icmp .ne 29, 3) := by decide +kernel
theorem dX6_keepNumber_8 : decode cX6_keepNumber 8 = .ok (.aload_n 0, 1) := by decide +kernel
theorem dX6_keepNumber_9 : decode cX6_keepNumber 9 = .ok (.getfield 34, 3) := by decide +kernel
theorem dX6_keepNumber_12 : decode cX6_keepNumber 12 = .ok (.aload_n 0, 1) := by decide +kernel
theorem dX6_keepNumber_13 : decode cX6_keepNumber 13 = .ok (.getfield 82, 3) := by decide +kernel
theorem dX6_keepNumber_16 : decode cX6_keepNumber 16 = .ok (.aload_n 0, 1) := by decide +kernel
theorem dX6_keepNumber_17 : decode cX6_keepNumber 17 = .ok (.getfield 75, 3) := by decide +kernel
theorem dX6_keepNumber_20 : decode cX6_keepNumber 20 = .ok (.iastore, 1) := by decide +kernel
theorem dX6_keepNumber_21 : decode cX6_keepNumber 21 = .ok (.aload_n 0, 1) := by decide +kernel
theorem dX6_keepNumber_22 : decode cX6_keepNumber 22 = .ok (.dup, 1) := by decide +kernel
theorem dX6_keepNumber_23 : decode cX6_keepNumber 23 = .ok (.getfield 82, 3) := by decide +kernel
theorem dX6_keepNumber_26 : decode cX6_keepNumber 26 = .ok (.iconst 1, 1) := by decide +kernel
theorem dX6_keepNumber_27 : decode cX6_keepNumber 27 = .ok (.iadd, 1) := by decide +kernel
theorem dX6_keepNumber_28 : decode cX6_keepNumber 28 = .ok (.putfield 82, 3) := by decide +kernel
theorem dX6_keepNumber_31 : decode cX6_keepNumber 31 = .ok (.goto 26, 3) := by decide +kernel
theorem dX6_keepNumber_34 : decode cX6_keepNumber 34 = .ok (.aload_n 0, 1) := by decide +kernel
theorem dX6_keepNumber_35 : decode cX6_keepNumber 35 = .ok (.getfield 37, 3) := by decide +kernel
theorem dX6_keepNumber_38 : decode cX6_keepNumber 38 = .ok (.aload_n 0, 1) := by decide +kernel
theorem dX6_keepNumber_39 : decode cX6_keepNumber 39 = .ok (.getfield 85, 3) := by decide +kernel
theorem dX6_keepNumber_42 : decode cX6_keepNumber 42 = .ok (.aload_n 0, 1) := by decide +kernel
theorem dX6_keepNumber_43 : decode cX6_keepNumber 43 = .ok (.getfield 75, 3) := by decide +kernel
theorem dX6_keepNumber_46 : decode cX6_keepNumber 46 = .ok (.iastore, 1) := by decide +kernel
theorem dX6_keepNumber_47 : decode cX6_keepNumber 47 = .ok (.aload_n 0, 1) := by decide +kernel
theorem dX6_keepNumber_48 : decode cX6_keepNumber 48 = .ok (.dup, 1) := by decide +kernel
theorem dX6_keepNumber_49 : decode cX6_keepNumber 49 = .ok (.getfield 85, 3) := by decide +kernel
theorem dX6_keepNumber_52 : decode cX6_keepNumber 52 = .ok (.iconst 1, 1) := by decide +kernel
theorem dX6_keepNumber_53 : decode cX6_keepNumber 53 = .ok (.iadd, 1) := by decide +kernel
theorem dX6_keepNumber_54 : decode cX6_keepNumber 54 = .ok (.putfield 85, 3) := by decide +kernel
theorem dX6_keepNumber_57 : decode cX6_keepNumber 57 = .ok (.return_, 1) := by decide +kernel
set_option maxRecDepth 20000 in
theorem ggX6_takesInRow_X6_within : GoodIn wsX6_takesInRow wsX6_within := goodIn_r _ [8] (by decide +kernel) (by decide +kernel)
set_option maxRecDepth 20000 in
theorem gX6_takesInRow_X6_within : GoodIn wsX6_takesInRow (va_wsS RX6 59 yX6_within wsX6_within) := goodIn_app (goodIn_of _ (by decide +kernel)) ggX6_takesInRow_X6_within
set_option maxRecDepth 20000 in
theorem ggX6_takesInRow_X6_takesFigure : GoodIn wsX6_takesInRow wsX6_takesFigure := goodIn_r _ [12, 1, 2, 4, 13, 24, 25, 26, 27, 28, 29, 30, 31, 32, 33, 34, 35, 36, 37, 38, 39, 40, 41, 42, 43, 44, 45, 46, 47, 48, 49, 50, 51, 52, 53, 54, 55, 56] (by decide +kernel) (by decide +kernel)
set_option maxRecDepth 20000 in
theorem gX6_takesInRow_X6_takesFigure : GoodIn wsX6_takesInRow (wsV RX6 92 RX6 yX6_takesFigure wsX6_takesFigure) := goodIn_app (goodIn_of _ (by decide +kernel)) ggX6_takesInRow_X6_takesFigure
set_option maxRecDepth 20000 in
theorem ggX6_takesInRow_X6_keepNumber : GoodIn wsX6_takesInRow wsX6_keepNumber := goodIn_r _ [17, 1, 18, 2, 13, 19, 3, 24, 25, 26, 27, 28, 29, 30, 31, 32, 33, 34, 35, 36, 37, 38, 39, 40, 41, 42, 43, 44, 45, 46, 47, 48, 49, 50, 51, 52, 53, 54, 55, 56] (by decide +kernel) (by decide +kernel)
set_option maxRecDepth 20000 in
theorem gX6_takesInRow_X6_keepNumber : GoodIn wsX6_takesInRow (wsV RX6 95 RX6 yX6_keepNumber wsX6_keepNumber) := goodIn_app (goodIn_of _ (by decide +kernel)) ggX6_takesInRow_X6_keepNumber
set_option maxRecDepth 20000 in
theorem ggX6_takesInRow_X6_goesTo : GoodIn wsX6_takesInRow wsX6_goesTo := goodIn_r _ [23, 1, 4, 13, 24, 25, 26, 27, 28, 29, 30, 31, 32, 33, 34, 35, 36, 37, 38, 39, 40, 41, 42, 43, 44, 45, 46, 47, 48, 49, 50, 51, 52, 53, 54, 55, 56] (by decide +kernel) (by decide +kernel)
set_option maxRecDepth 20000 in
theorem gX6_takesInRow_X6_goesTo : GoodIn wsX6_takesInRow (wsV RX6 88 RX6 yX6_goesTo wsX6_goesTo) := goodIn_app (goodIn_of _ (by decide +kernel)) ggX6_takesInRow_X6_goesTo
theorem dX6_takesInRow_0 : decode cX6_takesInRow 0 = .ok (.iload_n 1, 1) := by decide +kernel
theorem dX6_takesInRow_1 : decode cX6_takesInRow 1 = .ok (.bipush 48, 2) := by decide +kernel
theorem dX6_takesInRow_3 : decode cX6_takesInRow 3 = .ok (.bipush 57, 2) := by decide +kernel
theorem dX6_takesInRow_5 : decode cX6_takesInRow 5 = .ok (.invokestatic 59, 3) := by decide +kernel
theorem dX6_takesInRow_8 : decode cX6_takesInRow 8 = .ok (.ifCond .eq 12, 3) := by decide +kernel
theorem dX6_takesInRow_11 : decode cX6_takesInRow 11 = .ok (.aload_n 0, 1) := by decide +kernel
theorem dX6_takesInRow_12 : decode cX6_takesInRow 12 = .ok (.iload_n 1, 1) := by decide +kernel
theorem dX6_takesInRow_13 : decode cX6_takesInRow 13 = .ok (.bipush 48, 2) := by decide +kernel
theorem dX6_takesInRow_15 : decode cX6_takesInRow 15 = .ok (.isub, 1) := by decide +kernel
theorem dX6_takesInRow_16 : decode cX6_takesInRow 16 = .ok (.invokevirtual 92, 3) := by decide +kernel
theorem dX6_takesInRow_19 : decode cX6_takesInRow 19 = .ok (.ireturn, 1) := by decide +kernel
theorem dX6_takesInRow_20 : decode cX6_takesInRow 20 = .ok (.aload_n 0, 1) := by decide +kernel
theorem dX6_takesInRow_21 : decode cX6_takesInRow 21 = .ok (.getfield 69, 3) := by decide +kernel
theorem dX6_takesInRow_24 : decode cX6_takesInRow 24 = .ok (.iconst 1, 1) := by decide +kernel
theorem dX6_takesInRow_25 : decode cX6_takesInRow 25 = .ok (.if_icmp .ne 10, 3) := by decide +kernel
theorem dX6_takesInRow_28 : decode cX6_takesInRow 28 = .ok (.aload_n 0, 1) := by decide +kernel
theorem dX6_takesInRow_29 : decode cX6_takesInRow 29 = .ok (.getfield 82, 3) := by decide +kernel
theorem dX6_takesInRow_32 : decode cX6_takesInRow 32 = .ok (.goto 7, 3) := by decide +kernel
theorem dX6_takesInRow_35 : decode cX6_takesInRow 35 = .ok (.aload_n 0, 1) := by decide +kernel
theorem dX6_takesInRow_36 : decode cX6_takesInRow 36 = .ok (.getfield 85, 3) := by decide +kernel
theorem dX6_takesInRow_39 : decode cX6_takesInRow 39 = .ok (.istore_n 2, 1) := by decide +kernel
theorem dX6_takesInRow_40 : decode cX6_takesInRow 40 = .ok (.iload_n 1, 1) := by decide +kernel
end
section
theorem dX6_takesInRow_41 : decode cX6_takesInRow 41 = .ok (.bipush 44, 2) := by decide +kernel
theorem dX6_takesInRow_43 : decode cX6_takesInRow 43 = .ok (.if_icmp .ne 27, 3) := by decide +kernel
theorem dX6_takesInRow_46 : decode cX6_takesInRow 46 = .ok (.iload_n 2, 1) := by decide +kernel
theorem dX6_takesInRow_47 : decode cX6_takesInRow 47 = .ok (.iconst 1, 1) := by decide +kernel
theorem dX6_takesInRow_48 : decode cX6_takesInRow 48 = .ok (.iadd, 1) := by decide +kernel
theorem dX6_takesInRow_49 : decode cX6_takesInRow 49 = .ok (.aload_n 0, 1) := by decide +kernel
theorem dX6_takesInRow_50 : decode cX6_takesInRow 50 = .ok (.getfield 69, 3) := by decide +kernel
theorem dX6_takesInRow_53 : decode cX6_takesInRow 53 = .ok (.iconst 1, 1) := by decide +kernel
theorem dX6_takesInRow_54 : decode cX6_takesInRow 54 = .ok (.if_icmp .ne 7, 3) := by decide +kernel
theorem dX6_takesInRow_57 : decode cX6_takesInRow 57 = .ok (.iconst 3, 1) := by decide +kernel
theorem dX6_takesInRow_58 : decode cX6_takesInRow 58 = .ok (.goto 5, 3) := by decide +kernel
theorem dX6_takesInRow_61 : decode cX6_takesInRow 61 = .ok (.bipush 8, 2) := by decide +kernel
theorem dX6_takesInRow_63 : decode cX6_takesInRow 63 = .ok (.if_icmp .ge 7, 3) := by decide +kernel
theorem dX6_takesInRow_66 : decode cX6_takesInRow 66 = .ok (.iconst 1, 1) := by decide +kernel
theorem dX6_takesInRow_67 : decode cX6_takesInRow 67 = .ok (.goto 4, 3) := by decide +kernel
theorem dX6_takesInRow_70 : decode cX6_takesInRow 70 = .ok (.iconst 0, 1) := by decide +kernel
theorem dX6_takesInRow_71 : decode cX6_takesInRow 71 = .ok (.istore_n 3, 1) := by decide +kernel
theorem dX6_takesInRow_72 : decode cX6_takesInRow 72 = .ok (.iload_n 1, 1) := by decide +kernel
theorem dX6_takesInRow_73 : decode cX6_takesInRow 73 = .ok (.bipush 58, 2) := by decide +kernel
theorem dX6_takesInRow_75 : decode cX6_takesInRow 75 = .ok (.if_icmp .ne 15, 3) := by decide +kernel
theorem dX6_takesInRow_78 : decode cX6_takesInRow 78 = .ok (.aload_n 0, 1) := by decide +kernel
theorem dX6_takesInRow_79 : decode cX6_takesInRow 79 = .ok (.getfield 69, 3) := by decide +kernel
theorem dX6_takesInRow_82 : decode cX6_takesInRow 82 = .ok (.iconst 1, 1) := by decide +kernel
theorem dX6_takesInRow_83 : decode cX6_takesInRow 83 = .ok (.if_icmp .ne 7, 3) := by decide +kernel
theorem dX6_takesInRow_86 : decode cX6_takesInRow 86 = .ok (.iconst 1, 1) := by decide +kernel
theorem dX6_takesInRow_87 : decode cX6_takesInRow 87 = .ok (.goto 4, 3) := by decide +kernel
theorem dX6_takesInRow_90 : decode cX6_takesInRow 90 = .ok (.iconst 0, 1) := by decide +kernel
theorem dX6_takesInRow_91 : decode cX6_takesInRow 91 = .ok (.istore 4, 2) := by decide +kernel
theorem dX6_takesInRow_93 : decode cX6_takesInRow 93 = .ok (.aload_n 0, 1) := by decide +kernel
theorem dX6_takesInRow_94 : decode cX6_takesInRow 94 = .ok (.getfield 72, 3) := by decide +kernel
theorem dX6_takesInRow_97 : decode cX6_takesInRow 97 = .ok (.ifCond .eq 12, 3) := by decide +kernel
theorem dX6_takesInRow_100 : decode cX6_takesInRow 100 = .ok (.iload_n 3, 1) := by decide +kernel
theorem dX6_takesInRow_101 : decode cX6_takesInRow 101 = .ok (.ifCond .ne 10, 3) := by decide +kernel
theorem dX6_takesInRow_104 : decode cX6_takesInRow 104 = .ok (.iload 4, 2) := by decide +kernel
theorem dX6_takesInRow_106 : decode cX6_takesInRow 106 = .ok (.ifCond .ne 5, 3) := by decide +kernel
theorem dX6_takesInRow_109 : decode cX6_takesInRow 109 = .ok (.iconst 0, 1) := by decide +kernel
theorem dX6_takesInRow_110 : decode cX6_takesInRow 110 = .ok (.ireturn, 1) := by decide +kernel
theorem dX6_takesInRow_111 : decode cX6_takesInRow 111 = .ok (.aload_n 0, 1) := by decide +kernel
theorem dX6_takesInRow_112 : decode cX6_takesInRow 112 = .ok (.invokevirtual 95, 3) := by decide +kernel
theorem dX6_takesInRow_115 : decode cX6_takesInRow 115 = .ok (.aload_n 0, 1) := by decide +kernel
theorem dX6_takesInRow_116 : decode cX6_takesInRow 116 = .ok (.iload 4, 2) := by decide +kernel
theorem dX6_takesInRow_118 : decode cX6_takesInRow 118 = .ok (.ifCond .eq 7, 3) := by decide +kernel
theorem dX6_takesInRow_121 : decode cX6_takesInRow 121 = .ok (.iconst 4, 1) := by decide +kernel
theorem dX6_takesInRow_122 : decode cX6_takesInRow 122 = .ok (.goto 7, 3) := by decide +kernel
theorem dX6_takesInRow_125 : decode cX6_takesInRow 125 = .ok (.aload_n 0, 1) := by decide +kernel
theorem dX6_takesInRow_126 : decode cX6_takesInRow 126 = .ok (.getfield 69, 3) := by decide +kernel
theorem dX6_takesInRow_129 : decode cX6_takesInRow 129 = .ok (.invokevirtual 88, 3) := by decide +kernel
theorem dX6_takesInRow_132 : decode cX6_takesInRow 132 = .ok (.ireturn, 1) := by decide +kernel
set_option maxRecDepth 20000 in
theorem ggX6_takes_X6_begins : GoodIn wsX6_takes wsX6_begins := goodIn_r _ [7, 8, 9, 10, 11, 12, 13, 6, 14, 1, 15, 16, 34, 35, 36, 37, 38, 39, 40, 41, 42, 43, 44, 45, 46, 47, 48, 49, 50, 51, 52, 53, 54, 55, 56, 57, 58, 59, 60, 61, 62, 63, 64, 65, 66] (by decide +kernel) (by decide +kernel)
set_option maxRecDepth 20000 in
theorem gX6_takes_X6_begins : GoodIn wsX6_takes (wsV RX6 98 RX6 yX6_begins wsX6_begins) := goodIn_app (goodIn_of _ (by decide +kernel)) ggX6_takes_X6_begins
set_option maxRecDepth 20000 in
theorem ggX6_takes_X6_within : GoodIn wsX6_takes wsX6_within := goodIn_r _ [19] (by decide +kernel) (by decide +kernel)
set_option maxRecDepth 20000 in
theorem gX6_takes_X6_within : GoodIn wsX6_takes (va_wsS RX6 59 yX6_within wsX6_within) := goodIn_app (goodIn_of _ (by decide +kernel)) ggX6_takes_X6_within
set_option maxRecDepth 20000 in
theorem ggX6_takes_X6_goesTo : GoodIn wsX6_takes wsX6_goesTo := goodIn_r _ [14, 1, 15, 16, 34, 35, 36, 37, 38, 39, 40, 41, 42, 43, 44, 45, 46, 47, 48, 49, 50, 51, 52, 53, 54, 55, 56, 57, 58, 59, 60, 61, 62, 63, 64, 65, 66] (by decide +kernel) (by decide +kernel)
set_option maxRecDepth 20000 in
theorem gX6_takes_X6_goesTo : GoodIn wsX6_takes (wsV RX6 88 RX6 yX6_goesTo wsX6_goesTo) := goodIn_app (goodIn_of _ (by decide +kernel)) ggX6_takes_X6_goesTo
set_option maxRecDepth 20000 in
theorem ggX6_takes_X6_takesInRow : GoodIn wsX6_takes wsX6_takesInRow := goodIn_r _ [23, 1, 9, 10, 15, 17, 18, 6, 19, 24, 25, 26, 27, 16, 28, 29, 30, 31, 32, 33, 11, 12, 13, 14, 34, 35, 36, 37, 38, 39, 40, 41, 42, 43, 44, 45, 46, 47, 48, 49, 50, 51, 52, 53, 54, 55, 56, 57, 58, 59, 60, 61, 62, 63, 64, 65, 66] (by decide +kernel) (by decide +kernel)
set_option maxRecDepth 20000 in
theorem gX6_takes_X6_takesInRow : GoodIn wsX6_takes (wsV RX6 104 RX6 yX6_takesInRow wsX6_takesInRow) := goodIn_app (goodIn_of _ (by decide +kernel)) ggX6_takes_X6_takesInRow
theorem dX6_takes_0 : decode cX6_takes 0 = .ok (.aload_n 0, 1) := by decide +kernel
theorem dX6_takes_1 : decode cX6_takes 1 = .ok (.getfield 69, 3) := by decide +kernel
theorem dX6_takes_4 : decode cX6_takes 4 = .ok (.ifCond .ne 9, 3) := by decide +kernel
theorem dX6_takes_7 : decode cX6_takes 7 = .ok (.aload_n 0, 1) := by decide +kernel
theorem dX6_takes_8 : decode cX6_takes 8 = .ok (.iload_n 1, 1) := by decide +kernel
theorem dX6_takes_9 : decode cX6_takes 9 = .ok (.invokevirtual 98, 3) := by decide +kernel
theorem dX6_takes_12 : decode cX6_takes 12 = .ok (.ireturn, 1) := by decide +kernel
theorem dX6_takes_13 : decode cX6_takes 13 = .ok (.aload_n 0, 1) := by decide +kernel
theorem dX6_takes_14 : decode cX6_takes 14 = .ok (.getfield 69, 3) := by decide +kernel
theorem dX6_takes_17 : decode cX6_takes 17 = .ok (.iconst 2, 1) := by decide +kernel
theorem dX6_takes_18 : decode cX6_takes 18 = .ok (.if_icmp .ne 37, 3) := by decide +kernel
theorem dX6_takes_21 : decode cX6_takes 21 = .ok (.aload_n 0, 1) := by decide +kernel
theorem dX6_takes_22 : decode cX6_takes 22 = .ok (.iload_n 1, 1) := by decide +kernel
theorem dX6_takes_23 : decode cX6_takes 23 = .ok (.bipush 48, 2) := by decide +kernel
theorem dX6_takes_25 : decode cX6_takes 25 = .ok (.isub, 1) := by decide +kernel
theorem dX6_takes_26 : decode cX6_takes 26 = .ok (.putfield 101, 3) := by decide +kernel
theorem dX6_takes_29 : decode cX6_takes 29 = .ok (.aload_n 0, 1) := by decide +kernel
theorem dX6_takes_30 : decode cX6_takes 30 = .ok (.getfield 101, 3) := by decide +kernel
theorem dX6_takes_33 : decode cX6_takes 33 = .ok (.iconst 1, 1) := by decide +kernel
theorem dX6_takes_34 : decode cX6_takes 34 = .ok (.iconst 4, 1) := by decide +kernel
theorem dX6_takes_35 : decode cX6_takes 35 = .ok (.invokestatic 59, 3) := by decide +kernel
theorem dX6_takes_38 : decode cX6_takes 38 = .ok (.ifCond .eq 15, 3) := by decide +kernel
theorem dX6_takes_41 : decode cX6_takes 41 = .ok (.aload_n 0, 1) := by decide +kernel
theorem dX6_takes_42 : decode cX6_takes 42 = .ok (.iconst 3, 1) := by decide +kernel
theorem dX6_takes_43 : decode cX6_takes 43 = .ok (.invokevirtual 88, 3) := by decide +kernel
theorem dX6_takes_46 : decode cX6_takes 46 = .ok (.ifCond .eq 7, 3) := by decide +kernel
theorem dX6_takes_49 : decode cX6_takes 49 = .ok (.iconst 1, 1) := by decide +kernel
theorem dX6_takes_50 : decode cX6_takes 50 = .ok (.goto 4, 3) := by decide +kernel
theorem dX6_takes_53 : decode cX6_takes 53 = .ok (.iconst 0, 1) := by decide +kernel
theorem dX6_takes_54 : decode cX6_takes 54 = .ok (.ireturn, 1) := by decide +kernel
theorem dX6_takes_55 : decode cX6_takes 55 = .ok (.aload_n 0, 1) := by decide +kernel
theorem dX6_takes_56 : decode cX6_takes 56 = .ok (.getfield 69, 3) := by decide +kernel
theorem dX6_takes_59 : decode cX6_takes 59 = .ok (.iconst 3, 1) := by decide +kernel
theorem dX6_takes_60 : decode cX6_takes 60 = .ok (.if_icmp .ne 23, 3) := by decide +kernel
theorem dX6_takes_63 : decode cX6_takes 63 = .ok (.iload_n 1, 1) := by decide +kernel
theorem dX6_takes_64 : decode cX6_takes 64 = .ok (.bipush 58, 2) := by decide +kernel
theorem dX6_takes_66 : decode cX6_takes 66 = .ok (.if_icmp .ne 15, 3) := by decide +kernel
theorem dX6_takes_69 : decode cX6_takes 69 = .ok (.aload_n 0, 1) := by decide +kernel
theorem dX6_takes_70 : decode cX6_takes 70 = .ok (.iconst 4, 1) := by decide +kernel
theorem dX6_takes_71 : decode cX6_takes 71 = .ok (.invokevirtual 88, 3) := by decide +kernel
theorem dX6_takes_74 : decode cX6_takes 74 = .ok (.ifCond .eq 7, 3) := by decide +kernel
theorem dX6_takes_77 : decode cX6_takes 77 = .ok (.iconst 1, 1) := by decide +kernel
theorem dX6_takes_78 : decode cX6_takes 78 = .ok (.goto 4, 3) := by decide +kernel
theorem dX6_takes_81 : decode cX6_takes 81 = .ok (.iconst 0, 1) := by decide +kernel
theorem dX6_takes_82 : decode cX6_takes 82 = .ok (.ireturn, 1) := by decide +kernel
theorem dX6_takes_83 : decode cX6_takes 83 = .ok (.aload_n 0, 1) := by decide +kernel
theorem dX6_takes_84 : decode cX6_takes 84 = .ok (.iload_n 1, 1) := by decide +kernel
theorem dX6_takes_85 : decode cX6_takes 85 = .ok (.invokevirtual 104, 3) := by decide +kernel
theorem dX6_takes_88 : decode cX6_takes 88 = .ok (.ireturn, 1) := by decide +kernel
set_option maxRecDepth 20000 in
theorem ggX6_goAlong_X6_goesTo : GoodIn wsX6_goAlong wsX6_goesTo := goodIn_r _ [7, 8, 9, 10, 40, 41, 42, 43, 44, 45, 46, 47, 48, 49, 50, 51, 52, 53, 54, 55, 56, 57, 58, 59, 60, 61, 62, 63, 64, 65, 66, 67, 68, 69, 70, 71, 72] (by decide +kernel) (by decide +kernel)
set_option maxRecDepth 20000 in
theorem gX6_goAlong_X6_goesTo : GoodIn wsX6_goAlong (wsV RX6 88 RX6 yX6_goesTo wsX6_goesTo) := goodIn_app (goodIn_of _ (by decide +kernel)) ggX6_goAlong_X6_goesTo
set_option maxRecDepth 20000 in
theorem ggX6_goAlong_X6_takes : GoodIn wsX6_goAlong wsX6_takes := goodIn_r _ [14, 8, 15, 16, 17, 18, 6, 19, 20, 21, 22, 3, 4, 5, 7, 9, 10, 23, 24, 25, 26, 27, 28, 29, 30, 31, 32, 33, 34, 35, 36, 37, 38, 39, 40, 41, 42, 43, 44, 45, 46, 47, 48, 49, 50, 51, 52, 53, 54, 55, 56, 57, 58, 59, 60, 61, 62, 63, 64, 65, 66, 67, 68, 69, 70, 71, 72] (by decide +kernel) (by decide +kernel)
set_option maxRecDepth 20000 in
theorem gX6_goAlong_X6_takes : GoodIn wsX6_goAlong (wsV RX6 107 RX6 yX6_takes wsX6_takes) := goodIn_app (goodIn_of _ (by decide +kernel)) ggX6_goAlong_X6_takes
theorem dX6_goAlong_0 : decode cX6_goAlong 0 = .ok (.aload_n 0, 1) := by decide +kernel
theorem dX6_goAlong_1 : decode cX6_goAlong 1 = .ok (.iconst 0, 1) := by decide +kernel
theorem dX6_goAlong_2 : decode cX6_goAlong 2 = .ok (.invokevirtual 88, 3) := by decide +kernel
theorem dX6_goAlong_5 : decode cX6_goAlong 5 = .ok (.pop, 1) := by decide +kernel
theorem dX6_goAlong_6 : decode cX6_goAlong 6 = .ok (.iconst 0, 1) := by decide +kernel
theorem dX6_goAlong_7 : decode cX6_goAlong 7 = .ok (.istore_n 1, 1) := by decide +kernel
theorem dX6_goAlong_8 : decode cX6_goAlong 8 = .ok (.iload_n 1, 1) := by decide +kernel
theorem dX6_goAlong_9 : decode cX6_goAlong 9 = .ok (.aload_n 0, 1) := by decide +kernel
theorem dX6_goAlong_10 : decode cX6_goAlong 10 = .ok (.getfield 64, 3) := by decide +kernel
theorem dX6_goAlong_13 : decode cX6_goAlong 13 = .ok (.if_icmp .ge 22, 3) := by decide +kernel
theorem dX6_goAlong_16 : decode cX6_goAlong 16 = .ok (.aload_n 0, 1) := by decide +kernel
theorem dX6_goAlong_17 : decode cX6_goAlong 17 = .ok (.aload_n 0, 1) := by decide +kernel
theorem dX6_goAlong_18 : decode cX6_goAlong 18 = .ok (.getfield 7, 3) := by decide +kernel
theorem dX6_goAlong_21 : decode cX6_goAlong 21 = .ok (.iload_n 1, 1) := by decide +kernel
theorem dX6_goAlong_22 : decode cX6_goAlong 22 = .ok (.iaload, 1) := by decide +kernel
theorem dX6_goAlong_23 : decode cX6_goAlong 23 = .ok (.invokevirtual 107, 3) := by decide +kernel
theorem dX6_goAlong_26 : decode cX6_goAlong 26 = .ok (.ifCond .eq 9, 3) := by decide +kernel
theorem dX6_goAlong_29 : decode cX6_goAlong 29 = .ok (.iinc 1 1, 3) := by decide +kernel
theorem dX6_goAlong_32 : decode cX6_goAlong 32 = .ok (.goto (-24), 3) := by decide +kernel
theorem dX6_goAlong_35 : decode cX6_goAlong 35 = .ok (.iload_n 1, 1) := by decide +kernel
theorem dX6_goAlong_36 : decode cX6_goAlong 36 = .ok (.ireturn, 1) := by decide +kernel
set_option maxRecDepth 20000 in
theorem ggX6_fault_X6_goAlong : GoodIn wsX6_fault wsX6_goAlong := goodIn_r _ [5, 6, 7, 8, 9, 10, 4, 11, 12, 13, 14, 15, 16, 17, 18, 19, 20, 21, 22, 23, 24, 25, 26, 27, 28, 29, 30, 31, 32, 33, 34, 35, 36, 37, 38, 39, 40, 41, 42, 43, 44, 45, 46, 47, 48, 49, 50, 51, 52, 53, 54, 55, 56, 57, 58, 59, 60, 61, 62, 63, 64, 65, 66, 67, 68, 69, 70, 71, 72, 73, 74, 75, 76] (by decide +kernel) (by decide +kernel)
set_option maxRecDepth 20000 in
theorem gX6_fault_X6_goAlong : GoodIn wsX6_fault (wsV RX6 110 RX6 yX6_goAlong wsX6_goAlong) := goodIn_app (goodIn_of _ (by decide +kernel)) ggX6_fault_X6_goAlong
theorem dX6_fault_0 : decode cX6_fault 0 = .ok (.aload_n 0, 1) := by decide +kernel
theorem dX6_fault_1 : decode cX6_fault 1 = .ok (.invokevirtual 110, 3) := by decide +kernel
theorem dX6_fault_4 : decode cX6_fault 4 = .ok (.ireturn, 1) := by decide +kernel
theorem dX6_takeStorm_0 : decode cX6_takeStorm 0 = .ok (.aload_n 0, 1) := by decide +kernel
theorem dX6_takeStorm_1 : decode cX6_takeStorm 1 = .ok (.getfield 13, 3) := by decide +kernel
theorem dX6_takeStorm_4 : decode cX6_takeStorm 4 = .ok (.aload_n 0, 1) := by decide +kernel
theorem dX6_takeStorm_5 : decode cX6_takeStorm 5 = .ok (.getfield 114, 3) := by decide +kernel
theorem dX6_takeStorm_8 : decode cX6_takeStorm 8 = .ok (.aload_n 0, 1) := by decide +kernel
theorem dX6_takeStorm_9 : decode cX6_takeStorm 9 = .ok (.getfield 82, 3) := by decide +kernel
theorem dX6_takeStorm_12 : decode cX6_takeStorm 12 = .ok (.iastore, 1) := by decide +kernel
theorem dX6_takeStorm_13 : decode cX6_takeStorm 13 = .ok (.aload_n 0, 1) := by decide +kernel
theorem dX6_takeStorm_14 : decode cX6_takeStorm 14 = .ok (.getfield 19, 3) := by decide +kernel
theorem dX6_takeStorm_17 : decode cX6_takeStorm 17 = .ok (.aload_n 0, 1) := by decide +kernel
theorem dX6_takeStorm_18 : decode cX6_takeStorm 18 = .ok (.getfield 114, 3) := by decide +kernel
theorem dX6_takeStorm_21 : decode cX6_takeStorm 21 = .ok (.aload_n 0, 1) := by decide +kernel
theorem dX6_takeStorm_22 : decode cX6_takeStorm 22 = .ok (.getfield 85, 3) := by decide +kernel
theorem dX6_takeStorm_25 : decode cX6_takeStorm 25 = .ok (.iastore, 1) := by decide +kernel
theorem dX6_takeStorm_26 : decode cX6_takeStorm 26 = .ok (.iconst 0, 1) := by decide +kernel
theorem dX6_takeStorm_27 : decode cX6_takeStorm 27 = .ok (.istore_n 1, 1) := by decide +kernel
theorem dX6_takeStorm_28 : decode cX6_takeStorm 28 = .ok (.iload_n 1, 1) := by decide +kernel
theorem dX6_takeStorm_29 : decode cX6_takeStorm 29 = .ok (.iconst 3, 1) := by decide +kernel
theorem dX6_takeStorm_30 : decode cX6_takeStorm 30 = .ok (.if_icmp .ge 40, 3) := by decide +kernel
theorem dX6_takeStorm_33 : decode cX6_takeStorm 33 = .ok (.aload_n 0, 1) := by decide +kernel
theorem dX6_takeStorm_34 : decode cX6_takeStorm 34 = .ok (.getfield 16, 3) := by decide +kernel
theorem dX6_takeStorm_37 : decode cX6_takeStorm 37 = .ok (.iconst 3, 1) := by decide +kernel
theorem dX6_takeStorm_38 : decode cX6_takeStorm 38 = .ok (.aload_n 0, 1) := by decide +kernel
theorem dX6_takeStorm_39 : decode cX6_takeStorm 39 = .ok (.getfield 114, 3) := by decide +kernel
theorem dX6_takeStorm_42 : decode cX6_takeStorm 42 = .ok (.imul, 1) := by decide +kernel
theorem dX6_takeStorm_43 : decode cX6_takeStorm 43 = .ok (.iload_n 1, 1) := by decide +kernel
theorem dX6_takeStorm_44 : decode cX6_takeStorm 44 = .ok (.iadd, 1) := by decide +kernel
theorem dX6_takeStorm_45 : decode cX6_takeStorm 45 = .ok (.iload_n 1, 1) := by decide +kernel
theorem dX6_takeStorm_46 : decode cX6_takeStorm 46 = .ok (.aload_n 0, 1) := by decide +kernel
theorem dX6_takeStorm_47 : decode cX6_takeStorm 47 = .ok (.getfield 82, 3) := by decide +kernel
theorem dX6_takeStorm_50 : decode cX6_takeStorm 50 = .ok (.if_icmp .ge 12, 3) := by decide +kernel
theorem dX6_takeStorm_53 : decode cX6_takeStorm 53 = .ok (.aload_n 0, 1) := by decide +kernel
theorem dX6_takeStorm_54 : decode cX6_takeStorm 54 = .ok (.getfield 34, 3) := by decide +kernel
theorem dX6_takeStorm_57 : decode cX6_takeStorm 57 = .ok (.iload_n 1, 1) := by decide +kernel
theorem dX6_takeStorm_58 : decode cX6_takeStorm 58 = .ok (.iaload, 1) := by decide +kernel
theorem dX6_takeStorm_59 : decode cX6_takeStorm 59 = .ok (.goto 4, 3) := by decide +kernel
theorem dX6_takeStorm_62 : decode cX6_takeStorm 62 = .ok (.iconst 0, 1) := by decide +kernel
theorem dX6_takeStorm_63 : decode cX6_takeStorm 63 = .ok (.iastore, 1) := by decide +kernel
theorem dX6_takeStorm_64 : decode cX6_takeStorm 64 = .ok (.iinc 1 1, 3) := by decide +kernel
theorem dX6_takeStorm_67 : decode cX6_takeStorm 67 = .ok (.goto (-39), 3) := by decide +kernel
theorem dX6_takeStorm_70 : decode cX6_takeStorm 70 = .ok (.iconst 0, 1) := by decide +kernel
theorem dX6_takeStorm_71 : decode cX6_takeStorm 71 = .ok (.istore_n 1, 1) := by decide +kernel
theorem dX6_takeStorm_72 : decode cX6_takeStorm 72 = .ok (.iload_n 1, 1) := by decide +kernel
theorem dX6_takeStorm_73 : decode cX6_takeStorm 73 = .ok (.bipush 8, 2) := by decide +kernel
theorem dX6_takeStorm_75 : decode cX6_takeStorm 75 = .ok (.if_icmp .ge 41, 3) := by decide +kernel
theorem dX6_takeStorm_78 : decode cX6_takeStorm 78 = .ok (.aload_n 0, 1) := by decide +kernel
theorem dX6_takeStorm_79 : decode cX6_takeStorm 79 = .ok (.getfield 22, 3) := by decide +kernel
theorem dX6_takeStorm_82 : decode cX6_takeStorm 82 = .ok (.bipush 8, 2) := by decide +kernel
theorem dX6_takeStorm_84 : decode cX6_takeStorm 84 = .ok (.aload_n 0, 1) := by decide +kernel
theorem dX6_takeStorm_85 : decode cX6_takeStorm 85 = .ok (.getfield 114, 3) := by decide +kernel
theorem dX6_takeStorm_88 : decode cX6_takeStorm 88 = .ok (.imul, 1) := by decide +kernel
theorem dX6_takeStorm_89 : decode cX6_takeStorm 89 = .ok (.iload_n 1, 1) := by decide +kernel
theorem dX6_takeStorm_90 : decode cX6_takeStorm 90 = .ok (.iadd, 1) := by decide +kernel
theorem dX6_takeStorm_91 : decode cX6_takeStorm 91 = .ok (.iload_n 1, 1) := by decide +kernel
theorem dX6_takeStorm_92 : decode cX6_takeStorm 92 = .ok (.aload_n 0, 1) := by decide +kernel
theorem dX6_takeStorm_93 : decode cX6_takeStorm 93 = .ok (.getfield 85, 3) := by decide +kernel
theorem dX6_takeStorm_96 : decode cX6_takeStorm 96 = .ok (.if_icmp .ge 12, 3) := by decide +kernel
theorem dX6_takeStorm_99 : decode cX6_takeStorm 99 = .ok (.aload_n 0, 1) := by decide +kernel
theorem dX6_takeStorm_100 : decode cX6_takeStorm 100 = .ok (.getfield 37, 3) := by decide +kernel
theorem dX6_takeStorm_103 : decode cX6_takeStorm 103 = .ok (.iload_n 1, 1) := by decide +kernel
theorem dX6_takeStorm_104 : decode cX6_takeStorm 104 = .ok (.iaload, 1) := by decide +kernel
theorem dX6_takeStorm_105 : decode cX6_takeStorm 105 = .ok (.goto 4, 3) := by decide +kernel
theorem dX6_takeStorm_108 : decode cX6_takeStorm 108 = .ok (.iconst 0, 1) := by decide +kernel
theorem dX6_takeStorm_109 : decode cX6_takeStorm 109 = .ok (.iastore, 1) := by decide +kernel
theorem dX6_takeStorm_110 : decode cX6_takeStorm 110 = .ok (.iinc 1 1, 3) := by decide +kernel
theorem dX6_takeStorm_113 : decode cX6_takeStorm 113 = .ok (.goto (-41), 3) := by decide +kernel
theorem dX6_takeStorm_116 : decode cX6_takeStorm 116 = .ok (.aload_n 0, 1) := by decide +kernel
theorem dX6_takeStorm_117 : decode cX6_takeStorm 117 = .ok (.dup, 1) := by decide +kernel
theorem dX6_takeStorm_118 : decode cX6_takeStorm 118 = .ok (.getfield 114, 3) := by decide +kernel
theorem dX6_takeStorm_121 : decode cX6_takeStorm 121 = .ok (.iconst 1, 1) := by decide +kernel
theorem dX6_takeStorm_122 : decode cX6_takeStorm 122 = .ok (.iadd, 1) := by decide +kernel
theorem dX6_takeStorm_123 : decode cX6_takeStorm 123 = .ok (.putfield 114, 3) := by decide +kernel
theorem dX6_takeStorm_126 : decode cX6_takeStorm 126 = .ok (.aload_n 0, 1) := by decide +kernel
theorem dX6_takeStorm_127 : decode cX6_takeStorm 127 = .ok (.getfield 114, 3) := by decide +kernel
theorem dX6_takeStorm_130 : decode cX6_takeStorm 130 = .ok (.iconst 1, 1) := by decide +kernel
theorem dX6_takeStorm_131 : decode cX6_takeStorm 131 = .ok (.isub, 1) := by decide +kernel
theorem dX6_takeStorm_132 : decode cX6_takeStorm 132 = .ok (.ireturn, 1) := by decide +kernel
theorem dX6_takeUnit_0 : decode cX6_takeUnit 0 = .ok (.aload_n 0, 1) := by decide +kernel
theorem dX6_takeUnit_1 : decode cX6_takeUnit 1 = .ok (.getfield 25, 3) := by decide +kernel
theorem dX6_takeUnit_4 : decode cX6_takeUnit 4 = .ok (.aload_n 0, 1) := by decide +kernel
theorem dX6_takeUnit_5 : decode cX6_takeUnit 5 = .ok (.getfield 117, 3) := by decide +kernel
theorem dX6_takeUnit_8 : decode cX6_takeUnit 8 = .ok (.aload_n 0, 1) := by decide +kernel
theorem dX6_takeUnit_9 : decode cX6_takeUnit 9 = .ok (.getfield 101, 3) := by decide +kernel
theorem dX6_takeUnit_12 : decode cX6_takeUnit 12 = .ok (.iastore, 1) := by decide +kernel
theorem dX6_takeUnit_13 : decode cX6_takeUnit 13 = .ok (.aload_n 0, 1) := by decide +kernel
theorem dX6_takeUnit_14 : decode cX6_takeUnit 14 = .ok (.getfield 28, 3) := by decide +kernel
theorem dX6_takeUnit_17 : decode cX6_takeUnit 17 = .ok (.aload_n 0, 1) := by decide +kernel
theorem dX6_takeUnit_18 : decode cX6_takeUnit 18 = .ok (.getfield 117, 3) := by decide +kernel
theorem dX6_takeUnit_21 : decode cX6_takeUnit 21 = .ok (.aload_n 0, 1) := by decide +kernel
theorem dX6_takeUnit_22 : decode cX6_takeUnit 22 = .ok (.getfield 85, 3) := by decide +kernel
theorem dX6_takeUnit_25 : decode cX6_takeUnit 25 = .ok (.iastore, 1) := by decide +kernel
theorem dX6_takeUnit_26 : decode cX6_takeUnit 26 = .ok (.iconst 0, 1) := by decide +kernel
theorem dX6_takeUnit_27 : decode cX6_takeUnit 27 = .ok (.istore_n 1, 1) := by decide +kernel
theorem dX6_takeUnit_28 : decode cX6_takeUnit 28 = .ok (.iload_n 1, 1) := by decide +kernel
theorem dX6_takeUnit_29 : decode cX6_takeUnit 29 = .ok (.bipush 8, 2) := by decide +kernel
theorem dX6_takeUnit_31 : decode cX6_takeUnit 31 = .ok (.if_icmp .ge 41, 3) := by decide +kernel
theorem dX6_takeUnit_34 : decode cX6_takeUnit 34 = .ok (.aload_n 0, 1) := by decide +kernel
theorem dX6_takeUnit_35 : decode cX6_takeUnit 35 = .ok (.getfield 31, 3) := by decide +kernel
theorem dX6_takeUnit_38 : decode cX6_takeUnit 38 = .ok (.bipush 8, 2) := by decide +kernel
theorem dX6_takeUnit_40 : decode cX6_takeUnit 40 = .ok (.aload_n 0, 1) := by decide +kernel
theorem dX6_takeUnit_41 : decode cX6_takeUnit 41 = .ok (.getfield 117, 3) := by decide +kernel
theorem dX6_takeUnit_44 : decode cX6_takeUnit 44 = .ok (.imul, 1) := by decide +kernel
theorem dX6_takeUnit_45 : decode cX6_takeUnit 45 = .ok (.iload_n 1, 1) := by decide +kernel
theorem dX6_takeUnit_46 : decode cX6_takeUnit 46 = .ok (.iadd, 1) := by decide +kernel
theorem dX6_takeUnit_47 : decode cX6_takeUnit 47 = .ok (.iload_n 1, 1) := by decide +kernel
theorem dX6_takeUnit_48 : decode cX6_takeUnit 48 = .ok (.aload_n 0, 1) := by decide +kernel
theorem dX6_takeUnit_49 : decode cX6_takeUnit 49 = .ok (.getfield 85, 3) := by decide +kernel
theorem dX6_takeUnit_52 : decode cX6_takeUnit 52 = .ok (.if_icmp .ge 12, 3) := by decide +kernel
theorem dX6_takeUnit_55 : decode cX6_takeUnit 55 = .ok (.aload_n 0, 1) := by decide +kernel
theorem dX6_takeUnit_56 : decode cX6_takeUnit 56 = .ok (.getfield 37, 3) := by decide +kernel
theorem dX6_takeUnit_59 : decode cX6_takeUnit 59 = .ok (.iload_n 1, 1) := by decide +kernel
theorem dX6_takeUnit_60 : decode cX6_takeUnit 60 = .ok (.iaload, 1) := by decide +kernel
theorem dX6_takeUnit_61 : decode cX6_takeUnit 61 = .ok (.goto 4, 3) := by decide +kernel
theorem dX6_takeUnit_64 : decode cX6_takeUnit 64 = .ok (.iconst 0, 1) := by decide +kernel
theorem dX6_takeUnit_65 : decode cX6_takeUnit 65 = .ok (.iastore, 1) := by decide +kernel
theorem dX6_takeUnit_66 : decode cX6_takeUnit 66 = .ok (.iinc 1 1, 3) := by decide +kernel
theorem dX6_takeUnit_69 : decode cX6_takeUnit 69 = .ok (.goto (-41), 3) := by decide +kernel
theorem dX6_takeUnit_72 : decode cX6_takeUnit 72 = .ok (.aload_n 0, 1) := by decide +kernel
theorem dX6_takeUnit_73 : decode cX6_takeUnit 73 = .ok (.dup, 1) := by decide +kernel
theorem dX6_takeUnit_74 : decode cX6_takeUnit 74 = .ok (.getfield 117, 3) := by decide +kernel
theorem dX6_takeUnit_77 : decode cX6_takeUnit 77 = .ok (.iconst 1, 1) := by decide +kernel
theorem dX6_takeUnit_78 : decode cX6_takeUnit 78 = .ok (.iadd, 1) := by decide +kernel
theorem dX6_takeUnit_79 : decode cX6_takeUnit 79 = .ok (.putfield 117, 3) := by decide +kernel
theorem dX6_takeUnit_82 : decode cX6_takeUnit 82 = .ok (.aload_n 0, 1) := by decide +kernel
theorem dX6_takeUnit_83 : decode cX6_takeUnit 83 = .ok (.getfield 117, 3) := by decide +kernel
theorem dX6_takeUnit_86 : decode cX6_takeUnit 86 = .ok (.iconst 1, 1) := by decide +kernel
theorem dX6_takeUnit_87 : decode cX6_takeUnit 87 = .ok (.isub, 1) := by decide +kernel
theorem dX6_takeUnit_88 : decode cX6_takeUnit 88 = .ok (.ireturn, 1) := by decide +kernel
set_option maxRecDepth 20000 in
theorem ggX6_take_X6_goAlong : GoodIn wsX6_take wsX6_goAlong := goodIn_r _ [14, 1, 15, 16, 17, 18, 13, 19, 2, 3, 20, 21, 22, 23, 24, 25, 26, 27, 28, 29, 5, 30, 31, 32, 33, 34, 35, 36, 37, 38, 39, 40, 41, 42, 43, 44, 45, 46, 47, 48, 64, 65, 66, 67, 68, 69, 70, 71, 72, 73, 74, 75, 76, 77, 78, 79, 80, 81, 82, 83, 84, 85, 86, 87, 88, 89, 90, 91, 92, 93, 94, 95, 96] (by decide +kernel) (by decide +kernel)
set_option maxRecDepth 20000 in
theorem gX6_take_X6_goAlong : GoodIn wsX6_take (wsV RX6 110 RX6 yX6_goAlong wsX6_goAlong) := goodIn_app (goodIn_of _ (by decide +kernel)) ggX6_take_X6_goAlong
set_option maxRecDepth 20000 in
theorem ggX6_take_X6_keepNumber : GoodIn wsX6_take wsX6_keepNumber := goodIn_r _ [46, 2, 47, 30, 20, 48, 31, 64, 65, 66, 67, 68, 69, 70, 71, 72, 73, 74, 75, 76, 77, 78, 79, 80, 81, 82, 83, 84, 85, 86, 87, 88, 89, 90, 91, 92, 93, 94, 95, 96] (by decide +kernel) (by decide +kernel)
set_option maxRecDepth 20000 in
theorem gX6_take_X6_keepNumber : GoodIn wsX6_take (wsV RX6 95 RX6 yX6_keepNumber wsX6_keepNumber) := goodIn_app (goodIn_of _ (by decide +kernel)) ggX6_take_X6_keepNumber
set_option maxRecDepth 20000 in
theorem ggX6_take_X6_takeUnit : GoodIn wsX6_take wsX6_takeUnit := goodIn_r _ [52, 53, 6, 25, 54, 31, 55, 48, 64, 65, 66, 67, 68, 69, 70, 71, 72, 73, 74, 75, 76, 77, 78, 79, 80, 81, 82, 83, 84, 85, 86, 87, 88, 89, 90, 91, 92, 93, 94, 95, 96] (by decide +kernel) (by decide +kernel)
set_option maxRecDepth 20000 in
theorem gX6_take_X6_takeUnit : GoodIn wsX6_take (wsV RX6 124 RX6 yX6_takeUnit wsX6_takeUnit) := goodIn_app (goodIn_of _ (by decide +kernel)) ggX6_take_X6_takeUnit
set_option maxRecDepth 20000 in
theorem ggX6_take_X6_takeStorm : GoodIn wsX6_take wsX6_takeStorm := goodIn_r _ [59, 60, 7, 30, 61, 31, 62, 47, 63, 48, 64, 65, 66, 67, 68, 69, 70, 71, 72, 73, 74, 75, 76, 77, 78, 79, 80, 81, 82, 83, 84, 85, 86, 87, 88, 89, 90, 91, 92, 93, 94, 95, 96] (by decide +kernel) (by decide +kernel)
set_option maxRecDepth 20000 in
theorem gX6_take_X6_takeStorm : GoodIn wsX6_take (wsV RX6 127 RX6 yX6_takeStorm wsX6_takeStorm) := goodIn_app (goodIn_of _ (by decide +kernel)) ggX6_take_X6_takeStorm
theorem dX6_take_0 : decode cX6_take 0 = .ok (.aload_n 0, 1) := by decide +kernel
theorem dX6_take_1 : decode cX6_take 1 = .ok (.invokevirtual 110, 3) := by decide +kernel
theorem dX6_take_4 : decode cX6_take 4 = .ok (.aload_n 0, 1) := by decide +kernel
theorem dX6_take_5 : decode cX6_take 5 = .ok (.getfield 64, 3) := by decide +kernel
theorem dX6_take_8 : decode cX6_take 8 = .ok (.if_icmp .lt 18, 3) := by decide +kernel
theorem dX6_take_11 : decode cX6_take 11 = .ok (.aload_n 0, 1) := by decide +kernel
theorem dX6_take_12 : decode cX6_take 12 = .ok (.getfield 69, 3) := by decide +kernel
theorem dX6_take_15 : decode cX6_take 15 = .ok (.iconst 4, 1) := by decide +kernel
theorem dX6_take_16 : decode cX6_take 16 = .ok (.if_icmp .ne 10, 3) := by decide +kernel
theorem dX6_take_19 : decode cX6_take 19 = .ok (.aload_n 0, 1) := by decide +kernel
theorem dX6_take_20 : decode cX6_take 20 = .ok (.getfield 72, 3) := by decide +kernel
theorem dX6_take_23 : decode cX6_take 23 = .ok (.ifCond .ne 6, 3) := by decide +kernel
theorem dX6_take_26 : decode cX6_take 26 = .ok (.ldc 120, 2) := by decide +kernel
theorem dX6_take_28 : decode cX6_take 28 = .ok (.ireturn, 1) := by decide +kernel
theorem dX6_take_29 : decode cX6_take 29 = .ok (.aload_n 0, 1) := by decide +kernel
theorem dX6_take_30 : decode cX6_take 30 = .ok (.getfield 78, 3) := by decide +kernel
theorem dX6_take_33 : decode cX6_take 33 = .ok (.ifCond .eq 14, 3) := by decide +kernel
theorem dX6_take_36 : decode cX6_take 36 = .ok (.aload_n 0, 1) := by decide +kernel
theorem dX6_take_37 : decode cX6_take 37 = .ok (.getfield 117, 3) := by decide +kernel
theorem dX6_take_40 : decode cX6_take 40 = .ok (.iconst 4, 1) := by decide +kernel
theorem dX6_take_41 : decode cX6_take 41 = .ok (.if_icmp .ne 17, 3) := by decide +kernel
theorem dX6_take_44 : decode cX6_take 44 = .ok (.goto 11, 3) := by decide +kernel
theorem dX6_take_47 : decode cX6_take 47 = .ok (.aload_n 0, 1) := by decide +kernel
theorem dX6_take_48 : decode cX6_take 48 = .ok (.getfield 114, 3) := by decide +kernel
theorem dX6_take_51 : decode cX6_take 51 = .ok (.iconst 3, 1) := by decide +kernel
theorem dX6_take_52 : decode cX6_take 52 = .ok (.if_icmp .ne 6, 3) := by decide +kernel
theorem dX6_take_55 : decode cX6_take 55 = .ok (.ldc 68, 2) := by decide +kernel
theorem dX6_take_57 : decode cX6_take 57 = .ok (.ireturn, 1) := by decide +kernel
theorem dX6_take_58 : decode cX6_take 58 = .ok (.aload_n 0, 1) := by decide +kernel
theorem dX6_take_59 : decode cX6_take 59 = .ok (.invokevirtual 95, 3) := by decide +kernel
theorem dX6_take_62 : decode cX6_take 62 = .ok (.aload_n 0, 1) := by decide +kernel
theorem dX6_take_63 : decode cX6_take 63 = .ok (.iconst 0, 1) := by decide +kernel
theorem dX6_take_64 : decode cX6_take 64 = .ok (.putfield 64, 3) := by decide +kernel
theorem dX6_take_67 : decode cX6_take 67 = .ok (.aload_n 0, 1) := by decide +kernel
theorem dX6_take_68 : decode cX6_take 68 = .ok (.dup, 1) := by decide +kernel
theorem dX6_take_69 : decode cX6_take 69 = .ok (.getfield 121, 3) := by decide +kernel
theorem dX6_take_72 : decode cX6_take 72 = .ok (.iconst 1, 1) := by decide +kernel
theorem dX6_take_73 : decode cX6_take 73 = .ok (.iadd, 1) := by decide +kernel
theorem dX6_take_74 : decode cX6_take 74 = .ok (.putfield 121, 3) := by decide +kernel
theorem dX6_take_77 : decode cX6_take 77 = .ok (.aload_n 0, 1) := by decide +kernel
theorem dX6_take_78 : decode cX6_take 78 = .ok (.getfield 78, 3) := by decide +kernel
theorem dX6_take_81 : decode cX6_take 81 = .ok (.ifCond .eq 10, 3) := by decide +kernel
theorem dX6_take_84 : decode cX6_take 84 = .ok (.aload_n 0, 1) := by decide +kernel
theorem dX6_take_85 : decode cX6_take 85 = .ok (.invokevirtual 124, 3) := by decide +kernel
theorem dX6_take_88 : decode cX6_take 88 = .ok (.goto 7, 3) := by decide +kernel
theorem dX6_take_91 : decode cX6_take 91 = .ok (.aload_n 0, 1) := by decide +kernel
theorem dX6_take_92 : decode cX6_take 92 = .ok (.invokevirtual 127, 3) := by decide +kernel
theorem dX6_take_95 : decode cX6_take 95 = .ok (.ireturn, 1) := by decide +kernel
theorem dX6_dropStorm_0 : decode cX6_dropStorm 0 = .ok (.aload_n 0, 1) := by decide +kernel
theorem dX6_dropStorm_1 : decode cX6_dropStorm 1 = .ok (.dup, 1) := by decide +kernel
theorem dX6_dropStorm_2 : decode cX6_dropStorm 2 = .ok (.getfield 114, 3) := by decide +kernel
theorem dX6_dropStorm_5 : decode cX6_dropStorm 5 = .ok (.iconst 1, 1) := by decide +kernel
theorem dX6_dropStorm_6 : decode cX6_dropStorm 6 = .ok (.isub, 1) := by decide +kernel
theorem dX6_dropStorm_7 : decode cX6_dropStorm 7 = .ok (.putfield 114, 3) := by decide +kernel
theorem dX6_dropStorm_10 : decode cX6_dropStorm 10 = .ok (.iload_n 1, 1) := by decide +kernel
theorem dX6_dropStorm_11 : decode cX6_dropStorm 11 = .ok (.istore_n 2, 1) := by decide +kernel
theorem dX6_dropStorm_12 : decode cX6_dropStorm 12 = .ok (.iload_n 2, 1) := by decide +kernel
theorem dX6_dropStorm_13 : decode cX6_dropStorm 13 = .ok (.aload_n 0, 1) := by decide +kernel
theorem dX6_dropStorm_14 : decode cX6_dropStorm 14 = .ok (.getfield 114, 3) := by decide +kernel
theorem dX6_dropStorm_17 : decode cX6_dropStorm 17 = .ok (.if_icmp .ge 111, 3) := by decide +kernel
theorem dX6_dropStorm_20 : decode cX6_dropStorm 20 = .ok (.aload_n 0, 1) := by decide +kernel
theorem dX6_dropStorm_21 : decode cX6_dropStorm 21 = .ok (.getfield 13, 3) := by decide +kernel
theorem dX6_dropStorm_24 : decode cX6_dropStorm 24 = .ok (.iload_n 2, 1) := by decide +kernel
theorem dX6_dropStorm_25 : decode cX6_dropStorm 25 = .ok (.aload_n 0, 1) := by decide +kernel
theorem dX6_dropStorm_26 : decode cX6_dropStorm 26 = .ok (.getfield 13, 3) := by decide +kernel
theorem dX6_dropStorm_29 : decode cX6_dropStorm 29 = .ok (.iload_n 2, 1) := by decide +kernel
theorem dX6_dropStorm_30 : decode cX6_dropStorm 30 = .ok (.iconst 1, 1) := by decide +kernel
theorem dX6_dropStorm_31 : decode cX6_dropStorm 31 = .ok (.iadd, 1) := by decide +kernel
theorem dX6_dropStorm_32 : decode cX6_dropStorm 32 = .ok (.iaload, 1) := by decide +kernel
theorem dX6_dropStorm_33 : decode cX6_dropStorm 33 = .ok (.iastore, 1) := by decide +kernel
theorem dX6_dropStorm_34 : decode cX6_dropStorm 34 = .ok (.aload_n 0, 1) := by decide +kernel
theorem dX6_dropStorm_35 : decode cX6_dropStorm 35 = .ok (.getfield 19, 3) := by decide +kernel
theorem dX6_dropStorm_38 : decode cX6_dropStorm 38 = .ok (.iload_n 2, 1) := by decide +kernel
theorem dX6_dropStorm_39 : decode cX6_dropStorm 39 = .ok (.aload_n 0, 1) := by decide +kernel
theorem dX6_dropStorm_40 : decode cX6_dropStorm 40 = .ok (.getfield 19, 3) := by decide +kernel
theorem dX6_dropStorm_43 : decode cX6_dropStorm 43 = .ok (.iload_n 2, 1) := by decide +kernel
theorem dX6_dropStorm_44 : decode cX6_dropStorm 44 = .ok (.iconst 1, 1) := by decide +kernel
theorem dX6_dropStorm_45 : decode cX6_dropStorm 45 = .ok (.iadd, 1) := by decide +kernel
theorem dX6_dropStorm_46 : decode cX6_dropStorm 46 = .ok (.iaload, 1) := by decide +kernel
theorem dX6_dropStorm_47 : decode cX6_dropStorm 47 = .ok (.iastore, 1) := by decide +kernel
theorem dX6_dropStorm_48 : decode cX6_dropStorm 48 = .ok (.iconst 0, 1) := by decide +kernel
theorem dX6_dropStorm_49 : decode cX6_dropStorm 49 = .ok (.istore_n 3, 1) := by decide +kernel
theorem dX6_dropStorm_50 : decode cX6_dropStorm 50 = .ok (.iload_n 3, 1) := by decide +kernel
theorem dX6_dropStorm_51 : decode cX6_dropStorm 51 = .ok (.iconst 3, 1) := by decide +kernel
theorem dX6_dropStorm_52 : decode cX6_dropStorm 52 = .ok (.if_icmp .ge 31, 3) := by decide +kernel
theorem dX6_dropStorm_55 : decode cX6_dropStorm 55 = .ok (.aload_n 0, 1) := by decide +kernel
theorem dX6_dropStorm_56 : decode cX6_dropStorm 56 = .ok (.getfield 16, 3) := by decide +kernel
theorem dX6_dropStorm_59 : decode cX6_dropStorm 59 = .ok (.iconst 3, 1) := by decide +kernel
theorem dX6_dropStorm_60 : decode cX6_dropStorm 60 = .ok (.iload_n 2, 1) := by decide +kernel
theorem dX6_dropStorm_61 : decode cX6_dropStorm 61 = .ok (.imul, 1) := by decide +kernel
theorem dX6_dropStorm_62 : decode cX6_dropStorm 62 = .ok (.iload_n 3, 1) := by decide +kernel
theorem dX6_dropStorm_63 : decode cX6_dropStorm 63 = .ok (.iadd, 1) := by decide +kernel
theorem dX6_dropStorm_64 : decode cX6_dropStorm 64 = .ok (.aload_n 0, 1) := by decide +kernel
theorem dX6_dropStorm_65 : decode cX6_dropStorm 65 = .ok (.getfield 16, 3) := by decide +kernel
theorem dX6_dropStorm_68 : decode cX6_dropStorm 68 = .ok (.iconst 3, 1) := by decide +kernel
theorem dX6_dropStorm_69 : decode cX6_dropStorm 69 = .ok (.iload_n 2, 1) := by decide +kernel
theorem dX6_dropStorm_70 : decode cX6_dropStorm 70 = .ok (.imul, 1) := by decide +kernel
theorem dX6_dropStorm_71 : decode cX6_dropStorm 71 = .ok (.iconst 3, 1) := by decide +kernel
theorem dX6_dropStorm_72 : decode cX6_dropStorm 72 = .ok (.iadd, 1) := by decide +kernel
theorem dX6_dropStorm_73 : decode cX6_dropStorm 73 = .ok (.iload_n 3, 1) := by decide +kernel
theorem dX6_dropStorm_74 : decode cX6_dropStorm 74 = .ok (.iadd, 1) := by decide +kernel
theorem dX6_dropStorm_75 : decode cX6_dropStorm 75 = .ok (.iaload, 1) := by decide +kernel
theorem dX6_dropStorm_76 : decode cX6_dropStorm 76 = .ok (.iastore, 1) := by decide +kernel
theorem dX6_dropStorm_77 : decode cX6_dropStorm 77 = .ok (.iinc 3 1, 3) := by decide +kernel
theorem dX6_dropStorm_80 : decode cX6_dropStorm 80 = .ok (.goto (-30), 3) := by decide +kernel
theorem dX6_dropStorm_83 : decode cX6_dropStorm 83 = .ok (.iconst 0, 1) := by decide +kernel
theorem dX6_dropStorm_84 : decode cX6_dropStorm 84 = .ok (.istore_n 3, 1) := by decide +kernel
theorem dX6_dropStorm_85 : decode cX6_dropStorm 85 = .ok (.iload_n 3, 1) := by decide +kernel
theorem dX6_dropStorm_86 : decode cX6_dropStorm 86 = .ok (.bipush 8, 2) := by decide +kernel
theorem dX6_dropStorm_88 : decode cX6_dropStorm 88 = .ok (.if_icmp .ge 34, 3) := by decide +kernel
theorem dX6_dropStorm_91 : decode cX6_dropStorm 91 = .ok (.aload_n 0, 1) := by decide +kernel
theorem dX6_dropStorm_92 : decode cX6_dropStorm 92 = .ok (.getfield 22, 3) := by decide +kernel
theorem dX6_dropStorm_95 : decode cX6_dropStorm 95 = .ok (.bipush 8, 2) := by decide +kernel
theorem dX6_dropStorm_97 : decode cX6_dropStorm 97 = .ok (.iload_n 2, 1) := by decide +kernel
theorem dX6_dropStorm_98 : decode cX6_dropStorm 98 = .ok (.imul, 1) := by decide +kernel
theorem dX6_dropStorm_99 : decode cX6_dropStorm 99 = .ok (.iload_n 3, 1) := by decide +kernel
theorem dX6_dropStorm_100 : decode cX6_dropStorm 100 = .ok (.iadd, 1) := by decide +kernel
theorem dX6_dropStorm_101 : decode cX6_dropStorm 101 = .ok (.aload_n 0, 1) := by decide +kernel
theorem dX6_dropStorm_102 : decode cX6_dropStorm 102 = .ok (.getfield 22, 3) := by decide +kernel
theorem dX6_dropStorm_105 : decode cX6_dropStorm 105 = .ok (.bipush 8, 2) := by decide +kernel
theorem dX6_dropStorm_107 : decode cX6_dropStorm 107 = .ok (.iload_n 2, 1) := by decide +kernel
theorem dX6_dropStorm_108 : decode cX6_dropStorm 108 = .ok (.imul, 1) := by decide +kernel
theorem dX6_dropStorm_109 : decode cX6_dropStorm 109 = .ok (.bipush 8, 2) := by decide +kernel
theorem dX6_dropStorm_111 : decode cX6_dropStorm 111 = .ok (.iadd, 1) := by decide +kernel
theorem dX6_dropStorm_112 : decode cX6_dropStorm 112 = .ok (.iload_n 3, 1) := by decide +kernel
theorem dX6_dropStorm_113 : decode cX6_dropStorm 113 = .ok (.iadd, 1) := by decide +kernel
theorem dX6_dropStorm_114 : decode cX6_dropStorm 114 = .ok (.iaload, 1) := by decide +kernel
theorem dX6_dropStorm_115 : decode cX6_dropStorm 115 = .ok (.iastore, 1) := by decide +kernel
theorem dX6_dropStorm_116 : decode cX6_dropStorm 116 = .ok (.iinc 3 1, 3) := by decide +kernel
theorem dX6_dropStorm_119 : decode cX6_dropStorm 119 = .ok (.goto (-34), 3) := by decide +kernel
theorem dX6_dropStorm_122 : decode cX6_dropStorm 122 = .ok (.iinc 2 1, 3) := by decide +kernel
theorem dX6_dropStorm_125 : decode cX6_dropStorm 125 = .ok (.goto (-113), 3) := by decide +kernel
theorem dX6_dropStorm_128 : decode cX6_dropStorm 128 = .ok (.aload_n 0, 1) := by decide +kernel
theorem dX6_dropStorm_129 : decode cX6_dropStorm 129 = .ok (.getfield 114, 3) := by decide +kernel
theorem dX6_dropStorm_132 : decode cX6_dropStorm 132 = .ok (.ireturn, 1) := by decide +kernel
theorem dX6_dropUnit_0 : decode cX6_dropUnit 0 = .ok (.aload_n 0, 1) := by decide +kernel
theorem dX6_dropUnit_1 : decode cX6_dropUnit 1 = .ok (.dup, 1) := by decide +kernel
theorem dX6_dropUnit_2 : decode cX6_dropUnit 2 = .ok (.getfield 117, 3) := by decide +kernel
theorem dX6_dropUnit_5 : decode cX6_dropUnit 5 = .ok (.iconst 1, 1) := by decide +kernel
theorem dX6_dropUnit_6 : decode cX6_dropUnit 6 = .ok (.isub, 1) := by decide +kernel
theorem dX6_dropUnit_7 : decode cX6_dropUnit 7 = .ok (.putfield 117, 3) := by decide +kernel
theorem dX6_dropUnit_10 : decode cX6_dropUnit 10 = .ok (.iload_n 1, 1) := by decide +kernel
theorem dX6_dropUnit_11 : decode cX6_dropUnit 11 = .ok (.istore_n 2, 1) := by decide +kernel
theorem dX6_dropUnit_12 : decode cX6_dropUnit 12 = .ok (.iload_n 2, 1) := by decide +kernel
theorem dX6_dropUnit_13 : decode cX6_dropUnit 13 = .ok (.aload_n 0, 1) := by decide +kernel
theorem dX6_dropUnit_14 : decode cX6_dropUnit 14 = .ok (.getfield 117, 3) := by decide +kernel
theorem dX6_dropUnit_17 : decode cX6_dropUnit 17 = .ok (.if_icmp .ge 76, 3) := by decide +kernel
theorem dX6_dropUnit_20 : decode cX6_dropUnit 20 = .ok (.aload_n 0, 1) := by decide +kernel
theorem dX6_dropUnit_21 : decode cX6_dropUnit 21 = .ok (.getfield 25, 3) := by decide +kernel
theorem dX6_dropUnit_24 : decode cX6_dropUnit 24 = .ok (.iload_n 2, 1) := by decide +kernel
theorem dX6_dropUnit_25 : decode cX6_dropUnit 25 = .ok (.aload_n 0, 1) := by decide +kernel
theorem dX6_dropUnit_26 : decode cX6_dropUnit 26 = .ok (.getfield 25, 3) := by decide +kernel
theorem dX6_dropUnit_29 : decode cX6_dropUnit 29 = .ok (.iload_n 2, 1) := by decide +kernel
theorem dX6_dropUnit_30 : decode cX6_dropUnit 30 = .ok (.iconst 1, 1) := by decide +kernel
theorem dX6_dropUnit_31 : decode cX6_dropUnit 31 = .ok (.iadd, 1) := by decide +kernel
theorem dX6_dropUnit_32 : decode cX6_dropUnit 32 = .ok (.iaload, 1) := by decide +kernel
theorem dX6_dropUnit_33 : decode cX6_dropUnit 33 = .ok (.iastore, 1) := by decide +kernel
theorem dX6_dropUnit_34 : decode cX6_dropUnit 34 = .ok (.aload_n 0, 1) := by decide +kernel
theorem dX6_dropUnit_35 : decode cX6_dropUnit 35 = .ok (.getfield 28, 3) := by decide +kernel
theorem dX6_dropUnit_38 : decode cX6_dropUnit 38 = .ok (.iload_n 2, 1) := by decide +kernel
theorem dX6_dropUnit_39 : decode cX6_dropUnit 39 = .ok (.aload_n 0, 1) := by decide +kernel
theorem dX6_dropUnit_40 : decode cX6_dropUnit 40 = .ok (.getfield 28, 3) := by decide +kernel
theorem dX6_dropUnit_43 : decode cX6_dropUnit 43 = .ok (.iload_n 2, 1) := by decide +kernel
theorem dX6_dropUnit_44 : decode cX6_dropUnit 44 = .ok (.iconst 1, 1) := by decide +kernel
theorem dX6_dropUnit_45 : decode cX6_dropUnit 45 = .ok (.iadd, 1) := by decide +kernel
theorem dX6_dropUnit_46 : decode cX6_dropUnit 46 = .ok (.iaload, 1) := by decide +kernel
theorem dX6_dropUnit_47 : decode cX6_dropUnit 47 = .ok (.iastore, 1) := by decide +kernel
theorem dX6_dropUnit_48 : decode cX6_dropUnit 48 = .ok (.iconst 0, 1) := by decide +kernel
theorem dX6_dropUnit_49 : decode cX6_dropUnit 49 = .ok (.istore_n 3, 1) := by decide +kernel
theorem dX6_dropUnit_50 : decode cX6_dropUnit 50 = .ok (.iload_n 3, 1) := by decide +kernel
theorem dX6_dropUnit_51 : decode cX6_dropUnit 51 = .ok (.bipush 8, 2) := by decide +kernel
theorem dX6_dropUnit_53 : decode cX6_dropUnit 53 = .ok (.if_icmp .ge 34, 3) := by decide +kernel
theorem dX6_dropUnit_56 : decode cX6_dropUnit 56 = .ok (.aload_n 0, 1) := by decide +kernel
theorem dX6_dropUnit_57 : decode cX6_dropUnit 57 = .ok (.getfield 31, 3) := by decide +kernel
theorem dX6_dropUnit_60 : decode cX6_dropUnit 60 = .ok (.bipush 8, 2) := by decide +kernel
theorem dX6_dropUnit_62 : decode cX6_dropUnit 62 = .ok (.iload_n 2, 1) := by decide +kernel
theorem dX6_dropUnit_63 : decode cX6_dropUnit 63 = .ok (.imul, 1) := by decide +kernel
theorem dX6_dropUnit_64 : decode cX6_dropUnit 64 = .ok (.iload_n 3, 1) := by decide +kernel
theorem dX6_dropUnit_65 : decode cX6_dropUnit 65 = .ok (.iadd, 1) := by decide +kernel
theorem dX6_dropUnit_66 : decode cX6_dropUnit 66 = .ok (.aload_n 0, 1) := by decide +kernel
theorem dX6_dropUnit_67 : decode cX6_dropUnit 67 = .ok (.getfield 31, 3) := by decide +kernel
theorem dX6_dropUnit_70 : decode cX6_dropUnit 70 = .ok (.bipush 8, 2) := by decide +kernel
theorem dX6_dropUnit_72 : decode cX6_dropUnit 72 = .ok (.iload_n 2, 1) := by decide +kernel
theorem dX6_dropUnit_73 : decode cX6_dropUnit 73 = .ok (.imul, 1) := by decide +kernel
theorem dX6_dropUnit_74 : decode cX6_dropUnit 74 = .ok (.bipush 8, 2) := by decide +kernel
theorem dX6_dropUnit_76 : decode cX6_dropUnit 76 = .ok (.iadd, 1) := by decide +kernel
theorem dX6_dropUnit_77 : decode cX6_dropUnit 77 = .ok (.iload_n 3, 1) := by decide +kernel
theorem dX6_dropUnit_78 : decode cX6_dropUnit 78 = .ok (.iadd, 1) := by decide +kernel
theorem dX6_dropUnit_79 : decode cX6_dropUnit 79 = .ok (.iaload, 1) := by decide +kernel
theorem dX6_dropUnit_80 : decode cX6_dropUnit 80 = .ok (.iastore, 1) := by decide +kernel
theorem dX6_dropUnit_81 : decode cX6_dropUnit 81 = .ok (.iinc 3 1, 3) := by decide +kernel
theorem dX6_dropUnit_84 : decode cX6_dropUnit 84 = .ok (.goto (-34), 3) := by decide +kernel
theorem dX6_dropUnit_87 : decode cX6_dropUnit 87 = .ok (.iinc 2 1, 3) := by decide +kernel
theorem dX6_dropUnit_90 : decode cX6_dropUnit 90 = .ok (.goto (-78), 3) := by decide +kernel
theorem dX6_dropUnit_93 : decode cX6_dropUnit 93 = .ok (.aload_n 0, 1) := by decide +kernel
theorem dX6_dropUnit_94 : decode cX6_dropUnit 94 = .ok (.getfield 117, 3) := by decide +kernel
theorem dX6_dropUnit_97 : decode cX6_dropUnit 97 = .ok (.ireturn, 1) := by decide +kernel
set_option maxRecDepth 20000 in
theorem ggX6_isStorm_X6_within : GoodIn wsX6_isStorm wsX6_within := goodIn_r _ [5] (by decide +kernel) (by decide +kernel)
set_option maxRecDepth 20000 in
theorem gX6_isStorm_X6_within : GoodIn wsX6_isStorm (va_wsS RX6 59 yX6_within wsX6_within) := goodIn_app (goodIn_of _ (by decide +kernel)) ggX6_isStorm_X6_within
theorem dX6_isStorm_0 : decode cX6_isStorm 0 = .ok (.iload_n 1, 1) := by decide +kernel
theorem dX6_isStorm_1 : decode cX6_isStorm 1 = .ok (.iconst 0, 1) := by decide +kernel
theorem dX6_isStorm_2 : decode cX6_isStorm 2 = .ok (.aload_n 0, 1) := by decide +kernel
theorem dX6_isStorm_3 : decode cX6_isStorm 3 = .ok (.getfield 114, 3) := by decide +kernel
theorem dX6_isStorm_6 : decode cX6_isStorm 6 = .ok (.iconst 1, 1) := by decide +kernel
theorem dX6_isStorm_7 : decode cX6_isStorm 7 = .ok (.isub, 1) := by decide +kernel
theorem dX6_isStorm_8 : decode cX6_isStorm 8 = .ok (.invokestatic 59, 3) := by decide +kernel
theorem dX6_isStorm_11 : decode cX6_isStorm 11 = .ok (.ireturn, 1) := by decide +kernel
set_option maxRecDepth 20000 in
theorem ggX6_isUnitThere_X6_within : GoodIn wsX6_isUnitThere wsX6_within := goodIn_r _ [5] (by decide +kernel) (by decide +kernel)
set_option maxRecDepth 20000 in
theorem gX6_isUnitThere_X6_within : GoodIn wsX6_isUnitThere (va_wsS RX6 59 yX6_within wsX6_within) := goodIn_app (goodIn_of _ (by decide +kernel)) ggX6_isUnitThere_X6_within
theorem dX6_isUnitThere_0 : decode cX6_isUnitThere 0 = .ok (.iload_n 1, 1) := by decide +kernel
theorem dX6_isUnitThere_1 : decode cX6_isUnitThere 1 = .ok (.iconst 0, 1) := by decide +kernel
theorem dX6_isUnitThere_2 : decode cX6_isUnitThere 2 = .ok (.aload_n 0, 1) := by decide +kernel
theorem dX6_isUnitThere_3 : decode cX6_isUnitThere 3 = .ok (.getfield 117, 3) := by decide +kernel
theorem dX6_isUnitThere_6 : decode cX6_isUnitThere 6 = .ok (.iconst 1, 1) := by decide +kernel
theorem dX6_isUnitThere_7 : decode cX6_isUnitThere 7 = .ok (.isub, 1) := by decide +kernel
theorem dX6_isUnitThere_8 : decode cX6_isUnitThere 8 = .ok (.invokestatic 59, 3) := by decide +kernel
theorem dX6_isUnitThere_11 : decode cX6_isUnitThere 11 = .ok (.ireturn, 1) := by decide +kernel
set_option maxRecDepth 20000 in
theorem ggX6_drop_X6_isUnitThere : GoodIn wsX6_drop wsX6_isUnitThere := goodIn_r _ [7, 8, 9, 10, 6, 11, 32, 33, 34, 35, 36, 37, 38, 39, 40, 41, 42, 43, 44, 45, 46, 47, 48, 49, 50, 51, 52, 53, 54, 55, 56, 57, 58, 59, 60, 61, 62, 63, 64] (by decide +kernel) (by decide +kernel)
set_option maxRecDepth 20000 in
theorem gX6_drop_X6_isUnitThere : GoodIn wsX6_drop (wsV RX6 130 RX6 yX6_isUnitThere wsX6_isUnitThere) := goodIn_app (goodIn_of _ (by decide +kernel)) ggX6_drop_X6_isUnitThere
set_option maxRecDepth 20000 in
theorem ggX6_drop_X6_isStorm : GoodIn wsX6_drop wsX6_isStorm := goodIn_r _ [15, 16, 9, 10, 6, 11, 32, 33, 34, 35, 36, 37, 38, 39, 40, 41, 42, 43, 44, 45, 46, 47, 48, 49, 50, 51, 52, 53, 54, 55, 56, 57, 58, 59, 60, 61, 62, 63, 64] (by decide +kernel) (by decide +kernel)
set_option maxRecDepth 20000 in
theorem gX6_drop_X6_isStorm : GoodIn wsX6_drop (wsV RX6 133 RX6 yX6_isStorm wsX6_isStorm) := goodIn_app (goodIn_of _ (by decide +kernel)) ggX6_drop_X6_isStorm
set_option maxRecDepth 20000 in
theorem ggX6_drop_X6_dropUnit : GoodIn wsX6_drop wsX6_dropUnit := goodIn_r _ [20, 8, 21, 22, 23, 32, 33, 34, 35, 36, 37, 38, 39, 40, 41, 42, 43, 44, 45, 46, 47, 48, 49, 50, 51, 52, 53, 54, 55, 56, 57, 58, 59, 60, 61, 62, 63, 64] (by decide +kernel) (by decide +kernel)
set_option maxRecDepth 20000 in
theorem gX6_drop_X6_dropUnit : GoodIn wsX6_drop (wsV RX6 140 RX6 yX6_dropUnit wsX6_dropUnit) := goodIn_app (goodIn_of _ (by decide +kernel)) ggX6_drop_X6_dropUnit
set_option maxRecDepth 20000 in
theorem ggX6_drop_X6_dropStorm : GoodIn wsX6_drop wsX6_dropStorm := goodIn_r _ [27, 16, 28, 29, 30, 31, 32, 33, 34, 35, 36, 37, 38, 39, 40, 41, 42, 43, 44, 45, 46, 47, 48, 49, 50, 51, 52, 53, 54, 55, 56, 57, 58, 59, 60, 61, 62, 63, 64] (by decide +kernel) (by decide +kernel)
set_option maxRecDepth 20000 in
theorem gX6_drop_X6_dropStorm : GoodIn wsX6_drop (wsV RX6 144 RX6 yX6_dropStorm wsX6_dropStorm) := goodIn_app (goodIn_of _ (by decide +kernel)) ggX6_drop_X6_dropStorm
theorem dX6_drop_0 : decode cX6_drop 0 = .ok (.iload_n 1, 1) := by decide +kernel
theorem dX6_drop_1 : decode cX6_drop 1 = .ok (.ifCond .eq 14, 3) := by decide +kernel
theorem dX6_drop_4 : decode cX6_drop 4 = .ok (.aload_n 0, 1) := by decide +kernel
theorem dX6_drop_5 : decode cX6_drop 5 = .ok (.iload_n 2, 1) := by decide +kernel
theorem dX6_drop_6 : decode cX6_drop 6 = .ok (.invokevirtual 130, 3) := by decide +kernel
theorem dX6_drop_9 : decode cX6_drop 9 = .ok (.ifCond .ne 17, 3) := by decide +kernel
theorem dX6_drop_12 : decode cX6_drop 12 = .ok (.goto 11, 3) := by decide +kernel
theorem dX6_drop_15 : decode cX6_drop 15 = .ok (.aload_n 0, 1) := by decide +kernel
theorem dX6_drop_16 : decode cX6_drop 16 = .ok (.iload_n 2, 1) := by decide +kernel
theorem dX6_drop_17 : decode cX6_drop 17 = .ok (.invokevirtual 133, 3) := by decide +kernel
theorem dX6_drop_20 : decode cX6_drop 20 = .ok (.ifCond .ne 6, 3) := by decide +kernel
theorem dX6_drop_23 : decode cX6_drop 23 = .ok (.ldc 136, 2) := by decide +kernel
theorem dX6_drop_25 : decode cX6_drop 25 = .ok (.ireturn, 1) := by decide +kernel
theorem dX6_drop_26 : decode cX6_drop 26 = .ok (.aload_n 0, 1) := by decide +kernel
theorem dX6_drop_27 : decode cX6_drop 27 = .ok (.dup, 1) := by decide +kernel
theorem dX6_drop_28 : decode cX6_drop 28 = .ok (.getfield 137, 3) := by decide +kernel
theorem dX6_drop_31 : decode cX6_drop 31 = .ok (.iconst 1, 1) := by decide +kernel
theorem dX6_drop_32 : decode cX6_drop 32 = .ok (.iadd, 1) := by decide +kernel
theorem dX6_drop_33 : decode cX6_drop 33 = .ok (.putfield 137, 3) := by decide +kernel
theorem dX6_drop_36 : decode cX6_drop 36 = .ok (.iload_n 1, 1) := by decide +kernel
theorem dX6_drop_37 : decode cX6_drop 37 = .ok (.ifCond .eq 11, 3) := by decide +kernel
theorem dX6_drop_40 : decode cX6_drop 40 = .ok (.aload_n 0, 1) := by decide +kernel
theorem dX6_drop_41 : decode cX6_drop 41 = .ok (.iload_n 2, 1) := by decide +kernel
theorem dX6_drop_42 : decode cX6_drop 42 = .ok (.invokevirtual 140, 3) := by decide +kernel
theorem dX6_drop_45 : decode cX6_drop 45 = .ok (.goto 8, 3) := by decide +kernel
theorem dX6_drop_48 : decode cX6_drop 48 = .ok (.aload_n 0, 1) := by decide +kernel
theorem dX6_drop_49 : decode cX6_drop 49 = .ok (.iload_n 2, 1) := by decide +kernel
theorem dX6_drop_50 : decode cX6_drop 50 = .ok (.invokevirtual 144, 3) := by decide +kernel
theorem dX6_drop_53 : decode cX6_drop 53 = .ok (.ireturn, 1) := by decide +kernel
set_option maxRecDepth 20000 in
theorem ggX6_rainAt_X6_within : GoodIn wsX6_rainAt wsX6_within := goodIn_r _ [5] (by decide +kernel) (by decide +kernel)
set_option maxRecDepth 20000 in
theorem gX6_rainAt_X6_within : GoodIn wsX6_rainAt (va_wsS RX6 59 yX6_within wsX6_within) := goodIn_app (goodIn_of _ (by decide +kernel)) ggX6_rainAt_X6_within
theorem dX6_rainAt_0 : decode cX6_rainAt 0 = .ok (.iload_n 2, 1) := by decide +kernel
theorem dX6_rainAt_1 : decode cX6_rainAt 1 = .ok (.iconst 0, 1) := by decide +kernel
theorem dX6_rainAt_2 : decode cX6_rainAt 2 = .ok (.iconst 2, 1) := by decide +kernel
theorem dX6_rainAt_3 : decode cX6_rainAt 3 = .ok (.invokestatic 59, 3) := by decide +kernel
theorem dX6_rainAt_6 : decode cX6_rainAt 6 = .ok (.ifCond .eq 16, 3) := by decide +kernel
theorem dX6_rainAt_9 : decode cX6_rainAt 9 = .ok (.aload_n 0, 1) := by decide +kernel
theorem dX6_rainAt_10 : decode cX6_rainAt 10 = .ok (.getfield 16, 3) := by decide +kernel
theorem dX6_rainAt_13 : decode cX6_rainAt 13 = .ok (.iconst 3, 1) := by decide +kernel
theorem dX6_rainAt_14 : decode cX6_rainAt 14 = .ok (.iload_n 1, 1) := by decide +kernel
theorem dX6_rainAt_15 : decode cX6_rainAt 15 = .ok (.imul, 1) := by decide +kernel
theorem dX6_rainAt_16 : decode cX6_rainAt 16 = .ok (.iload_n 2, 1) := by decide +kernel
theorem dX6_rainAt_17 : decode cX6_rainAt 17 = .ok (.iadd, 1) := by decide +kernel
theorem dX6_rainAt_18 : decode cX6_rainAt 18 = .ok (.iaload, 1) := by decide +kernel
theorem dX6_rainAt_19 : decode cX6_rainAt 19 = .ok (.goto 4, 3) := by decide +kernel
theorem dX6_rainAt_22 : decode cX6_rainAt 22 = .ok (.iconst 0, 1) := by decide +kernel
theorem dX6_rainAt_23 : decode cX6_rainAt 23 = .ok (.ireturn, 1) := by decide +kernel
set_option maxRecDepth 20000 in
theorem ggX6_runoffAt_X6_within : GoodIn wsX6_runoffAt wsX6_within := goodIn_r _ [5] (by decide +kernel) (by decide +kernel)
set_option maxRecDepth 20000 in
theorem gX6_runoffAt_X6_within : GoodIn wsX6_runoffAt (va_wsS RX6 59 yX6_within wsX6_within) := goodIn_app (goodIn_of _ (by decide +kernel)) ggX6_runoffAt_X6_within
theorem dX6_runoffAt_0 : decode cX6_runoffAt 0 = .ok (.iload_n 2, 1) := by decide +kernel
theorem dX6_runoffAt_1 : decode cX6_runoffAt 1 = .ok (.iconst 0, 1) := by decide +kernel
theorem dX6_runoffAt_2 : decode cX6_runoffAt 2 = .ok (.bipush 7, 2) := by decide +kernel
theorem dX6_runoffAt_4 : decode cX6_runoffAt 4 = .ok (.invokestatic 59, 3) := by decide +kernel
theorem dX6_runoffAt_7 : decode cX6_runoffAt 7 = .ok (.ifCond .eq 17, 3) := by decide +kernel
theorem dX6_runoffAt_10 : decode cX6_runoffAt 10 = .ok (.aload_n 0, 1) := by decide +kernel
theorem dX6_runoffAt_11 : decode cX6_runoffAt 11 = .ok (.getfield 22, 3) := by decide +kernel
theorem dX6_runoffAt_14 : decode cX6_runoffAt 14 = .ok (.bipush 8, 2) := by decide +kernel
theorem dX6_runoffAt_16 : decode cX6_runoffAt 16 = .ok (.iload_n 1, 1) := by decide +kernel
theorem dX6_runoffAt_17 : decode cX6_runoffAt 17 = .ok (.imul, 1) := by decide +kernel
theorem dX6_runoffAt_18 : decode cX6_runoffAt 18 = .ok (.iload_n 2, 1) := by decide +kernel
theorem dX6_runoffAt_19 : decode cX6_runoffAt 19 = .ok (.iadd, 1) := by decide +kernel
theorem dX6_runoffAt_20 : decode cX6_runoffAt 20 = .ok (.iaload, 1) := by decide +kernel
theorem dX6_runoffAt_21 : decode cX6_runoffAt 21 = .ok (.goto 4, 3) := by decide +kernel
theorem dX6_runoffAt_24 : decode cX6_runoffAt 24 = .ok (.iconst 0, 1) := by decide +kernel
theorem dX6_runoffAt_25 : decode cX6_runoffAt 25 = .ok (.ireturn, 1) := by decide +kernel
set_option maxRecDepth 20000 in
theorem ggX6_rainAll_X6_rainAt : GoodIn wsX6_rainAll wsX6_rainAt := goodIn_r _ [5, 6, 7, 8, 4, 9, 10, 11, 12, 13, 14, 15, 16, 17, 18, 19, 20, 21, 22, 23, 24, 25, 26, 27, 28, 29, 30, 31, 32, 33, 34, 35, 36, 37, 38, 39, 40, 41, 42] (by decide +kernel) (by decide +kernel)
set_option maxRecDepth 20000 in
theorem gX6_rainAll_X6_rainAt : GoodIn wsX6_rainAll (wsV RX6 147 RX6 yX6_rainAt wsX6_rainAt) := goodIn_app (goodIn_of _ (by decide +kernel)) ggX6_rainAll_X6_rainAt
theorem dX6_rainAll_0 : decode cX6_rainAll 0 = .ok (.aload_n 0, 1) := by decide +kernel
theorem dX6_rainAll_1 : decode cX6_rainAll 1 = .ok (.iload_n 1, 1) := by decide +kernel
theorem dX6_rainAll_2 : decode cX6_rainAll 2 = .ok (.iconst 0, 1) := by decide +kernel
theorem dX6_rainAll_3 : decode cX6_rainAll 3 = .ok (.invokevirtual 147, 3) := by decide +kernel
theorem dX6_rainAll_6 : decode cX6_rainAll 6 = .ok (.aload_n 0, 1) := by decide +kernel
theorem dX6_rainAll_7 : decode cX6_rainAll 7 = .ok (.iload_n 1, 1) := by decide +kernel
theorem dX6_rainAll_8 : decode cX6_rainAll 8 = .ok (.iconst 1, 1) := by decide +kernel
theorem dX6_rainAll_9 : decode cX6_rainAll 9 = .ok (.invokevirtual 147, 3) := by decide +kernel
theorem dX6_rainAll_12 : decode cX6_rainAll 12 = .ok (.iadd, 1) := by decide +kernel
theorem dX6_rainAll_13 : decode cX6_rainAll 13 = .ok (.aload_n 0, 1) := by decide +kernel
theorem dX6_rainAll_14 : decode cX6_rainAll 14 = .ok (.iload_n 1, 1) := by decide +kernel
theorem dX6_rainAll_15 : decode cX6_rainAll 15 = .ok (.iconst 2, 1) := by decide +kernel
theorem dX6_rainAll_16 : decode cX6_rainAll 16 = .ok (.invokevirtual 147, 3) := by decide +kernel
theorem dX6_rainAll_19 : decode cX6_rainAll 19 = .ok (.iadd, 1) := by decide +kernel
theorem dX6_rainAll_20 : decode cX6_rainAll 20 = .ok (.ireturn, 1) := by decide +kernel
set_option maxRecDepth 20000 in
theorem ggX6_runoffAll_X6_runoffAt : GoodIn wsX6_runoffAll wsX6_runoffAt := goodIn_r _ [5, 6, 7, 8, 4, 9, 10, 11, 12, 13, 14, 15, 16, 17, 18, 19, 20, 21, 22, 23, 24, 25, 26, 27, 28, 29, 30, 31, 32, 33, 34, 35, 36, 37, 38, 39, 40, 41, 42] (by decide +kernel) (by decide +kernel)
set_option maxRecDepth 20000 in
theorem gX6_runoffAll_X6_runoffAt : GoodIn wsX6_runoffAll (wsV RX6 151 RX6 yX6_runoffAt wsX6_runoffAt) := goodIn_app (goodIn_of _ (by decide +kernel)) ggX6_runoffAll_X6_runoffAt
theorem dX6_runoffAll_0 : decode cX6_runoffAll 0 = .ok (.iconst 0, 1) := by decide +kernel
theorem dX6_runoffAll_1 : decode cX6_runoffAll 1 = .ok (.istore_n 2, 1) := by decide +kernel
theorem dX6_runoffAll_2 : decode cX6_runoffAll 2 = .ok (.iconst 0, 1) := by decide +kernel
theorem dX6_runoffAll_3 : decode cX6_runoffAll 3 = .ok (.istore_n 3, 1) := by decide +kernel
theorem dX6_runoffAll_4 : decode cX6_runoffAll 4 = .ok (.iload_n 3, 1) := by decide +kernel
theorem dX6_runoffAll_5 : decode cX6_runoffAll 5 = .ok (.bipush 8, 2) := by decide +kernel
theorem dX6_runoffAll_7 : decode cX6_runoffAll 7 = .ok (.if_icmp .ge 18, 3) := by decide +kernel
theorem dX6_runoffAll_10 : decode cX6_runoffAll 10 = .ok (.iload_n 2, 1) := by decide +kernel
theorem dX6_runoffAll_11 : decode cX6_runoffAll 11 = .ok (.aload_n 0, 1) := by decide +kernel
theorem dX6_runoffAll_12 : decode cX6_runoffAll 12 = .ok (.iload_n 1, 1) := by decide +kernel
theorem dX6_runoffAll_13 : decode cX6_runoffAll 13 = .ok (.iload_n 3, 1) := by decide +kernel
theorem dX6_runoffAll_14 : decode cX6_runoffAll 14 = .ok (.invokevirtual 151, 3) := by decide +kernel
theorem dX6_runoffAll_17 : decode cX6_runoffAll 17 = .ok (.iadd, 1) := by decide +kernel
theorem dX6_runoffAll_18 : decode cX6_runoffAll 18 = .ok (.istore_n 2, 1) := by decide +kernel
theorem dX6_runoffAll_19 : decode cX6_runoffAll 19 = .ok (.iinc 3 1, 3) := by decide +kernel
theorem dX6_runoffAll_22 : decode cX6_runoffAll 22 = .ok (.goto (-18), 3) := by decide +kernel
theorem dX6_runoffAll_25 : decode cX6_runoffAll 25 = .ok (.iload_n 2, 1) := by decide +kernel
theorem dX6_runoffAll_26 : decode cX6_runoffAll 26 = .ok (.ireturn, 1) := by decide +kernel
set_option maxRecDepth 20000 in
theorem ggX6_stormNow_X6_rainAll : GoodIn wsX6_stormNow wsX6_rainAll := goodIn_r _ [7, 8, 9, 10, 6, 11, 12, 13, 14, 15, 25, 26, 27, 28, 29, 30, 31, 32, 33, 34, 35, 36, 37, 38, 39, 40, 41, 42, 43, 44, 45, 46, 47, 48, 49, 50, 51, 52, 53, 54, 55, 56, 57] (by decide +kernel) (by decide +kernel)
set_option maxRecDepth 20000 in
theorem gX6_stormNow_X6_rainAll : GoodIn wsX6_stormNow (wsV RX6 154 RX6 yX6_rainAll wsX6_rainAll) := goodIn_app (goodIn_of _ (by decide +kernel)) ggX6_stormNow_X6_rainAll
set_option maxRecDepth 20000 in
theorem ggX6_stormNow_X6_runoffAll : GoodIn wsX6_stormNow wsX6_runoffAll := goodIn_r _ [19, 20, 21, 22, 6, 23, 24, 13, 14, 15, 25, 26, 27, 28, 29, 30, 31, 32, 33, 34, 35, 36, 37, 38, 39, 40, 41, 42, 43, 44, 45, 46, 47, 48, 49, 50, 51, 52, 53, 54, 55, 56, 57] (by decide +kernel) (by decide +kernel)
set_option maxRecDepth 20000 in
theorem gX6_stormNow_X6_runoffAll : GoodIn wsX6_stormNow (wsV RX6 157 RX6 yX6_runoffAll wsX6_runoffAll) := goodIn_app (goodIn_of _ (by decide +kernel)) ggX6_stormNow_X6_runoffAll
set_option maxRecDepth 20000 in
theorem ggX6_stormNow_X6_rainAt : GoodIn wsX6_stormNow wsX6_rainAt := goodIn_r _ [11, 12, 13, 14, 6, 15, 25, 26, 27, 28, 29, 30, 31, 32, 33, 34, 35, 36, 37, 38, 39, 40, 41, 42, 43, 44, 45, 46, 47, 48, 49, 50, 51, 52, 53, 54, 55, 56, 57] (by decide +kernel) (by decide +kernel)
set_option maxRecDepth 20000 in
theorem gX6_stormNow_X6_rainAt : GoodIn wsX6_stormNow (wsV RX6 147 RX6 yX6_rainAt wsX6_rainAt) := goodIn_app (goodIn_of _ (by decide +kernel)) ggX6_stormNow_X6_rainAt
set_option maxRecDepth 20000 in
theorem ggX6_stormNow_X6_runoffAt : GoodIn wsX6_stormNow wsX6_runoffAt := goodIn_r _ [23, 24, 13, 14, 6, 15, 25, 26, 27, 28, 29, 30, 31, 32, 33, 34, 35, 36, 37, 38, 39, 40, 41, 42, 43, 44, 45, 46, 47, 48, 49, 50, 51, 52, 53, 54, 55, 56, 57] (by decide +kernel) (by decide +kernel)
set_option maxRecDepth 20000 in
theorem gX6_stormNow_X6_runoffAt : GoodIn wsX6_stormNow (wsV RX6 151 RX6 yX6_runoffAt wsX6_runoffAt) := goodIn_app (goodIn_of _ (by decide +kernel)) ggX6_stormNow_X6_runoffAt
theorem dX6_stormNow_0 : decode cX6_stormNow 0 = .ok (.iload_n 2, 1) := by decide +kernel
theorem dX6_stormNow_1 : decode cX6_stormNow 1 = .ok (.tableswitch 57 0 3 #[31, 38, 45, 51], 31) := by decide +kernel
theorem dX6_stormNow_32 : decode cX6_stormNow 32 = .ok (.aload_n 0, 1) := by decide +kernel
theorem dX6_stormNow_33 : decode cX6_stormNow 33 = .ok (.getfield 13, 3) := by decide +kernel
theorem dX6_stormNow_36 : decode cX6_stormNow 36 = .ok (.iload_n 1, 1) := by decide +kernel
theorem dX6_stormNow_37 : decode cX6_stormNow 37 = .ok (.iaload, 1) := by decide +kernel
theorem dX6_stormNow_38 : decode cX6_stormNow 38 = .ok (.ireturn, 1) := by decide +kernel
theorem dX6_stormNow_39 : decode cX6_stormNow 39 = .ok (.aload_n 0, 1) := by decide +kernel
theorem dX6_stormNow_40 : decode cX6_stormNow 40 = .ok (.getfield 19, 3) := by decide +kernel
theorem dX6_stormNow_43 : decode cX6_stormNow 43 = .ok (.iload_n 1, 1) := by decide +kernel
theorem dX6_stormNow_44 : decode cX6_stormNow 44 = .ok (.iaload, 1) := by decide +kernel
theorem dX6_stormNow_45 : decode cX6_stormNow 45 = .ok (.ireturn, 1) := by decide +kernel
theorem dX6_stormNow_46 : decode cX6_stormNow 46 = .ok (.aload_n 0, 1) := by decide +kernel
theorem dX6_stormNow_47 : decode cX6_stormNow 47 = .ok (.iload_n 1, 1) := by decide +kernel
theorem dX6_stormNow_48 : decode cX6_stormNow 48 = .ok (.invokevirtual 154, 3) := by decide +kernel
theorem dX6_stormNow_51 : decode cX6_stormNow 51 = .ok (.ireturn, 1) := by decide +kernel
theorem dX6_stormNow_52 : decode cX6_stormNow 52 = .ok (.aload_n 0, 1) := by decide +kernel
theorem dX6_stormNow_53 : decode cX6_stormNow 53 = .ok (.iload_n 1, 1) := by decide +kernel
theorem dX6_stormNow_54 : decode cX6_stormNow 54 = .ok (.invokevirtual 157, 3) := by decide +kernel
theorem dX6_stormNow_57 : decode cX6_stormNow 57 = .ok (.ireturn, 1) := by decide +kernel
theorem dX6_stormNow_58 : decode cX6_stormNow 58 = .ok (.iload_n 2, 1) := by decide +kernel
theorem dX6_stormNow_59 : decode cX6_stormNow 59 = .ok (.bipush 20, 2) := by decide +kernel
theorem dX6_stormNow_61 : decode cX6_stormNow 61 = .ok (.if_icmp .ge 15, 3) := by decide +kernel
theorem dX6_stormNow_64 : decode cX6_stormNow 64 = .ok (.aload_n 0, 1) := by decide +kernel
theorem dX6_stormNow_65 : decode cX6_stormNow 65 = .ok (.iload_n 1, 1) := by decide +kernel
theorem dX6_stormNow_66 : decode cX6_stormNow 66 = .ok (.iload_n 2, 1) := by decide +kernel
theorem dX6_stormNow_67 : decode cX6_stormNow 67 = .ok (.bipush 10, 2) := by decide +kernel
theorem dX6_stormNow_69 : decode cX6_stormNow 69 = .ok (.isub, 1) := by decide +kernel
theorem dX6_stormNow_70 : decode cX6_stormNow 70 = .ok (.invokevirtual 147, 3) := by decide +kernel
theorem dX6_stormNow_73 : decode cX6_stormNow 73 = .ok (.goto 12, 3) := by decide +kernel
theorem dX6_stormNow_76 : decode cX6_stormNow 76 = .ok (.aload_n 0, 1) := by decide +kernel
theorem dX6_stormNow_77 : decode cX6_stormNow 77 = .ok (.iload_n 1, 1) := by decide +kernel
theorem dX6_stormNow_78 : decode cX6_stormNow 78 = .ok (.iload_n 2, 1) := by decide +kernel
theorem dX6_stormNow_79 : decode cX6_stormNow 79 = .ok (.bipush 20, 2) := by decide +kernel
theorem dX6_stormNow_81 : decode cX6_stormNow 81 = .ok (.isub, 1) := by decide +kernel
theorem dX6_stormNow_82 : decode cX6_stormNow 82 = .ok (.invokevirtual 151, 3) := by decide +kernel
theorem dX6_stormNow_85 : decode cX6_stormNow 85 = .ok (.ireturn, 1) := by decide +kernel
set_option maxRecDepth 20000 in
theorem ggX6_storm_X6_isStorm : GoodIn wsX6_storm wsX6_isStorm := goodIn_r _ [7, 8, 9, 10, 6, 11, 36, 37, 38, 39, 40, 41, 42, 43, 44, 45, 46, 47, 48, 49, 50, 51, 52, 53, 54, 55, 56, 57, 58, 59, 60, 61, 62, 63, 64, 65, 66, 67, 68] (by decide +kernel) (by decide +kernel)
set_option maxRecDepth 20000 in
theorem gX6_storm_X6_isStorm : GoodIn wsX6_storm (wsV RX6 133 RX6 yX6_isStorm wsX6_isStorm) := goodIn_app (goodIn_of _ (by decide +kernel)) ggX6_storm_X6_isStorm
set_option maxRecDepth 20000 in
theorem ggX6_storm_X6_within : GoodIn wsX6_storm wsX6_within := goodIn_r _ [11] (by decide +kernel) (by decide +kernel)
set_option maxRecDepth 20000 in
theorem gX6_storm_X6_within : GoodIn wsX6_storm (va_wsS RX6 59 yX6_within wsX6_within) := goodIn_app (goodIn_of _ (by decide +kernel)) ggX6_storm_X6_within
set_option maxRecDepth 20000 in
theorem ggX6_storm_X6_stormNow : GoodIn wsX6_storm wsX6_stormNow := goodIn_r _ [15, 16, 17, 18, 19, 20, 6, 21, 22, 23, 24, 25, 26, 9, 10, 11, 27, 28, 29, 30, 31, 32, 33, 34, 35, 36, 37, 38, 39, 40, 41, 42, 43, 44, 45, 46, 47, 48, 49, 50, 51, 52, 53, 54, 55, 56, 57, 58, 59, 60, 61, 62, 63, 64, 65, 66, 67, 68] (by decide +kernel) (by decide +kernel)
set_option maxRecDepth 20000 in
theorem gX6_storm_X6_stormNow : GoodIn wsX6_storm (wsV RX6 160 RX6 yX6_stormNow wsX6_stormNow) := goodIn_app (goodIn_of _ (by decide +kernel)) ggX6_storm_X6_stormNow
theorem dX6_storm_0 : decode cX6_storm 0 = .ok (.aload_n 0, 1) := by decide +kernel
theorem dX6_storm_1 : decode cX6_storm 1 = .ok (.iload_n 1, 1) := by decide +kernel
theorem dX6_storm_2 : decode cX6_storm 2 = .ok (.invokevirtual 133, 3) := by decide +kernel
theorem dX6_storm_5 : decode cX6_storm 5 = .ok (.ifCond .ne 6, 3) := by decide +kernel
theorem dX6_storm_8 : decode cX6_storm 8 = .ok (.ldc 136, 2) := by decide +kernel
theorem dX6_storm_10 : decode cX6_storm 10 = .ok (.ireturn, 1) := by decide +kernel
theorem dX6_storm_11 : decode cX6_storm 11 = .ok (.iload_n 2, 1) := by decide +kernel
theorem dX6_storm_12 : decode cX6_storm 12 = .ok (.iconst 0, 1) := by decide +kernel
theorem dX6_storm_13 : decode cX6_storm 13 = .ok (.iconst 3, 1) := by decide +kernel
theorem dX6_storm_14 : decode cX6_storm 14 = .ok (.invokestatic 59, 3) := by decide +kernel
theorem dX6_storm_17 : decode cX6_storm 17 = .ok (.ifCond .ne 25, 3) := by decide +kernel
theorem dX6_storm_20 : decode cX6_storm 20 = .ok (.iload_n 2, 1) := by decide +kernel
theorem dX6_storm_21 : decode cX6_storm 21 = .ok (.bipush 10, 2) := by decide +kernel
theorem dX6_storm_23 : decode cX6_storm 23 = .ok (.bipush 12, 2) := by decide +kernel
theorem dX6_storm_25 : decode cX6_storm 25 = .ok (.invokestatic 59, 3) := by decide +kernel
theorem dX6_storm_28 : decode cX6_storm 28 = .ok (.ifCond .ne 14, 3) := by decide +kernel
theorem dX6_storm_31 : decode cX6_storm 31 = .ok (.iload_n 2, 1) := by decide +kernel
theorem dX6_storm_32 : decode cX6_storm 32 = .ok (.bipush 20, 2) := by decide +kernel
theorem dX6_storm_34 : decode cX6_storm 34 = .ok (.bipush 27, 2) := by decide +kernel
theorem dX6_storm_36 : decode cX6_storm 36 = .ok (.invokestatic 59, 3) := by decide +kernel
theorem dX6_storm_39 : decode cX6_storm 39 = .ok (.ifCond .eq 7, 3) := by decide +kernel
theorem dX6_storm_42 : decode cX6_storm 42 = .ok (.iconst 1, 1) := by decide +kernel
theorem dX6_storm_43 : decode cX6_storm 43 = .ok (.goto 4, 3) := by decide +kernel
theorem dX6_storm_46 : decode cX6_storm 46 = .ok (.iconst 0, 1) := by decide +kernel
theorem dX6_storm_47 : decode cX6_storm 47 = .ok (.istore_n 3, 1) := by decide +kernel
theorem dX6_storm_48 : decode cX6_storm 48 = .ok (.iload_n 3, 1) := by decide +kernel
theorem dX6_storm_49 : decode cX6_storm 49 = .ok (.ifCond .eq 12, 3) := by decide +kernel
theorem dX6_storm_52 : decode cX6_storm 52 = .ok (.aload_n 0, 1) := by decide +kernel
theorem dX6_storm_53 : decode cX6_storm 53 = .ok (.iload_n 1, 1) := by decide +kernel
theorem dX6_storm_54 : decode cX6_storm 54 = .ok (.iload_n 2, 1) := by decide +kernel
theorem dX6_storm_55 : decode cX6_storm 55 = .ok (.invokevirtual 160, 3) := by decide +kernel
theorem dX6_storm_58 : decode cX6_storm 58 = .ok (.goto 5, 3) := by decide +kernel
theorem dX6_storm_61 : decode cX6_storm 61 = .ok (.ldc 63, 2) := by decide +kernel
theorem dX6_storm_63 : decode cX6_storm 63 = .ok (.ireturn, 1) := by decide +kernel
set_option maxRecDepth 20000 in
theorem ggX6_isDivided_X6_runoffAt : GoodIn wsX6_isDivided wsX6_runoffAt := goodIn_r _ [9, 10, 11, 12, 8, 13, 19, 20, 21, 22, 23, 24, 25, 26, 27, 28, 29, 30, 31, 32, 33, 34, 35, 36, 37, 38, 39, 40, 41, 42, 43, 44, 45, 46, 47, 48, 49, 50, 51] (by decide +kernel) (by decide +kernel)
set_option maxRecDepth 20000 in
theorem gX6_isDivided_X6_runoffAt : GoodIn wsX6_isDivided (wsV RX6 151 RX6 yX6_runoffAt wsX6_runoffAt) := goodIn_app (goodIn_of _ (by decide +kernel)) ggX6_isDivided_X6_runoffAt
set_option maxRecDepth 20000 in
theorem ggX6_isDivided_X6_within : GoodIn wsX6_isDivided wsX6_within := goodIn_r _ [13] (by decide +kernel) (by decide +kernel)
set_option maxRecDepth 20000 in
theorem gX6_isDivided_X6_within : GoodIn wsX6_isDivided (va_wsS RX6 59 yX6_within wsX6_within) := goodIn_app (goodIn_of _ (by decide +kernel)) ggX6_isDivided_X6_within
set_option maxRecDepth 20000 in
theorem ggX6_isDivided_X6_rainAt : GoodIn wsX6_isDivided wsX6_rainAt := goodIn_r _ [17, 18, 11, 12, 8, 13, 19, 20, 21, 22, 23, 24, 25, 26, 27, 28, 29, 30, 31, 32, 33, 34, 35, 36, 37, 38, 39, 40, 41, 42, 43, 44, 45, 46, 47, 48, 49, 50, 51] (by decide +kernel) (by decide +kernel)
set_option maxRecDepth 20000 in
theorem gX6_isDivided_X6_rainAt : GoodIn wsX6_isDivided (wsV RX6 147 RX6 yX6_rainAt wsX6_rainAt) := goodIn_app (goodIn_of _ (by decide +kernel)) ggX6_isDivided_X6_rainAt
theorem dX6_isDivided_0 : decode cX6_isDivided 0 = .ok (.aload_n 0, 1) := by decide +kernel
theorem dX6_isDivided_1 : decode cX6_isDivided 1 = .ok (.aload_n 0, 1) := by decide +kernel
theorem dX6_isDivided_2 : decode cX6_isDivided 2 = .ok (.getfield 19, 3) := by decide +kernel
theorem dX6_isDivided_5 : decode cX6_isDivided 5 = .ok (.iload_n 1, 1) := by decide +kernel
theorem dX6_isDivided_6 : decode cX6_isDivided 6 = .ok (.iaload, 1) := by decide +kernel
theorem dX6_isDivided_7 : decode cX6_isDivided 7 = .ok (.aload_n 0, 1) := by decide +kernel
theorem dX6_isDivided_8 : decode cX6_isDivided 8 = .ok (.getfield 13, 3) := by decide +kernel
theorem dX6_isDivided_11 : decode cX6_isDivided 11 = .ok (.iload_n 1, 1) := by decide +kernel
theorem dX6_isDivided_12 : decode cX6_isDivided 12 = .ok (.iaload, 1) := by decide +kernel
theorem dX6_isDivided_13 : decode cX6_isDivided 13 = .ok (.isub, 1) := by decide +kernel
theorem dX6_isDivided_14 : decode cX6_isDivided 14 = .ok (.iconst 1, 1) := by decide +kernel
theorem dX6_isDivided_15 : decode cX6_isDivided 15 = .ok (.iadd, 1) := by decide +kernel
theorem dX6_isDivided_16 : decode cX6_isDivided 16 = .ok (.putfield 163, 3) := by decide +kernel
theorem dX6_isDivided_19 : decode cX6_isDivided 19 = .ok (.aload_n 0, 1) := by decide +kernel
theorem dX6_isDivided_20 : decode cX6_isDivided 20 = .ok (.getfield 163, 3) := by decide +kernel
theorem dX6_isDivided_23 : decode cX6_isDivided 23 = .ok (.iconst 1, 1) := by decide +kernel
theorem dX6_isDivided_24 : decode cX6_isDivided 24 = .ok (.if_icmp .ge 5, 3) := by decide +kernel
theorem dX6_isDivided_27 : decode cX6_isDivided 27 = .ok (.iconst 0, 1) := by decide +kernel
theorem dX6_isDivided_28 : decode cX6_isDivided 28 = .ok (.ireturn, 1) := by decide +kernel
theorem dX6_isDivided_29 : decode cX6_isDivided 29 = .ok (.iconst 0, 1) := by decide +kernel
theorem dX6_isDivided_30 : decode cX6_isDivided 30 = .ok (.istore_n 2, 1) := by decide +kernel
theorem dX6_isDivided_31 : decode cX6_isDivided 31 = .ok (.iload_n 2, 1) := by decide +kernel
theorem dX6_isDivided_32 : decode cX6_isDivided 32 = .ok (.aload_n 0, 1) := by decide +kernel
theorem dX6_isDivided_33 : decode cX6_isDivided 33 = .ok (.getfield 19, 3) := by decide +kernel
theorem dX6_isDivided_36 : decode cX6_isDivided 36 = .ok (.iload_n 1, 1) := by decide +kernel
theorem dX6_isDivided_37 : decode cX6_isDivided 37 = .ok (.iaload, 1) := by decide +kernel
theorem dX6_isDivided_38 : decode cX6_isDivided 38 = .ok (.if_icmp .ge 131, 3) := by decide +kernel
theorem dX6_isDivided_41 : decode cX6_isDivided 41 = .ok (.aload_n 0, 1) := by decide +kernel
theorem dX6_isDivided_42 : decode cX6_isDivided 42 = .ok (.iload_n 1, 1) := by decide +kernel
theorem dX6_isDivided_43 : decode cX6_isDivided 43 = .ok (.iload_n 2, 1) := by decide +kernel
theorem dX6_isDivided_44 : decode cX6_isDivided 44 = .ok (.invokevirtual 151, 3) := by decide +kernel
theorem dX6_isDivided_47 : decode cX6_isDivided 47 = .ok (.istore_n 3, 1) := by decide +kernel
theorem dX6_isDivided_48 : decode cX6_isDivided 48 = .ok (.iconst 1, 1) := by decide +kernel
theorem dX6_isDivided_49 : decode cX6_isDivided 49 = .ok (.istore 4, 2) := by decide +kernel
theorem dX6_isDivided_51 : decode cX6_isDivided 51 = .ok (.iload 4, 2) := by decide +kernel
theorem dX6_isDivided_53 : decode cX6_isDivided 53 = .ok (.aload_n 0, 1) := by decide +kernel
theorem dX6_isDivided_54 : decode cX6_isDivided 54 = .ok (.getfield 13, 3) := by decide +kernel
theorem dX6_isDivided_57 : decode cX6_isDivided 57 = .ok (.iload_n 1, 1) := by decide +kernel
theorem dX6_isDivided_58 : decode cX6_isDivided 58 = .ok (.iaload, 1) := by decide +kernel
theorem dX6_isDivided_59 : decode cX6_isDivided 59 = .ok (.if_icmp .ge 50, 3) := by decide +kernel
theorem dX6_isDivided_62 : decode cX6_isDivided 62 = .ok (.iload_n 3, 1) := by decide +kernel
theorem dX6_isDivided_63 : decode cX6_isDivided 63 = .ok (.iload_n 2, 1) := by decide +kernel
theorem dX6_isDivided_64 : decode cX6_isDivided 64 = .ok (.iload 4, 2) := by decide +kernel
theorem dX6_isDivided_66 : decode cX6_isDivided 66 = .ok (.isub, 1) := by decide +kernel
theorem dX6_isDivided_67 : decode cX6_isDivided 67 = .ok (.iconst 0, 1) := by decide +kernel
theorem dX6_isDivided_68 : decode cX6_isDivided 68 = .ok (.aload_n 0, 1) := by decide +kernel
theorem dX6_isDivided_69 : decode cX6_isDivided 69 = .ok (.getfield 163, 3) := by decide +kernel
theorem dX6_isDivided_72 : decode cX6_isDivided 72 = .ok (.iconst 1, 1) := by decide +kernel
theorem dX6_isDivided_73 : decode cX6_isDivided 73 = .ok (.isub, 1) := by decide +kernel
end
section
theorem dX6_isDivided_74 : decode cX6_isDivided 74 = .ok (.invokestatic 59, 3) := by decide +kernel
theorem dX6_isDivided_77 : decode cX6_isDivided 77 = .ok (.ifCond .eq 23, 3) := by decide +kernel
theorem dX6_isDivided_80 : decode cX6_isDivided 80 = .ok (.aload_n 0, 1) := by decide +kernel
theorem dX6_isDivided_81 : decode cX6_isDivided 81 = .ok (.iload_n 1, 1) := by decide +kernel
theorem dX6_isDivided_82 : decode cX6_isDivided 82 = .ok (.iload 4, 2) := by decide +kernel
theorem dX6_isDivided_84 : decode cX6_isDivided 84 = .ok (.invokevirtual 147, 3) := by decide +kernel
theorem dX6_isDivided_87 : decode cX6_isDivided 87 = .ok (.aload_n 0, 1) := by decide +kernel
theorem dX6_isDivided_88 : decode cX6_isDivided 88 = .ok (.getfield 40, 3) := by decide +kernel
theorem dX6_isDivided_91 : decode cX6_isDivided 91 = .ok (.iload_n 2, 1) := by decide +kernel
theorem dX6_isDivided_92 : decode cX6_isDivided 92 = .ok (.iload 4, 2) := by decide +kernel
theorem dX6_isDivided_94 : decode cX6_isDivided 94 = .ok (.isub, 1) := by decide +kernel
theorem dX6_isDivided_95 : decode cX6_isDivided 95 = .ok (.iaload, 1) := by decide +kernel
theorem dX6_isDivided_96 : decode cX6_isDivided 96 = .ok (.imul, 1) := by decide +kernel
theorem dX6_isDivided_97 : decode cX6_isDivided 97 = .ok (.goto 4, 3) := by decide +kernel
theorem dX6_isDivided_100 : decode cX6_isDivided 100 = .ok (.iconst 0, 1) := by decide +kernel
theorem dX6_isDivided_101 : decode cX6_isDivided 101 = .ok (.isub, 1) := by decide +kernel
theorem dX6_isDivided_102 : decode cX6_isDivided 102 = .ok (.istore_n 3, 1) := by decide +kernel
theorem dX6_isDivided_103 : decode cX6_isDivided 103 = .ok (.iinc 4 1, 3) := by decide +kernel
theorem dX6_isDivided_106 : decode cX6_isDivided 106 = .ok (.goto (-55), 3) := by decide +kernel
theorem dX6_isDivided_109 : decode cX6_isDivided 109 = .ok (.iload_n 2, 1) := by decide +kernel
theorem dX6_isDivided_110 : decode cX6_isDivided 110 = .ok (.aload_n 0, 1) := by decide +kernel
theorem dX6_isDivided_111 : decode cX6_isDivided 111 = .ok (.getfield 163, 3) := by decide +kernel
theorem dX6_isDivided_114 : decode cX6_isDivided 114 = .ok (.if_icmp .ge 17, 3) := by decide +kernel
theorem dX6_isDivided_117 : decode cX6_isDivided 117 = .ok (.iload_n 3, 1) := by decide +kernel
theorem dX6_isDivided_118 : decode cX6_isDivided 118 = .ok (.aload_n 0, 1) := by decide +kernel
theorem dX6_isDivided_119 : decode cX6_isDivided 119 = .ok (.iload_n 1, 1) := by decide +kernel
theorem dX6_isDivided_120 : decode cX6_isDivided 120 = .ok (.iconst 0, 1) := by decide +kernel
theorem dX6_isDivided_121 : decode cX6_isDivided 121 = .ok (.invokevirtual 147, 3) := by decide +kernel
theorem dX6_isDivided_124 : decode cX6_isDivided 124 = .ok (.irem, 1) := by decide +kernel
theorem dX6_isDivided_125 : decode cX6_isDivided 125 = .ok (.ifCond .eq 12, 3) := by decide +kernel
theorem dX6_isDivided_128 : decode cX6_isDivided 128 = .ok (.goto 7, 3) := by decide +kernel
theorem dX6_isDivided_131 : decode cX6_isDivided 131 = .ok (.iload_n 3, 1) := by decide +kernel
theorem dX6_isDivided_132 : decode cX6_isDivided 132 = .ok (.ifCond .eq 5, 3) := by decide +kernel
theorem dX6_isDivided_135 : decode cX6_isDivided 135 = .ok (.iconst 0, 1) := by decide +kernel
theorem dX6_isDivided_136 : decode cX6_isDivided 136 = .ok (.ireturn, 1) := by decide +kernel
theorem dX6_isDivided_137 : decode cX6_isDivided 137 = .ok (.aload_n 0, 1) := by decide +kernel
theorem dX6_isDivided_138 : decode cX6_isDivided 138 = .ok (.getfield 40, 3) := by decide +kernel
theorem dX6_isDivided_141 : decode cX6_isDivided 141 = .ok (.iload_n 2, 1) := by decide +kernel
theorem dX6_isDivided_142 : decode cX6_isDivided 142 = .ok (.iload_n 2, 1) := by decide +kernel
theorem dX6_isDivided_143 : decode cX6_isDivided 143 = .ok (.aload_n 0, 1) := by decide +kernel
theorem dX6_isDivided_144 : decode cX6_isDivided 144 = .ok (.getfield 163, 3) := by decide +kernel
theorem dX6_isDivided_147 : decode cX6_isDivided 147 = .ok (.if_icmp .ge 14, 3) := by decide +kernel
theorem dX6_isDivided_150 : decode cX6_isDivided 150 = .ok (.iload_n 3, 1) := by decide +kernel
theorem dX6_isDivided_151 : decode cX6_isDivided 151 = .ok (.aload_n 0, 1) := by decide +kernel
theorem dX6_isDivided_152 : decode cX6_isDivided 152 = .ok (.iload_n 1, 1) := by decide +kernel
theorem dX6_isDivided_153 : decode cX6_isDivided 153 = .ok (.iconst 0, 1) := by decide +kernel
theorem dX6_isDivided_154 : decode cX6_isDivided 154 = .ok (.invokevirtual 147, 3) := by decide +kernel
theorem dX6_isDivided_157 : decode cX6_isDivided 157 = .ok (.idiv, 1) := by decide +kernel
theorem dX6_isDivided_158 : decode cX6_isDivided 158 = .ok (.goto 4, 3) := by decide +kernel
theorem dX6_isDivided_161 : decode cX6_isDivided 161 = .ok (.iconst 0, 1) := by decide +kernel
theorem dX6_isDivided_162 : decode cX6_isDivided 162 = .ok (.iastore, 1) := by decide +kernel
theorem dX6_isDivided_163 : decode cX6_isDivided 163 = .ok (.iinc 2 1, 3) := by decide +kernel
theorem dX6_isDivided_166 : decode cX6_isDivided 166 = .ok (.goto (-135), 3) := by decide +kernel
theorem dX6_isDivided_169 : decode cX6_isDivided 169 = .ok (.iconst 1, 1) := by decide +kernel
theorem dX6_isDivided_170 : decode cX6_isDivided 170 = .ok (.ireturn, 1) := by decide +kernel
set_option maxRecDepth 20000 in
theorem ggX6_dividedNow_X6_isDivided : GoodIn wsX6_dividedNow wsX6_isDivided := goodIn_r _ [8, 9, 10, 2, 3, 11, 12, 13, 7, 14, 15, 16, 17, 18, 19, 20, 21, 22, 23, 24, 25, 26, 27, 28, 29, 30, 31, 32, 33, 34, 35, 36, 37, 38, 39, 40, 41, 42, 43, 44, 45, 46, 47, 48, 49, 50, 51, 52, 53, 54, 55, 56] (by decide +kernel) (by decide +kernel)
set_option maxRecDepth 20000 in
theorem gX6_dividedNow_X6_isDivided : GoodIn wsX6_dividedNow (wsV RX6 166 RX6 yX6_isDivided wsX6_isDivided) := goodIn_app (goodIn_of _ (by decide +kernel)) ggX6_dividedNow_X6_isDivided
theorem dX6_dividedNow_0 : decode cX6_dividedNow 0 = .ok (.aload_n 0, 1) := by decide +kernel
theorem dX6_dividedNow_1 : decode cX6_dividedNow 1 = .ok (.iload_n 1, 1) := by decide +kernel
theorem dX6_dividedNow_2 : decode cX6_dividedNow 2 = .ok (.invokevirtual 166, 3) := by decide +kernel
theorem dX6_dividedNow_5 : decode cX6_dividedNow 5 = .ok (.ifCond .ne 6, 3) := by decide +kernel
theorem dX6_dividedNow_8 : decode cX6_dividedNow 8 = .ok (.ldc 169, 2) := by decide +kernel
theorem dX6_dividedNow_10 : decode cX6_dividedNow 10 = .ok (.ireturn, 1) := by decide +kernel
theorem dX6_dividedNow_11 : decode cX6_dividedNow 11 = .ok (.iload_n 2, 1) := by decide +kernel
theorem dX6_dividedNow_12 : decode cX6_dividedNow 12 = .ok (.ifCond .ne 10, 3) := by decide +kernel
theorem dX6_dividedNow_15 : decode cX6_dividedNow 15 = .ok (.aload_n 0, 1) := by decide +kernel
theorem dX6_dividedNow_16 : decode cX6_dividedNow 16 = .ok (.getfield 163, 3) := by decide +kernel
theorem dX6_dividedNow_19 : decode cX6_dividedNow 19 = .ok (.goto 28, 3) := by decide +kernel
theorem dX6_dividedNow_22 : decode cX6_dividedNow 22 = .ok (.iload_n 2, 1) := by decide +kernel
theorem dX6_dividedNow_23 : decode cX6_dividedNow 23 = .ok (.bipush 10, 2) := by decide +kernel
theorem dX6_dividedNow_25 : decode cX6_dividedNow 25 = .ok (.isub, 1) := by decide +kernel
theorem dX6_dividedNow_26 : decode cX6_dividedNow 26 = .ok (.aload_n 0, 1) := by decide +kernel
theorem dX6_dividedNow_27 : decode cX6_dividedNow 27 = .ok (.getfield 163, 3) := by decide +kernel
theorem dX6_dividedNow_30 : decode cX6_dividedNow 30 = .ok (.if_icmp .ge 15, 3) := by decide +kernel
theorem dX6_dividedNow_33 : decode cX6_dividedNow 33 = .ok (.aload_n 0, 1) := by decide +kernel
theorem dX6_dividedNow_34 : decode cX6_dividedNow 34 = .ok (.getfield 40, 3) := by decide +kernel
theorem dX6_dividedNow_37 : decode cX6_dividedNow 37 = .ok (.iload_n 2, 1) := by decide +kernel
theorem dX6_dividedNow_38 : decode cX6_dividedNow 38 = .ok (.bipush 10, 2) := by decide +kernel
theorem dX6_dividedNow_40 : decode cX6_dividedNow 40 = .ok (.isub, 1) := by decide +kernel
theorem dX6_dividedNow_41 : decode cX6_dividedNow 41 = .ok (.iaload, 1) := by decide +kernel
theorem dX6_dividedNow_42 : decode cX6_dividedNow 42 = .ok (.goto 5, 3) := by decide +kernel
theorem dX6_dividedNow_45 : decode cX6_dividedNow 45 = .ok (.ldc 169, 2) := by decide +kernel
theorem dX6_dividedNow_47 : decode cX6_dividedNow 47 = .ok (.ireturn, 1) := by decide +kernel
set_option maxRecDepth 20000 in
theorem ggX6_divided_X6_isStorm : GoodIn wsX6_divided wsX6_isStorm := goodIn_r _ [7, 8, 9, 10, 6, 11, 35, 36, 37, 38, 39, 40, 41, 42, 43, 44, 45, 46, 47, 48, 49, 50, 51, 52, 53, 54, 55, 56, 57, 58, 59, 60, 61, 62, 63, 64, 65, 66, 67] (by decide +kernel) (by decide +kernel)
set_option maxRecDepth 20000 in
theorem gX6_divided_X6_isStorm : GoodIn wsX6_divided (wsV RX6 133 RX6 yX6_isStorm wsX6_isStorm) := goodIn_app (goodIn_of _ (by decide +kernel)) ggX6_divided_X6_isStorm
set_option maxRecDepth 20000 in
theorem ggX6_divided_X6_within : GoodIn wsX6_divided wsX6_within := goodIn_r _ [11] (by decide +kernel) (by decide +kernel)
set_option maxRecDepth 20000 in
theorem gX6_divided_X6_within : GoodIn wsX6_divided (va_wsS RX6 59 yX6_within wsX6_within) := goodIn_app (goodIn_of _ (by decide +kernel)) ggX6_divided_X6_within
set_option maxRecDepth 20000 in
theorem ggX6_divided_X6_dividedNow : GoodIn wsX6_divided wsX6_dividedNow := goodIn_r _ [15, 16, 17, 18, 19, 20, 21, 6, 22, 23, 24, 25, 26, 27, 28, 29, 9, 10, 11, 30, 31, 32, 33, 34, 35, 36, 37, 38, 39, 40, 41, 42, 43, 44, 45, 46, 47, 48, 49, 50, 51, 52, 53, 54, 55, 56, 57, 58, 59, 60, 61, 62, 63, 64, 65, 66, 67] (by decide +kernel) (by decide +kernel)
set_option maxRecDepth 20000 in
theorem gX6_divided_X6_dividedNow : GoodIn wsX6_divided (wsV RX6 170 RX6 yX6_dividedNow wsX6_dividedNow) := goodIn_app (goodIn_of _ (by decide +kernel)) ggX6_divided_X6_dividedNow
theorem dX6_divided_0 : decode cX6_divided 0 = .ok (.aload_n 0, 1) := by decide +kernel
theorem dX6_divided_1 : decode cX6_divided 1 = .ok (.iload_n 1, 1) := by decide +kernel
theorem dX6_divided_2 : decode cX6_divided 2 = .ok (.invokevirtual 133, 3) := by decide +kernel
theorem dX6_divided_5 : decode cX6_divided 5 = .ok (.ifCond .ne 6, 3) := by decide +kernel
theorem dX6_divided_8 : decode cX6_divided 8 = .ok (.ldc 136, 2) := by decide +kernel
theorem dX6_divided_10 : decode cX6_divided 10 = .ok (.ireturn, 1) := by decide +kernel
theorem dX6_divided_11 : decode cX6_divided 11 = .ok (.iload_n 2, 1) := by decide +kernel
theorem dX6_divided_12 : decode cX6_divided 12 = .ok (.ifCond .eq 14, 3) := by decide +kernel
theorem dX6_divided_15 : decode cX6_divided 15 = .ok (.iload_n 2, 1) := by decide +kernel
theorem dX6_divided_16 : decode cX6_divided 16 = .ok (.bipush 10, 2) := by decide +kernel
theorem dX6_divided_18 : decode cX6_divided 18 = .ok (.bipush 17, 2) := by decide +kernel
theorem dX6_divided_20 : decode cX6_divided 20 = .ok (.invokestatic 59, 3) := by decide +kernel
theorem dX6_divided_23 : decode cX6_divided 23 = .ok (.ifCond .eq 12, 3) := by decide +kernel
theorem dX6_divided_26 : decode cX6_divided 26 = .ok (.aload_n 0, 1) := by decide +kernel
theorem dX6_divided_27 : decode cX6_divided 27 = .ok (.iload_n 1, 1) := by decide +kernel
theorem dX6_divided_28 : decode cX6_divided 28 = .ok (.iload_n 2, 1) := by decide +kernel
theorem dX6_divided_29 : decode cX6_divided 29 = .ok (.invokevirtual 170, 3) := by decide +kernel
theorem dX6_divided_32 : decode cX6_divided 32 = .ok (.goto 5, 3) := by decide +kernel
theorem dX6_divided_35 : decode cX6_divided 35 = .ok (.ldc 63, 2) := by decide +kernel
theorem dX6_divided_37 : decode cX6_divided 37 = .ok (.ireturn, 1) := by decide +kernel
set_option maxRecDepth 20000 in
theorem ggX6_partAt_X6_within : GoodIn wsX6_partAt wsX6_within := goodIn_r _ [5] (by decide +kernel) (by decide +kernel)
set_option maxRecDepth 20000 in
theorem gX6_partAt_X6_within : GoodIn wsX6_partAt (va_wsS RX6 59 yX6_within wsX6_within) := goodIn_app (goodIn_of _ (by decide +kernel)) ggX6_partAt_X6_within
theorem dX6_partAt_0 : decode cX6_partAt 0 = .ok (.iload_n 2, 1) := by decide +kernel
theorem dX6_partAt_1 : decode cX6_partAt 1 = .ok (.iconst 0, 1) := by decide +kernel
theorem dX6_partAt_2 : decode cX6_partAt 2 = .ok (.bipush 7, 2) := by decide +kernel
theorem dX6_partAt_4 : decode cX6_partAt 4 = .ok (.invokestatic 59, 3) := by decide +kernel
theorem dX6_partAt_7 : decode cX6_partAt 7 = .ok (.ifCond .eq 17, 3) := by decide +kernel
theorem dX6_partAt_10 : decode cX6_partAt 10 = .ok (.aload_n 0, 1) := by decide +kernel
theorem dX6_partAt_11 : decode cX6_partAt 11 = .ok (.getfield 31, 3) := by decide +kernel
theorem dX6_partAt_14 : decode cX6_partAt 14 = .ok (.bipush 8, 2) := by decide +kernel
theorem dX6_partAt_16 : decode cX6_partAt 16 = .ok (.iload_n 1, 1) := by decide +kernel
theorem dX6_partAt_17 : decode cX6_partAt 17 = .ok (.imul, 1) := by decide +kernel
theorem dX6_partAt_18 : decode cX6_partAt 18 = .ok (.iload_n 2, 1) := by decide +kernel
theorem dX6_partAt_19 : decode cX6_partAt 19 = .ok (.iadd, 1) := by decide +kernel
theorem dX6_partAt_20 : decode cX6_partAt 20 = .ok (.iaload, 1) := by decide +kernel
theorem dX6_partAt_21 : decode cX6_partAt 21 = .ok (.goto 4, 3) := by decide +kernel
theorem dX6_partAt_24 : decode cX6_partAt 24 = .ok (.iconst 0, 1) := by decide +kernel
theorem dX6_partAt_25 : decode cX6_partAt 25 = .ok (.ireturn, 1) := by decide +kernel
set_option maxRecDepth 20000 in
theorem ggX6_partAll_X6_partAt : GoodIn wsX6_partAll wsX6_partAt := goodIn_r _ [5, 6, 7, 8, 4, 9, 10, 11, 12, 13, 14, 15, 16, 17, 18, 19, 20, 21, 22, 23, 24, 25, 26, 27, 28, 29, 30, 31, 32, 33, 34, 35, 36, 37, 38, 39, 40, 41, 42] (by decide +kernel) (by decide +kernel)
set_option maxRecDepth 20000 in
theorem gX6_partAll_X6_partAt : GoodIn wsX6_partAll (wsV RX6 173 RX6 yX6_partAt wsX6_partAt) := goodIn_app (goodIn_of _ (by decide +kernel)) ggX6_partAll_X6_partAt
theorem dX6_partAll_0 : decode cX6_partAll 0 = .ok (.iconst 0, 1) := by decide +kernel
theorem dX6_partAll_1 : decode cX6_partAll 1 = .ok (.istore_n 2, 1) := by decide +kernel
theorem dX6_partAll_2 : decode cX6_partAll 2 = .ok (.iconst 0, 1) := by decide +kernel
theorem dX6_partAll_3 : decode cX6_partAll 3 = .ok (.istore_n 3, 1) := by decide +kernel
theorem dX6_partAll_4 : decode cX6_partAll 4 = .ok (.iload_n 3, 1) := by decide +kernel
theorem dX6_partAll_5 : decode cX6_partAll 5 = .ok (.bipush 8, 2) := by decide +kernel
theorem dX6_partAll_7 : decode cX6_partAll 7 = .ok (.if_icmp .ge 18, 3) := by decide +kernel
theorem dX6_partAll_10 : decode cX6_partAll 10 = .ok (.iload_n 2, 1) := by decide +kernel
theorem dX6_partAll_11 : decode cX6_partAll 11 = .ok (.aload_n 0, 1) := by decide +kernel
theorem dX6_partAll_12 : decode cX6_partAll 12 = .ok (.iload_n 1, 1) := by decide +kernel
theorem dX6_partAll_13 : decode cX6_partAll 13 = .ok (.iload_n 3, 1) := by decide +kernel
theorem dX6_partAll_14 : decode cX6_partAll 14 = .ok (.invokevirtual 173, 3) := by decide +kernel
theorem dX6_partAll_17 : decode cX6_partAll 17 = .ok (.iadd, 1) := by decide +kernel
theorem dX6_partAll_18 : decode cX6_partAll 18 = .ok (.istore_n 2, 1) := by decide +kernel
theorem dX6_partAll_19 : decode cX6_partAll 19 = .ok (.iinc 3 1, 3) := by decide +kernel
theorem dX6_partAll_22 : decode cX6_partAll 22 = .ok (.goto (-18), 3) := by decide +kernel
theorem dX6_partAll_25 : decode cX6_partAll 25 = .ok (.iload_n 2, 1) := by decide +kernel
theorem dX6_partAll_26 : decode cX6_partAll 26 = .ok (.ireturn, 1) := by decide +kernel
set_option maxRecDepth 20000 in
theorem ggX6_unitNow_X6_partAll : GoodIn wsX6_unitNow wsX6_partAll := goodIn_r _ [7, 8, 9, 10, 6, 11, 12, 13, 14, 15, 16, 17, 18, 19, 20, 21, 22, 23, 24, 25, 26, 27, 28, 29, 30, 31, 32, 33, 34, 35, 36, 37, 38, 39, 40, 41, 42, 43, 44, 45, 46, 47, 48] (by decide +kernel) (by decide +kernel)
set_option maxRecDepth 20000 in
theorem gX6_unitNow_X6_partAll : GoodIn wsX6_unitNow (wsV RX6 176 RX6 yX6_partAll wsX6_partAll) := goodIn_app (goodIn_of _ (by decide +kernel)) ggX6_unitNow_X6_partAll
set_option maxRecDepth 20000 in
theorem ggX6_unitNow_X6_partAt : GoodIn wsX6_unitNow wsX6_partAt := goodIn_r _ [11, 12, 13, 14, 6, 15, 16, 17, 18, 19, 20, 21, 22, 23, 24, 25, 26, 27, 28, 29, 30, 31, 32, 33, 34, 35, 36, 37, 38, 39, 40, 41, 42, 43, 44, 45, 46, 47, 48] (by decide +kernel) (by decide +kernel)
set_option maxRecDepth 20000 in
theorem gX6_unitNow_X6_partAt : GoodIn wsX6_unitNow (wsV RX6 173 RX6 yX6_partAt wsX6_partAt) := goodIn_app (goodIn_of _ (by decide +kernel)) ggX6_unitNow_X6_partAt
theorem dX6_unitNow_0 : decode cX6_unitNow 0 = .ok (.iload_n 2, 1) := by decide +kernel
theorem dX6_unitNow_1 : decode cX6_unitNow 1 = .ok (.ifCond .ne 12, 3) := by decide +kernel
theorem dX6_unitNow_4 : decode cX6_unitNow 4 = .ok (.aload_n 0, 1) := by decide +kernel
theorem dX6_unitNow_5 : decode cX6_unitNow 5 = .ok (.getfield 25, 3) := by decide +kernel
theorem dX6_unitNow_8 : decode cX6_unitNow 8 = .ok (.iload_n 1, 1) := by decide +kernel
theorem dX6_unitNow_9 : decode cX6_unitNow 9 = .ok (.iaload, 1) := by decide +kernel
theorem dX6_unitNow_10 : decode cX6_unitNow 10 = .ok (.goto 39, 3) := by decide +kernel
theorem dX6_unitNow_13 : decode cX6_unitNow 13 = .ok (.iload_n 2, 1) := by decide +kernel
theorem dX6_unitNow_14 : decode cX6_unitNow 14 = .ok (.iconst 1, 1) := by decide +kernel
theorem dX6_unitNow_15 : decode cX6_unitNow 15 = .ok (.if_icmp .ne 12, 3) := by decide +kernel
theorem dX6_unitNow_18 : decode cX6_unitNow 18 = .ok (.aload_n 0, 1) := by decide +kernel
theorem dX6_unitNow_19 : decode cX6_unitNow 19 = .ok (.getfield 28, 3) := by decide +kernel
theorem dX6_unitNow_22 : decode cX6_unitNow 22 = .ok (.iload_n 1, 1) := by decide +kernel
theorem dX6_unitNow_23 : decode cX6_unitNow 23 = .ok (.iaload, 1) := by decide +kernel
theorem dX6_unitNow_24 : decode cX6_unitNow 24 = .ok (.goto 25, 3) := by decide +kernel
theorem dX6_unitNow_27 : decode cX6_unitNow 27 = .ok (.iload_n 2, 1) := by decide +kernel
theorem dX6_unitNow_28 : decode cX6_unitNow 28 = .ok (.iconst 2, 1) := by decide +kernel
theorem dX6_unitNow_29 : decode cX6_unitNow 29 = .ok (.if_icmp .ne 11, 3) := by decide +kernel
theorem dX6_unitNow_32 : decode cX6_unitNow 32 = .ok (.aload_n 0, 1) := by decide +kernel
theorem dX6_unitNow_33 : decode cX6_unitNow 33 = .ok (.iload_n 1, 1) := by decide +kernel
theorem dX6_unitNow_34 : decode cX6_unitNow 34 = .ok (.invokevirtual 176, 3) := by decide +kernel
theorem dX6_unitNow_37 : decode cX6_unitNow 37 = .ok (.goto 12, 3) := by decide +kernel
theorem dX6_unitNow_40 : decode cX6_unitNow 40 = .ok (.aload_n 0, 1) := by decide +kernel
theorem dX6_unitNow_41 : decode cX6_unitNow 41 = .ok (.iload_n 1, 1) := by decide +kernel
theorem dX6_unitNow_42 : decode cX6_unitNow 42 = .ok (.iload_n 2, 1) := by decide +kernel
theorem dX6_unitNow_43 : decode cX6_unitNow 43 = .ok (.bipush 10, 2) := by decide +kernel
theorem dX6_unitNow_45 : decode cX6_unitNow 45 = .ok (.isub, 1) := by decide +kernel
theorem dX6_unitNow_46 : decode cX6_unitNow 46 = .ok (.invokevirtual 173, 3) := by decide +kernel
theorem dX6_unitNow_49 : decode cX6_unitNow 49 = .ok (.ireturn, 1) := by decide +kernel
set_option maxRecDepth 20000 in
theorem ggX6_unit_X6_isUnitThere : GoodIn wsX6_unit wsX6_isUnitThere := goodIn_r _ [7, 8, 9, 10, 6, 11, 27, 28, 29, 30, 31, 32, 33, 34, 35, 36, 37, 38, 39, 40, 41, 42, 43, 44, 45, 46, 47, 48, 49, 50, 51, 52, 53, 54, 55, 56, 57, 58, 59] (by decide +kernel) (by decide +kernel)
set_option maxRecDepth 20000 in
theorem gX6_unit_X6_isUnitThere : GoodIn wsX6_unit (wsV RX6 130 RX6 yX6_isUnitThere wsX6_isUnitThere) := goodIn_app (goodIn_of _ (by decide +kernel)) ggX6_unit_X6_isUnitThere
set_option maxRecDepth 20000 in
theorem ggX6_unit_X6_within : GoodIn wsX6_unit wsX6_within := goodIn_r _ [11] (by decide +kernel) (by decide +kernel)
set_option maxRecDepth 20000 in
theorem gX6_unit_X6_within : GoodIn wsX6_unit (va_wsS RX6 59 yX6_within wsX6_within) := goodIn_app (goodIn_of _ (by decide +kernel)) ggX6_unit_X6_within
set_option maxRecDepth 20000 in
theorem ggX6_unit_X6_unitNow : GoodIn wsX6_unit wsX6_unitNow := goodIn_r _ [15, 16, 17, 18, 19, 20, 6, 21, 22, 23, 24, 25, 26, 9, 10, 11, 27, 28, 29, 30, 31, 32, 33, 34, 35, 36, 37, 38, 39, 40, 41, 42, 43, 44, 45, 46, 47, 48, 49, 50, 51, 52, 53, 54, 55, 56, 57, 58, 59] (by decide +kernel) (by decide +kernel)
set_option maxRecDepth 20000 in
theorem gX6_unit_X6_unitNow : GoodIn wsX6_unit (wsV RX6 179 RX6 yX6_unitNow wsX6_unitNow) := goodIn_app (goodIn_of _ (by decide +kernel)) ggX6_unit_X6_unitNow
theorem dX6_unit_0 : decode cX6_unit 0 = .ok (.aload_n 0, 1) := by decide +kernel
theorem dX6_unit_1 : decode cX6_unit 1 = .ok (.iload_n 1, 1) := by decide +kernel
theorem dX6_unit_2 : decode cX6_unit 2 = .ok (.invokevirtual 130, 3) := by decide +kernel
theorem dX6_unit_5 : decode cX6_unit 5 = .ok (.ifCond .ne 6, 3) := by decide +kernel
theorem dX6_unit_8 : decode cX6_unit 8 = .ok (.ldc 136, 2) := by decide +kernel
theorem dX6_unit_10 : decode cX6_unit 10 = .ok (.ireturn, 1) := by decide +kernel
theorem dX6_unit_11 : decode cX6_unit 11 = .ok (.iload_n 2, 1) := by decide +kernel
theorem dX6_unit_12 : decode cX6_unit 12 = .ok (.iconst 0, 1) := by decide +kernel
theorem dX6_unit_13 : decode cX6_unit 13 = .ok (.iconst 2, 1) := by decide +kernel
theorem dX6_unit_14 : decode cX6_unit 14 = .ok (.invokestatic 59, 3) := by decide +kernel
theorem dX6_unit_17 : decode cX6_unit 17 = .ok (.ifCond .ne 14, 3) := by decide +kernel
theorem dX6_unit_20 : decode cX6_unit 20 = .ok (.iload_n 2, 1) := by decide +kernel
theorem dX6_unit_21 : decode cX6_unit 21 = .ok (.bipush 10, 2) := by decide +kernel
theorem dX6_unit_23 : decode cX6_unit 23 = .ok (.bipush 17, 2) := by decide +kernel
theorem dX6_unit_25 : decode cX6_unit 25 = .ok (.invokestatic 59, 3) := by decide +kernel
theorem dX6_unit_28 : decode cX6_unit 28 = .ok (.ifCond .eq 12, 3) := by decide +kernel
theorem dX6_unit_31 : decode cX6_unit 31 = .ok (.aload_n 0, 1) := by decide +kernel
theorem dX6_unit_32 : decode cX6_unit 32 = .ok (.iload_n 1, 1) := by decide +kernel
theorem dX6_unit_33 : decode cX6_unit 33 = .ok (.iload_n 2, 1) := by decide +kernel
theorem dX6_unit_34 : decode cX6_unit 34 = .ok (.invokevirtual 179, 3) := by decide +kernel
theorem dX6_unit_37 : decode cX6_unit 37 = .ok (.goto 5, 3) := by decide +kernel
theorem dX6_unit_40 : decode cX6_unit 40 = .ok (.ldc 63, 2) := by decide +kernel
theorem dX6_unit_42 : decode cX6_unit 42 = .ok (.ireturn, 1) := by decide +kernel
set_option maxRecDepth 20000 in
theorem ggX6_madeAt_X6_rainAt : GoodIn wsX6_madeAt wsX6_rainAt := goodIn_r _ [5, 6, 7, 8, 4, 9, 15, 16, 17, 18, 19, 20, 21, 22, 23, 24, 25, 26, 27, 28, 29, 30, 31, 32, 33, 34, 35, 36, 37, 38, 39, 40, 41, 42, 43, 44, 45, 46, 47] (by decide +kernel) (by decide +kernel)
set_option maxRecDepth 20000 in
theorem gX6_madeAt_X6_rainAt : GoodIn wsX6_madeAt (wsV RX6 147 RX6 yX6_rainAt wsX6_rainAt) := goodIn_app (goodIn_of _ (by decide +kernel)) ggX6_madeAt_X6_rainAt
set_option maxRecDepth 20000 in
theorem ggX6_madeAt_X6_partAt : GoodIn wsX6_madeAt wsX6_partAt := goodIn_r _ [13, 14, 7, 8, 4, 9, 15, 16, 17, 18, 19, 20, 21, 22, 23, 24, 25, 26, 27, 28, 29, 30, 31, 32, 33, 34, 35, 36, 37, 38, 39, 40, 41, 42, 43, 44, 45, 46, 47] (by decide +kernel) (by decide +kernel)
set_option maxRecDepth 20000 in
theorem gX6_madeAt_X6_partAt : GoodIn wsX6_madeAt (wsV RX6 173 RX6 yX6_partAt wsX6_partAt) := goodIn_app (goodIn_of _ (by decide +kernel)) ggX6_madeAt_X6_partAt
theorem dX6_madeAt_0 : decode cX6_madeAt 0 = .ok (.iconst 0, 1) := by decide +kernel
theorem dX6_madeAt_1 : decode cX6_madeAt 1 = .ok (.istore 4, 2) := by decide +kernel
theorem dX6_madeAt_3 : decode cX6_madeAt 3 = .ok (.iconst 0, 1) := by decide +kernel
theorem dX6_madeAt_4 : decode cX6_madeAt 4 = .ok (.istore 5, 2) := by decide +kernel
theorem dX6_madeAt_6 : decode cX6_madeAt 6 = .ok (.iload 5, 2) := by decide +kernel
theorem dX6_madeAt_8 : decode cX6_madeAt 8 = .ok (.iconst 3, 1) := by decide +kernel
theorem dX6_madeAt_9 : decode cX6_madeAt 9 = .ok (.if_icmp .ge 31, 3) := by decide +kernel
theorem dX6_madeAt_12 : decode cX6_madeAt 12 = .ok (.iload 4, 2) := by decide +kernel
theorem dX6_madeAt_14 : decode cX6_madeAt 14 = .ok (.aload_n 0, 1) := by decide +kernel
theorem dX6_madeAt_15 : decode cX6_madeAt 15 = .ok (.iload_n 2, 1) := by decide +kernel
theorem dX6_madeAt_16 : decode cX6_madeAt 16 = .ok (.iload 5, 2) := by decide +kernel
theorem dX6_madeAt_18 : decode cX6_madeAt 18 = .ok (.invokevirtual 147, 3) := by decide +kernel
theorem dX6_madeAt_21 : decode cX6_madeAt 21 = .ok (.aload_n 0, 1) := by decide +kernel
theorem dX6_madeAt_22 : decode cX6_madeAt 22 = .ok (.iload_n 1, 1) := by decide +kernel
theorem dX6_madeAt_23 : decode cX6_madeAt 23 = .ok (.iload_n 3, 1) := by decide +kernel
theorem dX6_madeAt_24 : decode cX6_madeAt 24 = .ok (.iload 5, 2) := by decide +kernel
theorem dX6_madeAt_26 : decode cX6_madeAt 26 = .ok (.isub, 1) := by decide +kernel
theorem dX6_madeAt_27 : decode cX6_madeAt 27 = .ok (.invokevirtual 173, 3) := by decide +kernel
theorem dX6_madeAt_30 : decode cX6_madeAt 30 = .ok (.imul, 1) := by decide +kernel
theorem dX6_madeAt_31 : decode cX6_madeAt 31 = .ok (.iadd, 1) := by decide +kernel
theorem dX6_madeAt_32 : decode cX6_madeAt 32 = .ok (.istore 4, 2) := by decide +kernel
theorem dX6_madeAt_34 : decode cX6_madeAt 34 = .ok (.iinc 5 1, 3) := by decide +kernel
theorem dX6_madeAt_37 : decode cX6_madeAt 37 = .ok (.goto (-31), 3) := by decide +kernel
theorem dX6_madeAt_40 : decode cX6_madeAt 40 = .ok (.iload 4, 2) := by decide +kernel
theorem dX6_madeAt_42 : decode cX6_madeAt 42 = .ok (.ireturn, 1) := by decide +kernel
set_option maxRecDepth 20000 in
theorem ggX6_made_X6_isUnitThere : GoodIn wsX6_made wsX6_isUnitThere := goodIn_r _ [7, 8, 9, 10, 6, 11, 31, 32, 33, 34, 35, 36, 37, 38, 39, 40, 41, 42, 43, 44, 45, 46, 47, 48, 49, 50, 51, 52, 53, 54, 55, 56, 57, 58, 59, 60, 61, 62, 63] (by decide +kernel) (by decide +kernel)
set_option maxRecDepth 20000 in
theorem gX6_made_X6_isUnitThere : GoodIn wsX6_made (wsV RX6 130 RX6 yX6_isUnitThere wsX6_isUnitThere) := goodIn_app (goodIn_of _ (by decide +kernel)) ggX6_made_X6_isUnitThere
set_option maxRecDepth 20000 in
theorem ggX6_made_X6_isStorm : GoodIn wsX6_made wsX6_isStorm := goodIn_r _ [15, 16, 9, 10, 6, 11, 31, 32, 33, 34, 35, 36, 37, 38, 39, 40, 41, 42, 43, 44, 45, 46, 47, 48, 49, 50, 51, 52, 53, 54, 55, 56, 57, 58, 59, 60, 61, 62, 63] (by decide +kernel) (by decide +kernel)
set_option maxRecDepth 20000 in
theorem gX6_made_X6_isStorm : GoodIn wsX6_made (wsV RX6 133 RX6 yX6_isStorm wsX6_isStorm) := goodIn_app (goodIn_of _ (by decide +kernel)) ggX6_made_X6_isStorm
set_option maxRecDepth 20000 in
theorem ggX6_made_X6_within : GoodIn wsX6_made wsX6_within := goodIn_r _ [11] (by decide +kernel) (by decide +kernel)
set_option maxRecDepth 20000 in
theorem gX6_made_X6_within : GoodIn wsX6_made (va_wsS RX6 59 yX6_within wsX6_within) := goodIn_app (goodIn_of _ (by decide +kernel)) ggX6_made_X6_within
set_option maxRecDepth 20000 in
theorem ggX6_made_X6_madeAt : GoodIn wsX6_made wsX6_madeAt := goodIn_r _ [20, 21, 22, 23, 6, 24, 25, 9, 10, 11, 26, 27, 28, 29, 30, 31, 32, 33, 34, 35, 36, 37, 38, 39, 40, 41, 42, 43, 44, 45, 46, 47, 48, 49, 50, 51, 52, 53, 54, 55, 56, 57, 58, 59, 60, 61, 62, 63] (by decide +kernel) (by decide +kernel)
set_option maxRecDepth 20000 in
theorem gX6_made_X6_madeAt : GoodIn wsX6_made (wsV RX6 182 RX6 yX6_madeAt wsX6_madeAt) := goodIn_app (goodIn_of _ (by decide +kernel)) ggX6_made_X6_madeAt
theorem dX6_made_0 : decode cX6_made 0 = .ok (.aload_n 0, 1) := by decide +kernel
theorem dX6_made_1 : decode cX6_made 1 = .ok (.iload_n 1, 1) := by decide +kernel
theorem dX6_made_2 : decode cX6_made 2 = .ok (.invokevirtual 130, 3) := by decide +kernel
theorem dX6_made_5 : decode cX6_made 5 = .ok (.ifCond .eq 11, 3) := by decide +kernel
theorem dX6_made_8 : decode cX6_made 8 = .ok (.aload_n 0, 1) := by decide +kernel
theorem dX6_made_9 : decode cX6_made 9 = .ok (.iload_n 2, 1) := by decide +kernel
theorem dX6_made_10 : decode cX6_made 10 = .ok (.invokevirtual 133, 3) := by decide +kernel
theorem dX6_made_13 : decode cX6_made 13 = .ok (.ifCond .ne 6, 3) := by decide +kernel
theorem dX6_made_16 : decode cX6_made 16 = .ok (.ldc 136, 2) := by decide +kernel
theorem dX6_made_18 : decode cX6_made 18 = .ok (.ireturn, 1) := by decide +kernel
theorem dX6_made_19 : decode cX6_made 19 = .ok (.iload_n 3, 1) := by decide +kernel
theorem dX6_made_20 : decode cX6_made 20 = .ok (.iconst 0, 1) := by decide +kernel
theorem dX6_made_21 : decode cX6_made 21 = .ok (.bipush 20, 2) := by decide +kernel
theorem dX6_made_23 : decode cX6_made 23 = .ok (.invokestatic 59, 3) := by decide +kernel
theorem dX6_made_26 : decode cX6_made 26 = .ok (.ifCond .eq 13, 3) := by decide +kernel
theorem dX6_made_29 : decode cX6_made 29 = .ok (.aload_n 0, 1) := by decide +kernel
theorem dX6_made_30 : decode cX6_made 30 = .ok (.iload_n 1, 1) := by decide +kernel
theorem dX6_made_31 : decode cX6_made 31 = .ok (.iload_n 2, 1) := by decide +kernel
theorem dX6_made_32 : decode cX6_made 32 = .ok (.iload_n 3, 1) := by decide +kernel
theorem dX6_made_33 : decode cX6_made 33 = .ok (.invokevirtual 182, 3) := by decide +kernel
theorem dX6_made_36 : decode cX6_made 36 = .ok (.goto 5, 3) := by decide +kernel
theorem dX6_made_39 : decode cX6_made 39 = .ok (.ldc 63, 2) := by decide +kernel
theorem dX6_made_41 : decode cX6_made 41 = .ok (.ireturn, 1) := by decide +kernel
set_option maxRecDepth 20000 in
theorem ggX6_missedNow_X6_madeAt : GoodIn wsX6_missedNow wsX6_madeAt := goodIn_r _ [5, 6, 7, 8, 4, 9, 10, 11, 12, 13, 14, 15, 16, 17, 18, 24, 25, 26, 27, 28, 29, 30, 31, 32, 33, 34, 35, 36, 37, 38, 39, 40, 41, 42, 43, 44, 45, 46, 47, 48, 49, 50, 51, 52, 53, 54, 55, 56] (by decide +kernel) (by decide +kernel)
set_option maxRecDepth 20000 in
theorem gX6_missedNow_X6_madeAt : GoodIn wsX6_missedNow (wsV RX6 182 RX6 yX6_madeAt wsX6_madeAt) := goodIn_app (goodIn_of _ (by decide +kernel)) ggX6_missedNow_X6_madeAt
set_option maxRecDepth 20000 in
theorem ggX6_missedNow_X6_runoffAt : GoodIn wsX6_missedNow wsX6_runoffAt := goodIn_r _ [22, 23, 11, 12, 4, 13, 24, 25, 26, 27, 28, 29, 30, 31, 32, 33, 34, 35, 36, 37, 38, 39, 40, 41, 42, 43, 44, 45, 46, 47, 48, 49, 50, 51, 52, 53, 54, 55, 56] (by decide +kernel) (by decide +kernel)
set_option maxRecDepth 20000 in
theorem gX6_missedNow_X6_runoffAt : GoodIn wsX6_missedNow (wsV RX6 151 RX6 yX6_runoffAt wsX6_runoffAt) := goodIn_app (goodIn_of _ (by decide +kernel)) ggX6_missedNow_X6_runoffAt
theorem dX6_missedNow_0 : decode cX6_missedNow 0 = .ok (.iconst 0, 1) := by decide +kernel
theorem dX6_missedNow_1 : decode cX6_missedNow 1 = .ok (.istore_n 3, 1) := by decide +kernel
theorem dX6_missedNow_2 : decode cX6_missedNow 2 = .ok (.iconst 0, 1) := by decide +kernel
theorem dX6_missedNow_3 : decode cX6_missedNow 3 = .ok (.istore 4, 2) := by decide +kernel
theorem dX6_missedNow_5 : decode cX6_missedNow 5 = .ok (.iload 4, 2) := by decide +kernel
theorem dX6_missedNow_7 : decode cX6_missedNow 7 = .ok (.bipush 20, 2) := by decide +kernel
theorem dX6_missedNow_9 : decode cX6_missedNow 9 = .ok (.if_icmp .gt 35, 3) := by decide +kernel
theorem dX6_missedNow_12 : decode cX6_missedNow 12 = .ok (.aload_n 0, 1) := by decide +kernel
theorem dX6_missedNow_13 : decode cX6_missedNow 13 = .ok (.iload_n 1, 1) := by decide +kernel
theorem dX6_missedNow_14 : decode cX6_missedNow 14 = .ok (.iload_n 2, 1) := by decide +kernel
theorem dX6_missedNow_15 : decode cX6_missedNow 15 = .ok (.iload 4, 2) := by decide +kernel
theorem dX6_missedNow_17 : decode cX6_missedNow 17 = .ok (.invokevirtual 182, 3) := by decide +kernel
theorem dX6_missedNow_20 : decode cX6_missedNow 20 = .ok (.aload_n 0, 1) := by decide +kernel
theorem dX6_missedNow_21 : decode cX6_missedNow 21 = .ok (.iload_n 2, 1) := by decide +kernel
theorem dX6_missedNow_22 : decode cX6_missedNow 22 = .ok (.iload 4, 2) := by decide +kernel
theorem dX6_missedNow_24 : decode cX6_missedNow 24 = .ok (.invokevirtual 151, 3) := by decide +kernel
theorem dX6_missedNow_27 : decode cX6_missedNow 27 = .ok (.isub, 1) := by decide +kernel
theorem dX6_missedNow_28 : decode cX6_missedNow 28 = .ok (.istore 5, 2) := by decide +kernel
theorem dX6_missedNow_30 : decode cX6_missedNow 30 = .ok (.iload_n 3, 1) := by decide +kernel
theorem dX6_missedNow_31 : decode cX6_missedNow 31 = .ok (.iload 5, 2) := by decide +kernel
theorem dX6_missedNow_33 : decode cX6_missedNow 33 = .ok (.iload 5, 2) := by decide +kernel
theorem dX6_missedNow_35 : decode cX6_missedNow 35 = .ok (.imul, 1) := by decide +kernel
theorem dX6_missedNow_36 : decode cX6_missedNow 36 = .ok (.iadd, 1) := by decide +kernel
theorem dX6_missedNow_37 : decode cX6_missedNow 37 = .ok (.istore_n 3, 1) := by decide +kernel
theorem dX6_missedNow_38 : decode cX6_missedNow 38 = .ok (.iinc 4 1, 3) := by decide +kernel
theorem dX6_missedNow_41 : decode cX6_missedNow 41 = .ok (.goto (-36), 3) := by decide +kernel
theorem dX6_missedNow_44 : decode cX6_missedNow 44 = .ok (.iload_n 3, 1) := by decide +kernel
theorem dX6_missedNow_45 : decode cX6_missedNow 45 = .ok (.ireturn, 1) := by decide +kernel
set_option maxRecDepth 20000 in
theorem ggX6_missed_X6_isUnitThere : GoodIn wsX6_missed wsX6_isUnitThere := goodIn_r _ [6, 7, 8, 9, 5, 10, 39, 40, 41, 42, 43, 44, 45, 46, 47, 48, 49, 50, 51, 52, 53, 54, 55, 56, 57, 58, 59, 60, 61, 62, 63, 64, 65, 66, 67, 68, 69, 70, 71] (by decide +kernel) (by decide +kernel)
set_option maxRecDepth 20000 in
theorem gX6_missed_X6_isUnitThere : GoodIn wsX6_missed (wsV RX6 130 RX6 yX6_isUnitThere wsX6_isUnitThere) := goodIn_app (goodIn_of _ (by decide +kernel)) ggX6_missed_X6_isUnitThere
set_option maxRecDepth 20000 in
theorem ggX6_missed_X6_isStorm : GoodIn wsX6_missed wsX6_isStorm := goodIn_r _ [14, 15, 8, 9, 5, 10, 39, 40, 41, 42, 43, 44, 45, 46, 47, 48, 49, 50, 51, 52, 53, 54, 55, 56, 57, 58, 59, 60, 61, 62, 63, 64, 65, 66, 67, 68, 69, 70, 71] (by decide +kernel) (by decide +kernel)
set_option maxRecDepth 20000 in
theorem gX6_missed_X6_isStorm : GoodIn wsX6_missed (wsV RX6 133 RX6 yX6_isStorm wsX6_isStorm) := goodIn_app (goodIn_of _ (by decide +kernel)) ggX6_missed_X6_isStorm
set_option maxRecDepth 20000 in
theorem ggX6_missed_X6_missedNow : GoodIn wsX6_missed wsX6_missedNow := goodIn_r _ [19, 20, 21, 22, 5, 23, 24, 25, 26, 27, 28, 8, 9, 10, 29, 30, 31, 32, 33, 34, 35, 36, 37, 38, 39, 40, 41, 42, 43, 44, 45, 46, 47, 48, 49, 50, 51, 52, 53, 54, 55, 56, 57, 58, 59, 60, 61, 62, 63, 64, 65, 66, 67, 68, 69, 70, 71] (by decide +kernel) (by decide +kernel)
set_option maxRecDepth 20000 in
theorem gX6_missed_X6_missedNow : GoodIn wsX6_missed (wsV RX6 186 RX6 yX6_missedNow wsX6_missedNow) := goodIn_app (goodIn_of _ (by decide +kernel)) ggX6_missed_X6_missedNow
theorem dX6_missed_0 : decode cX6_missed 0 = .ok (.aload_n 0, 1) := by decide +kernel
theorem dX6_missed_1 : decode cX6_missed 1 = .ok (.iload_n 1, 1) := by decide +kernel
theorem dX6_missed_2 : decode cX6_missed 2 = .ok (.invokevirtual 130, 3) := by decide +kernel
theorem dX6_missed_5 : decode cX6_missed 5 = .ok (.ifCond .eq 20, 3) := by decide +kernel
theorem dX6_missed_8 : decode cX6_missed 8 = .ok (.aload_n 0, 1) := by decide +kernel
theorem dX6_missed_9 : decode cX6_missed 9 = .ok (.iload_n 2, 1) := by decide +kernel
theorem dX6_missed_10 : decode cX6_missed 10 = .ok (.invokevirtual 133, 3) := by decide +kernel
theorem dX6_missed_13 : decode cX6_missed 13 = .ok (.ifCond .eq 12, 3) := by decide +kernel
theorem dX6_missed_16 : decode cX6_missed 16 = .ok (.aload_n 0, 1) := by decide +kernel
theorem dX6_missed_17 : decode cX6_missed 17 = .ok (.iload_n 1, 1) := by decide +kernel
theorem dX6_missed_18 : decode cX6_missed 18 = .ok (.iload_n 2, 1) := by decide +kernel
theorem dX6_missed_19 : decode cX6_missed 19 = .ok (.invokevirtual 186, 3) := by decide +kernel
theorem dX6_missed_22 : decode cX6_missed 22 = .ok (.goto 5, 3) := by decide +kernel
theorem dX6_missed_25 : decode cX6_missed 25 = .ok (.ldc 136, 2) := by decide +kernel
theorem dX6_missed_27 : decode cX6_missed 27 = .ok (.ireturn, 1) := by decide +kernel
set_option maxRecDepth 20000 in
theorem ggX6_sumAt_X6_partAt : GoodIn wsX6_sumAt wsX6_partAt := goodIn_r _ [6, 7, 8, 9, 5, 10, 11, 12, 13, 14, 15, 16, 17, 18, 19, 20, 21, 22, 23, 24, 25, 26, 27, 28, 29, 30, 31, 32, 33, 34, 35, 36, 37, 38, 39, 40, 41, 42, 43] (by decide +kernel) (by decide +kernel)
set_option maxRecDepth 20000 in
theorem gX6_sumAt_X6_partAt : GoodIn wsX6_sumAt (wsV RX6 173 RX6 yX6_partAt wsX6_partAt) := goodIn_app (goodIn_of _ (by decide +kernel)) ggX6_sumAt_X6_partAt
theorem dX6_sumAt_0 : decode cX6_sumAt 0 = .ok (.iconst 0, 1) := by decide +kernel
theorem dX6_sumAt_1 : decode cX6_sumAt 1 = .ok (.istore_n 3, 1) := by decide +kernel
theorem dX6_sumAt_2 : decode cX6_sumAt 2 = .ok (.iload_n 2, 1) := by decide +kernel
theorem dX6_sumAt_3 : decode cX6_sumAt 3 = .ok (.istore 4, 2) := by decide +kernel
theorem dX6_sumAt_5 : decode cX6_sumAt 5 = .ok (.iload 4, 2) := by decide +kernel
theorem dX6_sumAt_7 : decode cX6_sumAt 7 = .ok (.ifCond .lt 27, 3) := by decide +kernel
theorem dX6_sumAt_10 : decode cX6_sumAt 10 = .ok (.iload_n 3, 1) := by decide +kernel
theorem dX6_sumAt_11 : decode cX6_sumAt 11 = .ok (.aload_n 0, 1) := by decide +kernel
theorem dX6_sumAt_12 : decode cX6_sumAt 12 = .ok (.iload_n 1, 1) := by decide +kernel
theorem dX6_sumAt_13 : decode cX6_sumAt 13 = .ok (.iload 4, 2) := by decide +kernel
theorem dX6_sumAt_15 : decode cX6_sumAt 15 = .ok (.invokevirtual 173, 3) := by decide +kernel
theorem dX6_sumAt_18 : decode cX6_sumAt 18 = .ok (.iadd, 1) := by decide +kernel
theorem dX6_sumAt_19 : decode cX6_sumAt 19 = .ok (.istore_n 3, 1) := by decide +kernel
theorem dX6_sumAt_20 : decode cX6_sumAt 20 = .ok (.iload 4, 2) := by decide +kernel
theorem dX6_sumAt_22 : decode cX6_sumAt 22 = .ok (.aload_n 0, 1) := by decide +kernel
theorem dX6_sumAt_23 : decode cX6_sumAt 23 = .ok (.getfield 25, 3) := by decide +kernel
theorem dX6_sumAt_26 : decode cX6_sumAt 26 = .ok (.iload_n 1, 1) := by decide +kernel
theorem dX6_sumAt_27 : decode cX6_sumAt 27 = .ok (.iaload, 1) := by decide +kernel
theorem dX6_sumAt_28 : decode cX6_sumAt 28 = .ok (.isub, 1) := by decide +kernel
theorem dX6_sumAt_29 : decode cX6_sumAt 29 = .ok (.istore 4, 2) := by decide +kernel
theorem dX6_sumAt_31 : decode cX6_sumAt 31 = .ok (.goto (-26), 3) := by decide +kernel
theorem dX6_sumAt_34 : decode cX6_sumAt 34 = .ok (.iload_n 3, 1) := by decide +kernel
theorem dX6_sumAt_35 : decode cX6_sumAt 35 = .ok (.ireturn, 1) := by decide +kernel
set_option maxRecDepth 20000 in
theorem ggX6_sum_X6_isUnitThere : GoodIn wsX6_sum wsX6_isUnitThere := goodIn_r _ [7, 8, 9, 10, 6, 11, 22, 23, 24, 25, 26, 27, 28, 29, 30, 31, 32, 33, 34, 35, 36, 37, 38, 39, 40, 41, 42, 43, 44, 45, 46, 47, 48, 49, 50, 51, 52, 53, 54] (by decide +kernel) (by decide +kernel)
set_option maxRecDepth 20000 in
theorem gX6_sum_X6_isUnitThere : GoodIn wsX6_sum (wsV RX6 130 RX6 yX6_isUnitThere wsX6_isUnitThere) := goodIn_app (goodIn_of _ (by decide +kernel)) ggX6_sum_X6_isUnitThere
set_option maxRecDepth 20000 in
theorem ggX6_sum_X6_within : GoodIn wsX6_sum wsX6_within := goodIn_r _ [11] (by decide +kernel) (by decide +kernel)
set_option maxRecDepth 20000 in
theorem gX6_sum_X6_within : GoodIn wsX6_sum (va_wsS RX6 59 yX6_within wsX6_within) := goodIn_app (goodIn_of _ (by decide +kernel)) ggX6_sum_X6_within
set_option maxRecDepth 20000 in
theorem ggX6_sum_X6_sumAt : GoodIn wsX6_sum wsX6_sumAt := goodIn_r _ [15, 16, 17, 18, 19, 6, 20, 21, 9, 10, 11, 22, 23, 24, 25, 26, 27, 28, 29, 30, 31, 32, 33, 34, 35, 36, 37, 38, 39, 40, 41, 42, 43, 44, 45, 46, 47, 48, 49, 50, 51, 52, 53, 54] (by decide +kernel) (by decide +kernel)
set_option maxRecDepth 20000 in
theorem gX6_sum_X6_sumAt : GoodIn wsX6_sum (wsV RX6 189 RX6 yX6_sumAt wsX6_sumAt) := goodIn_app (goodIn_of _ (by decide +kernel)) ggX6_sum_X6_sumAt
theorem dX6_sum_0 : decode cX6_sum 0 = .ok (.aload_n 0, 1) := by decide +kernel
theorem dX6_sum_1 : decode cX6_sum 1 = .ok (.iload_n 1, 1) := by decide +kernel
theorem dX6_sum_2 : decode cX6_sum 2 = .ok (.invokevirtual 130, 3) := by decide +kernel
theorem dX6_sum_5 : decode cX6_sum 5 = .ok (.ifCond .ne 6, 3) := by decide +kernel
theorem dX6_sum_8 : decode cX6_sum 8 = .ok (.ldc 136, 2) := by decide +kernel
theorem dX6_sum_10 : decode cX6_sum 10 = .ok (.ireturn, 1) := by decide +kernel
theorem dX6_sum_11 : decode cX6_sum 11 = .ok (.iload_n 2, 1) := by decide +kernel
theorem dX6_sum_12 : decode cX6_sum 12 = .ok (.iconst 0, 1) := by decide +kernel
theorem dX6_sum_13 : decode cX6_sum 13 = .ok (.bipush 20, 2) := by decide +kernel
theorem dX6_sum_15 : decode cX6_sum 15 = .ok (.invokestatic 59, 3) := by decide +kernel
theorem dX6_sum_18 : decode cX6_sum 18 = .ok (.ifCond .eq 12, 3) := by decide +kernel
theorem dX6_sum_21 : decode cX6_sum 21 = .ok (.aload_n 0, 1) := by decide +kernel
theorem dX6_sum_22 : decode cX6_sum 22 = .ok (.iload_n 1, 1) := by decide +kernel
theorem dX6_sum_23 : decode cX6_sum 23 = .ok (.iload_n 2, 1) := by decide +kernel
theorem dX6_sum_24 : decode cX6_sum 24 = .ok (.invokevirtual 189, 3) := by decide +kernel
theorem dX6_sum_27 : decode cX6_sum 27 = .ok (.goto 5, 3) := by decide +kernel
theorem dX6_sum_30 : decode cX6_sum 30 = .ok (.ldc 63, 2) := by decide +kernel
theorem dX6_sum_32 : decode cX6_sum 32 = .ok (.ireturn, 1) := by decide +kernel
theorem dX6_common_0 : decode cX6_common 0 = .ok (.lload_n 0, 1) := by decide +kernel
theorem dX6_common_1 : decode cX6_common 1 = .ok (.lconst 0, 1) := by decide +kernel
theorem dX6_common_2 : decode cX6_common 2 = .ok (.lcmp, 1) := by decide +kernel
theorem dX6_common_3 : decode cX6_common 3 = .ok (.ifCond .ge 8, 3) := by decide +kernel
theorem dX6_common_6 : decode cX6_common 6 = .ok (.lload_n 0, 1) := by decide +kernel
theorem dX6_common_7 : decode cX6_common 7 = .ok (.lneg, 1) := by decide +kernel
theorem dX6_common_8 : decode cX6_common 8 = .ok (.goto 4, 3) := by decide +kernel
theorem dX6_common_11 : decode cX6_common 11 = .ok (.lload_n 0, 1) := by decide +kernel
theorem dX6_common_12 : decode cX6_common 12 = .ok (.lstore 4, 2) := by decide +kernel
theorem dX6_common_14 : decode cX6_common 14 = .ok (.lload_n 2, 1) := by decide +kernel
theorem dX6_common_15 : decode cX6_common 15 = .ok (.lconst 0, 1) := by decide +kernel
theorem dX6_common_16 : decode cX6_common 16 = .ok (.lcmp, 1) := by decide +kernel
theorem dX6_common_17 : decode cX6_common 17 = .ok (.ifCond .ge 8, 3) := by decide +kernel
theorem dX6_common_20 : decode cX6_common 20 = .ok (.lload_n 2, 1) := by decide +kernel
theorem dX6_common_21 : decode cX6_common 21 = .ok (.lneg, 1) := by decide +kernel
theorem dX6_common_22 : decode cX6_common 22 = .ok (.goto 4, 3) := by decide +kernel
theorem dX6_common_25 : decode cX6_common 25 = .ok (.lload_n 2, 1) := by decide +kernel
theorem dX6_common_26 : decode cX6_common 26 = .ok (.lstore 6, 2) := by decide +kernel
theorem dX6_common_28 : decode cX6_common 28 = .ok (.lload 6, 2) := by decide +kernel
theorem dX6_common_30 : decode cX6_common 30 = .ok (.lconst 0, 1) := by decide +kernel
theorem dX6_common_31 : decode cX6_common 31 = .ok (.lcmp, 1) := by decide +kernel
theorem dX6_common_32 : decode cX6_common 32 = .ok (.ifCond .eq 21, 3) := by decide +kernel
theorem dX6_common_35 : decode cX6_common 35 = .ok (.lload 4, 2) := by decide +kernel
theorem dX6_common_37 : decode cX6_common 37 = .ok (.lload 6, 2) := by decide +kernel
theorem dX6_common_39 : decode cX6_common 39 = .ok (.lrem, 1) := by decide +kernel
theorem dX6_common_40 : decode cX6_common 40 = .ok (.lstore 8, 2) := by decide +kernel
theorem dX6_common_42 : decode cX6_common 42 = .ok (.lload 6, 2) := by decide +kernel
theorem dX6_common_44 : decode cX6_common 44 = .ok (.lstore 4, 2) := by decide +kernel
theorem dX6_common_46 : decode cX6_common 46 = .ok (.lload 8, 2) := by decide +kernel
theorem dX6_common_48 : decode cX6_common 48 = .ok (.lstore 6, 2) := by decide +kernel
theorem dX6_common_50 : decode cX6_common 50 = .ok (.goto (-22), 3) := by decide +kernel
theorem dX6_common_53 : decode cX6_common 53 = .ok (.lload 4, 2) := by decide +kernel
theorem dX6_common_55 : decode cX6_common 55 = .ok (.lreturn, 1) := by decide +kernel
set_option maxRecDepth 20000 in
theorem ggX6_lowest_X6_common : GoodIn wsX6_lowest wsX6_common := goodIn_r _ [4] (by decide +kernel) (by decide +kernel)
set_option maxRecDepth 20000 in
theorem gX6_lowest_X6_common : GoodIn wsX6_lowest (va_wsS RX6 192 yX6_common wsX6_common) := goodIn_app (goodIn_of _ (by decide +kernel)) ggX6_lowest_X6_common
theorem dX6_lowest_0 : decode cX6_lowest 0 = .ok (.lload_n 0, 1) := by decide +kernel
theorem dX6_lowest_1 : decode cX6_lowest 1 = .ok (.lload_n 2, 1) := by decide +kernel
theorem dX6_lowest_2 : decode cX6_lowest 2 = .ok (.invokestatic 192, 3) := by decide +kernel
theorem dX6_lowest_5 : decode cX6_lowest 5 = .ok (.lstore 5, 2) := by decide +kernel
theorem dX6_lowest_7 : decode cX6_lowest 7 = .ok (.iload 4, 2) := by decide +kernel
theorem dX6_lowest_9 : decode cX6_lowest 9 = .ok (.ifCond .ne 10, 3) := by decide +kernel
theorem dX6_lowest_12 : decode cX6_lowest 12 = .ok (.lload_n 0, 1) := by decide +kernel
theorem dX6_lowest_13 : decode cX6_lowest 13 = .ok (.lload 5, 2) := by decide +kernel
theorem dX6_lowest_15 : decode cX6_lowest 15 = .ok (.ldiv, 1) := by decide +kernel
theorem dX6_lowest_16 : decode cX6_lowest 16 = .ok (.goto 7, 3) := by decide +kernel
theorem dX6_lowest_19 : decode cX6_lowest 19 = .ok (.lload_n 2, 1) := by decide +kernel
theorem dX6_lowest_20 : decode cX6_lowest 20 = .ok (.lload 5, 2) := by decide +kernel
theorem dX6_lowest_22 : decode cX6_lowest 22 = .ok (.ldiv, 1) := by decide +kernel
theorem dX6_lowest_23 : decode cX6_lowest 23 = .ok (.lreturn, 1) := by decide +kernel
set_option maxRecDepth 20000 in
theorem ggX6_other_X6_isUnitThere : GoodIn wsX6_other wsX6_isUnitThere := goodIn_r _ [8, 9, 10, 11, 7, 12, 28, 29, 30, 31, 32, 33, 34, 35, 36, 37, 38, 39, 40, 41, 42, 43, 44, 45, 46, 47, 48, 49, 50, 51, 52, 53, 54, 55, 56, 57, 58, 59, 60] (by decide +kernel) (by decide +kernel)
set_option maxRecDepth 20000 in
theorem gX6_other_X6_isUnitThere : GoodIn wsX6_other (wsV RX6 130 RX6 yX6_isUnitThere wsX6_isUnitThere) := goodIn_app (goodIn_of _ (by decide +kernel)) ggX6_other_X6_isUnitThere
set_option maxRecDepth 20000 in
theorem ggX6_other_X6_within : GoodIn wsX6_other wsX6_within := goodIn_r _ [12] (by decide +kernel) (by decide +kernel)
set_option maxRecDepth 20000 in
theorem gX6_other_X6_within : GoodIn wsX6_other (va_wsS RX6 59 yX6_within wsX6_within) := goodIn_app (goodIn_of _ (by decide +kernel)) ggX6_other_X6_within
set_option maxRecDepth 20000 in
theorem ggX6_other_X6_sumAt : GoodIn wsX6_other wsX6_sumAt := goodIn_r _ [16, 3, 17, 18, 19, 7, 20, 21, 10, 11, 12, 28, 29, 30, 31, 32, 33, 34, 35, 36, 37, 38, 39, 40, 41, 42, 43, 44, 45, 46, 47, 48, 49, 50, 51, 52, 53, 54, 55, 56, 57, 58, 59, 60] (by decide +kernel) (by decide +kernel)
set_option maxRecDepth 20000 in
theorem gX6_other_X6_sumAt : GoodIn wsX6_other (wsV RX6 189 RX6 yX6_sumAt wsX6_sumAt) := goodIn_app (goodIn_of _ (by decide +kernel)) ggX6_other_X6_sumAt
set_option maxRecDepth 20000 in
theorem ggX6_other_X6_lowest : GoodIn wsX6_other wsX6_lowest := goodIn_r _ [24, 25, 26, 7, 27] (by decide +kernel) (by decide +kernel)
set_option maxRecDepth 20000 in
theorem gX6_other_X6_lowest : GoodIn wsX6_other (va_wsS RX6 196 yX6_lowest wsX6_lowest) := goodIn_app (goodIn_of _ (by decide +kernel)) ggX6_other_X6_lowest
theorem dX6_other_0 : decode cX6_other 0 = .ok (.aload_n 0, 1) := by decide +kernel
theorem dX6_other_1 : decode cX6_other 1 = .ok (.iload_n 1, 1) := by decide +kernel
theorem dX6_other_2 : decode cX6_other 2 = .ok (.invokevirtual 130, 3) := by decide +kernel
theorem dX6_other_5 : decode cX6_other 5 = .ok (.ifCond .ne 6, 3) := by decide +kernel
theorem dX6_other_8 : decode cX6_other 8 = .ok (.ldc 136, 2) := by decide +kernel
theorem dX6_other_10 : decode cX6_other 10 = .ok (.ireturn, 1) := by decide +kernel
theorem dX6_other_11 : decode cX6_other 11 = .ok (.iload_n 2, 1) := by decide +kernel
theorem dX6_other_12 : decode cX6_other 12 = .ok (.iconst 1, 1) := by decide +kernel
theorem dX6_other_13 : decode cX6_other 13 = .ok (.iconst 4, 1) := by decide +kernel
theorem dX6_other_14 : decode cX6_other 14 = .ok (.invokestatic 59, 3) := by decide +kernel
theorem dX6_other_17 : decode cX6_other 17 = .ok (.ifCond .eq 23, 3) := by decide +kernel
theorem dX6_other_20 : decode cX6_other 20 = .ok (.iload_n 3, 1) := by decide +kernel
theorem dX6_other_21 : decode cX6_other 21 = .ok (.iconst 0, 1) := by decide +kernel
theorem dX6_other_22 : decode cX6_other 22 = .ok (.bipush 20, 2) := by decide +kernel
theorem dX6_other_24 : decode cX6_other 24 = .ok (.invokestatic 59, 3) := by decide +kernel
theorem dX6_other_27 : decode cX6_other 27 = .ok (.ifCond .eq 13, 3) := by decide +kernel
theorem dX6_other_30 : decode cX6_other 30 = .ok (.iload 4, 2) := by decide +kernel
theorem dX6_other_32 : decode cX6_other 32 = .ok (.iconst 0, 1) := by decide +kernel
theorem dX6_other_33 : decode cX6_other 33 = .ok (.iconst 1, 1) := by decide +kernel
theorem dX6_other_34 : decode cX6_other 34 = .ok (.invokestatic 59, 3) := by decide +kernel
theorem dX6_other_37 : decode cX6_other 37 = .ok (.ifCond .ne 6, 3) := by decide +kernel
theorem dX6_other_40 : decode cX6_other 40 = .ok (.ldc 63, 2) := by decide +kernel
theorem dX6_other_42 : decode cX6_other 42 = .ok (.ireturn, 1) := by decide +kernel
theorem dX6_other_43 : decode cX6_other 43 = .ok (.aload_n 0, 1) := by decide +kernel
theorem dX6_other_44 : decode cX6_other 44 = .ok (.iload_n 1, 1) := by decide +kernel
theorem dX6_other_45 : decode cX6_other 45 = .ok (.iload_n 3, 1) := by decide +kernel
theorem dX6_other_46 : decode cX6_other 46 = .ok (.invokevirtual 189, 3) := by decide +kernel
theorem dX6_other_49 : decode cX6_other 49 = .ok (.aload_n 0, 1) := by decide +kernel
theorem dX6_other_50 : decode cX6_other 50 = .ok (.iload_n 1, 1) := by decide +kernel
theorem dX6_other_51 : decode cX6_other 51 = .ok (.iload_n 3, 1) := by decide +kernel
theorem dX6_other_52 : decode cX6_other 52 = .ok (.iload_n 2, 1) := by decide +kernel
theorem dX6_other_53 : decode cX6_other 53 = .ok (.isub, 1) := by decide +kernel
theorem dX6_other_54 : decode cX6_other 54 = .ok (.invokevirtual 189, 3) := by decide +kernel
theorem dX6_other_57 : decode cX6_other 57 = .ok (.isub, 1) := by decide +kernel
theorem dX6_other_58 : decode cX6_other 58 = .ok (.i2l, 1) := by decide +kernel
theorem dX6_other_59 : decode cX6_other 59 = .ok (.aload_n 0, 1) := by decide +kernel
theorem dX6_other_60 : decode cX6_other 60 = .ok (.getfield 25, 3) := by decide +kernel
theorem dX6_other_63 : decode cX6_other 63 = .ok (.iload_n 1, 1) := by decide +kernel
theorem dX6_other_64 : decode cX6_other 64 = .ok (.iaload, 1) := by decide +kernel
theorem dX6_other_65 : decode cX6_other 65 = .ok (.i2l, 1) := by decide +kernel
theorem dX6_other_66 : decode cX6_other 66 = .ok (.lmul, 1) := by decide +kernel
theorem dX6_other_67 : decode cX6_other 67 = .ok (.iload_n 2, 1) := by decide +kernel
theorem dX6_other_68 : decode cX6_other 68 = .ok (.i2l, 1) := by decide +kernel
theorem dX6_other_69 : decode cX6_other 69 = .ok (.iload 4, 2) := by decide +kernel
theorem dX6_other_71 : decode cX6_other 71 = .ok (.invokestatic 196, 3) := by decide +kernel
theorem dX6_other_74 : decode cX6_other 74 = .ok (.l2i, 1) := by decide +kernel
theorem dX6_other_75 : decode cX6_other 75 = .ok (.ireturn, 1) := by decide +kernel
set_option maxRecDepth 20000 in
theorem ggX6_layProducts_X6_runoffAt : GoodIn wsX6_layProducts wsX6_runoffAt := goodIn_r _ [9, 10, 11, 12, 8, 13, 19, 20, 21, 22, 23, 24, 25, 26, 27, 28, 29, 30, 31, 32, 33, 34, 35, 36, 37, 38, 39, 40, 41, 42, 43, 44, 45, 46, 47, 48, 49, 50, 51] (by decide +kernel) (by decide +kernel)
set_option maxRecDepth 20000 in
theorem gX6_layProducts_X6_runoffAt : GoodIn wsX6_layProducts (wsV RX6 151 RX6 yX6_runoffAt wsX6_runoffAt) := goodIn_app (goodIn_of _ (by decide +kernel)) ggX6_layProducts_X6_runoffAt
set_option maxRecDepth 20000 in
theorem ggX6_layProducts_X6_rainAt : GoodIn wsX6_layProducts wsX6_rainAt := goodIn_r _ [17, 18, 11, 12, 8, 13, 19, 20, 21, 22, 23, 24, 25, 26, 27, 28, 29, 30, 31, 32, 33, 34, 35, 36, 37, 38, 39, 40, 41, 42, 43, 44, 45, 46, 47, 48, 49, 50, 51] (by decide +kernel) (by decide +kernel)
set_option maxRecDepth 20000 in
theorem gX6_layProducts_X6_rainAt : GoodIn wsX6_layProducts (wsV RX6 147 RX6 yX6_rainAt wsX6_rainAt) := goodIn_app (goodIn_of _ (by decide +kernel)) ggX6_layProducts_X6_rainAt
theorem dX6_layProducts_0 : decode cX6_layProducts 0 = .ok (.aload_n 0, 1) := by decide +kernel
theorem dX6_layProducts_1 : decode cX6_layProducts 1 = .ok (.lconst 0, 1) := by decide +kernel
theorem dX6_layProducts_2 : decode cX6_layProducts 2 = .ok (.putfield 200, 3) := by decide +kernel
theorem dX6_layProducts_5 : decode cX6_layProducts 5 = .ok (.iconst 0, 1) := by decide +kernel
theorem dX6_layProducts_6 : decode cX6_layProducts 6 = .ok (.istore_n 2, 1) := by decide +kernel
theorem dX6_layProducts_7 : decode cX6_layProducts 7 = .ok (.iload_n 2, 1) := by decide +kernel
theorem dX6_layProducts_8 : decode cX6_layProducts 8 = .ok (.iconst 4, 1) := by decide +kernel
theorem dX6_layProducts_9 : decode cX6_layProducts 9 = .ok (.if_icmp .ge 23, 3) := by decide +kernel
theorem dX6_layProducts_12 : decode cX6_layProducts 12 = .ok (.aload_n 0, 1) := by decide +kernel
theorem dX6_layProducts_13 : decode cX6_layProducts 13 = .ok (.getfield 43, 3) := by decide +kernel
theorem dX6_layProducts_16 : decode cX6_layProducts 16 = .ok (.iload_n 2, 1) := by decide +kernel
theorem dX6_layProducts_17 : decode cX6_layProducts 17 = .ok (.lconst 0, 1) := by decide +kernel
theorem dX6_layProducts_18 : decode cX6_layProducts 18 = .ok (.lastore, 1) := by decide +kernel
theorem dX6_layProducts_19 : decode cX6_layProducts 19 = .ok (.aload_n 0, 1) := by decide +kernel
theorem dX6_layProducts_20 : decode cX6_layProducts 20 = .ok (.getfield 47, 3) := by decide +kernel
theorem dX6_layProducts_23 : decode cX6_layProducts 23 = .ok (.iload_n 2, 1) := by decide +kernel
theorem dX6_layProducts_24 : decode cX6_layProducts 24 = .ok (.lconst 0, 1) := by decide +kernel
theorem dX6_layProducts_25 : decode cX6_layProducts 25 = .ok (.lastore, 1) := by decide +kernel
theorem dX6_layProducts_26 : decode cX6_layProducts 26 = .ok (.iinc 2 1, 3) := by decide +kernel
theorem dX6_layProducts_29 : decode cX6_layProducts 29 = .ok (.goto (-22), 3) := by decide +kernel
theorem dX6_layProducts_32 : decode cX6_layProducts 32 = .ok (.iconst 0, 1) := by decide +kernel
theorem dX6_layProducts_33 : decode cX6_layProducts 33 = .ok (.istore_n 2, 1) := by decide +kernel
theorem dX6_layProducts_34 : decode cX6_layProducts 34 = .ok (.iload_n 2, 1) := by decide +kernel
theorem dX6_layProducts_35 : decode cX6_layProducts 35 = .ok (.aload_n 0, 1) := by decide +kernel
theorem dX6_layProducts_36 : decode cX6_layProducts 36 = .ok (.getfield 114, 3) := by decide +kernel
theorem dX6_layProducts_39 : decode cX6_layProducts 39 = .ok (.if_icmp .ge 124, 3) := by decide +kernel
theorem dX6_layProducts_42 : decode cX6_layProducts 42 = .ok (.iconst 0, 1) := by decide +kernel
theorem dX6_layProducts_43 : decode cX6_layProducts 43 = .ok (.istore_n 3, 1) := by decide +kernel
theorem dX6_layProducts_44 : decode cX6_layProducts 44 = .ok (.iload_n 3, 1) := by decide +kernel
theorem dX6_layProducts_45 : decode cX6_layProducts 45 = .ok (.bipush 12, 2) := by decide +kernel
theorem dX6_layProducts_47 : decode cX6_layProducts 47 = .ok (.if_icmp .ge 110, 3) := by decide +kernel
theorem dX6_layProducts_50 : decode cX6_layProducts 50 = .ok (.iload_n 1, 1) := by decide +kernel
theorem dX6_layProducts_51 : decode cX6_layProducts 51 = .ok (.iload_n 2, 1) := by decide +kernel
theorem dX6_layProducts_52 : decode cX6_layProducts 52 = .ok (.ishr, 1) := by decide +kernel
theorem dX6_layProducts_53 : decode cX6_layProducts 53 = .ok (.iconst 1, 1) := by decide +kernel
theorem dX6_layProducts_54 : decode cX6_layProducts 54 = .ok (.iand, 1) := by decide +kernel
theorem dX6_layProducts_55 : decode cX6_layProducts 55 = .ok (.iconst 1, 1) := by decide +kernel
theorem dX6_layProducts_56 : decode cX6_layProducts 56 = .ok (.if_icmp .ne 101, 3) := by decide +kernel
theorem dX6_layProducts_59 : decode cX6_layProducts 59 = .ok (.aload_n 0, 1) := by decide +kernel
theorem dX6_layProducts_60 : decode cX6_layProducts 60 = .ok (.dup, 1) := by decide +kernel
theorem dX6_layProducts_61 : decode cX6_layProducts 61 = .ok (.getfield 200, 3) := by decide +kernel
theorem dX6_layProducts_64 : decode cX6_layProducts 64 = .ok (.aload_n 0, 1) := by decide +kernel
theorem dX6_layProducts_65 : decode cX6_layProducts 65 = .ok (.iload_n 2, 1) := by decide +kernel
theorem dX6_layProducts_66 : decode cX6_layProducts 66 = .ok (.iload_n 3, 1) := by decide +kernel
theorem dX6_layProducts_67 : decode cX6_layProducts 67 = .ok (.invokevirtual 151, 3) := by decide +kernel
theorem dX6_layProducts_70 : decode cX6_layProducts 70 = .ok (.aload_n 0, 1) := by decide +kernel
theorem dX6_layProducts_71 : decode cX6_layProducts 71 = .ok (.iload_n 2, 1) := by decide +kernel
theorem dX6_layProducts_72 : decode cX6_layProducts 72 = .ok (.iload_n 3, 1) := by decide +kernel
theorem dX6_layProducts_73 : decode cX6_layProducts 73 = .ok (.invokevirtual 151, 3) := by decide +kernel
theorem dX6_layProducts_76 : decode cX6_layProducts 76 = .ok (.imul, 1) := by decide +kernel
theorem dX6_layProducts_77 : decode cX6_layProducts 77 = .ok (.i2l, 1) := by decide +kernel
theorem dX6_layProducts_78 : decode cX6_layProducts 78 = .ok (.ladd, 1) := by decide +kernel
theorem dX6_layProducts_79 : decode cX6_layProducts 79 = .ok (.putfield 200, 3) := by decide +kernel
theorem dX6_layProducts_82 : decode cX6_layProducts 82 = .ok (.iconst 0, 1) := by decide +kernel
theorem dX6_layProducts_83 : decode cX6_layProducts 83 = .ok (.istore 4, 2) := by decide +kernel
theorem dX6_layProducts_85 : decode cX6_layProducts 85 = .ok (.iload 4, 2) := by decide +kernel
theorem dX6_layProducts_87 : decode cX6_layProducts 87 = .ok (.iconst 4, 1) := by decide +kernel
theorem dX6_layProducts_88 : decode cX6_layProducts 88 = .ok (.if_icmp .ge 63, 3) := by decide +kernel
theorem dX6_layProducts_91 : decode cX6_layProducts 91 = .ok (.aload_n 0, 1) := by decide +kernel
theorem dX6_layProducts_92 : decode cX6_layProducts 92 = .ok (.getfield 43, 3) := by decide +kernel
theorem dX6_layProducts_95 : decode cX6_layProducts 95 = .ok (.iload 4, 2) := by decide +kernel
theorem dX6_layProducts_97 : decode cX6_layProducts 97 = .ok (.dup2, 1) := by decide +kernel
theorem dX6_layProducts_98 : decode cX6_layProducts 98 = .ok (.laload, 1) := by decide +kernel
theorem dX6_layProducts_99 : decode cX6_layProducts 99 = .ok (.aload_n 0, 1) := by decide +kernel
theorem dX6_layProducts_100 : decode cX6_layProducts 100 = .ok (.iload_n 2, 1) := by decide +kernel
theorem dX6_layProducts_101 : decode cX6_layProducts 101 = .ok (.iload_n 3, 1) := by decide +kernel
theorem dX6_layProducts_102 : decode cX6_layProducts 102 = .ok (.invokevirtual 147, 3) := by decide +kernel
theorem dX6_layProducts_105 : decode cX6_layProducts 105 = .ok (.aload_n 0, 1) := by decide +kernel
theorem dX6_layProducts_106 : decode cX6_layProducts 106 = .ok (.iload_n 2, 1) := by decide +kernel
theorem dX6_layProducts_107 : decode cX6_layProducts 107 = .ok (.iload_n 3, 1) := by decide +kernel
theorem dX6_layProducts_108 : decode cX6_layProducts 108 = .ok (.iload 4, 2) := by decide +kernel
theorem dX6_layProducts_110 : decode cX6_layProducts 110 = .ok (.isub, 1) := by decide +kernel
theorem dX6_layProducts_111 : decode cX6_layProducts 111 = .ok (.invokevirtual 147, 3) := by decide +kernel
theorem dX6_layProducts_114 : decode cX6_layProducts 114 = .ok (.imul, 1) := by decide +kernel
theorem dX6_layProducts_115 : decode cX6_layProducts 115 = .ok (.i2l, 1) := by decide +kernel
theorem dX6_layProducts_116 : decode cX6_layProducts 116 = .ok (.ladd, 1) := by decide +kernel
theorem dX6_layProducts_117 : decode cX6_layProducts 117 = .ok (.lastore, 1) := by decide +kernel
theorem dX6_layProducts_118 : decode cX6_layProducts 118 = .ok (.aload_n 0, 1) := by decide +kernel
theorem dX6_layProducts_119 : decode cX6_layProducts 119 = .ok (.getfield 47, 3) := by decide +kernel
theorem dX6_layProducts_122 : decode cX6_layProducts 122 = .ok (.iload 4, 2) := by decide +kernel
theorem dX6_layProducts_124 : decode cX6_layProducts 124 = .ok (.dup2, 1) := by decide +kernel
theorem dX6_layProducts_125 : decode cX6_layProducts 125 = .ok (.laload, 1) := by decide +kernel
theorem dX6_layProducts_126 : decode cX6_layProducts 126 = .ok (.aload_n 0, 1) := by decide +kernel
theorem dX6_layProducts_127 : decode cX6_layProducts 127 = .ok (.iload_n 2, 1) := by decide +kernel
theorem dX6_layProducts_128 : decode cX6_layProducts 128 = .ok (.iload_n 3, 1) := by decide +kernel
theorem dX6_layProducts_129 : decode cX6_layProducts 129 = .ok (.invokevirtual 151, 3) := by decide +kernel
theorem dX6_layProducts_132 : decode cX6_layProducts 132 = .ok (.aload_n 0, 1) := by decide +kernel
theorem dX6_layProducts_133 : decode cX6_layProducts 133 = .ok (.iload_n 2, 1) := by decide +kernel
theorem dX6_layProducts_134 : decode cX6_layProducts 134 = .ok (.iload_n 3, 1) := by decide +kernel
theorem dX6_layProducts_135 : decode cX6_layProducts 135 = .ok (.iload 4, 2) := by decide +kernel
theorem dX6_layProducts_137 : decode cX6_layProducts 137 = .ok (.isub, 1) := by decide +kernel
theorem dX6_layProducts_138 : decode cX6_layProducts 138 = .ok (.invokevirtual 147, 3) := by decide +kernel
theorem dX6_layProducts_141 : decode cX6_layProducts 141 = .ok (.imul, 1) := by decide +kernel
theorem dX6_layProducts_142 : decode cX6_layProducts 142 = .ok (.i2l, 1) := by decide +kernel
theorem dX6_layProducts_143 : decode cX6_layProducts 143 = .ok (.ladd, 1) := by decide +kernel
theorem dX6_layProducts_144 : decode cX6_layProducts 144 = .ok (.lastore, 1) := by decide +kernel
theorem dX6_layProducts_145 : decode cX6_layProducts 145 = .ok (.iinc 4 1, 3) := by decide +kernel
theorem dX6_layProducts_148 : decode cX6_layProducts 148 = .ok (.goto (-63), 3) := by decide +kernel
theorem dX6_layProducts_151 : decode cX6_layProducts 151 = .ok (.iinc 3 1, 3) := by decide +kernel
theorem dX6_layProducts_154 : decode cX6_layProducts 154 = .ok (.goto (-110), 3) := by decide +kernel
theorem dX6_layProducts_157 : decode cX6_layProducts 157 = .ok (.iinc 2 1, 3) := by decide +kernel
theorem dX6_layProducts_160 : decode cX6_layProducts 160 = .ok (.goto (-126), 3) := by decide +kernel
theorem dX6_layProducts_163 : decode cX6_layProducts 163 = .ok (.return_, 1) := by decide +kernel
theorem dX6_apart_0 : decode cX6_apart 0 = .ok (.iload_n 0, 1) := by decide +kernel
theorem dX6_apart_1 : decode cX6_apart 1 = .ok (.iload_n 1, 1) := by decide +kernel
theorem dX6_apart_2 : decode cX6_apart 2 = .ok (.if_icmp .ge 9, 3) := by decide +kernel
theorem dX6_apart_5 : decode cX6_apart 5 = .ok (.iload_n 1, 1) := by decide +kernel
theorem dX6_apart_6 : decode cX6_apart 6 = .ok (.iload_n 0, 1) := by decide +kernel
theorem dX6_apart_7 : decode cX6_apart 7 = .ok (.isub, 1) := by decide +kernel
theorem dX6_apart_8 : decode cX6_apart 8 = .ok (.goto 6, 3) := by decide +kernel
theorem dX6_apart_11 : decode cX6_apart 11 = .ok (.iload_n 0, 1) := by decide +kernel
theorem dX6_apart_12 : decode cX6_apart 12 = .ok (.iload_n 1, 1) := by decide +kernel
theorem dX6_apart_13 : decode cX6_apart 13 = .ok (.isub, 1) := by decide +kernel
theorem dX6_apart_14 : decode cX6_apart 14 = .ok (.ireturn, 1) := by decide +kernel
set_option maxRecDepth 20000 in
theorem ggX6_solve_X6_apart : GoodIn wsX6_solve wsX6_apart := goodIn_r _ [10] (by decide +kernel) (by decide +kernel)
set_option maxRecDepth 20000 in
theorem gX6_solve_X6_apart : GoodIn wsX6_solve (va_wsS RX6 204 yX6_apart wsX6_apart) := goodIn_app (goodIn_of _ (by decide +kernel)) ggX6_solve_X6_apart
set_option maxRecDepth 20000 in
theorem ggX6_solve_X6_clear : GoodIn wsX6_solve wsX6_clear := goodIn_r _ [14, 3, 6, 15, 16, 17, 18, 19, 20, 21, 22, 23, 24, 25, 26, 27, 28, 29, 30, 31, 32, 33, 34, 35, 36, 37, 38, 39, 40, 41, 42, 43, 44, 45, 46, 47] (by decide +kernel) (by decide +kernel)
set_option maxRecDepth 20000 in
theorem gX6_solve_X6_clear : GoodIn wsX6_solve (wsV RX6 210 RX6 yX6_clear wsX6_clear) := goodIn_app (goodIn_of _ (by decide +kernel)) ggX6_solve_X6_clear
theorem dX6_solve_0 : decode cX6_solve 0 = .ok (.iconst 0, 1) := by decide +kernel
theorem dX6_solve_1 : decode cX6_solve 1 = .ok (.istore_n 3, 1) := by decide +kernel
theorem dX6_solve_2 : decode cX6_solve 2 = .ok (.iconst 0, 1) := by decide +kernel
theorem dX6_solve_3 : decode cX6_solve 3 = .ok (.istore 4, 2) := by decide +kernel
theorem dX6_solve_5 : decode cX6_solve 5 = .ok (.iload 4, 2) := by decide +kernel
theorem dX6_solve_7 : decode cX6_solve 7 = .ok (.iload_n 2, 1) := by decide +kernel
theorem dX6_solve_8 : decode cX6_solve 8 = .ok (.if_icmp .ge 38, 3) := by decide +kernel
theorem dX6_solve_11 : decode cX6_solve 11 = .ok (.aload_n 0, 1) := by decide +kernel
theorem dX6_solve_12 : decode cX6_solve 12 = .ok (.getfield 56, 3) := by decide +kernel
theorem dX6_solve_15 : decode cX6_solve 15 = .ok (.iload 4, 2) := by decide +kernel
theorem dX6_solve_17 : decode cX6_solve 17 = .ok (.lconst 0, 1) := by decide +kernel
theorem dX6_solve_18 : decode cX6_solve 18 = .ok (.lastore, 1) := by decide +kernel
theorem dX6_solve_19 : decode cX6_solve 19 = .ok (.iload_n 1, 1) := by decide +kernel
theorem dX6_solve_20 : decode cX6_solve 20 = .ok (.iload 4, 2) := by decide +kernel
theorem dX6_solve_22 : decode cX6_solve 22 = .ok (.ishr, 1) := by decide +kernel
theorem dX6_solve_23 : decode cX6_solve 23 = .ok (.iconst 1, 1) := by decide +kernel
theorem dX6_solve_24 : decode cX6_solve 24 = .ok (.iand, 1) := by decide +kernel
theorem dX6_solve_25 : decode cX6_solve 25 = .ok (.iconst 1, 1) := by decide +kernel
theorem dX6_solve_26 : decode cX6_solve 26 = .ok (.if_icmp .ne 14, 3) := by decide +kernel
theorem dX6_solve_29 : decode cX6_solve 29 = .ok (.aload_n 0, 1) := by decide +kernel
theorem dX6_solve_30 : decode cX6_solve 30 = .ok (.getfield 53, 3) := by decide +kernel
theorem dX6_solve_33 : decode cX6_solve 33 = .ok (.iload_n 3, 1) := by decide +kernel
theorem dX6_solve_34 : decode cX6_solve 34 = .ok (.iload 4, 2) := by decide +kernel
theorem dX6_solve_36 : decode cX6_solve 36 = .ok (.iastore, 1) := by decide +kernel
theorem dX6_solve_37 : decode cX6_solve 37 = .ok (.iinc 3 1, 3) := by decide +kernel
theorem dX6_solve_40 : decode cX6_solve 40 = .ok (.iinc 4 1, 3) := by decide +kernel
theorem dX6_solve_43 : decode cX6_solve 43 = .ok (.goto (-38), 3) := by decide +kernel
theorem dX6_solve_46 : decode cX6_solve 46 = .ok (.iconst 0, 1) := by decide +kernel
theorem dX6_solve_47 : decode cX6_solve 47 = .ok (.istore 4, 2) := by decide +kernel
theorem dX6_solve_49 : decode cX6_solve 49 = .ok (.iload 4, 2) := by decide +kernel
theorem dX6_solve_51 : decode cX6_solve 51 = .ok (.iload_n 3, 1) := by decide +kernel
theorem dX6_solve_52 : decode cX6_solve 52 = .ok (.if_icmp .ge 81, 3) := by decide +kernel
theorem dX6_solve_55 : decode cX6_solve 55 = .ok (.iconst 0, 1) := by decide +kernel
theorem dX6_solve_56 : decode cX6_solve 56 = .ok (.istore 5, 2) := by decide +kernel
theorem dX6_solve_58 : decode cX6_solve 58 = .ok (.iload 5, 2) := by decide +kernel
theorem dX6_solve_60 : decode cX6_solve 60 = .ok (.iload_n 3, 1) := by decide +kernel
theorem dX6_solve_61 : decode cX6_solve 61 = .ok (.if_icmp .ge 43, 3) := by decide +kernel
theorem dX6_solve_64 : decode cX6_solve 64 = .ok (.aload_n 0, 1) := by decide +kernel
theorem dX6_solve_65 : decode cX6_solve 65 = .ok (.getfield 50, 3) := by decide +kernel
theorem dX6_solve_68 : decode cX6_solve 68 = .ok (.iconst 5, 1) := by decide +kernel
theorem dX6_solve_69 : decode cX6_solve 69 = .ok (.iload 4, 2) := by decide +kernel
theorem dX6_solve_71 : decode cX6_solve 71 = .ok (.imul, 1) := by decide +kernel
theorem dX6_solve_72 : decode cX6_solve 72 = .ok (.iload 5, 2) := by decide +kernel
theorem dX6_solve_74 : decode cX6_solve 74 = .ok (.iadd, 1) := by decide +kernel
theorem dX6_solve_75 : decode cX6_solve 75 = .ok (.aload_n 0, 1) := by decide +kernel
theorem dX6_solve_76 : decode cX6_solve 76 = .ok (.getfield 43, 3) := by decide +kernel
theorem dX6_solve_79 : decode cX6_solve 79 = .ok (.aload_n 0, 1) := by decide +kernel
theorem dX6_solve_80 : decode cX6_solve 80 = .ok (.getfield 53, 3) := by decide +kernel
theorem dX6_solve_83 : decode cX6_solve 83 = .ok (.iload 4, 2) := by decide +kernel
theorem dX6_solve_85 : decode cX6_solve 85 = .ok (.iaload, 1) := by decide +kernel
theorem dX6_solve_86 : decode cX6_solve 86 = .ok (.aload_n 0, 1) := by decide +kernel
theorem dX6_solve_87 : decode cX6_solve 87 = .ok (.getfield 53, 3) := by decide +kernel
theorem dX6_solve_90 : decode cX6_solve 90 = .ok (.iload 5, 2) := by decide +kernel
theorem dX6_solve_92 : decode cX6_solve 92 = .ok (.iaload, 1) := by decide +kernel
theorem dX6_solve_93 : decode cX6_solve 93 = .ok (.invokestatic 204, 3) := by decide +kernel
theorem dX6_solve_96 : decode cX6_solve 96 = .ok (.laload, 1) := by decide +kernel
theorem dX6_solve_97 : decode cX6_solve 97 = .ok (.lastore, 1) := by decide +kernel
theorem dX6_solve_98 : decode cX6_solve 98 = .ok (.iinc 5 1, 3) := by decide +kernel
theorem dX6_solve_101 : decode cX6_solve 101 = .ok (.goto (-43), 3) := by decide +kernel
theorem dX6_solve_104 : decode cX6_solve 104 = .ok (.aload_n 0, 1) := by decide +kernel
theorem dX6_solve_105 : decode cX6_solve 105 = .ok (.getfield 50, 3) := by decide +kernel
theorem dX6_solve_108 : decode cX6_solve 108 = .ok (.iconst 5, 1) := by decide +kernel
theorem dX6_solve_109 : decode cX6_solve 109 = .ok (.iload 4, 2) := by decide +kernel
theorem dX6_solve_111 : decode cX6_solve 111 = .ok (.imul, 1) := by decide +kernel
theorem dX6_solve_112 : decode cX6_solve 112 = .ok (.iload_n 3, 1) := by decide +kernel
theorem dX6_solve_113 : decode cX6_solve 113 = .ok (.iadd, 1) := by decide +kernel
theorem dX6_solve_114 : decode cX6_solve 114 = .ok (.aload_n 0, 1) := by decide +kernel
theorem dX6_solve_115 : decode cX6_solve 115 = .ok (.getfield 47, 3) := by decide +kernel
theorem dX6_solve_118 : decode cX6_solve 118 = .ok (.aload_n 0, 1) := by decide +kernel
theorem dX6_solve_119 : decode cX6_solve 119 = .ok (.getfield 53, 3) := by decide +kernel
theorem dX6_solve_122 : decode cX6_solve 122 = .ok (.iload 4, 2) := by decide +kernel
theorem dX6_solve_124 : decode cX6_solve 124 = .ok (.iaload, 1) := by decide +kernel
theorem dX6_solve_125 : decode cX6_solve 125 = .ok (.laload, 1) := by decide +kernel
theorem dX6_solve_126 : decode cX6_solve 126 = .ok (.lastore, 1) := by decide +kernel
theorem dX6_solve_127 : decode cX6_solve 127 = .ok (.iinc 4 1, 3) := by decide +kernel
theorem dX6_solve_130 : decode cX6_solve 130 = .ok (.goto (-81), 3) := by decide +kernel
theorem dX6_solve_133 : decode cX6_solve 133 = .ok (.aload_n 0, 1) := by decide +kernel
theorem dX6_solve_134 : decode cX6_solve 134 = .ok (.lconst 1, 1) := by decide +kernel
theorem dX6_solve_135 : decode cX6_solve 135 = .ok (.putfield 207, 3) := by decide +kernel
theorem dX6_solve_138 : decode cX6_solve 138 = .ok (.iconst 0, 1) := by decide +kernel
theorem dX6_solve_139 : decode cX6_solve 139 = .ok (.istore 4, 2) := by decide +kernel
theorem dX6_solve_141 : decode cX6_solve 141 = .ok (.iload 4, 2) := by decide +kernel
theorem dX6_solve_143 : decode cX6_solve 143 = .ok (.iload_n 3, 1) := by decide +kernel
theorem dX6_solve_144 : decode cX6_solve 144 = .ok (.if_icmp .ge 16, 3) := by decide +kernel
theorem dX6_solve_147 : decode cX6_solve 147 = .ok (.aload_n 0, 1) := by decide +kernel
theorem dX6_solve_148 : decode cX6_solve 148 = .ok (.iload 4, 2) := by decide +kernel
theorem dX6_solve_150 : decode cX6_solve 150 = .ok (.iload_n 3, 1) := by decide +kernel
theorem dX6_solve_151 : decode cX6_solve 151 = .ok (.invokevirtual 210, 3) := by decide +kernel
theorem dX6_solve_154 : decode cX6_solve 154 = .ok (.iinc 4 1, 3) := by decide +kernel
theorem dX6_solve_157 : decode cX6_solve 157 = .ok (.goto (-16), 3) := by decide +kernel
theorem dX6_solve_160 : decode cX6_solve 160 = .ok (.iconst 0, 1) := by decide +kernel
theorem dX6_solve_161 : decode cX6_solve 161 = .ok (.istore 4, 2) := by decide +kernel
theorem dX6_solve_163 : decode cX6_solve 163 = .ok (.iload 4, 2) := by decide +kernel
theorem dX6_solve_165 : decode cX6_solve 165 = .ok (.iload_n 3, 1) := by decide +kernel
theorem dX6_solve_166 : decode cX6_solve 166 = .ok (.if_icmp .ge 32, 3) := by decide +kernel
theorem dX6_solve_169 : decode cX6_solve 169 = .ok (.aload_n 0, 1) := by decide +kernel
theorem dX6_solve_170 : decode cX6_solve 170 = .ok (.getfield 56, 3) := by decide +kernel
theorem dX6_solve_173 : decode cX6_solve 173 = .ok (.aload_n 0, 1) := by decide +kernel
theorem dX6_solve_174 : decode cX6_solve 174 = .ok (.getfield 53, 3) := by decide +kernel
theorem dX6_solve_177 : decode cX6_solve 177 = .ok (.iload 4, 2) := by decide +kernel
theorem dX6_solve_179 : decode cX6_solve 179 = .ok (.iaload, 1) := by decide +kernel
theorem dX6_solve_180 : decode cX6_solve 180 = .ok (.aload_n 0, 1) := by decide +kernel
theorem dX6_solve_181 : decode cX6_solve 181 = .ok (.getfield 50, 3) := by decide +kernel
theorem dX6_solve_184 : decode cX6_solve 184 = .ok (.iconst 5, 1) := by decide +kernel
theorem dX6_solve_185 : decode cX6_solve 185 = .ok (.iload 4, 2) := by decide +kernel
theorem dX6_solve_187 : decode cX6_solve 187 = .ok (.imul, 1) := by decide +kernel
theorem dX6_solve_188 : decode cX6_solve 188 = .ok (.iload_n 3, 1) := by decide +kernel
theorem dX6_solve_189 : decode cX6_solve 189 = .ok (.iadd, 1) := by decide +kernel
theorem dX6_solve_190 : decode cX6_solve 190 = .ok (.laload, 1) := by decide +kernel
theorem dX6_solve_191 : decode cX6_solve 191 = .ok (.lastore, 1) := by decide +kernel
theorem dX6_solve_192 : decode cX6_solve 192 = .ok (.iinc 4 1, 3) := by decide +kernel
theorem dX6_solve_195 : decode cX6_solve 195 = .ok (.goto (-32), 3) := by decide +kernel
theorem dX6_solve_198 : decode cX6_solve 198 = .ok (.return_, 1) := by decide +kernel
theorem dX6_clear_0 : decode cX6_clear 0 = .ok (.aload_n 0, 1) := by decide +kernel
theorem dX6_clear_1 : decode cX6_clear 1 = .ok (.getfield 50, 3) := by decide +kernel
theorem dX6_clear_4 : decode cX6_clear 4 = .ok (.iconst 5, 1) := by decide +kernel
theorem dX6_clear_5 : decode cX6_clear 5 = .ok (.iload_n 1, 1) := by decide +kernel
theorem dX6_clear_6 : decode cX6_clear 6 = .ok (.imul, 1) := by decide +kernel
theorem dX6_clear_7 : decode cX6_clear 7 = .ok (.iload_n 1, 1) := by decide +kernel
theorem dX6_clear_8 : decode cX6_clear 8 = .ok (.iadd, 1) := by decide +kernel
theorem dX6_clear_9 : decode cX6_clear 9 = .ok (.laload, 1) := by decide +kernel
theorem dX6_clear_10 : decode cX6_clear 10 = .ok (.lstore_n 3, 1) := by decide +kernel
theorem dX6_clear_11 : decode cX6_clear 11 = .ok (.iconst 0, 1) := by decide +kernel
theorem dX6_clear_12 : decode cX6_clear 12 = .ok (.istore 5, 2) := by decide +kernel
theorem dX6_clear_14 : decode cX6_clear 14 = .ok (.iload 5, 2) := by decide +kernel
theorem dX6_clear_16 : decode cX6_clear 16 = .ok (.iload_n 2, 1) := by decide +kernel
theorem dX6_clear_17 : decode cX6_clear 17 = .ok (.if_icmp .ge 89, 3) := by decide +kernel
theorem dX6_clear_20 : decode cX6_clear 20 = .ok (.aload_n 0, 1) := by decide +kernel
theorem dX6_clear_21 : decode cX6_clear 21 = .ok (.getfield 50, 3) := by decide +kernel
theorem dX6_clear_24 : decode cX6_clear 24 = .ok (.iconst 5, 1) := by decide +kernel
theorem dX6_clear_25 : decode cX6_clear 25 = .ok (.iload 5, 2) := by decide +kernel
theorem dX6_clear_27 : decode cX6_clear 27 = .ok (.imul, 1) := by decide +kernel
theorem dX6_clear_28 : decode cX6_clear 28 = .ok (.iload_n 1, 1) := by decide +kernel
end
section
theorem dX6_clear_29 : decode cX6_clear 29 = .ok (.iadd, 1) := by decide +kernel
theorem dX6_clear_30 : decode cX6_clear 30 = .ok (.laload, 1) := by decide +kernel
theorem dX6_clear_31 : decode cX6_clear 31 = .ok (.lstore 6, 2) := by decide +kernel
theorem dX6_clear_33 : decode cX6_clear 33 = .ok (.iconst 0, 1) := by decide +kernel
theorem dX6_clear_34 : decode cX6_clear 34 = .ok (.istore 8, 2) := by decide +kernel
theorem dX6_clear_36 : decode cX6_clear 36 = .ok (.iload 8, 2) := by decide +kernel
theorem dX6_clear_38 : decode cX6_clear 38 = .ok (.iload_n 2, 1) := by decide +kernel
theorem dX6_clear_39 : decode cX6_clear 39 = .ok (.if_icmp .gt 61, 3) := by decide +kernel
theorem dX6_clear_42 : decode cX6_clear 42 = .ok (.iload 5, 2) := by decide +kernel
theorem dX6_clear_44 : decode cX6_clear 44 = .ok (.iload_n 1, 1) := by decide +kernel
theorem dX6_clear_45 : decode cX6_clear 45 = .ok (.if_icmp .eq 55, 3) := by decide +kernel
theorem dX6_clear_48 : decode cX6_clear 48 = .ok (.aload_n 0, 1) := by decide +kernel
theorem dX6_clear_49 : decode cX6_clear 49 = .ok (.getfield 50, 3) := by decide +kernel
theorem dX6_clear_52 : decode cX6_clear 52 = .ok (.iconst 5, 1) := by decide +kernel
theorem dX6_clear_53 : decode cX6_clear 53 = .ok (.iload 5, 2) := by decide +kernel
theorem dX6_clear_55 : decode cX6_clear 55 = .ok (.imul, 1) := by decide +kernel
theorem dX6_clear_56 : decode cX6_clear 56 = .ok (.iload 8, 2) := by decide +kernel
theorem dX6_clear_58 : decode cX6_clear 58 = .ok (.iadd, 1) := by decide +kernel
theorem dX6_clear_59 : decode cX6_clear 59 = .ok (.lload_n 3, 1) := by decide +kernel
theorem dX6_clear_60 : decode cX6_clear 60 = .ok (.aload_n 0, 1) := by decide +kernel
theorem dX6_clear_61 : decode cX6_clear 61 = .ok (.getfield 50, 3) := by decide +kernel
theorem dX6_clear_64 : decode cX6_clear 64 = .ok (.iconst 5, 1) := by decide +kernel
theorem dX6_clear_65 : decode cX6_clear 65 = .ok (.iload 5, 2) := by decide +kernel
theorem dX6_clear_67 : decode cX6_clear 67 = .ok (.imul, 1) := by decide +kernel
theorem dX6_clear_68 : decode cX6_clear 68 = .ok (.iload 8, 2) := by decide +kernel
theorem dX6_clear_70 : decode cX6_clear 70 = .ok (.iadd, 1) := by decide +kernel
theorem dX6_clear_71 : decode cX6_clear 71 = .ok (.laload, 1) := by decide +kernel
theorem dX6_clear_72 : decode cX6_clear 72 = .ok (.lmul, 1) := by decide +kernel
theorem dX6_clear_73 : decode cX6_clear 73 = .ok (.lload 6, 2) := by decide +kernel
theorem dX6_clear_75 : decode cX6_clear 75 = .ok (.aload_n 0, 1) := by decide +kernel
theorem dX6_clear_76 : decode cX6_clear 76 = .ok (.getfield 50, 3) := by decide +kernel
theorem dX6_clear_79 : decode cX6_clear 79 = .ok (.iconst 5, 1) := by decide +kernel
theorem dX6_clear_80 : decode cX6_clear 80 = .ok (.iload_n 1, 1) := by decide +kernel
theorem dX6_clear_81 : decode cX6_clear 81 = .ok (.imul, 1) := by decide +kernel
theorem dX6_clear_82 : decode cX6_clear 82 = .ok (.iload 8, 2) := by decide +kernel
theorem dX6_clear_84 : decode cX6_clear 84 = .ok (.iadd, 1) := by decide +kernel
theorem dX6_clear_85 : decode cX6_clear 85 = .ok (.laload, 1) := by decide +kernel
theorem dX6_clear_86 : decode cX6_clear 86 = .ok (.lmul, 1) := by decide +kernel
theorem dX6_clear_87 : decode cX6_clear 87 = .ok (.lsub, 1) := by decide +kernel
theorem dX6_clear_88 : decode cX6_clear 88 = .ok (.aload_n 0, 1) := by decide +kernel
theorem dX6_clear_89 : decode cX6_clear 89 = .ok (.getfield 207, 3) := by decide +kernel
theorem dX6_clear_92 : decode cX6_clear 92 = .ok (.ldiv, 1) := by decide +kernel
theorem dX6_clear_93 : decode cX6_clear 93 = .ok (.lastore, 1) := by decide +kernel
theorem dX6_clear_94 : decode cX6_clear 94 = .ok (.iinc 8 1, 3) := by decide +kernel
theorem dX6_clear_97 : decode cX6_clear 97 = .ok (.goto (-61), 3) := by decide +kernel
theorem dX6_clear_100 : decode cX6_clear 100 = .ok (.iinc 5 1, 3) := by decide +kernel
theorem dX6_clear_103 : decode cX6_clear 103 = .ok (.goto (-89), 3) := by decide +kernel
theorem dX6_clear_106 : decode cX6_clear 106 = .ok (.aload_n 0, 1) := by decide +kernel
theorem dX6_clear_107 : decode cX6_clear 107 = .ok (.lload_n 3, 1) := by decide +kernel
theorem dX6_clear_108 : decode cX6_clear 108 = .ok (.putfield 207, 3) := by decide +kernel
theorem dX6_clear_111 : decode cX6_clear 111 = .ok (.return_, 1) := by decide +kernel
set_option maxRecDepth 20000 in
theorem ggX6_pressAbove_X6_apart : GoodIn wsX6_pressAbove wsX6_apart := goodIn_r _ [8] (by decide +kernel) (by decide +kernel)
set_option maxRecDepth 20000 in
theorem gX6_pressAbove_X6_apart : GoodIn wsX6_pressAbove (va_wsS RX6 204 yX6_apart wsX6_apart) := goodIn_app (goodIn_of _ (by decide +kernel)) ggX6_pressAbove_X6_apart
theorem dX6_pressAbove_0 : decode cX6_pressAbove 0 = .ok (.aload_n 0, 1) := by decide +kernel
theorem dX6_pressAbove_1 : decode cX6_pressAbove 1 = .ok (.getfield 47, 3) := by decide +kernel
theorem dX6_pressAbove_4 : decode cX6_pressAbove 4 = .ok (.iload_n 1, 1) := by decide +kernel
theorem dX6_pressAbove_5 : decode cX6_pressAbove 5 = .ok (.laload, 1) := by decide +kernel
theorem dX6_pressAbove_6 : decode cX6_pressAbove 6 = .ok (.lneg, 1) := by decide +kernel
theorem dX6_pressAbove_7 : decode cX6_pressAbove 7 = .ok (.aload_n 0, 1) := by decide +kernel
theorem dX6_pressAbove_8 : decode cX6_pressAbove 8 = .ok (.getfield 207, 3) := by decide +kernel
theorem dX6_pressAbove_11 : decode cX6_pressAbove 11 = .ok (.lmul, 1) := by decide +kernel
theorem dX6_pressAbove_12 : decode cX6_pressAbove 12 = .ok (.lstore_n 3, 1) := by decide +kernel
theorem dX6_pressAbove_13 : decode cX6_pressAbove 13 = .ok (.iconst 0, 1) := by decide +kernel
theorem dX6_pressAbove_14 : decode cX6_pressAbove 14 = .ok (.istore 5, 2) := by decide +kernel
theorem dX6_pressAbove_16 : decode cX6_pressAbove 16 = .ok (.iload 5, 2) := by decide +kernel
theorem dX6_pressAbove_18 : decode cX6_pressAbove 18 = .ok (.iload_n 2, 1) := by decide +kernel
theorem dX6_pressAbove_19 : decode cX6_pressAbove 19 = .ok (.if_icmp .ge 31, 3) := by decide +kernel
theorem dX6_pressAbove_22 : decode cX6_pressAbove 22 = .ok (.lload_n 3, 1) := by decide +kernel
theorem dX6_pressAbove_23 : decode cX6_pressAbove 23 = .ok (.aload_n 0, 1) := by decide +kernel
theorem dX6_pressAbove_24 : decode cX6_pressAbove 24 = .ok (.getfield 43, 3) := by decide +kernel
theorem dX6_pressAbove_27 : decode cX6_pressAbove 27 = .ok (.iload_n 1, 1) := by decide +kernel
theorem dX6_pressAbove_28 : decode cX6_pressAbove 28 = .ok (.iload 5, 2) := by decide +kernel
theorem dX6_pressAbove_30 : decode cX6_pressAbove 30 = .ok (.invokestatic 204, 3) := by decide +kernel
theorem dX6_pressAbove_33 : decode cX6_pressAbove 33 = .ok (.laload, 1) := by decide +kernel
theorem dX6_pressAbove_34 : decode cX6_pressAbove 34 = .ok (.aload_n 0, 1) := by decide +kernel
theorem dX6_pressAbove_35 : decode cX6_pressAbove 35 = .ok (.getfield 56, 3) := by decide +kernel
theorem dX6_pressAbove_38 : decode cX6_pressAbove 38 = .ok (.iload 5, 2) := by decide +kernel
theorem dX6_pressAbove_40 : decode cX6_pressAbove 40 = .ok (.laload, 1) := by decide +kernel
theorem dX6_pressAbove_41 : decode cX6_pressAbove 41 = .ok (.lmul, 1) := by decide +kernel
theorem dX6_pressAbove_42 : decode cX6_pressAbove 42 = .ok (.ladd, 1) := by decide +kernel
theorem dX6_pressAbove_43 : decode cX6_pressAbove 43 = .ok (.lstore_n 3, 1) := by decide +kernel
theorem dX6_pressAbove_44 : decode cX6_pressAbove 44 = .ok (.iinc 5 1, 3) := by decide +kernel
theorem dX6_pressAbove_47 : decode cX6_pressAbove 47 = .ok (.goto (-31), 3) := by decide +kernel
theorem dX6_pressAbove_50 : decode cX6_pressAbove 50 = .ok (.lload_n 3, 1) := by decide +kernel
theorem dX6_pressAbove_51 : decode cX6_pressAbove 51 = .ok (.lreturn, 1) := by decide +kernel
set_option maxRecDepth 20000 in
theorem ggX6_isBest_X6_pressAbove : GoodIn wsX6_isBest wsX6_pressAbove := goodIn_r _ [6, 7, 8, 9, 1, 10, 11, 5, 12, 13, 14, 15, 16, 17, 18, 19, 20, 21, 22, 23, 24, 25, 26, 27, 28, 29, 30, 31, 32, 33, 34, 35, 36, 37, 38, 39, 40, 41, 42, 43, 44, 45] (by decide +kernel) (by decide +kernel)
set_option maxRecDepth 20000 in
theorem gX6_isBest_X6_pressAbove : GoodIn wsX6_isBest (wsV RX6 214 RX6 yX6_pressAbove wsX6_pressAbove) := goodIn_app (goodIn_of _ (by decide +kernel)) ggX6_isBest_X6_pressAbove
theorem dX6_isBest_0 : decode cX6_isBest 0 = .ok (.iconst 1, 1) := by decide +kernel
theorem dX6_isBest_1 : decode cX6_isBest 1 = .ok (.istore_n 2, 1) := by decide +kernel
theorem dX6_isBest_2 : decode cX6_isBest 2 = .ok (.iconst 0, 1) := by decide +kernel
theorem dX6_isBest_3 : decode cX6_isBest 3 = .ok (.istore_n 3, 1) := by decide +kernel
theorem dX6_isBest_4 : decode cX6_isBest 4 = .ok (.iload_n 3, 1) := by decide +kernel
theorem dX6_isBest_5 : decode cX6_isBest 5 = .ok (.iload_n 1, 1) := by decide +kernel
theorem dX6_isBest_6 : decode cX6_isBest 6 = .ok (.if_icmp .ge 41, 3) := by decide +kernel
theorem dX6_isBest_9 : decode cX6_isBest 9 = .ok (.iload_n 2, 1) := by decide +kernel
theorem dX6_isBest_10 : decode cX6_isBest 10 = .ok (.ifCond .eq 29, 3) := by decide +kernel
theorem dX6_isBest_13 : decode cX6_isBest 13 = .ok (.aload_n 0, 1) := by decide +kernel
theorem dX6_isBest_14 : decode cX6_isBest 14 = .ok (.getfield 56, 3) := by decide +kernel
theorem dX6_isBest_17 : decode cX6_isBest 17 = .ok (.iload_n 3, 1) := by decide +kernel
theorem dX6_isBest_18 : decode cX6_isBest 18 = .ok (.laload, 1) := by decide +kernel
theorem dX6_isBest_19 : decode cX6_isBest 19 = .ok (.lconst 0, 1) := by decide +kernel
theorem dX6_isBest_20 : decode cX6_isBest 20 = .ok (.lcmp, 1) := by decide +kernel
theorem dX6_isBest_21 : decode cX6_isBest 21 = .ok (.ifCond .lt 18, 3) := by decide +kernel
theorem dX6_isBest_24 : decode cX6_isBest 24 = .ok (.aload_n 0, 1) := by decide +kernel
theorem dX6_isBest_25 : decode cX6_isBest 25 = .ok (.iload_n 3, 1) := by decide +kernel
theorem dX6_isBest_26 : decode cX6_isBest 26 = .ok (.iload_n 1, 1) := by decide +kernel
theorem dX6_isBest_27 : decode cX6_isBest 27 = .ok (.invokevirtual 214, 3) := by decide +kernel
theorem dX6_isBest_30 : decode cX6_isBest 30 = .ok (.lconst 0, 1) := by decide +kernel
theorem dX6_isBest_31 : decode cX6_isBest 31 = .ok (.lcmp, 1) := by decide +kernel
theorem dX6_isBest_32 : decode cX6_isBest 32 = .ok (.ifCond .lt 7, 3) := by decide +kernel
theorem dX6_isBest_35 : decode cX6_isBest 35 = .ok (.iconst 1, 1) := by decide +kernel
theorem dX6_isBest_36 : decode cX6_isBest 36 = .ok (.goto 4, 3) := by decide +kernel
theorem dX6_isBest_39 : decode cX6_isBest 39 = .ok (.iconst 0, 1) := by decide +kernel
theorem dX6_isBest_40 : decode cX6_isBest 40 = .ok (.istore_n 2, 1) := by decide +kernel
theorem dX6_isBest_41 : decode cX6_isBest 41 = .ok (.iinc 3 1, 3) := by decide +kernel
theorem dX6_isBest_44 : decode cX6_isBest 44 = .ok (.goto (-40), 3) := by decide +kernel
theorem dX6_isBest_47 : decode cX6_isBest 47 = .ok (.iload_n 2, 1) := by decide +kernel
theorem dX6_isBest_48 : decode cX6_isBest 48 = .ok (.ireturn, 1) := by decide +kernel
set_option maxRecDepth 20000 in
theorem ggX6_layBest_X6_layProducts : GoodIn wsX6_layBest wsX6_layProducts := goodIn_r _ [5, 6, 7, 8, 9, 10, 11, 12, 4, 13, 14, 15, 16, 17, 18, 19, 20, 21, 22, 46, 47, 48, 49, 50, 51, 52, 53, 54, 55, 56, 57, 58, 59, 60, 61, 62, 63, 64, 65, 66, 67, 68, 69, 70, 71, 72, 73, 74, 75, 76, 77, 78] (by decide +kernel) (by decide +kernel)
set_option maxRecDepth 20000 in
theorem gX6_layBest_X6_layProducts : GoodIn wsX6_layBest (wsV RX6 218 RX6 yX6_layProducts wsX6_layProducts) := goodIn_app (goodIn_of _ (by decide +kernel)) ggX6_layBest_X6_layProducts
set_option maxRecDepth 20000 in
theorem ggX6_layBest_X6_solve : GoodIn wsX6_layBest wsX6_solve := goodIn_r _ [26, 27, 28, 29, 7, 8, 30, 31, 32, 4, 33, 34, 35, 36, 37, 46, 47, 48, 49, 50, 51, 52, 53, 54, 55, 56, 57, 58, 59, 60, 61, 62, 63, 64, 65, 66, 67, 68, 69, 70, 71, 72, 73, 74, 75, 76, 77, 78] (by decide +kernel) (by decide +kernel)
set_option maxRecDepth 20000 in
theorem gX6_layBest_X6_solve : GoodIn wsX6_layBest (wsV RX6 222 RX6 yX6_solve wsX6_solve) := goodIn_app (goodIn_of _ (by decide +kernel)) ggX6_layBest_X6_solve
set_option maxRecDepth 20000 in
theorem ggX6_layBest_X6_isBest : GoodIn wsX6_layBest wsX6_isBest := goodIn_r _ [41, 27, 42, 43, 44, 4, 45, 8, 30, 7, 31, 32, 33, 46, 47, 48, 49, 50, 51, 52, 53, 54, 55, 56, 57, 58, 59, 60, 61, 62, 63, 64, 65, 66, 67, 68, 69, 70, 71, 72, 73, 74, 75, 76, 77, 78] (by decide +kernel) (by decide +kernel)
set_option maxRecDepth 20000 in
theorem gX6_layBest_X6_isBest : GoodIn wsX6_layBest (wsV RX6 225 RX6 yX6_isBest wsX6_isBest) := goodIn_app (goodIn_of _ (by decide +kernel)) ggX6_layBest_X6_isBest
theorem dX6_layBest_0 : decode cX6_layBest 0 = .ok (.aload_n 0, 1) := by decide +kernel
theorem dX6_layBest_1 : decode cX6_layBest 1 = .ok (.iload_n 1, 1) := by decide +kernel
theorem dX6_layBest_2 : decode cX6_layBest 2 = .ok (.invokevirtual 218, 3) := by decide +kernel
theorem dX6_layBest_5 : decode cX6_layBest 5 = .ok (.iconst 0, 1) := by decide +kernel
theorem dX6_layBest_6 : decode cX6_layBest 6 = .ok (.istore_n 3, 1) := by decide +kernel
theorem dX6_layBest_7 : decode cX6_layBest 7 = .ok (.aload_n 0, 1) := by decide +kernel
theorem dX6_layBest_8 : decode cX6_layBest 8 = .ok (.iload_n 3, 1) := by decide +kernel
theorem dX6_layBest_9 : decode cX6_layBest 9 = .ok (.iload_n 2, 1) := by decide +kernel
theorem dX6_layBest_10 : decode cX6_layBest 10 = .ok (.invokevirtual 222, 3) := by decide +kernel
theorem dX6_layBest_13 : decode cX6_layBest 13 = .ok (.aload_n 0, 1) := by decide +kernel
theorem dX6_layBest_14 : decode cX6_layBest 14 = .ok (.iload_n 2, 1) := by decide +kernel
theorem dX6_layBest_15 : decode cX6_layBest 15 = .ok (.invokevirtual 225, 3) := by decide +kernel
theorem dX6_layBest_18 : decode cX6_layBest 18 = .ok (.ifCond .ne 15, 3) := by decide +kernel
theorem dX6_layBest_21 : decode cX6_layBest 21 = .ok (.iinc 3 1, 3) := by decide +kernel
theorem dX6_layBest_24 : decode cX6_layBest 24 = .ok (.aload_n 0, 1) := by decide +kernel
theorem dX6_layBest_25 : decode cX6_layBest 25 = .ok (.iload_n 3, 1) := by decide +kernel
theorem dX6_layBest_26 : decode cX6_layBest 26 = .ok (.iload_n 2, 1) := by decide +kernel
theorem dX6_layBest_27 : decode cX6_layBest 27 = .ok (.invokevirtual 222, 3) := by decide +kernel
theorem dX6_layBest_30 : decode cX6_layBest 30 = .ok (.goto (-17), 3) := by decide +kernel
theorem dX6_layBest_33 : decode cX6_layBest 33 = .ok (.return_, 1) := by decide +kernel
set_option maxRecDepth 20000 in
theorem ggX6_isAsk_X6_within : GoodIn wsX6_isAsk wsX6_within := goodIn_r _ [5] (by decide +kernel) (by decide +kernel)
set_option maxRecDepth 20000 in
theorem gX6_isAsk_X6_within : GoodIn wsX6_isAsk (va_wsS RX6 59 yX6_within wsX6_within) := goodIn_app (goodIn_of _ (by decide +kernel)) ggX6_isAsk_X6_within
theorem dX6_isAsk_0 : decode cX6_isAsk 0 = .ok (.iload_n 1, 1) := by decide +kernel
theorem dX6_isAsk_1 : decode cX6_isAsk 1 = .ok (.iconst 1, 1) := by decide +kernel
theorem dX6_isAsk_2 : decode cX6_isAsk 2 = .ok (.iconst 1, 1) := by decide +kernel
theorem dX6_isAsk_3 : decode cX6_isAsk 3 = .ok (.aload_n 0, 1) := by decide +kernel
theorem dX6_isAsk_4 : decode cX6_isAsk 4 = .ok (.getfield 114, 3) := by decide +kernel
theorem dX6_isAsk_7 : decode cX6_isAsk 7 = .ok (.ishl, 1) := by decide +kernel
theorem dX6_isAsk_8 : decode cX6_isAsk 8 = .ok (.iconst 1, 1) := by decide +kernel
theorem dX6_isAsk_9 : decode cX6_isAsk 9 = .ok (.isub, 1) := by decide +kernel
theorem dX6_isAsk_10 : decode cX6_isAsk 10 = .ok (.invokestatic 59, 3) := by decide +kernel
theorem dX6_isAsk_13 : decode cX6_isAsk 13 = .ok (.ifCond .eq 16, 3) := by decide +kernel
theorem dX6_isAsk_16 : decode cX6_isAsk 16 = .ok (.iload_n 2, 1) := by decide +kernel
theorem dX6_isAsk_17 : decode cX6_isAsk 17 = .ok (.iconst 1, 1) := by decide +kernel
theorem dX6_isAsk_18 : decode cX6_isAsk 18 = .ok (.iconst 4, 1) := by decide +kernel
theorem dX6_isAsk_19 : decode cX6_isAsk 19 = .ok (.invokestatic 59, 3) := by decide +kernel
theorem dX6_isAsk_22 : decode cX6_isAsk 22 = .ok (.ifCond .eq 7, 3) := by decide +kernel
theorem dX6_isAsk_25 : decode cX6_isAsk 25 = .ok (.iconst 1, 1) := by decide +kernel
theorem dX6_isAsk_26 : decode cX6_isAsk 26 = .ok (.goto 4, 3) := by decide +kernel
theorem dX6_isAsk_29 : decode cX6_isAsk 29 = .ok (.iconst 0, 1) := by decide +kernel
theorem dX6_isAsk_30 : decode cX6_isAsk 30 = .ok (.ireturn, 1) := by decide +kernel
set_option maxRecDepth 20000 in
theorem ggX6_bestNow_X6_layBest : GoodIn wsX6_bestNow wsX6_layBest := goodIn_r _ [7, 8, 9, 10, 6, 11, 12, 13, 14, 15, 16, 17, 18, 19, 20, 21, 22, 23, 24, 25, 26, 27, 28, 29, 30, 31, 32, 1, 33, 34, 2, 35, 36, 37, 38, 39, 40, 41, 42, 43, 44, 45, 46, 47, 48, 49, 56, 57, 58, 59, 60, 61, 62, 63, 64, 65, 66, 67, 68, 69, 70, 71, 72, 73, 74, 75, 76, 77, 78, 79, 80, 81, 82, 83, 84, 85, 86, 87, 88] (by decide +kernel) (by decide +kernel)
set_option maxRecDepth 20000 in
theorem gX6_bestNow_X6_layBest : GoodIn wsX6_bestNow (wsV RX6 228 RX6 yX6_layBest wsX6_layBest) := goodIn_app (goodIn_of _ (by decide +kernel)) ggX6_bestNow_X6_layBest
set_option maxRecDepth 20000 in
theorem ggX6_bestNow_X6_lowest : GoodIn wsX6_bestNow wsX6_lowest := goodIn_r _ [52, 53, 54, 6, 55] (by decide +kernel) (by decide +kernel)
set_option maxRecDepth 20000 in
theorem gX6_bestNow_X6_lowest : GoodIn wsX6_bestNow (va_wsS RX6 196 yX6_lowest wsX6_lowest) := goodIn_app (goodIn_of _ (by decide +kernel)) ggX6_bestNow_X6_lowest
theorem dX6_bestNow_0 : decode cX6_bestNow 0 = .ok (.aload_n 0, 1) := by decide +kernel
theorem dX6_bestNow_1 : decode cX6_bestNow 1 = .ok (.iload_n 1, 1) := by decide +kernel
theorem dX6_bestNow_2 : decode cX6_bestNow 2 = .ok (.iload_n 2, 1) := by decide +kernel
theorem dX6_bestNow_3 : decode cX6_bestNow 3 = .ok (.invokevirtual 228, 3) := by decide +kernel
theorem dX6_bestNow_6 : decode cX6_bestNow 6 = .ok (.aload_n 0, 1) := by decide +kernel
theorem dX6_bestNow_7 : decode cX6_bestNow 7 = .ok (.getfield 56, 3) := by decide +kernel
theorem dX6_bestNow_10 : decode cX6_bestNow 10 = .ok (.iload_n 3, 1) := by decide +kernel
theorem dX6_bestNow_11 : decode cX6_bestNow 11 = .ok (.laload, 1) := by decide +kernel
theorem dX6_bestNow_12 : decode cX6_bestNow 12 = .ok (.aload_n 0, 1) := by decide +kernel
theorem dX6_bestNow_13 : decode cX6_bestNow 13 = .ok (.getfield 207, 3) := by decide +kernel
theorem dX6_bestNow_16 : decode cX6_bestNow 16 = .ok (.iload 4, 2) := by decide +kernel
theorem dX6_bestNow_18 : decode cX6_bestNow 18 = .ok (.invokestatic 196, 3) := by decide +kernel
theorem dX6_bestNow_21 : decode cX6_bestNow 21 = .ok (.lreturn, 1) := by decide +kernel
set_option maxRecDepth 20000 in
theorem ggX6_best_X6_isAsk : GoodIn wsX6_best wsX6_isAsk := goodIn_r _ [6, 7, 8, 9, 5, 10, 65, 66, 67, 68, 69, 70, 71, 72, 73, 74, 75, 76, 77, 78, 79, 80, 81, 82, 83, 84, 85, 86, 87, 88, 89, 90, 91, 92, 93, 94, 95, 96, 97] (by decide +kernel) (by decide +kernel)
set_option maxRecDepth 20000 in
theorem gX6_best_X6_isAsk : GoodIn wsX6_best (wsV RX6 231 RX6 yX6_isAsk wsX6_isAsk) := goodIn_app (goodIn_of _ (by decide +kernel)) ggX6_best_X6_isAsk
set_option maxRecDepth 20000 in
theorem ggX6_best_X6_within : GoodIn wsX6_best wsX6_within := goodIn_r _ [10] (by decide +kernel) (by decide +kernel)
set_option maxRecDepth 20000 in
theorem gX6_best_X6_within : GoodIn wsX6_best (va_wsS RX6 59 yX6_within wsX6_within) := goodIn_app (goodIn_of _ (by decide +kernel)) ggX6_best_X6_within
set_option maxRecDepth 20000 in
theorem ggX6_best_X6_bestNow : GoodIn wsX6_best wsX6_bestNow := goodIn_r _ [14, 15, 16, 17, 18, 19, 5, 20, 21, 22, 23, 24, 25, 26, 27, 7, 28, 29, 30, 31, 32, 8, 9, 10, 33, 34, 35, 36, 37, 38, 39, 40, 41, 42, 43, 44, 45, 46, 47, 48, 49, 50, 51, 52, 53, 54, 55, 56, 57, 58, 59, 60, 61, 62, 63, 64, 65, 66, 67, 68, 69, 70, 71, 72, 73, 74, 75, 76, 77, 78, 79, 80, 81, 82, 83, 84, 85, 86, 87, 88, 89, 90, 91, 92, 93, 94, 95, 96, 97] (by decide +kernel) (by decide +kernel)
set_option maxRecDepth 20000 in
theorem gX6_best_X6_bestNow : GoodIn wsX6_best (wsV RX6 235 RX6 yX6_bestNow wsX6_bestNow) := goodIn_app (goodIn_of _ (by decide +kernel)) ggX6_best_X6_bestNow
theorem dX6_best_0 : decode cX6_best 0 = .ok (.aload_n 0, 1) := by decide +kernel
theorem dX6_best_1 : decode cX6_best 1 = .ok (.iload_n 1, 1) := by decide +kernel
theorem dX6_best_2 : decode cX6_best 2 = .ok (.iload_n 2, 1) := by decide +kernel
theorem dX6_best_3 : decode cX6_best 3 = .ok (.invokevirtual 231, 3) := by decide +kernel
theorem dX6_best_6 : decode cX6_best 6 = .ok (.ifCond .eq 36, 3) := by decide +kernel
theorem dX6_best_9 : decode cX6_best 9 = .ok (.iload_n 3, 1) := by decide +kernel
theorem dX6_best_10 : decode cX6_best 10 = .ok (.iconst 0, 1) := by decide +kernel
theorem dX6_best_11 : decode cX6_best 11 = .ok (.iload_n 2, 1) := by decide +kernel
theorem dX6_best_12 : decode cX6_best 12 = .ok (.iconst 1, 1) := by decide +kernel
theorem dX6_best_13 : decode cX6_best 13 = .ok (.isub, 1) := by decide +kernel
theorem dX6_best_14 : decode cX6_best 14 = .ok (.invokestatic 59, 3) := by decide +kernel
theorem dX6_best_17 : decode cX6_best 17 = .ok (.ifCond .eq 25, 3) := by decide +kernel
theorem dX6_best_20 : decode cX6_best 20 = .ok (.iload 4, 2) := by decide +kernel
theorem dX6_best_22 : decode cX6_best 22 = .ok (.iconst 0, 1) := by decide +kernel
theorem dX6_best_23 : decode cX6_best 23 = .ok (.iconst 1, 1) := by decide +kernel
theorem dX6_best_24 : decode cX6_best 24 = .ok (.invokestatic 59, 3) := by decide +kernel
theorem dX6_best_27 : decode cX6_best 27 = .ok (.ifCond .eq 15, 3) := by decide +kernel
theorem dX6_best_30 : decode cX6_best 30 = .ok (.aload_n 0, 1) := by decide +kernel
theorem dX6_best_31 : decode cX6_best 31 = .ok (.iload_n 1, 1) := by decide +kernel
theorem dX6_best_32 : decode cX6_best 32 = .ok (.iload_n 2, 1) := by decide +kernel
theorem dX6_best_33 : decode cX6_best 33 = .ok (.iload_n 3, 1) := by decide +kernel
theorem dX6_best_34 : decode cX6_best 34 = .ok (.iload 4, 2) := by decide +kernel
theorem dX6_best_36 : decode cX6_best 36 = .ok (.invokevirtual 235, 3) := by decide +kernel
theorem dX6_best_39 : decode cX6_best 39 = .ok (.goto 6, 3) := by decide +kernel
theorem dX6_best_42 : decode cX6_best 42 = .ok (.ldc2_w 239, 3) := by decide +kernel
theorem dX6_best_45 : decode cX6_best 45 = .ok (.lreturn, 1) := by decide +kernel
set_option maxRecDepth 20000 in
theorem ggX6_lossNow_X6_layBest : GoodIn wsX6_lossNow wsX6_layBest := goodIn_r _ [9, 10, 11, 12, 8, 13, 1, 14, 4, 15, 16, 17, 18, 19, 20, 21, 22, 23, 24, 25, 26, 27, 28, 29, 30, 31, 32, 3, 33, 34, 2, 35, 36, 37, 38, 39, 40, 41, 42, 43, 44, 45, 46, 47, 48, 49, 56, 57, 58, 59, 60, 61, 62, 63, 64, 65, 66, 67, 68, 69, 70, 71, 72, 73, 74, 75, 76, 77, 78, 79, 80, 81, 82, 83, 84, 85, 86, 87, 88] (by decide +kernel) (by decide +kernel)
set_option maxRecDepth 20000 in
theorem gX6_lossNow_X6_layBest : GoodIn wsX6_lossNow (wsV RX6 228 RX6 yX6_layBest wsX6_layBest) := goodIn_app (goodIn_of _ (by decide +kernel)) ggX6_lossNow_X6_layBest
set_option maxRecDepth 20000 in
theorem ggX6_lossNow_X6_lowest : GoodIn wsX6_lossNow wsX6_lowest := goodIn_r _ [52, 53, 54, 8, 55] (by decide +kernel) (by decide +kernel)
set_option maxRecDepth 20000 in
theorem gX6_lossNow_X6_lowest : GoodIn wsX6_lossNow (va_wsS RX6 196 yX6_lowest wsX6_lowest) := goodIn_app (goodIn_of _ (by decide +kernel)) ggX6_lossNow_X6_lowest
theorem dX6_lossNow_0 : decode cX6_lossNow 0 = .ok (.aload_n 0, 1) := by decide +kernel
theorem dX6_lossNow_1 : decode cX6_lossNow 1 = .ok (.iload_n 1, 1) := by decide +kernel
theorem dX6_lossNow_2 : decode cX6_lossNow 2 = .ok (.iload_n 2, 1) := by decide +kernel
theorem dX6_lossNow_3 : decode cX6_lossNow 3 = .ok (.invokevirtual 228, 3) := by decide +kernel
theorem dX6_lossNow_6 : decode cX6_lossNow 6 = .ok (.aload_n 0, 1) := by decide +kernel
theorem dX6_lossNow_7 : decode cX6_lossNow 7 = .ok (.getfield 200, 3) := by decide +kernel
theorem dX6_lossNow_10 : decode cX6_lossNow 10 = .ok (.aload_n 0, 1) := by decide +kernel
theorem dX6_lossNow_11 : decode cX6_lossNow 11 = .ok (.getfield 207, 3) := by decide +kernel
theorem dX6_lossNow_14 : decode cX6_lossNow 14 = .ok (.lmul, 1) := by decide +kernel
theorem dX6_lossNow_15 : decode cX6_lossNow 15 = .ok (.lstore 4, 2) := by decide +kernel
theorem dX6_lossNow_17 : decode cX6_lossNow 17 = .ok (.iconst 0, 1) := by decide +kernel
theorem dX6_lossNow_18 : decode cX6_lossNow 18 = .ok (.istore 6, 2) := by decide +kernel
theorem dX6_lossNow_20 : decode cX6_lossNow 20 = .ok (.iload 6, 2) := by decide +kernel
theorem dX6_lossNow_22 : decode cX6_lossNow 22 = .ok (.iload_n 2, 1) := by decide +kernel
theorem dX6_lossNow_23 : decode cX6_lossNow 23 = .ok (.if_icmp .ge 29, 3) := by decide +kernel
theorem dX6_lossNow_26 : decode cX6_lossNow 26 = .ok (.lload 4, 2) := by decide +kernel
theorem dX6_lossNow_28 : decode cX6_lossNow 28 = .ok (.aload_n 0, 1) := by decide +kernel
theorem dX6_lossNow_29 : decode cX6_lossNow 29 = .ok (.getfield 56, 3) := by decide +kernel
theorem dX6_lossNow_32 : decode cX6_lossNow 32 = .ok (.iload 6, 2) := by decide +kernel
theorem dX6_lossNow_34 : decode cX6_lossNow 34 = .ok (.laload, 1) := by decide +kernel
theorem dX6_lossNow_35 : decode cX6_lossNow 35 = .ok (.aload_n 0, 1) := by decide +kernel
theorem dX6_lossNow_36 : decode cX6_lossNow 36 = .ok (.getfield 47, 3) := by decide +kernel
theorem dX6_lossNow_39 : decode cX6_lossNow 39 = .ok (.iload 6, 2) := by decide +kernel
theorem dX6_lossNow_41 : decode cX6_lossNow 41 = .ok (.laload, 1) := by decide +kernel
theorem dX6_lossNow_42 : decode cX6_lossNow 42 = .ok (.lmul, 1) := by decide +kernel
theorem dX6_lossNow_43 : decode cX6_lossNow 43 = .ok (.lsub, 1) := by decide +kernel
theorem dX6_lossNow_44 : decode cX6_lossNow 44 = .ok (.lstore 4, 2) := by decide +kernel
theorem dX6_lossNow_46 : decode cX6_lossNow 46 = .ok (.iinc 6 1, 3) := by decide +kernel
theorem dX6_lossNow_49 : decode cX6_lossNow 49 = .ok (.goto (-29), 3) := by decide +kernel
theorem dX6_lossNow_52 : decode cX6_lossNow 52 = .ok (.lload 4, 2) := by decide +kernel
theorem dX6_lossNow_54 : decode cX6_lossNow 54 = .ok (.aload_n 0, 1) := by decide +kernel
theorem dX6_lossNow_55 : decode cX6_lossNow 55 = .ok (.getfield 207, 3) := by decide +kernel
theorem dX6_lossNow_58 : decode cX6_lossNow 58 = .ok (.iload_n 3, 1) := by decide +kernel
theorem dX6_lossNow_59 : decode cX6_lossNow 59 = .ok (.invokestatic 196, 3) := by decide +kernel
theorem dX6_lossNow_62 : decode cX6_lossNow 62 = .ok (.lreturn, 1) := by decide +kernel
set_option maxRecDepth 20000 in
theorem ggX6_loss_X6_isAsk : GoodIn wsX6_loss wsX6_isAsk := goodIn_r _ [6, 7, 8, 9, 5, 10, 65, 66, 67, 68, 69, 70, 71, 72, 73, 74, 75, 76, 77, 78, 79, 80, 81, 82, 83, 84, 85, 86, 87, 88, 89, 90, 91, 92, 93, 94, 95, 96, 97] (by decide +kernel) (by decide +kernel)
set_option maxRecDepth 20000 in
theorem gX6_loss_X6_isAsk : GoodIn wsX6_loss (wsV RX6 231 RX6 yX6_isAsk wsX6_isAsk) := goodIn_app (goodIn_of _ (by decide +kernel)) ggX6_loss_X6_isAsk
set_option maxRecDepth 20000 in
theorem ggX6_loss_X6_within : GoodIn wsX6_loss wsX6_within := goodIn_r _ [10] (by decide +kernel) (by decide +kernel)
set_option maxRecDepth 20000 in
theorem gX6_loss_X6_within : GoodIn wsX6_loss (va_wsS RX6 59 yX6_within wsX6_within) := goodIn_app (goodIn_of _ (by decide +kernel)) ggX6_loss_X6_within
set_option maxRecDepth 20000 in
theorem ggX6_loss_X6_lossNow : GoodIn wsX6_loss wsX6_lossNow := goodIn_r _ [14, 15, 16, 17, 18, 19, 20, 21, 5, 22, 23, 24, 25, 26, 27, 7, 28, 29, 30, 31, 32, 8, 9, 10, 33, 34, 35, 36, 37, 38, 39, 40, 41, 42, 43, 44, 45, 46, 47, 48, 49, 50, 51, 52, 53, 54, 55, 56, 57, 58, 59, 60, 61, 62, 63, 64, 65, 66, 67, 68, 69, 70, 71, 72, 73, 74, 75, 76, 77, 78, 79, 80, 81, 82, 83, 84, 85, 86, 87, 88, 89, 90, 91, 92, 93, 94, 95, 96, 97] (by decide +kernel) (by decide +kernel)
set_option maxRecDepth 20000 in
theorem gX6_loss_X6_lossNow : GoodIn wsX6_loss (wsV RX6 241 RX6 yX6_lossNow wsX6_lossNow) := goodIn_app (goodIn_of _ (by decide +kernel)) ggX6_loss_X6_lossNow
theorem dX6_loss_0 : decode cX6_loss 0 = .ok (.aload_n 0, 1) := by decide +kernel
theorem dX6_loss_1 : decode cX6_loss 1 = .ok (.iload_n 1, 1) := by decide +kernel
theorem dX6_loss_2 : decode cX6_loss 2 = .ok (.iload_n 2, 1) := by decide +kernel
theorem dX6_loss_3 : decode cX6_loss 3 = .ok (.invokevirtual 231, 3) := by decide +kernel
theorem dX6_loss_6 : decode cX6_loss 6 = .ok (.ifCond .eq 22, 3) := by decide +kernel
theorem dX6_loss_9 : decode cX6_loss 9 = .ok (.iload_n 3, 1) := by decide +kernel
theorem dX6_loss_10 : decode cX6_loss 10 = .ok (.iconst 0, 1) := by decide +kernel
theorem dX6_loss_11 : decode cX6_loss 11 = .ok (.iconst 1, 1) := by decide +kernel
theorem dX6_loss_12 : decode cX6_loss 12 = .ok (.invokestatic 59, 3) := by decide +kernel
theorem dX6_loss_15 : decode cX6_loss 15 = .ok (.ifCond .eq 13, 3) := by decide +kernel
theorem dX6_loss_18 : decode cX6_loss 18 = .ok (.aload_n 0, 1) := by decide +kernel
theorem dX6_loss_19 : decode cX6_loss 19 = .ok (.iload_n 1, 1) := by decide +kernel
theorem dX6_loss_20 : decode cX6_loss 20 = .ok (.iload_n 2, 1) := by decide +kernel
theorem dX6_loss_21 : decode cX6_loss 21 = .ok (.iload_n 3, 1) := by decide +kernel
theorem dX6_loss_22 : decode cX6_loss 22 = .ok (.invokevirtual 241, 3) := by decide +kernel
theorem dX6_loss_25 : decode cX6_loss 25 = .ok (.goto 6, 3) := by decide +kernel
theorem dX6_loss_28 : decode cX6_loss 28 = .ok (.ldc2_w 239, 3) := by decide +kernel
theorem dX6_loss_31 : decode cX6_loss 31 = .ok (.lreturn, 1) := by decide +kernel
set_option maxRecDepth 20000 in
theorem ggX6_pressNow_X6_layBest : GoodIn wsX6_pressNow wsX6_layBest := goodIn_r _ [6, 7, 8, 9, 5, 10, 11, 12, 13, 14, 15, 16, 17, 18, 19, 20, 21, 22, 23, 24, 25, 26, 27, 28, 29, 30, 31, 32, 33, 34, 1, 35, 36, 37, 38, 39, 40, 41, 42, 43, 44, 45, 46, 47, 48, 49, 56, 57, 58, 59, 60, 61, 62, 63, 64, 65, 66, 67, 68, 69, 70, 71, 72, 73, 74, 75, 76, 77, 78, 79, 80, 81, 82, 83, 84, 85, 86, 87, 88] (by decide +kernel) (by decide +kernel)
set_option maxRecDepth 20000 in
theorem gX6_pressNow_X6_layBest : GoodIn wsX6_pressNow (wsV RX6 228 RX6 yX6_layBest wsX6_layBest) := goodIn_app (goodIn_of _ (by decide +kernel)) ggX6_pressNow_X6_layBest
set_option maxRecDepth 20000 in
theorem ggX6_pressNow_X6_pressAbove : GoodIn wsX6_pressNow wsX6_pressAbove := goodIn_r _ [49, 13, 1, 12, 32, 35, 36, 5, 37, 56, 57, 58, 59, 60, 61, 62, 63, 64, 65, 66, 67, 68, 69, 70, 71, 72, 73, 74, 75, 76, 77, 78, 79, 80, 81, 82, 83, 84, 85, 86, 87, 88] (by decide +kernel) (by decide +kernel)
set_option maxRecDepth 20000 in
theorem gX6_pressNow_X6_pressAbove : GoodIn wsX6_pressNow (wsV RX6 214 RX6 yX6_pressAbove wsX6_pressAbove) := goodIn_app (goodIn_of _ (by decide +kernel)) ggX6_pressNow_X6_pressAbove
set_option maxRecDepth 20000 in
theorem ggX6_pressNow_X6_lowest : GoodIn wsX6_pressNow wsX6_lowest := goodIn_r _ [52, 53, 54, 5, 55] (by decide +kernel) (by decide +kernel)
set_option maxRecDepth 20000 in
theorem gX6_pressNow_X6_lowest : GoodIn wsX6_pressNow (va_wsS RX6 196 yX6_lowest wsX6_lowest) := goodIn_app (goodIn_of _ (by decide +kernel)) ggX6_pressNow_X6_lowest
theorem dX6_pressNow_0 : decode cX6_pressNow 0 = .ok (.aload_n 0, 1) := by decide +kernel
theorem dX6_pressNow_1 : decode cX6_pressNow 1 = .ok (.iload_n 1, 1) := by decide +kernel
theorem dX6_pressNow_2 : decode cX6_pressNow 2 = .ok (.iload_n 2, 1) := by decide +kernel
theorem dX6_pressNow_3 : decode cX6_pressNow 3 = .ok (.invokevirtual 228, 3) := by decide +kernel
theorem dX6_pressNow_6 : decode cX6_pressNow 6 = .ok (.aload_n 0, 1) := by decide +kernel
theorem dX6_pressNow_7 : decode cX6_pressNow 7 = .ok (.iload_n 3, 1) := by decide +kernel
theorem dX6_pressNow_8 : decode cX6_pressNow 8 = .ok (.iload_n 2, 1) := by decide +kernel
theorem dX6_pressNow_9 : decode cX6_pressNow 9 = .ok (.invokevirtual 214, 3) := by decide +kernel
theorem dX6_pressNow_12 : decode cX6_pressNow 12 = .ok (.aload_n 0, 1) := by decide +kernel
theorem dX6_pressNow_13 : decode cX6_pressNow 13 = .ok (.getfield 207, 3) := by decide +kernel
theorem dX6_pressNow_16 : decode cX6_pressNow 16 = .ok (.iload 4, 2) := by decide +kernel
theorem dX6_pressNow_18 : decode cX6_pressNow 18 = .ok (.invokestatic 196, 3) := by decide +kernel
theorem dX6_pressNow_21 : decode cX6_pressNow 21 = .ok (.lreturn, 1) := by decide +kernel
set_option maxRecDepth 20000 in
theorem ggX6_press_X6_isAsk : GoodIn wsX6_press wsX6_isAsk := goodIn_r _ [6, 7, 8, 9, 5, 10, 65, 66, 67, 68, 69, 70, 71, 72, 73, 74, 75, 76, 77, 78, 79, 80, 81, 82, 83, 84, 85, 86, 87, 88, 89, 90, 91, 92, 93, 94, 95, 96, 97] (by decide +kernel) (by decide +kernel)
set_option maxRecDepth 20000 in
theorem gX6_press_X6_isAsk : GoodIn wsX6_press (wsV RX6 231 RX6 yX6_isAsk wsX6_isAsk) := goodIn_app (goodIn_of _ (by decide +kernel)) ggX6_press_X6_isAsk
set_option maxRecDepth 20000 in
theorem ggX6_press_X6_within : GoodIn wsX6_press wsX6_within := goodIn_r _ [10] (by decide +kernel) (by decide +kernel)
set_option maxRecDepth 20000 in
theorem gX6_press_X6_within : GoodIn wsX6_press (va_wsS RX6 59 yX6_within wsX6_within) := goodIn_app (goodIn_of _ (by decide +kernel)) ggX6_press_X6_within
set_option maxRecDepth 20000 in
theorem ggX6_press_X6_pressNow : GoodIn wsX6_press wsX6_pressNow := goodIn_r _ [14, 15, 16, 17, 18, 5, 19, 20, 21, 22, 23, 24, 25, 26, 7, 27, 28, 29, 30, 31, 8, 9, 10, 32, 33, 34, 35, 36, 37, 38, 39, 40, 41, 42, 43, 44, 45, 46, 47, 48, 49, 50, 51, 52, 53, 54, 55, 56, 57, 58, 59, 60, 61, 62, 63, 64, 65, 66, 67, 68, 69, 70, 71, 72, 73, 74, 75, 76, 77, 78, 79, 80, 81, 82, 83, 84, 85, 86, 87, 88, 89, 90, 91, 92, 93, 94, 95, 96, 97] (by decide +kernel) (by decide +kernel)
set_option maxRecDepth 20000 in
theorem gX6_press_X6_pressNow : GoodIn wsX6_press (wsV RX6 245 RX6 yX6_pressNow wsX6_pressNow) := goodIn_app (goodIn_of _ (by decide +kernel)) ggX6_press_X6_pressNow
theorem dX6_press_0 : decode cX6_press 0 = .ok (.aload_n 0, 1) := by decide +kernel
theorem dX6_press_1 : decode cX6_press 1 = .ok (.iload_n 1, 1) := by decide +kernel
theorem dX6_press_2 : decode cX6_press 2 = .ok (.iload_n 2, 1) := by decide +kernel
theorem dX6_press_3 : decode cX6_press 3 = .ok (.invokevirtual 231, 3) := by decide +kernel
theorem dX6_press_6 : decode cX6_press 6 = .ok (.ifCond .eq 36, 3) := by decide +kernel
theorem dX6_press_9 : decode cX6_press 9 = .ok (.iload_n 3, 1) := by decide +kernel
theorem dX6_press_10 : decode cX6_press 10 = .ok (.iconst 0, 1) := by decide +kernel
theorem dX6_press_11 : decode cX6_press 11 = .ok (.iload_n 2, 1) := by decide +kernel
theorem dX6_press_12 : decode cX6_press 12 = .ok (.iconst 1, 1) := by decide +kernel
theorem dX6_press_13 : decode cX6_press 13 = .ok (.isub, 1) := by decide +kernel
theorem dX6_press_14 : decode cX6_press 14 = .ok (.invokestatic 59, 3) := by decide +kernel
theorem dX6_press_17 : decode cX6_press 17 = .ok (.ifCond .eq 25, 3) := by decide +kernel
theorem dX6_press_20 : decode cX6_press 20 = .ok (.iload 4, 2) := by decide +kernel
theorem dX6_press_22 : decode cX6_press 22 = .ok (.iconst 0, 1) := by decide +kernel
theorem dX6_press_23 : decode cX6_press 23 = .ok (.iconst 1, 1) := by decide +kernel
theorem dX6_press_24 : decode cX6_press 24 = .ok (.invokestatic 59, 3) := by decide +kernel
theorem dX6_press_27 : decode cX6_press 27 = .ok (.ifCond .eq 15, 3) := by decide +kernel
theorem dX6_press_30 : decode cX6_press 30 = .ok (.aload_n 0, 1) := by decide +kernel
theorem dX6_press_31 : decode cX6_press 31 = .ok (.iload_n 1, 1) := by decide +kernel
theorem dX6_press_32 : decode cX6_press 32 = .ok (.iload_n 2, 1) := by decide +kernel
theorem dX6_press_33 : decode cX6_press 33 = .ok (.iload_n 3, 1) := by decide +kernel
theorem dX6_press_34 : decode cX6_press 34 = .ok (.iload 4, 2) := by decide +kernel
theorem dX6_press_36 : decode cX6_press 36 = .ok (.invokevirtual 245, 3) := by decide +kernel
theorem dX6_press_39 : decode cX6_press 39 = .ok (.goto 6, 3) := by decide +kernel
theorem dX6_press_42 : decode cX6_press 42 = .ok (.ldc2_w 239, 3) := by decide +kernel
theorem dX6_press_45 : decode cX6_press 45 = .ok (.lreturn, 1) := by decide +kernel
set_option maxRecDepth 20000 in
theorem ggX6_nothingNow_X6_layBest : GoodIn wsX6_nothingNow wsX6_layBest := goodIn_r _ [6, 7, 8, 9, 5, 10, 11, 12, 13, 14, 15, 16, 17, 18, 19, 20, 21, 22, 23, 24, 25, 26, 27, 28, 29, 30, 31, 1, 32, 33, 34, 35, 36, 37, 38, 39, 40, 41, 42, 43, 44, 45, 46, 47, 48, 49, 50, 51, 52, 53, 54, 55, 56, 57, 58, 59, 60, 61, 62, 63, 64, 65, 66, 67, 68, 69, 70, 71, 72, 73, 74, 75, 76, 77, 78, 79, 80, 81, 82] (by decide +kernel) (by decide +kernel)
set_option maxRecDepth 20000 in
theorem gX6_nothingNow_X6_layBest : GoodIn wsX6_nothingNow (wsV RX6 228 RX6 yX6_layBest wsX6_layBest) := goodIn_app (goodIn_of _ (by decide +kernel)) ggX6_nothingNow_X6_layBest
theorem dX6_nothingNow_0 : decode cX6_nothingNow 0 = .ok (.aload_n 0, 1) := by decide +kernel
theorem dX6_nothingNow_1 : decode cX6_nothingNow 1 = .ok (.iload_n 1, 1) := by decide +kernel
theorem dX6_nothingNow_2 : decode cX6_nothingNow 2 = .ok (.iload_n 2, 1) := by decide +kernel
theorem dX6_nothingNow_3 : decode cX6_nothingNow 3 = .ok (.invokevirtual 228, 3) := by decide +kernel
theorem dX6_nothingNow_6 : decode cX6_nothingNow 6 = .ok (.iconst 0, 1) := by decide +kernel
theorem dX6_nothingNow_7 : decode cX6_nothingNow 7 = .ok (.istore_n 3, 1) := by decide +kernel
theorem dX6_nothingNow_8 : decode cX6_nothingNow 8 = .ok (.iconst 0, 1) := by decide +kernel
theorem dX6_nothingNow_9 : decode cX6_nothingNow 9 = .ok (.istore 4, 2) := by decide +kernel
theorem dX6_nothingNow_11 : decode cX6_nothingNow 11 = .ok (.iload 4, 2) := by decide +kernel
theorem dX6_nothingNow_13 : decode cX6_nothingNow 13 = .ok (.iload_n 2, 1) := by decide +kernel
theorem dX6_nothingNow_14 : decode cX6_nothingNow 14 = .ok (.if_icmp .ge 32, 3) := by decide +kernel
theorem dX6_nothingNow_17 : decode cX6_nothingNow 17 = .ok (.iload_n 3, 1) := by decide +kernel
theorem dX6_nothingNow_18 : decode cX6_nothingNow 18 = .ok (.aload_n 0, 1) := by decide +kernel
theorem dX6_nothingNow_19 : decode cX6_nothingNow 19 = .ok (.getfield 56, 3) := by decide +kernel
theorem dX6_nothingNow_22 : decode cX6_nothingNow 22 = .ok (.iload 4, 2) := by decide +kernel
theorem dX6_nothingNow_24 : decode cX6_nothingNow 24 = .ok (.laload, 1) := by decide +kernel
theorem dX6_nothingNow_25 : decode cX6_nothingNow 25 = .ok (.lconst 0, 1) := by decide +kernel
theorem dX6_nothingNow_26 : decode cX6_nothingNow 26 = .ok (.lcmp, 1) := by decide +kernel
theorem dX6_nothingNow_27 : decode cX6_nothingNow 27 = .ok (.ifCond .ne 10, 3) := by decide +kernel
theorem dX6_nothingNow_30 : decode cX6_nothingNow 30 = .ok (.iconst 1, 1) := by decide +kernel
theorem dX6_nothingNow_31 : decode cX6_nothingNow 31 = .ok (.iload 4, 2) := by decide +kernel
theorem dX6_nothingNow_33 : decode cX6_nothingNow 33 = .ok (.ishl, 1) := by decide +kernel
theorem dX6_nothingNow_34 : decode cX6_nothingNow 34 = .ok (.goto 4, 3) := by decide +kernel
theorem dX6_nothingNow_37 : decode cX6_nothingNow 37 = .ok (.iconst 0, 1) := by decide +kernel
theorem dX6_nothingNow_38 : decode cX6_nothingNow 38 = .ok (.ior, 1) := by decide +kernel
theorem dX6_nothingNow_39 : decode cX6_nothingNow 39 = .ok (.istore_n 3, 1) := by decide +kernel
theorem dX6_nothingNow_40 : decode cX6_nothingNow 40 = .ok (.iinc 4 1, 3) := by decide +kernel
theorem dX6_nothingNow_43 : decode cX6_nothingNow 43 = .ok (.goto (-32), 3) := by decide +kernel
theorem dX6_nothingNow_46 : decode cX6_nothingNow 46 = .ok (.iload_n 3, 1) := by decide +kernel
theorem dX6_nothingNow_47 : decode cX6_nothingNow 47 = .ok (.ireturn, 1) := by decide +kernel
set_option maxRecDepth 20000 in
theorem ggX6_nothing_X6_isAsk : GoodIn wsX6_nothing wsX6_isAsk := goodIn_r _ [6, 7, 8, 9, 5, 10, 59, 60, 61, 62, 63, 64, 65, 66, 67, 68, 69, 70, 71, 72, 73, 74, 75, 76, 77, 78, 79, 80, 81, 82, 83, 84, 85, 86, 87, 88, 89, 90, 91] (by decide +kernel) (by decide +kernel)
set_option maxRecDepth 20000 in
theorem gX6_nothing_X6_isAsk : GoodIn wsX6_nothing (wsV RX6 231 RX6 yX6_isAsk wsX6_isAsk) := goodIn_app (goodIn_of _ (by decide +kernel)) ggX6_nothing_X6_isAsk
set_option maxRecDepth 20000 in
theorem ggX6_nothing_X6_nothingNow : GoodIn wsX6_nothing wsX6_nothingNow := goodIn_r _ [14, 15, 16, 17, 18, 5, 19, 20, 21, 22, 23, 24, 25, 26, 7, 27, 28, 29, 30, 31, 8, 9, 10, 32, 33, 34, 35, 36, 37, 38, 39, 40, 41, 42, 43, 44, 45, 46, 47, 48, 49, 50, 51, 52, 53, 54, 55, 56, 57, 58, 59, 60, 61, 62, 63, 64, 65, 66, 67, 68, 69, 70, 71, 72, 73, 74, 75, 76, 77, 78, 79, 80, 81, 82, 83, 84, 85, 86, 87, 88, 89, 90, 91] (by decide +kernel) (by decide +kernel)
set_option maxRecDepth 20000 in
theorem gX6_nothing_X6_nothingNow : GoodIn wsX6_nothing (wsV RX6 248 RX6 yX6_nothingNow wsX6_nothingNow) := goodIn_app (goodIn_of _ (by decide +kernel)) ggX6_nothing_X6_nothingNow
theorem dX6_nothing_0 : decode cX6_nothing 0 = .ok (.aload_n 0, 1) := by decide +kernel
theorem dX6_nothing_1 : decode cX6_nothing 1 = .ok (.iload_n 1, 1) := by decide +kernel
theorem dX6_nothing_2 : decode cX6_nothing 2 = .ok (.iload_n 2, 1) := by decide +kernel
theorem dX6_nothing_3 : decode cX6_nothing 3 = .ok (.invokevirtual 231, 3) := by decide +kernel
theorem dX6_nothing_6 : decode cX6_nothing 6 = .ok (.ifCond .eq 12, 3) := by decide +kernel
theorem dX6_nothing_9 : decode cX6_nothing 9 = .ok (.aload_n 0, 1) := by decide +kernel
theorem dX6_nothing_10 : decode cX6_nothing 10 = .ok (.iload_n 1, 1) := by decide +kernel
theorem dX6_nothing_11 : decode cX6_nothing 11 = .ok (.iload_n 2, 1) := by decide +kernel
theorem dX6_nothing_12 : decode cX6_nothing 12 = .ok (.invokevirtual 248, 3) := by decide +kernel
theorem dX6_nothing_15 : decode cX6_nothing 15 = .ok (.goto 5, 3) := by decide +kernel
theorem dX6_nothing_18 : decode cX6_nothing 18 = .ok (.ldc 63, 2) := by decide +kernel
theorem dX6_nothing_20 : decode cX6_nothing 20 = .ok (.ireturn, 1) := by decide +kernel
theorem dX6_isWhole_0 : decode cX6_isWhole 0 = .ok (.iconst 1, 1) := by decide +kernel
theorem dX6_isWhole_1 : decode cX6_isWhole 1 = .ok (.istore_n 2, 1) := by decide +kernel
theorem dX6_isWhole_2 : decode cX6_isWhole 2 = .ok (.iconst 0, 1) := by decide +kernel
theorem dX6_isWhole_3 : decode cX6_isWhole 3 = .ok (.istore_n 3, 1) := by decide +kernel
theorem dX6_isWhole_4 : decode cX6_isWhole 4 = .ok (.iload_n 3, 1) := by decide +kernel
theorem dX6_isWhole_5 : decode cX6_isWhole 5 = .ok (.iload_n 1, 1) := by decide +kernel
theorem dX6_isWhole_6 : decode cX6_isWhole 6 = .ok (.if_icmp .ge 53, 3) := by decide +kernel
theorem dX6_isWhole_9 : decode cX6_isWhole 9 = .ok (.iload_n 2, 1) := by decide +kernel
theorem dX6_isWhole_10 : decode cX6_isWhole 10 = .ok (.ifCond .eq 41, 3) := by decide +kernel
theorem dX6_isWhole_13 : decode cX6_isWhole 13 = .ok (.aload_n 0, 1) := by decide +kernel
theorem dX6_isWhole_14 : decode cX6_isWhole 14 = .ok (.getfield 56, 3) := by decide +kernel
theorem dX6_isWhole_17 : decode cX6_isWhole 17 = .ok (.iload_n 3, 1) := by decide +kernel
theorem dX6_isWhole_18 : decode cX6_isWhole 18 = .ok (.laload, 1) := by decide +kernel
theorem dX6_isWhole_19 : decode cX6_isWhole 19 = .ok (.aload_n 0, 1) := by decide +kernel
theorem dX6_isWhole_20 : decode cX6_isWhole 20 = .ok (.getfield 207, 3) := by decide +kernel
theorem dX6_isWhole_23 : decode cX6_isWhole 23 = .ok (.lrem, 1) := by decide +kernel
theorem dX6_isWhole_24 : decode cX6_isWhole 24 = .ok (.lconst 0, 1) := by decide +kernel
theorem dX6_isWhole_25 : decode cX6_isWhole 25 = .ok (.lcmp, 1) := by decide +kernel
theorem dX6_isWhole_26 : decode cX6_isWhole 26 = .ok (.ifCond .ne 25, 3) := by decide +kernel
theorem dX6_isWhole_29 : decode cX6_isWhole 29 = .ok (.aload_n 0, 1) := by decide +kernel
theorem dX6_isWhole_30 : decode cX6_isWhole 30 = .ok (.getfield 56, 3) := by decide +kernel
theorem dX6_isWhole_33 : decode cX6_isWhole 33 = .ok (.iload_n 3, 1) := by decide +kernel
theorem dX6_isWhole_34 : decode cX6_isWhole 34 = .ok (.laload, 1) := by decide +kernel
theorem dX6_isWhole_35 : decode cX6_isWhole 35 = .ok (.aload_n 0, 1) := by decide +kernel
theorem dX6_isWhole_36 : decode cX6_isWhole 36 = .ok (.getfield 207, 3) := by decide +kernel
theorem dX6_isWhole_39 : decode cX6_isWhole 39 = .ok (.ldiv, 1) := by decide +kernel
theorem dX6_isWhole_40 : decode cX6_isWhole 40 = .ok (.ldc2_w 251, 3) := by decide +kernel
theorem dX6_isWhole_43 : decode cX6_isWhole 43 = .ok (.lcmp, 1) := by decide +kernel
theorem dX6_isWhole_44 : decode cX6_isWhole 44 = .ok (.ifCond .gt 7, 3) := by decide +kernel
theorem dX6_isWhole_47 : decode cX6_isWhole 47 = .ok (.iconst 1, 1) := by decide +kernel
theorem dX6_isWhole_48 : decode cX6_isWhole 48 = .ok (.goto 4, 3) := by decide +kernel
theorem dX6_isWhole_51 : decode cX6_isWhole 51 = .ok (.iconst 0, 1) := by decide +kernel
theorem dX6_isWhole_52 : decode cX6_isWhole 52 = .ok (.istore_n 2, 1) := by decide +kernel
theorem dX6_isWhole_53 : decode cX6_isWhole 53 = .ok (.iinc 3 1, 3) := by decide +kernel
theorem dX6_isWhole_56 : decode cX6_isWhole 56 = .ok (.goto (-52), 3) := by decide +kernel
theorem dX6_isWhole_59 : decode cX6_isWhole 59 = .ok (.iload_n 2, 1) := by decide +kernel
theorem dX6_isWhole_60 : decode cX6_isWhole 60 = .ok (.ireturn, 1) := by decide +kernel
set_option maxRecDepth 20000 in
theorem ggX6_keep_X6_isAsk : GoodIn wsX6_keep wsX6_isAsk := goodIn_r _ [15, 16, 17, 18, 14, 19, 74, 75, 76, 77, 78, 79, 80, 81, 82, 83, 84, 85, 86, 87, 88, 89, 90, 91, 92, 93, 94, 95, 96, 97, 98, 99, 100, 101, 102, 103, 104, 105, 106] (by decide +kernel) (by decide +kernel)
set_option maxRecDepth 20000 in
theorem gX6_keep_X6_isAsk : GoodIn wsX6_keep (wsV RX6 231 RX6 yX6_isAsk wsX6_isAsk) := goodIn_app (goodIn_of _ (by decide +kernel)) ggX6_keep_X6_isAsk
set_option maxRecDepth 20000 in
theorem ggX6_keep_X6_within : GoodIn wsX6_keep wsX6_within := goodIn_r _ [19] (by decide +kernel) (by decide +kernel)
set_option maxRecDepth 20000 in
theorem gX6_keep_X6_within : GoodIn wsX6_keep (va_wsS RX6 59 yX6_within wsX6_within) := goodIn_app (goodIn_of _ (by decide +kernel)) ggX6_keep_X6_within
set_option maxRecDepth 20000 in
theorem ggX6_keep_X6_layBest : GoodIn wsX6_keep wsX6_layBest := goodIn_r _ [23, 24, 25, 26, 14, 27, 28, 29, 30, 16, 31, 32, 33, 34, 35, 17, 18, 19, 36, 37, 38, 39, 40, 41, 42, 43, 44, 8, 45, 46, 9, 47, 48, 49, 50, 51, 52, 53, 54, 55, 56, 57, 58, 59, 60, 61, 74, 75, 76, 77, 78, 79, 80, 81, 82, 83, 84, 85, 86, 87, 88, 89, 90, 91, 92, 93, 94, 95, 96, 97, 98, 99, 100, 101, 102, 103, 104, 105, 106] (by decide +kernel) (by decide +kernel)
set_option maxRecDepth 20000 in
theorem gX6_keep_X6_layBest : GoodIn wsX6_keep (wsV RX6 228 RX6 yX6_layBest wsX6_layBest) := goodIn_app (goodIn_of _ (by decide +kernel)) ggX6_keep_X6_layBest
set_option maxRecDepth 20000 in
theorem ggX6_keep_X6_isWhole : GoodIn wsX6_keep wsX6_isWhole := goodIn_r _ [65, 8, 9, 66, 74, 75, 76, 77, 78, 79, 80, 81, 82, 83, 84, 85, 86, 87, 88, 89, 90, 91, 92, 93, 94, 95, 96, 97, 98, 99, 100, 101, 102, 103, 104, 105, 106] (by decide +kernel) (by decide +kernel)
set_option maxRecDepth 20000 in
theorem gX6_keep_X6_isWhole : GoodIn wsX6_keep (wsV RX6 253 RX6 yX6_isWhole wsX6_isWhole) := goodIn_app (goodIn_of _ (by decide +kernel)) ggX6_keep_X6_isWhole
set_option maxRecDepth 20000 in
theorem ggX6_keep_X6_takeUnit : GoodIn wsX6_keep wsX6_takeUnit := goodIn_r _ [70, 71, 3, 5, 72, 6, 73, 7, 74, 75, 76, 77, 78, 79, 80, 81, 82, 83, 84, 85, 86, 87, 88, 89, 90, 91, 92, 93, 94, 95, 96, 97, 98, 99, 100, 101, 102, 103, 104, 105, 106] (by decide +kernel) (by decide +kernel)
set_option maxRecDepth 20000 in
theorem gX6_keep_X6_takeUnit : GoodIn wsX6_keep (wsV RX6 124 RX6 yX6_takeUnit wsX6_takeUnit) := goodIn_app (goodIn_of _ (by decide +kernel)) ggX6_keep_X6_takeUnit
theorem dX6_keep_0 : decode cX6_keep 0 = .ok (.aload_n 0, 1) := by decide +kernel
theorem dX6_keep_1 : decode cX6_keep 1 = .ok (.iload_n 1, 1) := by decide +kernel
theorem dX6_keep_2 : decode cX6_keep 2 = .ok (.iload_n 2, 1) := by decide +kernel
theorem dX6_keep_3 : decode cX6_keep 3 = .ok (.invokevirtual 231, 3) := by decide +kernel
theorem dX6_keep_6 : decode cX6_keep 6 = .ok (.ifCond .eq 12, 3) := by decide +kernel
theorem dX6_keep_9 : decode cX6_keep 9 = .ok (.iload_n 3, 1) := by decide +kernel
theorem dX6_keep_10 : decode cX6_keep 10 = .ok (.iconst 1, 1) := by decide +kernel
theorem dX6_keep_11 : decode cX6_keep 11 = .ok (.iconst 4, 1) := by decide +kernel
theorem dX6_keep_12 : decode cX6_keep 12 = .ok (.invokestatic 59, 3) := by decide +kernel
theorem dX6_keep_15 : decode cX6_keep 15 = .ok (.ifCond .ne 6, 3) := by decide +kernel
theorem dX6_keep_18 : decode cX6_keep 18 = .ok (.ldc 63, 2) := by decide +kernel
theorem dX6_keep_20 : decode cX6_keep 20 = .ok (.ireturn, 1) := by decide +kernel
theorem dX6_keep_21 : decode cX6_keep 21 = .ok (.aload_n 0, 1) := by decide +kernel
theorem dX6_keep_22 : decode cX6_keep 22 = .ok (.iload_n 1, 1) := by decide +kernel
theorem dX6_keep_23 : decode cX6_keep 23 = .ok (.iload_n 2, 1) := by decide +kernel
theorem dX6_keep_24 : decode cX6_keep 24 = .ok (.invokevirtual 228, 3) := by decide +kernel
theorem dX6_keep_27 : decode cX6_keep 27 = .ok (.aload_n 0, 1) := by decide +kernel
theorem dX6_keep_28 : decode cX6_keep 28 = .ok (.iload_n 2, 1) := by decide +kernel
theorem dX6_keep_29 : decode cX6_keep 29 = .ok (.invokevirtual 253, 3) := by decide +kernel
theorem dX6_keep_32 : decode cX6_keep 32 = .ok (.ifCond .ne 6, 3) := by decide +kernel
theorem dX6_keep_35 : decode cX6_keep 35 = .ok (.ldc 120, 2) := by decide +kernel
theorem dX6_keep_37 : decode cX6_keep 37 = .ok (.ireturn, 1) := by decide +kernel
theorem dX6_keep_38 : decode cX6_keep 38 = .ok (.aload_n 0, 1) := by decide +kernel
theorem dX6_keep_39 : decode cX6_keep 39 = .ok (.getfield 117, 3) := by decide +kernel
theorem dX6_keep_42 : decode cX6_keep 42 = .ok (.iconst 4, 1) := by decide +kernel
theorem dX6_keep_43 : decode cX6_keep 43 = .ok (.if_icmp .ne 6, 3) := by decide +kernel
theorem dX6_keep_46 : decode cX6_keep 46 = .ok (.ldc 68, 2) := by decide +kernel
theorem dX6_keep_48 : decode cX6_keep 48 = .ok (.ireturn, 1) := by decide +kernel
theorem dX6_keep_49 : decode cX6_keep 49 = .ok (.aload_n 0, 1) := by decide +kernel
theorem dX6_keep_50 : decode cX6_keep 50 = .ok (.iload_n 3, 1) := by decide +kernel
theorem dX6_keep_51 : decode cX6_keep 51 = .ok (.putfield 101, 3) := by decide +kernel
theorem dX6_keep_54 : decode cX6_keep 54 = .ok (.aload_n 0, 1) := by decide +kernel
theorem dX6_keep_55 : decode cX6_keep 55 = .ok (.iload_n 2, 1) := by decide +kernel
theorem dX6_keep_56 : decode cX6_keep 56 = .ok (.putfield 85, 3) := by decide +kernel
theorem dX6_keep_59 : decode cX6_keep 59 = .ok (.iconst 0, 1) := by decide +kernel
theorem dX6_keep_60 : decode cX6_keep 60 = .ok (.istore 4, 2) := by decide +kernel
theorem dX6_keep_62 : decode cX6_keep 62 = .ok (.iload 4, 2) := by decide +kernel
theorem dX6_keep_64 : decode cX6_keep 64 = .ok (.iload_n 2, 1) := by decide +kernel
theorem dX6_keep_65 : decode cX6_keep 65 = .ok (.if_icmp .ge 29, 3) := by decide +kernel
theorem dX6_keep_68 : decode cX6_keep 68 = .ok (.aload_n 0, 1) := by decide +kernel
theorem dX6_keep_69 : decode cX6_keep 69 = .ok (.getfield 37, 3) := by decide +kernel
theorem dX6_keep_72 : decode cX6_keep 72 = .ok (.iload 4, 2) := by decide +kernel
theorem dX6_keep_74 : decode cX6_keep 74 = .ok (.aload_n 0, 1) := by decide +kernel
theorem dX6_keep_75 : decode cX6_keep 75 = .ok (.getfield 56, 3) := by decide +kernel
theorem dX6_keep_78 : decode cX6_keep 78 = .ok (.iload 4, 2) := by decide +kernel
theorem dX6_keep_80 : decode cX6_keep 80 = .ok (.laload, 1) := by decide +kernel
theorem dX6_keep_81 : decode cX6_keep 81 = .ok (.aload_n 0, 1) := by decide +kernel
theorem dX6_keep_82 : decode cX6_keep 82 = .ok (.getfield 207, 3) := by decide +kernel
theorem dX6_keep_85 : decode cX6_keep 85 = .ok (.ldiv, 1) := by decide +kernel
theorem dX6_keep_86 : decode cX6_keep 86 = .ok (.l2i, 1) := by decide +kernel
theorem dX6_keep_87 : decode cX6_keep 87 = .ok (.iastore, 1) := by decide +kernel
theorem dX6_keep_88 : decode cX6_keep 88 = .ok (.iinc 4 1, 3) := by decide +kernel
theorem dX6_keep_91 : decode cX6_keep 91 = .ok (.goto (-29), 3) := by decide +kernel
theorem dX6_keep_94 : decode cX6_keep 94 = .ok (.aload_n 0, 1) := by decide +kernel
theorem dX6_keep_95 : decode cX6_keep 95 = .ok (.dup, 1) := by decide +kernel
theorem dX6_keep_96 : decode cX6_keep 96 = .ok (.getfield 256, 3) := by decide +kernel
theorem dX6_keep_99 : decode cX6_keep 99 = .ok (.iconst 1, 1) := by decide +kernel
theorem dX6_keep_100 : decode cX6_keep 100 = .ok (.iadd, 1) := by decide +kernel
theorem dX6_keep_101 : decode cX6_keep 101 = .ok (.putfield 256, 3) := by decide +kernel
theorem dX6_keep_104 : decode cX6_keep 104 = .ok (.aload_n 0, 1) := by decide +kernel
theorem dX6_keep_105 : decode cX6_keep 105 = .ok (.invokevirtual 124, 3) := by decide +kernel
theorem dX6_keep_108 : decode cX6_keep 108 = .ok (.ireturn, 1) := by decide +kernel
theorem dX6_howMany_0 : decode cX6_howMany 0 = .ok (.iload_n 1, 1) := by decide +kernel
theorem dX6_howMany_1 : decode cX6_howMany 1 = .ok (.tableswitch 69 0 5 #[39, 44, 49, 54, 59, 64], 39) := by decide +kernel
theorem dX6_howMany_40 : decode cX6_howMany 40 = .ok (.aload_n 0, 1) := by decide +kernel
theorem dX6_howMany_41 : decode cX6_howMany 41 = .ok (.getfield 114, 3) := by decide +kernel
theorem dX6_howMany_44 : decode cX6_howMany 44 = .ok (.ireturn, 1) := by decide +kernel
theorem dX6_howMany_45 : decode cX6_howMany 45 = .ok (.aload_n 0, 1) := by decide +kernel
theorem dX6_howMany_46 : decode cX6_howMany 46 = .ok (.getfield 117, 3) := by decide +kernel
theorem dX6_howMany_49 : decode cX6_howMany 49 = .ok (.ireturn, 1) := by decide +kernel
theorem dX6_howMany_50 : decode cX6_howMany 50 = .ok (.aload_n 0, 1) := by decide +kernel
theorem dX6_howMany_51 : decode cX6_howMany 51 = .ok (.getfield 64, 3) := by decide +kernel
theorem dX6_howMany_54 : decode cX6_howMany 54 = .ok (.ireturn, 1) := by decide +kernel
theorem dX6_howMany_55 : decode cX6_howMany 55 = .ok (.aload_n 0, 1) := by decide +kernel
theorem dX6_howMany_56 : decode cX6_howMany 56 = .ok (.getfield 121, 3) := by decide +kernel
theorem dX6_howMany_59 : decode cX6_howMany 59 = .ok (.ireturn, 1) := by decide +kernel
theorem dX6_howMany_60 : decode cX6_howMany 60 = .ok (.aload_n 0, 1) := by decide +kernel
theorem dX6_howMany_61 : decode cX6_howMany 61 = .ok (.getfield 137, 3) := by decide +kernel
theorem dX6_howMany_64 : decode cX6_howMany 64 = .ok (.ireturn, 1) := by decide +kernel
theorem dX6_howMany_65 : decode cX6_howMany 65 = .ok (.aload_n 0, 1) := by decide +kernel
theorem dX6_howMany_66 : decode cX6_howMany 66 = .ok (.getfield 256, 3) := by decide +kernel
theorem dX6_howMany_69 : decode cX6_howMany 69 = .ok (.ireturn, 1) := by decide +kernel
theorem dX6_howMany_70 : decode cX6_howMany 70 = .ok (.ldc 63, 2) := by decide +kernel
theorem dX6_howMany_72 : decode cX6_howMany 72 = .ok (.ireturn, 1) := by decide +kernel
set_option maxRecDepth 20000 in
theorem ggX6_count_X6_howMany : GoodIn wsX6_count wsX6_howMany := goodIn_r _ [5, 6, 7, 8, 9, 10, 11, 12, 13, 14, 15, 16, 17, 18, 19, 20, 21, 22, 23, 24, 25, 26, 27, 28, 29, 30, 31, 32, 33, 34, 35, 36, 37, 38, 39, 40, 41, 42, 43, 44, 45] (by decide +kernel) (by decide +kernel)
set_option maxRecDepth 20000 in
theorem gX6_count_X6_howMany : GoodIn wsX6_count (wsV RX6 259 RX6 yX6_howMany wsX6_howMany) := goodIn_app (goodIn_of _ (by decide +kernel)) ggX6_count_X6_howMany
theorem dX6_count_0 : decode cX6_count 0 = .ok (.aload_n 0, 1) := by decide +kernel
theorem dX6_count_1 : decode cX6_count 1 = .ok (.iload_n 1, 1) := by decide +kernel
theorem dX6_count_2 : decode cX6_count 2 = .ok (.invokevirtual 259, 3) := by decide +kernel
theorem dX6_count_5 : decode cX6_count 5 = .ok (.ireturn, 1) := by decide +kernel
theorem dX6_mix_0 : decode cX6_mix 0 = .ok (.aload_n 0, 1) := by decide +kernel
theorem dX6_mix_1 : decode cX6_mix 1 = .ok (.ldc2_w 262, 3) := by decide +kernel
theorem dX6_mix_4 : decode cX6_mix 4 = .ok (.aload_n 0, 1) := by decide +kernel
theorem dX6_mix_5 : decode cX6_mix 5 = .ok (.getfield 264, 3) := by decide +kernel
theorem dX6_mix_8 : decode cX6_mix 8 = .ok (.lmul, 1) := by decide +kernel
theorem dX6_mix_9 : decode cX6_mix 9 = .ok (.lload_n 1, 1) := by decide +kernel
theorem dX6_mix_10 : decode cX6_mix 10 = .ok (.ladd, 1) := by decide +kernel
theorem dX6_mix_11 : decode cX6_mix 11 = .ok (.putfield 264, 3) := by decide +kernel
theorem dX6_mix_14 : decode cX6_mix 14 = .ok (.return_, 1) := by decide +kernel
set_option maxRecDepth 20000 in
theorem ggX6_mixStorm_X6_within : GoodIn wsX6_mixStorm wsX6_within := goodIn_r _ [4] (by decide +kernel) (by decide +kernel)
set_option maxRecDepth 20000 in
theorem gX6_mixStorm_X6_within : GoodIn wsX6_mixStorm (va_wsS RX6 59 yX6_within wsX6_within) := goodIn_app (goodIn_of _ (by decide +kernel)) ggX6_mixStorm_X6_within
set_option maxRecDepth 20000 in
theorem ggX6_mixStorm_X6_stormNow : GoodIn wsX6_mixStorm wsX6_stormNow := goodIn_r _ [8, 9, 10, 11, 12, 13, 3, 14, 15, 16, 17, 18, 19, 1, 2, 4, 20, 21, 22, 23, 24, 25, 26, 27, 28, 46, 47, 48, 49, 50, 51, 52, 53, 54, 55, 56, 57, 58, 59, 60, 61, 62, 63, 64, 65, 66, 67, 68, 69, 70, 71, 72, 73, 74, 75, 76, 77, 78] (by decide +kernel) (by decide +kernel)
set_option maxRecDepth 20000 in
theorem gX6_mixStorm_X6_stormNow : GoodIn wsX6_mixStorm (wsV RX6 160 RX6 yX6_stormNow wsX6_stormNow) := goodIn_app (goodIn_of _ (by decide +kernel)) ggX6_mixStorm_X6_stormNow
set_option maxRecDepth 20000 in
theorem ggX6_mixStorm_X6_mix : GoodIn wsX6_mixStorm wsX6_mix := goodIn_r _ [32, 33, 34, 46, 47, 48, 49, 50, 51, 52, 53, 54, 55, 56, 57, 58, 59, 60, 61, 62, 63, 64, 65, 66, 67, 68, 69, 70, 71, 72, 73, 74, 75, 76, 77, 78] (by decide +kernel) (by decide +kernel)
set_option maxRecDepth 20000 in
theorem gX6_mixStorm_X6_mix : GoodIn wsX6_mixStorm (wsV RX6 267 RX6 yX6_mix wsX6_mix) := goodIn_app (goodIn_of _ (by decide +kernel)) ggX6_mixStorm_X6_mix
set_option maxRecDepth 20000 in
theorem ggX6_mixStorm_X6_dividedNow : GoodIn wsX6_mixStorm wsX6_dividedNow := goodIn_r _ [38, 39, 40, 41, 42, 43, 44, 3, 45, 10, 9, 24, 25, 26, 27, 28, 1, 2, 4, 15, 16, 17, 18, 19, 46, 47, 48, 49, 50, 51, 52, 53, 54, 55, 56, 57, 58, 59, 60, 61, 62, 63, 64, 65, 66, 67, 68, 69, 70, 71, 72, 73, 74, 75, 76, 77, 78] (by decide +kernel) (by decide +kernel)
set_option maxRecDepth 20000 in
theorem gX6_mixStorm_X6_dividedNow : GoodIn wsX6_mixStorm (wsV RX6 170 RX6 yX6_dividedNow wsX6_dividedNow) := goodIn_app (goodIn_of _ (by decide +kernel)) ggX6_mixStorm_X6_dividedNow
theorem dX6_mixStorm_0 : decode cX6_mixStorm 0 = .ok (.iconst 0, 1) := by decide +kernel
theorem dX6_mixStorm_1 : decode cX6_mixStorm 1 = .ok (.istore_n 2, 1) := by decide +kernel
theorem dX6_mixStorm_2 : decode cX6_mixStorm 2 = .ok (.iload_n 2, 1) := by decide +kernel
theorem dX6_mixStorm_3 : decode cX6_mixStorm 3 = .ok (.bipush 28, 2) := by decide +kernel
theorem dX6_mixStorm_5 : decode cX6_mixStorm 5 = .ok (.if_icmp .ge 42, 3) := by decide +kernel
theorem dX6_mixStorm_8 : decode cX6_mixStorm 8 = .ok (.iload_n 2, 1) := by decide +kernel
theorem dX6_mixStorm_9 : decode cX6_mixStorm 9 = .ok (.iconst 4, 1) := by decide +kernel
theorem dX6_mixStorm_10 : decode cX6_mixStorm 10 = .ok (.if_icmp .lt 20, 3) := by decide +kernel
theorem dX6_mixStorm_13 : decode cX6_mixStorm 13 = .ok (.iload_n 2, 1) := by decide +kernel
theorem dX6_mixStorm_14 : decode cX6_mixStorm 14 = .ok (.bipush 10, 2) := by decide +kernel
theorem dX6_mixStorm_16 : decode cX6_mixStorm 16 = .ok (.bipush 12, 2) := by decide +kernel
theorem dX6_mixStorm_18 : decode cX6_mixStorm 18 = .ok (.invokestatic 59, 3) := by decide +kernel
theorem dX6_mixStorm_21 : decode cX6_mixStorm 21 = .ok (.ifCond .ne 9, 3) := by decide +kernel
theorem dX6_mixStorm_24 : decode cX6_mixStorm 24 = .ok (.iload_n 2, 1) := by decide +kernel
theorem dX6_mixStorm_25 : decode cX6_mixStorm 25 = .ok (.bipush 19, 2) := by decide +kernel
theorem dX6_mixStorm_27 : decode cX6_mixStorm 27 = .ok (.if_icmp .le 14, 3) := by decide +kernel
theorem dX6_mixStorm_30 : decode cX6_mixStorm 30 = .ok (.aload_n 0, 1) := by decide +kernel
theorem dX6_mixStorm_31 : decode cX6_mixStorm 31 = .ok (.aload_n 0, 1) := by decide +kernel
theorem dX6_mixStorm_32 : decode cX6_mixStorm 32 = .ok (.iload_n 1, 1) := by decide +kernel
theorem dX6_mixStorm_33 : decode cX6_mixStorm 33 = .ok (.iload_n 2, 1) := by decide +kernel
theorem dX6_mixStorm_34 : decode cX6_mixStorm 34 = .ok (.invokevirtual 160, 3) := by decide +kernel
theorem dX6_mixStorm_37 : decode cX6_mixStorm 37 = .ok (.i2l, 1) := by decide +kernel
theorem dX6_mixStorm_38 : decode cX6_mixStorm 38 = .ok (.invokevirtual 267, 3) := by decide +kernel
theorem dX6_mixStorm_41 : decode cX6_mixStorm 41 = .ok (.iinc 2 1, 3) := by decide +kernel
theorem dX6_mixStorm_44 : decode cX6_mixStorm 44 = .ok (.goto (-42), 3) := by decide +kernel
theorem dX6_mixStorm_47 : decode cX6_mixStorm 47 = .ok (.aload_n 0, 1) := by decide +kernel
theorem dX6_mixStorm_48 : decode cX6_mixStorm 48 = .ok (.aload_n 0, 1) := by decide +kernel
theorem dX6_mixStorm_49 : decode cX6_mixStorm 49 = .ok (.iload_n 1, 1) := by decide +kernel
theorem dX6_mixStorm_50 : decode cX6_mixStorm 50 = .ok (.iconst 0, 1) := by decide +kernel
theorem dX6_mixStorm_51 : decode cX6_mixStorm 51 = .ok (.invokevirtual 170, 3) := by decide +kernel
theorem dX6_mixStorm_54 : decode cX6_mixStorm 54 = .ok (.i2l, 1) := by decide +kernel
theorem dX6_mixStorm_55 : decode cX6_mixStorm 55 = .ok (.invokevirtual 267, 3) := by decide +kernel
theorem dX6_mixStorm_58 : decode cX6_mixStorm 58 = .ok (.bipush 10, 2) := by decide +kernel
theorem dX6_mixStorm_60 : decode cX6_mixStorm 60 = .ok (.istore_n 2, 1) := by decide +kernel
theorem dX6_mixStorm_61 : decode cX6_mixStorm 61 = .ok (.iload_n 2, 1) := by decide +kernel
theorem dX6_mixStorm_62 : decode cX6_mixStorm 62 = .ok (.bipush 18, 2) := by decide +kernel
theorem dX6_mixStorm_64 : decode cX6_mixStorm 64 = .ok (.if_icmp .ge 20, 3) := by decide +kernel
theorem dX6_mixStorm_67 : decode cX6_mixStorm 67 = .ok (.aload_n 0, 1) := by decide +kernel
theorem dX6_mixStorm_68 : decode cX6_mixStorm 68 = .ok (.aload_n 0, 1) := by decide +kernel
theorem dX6_mixStorm_69 : decode cX6_mixStorm 69 = .ok (.iload_n 1, 1) := by decide +kernel
theorem dX6_mixStorm_70 : decode cX6_mixStorm 70 = .ok (.iload_n 2, 1) := by decide +kernel
theorem dX6_mixStorm_71 : decode cX6_mixStorm 71 = .ok (.invokevirtual 170, 3) := by decide +kernel
theorem dX6_mixStorm_74 : decode cX6_mixStorm 74 = .ok (.i2l, 1) := by decide +kernel
theorem dX6_mixStorm_75 : decode cX6_mixStorm 75 = .ok (.invokevirtual 267, 3) := by decide +kernel
theorem dX6_mixStorm_78 : decode cX6_mixStorm 78 = .ok (.iinc 2 1, 3) := by decide +kernel
theorem dX6_mixStorm_81 : decode cX6_mixStorm 81 = .ok (.goto (-20), 3) := by decide +kernel
theorem dX6_mixStorm_84 : decode cX6_mixStorm 84 = .ok (.return_, 1) := by decide +kernel
set_option maxRecDepth 20000 in
theorem ggX6_mixUnits_X6_unitNow : GoodIn wsX6_mixUnits wsX6_unitNow := goodIn_r _ [7, 8, 9, 10, 11, 12, 6, 13, 14, 15, 16, 17, 18, 19, 20, 21, 46, 47, 48, 49, 50, 51, 52, 53, 54, 55, 56, 57, 58, 59, 60, 61, 62, 63, 64, 65, 66, 67, 68, 69, 70, 71, 72, 73, 74, 75, 76, 77, 78] (by decide +kernel) (by decide +kernel)
set_option maxRecDepth 20000 in
theorem gX6_mixUnits_X6_unitNow : GoodIn wsX6_mixUnits (wsV RX6 179 RX6 yX6_unitNow wsX6_unitNow) := goodIn_app (goodIn_of _ (by decide +kernel)) ggX6_mixUnits_X6_unitNow
set_option maxRecDepth 20000 in
theorem ggX6_mixUnits_X6_mix : GoodIn wsX6_mixUnits wsX6_mix := goodIn_r _ [25, 26, 27, 46, 47, 48, 49, 50, 51, 52, 53, 54, 55, 56, 57, 58, 59, 60, 61, 62, 63, 64, 65, 66, 67, 68, 69, 70, 71, 72, 73, 74, 75, 76, 77, 78] (by decide +kernel) (by decide +kernel)
set_option maxRecDepth 20000 in
theorem gX6_mixUnits_X6_mix : GoodIn wsX6_mixUnits (wsV RX6 267 RX6 yX6_mix wsX6_mix) := goodIn_app (goodIn_of _ (by decide +kernel)) ggX6_mixUnits_X6_mix
set_option maxRecDepth 20000 in
theorem ggX6_mixUnits_X6_missedNow : GoodIn wsX6_mixUnits wsX6_missedNow := goodIn_r _ [31, 32, 33, 34, 6, 35, 36, 37, 38, 39, 40, 19, 20, 21, 14, 15, 16, 17, 18, 41, 42, 43, 44, 45, 46, 47, 48, 49, 50, 51, 52, 53, 54, 55, 56, 57, 58, 59, 60, 61, 62, 63, 64, 65, 66, 67, 68, 69, 70, 71, 72, 73, 74, 75, 76, 77, 78] (by decide +kernel) (by decide +kernel)
set_option maxRecDepth 20000 in
theorem gX6_mixUnits_X6_missedNow : GoodIn wsX6_mixUnits (wsV RX6 186 RX6 yX6_missedNow wsX6_missedNow) := goodIn_app (goodIn_of _ (by decide +kernel)) ggX6_mixUnits_X6_missedNow
theorem dX6_mixUnits_0 : decode cX6_mixUnits 0 = .ok (.iconst 0, 1) := by decide +kernel
theorem dX6_mixUnits_1 : decode cX6_mixUnits 1 = .ok (.istore_n 1, 1) := by decide +kernel
theorem dX6_mixUnits_2 : decode cX6_mixUnits 2 = .ok (.iload_n 1, 1) := by decide +kernel
theorem dX6_mixUnits_3 : decode cX6_mixUnits 3 = .ok (.aload_n 0, 1) := by decide +kernel
theorem dX6_mixUnits_4 : decode cX6_mixUnits 4 = .ok (.getfield 117, 3) := by decide +kernel
theorem dX6_mixUnits_7 : decode cX6_mixUnits 7 = .ok (.if_icmp .ge 45, 3) := by decide +kernel
theorem dX6_mixUnits_10 : decode cX6_mixUnits 10 = .ok (.iconst 0, 1) := by decide +kernel
theorem dX6_mixUnits_11 : decode cX6_mixUnits 11 = .ok (.istore_n 2, 1) := by decide +kernel
theorem dX6_mixUnits_12 : decode cX6_mixUnits 12 = .ok (.iload_n 2, 1) := by decide +kernel
theorem dX6_mixUnits_13 : decode cX6_mixUnits 13 = .ok (.bipush 18, 2) := by decide +kernel
theorem dX6_mixUnits_15 : decode cX6_mixUnits 15 = .ok (.if_icmp .ge 31, 3) := by decide +kernel
theorem dX6_mixUnits_18 : decode cX6_mixUnits 18 = .ok (.iload_n 2, 1) := by decide +kernel
theorem dX6_mixUnits_19 : decode cX6_mixUnits 19 = .ok (.iconst 3, 1) := by decide +kernel
theorem dX6_mixUnits_20 : decode cX6_mixUnits 20 = .ok (.if_icmp .lt 9, 3) := by decide +kernel
theorem dX6_mixUnits_23 : decode cX6_mixUnits 23 = .ok (.iload_n 2, 1) := by decide +kernel
theorem dX6_mixUnits_24 : decode cX6_mixUnits 24 = .ok (.bipush 9, 2) := by decide +kernel
theorem dX6_mixUnits_26 : decode cX6_mixUnits 26 = .ok (.if_icmp .le 14, 3) := by decide +kernel
theorem dX6_mixUnits_29 : decode cX6_mixUnits 29 = .ok (.aload_n 0, 1) := by decide +kernel
theorem dX6_mixUnits_30 : decode cX6_mixUnits 30 = .ok (.aload_n 0, 1) := by decide +kernel
theorem dX6_mixUnits_31 : decode cX6_mixUnits 31 = .ok (.iload_n 1, 1) := by decide +kernel
theorem dX6_mixUnits_32 : decode cX6_mixUnits 32 = .ok (.iload_n 2, 1) := by decide +kernel
theorem dX6_mixUnits_33 : decode cX6_mixUnits 33 = .ok (.invokevirtual 179, 3) := by decide +kernel
theorem dX6_mixUnits_36 : decode cX6_mixUnits 36 = .ok (.i2l, 1) := by decide +kernel
theorem dX6_mixUnits_37 : decode cX6_mixUnits 37 = .ok (.invokevirtual 267, 3) := by decide +kernel
theorem dX6_mixUnits_40 : decode cX6_mixUnits 40 = .ok (.iinc 2 1, 3) := by decide +kernel
theorem dX6_mixUnits_43 : decode cX6_mixUnits 43 = .ok (.goto (-31), 3) := by decide +kernel
theorem dX6_mixUnits_46 : decode cX6_mixUnits 46 = .ok (.iinc 1 1, 3) := by decide +kernel
theorem dX6_mixUnits_49 : decode cX6_mixUnits 49 = .ok (.goto (-47), 3) := by decide +kernel
theorem dX6_mixUnits_52 : decode cX6_mixUnits 52 = .ok (.iconst 0, 1) := by decide +kernel
theorem dX6_mixUnits_53 : decode cX6_mixUnits 53 = .ok (.istore_n 1, 1) := by decide +kernel
theorem dX6_mixUnits_54 : decode cX6_mixUnits 54 = .ok (.iload_n 1, 1) := by decide +kernel
theorem dX6_mixUnits_55 : decode cX6_mixUnits 55 = .ok (.aload_n 0, 1) := by decide +kernel
theorem dX6_mixUnits_56 : decode cX6_mixUnits 56 = .ok (.getfield 117, 3) := by decide +kernel
theorem dX6_mixUnits_59 : decode cX6_mixUnits 59 = .ok (.if_icmp .ge 36, 3) := by decide +kernel
theorem dX6_mixUnits_62 : decode cX6_mixUnits 62 = .ok (.iconst 0, 1) := by decide +kernel
theorem dX6_mixUnits_63 : decode cX6_mixUnits 63 = .ok (.istore_n 2, 1) := by decide +kernel
theorem dX6_mixUnits_64 : decode cX6_mixUnits 64 = .ok (.iload_n 2, 1) := by decide +kernel
theorem dX6_mixUnits_65 : decode cX6_mixUnits 65 = .ok (.aload_n 0, 1) := by decide +kernel
theorem dX6_mixUnits_66 : decode cX6_mixUnits 66 = .ok (.getfield 114, 3) := by decide +kernel
theorem dX6_mixUnits_69 : decode cX6_mixUnits 69 = .ok (.if_icmp .ge 20, 3) := by decide +kernel
theorem dX6_mixUnits_72 : decode cX6_mixUnits 72 = .ok (.aload_n 0, 1) := by decide +kernel
theorem dX6_mixUnits_73 : decode cX6_mixUnits 73 = .ok (.aload_n 0, 1) := by decide +kernel
theorem dX6_mixUnits_74 : decode cX6_mixUnits 74 = .ok (.iload_n 1, 1) := by decide +kernel
theorem dX6_mixUnits_75 : decode cX6_mixUnits 75 = .ok (.iload_n 2, 1) := by decide +kernel
theorem dX6_mixUnits_76 : decode cX6_mixUnits 76 = .ok (.invokevirtual 186, 3) := by decide +kernel
theorem dX6_mixUnits_79 : decode cX6_mixUnits 79 = .ok (.i2l, 1) := by decide +kernel
theorem dX6_mixUnits_80 : decode cX6_mixUnits 80 = .ok (.invokevirtual 267, 3) := by decide +kernel
theorem dX6_mixUnits_83 : decode cX6_mixUnits 83 = .ok (.iinc 2 1, 3) := by decide +kernel
theorem dX6_mixUnits_86 : decode cX6_mixUnits 86 = .ok (.goto (-22), 3) := by decide +kernel
theorem dX6_mixUnits_89 : decode cX6_mixUnits 89 = .ok (.iinc 1 1, 3) := by decide +kernel
theorem dX6_mixUnits_92 : decode cX6_mixUnits 92 = .ok (.goto (-38), 3) := by decide +kernel
theorem dX6_mixUnits_95 : decode cX6_mixUnits 95 = .ok (.return_, 1) := by decide +kernel
set_option maxRecDepth 20000 in
theorem ggX6_mixBest_X6_bestNow : GoodIn wsX6_mixBest wsX6_bestNow := goodIn_r _ [5, 6, 7, 8, 9, 10, 4, 11, 12, 13, 14, 15, 16, 17, 18, 19, 20, 21, 22, 23, 24, 25, 26, 27, 28, 29, 30, 31, 32, 33, 34, 35, 36, 37, 38, 39, 40, 41, 42, 43, 44, 45, 46, 47, 48, 49, 50, 51, 52, 53, 54, 55, 56, 57, 58, 59, 70, 71, 72, 73, 74, 75, 76, 77, 78, 79, 80, 81, 82, 83, 84, 85, 86, 87, 88, 89, 90, 91, 92, 93, 94, 95, 96, 97, 98, 99, 100, 101, 102] (by decide +kernel) (by decide +kernel)
set_option maxRecDepth 20000 in
theorem gX6_mixBest_X6_bestNow : GoodIn wsX6_mixBest (wsV RX6 235 RX6 yX6_bestNow wsX6_bestNow) := goodIn_app (goodIn_of _ (by decide +kernel)) ggX6_mixBest_X6_bestNow
set_option maxRecDepth 20000 in
theorem ggX6_mixBest_X6_mix : GoodIn wsX6_mixBest wsX6_mix := goodIn_r _ [63, 64, 65, 70, 71, 72, 73, 74, 75, 76, 77, 78, 79, 80, 81, 82, 83, 84, 85, 86, 87, 88, 89, 90, 91, 92, 93, 94, 95, 96, 97, 98, 99, 100, 101, 102] (by decide +kernel) (by decide +kernel)
set_option maxRecDepth 20000 in
theorem gX6_mixBest_X6_mix : GoodIn wsX6_mixBest (wsV RX6 267 RX6 yX6_mix wsX6_mix) := goodIn_app (goodIn_of _ (by decide +kernel)) ggX6_mixBest_X6_mix
set_option maxRecDepth 20000 in
theorem ggX6_mixBest_X6_lossNow : GoodIn wsX6_mixBest wsX6_lossNow := goodIn_r _ [69, 16, 7, 6, 18, 8, 9, 10, 4, 11, 12, 13, 14, 15, 17, 19, 20, 21, 22, 23, 24, 25, 26, 27, 28, 29, 30, 31, 32, 33, 34, 35, 36, 37, 38, 39, 40, 41, 42, 43, 44, 45, 46, 47, 48, 49, 50, 51, 52, 53, 54, 55, 56, 57, 58, 59, 70, 71, 72, 73, 74, 75, 76, 77, 78, 79, 80, 81, 82, 83, 84, 85, 86, 87, 88, 89, 90, 91, 92, 93, 94, 95, 96, 97, 98, 99, 100, 101, 102] (by decide +kernel) (by decide +kernel)
set_option maxRecDepth 20000 in
theorem gX6_mixBest_X6_lossNow : GoodIn wsX6_mixBest (wsV RX6 241 RX6 yX6_lossNow wsX6_lossNow) := goodIn_app (goodIn_of _ (by decide +kernel)) ggX6_mixBest_X6_lossNow
theorem dX6_mixBest_0 : decode cX6_mixBest 0 = .ok (.iconst 1, 1) := by decide +kernel
theorem dX6_mixBest_1 : decode cX6_mixBest 1 = .ok (.istore_n 2, 1) := by decide +kernel
theorem dX6_mixBest_2 : decode cX6_mixBest 2 = .ok (.iload_n 2, 1) := by decide +kernel
theorem dX6_mixBest_3 : decode cX6_mixBest 3 = .ok (.iconst 4, 1) := by decide +kernel
theorem dX6_mixBest_4 : decode cX6_mixBest 4 = .ok (.if_icmp .gt 68, 3) := by decide +kernel
theorem dX6_mixBest_7 : decode cX6_mixBest 7 = .ok (.iconst 0, 1) := by decide +kernel
theorem dX6_mixBest_8 : decode cX6_mixBest 8 = .ok (.istore_n 3, 1) := by decide +kernel
theorem dX6_mixBest_9 : decode cX6_mixBest 9 = .ok (.iload_n 3, 1) := by decide +kernel
theorem dX6_mixBest_10 : decode cX6_mixBest 10 = .ok (.iload_n 2, 1) := by decide +kernel
theorem dX6_mixBest_11 : decode cX6_mixBest 11 = .ok (.if_icmp .ge 33, 3) := by decide +kernel
theorem dX6_mixBest_14 : decode cX6_mixBest 14 = .ok (.aload_n 0, 1) := by decide +kernel
theorem dX6_mixBest_15 : decode cX6_mixBest 15 = .ok (.aload_n 0, 1) := by decide +kernel
theorem dX6_mixBest_16 : decode cX6_mixBest 16 = .ok (.iload_n 1, 1) := by decide +kernel
theorem dX6_mixBest_17 : decode cX6_mixBest 17 = .ok (.iload_n 2, 1) := by decide +kernel
theorem dX6_mixBest_18 : decode cX6_mixBest 18 = .ok (.iload_n 3, 1) := by decide +kernel
theorem dX6_mixBest_19 : decode cX6_mixBest 19 = .ok (.iconst 0, 1) := by decide +kernel
theorem dX6_mixBest_20 : decode cX6_mixBest 20 = .ok (.invokevirtual 235, 3) := by decide +kernel
theorem dX6_mixBest_23 : decode cX6_mixBest 23 = .ok (.invokevirtual 267, 3) := by decide +kernel
theorem dX6_mixBest_26 : decode cX6_mixBest 26 = .ok (.aload_n 0, 1) := by decide +kernel
theorem dX6_mixBest_27 : decode cX6_mixBest 27 = .ok (.aload_n 0, 1) := by decide +kernel
theorem dX6_mixBest_28 : decode cX6_mixBest 28 = .ok (.iload_n 1, 1) := by decide +kernel
theorem dX6_mixBest_29 : decode cX6_mixBest 29 = .ok (.iload_n 2, 1) := by decide +kernel
theorem dX6_mixBest_30 : decode cX6_mixBest 30 = .ok (.iload_n 3, 1) := by decide +kernel
theorem dX6_mixBest_31 : decode cX6_mixBest 31 = .ok (.iconst 1, 1) := by decide +kernel
theorem dX6_mixBest_32 : decode cX6_mixBest 32 = .ok (.invokevirtual 235, 3) := by decide +kernel
theorem dX6_mixBest_35 : decode cX6_mixBest 35 = .ok (.invokevirtual 267, 3) := by decide +kernel
theorem dX6_mixBest_38 : decode cX6_mixBest 38 = .ok (.iinc 3 1, 3) := by decide +kernel
theorem dX6_mixBest_41 : decode cX6_mixBest 41 = .ok (.goto (-32), 3) := by decide +kernel
theorem dX6_mixBest_44 : decode cX6_mixBest 44 = .ok (.aload_n 0, 1) := by decide +kernel
theorem dX6_mixBest_45 : decode cX6_mixBest 45 = .ok (.aload_n 0, 1) := by decide +kernel
theorem dX6_mixBest_46 : decode cX6_mixBest 46 = .ok (.iload_n 1, 1) := by decide +kernel
theorem dX6_mixBest_47 : decode cX6_mixBest 47 = .ok (.iload_n 2, 1) := by decide +kernel
theorem dX6_mixBest_48 : decode cX6_mixBest 48 = .ok (.iconst 0, 1) := by decide +kernel
theorem dX6_mixBest_49 : decode cX6_mixBest 49 = .ok (.invokevirtual 241, 3) := by decide +kernel
theorem dX6_mixBest_52 : decode cX6_mixBest 52 = .ok (.invokevirtual 267, 3) := by decide +kernel
theorem dX6_mixBest_55 : decode cX6_mixBest 55 = .ok (.aload_n 0, 1) := by decide +kernel
theorem dX6_mixBest_56 : decode cX6_mixBest 56 = .ok (.aload_n 0, 1) := by decide +kernel
theorem dX6_mixBest_57 : decode cX6_mixBest 57 = .ok (.iload_n 1, 1) := by decide +kernel
theorem dX6_mixBest_58 : decode cX6_mixBest 58 = .ok (.iload_n 2, 1) := by decide +kernel
theorem dX6_mixBest_59 : decode cX6_mixBest 59 = .ok (.iconst 1, 1) := by decide +kernel
theorem dX6_mixBest_60 : decode cX6_mixBest 60 = .ok (.invokevirtual 241, 3) := by decide +kernel
theorem dX6_mixBest_63 : decode cX6_mixBest 63 = .ok (.invokevirtual 267, 3) := by decide +kernel
theorem dX6_mixBest_66 : decode cX6_mixBest 66 = .ok (.iinc 2 1, 3) := by decide +kernel
theorem dX6_mixBest_69 : decode cX6_mixBest 69 = .ok (.goto (-67), 3) := by decide +kernel
theorem dX6_mixBest_72 : decode cX6_mixBest 72 = .ok (.return_, 1) := by decide +kernel
set_option maxRecDepth 20000 in
theorem ggX6_digest_X6_mixStorm : GoodIn wsX6_digest wsX6_mixStorm := goodIn_r _ [10, 11, 12, 9, 13, 14, 15, 16, 17, 18, 19, 20, 21, 22, 23, 24, 25, 26, 27, 28, 29, 30, 31, 32, 33, 34, 35, 36, 37, 38, 39, 40, 41, 42, 2, 43, 44, 45, 46, 47, 48, 49, 50, 51, 52, 53, 142, 143, 144, 145, 146, 147, 148, 149, 150, 151, 152, 153, 154, 155, 156, 157, 158, 159, 160, 161, 162, 163, 164, 165, 166, 167, 168, 169, 170, 171, 172, 173, 174] (by decide +kernel) (by decide +kernel)
set_option maxRecDepth 20000 in
theorem gX6_digest_X6_mixStorm : GoodIn wsX6_digest (wsV RX6 273 RX6 yX6_mixStorm wsX6_mixStorm) := goodIn_app (goodIn_of _ (by decide +kernel)) ggX6_digest_X6_mixStorm
set_option maxRecDepth 20000 in
theorem ggX6_digest_X6_mixUnits : GoodIn wsX6_digest wsX6_mixUnits := goodIn_r _ [57, 58, 3, 59, 60, 61, 9, 62, 63, 64, 65, 66, 67, 68, 69, 70, 71, 72, 73, 11, 12, 13, 38, 39, 40, 41, 42, 2, 74, 75, 76, 77, 78, 79, 80, 81, 24, 25, 26, 27, 28, 33, 34, 35, 36, 37, 142, 143, 144, 145, 146, 147, 148, 149, 150, 151, 152, 153, 154, 155, 156, 157, 158, 159, 160, 161, 162, 163, 164, 165, 166, 167, 168, 169, 170, 171, 172, 173, 174] (by decide +kernel) (by decide +kernel)
set_option maxRecDepth 20000 in
theorem gX6_digest_X6_mixUnits : GoodIn wsX6_digest (wsV RX6 276 RX6 yX6_mixUnits wsX6_mixUnits) := goodIn_app (goodIn_of _ (by decide +kernel)) ggX6_digest_X6_mixUnits
set_option maxRecDepth 20000 in
theorem ggX6_digest_X6_mixBest : GoodIn wsX6_digest wsX6_mixBest := goodIn_r _ [85, 86, 87, 88, 9, 89, 90, 91, 92, 93, 94, 95, 96, 97, 98, 99, 100, 101, 102, 3, 33, 34, 35, 36, 37, 11, 12, 13, 24, 25, 26, 27, 28, 103, 104, 105, 106, 107, 108, 109, 110, 111, 112, 113, 114, 115, 116, 117, 118, 119, 120, 121, 122, 123, 124, 125, 126, 127, 128, 129, 38, 39, 40, 41, 42, 2, 130, 131, 132, 133, 142, 143, 144, 145, 146, 147, 148, 149, 150, 151, 152, 153, 154, 155, 156, 157, 158, 159, 160, 161, 162, 163, 164, 165, 166, 167, 168, 169, 170, 171, 172, 173, 174] (by decide +kernel) (by decide +kernel)
set_option maxRecDepth 20000 in
theorem gX6_digest_X6_mixBest : GoodIn wsX6_digest (wsV RX6 279 RX6 yX6_mixBest wsX6_mixBest) := goodIn_app (goodIn_of _ (by decide +kernel)) ggX6_digest_X6_mixBest
set_option maxRecDepth 20000 in
theorem ggX6_digest_X6_mix : GoodIn wsX6_digest wsX6_mix := goodIn_r _ [41, 42, 2, 142, 143, 144, 145, 146, 147, 148, 149, 150, 151, 152, 153, 154, 155, 156, 157, 158, 159, 160, 161, 162, 163, 164, 165, 166, 167, 168, 169, 170, 171, 172, 173, 174] (by decide +kernel) (by decide +kernel)
set_option maxRecDepth 20000 in
theorem gX6_digest_X6_mix : GoodIn wsX6_digest (wsV RX6 267 RX6 yX6_mix wsX6_mix) := goodIn_app (goodIn_of _ (by decide +kernel)) ggX6_digest_X6_mix
set_option maxRecDepth 20000 in
theorem ggX6_digest_X6_howMany : GoodIn wsX6_digest wsX6_howMany := goodIn_r _ [137, 3, 58, 4, 138, 139, 140, 141, 142, 143, 144, 145, 146, 147, 148, 149, 150, 151, 152, 153, 154, 155, 156, 157, 158, 159, 160, 161, 162, 163, 164, 165, 166, 167, 168, 169, 170, 171, 172, 173, 174] (by decide +kernel) (by decide +kernel)
set_option maxRecDepth 20000 in
theorem gX6_digest_X6_howMany : GoodIn wsX6_digest (wsV RX6 259 RX6 yX6_howMany wsX6_howMany) := goodIn_app (goodIn_of _ (by decide +kernel)) ggX6_digest_X6_howMany
theorem dX6_digest_0 : decode cX6_digest 0 = .ok (.aload_n 0, 1) := by decide +kernel
theorem dX6_digest_1 : decode cX6_digest 1 = .ok (.ldc2_w 271, 3) := by decide +kernel
theorem dX6_digest_4 : decode cX6_digest 4 = .ok (.putfield 264, 3) := by decide +kernel
theorem dX6_digest_7 : decode cX6_digest 7 = .ok (.iconst 0, 1) := by decide +kernel
theorem dX6_digest_8 : decode cX6_digest 8 = .ok (.istore_n 1, 1) := by decide +kernel
theorem dX6_digest_9 : decode cX6_digest 9 = .ok (.iload_n 1, 1) := by decide +kernel
theorem dX6_digest_10 : decode cX6_digest 10 = .ok (.aload_n 0, 1) := by decide +kernel
theorem dX6_digest_11 : decode cX6_digest 11 = .ok (.getfield 114, 3) := by decide +kernel
theorem dX6_digest_14 : decode cX6_digest 14 = .ok (.if_icmp .ge 14, 3) := by decide +kernel
theorem dX6_digest_17 : decode cX6_digest 17 = .ok (.aload_n 0, 1) := by decide +kernel
theorem dX6_digest_18 : decode cX6_digest 18 = .ok (.iload_n 1, 1) := by decide +kernel
theorem dX6_digest_19 : decode cX6_digest 19 = .ok (.invokevirtual 273, 3) := by decide +kernel
end
section
theorem dX6_digest_22 : decode cX6_digest 22 = .ok (.iinc 1 1, 3) := by decide +kernel
theorem dX6_digest_25 : decode cX6_digest 25 = .ok (.goto (-16), 3) := by decide +kernel
theorem dX6_digest_28 : decode cX6_digest 28 = .ok (.aload_n 0, 1) := by decide +kernel
theorem dX6_digest_29 : decode cX6_digest 29 = .ok (.invokevirtual 276, 3) := by decide +kernel
theorem dX6_digest_32 : decode cX6_digest 32 = .ok (.aload_n 0, 1) := by decide +kernel
theorem dX6_digest_33 : decode cX6_digest 33 = .ok (.getfield 114, 3) := by decide +kernel
theorem dX6_digest_36 : decode cX6_digest 36 = .ok (.ifCond .le 15, 3) := by decide +kernel
theorem dX6_digest_39 : decode cX6_digest 39 = .ok (.aload_n 0, 1) := by decide +kernel
theorem dX6_digest_40 : decode cX6_digest 40 = .ok (.iconst 1, 1) := by decide +kernel
theorem dX6_digest_41 : decode cX6_digest 41 = .ok (.aload_n 0, 1) := by decide +kernel
theorem dX6_digest_42 : decode cX6_digest 42 = .ok (.getfield 114, 3) := by decide +kernel
theorem dX6_digest_45 : decode cX6_digest 45 = .ok (.ishl, 1) := by decide +kernel
theorem dX6_digest_46 : decode cX6_digest 46 = .ok (.iconst 1, 1) := by decide +kernel
theorem dX6_digest_47 : decode cX6_digest 47 = .ok (.isub, 1) := by decide +kernel
theorem dX6_digest_48 : decode cX6_digest 48 = .ok (.invokevirtual 279, 3) := by decide +kernel
theorem dX6_digest_51 : decode cX6_digest 51 = .ok (.iconst 0, 1) := by decide +kernel
theorem dX6_digest_52 : decode cX6_digest 52 = .ok (.istore_n 1, 1) := by decide +kernel
theorem dX6_digest_53 : decode cX6_digest 53 = .ok (.iload_n 1, 1) := by decide +kernel
theorem dX6_digest_54 : decode cX6_digest 54 = .ok (.aload_n 0, 1) := by decide +kernel
theorem dX6_digest_55 : decode cX6_digest 55 = .ok (.getfield 64, 3) := by decide +kernel
theorem dX6_digest_58 : decode cX6_digest 58 = .ok (.if_icmp .ge 20, 3) := by decide +kernel
theorem dX6_digest_61 : decode cX6_digest 61 = .ok (.aload_n 0, 1) := by decide +kernel
theorem dX6_digest_62 : decode cX6_digest 62 = .ok (.aload_n 0, 1) := by decide +kernel
theorem dX6_digest_63 : decode cX6_digest 63 = .ok (.getfield 7, 3) := by decide +kernel
theorem dX6_digest_66 : decode cX6_digest 66 = .ok (.iload_n 1, 1) := by decide +kernel
theorem dX6_digest_67 : decode cX6_digest 67 = .ok (.iaload, 1) := by decide +kernel
theorem dX6_digest_68 : decode cX6_digest 68 = .ok (.i2l, 1) := by decide +kernel
theorem dX6_digest_69 : decode cX6_digest 69 = .ok (.invokevirtual 267, 3) := by decide +kernel
theorem dX6_digest_72 : decode cX6_digest 72 = .ok (.iinc 1 1, 3) := by decide +kernel
theorem dX6_digest_75 : decode cX6_digest 75 = .ok (.goto (-22), 3) := by decide +kernel
theorem dX6_digest_78 : decode cX6_digest 78 = .ok (.iconst 0, 1) := by decide +kernel
theorem dX6_digest_79 : decode cX6_digest 79 = .ok (.istore_n 1, 1) := by decide +kernel
theorem dX6_digest_80 : decode cX6_digest 80 = .ok (.iload_n 1, 1) := by decide +kernel
theorem dX6_digest_81 : decode cX6_digest 81 = .ok (.bipush 6, 2) := by decide +kernel
theorem dX6_digest_83 : decode cX6_digest 83 = .ok (.if_icmp .ge 19, 3) := by decide +kernel
theorem dX6_digest_86 : decode cX6_digest 86 = .ok (.aload_n 0, 1) := by decide +kernel
theorem dX6_digest_87 : decode cX6_digest 87 = .ok (.aload_n 0, 1) := by decide +kernel
theorem dX6_digest_88 : decode cX6_digest 88 = .ok (.iload_n 1, 1) := by decide +kernel
theorem dX6_digest_89 : decode cX6_digest 89 = .ok (.invokevirtual 259, 3) := by decide +kernel
theorem dX6_digest_92 : decode cX6_digest 92 = .ok (.i2l, 1) := by decide +kernel
theorem dX6_digest_93 : decode cX6_digest 93 = .ok (.invokevirtual 267, 3) := by decide +kernel
theorem dX6_digest_96 : decode cX6_digest 96 = .ok (.iinc 1 1, 3) := by decide +kernel
theorem dX6_digest_99 : decode cX6_digest 99 = .ok (.goto (-19), 3) := by decide +kernel
theorem dX6_digest_102 : decode cX6_digest 102 = .ok (.aload_n 0, 1) := by decide +kernel
theorem dX6_digest_103 : decode cX6_digest 103 = .ok (.getfield 264, 3) := by decide +kernel
theorem dX6_digest_106 : decode cX6_digest 106 = .ok (.lreturn, 1) := by decide +kernel
theorem dJ9_abs_0f7a4_0 : decode cJ9_abs_0f7a4 0 = .ok (.iload_n 0, 1) := by decide +kernel
theorem dJ9_abs_0f7a4_1 : decode cJ9_abs_0f7a4 1 = .ok (.ifCond .ge 8, 3) := by decide +kernel
theorem dJ9_abs_0f7a4_4 : decode cJ9_abs_0f7a4 4 = .ok (.iload_n 0, 1) := by decide +kernel
theorem dJ9_abs_0f7a4_5 : decode cJ9_abs_0f7a4 5 = .ok (.ineg, 1) := by decide +kernel
theorem dJ9_abs_0f7a4_6 : decode cJ9_abs_0f7a4 6 = .ok (.goto 4, 3) := by decide +kernel
theorem dJ9_abs_0f7a4_9 : decode cJ9_abs_0f7a4 9 = .ok (.iload_n 0, 1) := by decide +kernel
theorem dJ9_abs_0f7a4_10 : decode cJ9_abs_0f7a4 10 = .ok (.ireturn, 1) := by decide +kernel
theorem dJ9_abs_067f4_0 : decode cJ9_abs_067f4 0 = .ok (.lload_n 0, 1) := by decide +kernel
theorem dJ9_abs_067f4_1 : decode cJ9_abs_067f4 1 = .ok (.lconst 0, 1) := by decide +kernel
theorem dJ9_abs_067f4_2 : decode cJ9_abs_067f4 2 = .ok (.lcmp, 1) := by decide +kernel
theorem dJ9_abs_067f4_3 : decode cJ9_abs_067f4 3 = .ok (.ifCond .ge 8, 3) := by decide +kernel
theorem dJ9_abs_067f4_6 : decode cJ9_abs_067f4 6 = .ok (.lload_n 0, 1) := by decide +kernel
theorem dJ9_abs_067f4_7 : decode cJ9_abs_067f4 7 = .ok (.lneg, 1) := by decide +kernel
theorem dJ9_abs_067f4_8 : decode cJ9_abs_067f4 8 = .ok (.goto 4, 3) := by decide +kernel
theorem dJ9_abs_067f4_11 : decode cJ9_abs_067f4 11 = .ok (.lload_n 0, 1) := by decide +kernel
theorem dJ9_abs_067f4_12 : decode cJ9_abs_067f4 12 = .ok (.lreturn, 1) := by decide +kernel
theorem dJ9_max_7cf53_0 : decode cJ9_max_7cf53 0 = .ok (.iload_n 0, 1) := by decide +kernel
theorem dJ9_max_7cf53_1 : decode cJ9_max_7cf53 1 = .ok (.iload_n 1, 1) := by decide +kernel
theorem dJ9_max_7cf53_2 : decode cJ9_max_7cf53 2 = .ok (.if_icmp .lt 7, 3) := by decide +kernel
theorem dJ9_max_7cf53_5 : decode cJ9_max_7cf53 5 = .ok (.iload_n 0, 1) := by decide +kernel
theorem dJ9_max_7cf53_6 : decode cJ9_max_7cf53 6 = .ok (.goto 4, 3) := by decide +kernel
theorem dJ9_max_7cf53_9 : decode cJ9_max_7cf53 9 = .ok (.iload_n 1, 1) := by decide +kernel
theorem dJ9_max_7cf53_10 : decode cJ9_max_7cf53 10 = .ok (.ireturn, 1) := by decide +kernel
theorem dJ9_min_7cf53_0 : decode cJ9_min_7cf53 0 = .ok (.iload_n 0, 1) := by decide +kernel
theorem dJ9_min_7cf53_1 : decode cJ9_min_7cf53 1 = .ok (.iload_n 1, 1) := by decide +kernel
theorem dJ9_min_7cf53_2 : decode cJ9_min_7cf53 2 = .ok (.if_icmp .gt 7, 3) := by decide +kernel
theorem dJ9_min_7cf53_5 : decode cJ9_min_7cf53 5 = .ok (.iload_n 0, 1) := by decide +kernel
theorem dJ9_min_7cf53_6 : decode cJ9_min_7cf53 6 = .ok (.goto 4, 3) := by decide +kernel
theorem dJ9_min_7cf53_9 : decode cJ9_min_7cf53 9 = .ok (.iload_n 1, 1) := by decide +kernel
theorem dJ9_min_7cf53_10 : decode cJ9_min_7cf53 10 = .ok (.ireturn, 1) := by decide +kernel
end
section
/-! ===== the walking judgement: X the machine's context, ws the world, lv the locals, st the operand stack ===== -/
abbrev VX := Program × Launch × Env × Room × State × MethodId × Array Value × List Frame × Method × Code
abbrev xP (X : VX) : Program := X.1
abbrev xL (X : VX) : Launch := X.2.1
abbrev xE (X : VX) : Env := X.2.2.1
abbrev xR (X : VX) : Room := X.2.2.2.1
abbrev xS (X : VX) : State := X.2.2.2.2.1
abbrev xM (X : VX) : MethodId := X.2.2.2.2.2.1
abbrev xA (X : VX) : Array Value := X.2.2.2.2.2.2.1
abbrev xB (X : VX) : List Frame := X.2.2.2.2.2.2.2.1
abbrev xMe (X : VX) : Method := X.2.2.2.2.2.2.2.2.1
abbrev xC (X : VX) : Code := X.2.2.2.2.2.2.2.2.2
abbrev WX (X : VX) (H : Heap) (locs : List Loc) (cs : Nat × Nat) (Q : State → Prop) (g : JFrame) : Prop := W (xP X) (xL X) (xE X) (xR X) (xS X) (xM X) (xA X) (xB X) (xMe X) (xC X) H locs cs.1 cs.2 Q g
def VW (X : VX) (D : va_G) (nL : Nat) (Q : State → Prop) (K : va_W → Heap → List Loc → Prop) (cs : Nat × Nat) (ws : va_W) (lv : List (Nat × Value)) (pc : Nat) (st : List Value) : Prop :=
  ∀ (H : Heap) (locs : List Loc) (ls : Array Slot), va_P D vwCl ws H → K ws H locs → lv_has ls nL lv → WX X H locs cs Q (F0 (xM X) pc ls st)
/-- the array classes: ints, longs, storms, units -/
def vY (Y : Nat → ClassId) : List (ClassId × FieldType) := [(Y 0, .int), (Y 1, .long), (Y 2, .object RX3), (Y 3, .object RX4)]
/-- the links between nest mates -/
def vNest (U : State) : Prop := va_Nw (.methodLinkNest RX5 27 yX1_init RX5) U ∧ va_Nw (.methodLinkNest RX1 11 yX2_init RX5) U ∧ va_Nw (.methodLinkNest RX5 34 yX0_init RX5) U ∧ va_Nw (.methodLinkNest RX5 39 yX3_init RX5) U ∧ va_Nw (.methodLinkNest RX3 11 yX2_init RX5) U ∧ va_Nw (.methodLinkNest RX5 40 yX4_init RX5) U ∧ va_Nw (.methodLinkNest RX4 11 yX2_init RX5) U ∧ va_Nw (.methodLinkNest RX1 65 yX5_isLength RX5) U
def KN (D : va_G) (Y : Nat → ClassId) (U : State) : Prop := va_K D vwCl (vY Y) U ∧ vNest U
theorem vNest_warm {s U : State} (hW : s.WarmedH U.vm) (h : vNest s) : vNest U := by
  obtain ⟨h1, h2, h3, h4, h5, h6, h7, h8⟩ := h
  exact ⟨va_Nw.warmM hW h1, va_Nw.warmM hW h2, va_Nw.warmM hW h3, va_Nw.warmM hW h4, va_Nw.warmM hW h5, va_Nw.warmM hW h6, va_Nw.warmM hW h7, va_Nw.warmM hW h8⟩
theorem vNest_same {s U : State} (hv : s.vm = U.vm) (h : vNest s) : vNest U := by
  obtain ⟨h1, h2, h3, h4, h5, h6, h7, h8⟩ := h
  exact ⟨va_Nw.same rfl hv h1, va_Nw.same rfl hv h2, va_Nw.same rfl hv h3, va_Nw.same rfl hv h4, va_Nw.same rfl hv h5, va_Nw.same rfl hv h6, va_Nw.same rfl hv h7, va_Nw.same rfl hv h8⟩
theorem KN_warm {D : va_G} {Y : Nat → ClassId} {s U : State} (hW : s.WarmedH U.vm) (h : KN D Y s) : KN D Y U := ⟨va_K.moved hW.alike h.1, vNest_warm hW h.2⟩
theorem KN_call {D : va_G} {Y : Nat → ClassId} {U : State} (g : JFrame) (mk : MethodId) (a : Array Value) (h : KN D Y U) : KN D Y (U.calling g mk a) := ⟨va_K.moved (u := U) (U := U.calling g mk a) (Vm.Alike.refl U.vm) h.1, vNest_same (s := U) (U := U.calling g mk a) rfl h.2⟩
def Cx (X : VX) (D : va_G) (Y : Nat → ClassId) (cc : ByteArray) (nL : Nat) (own : String) (Ts : List Cond) (ret : Option FieldType) (rm : Room) : Prop :=
  CallFix (xP X) (xM X) (xC X) cc nL (xS X) (xA X) Ts own ∧ KN D Y (xS X) ∧ (xMe X).sig.returnType = ret ∧ (xMe X).locks = false ∧ xR X = rm
def KR (X : VX) : va_W → Heap → List Loc → Prop := fun _ H locs => H = (xS X).heap ∧ locs = []
def KM (A : Nat → Prop) (X : VX) : va_W → Heap → List Loc → Prop := fun ws H locs => va_D A ws ∧ va_S A (xS X).heap H locs
/-- contracts: MR reads alone (no cell changes); MW may write its world -/
def QcR (r : Option Value) : Array Value → State → Outcome → State → Prop := fun _ st oc t => oc = .returned r ∧ t.heap = st.heap
def QcW (D : va_G) (w w' : va_W) (sz : Nat) (r : Option Value) : Array Value → State → Outcome → State → Prop := fun _ st oc t => (oc = .returned r ∧ va_P D vwCl w' t.heap) ∧ va_F (va_A w sz) st t
def MR (l : Launch) (y : MethodName) (wy : List Cond) (fr lo : Nat) (D : va_G) (Y : Nat → ClassId) (as : List Value) (w : va_W) (r : Option Value) : Prop :=
  Met l y wy { frames := fr, cells := 0, slots := 0, locals := lo } (va_Pc as (fun U => va_P D vwCl w U.heap ∧ KN D Y U)) (QcR r) 0 0 (fun _ => False)
def MW (l : Launch) (y : MethodName) (wy : List Cond) (fr lo : Nat) (D : va_G) (Y : Nat → ClassId) (as : List Value) (w w' : va_W) (r : Option Value) : Prop :=
  w'.map Prod.fst = w.map Prod.fst ∧ ∀ sz : Nat, Met l y wy { frames := fr, cells := 0, slots := 0, locals := lo } (va_Pc as (fun U => U.heap.size = sz ∧ va_P D vwCl w U.heap ∧ KN D Y U ∧ va_D (fun _ => True) w)) (QcW D w w' sz r) 0 0 (va_A w sz)
def QR (X : VX) (r : Option Value) : State → Prop := MQ (xB X) (QcR r) (xA X) (xS X) 0 0 (fun _ => False)
def QW (X : VX) (D : va_G) (w w' : va_W) (r : Option Value) : State → Prop := MQ (xB X) (QcW D w w' (xS X).heap.size r) (xA X) (xS X) 0 0 (va_A w (xS X).heap.size)
def inB (i : Int32) (n : Nat) : Bool := decide (0 ≤ i.toInt ∧ i.toInt < n)
theorem inB_in {i : Int32} {n : Nat} (h : inB i n = true) : vp_in i n := vp_in_iff.mpr (by simpa [inB] using h)
def isB (r : Int32) : Bool := r == 0 || r == 1
theorem isB_n {r : Int32} (h : isB r = true) : narrow .boolean (.int r) = .int r := by
  simp only [isB, Bool.or_eq_true, beq_iff_eq] at h
  rcases h with rfl | rfl <;> decide
theorem isB_f {r : Int32} (h : isB r = true) : fits .boolean (.int r) = true := h
def ne0 (y : Int32) : Bool := !(y == 0)
theorem ne0_n {y : Int32} (h : ne0 y = true) : ¬ y = 0 := by simpa [ne0] using h
def ne0l (y : Int64) : Bool := !(y == 0)
theorem ne0l_n {y : Int64} (h : ne0l y = true) : ¬ y = 0 := by simpa [ne0l] using h
def up {α : Type} (f : Nat → α) (k : Nat) (v : α) : Nat → α := fun j => cond (Nat.beq j k) v (f j)
/-! ===== combinators of the pure programs ===== -/
theorem t_pos {α : Type} {c : Prop} {i : Decidable c} {a b : Option α} {x : α} (hc : c) (h : (@ite _ c i a b) = some x) : a = some x := by rwa [if_pos hc] at h
theorem t_neg {α : Type} {c : Prop} {i : Decidable c} {a b : Option α} {x : α} (hc : ¬ c) (h : (@ite _ c i a b) = some x) : b = some x := by rwa [if_neg hc] at h
def chk {α : Type} (b : Bool) (o : Option α) : Option α := cond b o none
theorem chk_some {α : Type} {b : Bool} {o : Option α} {x : α} (h : chk b o = some x) : b = true ∧ o = some x := by
  cases b
  · cases h
  · exact ⟨rfl, h⟩

def ob1 {A1 R : Type} (o : Option (A1)) (k : A1 → Option R) : Option R := o.bind (fun q => k q)
theorem ob1_some {A1 R : Type} {o : Option (A1)} {k : A1 → Option R} {x : R} (h : ob1 o k = some x) : ∃ a1, o = some a1 ∧ k a1 = some x := by
  unfold ob1 at h
  cases ho : o with
  | none => rw [ho] at h; cases h
  | some q => rw [ho] at h; exact ⟨q, rfl, h⟩
theorem ob1_eq {A1 R : Type} (k : A1 → Option R) (a1 : A1) : ob1 (some a1) k = k a1 := rfl
def ob2 {A1 A2 R : Type} (o : Option (A1 × A2)) (k : A1 → A2 → Option R) : Option R := o.bind (fun q => k (q.1) (q.2))
theorem ob2_some {A1 A2 R : Type} {o : Option (A1 × A2)} {k : A1 → A2 → Option R} {x : R} (h : ob2 o k = some x) : ∃ a1 a2, o = some (a1, a2) ∧ k a1 a2 = some x := by
  unfold ob2 at h
  cases ho : o with
  | none => rw [ho] at h; cases h
  | some q => rw [ho] at h; exact ⟨q.1, q.2, rfl, h⟩
theorem ob2_eq {A1 A2 R : Type} (k : A1 → A2 → Option R) (a1 : A1) (a2 : A2) : ob2 (some (a1, a2)) k = k a1 a2 := rfl
def ob3 {A1 A2 A3 R : Type} (o : Option (A1 × A2 × A3)) (k : A1 → A2 → A3 → Option R) : Option R := o.bind (fun q => k (q.1) (q.2.1) (q.2.2))
theorem ob3_some {A1 A2 A3 R : Type} {o : Option (A1 × A2 × A3)} {k : A1 → A2 → A3 → Option R} {x : R} (h : ob3 o k = some x) : ∃ a1 a2 a3, o = some (a1, a2, a3) ∧ k a1 a2 a3 = some x := by
  unfold ob3 at h
  cases ho : o with
  | none => rw [ho] at h; cases h
  | some q => rw [ho] at h; exact ⟨q.1, q.2.1, q.2.2, rfl, h⟩
theorem ob3_eq {A1 A2 A3 R : Type} (k : A1 → A2 → A3 → Option R) (a1 : A1) (a2 : A2) (a3 : A3) : ob3 (some (a1, a2, a3)) k = k a1 a2 a3 := rfl
def ob4 {A1 A2 A3 A4 R : Type} (o : Option (A1 × A2 × A3 × A4)) (k : A1 → A2 → A3 → A4 → Option R) : Option R := o.bind (fun q => k (q.1) (q.2.1) (q.2.2.1) (q.2.2.2))
theorem ob4_some {A1 A2 A3 A4 R : Type} {o : Option (A1 × A2 × A3 × A4)} {k : A1 → A2 → A3 → A4 → Option R} {x : R} (h : ob4 o k = some x) : ∃ a1 a2 a3 a4, o = some (a1, a2, a3, a4) ∧ k a1 a2 a3 a4 = some x := by
  unfold ob4 at h
  cases ho : o with
  | none => rw [ho] at h; cases h
  | some q => rw [ho] at h; exact ⟨q.1, q.2.1, q.2.2.1, q.2.2.2, rfl, h⟩
theorem ob4_eq {A1 A2 A3 A4 R : Type} (k : A1 → A2 → A3 → A4 → Option R) (a1 : A1) (a2 : A2) (a3 : A3) (a4 : A4) : ob4 (some (a1, a2, a3, a4)) k = k a1 a2 a3 a4 := rfl
def ob5 {A1 A2 A3 A4 A5 R : Type} (o : Option (A1 × A2 × A3 × A4 × A5)) (k : A1 → A2 → A3 → A4 → A5 → Option R) : Option R := o.bind (fun q => k (q.1) (q.2.1) (q.2.2.1) (q.2.2.2.1) (q.2.2.2.2))
theorem ob5_some {A1 A2 A3 A4 A5 R : Type} {o : Option (A1 × A2 × A3 × A4 × A5)} {k : A1 → A2 → A3 → A4 → A5 → Option R} {x : R} (h : ob5 o k = some x) : ∃ a1 a2 a3 a4 a5, o = some (a1, a2, a3, a4, a5) ∧ k a1 a2 a3 a4 a5 = some x := by
  unfold ob5 at h
  cases ho : o with
  | none => rw [ho] at h; cases h
  | some q => rw [ho] at h; exact ⟨q.1, q.2.1, q.2.2.1, q.2.2.2.1, q.2.2.2.2, rfl, h⟩
theorem ob5_eq {A1 A2 A3 A4 A5 R : Type} (k : A1 → A2 → A3 → A4 → A5 → Option R) (a1 : A1) (a2 : A2) (a3 : A3) (a4 : A4) (a5 : A5) : ob5 (some (a1, a2, a3, a4, a5)) k = k a1 a2 a3 a4 a5 := rfl
def ob6 {A1 A2 A3 A4 A5 A6 R : Type} (o : Option (A1 × A2 × A3 × A4 × A5 × A6)) (k : A1 → A2 → A3 → A4 → A5 → A6 → Option R) : Option R := o.bind (fun q => k (q.1) (q.2.1) (q.2.2.1) (q.2.2.2.1) (q.2.2.2.2.1) (q.2.2.2.2.2))
theorem ob6_some {A1 A2 A3 A4 A5 A6 R : Type} {o : Option (A1 × A2 × A3 × A4 × A5 × A6)} {k : A1 → A2 → A3 → A4 → A5 → A6 → Option R} {x : R} (h : ob6 o k = some x) : ∃ a1 a2 a3 a4 a5 a6, o = some (a1, a2, a3, a4, a5, a6) ∧ k a1 a2 a3 a4 a5 a6 = some x := by
  unfold ob6 at h
  cases ho : o with
  | none => rw [ho] at h; cases h
  | some q => rw [ho] at h; exact ⟨q.1, q.2.1, q.2.2.1, q.2.2.2.1, q.2.2.2.2.1, q.2.2.2.2.2, rfl, h⟩
theorem ob6_eq {A1 A2 A3 A4 A5 A6 R : Type} (k : A1 → A2 → A3 → A4 → A5 → A6 → Option R) (a1 : A1) (a2 : A2) (a3 : A3) (a4 : A4) (a5 : A5) (a6 : A6) : ob6 (some (a1, a2, a3, a4, a5, a6)) k = k a1 a2 a3 a4 a5 a6 := rfl
def ob7 {A1 A2 A3 A4 A5 A6 A7 R : Type} (o : Option (A1 × A2 × A3 × A4 × A5 × A6 × A7)) (k : A1 → A2 → A3 → A4 → A5 → A6 → A7 → Option R) : Option R := o.bind (fun q => k (q.1) (q.2.1) (q.2.2.1) (q.2.2.2.1) (q.2.2.2.2.1) (q.2.2.2.2.2.1) (q.2.2.2.2.2.2))
theorem ob7_some {A1 A2 A3 A4 A5 A6 A7 R : Type} {o : Option (A1 × A2 × A3 × A4 × A5 × A6 × A7)} {k : A1 → A2 → A3 → A4 → A5 → A6 → A7 → Option R} {x : R} (h : ob7 o k = some x) : ∃ a1 a2 a3 a4 a5 a6 a7, o = some (a1, a2, a3, a4, a5, a6, a7) ∧ k a1 a2 a3 a4 a5 a6 a7 = some x := by
  unfold ob7 at h
  cases ho : o with
  | none => rw [ho] at h; cases h
  | some q => rw [ho] at h; exact ⟨q.1, q.2.1, q.2.2.1, q.2.2.2.1, q.2.2.2.2.1, q.2.2.2.2.2.1, q.2.2.2.2.2.2, rfl, h⟩
theorem ob7_eq {A1 A2 A3 A4 A5 A6 A7 R : Type} (k : A1 → A2 → A3 → A4 → A5 → A6 → A7 → Option R) (a1 : A1) (a2 : A2) (a3 : A3) (a4 : A4) (a5 : A5) (a6 : A6) (a7 : A7) : ob7 (some (a1, a2, a3, a4, a5, a6, a7)) k = k a1 a2 a3 a4 a5 a6 a7 := rfl
def ob8 {A1 A2 A3 A4 A5 A6 A7 A8 R : Type} (o : Option (A1 × A2 × A3 × A4 × A5 × A6 × A7 × A8)) (k : A1 → A2 → A3 → A4 → A5 → A6 → A7 → A8 → Option R) : Option R := o.bind (fun q => k (q.1) (q.2.1) (q.2.2.1) (q.2.2.2.1) (q.2.2.2.2.1) (q.2.2.2.2.2.1) (q.2.2.2.2.2.2.1) (q.2.2.2.2.2.2.2))
theorem ob8_some {A1 A2 A3 A4 A5 A6 A7 A8 R : Type} {o : Option (A1 × A2 × A3 × A4 × A5 × A6 × A7 × A8)} {k : A1 → A2 → A3 → A4 → A5 → A6 → A7 → A8 → Option R} {x : R} (h : ob8 o k = some x) : ∃ a1 a2 a3 a4 a5 a6 a7 a8, o = some (a1, a2, a3, a4, a5, a6, a7, a8) ∧ k a1 a2 a3 a4 a5 a6 a7 a8 = some x := by
  unfold ob8 at h
  cases ho : o with
  | none => rw [ho] at h; cases h
  | some q => rw [ho] at h; exact ⟨q.1, q.2.1, q.2.2.1, q.2.2.2.1, q.2.2.2.2.1, q.2.2.2.2.2.1, q.2.2.2.2.2.2.1, q.2.2.2.2.2.2.2, rfl, h⟩
theorem ob8_eq {A1 A2 A3 A4 A5 A6 A7 A8 R : Type} (k : A1 → A2 → A3 → A4 → A5 → A6 → A7 → A8 → Option R) (a1 : A1) (a2 : A2) (a3 : A3) (a4 : A4) (a5 : A5) (a6 : A6) (a7 : A7) (a8 : A8) : ob8 (some (a1, a2, a3, a4, a5, a6, a7, a8)) k = k a1 a2 a3 a4 a5 a6 a7 a8 := rfl
def ob9 {A1 A2 A3 A4 A5 A6 A7 A8 A9 R : Type} (o : Option (A1 × A2 × A3 × A4 × A5 × A6 × A7 × A8 × A9)) (k : A1 → A2 → A3 → A4 → A5 → A6 → A7 → A8 → A9 → Option R) : Option R := o.bind (fun q => k (q.1) (q.2.1) (q.2.2.1) (q.2.2.2.1) (q.2.2.2.2.1) (q.2.2.2.2.2.1) (q.2.2.2.2.2.2.1) (q.2.2.2.2.2.2.2.1) (q.2.2.2.2.2.2.2.2))
theorem ob9_some {A1 A2 A3 A4 A5 A6 A7 A8 A9 R : Type} {o : Option (A1 × A2 × A3 × A4 × A5 × A6 × A7 × A8 × A9)} {k : A1 → A2 → A3 → A4 → A5 → A6 → A7 → A8 → A9 → Option R} {x : R} (h : ob9 o k = some x) : ∃ a1 a2 a3 a4 a5 a6 a7 a8 a9, o = some (a1, a2, a3, a4, a5, a6, a7, a8, a9) ∧ k a1 a2 a3 a4 a5 a6 a7 a8 a9 = some x := by
  unfold ob9 at h
  cases ho : o with
  | none => rw [ho] at h; cases h
  | some q => rw [ho] at h; exact ⟨q.1, q.2.1, q.2.2.1, q.2.2.2.1, q.2.2.2.2.1, q.2.2.2.2.2.1, q.2.2.2.2.2.2.1, q.2.2.2.2.2.2.2.1, q.2.2.2.2.2.2.2.2, rfl, h⟩
theorem ob9_eq {A1 A2 A3 A4 A5 A6 A7 A8 A9 R : Type} (k : A1 → A2 → A3 → A4 → A5 → A6 → A7 → A8 → A9 → Option R) (a1 : A1) (a2 : A2) (a3 : A3) (a4 : A4) (a5 : A5) (a6 : A6) (a7 : A7) (a8 : A8) (a9 : A9) : ob9 (some (a1, a2, a3, a4, a5, a6, a7, a8, a9)) k = k a1 a2 a3 a4 a5 a6 a7 a8 a9 := rfl
def ob10 {A1 A2 A3 A4 A5 A6 A7 A8 A9 A10 R : Type} (o : Option (A1 × A2 × A3 × A4 × A5 × A6 × A7 × A8 × A9 × A10)) (k : A1 → A2 → A3 → A4 → A5 → A6 → A7 → A8 → A9 → A10 → Option R) : Option R := o.bind (fun q => k (q.1) (q.2.1) (q.2.2.1) (q.2.2.2.1) (q.2.2.2.2.1) (q.2.2.2.2.2.1) (q.2.2.2.2.2.2.1) (q.2.2.2.2.2.2.2.1) (q.2.2.2.2.2.2.2.2.1) (q.2.2.2.2.2.2.2.2.2))
theorem ob10_some {A1 A2 A3 A4 A5 A6 A7 A8 A9 A10 R : Type} {o : Option (A1 × A2 × A3 × A4 × A5 × A6 × A7 × A8 × A9 × A10)} {k : A1 → A2 → A3 → A4 → A5 → A6 → A7 → A8 → A9 → A10 → Option R} {x : R} (h : ob10 o k = some x) : ∃ a1 a2 a3 a4 a5 a6 a7 a8 a9 a10, o = some (a1, a2, a3, a4, a5, a6, a7, a8, a9, a10) ∧ k a1 a2 a3 a4 a5 a6 a7 a8 a9 a10 = some x := by
  unfold ob10 at h
  cases ho : o with
  | none => rw [ho] at h; cases h
  | some q => rw [ho] at h; exact ⟨q.1, q.2.1, q.2.2.1, q.2.2.2.1, q.2.2.2.2.1, q.2.2.2.2.2.1, q.2.2.2.2.2.2.1, q.2.2.2.2.2.2.2.1, q.2.2.2.2.2.2.2.2.1, q.2.2.2.2.2.2.2.2.2, rfl, h⟩
theorem ob10_eq {A1 A2 A3 A4 A5 A6 A7 A8 A9 A10 R : Type} (k : A1 → A2 → A3 → A4 → A5 → A6 → A7 → A8 → A9 → A10 → Option R) (a1 : A1) (a2 : A2) (a3 : A3) (a4 : A4) (a5 : A5) (a6 : A6) (a7 : A7) (a8 : A8) (a9 : A9) (a10 : A10) : ob10 (some (a1, a2, a3, a4, a5, a6, a7, a8, a9, a10)) k = k a1 a2 a3 a4 a5 a6 a7 a8 a9 a10 := rfl
def ob11 {A1 A2 A3 A4 A5 A6 A7 A8 A9 A10 A11 R : Type} (o : Option (A1 × A2 × A3 × A4 × A5 × A6 × A7 × A8 × A9 × A10 × A11)) (k : A1 → A2 → A3 → A4 → A5 → A6 → A7 → A8 → A9 → A10 → A11 → Option R) : Option R := o.bind (fun q => k (q.1) (q.2.1) (q.2.2.1) (q.2.2.2.1) (q.2.2.2.2.1) (q.2.2.2.2.2.1) (q.2.2.2.2.2.2.1) (q.2.2.2.2.2.2.2.1) (q.2.2.2.2.2.2.2.2.1) (q.2.2.2.2.2.2.2.2.2.1) (q.2.2.2.2.2.2.2.2.2.2))
theorem ob11_some {A1 A2 A3 A4 A5 A6 A7 A8 A9 A10 A11 R : Type} {o : Option (A1 × A2 × A3 × A4 × A5 × A6 × A7 × A8 × A9 × A10 × A11)} {k : A1 → A2 → A3 → A4 → A5 → A6 → A7 → A8 → A9 → A10 → A11 → Option R} {x : R} (h : ob11 o k = some x) : ∃ a1 a2 a3 a4 a5 a6 a7 a8 a9 a10 a11, o = some (a1, a2, a3, a4, a5, a6, a7, a8, a9, a10, a11) ∧ k a1 a2 a3 a4 a5 a6 a7 a8 a9 a10 a11 = some x := by
  unfold ob11 at h
  cases ho : o with
  | none => rw [ho] at h; cases h
  | some q => rw [ho] at h; exact ⟨q.1, q.2.1, q.2.2.1, q.2.2.2.1, q.2.2.2.2.1, q.2.2.2.2.2.1, q.2.2.2.2.2.2.1, q.2.2.2.2.2.2.2.1, q.2.2.2.2.2.2.2.2.1, q.2.2.2.2.2.2.2.2.2.1, q.2.2.2.2.2.2.2.2.2.2, rfl, h⟩
theorem ob11_eq {A1 A2 A3 A4 A5 A6 A7 A8 A9 A10 A11 R : Type} (k : A1 → A2 → A3 → A4 → A5 → A6 → A7 → A8 → A9 → A10 → A11 → Option R) (a1 : A1) (a2 : A2) (a3 : A3) (a4 : A4) (a5 : A5) (a6 : A6) (a7 : A7) (a8 : A8) (a9 : A9) (a10 : A10) (a11 : A11) : ob11 (some (a1, a2, a3, a4, a5, a6, a7, a8, a9, a10, a11)) k = k a1 a2 a3 a4 a5 a6 a7 a8 a9 a10 a11 := rfl
def jn0 {R : Type} (K : Option R) (f : (Option R) → Option R) : Option R := f K
theorem jn0_ok {R : Type} {K : Option R} {f : (Option R) → Option R} {x : R} {P : Prop} {G : Prop} (hK : K = some x → P) (hb : ∀ J : Option R, (J = some x → P) → f J = some x → G) (h : jn0 K f = some x) : G := hb K hK h
def jn1 {A1 R : Type} (K : A1 → Option R) (f : (A1 → Option R) → Option R) : Option R := f K
theorem jn1_ok {A1 R : Type} {K : A1 → Option R} {f : (A1 → Option R) → Option R} {x : R} {P : A1 → Prop} {G : Prop} (hK : ∀ a1, K a1 = some x → P a1) (hb : ∀ J : A1 → Option R, (∀ a1, J a1 = some x → P a1) → f J = some x → G) (h : jn1 K f = some x) : G := hb K hK h
def wh1 {A1 R : Type} (body : (A1 → Option R) → A1 → Option R) : Nat → A1 → Option R
  | 0 => fun _ => none
  | n + 1 => body (wh1 body n)
theorem wh1_ok {A1 R : Type} {body : (A1 → Option R) → A1 → Option R} {x : R} {P : A1 → Prop} (hs : ∀ self : A1 → Option R, (∀ a1, self a1 = some x → P a1) → ∀ a1, body self a1 = some x → P a1) : ∀ (n : Nat) (a1 : A1), wh1 body n a1 = some x → P a1 := by
  intro n
  induction n with
  | zero => intro a1 h; cases h
  | succ n ih => intro a1 h; exact hs _ ih a1 h
theorem wh1_run {A1 R : Type} {body : (A1 → Option R) → A1 → Option R} {x : Option R} (sa1 : Nat → A1) (N : Nat) (hs : ∀ i, i < N → ∀ self : A1 → Option R, body self (sa1 (i)) = self (sa1 (i + 1))) (hx : ∀ self : A1 → Option R, body self (sa1 (N)) = x) : ∀ (n i : Nat), i ≤ N → N < i + n → wh1 body n (sa1 (i)) = x := by
  intro n
  induction n with
  | zero => intro i h1 h2; omega
  | succ n ih =>
    intro i h1 h2
    show body (wh1 body n) (sa1 (i)) = x
    rcases Nat.lt_or_ge i N with hl | hl
    · rw [hs i hl]; exact ih (i + 1) hl (by omega)
    · have e : i = N := Nat.le_antisymm h1 hl
      rw [e]; exact hx _
def jn2 {A1 A2 R : Type} (K : A1 → A2 → Option R) (f : (A1 → A2 → Option R) → Option R) : Option R := f K
theorem jn2_ok {A1 A2 R : Type} {K : A1 → A2 → Option R} {f : (A1 → A2 → Option R) → Option R} {x : R} {P : A1 → A2 → Prop} {G : Prop} (hK : ∀ a1 a2, K a1 a2 = some x → P a1 a2) (hb : ∀ J : A1 → A2 → Option R, (∀ a1 a2, J a1 a2 = some x → P a1 a2) → f J = some x → G) (h : jn2 K f = some x) : G := hb K hK h
def wh2 {A1 A2 R : Type} (body : (A1 → A2 → Option R) → A1 → A2 → Option R) : Nat → A1 → A2 → Option R
  | 0 => fun _ _ => none
  | n + 1 => body (wh2 body n)
theorem wh2_ok {A1 A2 R : Type} {body : (A1 → A2 → Option R) → A1 → A2 → Option R} {x : R} {P : A1 → A2 → Prop} (hs : ∀ self : A1 → A2 → Option R, (∀ a1 a2, self a1 a2 = some x → P a1 a2) → ∀ a1 a2, body self a1 a2 = some x → P a1 a2) : ∀ (n : Nat) (a1 : A1) (a2 : A2), wh2 body n a1 a2 = some x → P a1 a2 := by
  intro n
  induction n with
  | zero => intro a1 a2 h; cases h
  | succ n ih => intro a1 a2 h; exact hs _ ih a1 a2 h
theorem wh2_run {A1 A2 R : Type} {body : (A1 → A2 → Option R) → A1 → A2 → Option R} {x : Option R} (sa1 : Nat → A1) (sa2 : Nat → A2) (N : Nat) (hs : ∀ i, i < N → ∀ self : A1 → A2 → Option R, body self (sa1 (i)) (sa2 (i)) = self (sa1 (i + 1)) (sa2 (i + 1))) (hx : ∀ self : A1 → A2 → Option R, body self (sa1 (N)) (sa2 (N)) = x) : ∀ (n i : Nat), i ≤ N → N < i + n → wh2 body n (sa1 (i)) (sa2 (i)) = x := by
  intro n
  induction n with
  | zero => intro i h1 h2; omega
  | succ n ih =>
    intro i h1 h2
    show body (wh2 body n) (sa1 (i)) (sa2 (i)) = x
    rcases Nat.lt_or_ge i N with hl | hl
    · rw [hs i hl]; exact ih (i + 1) hl (by omega)
    · have e : i = N := Nat.le_antisymm h1 hl
      rw [e]; exact hx _
def jn3 {A1 A2 A3 R : Type} (K : A1 → A2 → A3 → Option R) (f : (A1 → A2 → A3 → Option R) → Option R) : Option R := f K
theorem jn3_ok {A1 A2 A3 R : Type} {K : A1 → A2 → A3 → Option R} {f : (A1 → A2 → A3 → Option R) → Option R} {x : R} {P : A1 → A2 → A3 → Prop} {G : Prop} (hK : ∀ a1 a2 a3, K a1 a2 a3 = some x → P a1 a2 a3) (hb : ∀ J : A1 → A2 → A3 → Option R, (∀ a1 a2 a3, J a1 a2 a3 = some x → P a1 a2 a3) → f J = some x → G) (h : jn3 K f = some x) : G := hb K hK h
def wh3 {A1 A2 A3 R : Type} (body : (A1 → A2 → A3 → Option R) → A1 → A2 → A3 → Option R) : Nat → A1 → A2 → A3 → Option R
  | 0 => fun _ _ _ => none
  | n + 1 => body (wh3 body n)
theorem wh3_ok {A1 A2 A3 R : Type} {body : (A1 → A2 → A3 → Option R) → A1 → A2 → A3 → Option R} {x : R} {P : A1 → A2 → A3 → Prop} (hs : ∀ self : A1 → A2 → A3 → Option R, (∀ a1 a2 a3, self a1 a2 a3 = some x → P a1 a2 a3) → ∀ a1 a2 a3, body self a1 a2 a3 = some x → P a1 a2 a3) : ∀ (n : Nat) (a1 : A1) (a2 : A2) (a3 : A3), wh3 body n a1 a2 a3 = some x → P a1 a2 a3 := by
  intro n
  induction n with
  | zero => intro a1 a2 a3 h; cases h
  | succ n ih => intro a1 a2 a3 h; exact hs _ ih a1 a2 a3 h
theorem wh3_run {A1 A2 A3 R : Type} {body : (A1 → A2 → A3 → Option R) → A1 → A2 → A3 → Option R} {x : Option R} (sa1 : Nat → A1) (sa2 : Nat → A2) (sa3 : Nat → A3) (N : Nat) (hs : ∀ i, i < N → ∀ self : A1 → A2 → A3 → Option R, body self (sa1 (i)) (sa2 (i)) (sa3 (i)) = self (sa1 (i + 1)) (sa2 (i + 1)) (sa3 (i + 1))) (hx : ∀ self : A1 → A2 → A3 → Option R, body self (sa1 (N)) (sa2 (N)) (sa3 (N)) = x) : ∀ (n i : Nat), i ≤ N → N < i + n → wh3 body n (sa1 (i)) (sa2 (i)) (sa3 (i)) = x := by
  intro n
  induction n with
  | zero => intro i h1 h2; omega
  | succ n ih =>
    intro i h1 h2
    show body (wh3 body n) (sa1 (i)) (sa2 (i)) (sa3 (i)) = x
    rcases Nat.lt_or_ge i N with hl | hl
    · rw [hs i hl]; exact ih (i + 1) hl (by omega)
    · have e : i = N := Nat.le_antisymm h1 hl
      rw [e]; exact hx _
def jn4 {A1 A2 A3 A4 R : Type} (K : A1 → A2 → A3 → A4 → Option R) (f : (A1 → A2 → A3 → A4 → Option R) → Option R) : Option R := f K
theorem jn4_ok {A1 A2 A3 A4 R : Type} {K : A1 → A2 → A3 → A4 → Option R} {f : (A1 → A2 → A3 → A4 → Option R) → Option R} {x : R} {P : A1 → A2 → A3 → A4 → Prop} {G : Prop} (hK : ∀ a1 a2 a3 a4, K a1 a2 a3 a4 = some x → P a1 a2 a3 a4) (hb : ∀ J : A1 → A2 → A3 → A4 → Option R, (∀ a1 a2 a3 a4, J a1 a2 a3 a4 = some x → P a1 a2 a3 a4) → f J = some x → G) (h : jn4 K f = some x) : G := hb K hK h
def wh4 {A1 A2 A3 A4 R : Type} (body : (A1 → A2 → A3 → A4 → Option R) → A1 → A2 → A3 → A4 → Option R) : Nat → A1 → A2 → A3 → A4 → Option R
  | 0 => fun _ _ _ _ => none
  | n + 1 => body (wh4 body n)
theorem wh4_ok {A1 A2 A3 A4 R : Type} {body : (A1 → A2 → A3 → A4 → Option R) → A1 → A2 → A3 → A4 → Option R} {x : R} {P : A1 → A2 → A3 → A4 → Prop} (hs : ∀ self : A1 → A2 → A3 → A4 → Option R, (∀ a1 a2 a3 a4, self a1 a2 a3 a4 = some x → P a1 a2 a3 a4) → ∀ a1 a2 a3 a4, body self a1 a2 a3 a4 = some x → P a1 a2 a3 a4) : ∀ (n : Nat) (a1 : A1) (a2 : A2) (a3 : A3) (a4 : A4), wh4 body n a1 a2 a3 a4 = some x → P a1 a2 a3 a4 := by
  intro n
  induction n with
  | zero => intro a1 a2 a3 a4 h; cases h
  | succ n ih => intro a1 a2 a3 a4 h; exact hs _ ih a1 a2 a3 a4 h
theorem wh4_run {A1 A2 A3 A4 R : Type} {body : (A1 → A2 → A3 → A4 → Option R) → A1 → A2 → A3 → A4 → Option R} {x : Option R} (sa1 : Nat → A1) (sa2 : Nat → A2) (sa3 : Nat → A3) (sa4 : Nat → A4) (N : Nat) (hs : ∀ i, i < N → ∀ self : A1 → A2 → A3 → A4 → Option R, body self (sa1 (i)) (sa2 (i)) (sa3 (i)) (sa4 (i)) = self (sa1 (i + 1)) (sa2 (i + 1)) (sa3 (i + 1)) (sa4 (i + 1))) (hx : ∀ self : A1 → A2 → A3 → A4 → Option R, body self (sa1 (N)) (sa2 (N)) (sa3 (N)) (sa4 (N)) = x) : ∀ (n i : Nat), i ≤ N → N < i + n → wh4 body n (sa1 (i)) (sa2 (i)) (sa3 (i)) (sa4 (i)) = x := by
  intro n
  induction n with
  | zero => intro i h1 h2; omega
  | succ n ih =>
    intro i h1 h2
    show body (wh4 body n) (sa1 (i)) (sa2 (i)) (sa3 (i)) (sa4 (i)) = x
    rcases Nat.lt_or_ge i N with hl | hl
    · rw [hs i hl]; exact ih (i + 1) hl (by omega)
    · have e : i = N := Nat.le_antisymm h1 hl
      rw [e]; exact hx _
def jn5 {A1 A2 A3 A4 A5 R : Type} (K : A1 → A2 → A3 → A4 → A5 → Option R) (f : (A1 → A2 → A3 → A4 → A5 → Option R) → Option R) : Option R := f K
theorem jn5_ok {A1 A2 A3 A4 A5 R : Type} {K : A1 → A2 → A3 → A4 → A5 → Option R} {f : (A1 → A2 → A3 → A4 → A5 → Option R) → Option R} {x : R} {P : A1 → A2 → A3 → A4 → A5 → Prop} {G : Prop} (hK : ∀ a1 a2 a3 a4 a5, K a1 a2 a3 a4 a5 = some x → P a1 a2 a3 a4 a5) (hb : ∀ J : A1 → A2 → A3 → A4 → A5 → Option R, (∀ a1 a2 a3 a4 a5, J a1 a2 a3 a4 a5 = some x → P a1 a2 a3 a4 a5) → f J = some x → G) (h : jn5 K f = some x) : G := hb K hK h
def wh5 {A1 A2 A3 A4 A5 R : Type} (body : (A1 → A2 → A3 → A4 → A5 → Option R) → A1 → A2 → A3 → A4 → A5 → Option R) : Nat → A1 → A2 → A3 → A4 → A5 → Option R
  | 0 => fun _ _ _ _ _ => none
  | n + 1 => body (wh5 body n)
theorem wh5_ok {A1 A2 A3 A4 A5 R : Type} {body : (A1 → A2 → A3 → A4 → A5 → Option R) → A1 → A2 → A3 → A4 → A5 → Option R} {x : R} {P : A1 → A2 → A3 → A4 → A5 → Prop} (hs : ∀ self : A1 → A2 → A3 → A4 → A5 → Option R, (∀ a1 a2 a3 a4 a5, self a1 a2 a3 a4 a5 = some x → P a1 a2 a3 a4 a5) → ∀ a1 a2 a3 a4 a5, body self a1 a2 a3 a4 a5 = some x → P a1 a2 a3 a4 a5) : ∀ (n : Nat) (a1 : A1) (a2 : A2) (a3 : A3) (a4 : A4) (a5 : A5), wh5 body n a1 a2 a3 a4 a5 = some x → P a1 a2 a3 a4 a5 := by
  intro n
  induction n with
  | zero => intro a1 a2 a3 a4 a5 h; cases h
  | succ n ih => intro a1 a2 a3 a4 a5 h; exact hs _ ih a1 a2 a3 a4 a5 h
theorem wh5_run {A1 A2 A3 A4 A5 R : Type} {body : (A1 → A2 → A3 → A4 → A5 → Option R) → A1 → A2 → A3 → A4 → A5 → Option R} {x : Option R} (sa1 : Nat → A1) (sa2 : Nat → A2) (sa3 : Nat → A3) (sa4 : Nat → A4) (sa5 : Nat → A5) (N : Nat) (hs : ∀ i, i < N → ∀ self : A1 → A2 → A3 → A4 → A5 → Option R, body self (sa1 (i)) (sa2 (i)) (sa3 (i)) (sa4 (i)) (sa5 (i)) = self (sa1 (i + 1)) (sa2 (i + 1)) (sa3 (i + 1)) (sa4 (i + 1)) (sa5 (i + 1))) (hx : ∀ self : A1 → A2 → A3 → A4 → A5 → Option R, body self (sa1 (N)) (sa2 (N)) (sa3 (N)) (sa4 (N)) (sa5 (N)) = x) : ∀ (n i : Nat), i ≤ N → N < i + n → wh5 body n (sa1 (i)) (sa2 (i)) (sa3 (i)) (sa4 (i)) (sa5 (i)) = x := by
  intro n
  induction n with
  | zero => intro i h1 h2; omega
  | succ n ih =>
    intro i h1 h2
    show body (wh5 body n) (sa1 (i)) (sa2 (i)) (sa3 (i)) (sa4 (i)) (sa5 (i)) = x
    rcases Nat.lt_or_ge i N with hl | hl
    · rw [hs i hl]; exact ih (i + 1) hl (by omega)
    · have e : i = N := Nat.le_antisymm h1 hl
      rw [e]; exact hx _
def jn6 {A1 A2 A3 A4 A5 A6 R : Type} (K : A1 → A2 → A3 → A4 → A5 → A6 → Option R) (f : (A1 → A2 → A3 → A4 → A5 → A6 → Option R) → Option R) : Option R := f K
theorem jn6_ok {A1 A2 A3 A4 A5 A6 R : Type} {K : A1 → A2 → A3 → A4 → A5 → A6 → Option R} {f : (A1 → A2 → A3 → A4 → A5 → A6 → Option R) → Option R} {x : R} {P : A1 → A2 → A3 → A4 → A5 → A6 → Prop} {G : Prop} (hK : ∀ a1 a2 a3 a4 a5 a6, K a1 a2 a3 a4 a5 a6 = some x → P a1 a2 a3 a4 a5 a6) (hb : ∀ J : A1 → A2 → A3 → A4 → A5 → A6 → Option R, (∀ a1 a2 a3 a4 a5 a6, J a1 a2 a3 a4 a5 a6 = some x → P a1 a2 a3 a4 a5 a6) → f J = some x → G) (h : jn6 K f = some x) : G := hb K hK h
def wh6 {A1 A2 A3 A4 A5 A6 R : Type} (body : (A1 → A2 → A3 → A4 → A5 → A6 → Option R) → A1 → A2 → A3 → A4 → A5 → A6 → Option R) : Nat → A1 → A2 → A3 → A4 → A5 → A6 → Option R
  | 0 => fun _ _ _ _ _ _ => none
  | n + 1 => body (wh6 body n)
theorem wh6_ok {A1 A2 A3 A4 A5 A6 R : Type} {body : (A1 → A2 → A3 → A4 → A5 → A6 → Option R) → A1 → A2 → A3 → A4 → A5 → A6 → Option R} {x : R} {P : A1 → A2 → A3 → A4 → A5 → A6 → Prop} (hs : ∀ self : A1 → A2 → A3 → A4 → A5 → A6 → Option R, (∀ a1 a2 a3 a4 a5 a6, self a1 a2 a3 a4 a5 a6 = some x → P a1 a2 a3 a4 a5 a6) → ∀ a1 a2 a3 a4 a5 a6, body self a1 a2 a3 a4 a5 a6 = some x → P a1 a2 a3 a4 a5 a6) : ∀ (n : Nat) (a1 : A1) (a2 : A2) (a3 : A3) (a4 : A4) (a5 : A5) (a6 : A6), wh6 body n a1 a2 a3 a4 a5 a6 = some x → P a1 a2 a3 a4 a5 a6 := by
  intro n
  induction n with
  | zero => intro a1 a2 a3 a4 a5 a6 h; cases h
  | succ n ih => intro a1 a2 a3 a4 a5 a6 h; exact hs _ ih a1 a2 a3 a4 a5 a6 h
theorem wh6_run {A1 A2 A3 A4 A5 A6 R : Type} {body : (A1 → A2 → A3 → A4 → A5 → A6 → Option R) → A1 → A2 → A3 → A4 → A5 → A6 → Option R} {x : Option R} (sa1 : Nat → A1) (sa2 : Nat → A2) (sa3 : Nat → A3) (sa4 : Nat → A4) (sa5 : Nat → A5) (sa6 : Nat → A6) (N : Nat) (hs : ∀ i, i < N → ∀ self : A1 → A2 → A3 → A4 → A5 → A6 → Option R, body self (sa1 (i)) (sa2 (i)) (sa3 (i)) (sa4 (i)) (sa5 (i)) (sa6 (i)) = self (sa1 (i + 1)) (sa2 (i + 1)) (sa3 (i + 1)) (sa4 (i + 1)) (sa5 (i + 1)) (sa6 (i + 1))) (hx : ∀ self : A1 → A2 → A3 → A4 → A5 → A6 → Option R, body self (sa1 (N)) (sa2 (N)) (sa3 (N)) (sa4 (N)) (sa5 (N)) (sa6 (N)) = x) : ∀ (n i : Nat), i ≤ N → N < i + n → wh6 body n (sa1 (i)) (sa2 (i)) (sa3 (i)) (sa4 (i)) (sa5 (i)) (sa6 (i)) = x := by
  intro n
  induction n with
  | zero => intro i h1 h2; omega
  | succ n ih =>
    intro i h1 h2
    show body (wh6 body n) (sa1 (i)) (sa2 (i)) (sa3 (i)) (sa4 (i)) (sa5 (i)) (sa6 (i)) = x
    rcases Nat.lt_or_ge i N with hl | hl
    · rw [hs i hl]; exact ih (i + 1) hl (by omega)
    · have e : i = N := Nat.le_antisymm h1 hl
      rw [e]; exact hx _
def jn7 {A1 A2 A3 A4 A5 A6 A7 R : Type} (K : A1 → A2 → A3 → A4 → A5 → A6 → A7 → Option R) (f : (A1 → A2 → A3 → A4 → A5 → A6 → A7 → Option R) → Option R) : Option R := f K
theorem jn7_ok {A1 A2 A3 A4 A5 A6 A7 R : Type} {K : A1 → A2 → A3 → A4 → A5 → A6 → A7 → Option R} {f : (A1 → A2 → A3 → A4 → A5 → A6 → A7 → Option R) → Option R} {x : R} {P : A1 → A2 → A3 → A4 → A5 → A6 → A7 → Prop} {G : Prop} (hK : ∀ a1 a2 a3 a4 a5 a6 a7, K a1 a2 a3 a4 a5 a6 a7 = some x → P a1 a2 a3 a4 a5 a6 a7) (hb : ∀ J : A1 → A2 → A3 → A4 → A5 → A6 → A7 → Option R, (∀ a1 a2 a3 a4 a5 a6 a7, J a1 a2 a3 a4 a5 a6 a7 = some x → P a1 a2 a3 a4 a5 a6 a7) → f J = some x → G) (h : jn7 K f = some x) : G := hb K hK h
def wh7 {A1 A2 A3 A4 A5 A6 A7 R : Type} (body : (A1 → A2 → A3 → A4 → A5 → A6 → A7 → Option R) → A1 → A2 → A3 → A4 → A5 → A6 → A7 → Option R) : Nat → A1 → A2 → A3 → A4 → A5 → A6 → A7 → Option R
  | 0 => fun _ _ _ _ _ _ _ => none
  | n + 1 => body (wh7 body n)
theorem wh7_ok {A1 A2 A3 A4 A5 A6 A7 R : Type} {body : (A1 → A2 → A3 → A4 → A5 → A6 → A7 → Option R) → A1 → A2 → A3 → A4 → A5 → A6 → A7 → Option R} {x : R} {P : A1 → A2 → A3 → A4 → A5 → A6 → A7 → Prop} (hs : ∀ self : A1 → A2 → A3 → A4 → A5 → A6 → A7 → Option R, (∀ a1 a2 a3 a4 a5 a6 a7, self a1 a2 a3 a4 a5 a6 a7 = some x → P a1 a2 a3 a4 a5 a6 a7) → ∀ a1 a2 a3 a4 a5 a6 a7, body self a1 a2 a3 a4 a5 a6 a7 = some x → P a1 a2 a3 a4 a5 a6 a7) : ∀ (n : Nat) (a1 : A1) (a2 : A2) (a3 : A3) (a4 : A4) (a5 : A5) (a6 : A6) (a7 : A7), wh7 body n a1 a2 a3 a4 a5 a6 a7 = some x → P a1 a2 a3 a4 a5 a6 a7 := by
  intro n
  induction n with
  | zero => intro a1 a2 a3 a4 a5 a6 a7 h; cases h
  | succ n ih => intro a1 a2 a3 a4 a5 a6 a7 h; exact hs _ ih a1 a2 a3 a4 a5 a6 a7 h
theorem wh7_run {A1 A2 A3 A4 A5 A6 A7 R : Type} {body : (A1 → A2 → A3 → A4 → A5 → A6 → A7 → Option R) → A1 → A2 → A3 → A4 → A5 → A6 → A7 → Option R} {x : Option R} (sa1 : Nat → A1) (sa2 : Nat → A2) (sa3 : Nat → A3) (sa4 : Nat → A4) (sa5 : Nat → A5) (sa6 : Nat → A6) (sa7 : Nat → A7) (N : Nat) (hs : ∀ i, i < N → ∀ self : A1 → A2 → A3 → A4 → A5 → A6 → A7 → Option R, body self (sa1 (i)) (sa2 (i)) (sa3 (i)) (sa4 (i)) (sa5 (i)) (sa6 (i)) (sa7 (i)) = self (sa1 (i + 1)) (sa2 (i + 1)) (sa3 (i + 1)) (sa4 (i + 1)) (sa5 (i + 1)) (sa6 (i + 1)) (sa7 (i + 1))) (hx : ∀ self : A1 → A2 → A3 → A4 → A5 → A6 → A7 → Option R, body self (sa1 (N)) (sa2 (N)) (sa3 (N)) (sa4 (N)) (sa5 (N)) (sa6 (N)) (sa7 (N)) = x) : ∀ (n i : Nat), i ≤ N → N < i + n → wh7 body n (sa1 (i)) (sa2 (i)) (sa3 (i)) (sa4 (i)) (sa5 (i)) (sa6 (i)) (sa7 (i)) = x := by
  intro n
  induction n with
  | zero => intro i h1 h2; omega
  | succ n ih =>
    intro i h1 h2
    show body (wh7 body n) (sa1 (i)) (sa2 (i)) (sa3 (i)) (sa4 (i)) (sa5 (i)) (sa6 (i)) (sa7 (i)) = x
    rcases Nat.lt_or_ge i N with hl | hl
    · rw [hs i hl]; exact ih (i + 1) hl (by omega)
    · have e : i = N := Nat.le_antisymm h1 hl
      rw [e]; exact hx _
def jn8 {A1 A2 A3 A4 A5 A6 A7 A8 R : Type} (K : A1 → A2 → A3 → A4 → A5 → A6 → A7 → A8 → Option R) (f : (A1 → A2 → A3 → A4 → A5 → A6 → A7 → A8 → Option R) → Option R) : Option R := f K
theorem jn8_ok {A1 A2 A3 A4 A5 A6 A7 A8 R : Type} {K : A1 → A2 → A3 → A4 → A5 → A6 → A7 → A8 → Option R} {f : (A1 → A2 → A3 → A4 → A5 → A6 → A7 → A8 → Option R) → Option R} {x : R} {P : A1 → A2 → A3 → A4 → A5 → A6 → A7 → A8 → Prop} {G : Prop} (hK : ∀ a1 a2 a3 a4 a5 a6 a7 a8, K a1 a2 a3 a4 a5 a6 a7 a8 = some x → P a1 a2 a3 a4 a5 a6 a7 a8) (hb : ∀ J : A1 → A2 → A3 → A4 → A5 → A6 → A7 → A8 → Option R, (∀ a1 a2 a3 a4 a5 a6 a7 a8, J a1 a2 a3 a4 a5 a6 a7 a8 = some x → P a1 a2 a3 a4 a5 a6 a7 a8) → f J = some x → G) (h : jn8 K f = some x) : G := hb K hK h
def wh8 {A1 A2 A3 A4 A5 A6 A7 A8 R : Type} (body : (A1 → A2 → A3 → A4 → A5 → A6 → A7 → A8 → Option R) → A1 → A2 → A3 → A4 → A5 → A6 → A7 → A8 → Option R) : Nat → A1 → A2 → A3 → A4 → A5 → A6 → A7 → A8 → Option R
  | 0 => fun _ _ _ _ _ _ _ _ => none
  | n + 1 => body (wh8 body n)
theorem wh8_ok {A1 A2 A3 A4 A5 A6 A7 A8 R : Type} {body : (A1 → A2 → A3 → A4 → A5 → A6 → A7 → A8 → Option R) → A1 → A2 → A3 → A4 → A5 → A6 → A7 → A8 → Option R} {x : R} {P : A1 → A2 → A3 → A4 → A5 → A6 → A7 → A8 → Prop} (hs : ∀ self : A1 → A2 → A3 → A4 → A5 → A6 → A7 → A8 → Option R, (∀ a1 a2 a3 a4 a5 a6 a7 a8, self a1 a2 a3 a4 a5 a6 a7 a8 = some x → P a1 a2 a3 a4 a5 a6 a7 a8) → ∀ a1 a2 a3 a4 a5 a6 a7 a8, body self a1 a2 a3 a4 a5 a6 a7 a8 = some x → P a1 a2 a3 a4 a5 a6 a7 a8) : ∀ (n : Nat) (a1 : A1) (a2 : A2) (a3 : A3) (a4 : A4) (a5 : A5) (a6 : A6) (a7 : A7) (a8 : A8), wh8 body n a1 a2 a3 a4 a5 a6 a7 a8 = some x → P a1 a2 a3 a4 a5 a6 a7 a8 := by
  intro n
  induction n with
  | zero => intro a1 a2 a3 a4 a5 a6 a7 a8 h; cases h
  | succ n ih => intro a1 a2 a3 a4 a5 a6 a7 a8 h; exact hs _ ih a1 a2 a3 a4 a5 a6 a7 a8 h
theorem wh8_run {A1 A2 A3 A4 A5 A6 A7 A8 R : Type} {body : (A1 → A2 → A3 → A4 → A5 → A6 → A7 → A8 → Option R) → A1 → A2 → A3 → A4 → A5 → A6 → A7 → A8 → Option R} {x : Option R} (sa1 : Nat → A1) (sa2 : Nat → A2) (sa3 : Nat → A3) (sa4 : Nat → A4) (sa5 : Nat → A5) (sa6 : Nat → A6) (sa7 : Nat → A7) (sa8 : Nat → A8) (N : Nat) (hs : ∀ i, i < N → ∀ self : A1 → A2 → A3 → A4 → A5 → A6 → A7 → A8 → Option R, body self (sa1 (i)) (sa2 (i)) (sa3 (i)) (sa4 (i)) (sa5 (i)) (sa6 (i)) (sa7 (i)) (sa8 (i)) = self (sa1 (i + 1)) (sa2 (i + 1)) (sa3 (i + 1)) (sa4 (i + 1)) (sa5 (i + 1)) (sa6 (i + 1)) (sa7 (i + 1)) (sa8 (i + 1))) (hx : ∀ self : A1 → A2 → A3 → A4 → A5 → A6 → A7 → A8 → Option R, body self (sa1 (N)) (sa2 (N)) (sa3 (N)) (sa4 (N)) (sa5 (N)) (sa6 (N)) (sa7 (N)) (sa8 (N)) = x) : ∀ (n i : Nat), i ≤ N → N < i + n → wh8 body n (sa1 (i)) (sa2 (i)) (sa3 (i)) (sa4 (i)) (sa5 (i)) (sa6 (i)) (sa7 (i)) (sa8 (i)) = x := by
  intro n
  induction n with
  | zero => intro i h1 h2; omega
  | succ n ih =>
    intro i h1 h2
    show body (wh8 body n) (sa1 (i)) (sa2 (i)) (sa3 (i)) (sa4 (i)) (sa5 (i)) (sa6 (i)) (sa7 (i)) (sa8 (i)) = x
    rcases Nat.lt_or_ge i N with hl | hl
    · rw [hs i hl]; exact ih (i + 1) hl (by omega)
    · have e : i = N := Nat.le_antisymm h1 hl
      rw [e]; exact hx _
def jn9 {A1 A2 A3 A4 A5 A6 A7 A8 A9 R : Type} (K : A1 → A2 → A3 → A4 → A5 → A6 → A7 → A8 → A9 → Option R) (f : (A1 → A2 → A3 → A4 → A5 → A6 → A7 → A8 → A9 → Option R) → Option R) : Option R := f K
theorem jn9_ok {A1 A2 A3 A4 A5 A6 A7 A8 A9 R : Type} {K : A1 → A2 → A3 → A4 → A5 → A6 → A7 → A8 → A9 → Option R} {f : (A1 → A2 → A3 → A4 → A5 → A6 → A7 → A8 → A9 → Option R) → Option R} {x : R} {P : A1 → A2 → A3 → A4 → A5 → A6 → A7 → A8 → A9 → Prop} {G : Prop} (hK : ∀ a1 a2 a3 a4 a5 a6 a7 a8 a9, K a1 a2 a3 a4 a5 a6 a7 a8 a9 = some x → P a1 a2 a3 a4 a5 a6 a7 a8 a9) (hb : ∀ J : A1 → A2 → A3 → A4 → A5 → A6 → A7 → A8 → A9 → Option R, (∀ a1 a2 a3 a4 a5 a6 a7 a8 a9, J a1 a2 a3 a4 a5 a6 a7 a8 a9 = some x → P a1 a2 a3 a4 a5 a6 a7 a8 a9) → f J = some x → G) (h : jn9 K f = some x) : G := hb K hK h
def wh9 {A1 A2 A3 A4 A5 A6 A7 A8 A9 R : Type} (body : (A1 → A2 → A3 → A4 → A5 → A6 → A7 → A8 → A9 → Option R) → A1 → A2 → A3 → A4 → A5 → A6 → A7 → A8 → A9 → Option R) : Nat → A1 → A2 → A3 → A4 → A5 → A6 → A7 → A8 → A9 → Option R
  | 0 => fun _ _ _ _ _ _ _ _ _ => none
  | n + 1 => body (wh9 body n)
theorem wh9_ok {A1 A2 A3 A4 A5 A6 A7 A8 A9 R : Type} {body : (A1 → A2 → A3 → A4 → A5 → A6 → A7 → A8 → A9 → Option R) → A1 → A2 → A3 → A4 → A5 → A6 → A7 → A8 → A9 → Option R} {x : R} {P : A1 → A2 → A3 → A4 → A5 → A6 → A7 → A8 → A9 → Prop} (hs : ∀ self : A1 → A2 → A3 → A4 → A5 → A6 → A7 → A8 → A9 → Option R, (∀ a1 a2 a3 a4 a5 a6 a7 a8 a9, self a1 a2 a3 a4 a5 a6 a7 a8 a9 = some x → P a1 a2 a3 a4 a5 a6 a7 a8 a9) → ∀ a1 a2 a3 a4 a5 a6 a7 a8 a9, body self a1 a2 a3 a4 a5 a6 a7 a8 a9 = some x → P a1 a2 a3 a4 a5 a6 a7 a8 a9) : ∀ (n : Nat) (a1 : A1) (a2 : A2) (a3 : A3) (a4 : A4) (a5 : A5) (a6 : A6) (a7 : A7) (a8 : A8) (a9 : A9), wh9 body n a1 a2 a3 a4 a5 a6 a7 a8 a9 = some x → P a1 a2 a3 a4 a5 a6 a7 a8 a9 := by
  intro n
  induction n with
  | zero => intro a1 a2 a3 a4 a5 a6 a7 a8 a9 h; cases h
  | succ n ih => intro a1 a2 a3 a4 a5 a6 a7 a8 a9 h; exact hs _ ih a1 a2 a3 a4 a5 a6 a7 a8 a9 h
theorem wh9_run {A1 A2 A3 A4 A5 A6 A7 A8 A9 R : Type} {body : (A1 → A2 → A3 → A4 → A5 → A6 → A7 → A8 → A9 → Option R) → A1 → A2 → A3 → A4 → A5 → A6 → A7 → A8 → A9 → Option R} {x : Option R} (sa1 : Nat → A1) (sa2 : Nat → A2) (sa3 : Nat → A3) (sa4 : Nat → A4) (sa5 : Nat → A5) (sa6 : Nat → A6) (sa7 : Nat → A7) (sa8 : Nat → A8) (sa9 : Nat → A9) (N : Nat) (hs : ∀ i, i < N → ∀ self : A1 → A2 → A3 → A4 → A5 → A6 → A7 → A8 → A9 → Option R, body self (sa1 (i)) (sa2 (i)) (sa3 (i)) (sa4 (i)) (sa5 (i)) (sa6 (i)) (sa7 (i)) (sa8 (i)) (sa9 (i)) = self (sa1 (i + 1)) (sa2 (i + 1)) (sa3 (i + 1)) (sa4 (i + 1)) (sa5 (i + 1)) (sa6 (i + 1)) (sa7 (i + 1)) (sa8 (i + 1)) (sa9 (i + 1))) (hx : ∀ self : A1 → A2 → A3 → A4 → A5 → A6 → A7 → A8 → A9 → Option R, body self (sa1 (N)) (sa2 (N)) (sa3 (N)) (sa4 (N)) (sa5 (N)) (sa6 (N)) (sa7 (N)) (sa8 (N)) (sa9 (N)) = x) : ∀ (n i : Nat), i ≤ N → N < i + n → wh9 body n (sa1 (i)) (sa2 (i)) (sa3 (i)) (sa4 (i)) (sa5 (i)) (sa6 (i)) (sa7 (i)) (sa8 (i)) (sa9 (i)) = x := by
  intro n
  induction n with
  | zero => intro i h1 h2; omega
  | succ n ih =>
    intro i h1 h2
    show body (wh9 body n) (sa1 (i)) (sa2 (i)) (sa3 (i)) (sa4 (i)) (sa5 (i)) (sa6 (i)) (sa7 (i)) (sa8 (i)) (sa9 (i)) = x
    rcases Nat.lt_or_ge i N with hl | hl
    · rw [hs i hl]; exact ih (i + 1) hl (by omega)
    · have e : i = N := Nat.le_antisymm h1 hl
      rw [e]; exact hx _
def jn10 {A1 A2 A3 A4 A5 A6 A7 A8 A9 A10 R : Type} (K : A1 → A2 → A3 → A4 → A5 → A6 → A7 → A8 → A9 → A10 → Option R) (f : (A1 → A2 → A3 → A4 → A5 → A6 → A7 → A8 → A9 → A10 → Option R) → Option R) : Option R := f K
theorem jn10_ok {A1 A2 A3 A4 A5 A6 A7 A8 A9 A10 R : Type} {K : A1 → A2 → A3 → A4 → A5 → A6 → A7 → A8 → A9 → A10 → Option R} {f : (A1 → A2 → A3 → A4 → A5 → A6 → A7 → A8 → A9 → A10 → Option R) → Option R} {x : R} {P : A1 → A2 → A3 → A4 → A5 → A6 → A7 → A8 → A9 → A10 → Prop} {G : Prop} (hK : ∀ a1 a2 a3 a4 a5 a6 a7 a8 a9 a10, K a1 a2 a3 a4 a5 a6 a7 a8 a9 a10 = some x → P a1 a2 a3 a4 a5 a6 a7 a8 a9 a10) (hb : ∀ J : A1 → A2 → A3 → A4 → A5 → A6 → A7 → A8 → A9 → A10 → Option R, (∀ a1 a2 a3 a4 a5 a6 a7 a8 a9 a10, J a1 a2 a3 a4 a5 a6 a7 a8 a9 a10 = some x → P a1 a2 a3 a4 a5 a6 a7 a8 a9 a10) → f J = some x → G) (h : jn10 K f = some x) : G := hb K hK h
def wh10 {A1 A2 A3 A4 A5 A6 A7 A8 A9 A10 R : Type} (body : (A1 → A2 → A3 → A4 → A5 → A6 → A7 → A8 → A9 → A10 → Option R) → A1 → A2 → A3 → A4 → A5 → A6 → A7 → A8 → A9 → A10 → Option R) : Nat → A1 → A2 → A3 → A4 → A5 → A6 → A7 → A8 → A9 → A10 → Option R
  | 0 => fun _ _ _ _ _ _ _ _ _ _ => none
  | n + 1 => body (wh10 body n)
theorem wh10_ok {A1 A2 A3 A4 A5 A6 A7 A8 A9 A10 R : Type} {body : (A1 → A2 → A3 → A4 → A5 → A6 → A7 → A8 → A9 → A10 → Option R) → A1 → A2 → A3 → A4 → A5 → A6 → A7 → A8 → A9 → A10 → Option R} {x : R} {P : A1 → A2 → A3 → A4 → A5 → A6 → A7 → A8 → A9 → A10 → Prop} (hs : ∀ self : A1 → A2 → A3 → A4 → A5 → A6 → A7 → A8 → A9 → A10 → Option R, (∀ a1 a2 a3 a4 a5 a6 a7 a8 a9 a10, self a1 a2 a3 a4 a5 a6 a7 a8 a9 a10 = some x → P a1 a2 a3 a4 a5 a6 a7 a8 a9 a10) → ∀ a1 a2 a3 a4 a5 a6 a7 a8 a9 a10, body self a1 a2 a3 a4 a5 a6 a7 a8 a9 a10 = some x → P a1 a2 a3 a4 a5 a6 a7 a8 a9 a10) : ∀ (n : Nat) (a1 : A1) (a2 : A2) (a3 : A3) (a4 : A4) (a5 : A5) (a6 : A6) (a7 : A7) (a8 : A8) (a9 : A9) (a10 : A10), wh10 body n a1 a2 a3 a4 a5 a6 a7 a8 a9 a10 = some x → P a1 a2 a3 a4 a5 a6 a7 a8 a9 a10 := by
  intro n
  induction n with
  | zero => intro a1 a2 a3 a4 a5 a6 a7 a8 a9 a10 h; cases h
  | succ n ih => intro a1 a2 a3 a4 a5 a6 a7 a8 a9 a10 h; exact hs _ ih a1 a2 a3 a4 a5 a6 a7 a8 a9 a10 h
theorem wh10_run {A1 A2 A3 A4 A5 A6 A7 A8 A9 A10 R : Type} {body : (A1 → A2 → A3 → A4 → A5 → A6 → A7 → A8 → A9 → A10 → Option R) → A1 → A2 → A3 → A4 → A5 → A6 → A7 → A8 → A9 → A10 → Option R} {x : Option R} (sa1 : Nat → A1) (sa2 : Nat → A2) (sa3 : Nat → A3) (sa4 : Nat → A4) (sa5 : Nat → A5) (sa6 : Nat → A6) (sa7 : Nat → A7) (sa8 : Nat → A8) (sa9 : Nat → A9) (sa10 : Nat → A10) (N : Nat) (hs : ∀ i, i < N → ∀ self : A1 → A2 → A3 → A4 → A5 → A6 → A7 → A8 → A9 → A10 → Option R, body self (sa1 (i)) (sa2 (i)) (sa3 (i)) (sa4 (i)) (sa5 (i)) (sa6 (i)) (sa7 (i)) (sa8 (i)) (sa9 (i)) (sa10 (i)) = self (sa1 (i + 1)) (sa2 (i + 1)) (sa3 (i + 1)) (sa4 (i + 1)) (sa5 (i + 1)) (sa6 (i + 1)) (sa7 (i + 1)) (sa8 (i + 1)) (sa9 (i + 1)) (sa10 (i + 1))) (hx : ∀ self : A1 → A2 → A3 → A4 → A5 → A6 → A7 → A8 → A9 → A10 → Option R, body self (sa1 (N)) (sa2 (N)) (sa3 (N)) (sa4 (N)) (sa5 (N)) (sa6 (N)) (sa7 (N)) (sa8 (N)) (sa9 (N)) (sa10 (N)) = x) : ∀ (n i : Nat), i ≤ N → N < i + n → wh10 body n (sa1 (i)) (sa2 (i)) (sa3 (i)) (sa4 (i)) (sa5 (i)) (sa6 (i)) (sa7 (i)) (sa8 (i)) (sa9 (i)) (sa10 (i)) = x := by
  intro n
  induction n with
  | zero => intro i h1 h2; omega
  | succ n ih =>
    intro i h1 h2
    show body (wh10 body n) (sa1 (i)) (sa2 (i)) (sa3 (i)) (sa4 (i)) (sa5 (i)) (sa6 (i)) (sa7 (i)) (sa8 (i)) (sa9 (i)) (sa10 (i)) = x
    rcases Nat.lt_or_ge i N with hl | hl
    · rw [hs i hl]; exact ih (i + 1) hl (by omega)
    · have e : i = N := Nat.le_antisymm h1 hl
      rw [e]; exact hx _
def jn11 {A1 A2 A3 A4 A5 A6 A7 A8 A9 A10 A11 R : Type} (K : A1 → A2 → A3 → A4 → A5 → A6 → A7 → A8 → A9 → A10 → A11 → Option R) (f : (A1 → A2 → A3 → A4 → A5 → A6 → A7 → A8 → A9 → A10 → A11 → Option R) → Option R) : Option R := f K
theorem jn11_ok {A1 A2 A3 A4 A5 A6 A7 A8 A9 A10 A11 R : Type} {K : A1 → A2 → A3 → A4 → A5 → A6 → A7 → A8 → A9 → A10 → A11 → Option R} {f : (A1 → A2 → A3 → A4 → A5 → A6 → A7 → A8 → A9 → A10 → A11 → Option R) → Option R} {x : R} {P : A1 → A2 → A3 → A4 → A5 → A6 → A7 → A8 → A9 → A10 → A11 → Prop} {G : Prop} (hK : ∀ a1 a2 a3 a4 a5 a6 a7 a8 a9 a10 a11, K a1 a2 a3 a4 a5 a6 a7 a8 a9 a10 a11 = some x → P a1 a2 a3 a4 a5 a6 a7 a8 a9 a10 a11) (hb : ∀ J : A1 → A2 → A3 → A4 → A5 → A6 → A7 → A8 → A9 → A10 → A11 → Option R, (∀ a1 a2 a3 a4 a5 a6 a7 a8 a9 a10 a11, J a1 a2 a3 a4 a5 a6 a7 a8 a9 a10 a11 = some x → P a1 a2 a3 a4 a5 a6 a7 a8 a9 a10 a11) → f J = some x → G) (h : jn11 K f = some x) : G := hb K hK h
def wh11 {A1 A2 A3 A4 A5 A6 A7 A8 A9 A10 A11 R : Type} (body : (A1 → A2 → A3 → A4 → A5 → A6 → A7 → A8 → A9 → A10 → A11 → Option R) → A1 → A2 → A3 → A4 → A5 → A6 → A7 → A8 → A9 → A10 → A11 → Option R) : Nat → A1 → A2 → A3 → A4 → A5 → A6 → A7 → A8 → A9 → A10 → A11 → Option R
  | 0 => fun _ _ _ _ _ _ _ _ _ _ _ => none
  | n + 1 => body (wh11 body n)
theorem wh11_ok {A1 A2 A3 A4 A5 A6 A7 A8 A9 A10 A11 R : Type} {body : (A1 → A2 → A3 → A4 → A5 → A6 → A7 → A8 → A9 → A10 → A11 → Option R) → A1 → A2 → A3 → A4 → A5 → A6 → A7 → A8 → A9 → A10 → A11 → Option R} {x : R} {P : A1 → A2 → A3 → A4 → A5 → A6 → A7 → A8 → A9 → A10 → A11 → Prop} (hs : ∀ self : A1 → A2 → A3 → A4 → A5 → A6 → A7 → A8 → A9 → A10 → A11 → Option R, (∀ a1 a2 a3 a4 a5 a6 a7 a8 a9 a10 a11, self a1 a2 a3 a4 a5 a6 a7 a8 a9 a10 a11 = some x → P a1 a2 a3 a4 a5 a6 a7 a8 a9 a10 a11) → ∀ a1 a2 a3 a4 a5 a6 a7 a8 a9 a10 a11, body self a1 a2 a3 a4 a5 a6 a7 a8 a9 a10 a11 = some x → P a1 a2 a3 a4 a5 a6 a7 a8 a9 a10 a11) : ∀ (n : Nat) (a1 : A1) (a2 : A2) (a3 : A3) (a4 : A4) (a5 : A5) (a6 : A6) (a7 : A7) (a8 : A8) (a9 : A9) (a10 : A10) (a11 : A11), wh11 body n a1 a2 a3 a4 a5 a6 a7 a8 a9 a10 a11 = some x → P a1 a2 a3 a4 a5 a6 a7 a8 a9 a10 a11 := by
  intro n
  induction n with
  | zero => intro a1 a2 a3 a4 a5 a6 a7 a8 a9 a10 a11 h; cases h
  | succ n ih => intro a1 a2 a3 a4 a5 a6 a7 a8 a9 a10 a11 h; exact hs _ ih a1 a2 a3 a4 a5 a6 a7 a8 a9 a10 a11 h
theorem wh11_run {A1 A2 A3 A4 A5 A6 A7 A8 A9 A10 A11 R : Type} {body : (A1 → A2 → A3 → A4 → A5 → A6 → A7 → A8 → A9 → A10 → A11 → Option R) → A1 → A2 → A3 → A4 → A5 → A6 → A7 → A8 → A9 → A10 → A11 → Option R} {x : Option R} (sa1 : Nat → A1) (sa2 : Nat → A2) (sa3 : Nat → A3) (sa4 : Nat → A4) (sa5 : Nat → A5) (sa6 : Nat → A6) (sa7 : Nat → A7) (sa8 : Nat → A8) (sa9 : Nat → A9) (sa10 : Nat → A10) (sa11 : Nat → A11) (N : Nat) (hs : ∀ i, i < N → ∀ self : A1 → A2 → A3 → A4 → A5 → A6 → A7 → A8 → A9 → A10 → A11 → Option R, body self (sa1 (i)) (sa2 (i)) (sa3 (i)) (sa4 (i)) (sa5 (i)) (sa6 (i)) (sa7 (i)) (sa8 (i)) (sa9 (i)) (sa10 (i)) (sa11 (i)) = self (sa1 (i + 1)) (sa2 (i + 1)) (sa3 (i + 1)) (sa4 (i + 1)) (sa5 (i + 1)) (sa6 (i + 1)) (sa7 (i + 1)) (sa8 (i + 1)) (sa9 (i + 1)) (sa10 (i + 1)) (sa11 (i + 1))) (hx : ∀ self : A1 → A2 → A3 → A4 → A5 → A6 → A7 → A8 → A9 → A10 → A11 → Option R, body self (sa1 (N)) (sa2 (N)) (sa3 (N)) (sa4 (N)) (sa5 (N)) (sa6 (N)) (sa7 (N)) (sa8 (N)) (sa9 (N)) (sa10 (N)) (sa11 (N)) = x) : ∀ (n i : Nat), i ≤ N → N < i + n → wh11 body n (sa1 (i)) (sa2 (i)) (sa3 (i)) (sa4 (i)) (sa5 (i)) (sa6 (i)) (sa7 (i)) (sa8 (i)) (sa9 (i)) (sa10 (i)) (sa11 (i)) = x := by
  intro n
  induction n with
  | zero => intro i h1 h2; omega
  | succ n ih =>
    intro i h1 h2
    show body (wh11 body n) (sa1 (i)) (sa2 (i)) (sa3 (i)) (sa4 (i)) (sa5 (i)) (sa6 (i)) (sa7 (i)) (sa8 (i)) (sa9 (i)) (sa10 (i)) (sa11 (i)) = x
    rcases Nat.lt_or_ge i N with hl | hl
    · rw [hs i hl]; exact ih (i + 1) hl (by omega)
    · have e : i = N := Nat.le_antisymm h1 hl
      rw [e]; exact hx _
/-! ===== a row an instruction ===== -/
section VR
variable {X : VX} {D : va_G} {Y : Nat → ClassId} {cc : ByteArray} {nL : Nat} {own : String} {Ts : List Cond} {ret : Option FieldType} {rm : Room} {Q : State → Prop} {K : va_W → Heap → List Loc → Prop} {cs : Nat × Nat} {ws : va_W} {lv : List (Nat × Value)} {pc : Nat} {st : List Value}

theorem V_iadd (C : Cx X D Y cc nL own Ts ret rm) {x y : Int32} (d : decode cc pc = .ok (.iadd, 1))  (k : VW X D nL Q K cs ws lv (pc + 1) (.int (x + y) :: st)) : VW X D nL Q K cs ws lv (pc) (.int y :: .int x :: st) := fun H locs ls hP hK hl => lv_iadd C.1.1 C.1.2.1 d (k H locs ls hP hK hl)
theorem V_isub (C : Cx X D Y cc nL own Ts ret rm) {x y : Int32} (d : decode cc pc = .ok (.isub, 1))  (k : VW X D nL Q K cs ws lv (pc + 1) (.int (x - y) :: st)) : VW X D nL Q K cs ws lv (pc) (.int y :: .int x :: st) := fun H locs ls hP hK hl => lv_isub C.1.1 C.1.2.1 d (k H locs ls hP hK hl)
theorem V_imul (C : Cx X D Y cc nL own Ts ret rm) {x y : Int32} (d : decode cc pc = .ok (.imul, 1))  (k : VW X D nL Q K cs ws lv (pc + 1) (.int (x * y) :: st)) : VW X D nL Q K cs ws lv (pc) (.int y :: .int x :: st) := fun H locs ls hP hK hl => lv_imul C.1.1 C.1.2.1 d (k H locs ls hP hK hl)
theorem V_iand (C : Cx X D Y cc nL own Ts ret rm) {x y : Int32} (d : decode cc pc = .ok (.iand, 1))  (k : VW X D nL Q K cs ws lv (pc + 1) (.int (x &&& y) :: st)) : VW X D nL Q K cs ws lv (pc) (.int y :: .int x :: st) := fun H locs ls hP hK hl => lv_iand C.1.1 C.1.2.1 d (k H locs ls hP hK hl)
theorem V_ior (C : Cx X D Y cc nL own Ts ret rm) {x y : Int32} (d : decode cc pc = .ok (.ior, 1))  (k : VW X D nL Q K cs ws lv (pc + 1) (.int (x ||| y) :: st)) : VW X D nL Q K cs ws lv (pc) (.int y :: .int x :: st) := fun H locs ls hP hK hl => lv_ior C.1.1 C.1.2.1 d (k H locs ls hP hK hl)
theorem V_ladd (C : Cx X D Y cc nL own Ts ret rm) {x y : Int64} (d : decode cc pc = .ok (.ladd, 1))  (k : VW X D nL Q K cs ws lv (pc + 1) (.long (x + y) :: st)) : VW X D nL Q K cs ws lv (pc) (.long y :: .long x :: st) := fun H locs ls hP hK hl => lv_ladd C.1.1 C.1.2.1 d (k H locs ls hP hK hl)
theorem V_lsub (C : Cx X D Y cc nL own Ts ret rm) {x y : Int64} (d : decode cc pc = .ok (.lsub, 1))  (k : VW X D nL Q K cs ws lv (pc + 1) (.long (x - y) :: st)) : VW X D nL Q K cs ws lv (pc) (.long y :: .long x :: st) := fun H locs ls hP hK hl => lv_lsub C.1.1 C.1.2.1 d (k H locs ls hP hK hl)
theorem V_lmul (C : Cx X D Y cc nL own Ts ret rm) {x y : Int64} (d : decode cc pc = .ok (.lmul, 1))  (k : VW X D nL Q K cs ws lv (pc + 1) (.long (x * y) :: st)) : VW X D nL Q K cs ws lv (pc) (.long y :: .long x :: st) := fun H locs ls hP hK hl => lv_lmul C.1.1 C.1.2.1 d (k H locs ls hP hK hl)
theorem V_idiv (C : Cx X D Y cc nL own Ts ret rm) {x y : Int32} (d : decode cc pc = .ok (.idiv, 1)) (hne : ¬ y = 0) (k : VW X D nL Q K cs ws lv (pc + 1) (.int (x / y) :: st)) : VW X D nL Q K cs ws lv (pc) (.int y :: .int x :: st) := fun H locs ls hP hK hl => lv_idiv C.1.1 C.1.2.1 d hne (k H locs ls hP hK hl)
theorem V_irem (C : Cx X D Y cc nL own Ts ret rm) {x y : Int32} (d : decode cc pc = .ok (.irem, 1)) (hne : ¬ y = 0) (k : VW X D nL Q K cs ws lv (pc + 1) (.int (x - x / y * y) :: st)) : VW X D nL Q K cs ws lv (pc) (.int y :: .int x :: st) := fun H locs ls hP hK hl => lv_irem C.1.1 C.1.2.1 d hne (k H locs ls hP hK hl)
theorem V_ldiv (C : Cx X D Y cc nL own Ts ret rm) {x y : Int64} (d : decode cc pc = .ok (.ldiv, 1)) (hne : ¬ y = 0) (k : VW X D nL Q K cs ws lv (pc + 1) (.long (x / y) :: st)) : VW X D nL Q K cs ws lv (pc) (.long y :: .long x :: st) := fun H locs ls hP hK hl => lv_ldiv C.1.1 C.1.2.1 d hne (k H locs ls hP hK hl)
theorem V_lrem (C : Cx X D Y cc nL own Ts ret rm) {x y : Int64} (d : decode cc pc = .ok (.lrem, 1)) (hne : ¬ y = 0) (k : VW X D nL Q K cs ws lv (pc + 1) (.long (x - x / y * y) :: st)) : VW X D nL Q K cs ws lv (pc) (.long y :: .long x :: st) := fun H locs ls hP hK hl => lv_lrem C.1.1 C.1.2.1 d hne (k H locs ls hP hK hl)
theorem V_lneg (C : Cx X D Y cc nL own Ts ret rm) {x : Int64} (d : decode cc pc = .ok (.lneg, 1))  (k : VW X D nL Q K cs ws lv (pc + 1) (.long (-x) :: st)) : VW X D nL Q K cs ws lv (pc) (.long x :: st) := fun H locs ls hP hK hl => lv_lneg C.1.1 C.1.2.1 d (k H locs ls hP hK hl)
theorem V_ishl (C : Cx X D Y cc nL own Ts ret rm) {x y : Int32} (d : decode cc pc = .ok (.ishl, 1))  (k : VW X D nL Q K cs ws lv (pc + 1) (.int (x <<< (y &&& 31)) :: st)) : VW X D nL Q K cs ws lv (pc) (.int y :: .int x :: st) := fun H locs ls hP hK hl => lv_ishl C.1.1 C.1.2.1 d (k H locs ls hP hK hl)
theorem V_ishr (C : Cx X D Y cc nL own Ts ret rm) {x y : Int32} (d : decode cc pc = .ok (.ishr, 1))  (k : VW X D nL Q K cs ws lv (pc + 1) (.int (x >>> (y &&& 31)) :: st)) : VW X D nL Q K cs ws lv (pc) (.int y :: .int x :: st) := fun H locs ls hP hK hl => lv_ishr C.1.1 C.1.2.1 d (k H locs ls hP hK hl)
theorem V_i2l (C : Cx X D Y cc nL own Ts ret rm) {x : Int32} (d : decode cc pc = .ok (.i2l, 1))  (k : VW X D nL Q K cs ws lv (pc + 1) (.long x.toInt64 :: st)) : VW X D nL Q K cs ws lv (pc) (.int x :: st) := fun H locs ls hP hK hl => lv_i2l C.1.1 C.1.2.1 d rfl (k H locs ls hP hK hl)
theorem V_l2i (C : Cx X D Y cc nL own Ts ret rm) {x : Int64} (d : decode cc pc = .ok (.l2i, 1))  (k : VW X D nL Q K cs ws lv (pc + 1) (.int x.toInt32 :: st)) : VW X D nL Q K cs ws lv (pc) (.long x :: st) := fun H locs ls hP hK hl => lv_l2i C.1.1 C.1.2.1 d rfl (k H locs ls hP hK hl)
theorem V_lcmp (C : Cx X D Y cc nL own Ts ret rm) {x y : Int64} (d : decode cc pc = .ok (.lcmp, 1))  (k : VW X D nL Q K cs ws lv (pc + 1) (.int (lg_cmp x y) :: st)) : VW X D nL Q K cs ws lv (pc) (.long y :: .long x :: st) := fun H locs ls hP hK hl => W.lcmp C.1.1 C.1.2.1 d (k H locs ls hP hK hl)
theorem V_iconst (C : Cx X D Y cc nL own Ts ret rm) {n : Int} {v : Int32} (d : decode cc pc = .ok (.iconst n, 1)) (hv : Int32.ofInt n = v) (k : VW X D nL Q K cs ws lv (pc + 1) (.int v :: st)) : VW X D nL Q K cs ws lv (pc) (st) := fun H locs ls hP hK hl => lv_iconst C.1.1 C.1.2.1 d hv (k H locs ls hP hK hl)
theorem V_bipush (C : Cx X D Y cc nL own Ts ret rm) {n : Int} {v : Int32} (d : decode cc pc = .ok (.bipush n, 2)) (hv : (Int8.ofInt n).toInt32 = v) (k : VW X D nL Q K cs ws lv (pc + 2) (.int v :: st)) : VW X D nL Q K cs ws lv (pc) (st) := fun H locs ls hP hK hl => lv_bipush C.1.1 C.1.2.1 d hv (k H locs ls hP hK hl)
theorem V_lconst (C : Cx X D Y cc nL own Ts ret rm) {n : Fin 2} {v : Int64} (d : decode cc pc = .ok (.lconst n, 1)) (hv : Int64.ofNat (n : Nat) = v) (k : VW X D nL Q K cs ws lv (pc + 1) (.long v :: st)) : VW X D nL Q K cs ws lv (pc) (st) := fun H locs ls hP hK hl => lv_lconst C.1.1 C.1.2.1 d hv (k H locs ls hP hK hl)
theorem V_ldc (C : Cx X D Y cc nL own Ts ret rm) {ix : Nat} {v : Int32} (d : decode cc pc = .ok (.ldc ix, 2)) (hw : Cond.constant own ix v ∈ Ts) (k : VW X D nL Q K cs ws lv (pc + 2) (.int v :: st)) : VW X D nL Q K cs ws lv (pc) (st) := fun H locs ls hP hK hl => lv_ldc C.1.1 C.1.2.1 C.1.2.2.2.1 (C.1.2.2.2.2 _ hw) d (k H locs ls hP hK hl)
theorem V_ldc2 (C : Cx X D Y cc nL own Ts ret rm) {ix : Nat} {v : Int64} (d : decode cc pc = .ok (.ldc2_w ix, 3)) (hw : Cond.constantLong own ix v ∈ Ts) (k : VW X D nL Q K cs ws lv (pc + 3) (.long v :: st)) : VW X D nL Q K cs ws lv (pc) (st) := fun H locs ls hP hK hl => lv_ldc2 C.1.1 C.1.2.1 C.1.2.2.2.1 (C.1.2.2.2.2 _ hw) d (k H locs ls hP hK hl)
theorem V_iload_n (C : Cx X D Y cc nL own Ts ret rm) {i : Fin 4} {j : Nat} {x : Int32} (d : decode cc pc = .ok (.iload_n i, 1)) (hi : (i : Nat) = j) (q : Nat) (hq : lv[q]? = some (j, .int x)) (k : VW X D nL Q K cs ws lv (pc + 1) (.int x :: st)) : VW X D nL Q K cs ws lv (pc) (st) := fun H locs ls hP hK hl => lv_iload_n C.1.1 C.1.2.1 d hi (lv_at hl q hq) (k H locs ls hP hK hl)
theorem V_iload (C : Cx X D Y cc nL own Ts ret rm) {i : Nat} {x : Int32} (d : decode cc pc = .ok (.iload i, 2)) (q : Nat) (hq : lv[q]? = some (i, .int x)) (k : VW X D nL Q K cs ws lv (pc + 2) (.int x :: st)) : VW X D nL Q K cs ws lv (pc) (st) := fun H locs ls hP hK hl => lv_iload C.1.1 C.1.2.1 d (lv_at hl q hq) (k H locs ls hP hK hl)
theorem V_istore_n (C : Cx X D Y cc nL own Ts ret rm) {i : Fin 4} {j : Nat} {x : Int32} {lv' : List (Nat × Value)} (d : decode cc pc = .ok (.istore_n i, 1)) (hi : (i : Nat) = j) (hn : j < nL) (hl2 : (j, Value.int x) :: lv.filter (fun q => !(q.1 == j) && !(q.1 + 1 == j && q.2.category == 2)) = lv') (k : VW X D nL Q K cs ws lv' (pc + 1) (st)) : VW X D nL Q K cs ws lv (pc) (.int x :: st) := fun H locs ls hP hK hl => lv_istore_n C.1.1 C.1.2.1 d hi hl hn hl2 (fun ls' hl' => k H locs ls' hP hK hl')
theorem V_istore (C : Cx X D Y cc nL own Ts ret rm) {j : Nat} {x : Int32} {lv' : List (Nat × Value)} (d : decode cc pc = .ok (.istore j, 2)) (hn : j < nL) (hl2 : (j, Value.int x) :: lv.filter (fun q => !(q.1 == j) && !(q.1 + 1 == j && q.2.category == 2)) = lv') (k : VW X D nL Q K cs ws lv' (pc + 2) (st)) : VW X D nL Q K cs ws lv (pc) (.int x :: st) := fun H locs ls hP hK hl => lv_istore C.1.1 C.1.2.1 d hl hn hl2 (fun ls' hl' => k H locs ls' hP hK hl')
theorem V_lload_n (C : Cx X D Y cc nL own Ts ret rm) {i : Fin 4} {j : Nat} {x : Int64} (d : decode cc pc = .ok (.lload_n i, 1)) (hi : (i : Nat) = j) (q : Nat) (hq : lv[q]? = some (j, .long x)) (k : VW X D nL Q K cs ws lv (pc + 1) (.long x :: st)) : VW X D nL Q K cs ws lv (pc) (st) := fun H locs ls hP hK hl => lv_lload_n C.1.1 C.1.2.1 d hi (lv_at hl q hq) (k H locs ls hP hK hl)
theorem V_lload (C : Cx X D Y cc nL own Ts ret rm) {i : Nat} {x : Int64} (d : decode cc pc = .ok (.lload i, 2)) (q : Nat) (hq : lv[q]? = some (i, .long x)) (k : VW X D nL Q K cs ws lv (pc + 2) (.long x :: st)) : VW X D nL Q K cs ws lv (pc) (st) := fun H locs ls hP hK hl => lv_lload C.1.1 C.1.2.1 d (lv_at hl q hq) (k H locs ls hP hK hl)
theorem V_lstore_n (C : Cx X D Y cc nL own Ts ret rm) {i : Fin 4} {j : Nat} {x : Int64} {lv' : List (Nat × Value)} (d : decode cc pc = .ok (.lstore_n i, 1)) (hi : (i : Nat) = j) (hn : j + 1 < nL) (hl2 : (j, Value.long x) :: lv.filter (fun q => !(q.1 == j) && (!(q.1 == j + 1) && !(q.1 + 1 == j && q.2.category == 2))) = lv') (k : VW X D nL Q K cs ws lv' (pc + 1) (st)) : VW X D nL Q K cs ws lv (pc) (.long x :: st) := fun H locs ls hP hK hl => lv_lstore_n C.1.1 C.1.2.1 d hi hl hn hl2 (fun ls' hl' => k H locs ls' hP hK hl')
theorem V_lstore (C : Cx X D Y cc nL own Ts ret rm) {j : Nat} {x : Int64} {lv' : List (Nat × Value)} (d : decode cc pc = .ok (.lstore j, 2)) (hn : j + 1 < nL) (hl2 : (j, Value.long x) :: lv.filter (fun q => !(q.1 == j) && (!(q.1 == j + 1) && !(q.1 + 1 == j && q.2.category == 2))) = lv') (k : VW X D nL Q K cs ws lv' (pc + 2) (st)) : VW X D nL Q K cs ws lv (pc) (.long x :: st) := fun H locs ls hP hK hl => lv_lstore C.1.1 C.1.2.1 d hl hn hl2 (fun ls' hl' => k H locs ls' hP hK hl')
theorem V_aload_n (C : Cx X D Y cc nL own Ts ret rm) {i : Fin 4} {j : Nat} {x : Nat} (d : decode cc pc = .ok (.aload_n i, 1)) (hi : (i : Nat) = j) (q : Nat) (hq : lv[q]? = some (j, .ref x)) (k : VW X D nL Q K cs ws lv (pc + 1) (.ref x :: st)) : VW X D nL Q K cs ws lv (pc) (st) := fun H locs ls hP hK hl => lv_aload_n C.1.1 C.1.2.1 d hi (lv_at hl q hq) (k H locs ls hP hK hl)
theorem V_aload (C : Cx X D Y cc nL own Ts ret rm) {i : Nat} {x : Nat} (d : decode cc pc = .ok (.aload i, 2)) (q : Nat) (hq : lv[q]? = some (i, .ref x)) (k : VW X D nL Q K cs ws lv (pc + 2) (.ref x :: st)) : VW X D nL Q K cs ws lv (pc) (st) := fun H locs ls hP hK hl => lv_aload C.1.1 C.1.2.1 d (lv_at hl q hq) (k H locs ls hP hK hl)
theorem V_astore_n (C : Cx X D Y cc nL own Ts ret rm) {i : Fin 4} {j : Nat} {x : Nat} {lv' : List (Nat × Value)} (d : decode cc pc = .ok (.astore_n i, 1)) (hi : (i : Nat) = j) (hn : j < nL) (hl2 : (j, Value.ref x) :: lv.filter (fun q => !(q.1 == j) && !(q.1 + 1 == j && q.2.category == 2)) = lv') (k : VW X D nL Q K cs ws lv' (pc + 1) (st)) : VW X D nL Q K cs ws lv (pc) (.ref x :: st) := fun H locs ls hP hK hl => lv_astore_n C.1.1 C.1.2.1 d hi hl hn hl2 (fun ls' hl' => k H locs ls' hP hK hl')
theorem V_astore (C : Cx X D Y cc nL own Ts ret rm) {j : Nat} {x : Nat} {lv' : List (Nat × Value)} (d : decode cc pc = .ok (.astore j, 2)) (hn : j < nL) (hl2 : (j, Value.ref x) :: lv.filter (fun q => !(q.1 == j) && !(q.1 + 1 == j && q.2.category == 2)) = lv') (k : VW X D nL Q K cs ws lv' (pc + 2) (st)) : VW X D nL Q K cs ws lv (pc) (.ref x :: st) := fun H locs ls hP hK hl => lv_astore C.1.1 C.1.2.1 d hl hn hl2 (fun ls' hl' => k H locs ls' hP hK hl')
theorem V_iinc (C : Cx X D Y cc nL own Ts ret rm) {j : Nat} {n : Int} {x v : Int32} {lv' : List (Nat × Value)} (d : decode cc pc = .ok (.iinc j n, 3)) (q : Nat) (hq : lv[q]? = some (j, .int x)) (hv : x + Int32.ofInt n = v) (hn : j < nL) (hl2 : (j, Value.int v) :: lv.filter (fun q => !(q.1 == j) && !(q.1 + 1 == j && q.2.category == 2)) = lv') (k : VW X D nL Q K cs ws lv' (pc + 3) (st)) : VW X D nL Q K cs ws lv (pc) (st) := fun H locs ls hP hK hl => lv_iinc C.1.1 C.1.2.1 d hl hq hv hn hl2 (fun ls' hl' => k H locs ls' hP hK hl')
theorem V_dup (C : Cx X D Y cc nL own Ts ret rm) {v : Value} (d : decode cc pc = .ok (.dup, 1)) (hv : v.category = 1) (k : VW X D nL Q K cs ws lv (pc + 1) (v :: v :: st)) : VW X D nL Q K cs ws lv (pc) (v :: st) := fun H locs ls hP hK hl => lv_dup C.1.1 C.1.2.1 d hv (k H locs ls hP hK hl)
theorem V_pop (C : Cx X D Y cc nL own Ts ret rm) {v : Value} (d : decode cc pc = .ok (.pop, 1)) (hv : v.category = 1) (k : VW X D nL Q K cs ws lv (pc + 1) (st)) : VW X D nL Q K cs ws lv (pc) (v :: st) := fun H locs ls hP hK hl => lv_pop C.1.1 C.1.2.1 d hv (k H locs ls hP hK hl)
theorem V_dup2 (C : Cx X D Y cc nL own Ts ret rm) {v u : Value} (d : decode cc pc = .ok (.dup2, 1)) (hv : v.category = 1) (hu : u.category = 1) (k : VW X D nL Q K cs ws lv (pc + 1) (v :: u :: v :: u :: st)) : VW X D nL Q K cs ws lv (pc) (v :: u :: st) := fun H locs ls hP hK hl => lv_dup2_11 C.1.1 C.1.2.1 d hv hu (k H locs ls hP hK hl)
theorem V_if_eq (C : Cx X D Y cc nL own Ts ret rm) {x : Int32} {off : Int} (tgt : Nat) (d : decode cc pc = .ok (.ifCond .eq off, 3)) (ht : (pc : Int) + off = (tgt : Int)) (kt : x = 0 → VW X D nL Q K cs ws lv (tgt) (st)) (kf : ¬ x = 0 → VW X D nL Q K cs ws lv (pc + 3) (st)) : VW X D nL Q K cs ws lv (pc) (.int x :: st) := fun H locs ls hP hK hl => lv_if_eq C.1.1 C.1.2.1 d ht (fun h => kt h H locs ls hP hK hl) (fun h => kf h H locs ls hP hK hl)
theorem V_icmp_eq (C : Cx X D Y cc nL own Ts ret rm) {x y : Int32} {off : Int} (tgt : Nat) (d : decode cc pc = .ok (.if_icmp .eq off, 3)) (ht : (pc : Int) + off = (tgt : Int)) (kt : x = y → VW X D nL Q K cs ws lv (tgt) (st)) (kf : ¬ x = y → VW X D nL Q K cs ws lv (pc + 3) (st)) : VW X D nL Q K cs ws lv (pc) (.int y :: .int x :: st) := fun H locs ls hP hK hl => lv_icmp_eq C.1.1 C.1.2.1 d ht (fun h => kt h H locs ls hP hK hl) (fun h => kf h H locs ls hP hK hl)
theorem V_lif_eq (C : Cx X D Y cc nL own Ts ret rm) {x y : Int64} {off : Int} (tgt : Nat) (d : decode cc pc = .ok (.ifCond .eq off, 3)) (ht : (pc : Int) + off = (tgt : Int)) (kt : x = y → VW X D nL Q K cs ws lv (tgt) (st)) (kf : ¬ x = y → VW X D nL Q K cs ws lv (pc + 3) (st)) : VW X D nL Q K cs ws lv (pc) (.int (lg_cmp x y) :: st) := V_if_eq C tgt d ht (fun h => kt ((lg_cmp_eq x y).mp h)) (fun h => kf (fun e => h ((lg_cmp_eq x y).mpr e)))
theorem V_if_ne (C : Cx X D Y cc nL own Ts ret rm) {x : Int32} {off : Int} (tgt : Nat) (d : decode cc pc = .ok (.ifCond .ne off, 3)) (ht : (pc : Int) + off = (tgt : Int)) (kt : ¬ x = 0 → VW X D nL Q K cs ws lv (tgt) (st)) (kf : x = 0 → VW X D nL Q K cs ws lv (pc + 3) (st)) : VW X D nL Q K cs ws lv (pc) (.int x :: st) := fun H locs ls hP hK hl => lv_if_ne C.1.1 C.1.2.1 d ht (fun h => kt h H locs ls hP hK hl) (fun h => kf h H locs ls hP hK hl)
theorem V_icmp_ne (C : Cx X D Y cc nL own Ts ret rm) {x y : Int32} {off : Int} (tgt : Nat) (d : decode cc pc = .ok (.if_icmp .ne off, 3)) (ht : (pc : Int) + off = (tgt : Int)) (kt : ¬ x = y → VW X D nL Q K cs ws lv (tgt) (st)) (kf : x = y → VW X D nL Q K cs ws lv (pc + 3) (st)) : VW X D nL Q K cs ws lv (pc) (.int y :: .int x :: st) := fun H locs ls hP hK hl => lv_icmp_ne C.1.1 C.1.2.1 d ht (fun h => kt h H locs ls hP hK hl) (fun h => kf h H locs ls hP hK hl)
theorem V_lif_ne (C : Cx X D Y cc nL own Ts ret rm) {x y : Int64} {off : Int} (tgt : Nat) (d : decode cc pc = .ok (.ifCond .ne off, 3)) (ht : (pc : Int) + off = (tgt : Int)) (kt : ¬ x = y → VW X D nL Q K cs ws lv (tgt) (st)) (kf : x = y → VW X D nL Q K cs ws lv (pc + 3) (st)) : VW X D nL Q K cs ws lv (pc) (.int (lg_cmp x y) :: st) := V_if_ne C tgt d ht (fun h => kt (fun e => h ((lg_cmp_eq x y).mpr e))) (fun h => kf ((lg_cmp_eq x y).mp h))
theorem V_if_lt (C : Cx X D Y cc nL own Ts ret rm) {x : Int32} {off : Int} (tgt : Nat) (d : decode cc pc = .ok (.ifCond .lt off, 3)) (ht : (pc : Int) + off = (tgt : Int)) (kt : x < 0 → VW X D nL Q K cs ws lv (tgt) (st)) (kf : ¬ x < 0 → VW X D nL Q K cs ws lv (pc + 3) (st)) : VW X D nL Q K cs ws lv (pc) (.int x :: st) := fun H locs ls hP hK hl => lv_if_lt C.1.1 C.1.2.1 d ht (fun h => kt h H locs ls hP hK hl) (fun h => kf h H locs ls hP hK hl)
theorem V_icmp_lt (C : Cx X D Y cc nL own Ts ret rm) {x y : Int32} {off : Int} (tgt : Nat) (d : decode cc pc = .ok (.if_icmp .lt off, 3)) (ht : (pc : Int) + off = (tgt : Int)) (kt : x < y → VW X D nL Q K cs ws lv (tgt) (st)) (kf : ¬ x < y → VW X D nL Q K cs ws lv (pc + 3) (st)) : VW X D nL Q K cs ws lv (pc) (.int y :: .int x :: st) := fun H locs ls hP hK hl => lv_icmp_lt C.1.1 C.1.2.1 d ht (fun h => kt h H locs ls hP hK hl) (fun h => kf h H locs ls hP hK hl)
theorem V_lif_lt (C : Cx X D Y cc nL own Ts ret rm) {x y : Int64} {off : Int} (tgt : Nat) (d : decode cc pc = .ok (.ifCond .lt off, 3)) (ht : (pc : Int) + off = (tgt : Int)) (kt : x < y → VW X D nL Q K cs ws lv (tgt) (st)) (kf : ¬ x < y → VW X D nL Q K cs ws lv (pc + 3) (st)) : VW X D nL Q K cs ws lv (pc) (.int (lg_cmp x y) :: st) := V_if_lt C tgt d ht (fun h => kt ((lg_cmp_lt x y).mp h)) (fun h => kf (fun e => h ((lg_cmp_lt x y).mpr e)))
theorem V_if_ge (C : Cx X D Y cc nL own Ts ret rm) {x : Int32} {off : Int} (tgt : Nat) (d : decode cc pc = .ok (.ifCond .ge off, 3)) (ht : (pc : Int) + off = (tgt : Int)) (kt : 0 ≤ x → VW X D nL Q K cs ws lv (tgt) (st)) (kf : ¬ 0 ≤ x → VW X D nL Q K cs ws lv (pc + 3) (st)) : VW X D nL Q K cs ws lv (pc) (.int x :: st) := fun H locs ls hP hK hl => lv_if_ge C.1.1 C.1.2.1 d ht (fun h => kt h H locs ls hP hK hl) (fun h => kf h H locs ls hP hK hl)
theorem V_icmp_ge (C : Cx X D Y cc nL own Ts ret rm) {x y : Int32} {off : Int} (tgt : Nat) (d : decode cc pc = .ok (.if_icmp .ge off, 3)) (ht : (pc : Int) + off = (tgt : Int)) (kt : y ≤ x → VW X D nL Q K cs ws lv (tgt) (st)) (kf : ¬ y ≤ x → VW X D nL Q K cs ws lv (pc + 3) (st)) : VW X D nL Q K cs ws lv (pc) (.int y :: .int x :: st) := fun H locs ls hP hK hl => lv_icmp_ge C.1.1 C.1.2.1 d ht (fun h => kt h H locs ls hP hK hl) (fun h => kf h H locs ls hP hK hl)
theorem V_lif_ge (C : Cx X D Y cc nL own Ts ret rm) {x y : Int64} {off : Int} (tgt : Nat) (d : decode cc pc = .ok (.ifCond .ge off, 3)) (ht : (pc : Int) + off = (tgt : Int)) (kt : y ≤ x → VW X D nL Q K cs ws lv (tgt) (st)) (kf : ¬ y ≤ x → VW X D nL Q K cs ws lv (pc + 3) (st)) : VW X D nL Q K cs ws lv (pc) (.int (lg_cmp x y) :: st) := V_if_ge C tgt d ht (fun h => kt ((lg_cmp_ge x y).mp h)) (fun h => kf (fun e => h ((lg_cmp_ge x y).mpr e)))
theorem V_if_gt (C : Cx X D Y cc nL own Ts ret rm) {x : Int32} {off : Int} (tgt : Nat) (d : decode cc pc = .ok (.ifCond .gt off, 3)) (ht : (pc : Int) + off = (tgt : Int)) (kt : 0 < x → VW X D nL Q K cs ws lv (tgt) (st)) (kf : ¬ 0 < x → VW X D nL Q K cs ws lv (pc + 3) (st)) : VW X D nL Q K cs ws lv (pc) (.int x :: st) := fun H locs ls hP hK hl => lv_if_gt C.1.1 C.1.2.1 d ht (fun h => kt h H locs ls hP hK hl) (fun h => kf h H locs ls hP hK hl)
theorem V_icmp_gt (C : Cx X D Y cc nL own Ts ret rm) {x y : Int32} {off : Int} (tgt : Nat) (d : decode cc pc = .ok (.if_icmp .gt off, 3)) (ht : (pc : Int) + off = (tgt : Int)) (kt : y < x → VW X D nL Q K cs ws lv (tgt) (st)) (kf : ¬ y < x → VW X D nL Q K cs ws lv (pc + 3) (st)) : VW X D nL Q K cs ws lv (pc) (.int y :: .int x :: st) := fun H locs ls hP hK hl => lv_icmp_gt C.1.1 C.1.2.1 d ht (fun h => kt h H locs ls hP hK hl) (fun h => kf h H locs ls hP hK hl)
theorem V_lif_gt (C : Cx X D Y cc nL own Ts ret rm) {x y : Int64} {off : Int} (tgt : Nat) (d : decode cc pc = .ok (.ifCond .gt off, 3)) (ht : (pc : Int) + off = (tgt : Int)) (kt : y < x → VW X D nL Q K cs ws lv (tgt) (st)) (kf : ¬ y < x → VW X D nL Q K cs ws lv (pc + 3) (st)) : VW X D nL Q K cs ws lv (pc) (.int (lg_cmp x y) :: st) := V_if_gt C tgt d ht (fun h => kt ((lg_cmp_gt x y).mp h)) (fun h => kf (fun e => h ((lg_cmp_gt x y).mpr e)))
theorem V_if_le (C : Cx X D Y cc nL own Ts ret rm) {x : Int32} {off : Int} (tgt : Nat) (d : decode cc pc = .ok (.ifCond .le off, 3)) (ht : (pc : Int) + off = (tgt : Int)) (kt : x ≤ 0 → VW X D nL Q K cs ws lv (tgt) (st)) (kf : ¬ x ≤ 0 → VW X D nL Q K cs ws lv (pc + 3) (st)) : VW X D nL Q K cs ws lv (pc) (.int x :: st) := fun H locs ls hP hK hl => lv_if_le C.1.1 C.1.2.1 d ht (fun h => kt h H locs ls hP hK hl) (fun h => kf h H locs ls hP hK hl)
theorem V_icmp_le (C : Cx X D Y cc nL own Ts ret rm) {x y : Int32} {off : Int} (tgt : Nat) (d : decode cc pc = .ok (.if_icmp .le off, 3)) (ht : (pc : Int) + off = (tgt : Int)) (kt : x ≤ y → VW X D nL Q K cs ws lv (tgt) (st)) (kf : ¬ x ≤ y → VW X D nL Q K cs ws lv (pc + 3) (st)) : VW X D nL Q K cs ws lv (pc) (.int y :: .int x :: st) := fun H locs ls hP hK hl => lv_icmp_le C.1.1 C.1.2.1 d ht (fun h => kt h H locs ls hP hK hl) (fun h => kf h H locs ls hP hK hl)
theorem V_lif_le (C : Cx X D Y cc nL own Ts ret rm) {x y : Int64} {off : Int} (tgt : Nat) (d : decode cc pc = .ok (.ifCond .le off, 3)) (ht : (pc : Int) + off = (tgt : Int)) (kt : x ≤ y → VW X D nL Q K cs ws lv (tgt) (st)) (kf : ¬ x ≤ y → VW X D nL Q K cs ws lv (pc + 3) (st)) : VW X D nL Q K cs ws lv (pc) (.int (lg_cmp x y) :: st) := V_if_le C tgt d ht (fun h => kt ((lg_cmp_le x y).mp h)) (fun h => kf (fun e => h ((lg_cmp_le x y).mpr e)))
theorem V_goto (C : Cx X D Y cc nL own Ts ret rm) {off : Int} (tgt : Nat) (d : decode cc pc = .ok (.goto off, 3)) (ht : (pc : Int) + off = (tgt : Int)) (k : VW X D nL Q K cs ws lv (tgt) (st)) : VW X D nL Q K cs ws lv (pc) (st) := fun H locs ls hP hK hl => lv_goto C.1.1 C.1.2.1 d ht (k H locs ls hP hK hl)
theorem V_tableOut (C : Cx X D Y cc nL own Ts ret rm) {dflt lo hi : Int} {offs : Array Int} {len : Nat} {x : Int32} (tgt : Nat) (d : decode cc pc = .ok (.tableswitch dflt lo hi offs, len)) (h : x.toInt < lo ∨ hi < x.toInt) (ht : (pc : Int) + dflt = (tgt : Int)) (k : VW X D nL Q K cs ws lv (tgt) (st)) : VW X D nL Q K cs ws lv (pc) (.int x :: st) := fun H locs ls hP hK hl => lv_tableOut C.1.1 C.1.2.1 d h ht (k H locs ls hP hK hl)
theorem V_tableIn (C : Cx X D Y cc nL own Ts ret rm) {dflt lo hi : Int} {offs : Array Int} {len : Nat} {x : Int32} {off : Int} (tgt : Nat) (d : decode cc pc = .ok (.tableswitch dflt lo hi offs, len)) (h1 : ¬ x.toInt < lo) (h2 : ¬ hi < x.toInt) (ho : offs[(x.toInt - lo).toNat]? = some off) (ht : (pc : Int) + off = (tgt : Int)) (k : VW X D nL Q K cs ws lv (tgt) (st)) : VW X D nL Q K cs ws lv (pc) (.int x :: st) := fun H locs ls hP hK hl => lv_tableIn C.1.1 C.1.2.1 d h1 h2 ho ht (k H locs ls hP hK hl)
theorem V_sub {lv' : List (Nat × Value)} (ks : List Nat) (h : lv_pick lv ks = lv') (k : VW X D nL Q K cs ws lv' (pc) (st)) : VW X D nL Q K cs ws lv (pc) (st) := fun H locs ls hP hK hl => k H locs ls hP hK (lv_sub hl ks h)
theorem V_top {x y : Value} (e : x = y) (k : VW X D nL Q K cs ws lv (pc) (y :: st)) : VW X D nL Q K cs ws lv (pc) (x :: st) := e ▸ k
theorem V_get (C : Cx X D Y cc nL own Ts ret rm) (q0 ci k : Nat) {a ix N : Nat} {Cn : String} {T : u_T} {fs : List Value} {v : Value} (hin : ∀ w ∈ u_ws Cn T N, w ∈ Ts) (he : ws[q0]? = some (a, .inr (ci, fs))) (hc : vwCl[ci]? = some (Cn, T, N)) (hk : k < N) (hw : Cond.fieldLink own ix (T k).1 (T k).2.1 (T k).2.2.1 ∈ Ts) (hv : fs[k]? = some v) (d : decode cc pc = .ok (.getfield ix, 3)) (kk : VW X D nL Q K cs ws lv (pc + 3) (v :: st)) : VW X D nL Q K cs ws lv (pc) (.ref a :: st) := fun H locs ls hP hK hl => va_get C.1.1 C.1.2.1 C.1.2.2.2.2 hin C.1.2.2.2.1 C.2.1.1 hP q0 he hc k hk (C.1.2.2.2.2 _ hw) (fun _ h => h) hv d (kk H locs ls hP hK hl)
theorem V_put {A : Nat → Prop} (C : Cx X D Y cc nL own Ts ret rm) (q0 ci k : Nat) {a ix N : Nat} {Cn : String} {T : u_T} {ty : Nat → FieldType} {fs : List Value} {v : Value} {ws' : va_W} (hin : ∀ w ∈ u_ws Cn T N, w ∈ Ts) (hty : ∀ k, k < N → parseFieldDescriptor (T k).2.2.1 = some (ty k)) (hnm : ∀ a, a < N → ∀ b, b < N → a ≠ b → (T a).2.1 ≠ (T b).2.1) (he : ws[q0]? = some (a, .inr (ci, fs))) (hc : vwCl[ci]? = some (Cn, T, N)) (hk : k < N) (hw : Cond.fieldLink own ix (T k).1 (T k).2.1 (T k).2.2.1 ∈ Ts) (hfin : (T k).2.2.2 = false) (hn : narrow (ty k) v = v) (hfit : fits (ty k) v = true) (hlen : k < fs.length) (d : decode cc pc = .ok (.putfield ix, 3)) (hs : ws.set q0 (a, .inr (ci, fs.set k v)) = ws') (kk : VW X D nL Q (KM A X) cs ws' lv (pc + 3) (st)) : VW X D nL Q (KM A X) cs ws lv (pc) (v :: .ref a :: st) := by
  subst hs
  exact fun H locs ls hP hK hl => va_put C.1.1 C.1.2.1 C.1.2.2.2.2 hin ty hty hnm C.1.2.2.2.1 C.2.1.1 hP hK.1 hK.2 q0 he hc k hk (C.1.2.2.2.2 _ hw) (fun _ h => h) hfin (hty k hk) hn hfit hlen d (fun H1 locs1 h1 h2 h3 => kk H1 locs1 ls h1 ⟨h2, h3⟩ hl)
theorem V_iald (C : Cx X D Y cc nL own Ts ret rm) (q0 : Nat) {a n : Nat} {f : Nat → Int32} {i : Int32} (ha : ws[q0]? = some (a, .inl (Y 0, n, .inl f))) (hin : inB i n = true) (d : decode cc pc = .ok (.iaload, 1)) (kk : VW X D nL Q K cs ws lv (pc + 1) (.int (f i.toNatClampNeg) :: st)) : VW X D nL Q K cs ws lv (pc) (.int i :: .ref a :: st) := fun H locs ls hP hK hl => va_iald C.1.1 C.1.2.1 C.2.1.1 hP q0 0 ha rfl (inB_in hin) d (kk H locs ls hP hK hl)
theorem V_lald (C : Cx X D Y cc nL own Ts ret rm) (q0 : Nat) {a n : Nat} {f : Nat → Int64} {i : Int32} (ha : ws[q0]? = some (a, .inl (Y 1, n, .inr (.inl f)))) (hin : inB i n = true) (d : decode cc pc = .ok (.laload, 1)) (kk : VW X D nL Q K cs ws lv (pc + 1) (.long (f i.toNatClampNeg) :: st)) : VW X D nL Q K cs ws lv (pc) (.int i :: .ref a :: st) := fun H locs ls hP hK hl => va_lald C.1.1 C.1.2.1 C.2.1.1 hP q0 1 ha rfl (inB_in hin) d (kk H locs ls hP hK hl)
theorem V_aald (C : Cx X D Y cc nL own Ts ret rm) (q0 t0 : Nat) {a n b : Nat} {cA : ClassId} {Cn : String} {f : Nat → Option Nat} {i : Int32} (ha : ws[q0]? = some (a, .inl (cA, n, .inr (.inr (.inr (.inr f)))))) (ht : (vY Y)[t0]? = some (cA, .object Cn)) (hin : inB i n = true) (hf : f i.toNatClampNeg = some b) (d : decode cc pc = .ok (.aaload, 1)) (kk : VW X D nL Q K cs ws lv (pc + 1) (.ref b :: st)) : VW X D nL Q K cs ws lv (pc) (.int i :: .ref a :: st) := fun H locs ls hP hK hl => va_aldq C.1.1 C.1.2.1 C.2.1.1 hP q0 t0 ha ht (inB_in hin) d (by rw [hf]; exact kk H locs ls hP hK hl)
theorem V_iast {A : Nat → Prop} (C : Cx X D Y cc nL own Ts ret rm) (q0 : Nat) {a n : Nat} {f : Nat → Int32} {i : Int32} {x : Int32} {ws' : va_W} (ha : ws[q0]? = some (a, .inl (Y 0, n, .inl f))) (hin : inB i n = true) (d : decode cc pc = .ok (.iastore, 1)) (hs : ws.set q0 (a, .inl (Y 0, n, .inl (upd f i.toNatClampNeg x))) = ws') (kk : VW X D nL Q (KM A X) cs ws' lv (pc + 1) (st)) : VW X D nL Q (KM A X) cs ws lv (pc) (.int x :: .int i :: .ref a :: st) := by
  subst hs
  exact fun H locs ls hP hK hl => va_iast C.1.1 C.1.2.1 C.2.1.1 hP hK.1 hK.2 q0 0 ha rfl (inB_in hin) d (fun H1 locs1 h1 h2 h3 => kk H1 locs1 ls h1 ⟨h2, h3⟩ hl)
theorem V_last {A : Nat → Prop} (C : Cx X D Y cc nL own Ts ret rm) (q0 : Nat) {a n : Nat} {f : Nat → Int64} {i : Int32} {x : Int64} {ws' : va_W} (ha : ws[q0]? = some (a, .inl (Y 1, n, .inr (.inl f)))) (hin : inB i n = true) (d : decode cc pc = .ok (.lastore, 1)) (hs : ws.set q0 (a, .inl (Y 1, n, .inr (.inl (vp_updL f i.toNatClampNeg x)))) = ws') (kk : VW X D nL Q (KM A X) cs ws' lv (pc + 1) (st)) : VW X D nL Q (KM A X) cs ws lv (pc) (.long x :: .int i :: .ref a :: st) := by
  subst hs
  exact fun H locs ls hP hK hl => va_last C.1.1 C.1.2.1 C.2.1.1 hP hK.1 hK.2 q0 1 ha rfl (inB_in hin) d (fun H1 locs1 h1 h2 h3 => kk H1 locs1 ls h1 ⟨h2, h3⟩ hl)
theorem V_aast {A : Nat → Prop} (C : Cx X D Y cc nL own Ts ret rm) (q0 t0 qk ci : Nat) {a n v : Nat} {cA : ClassId} {r : vw_C} {vs : List Value} {f : Nat → Option Nat} {i : Int32} {ws' : va_W} (ha : ws[q0]? = some (a, .inl (cA, n, .inr (.inr (.inr (.inr f)))))) (ht : (vY Y)[t0]? = some (cA, .object r.1)) (hv : ws[qk]? = some (v, .inr (ci, vs))) (hc : vwCl[ci]? = some r) (hin : inB i n = true) (d : decode cc pc = .ok (.aastore, 1)) (hs : ws.set q0 (a, .inl (cA, n, .inr (.inr (.inr (.inr (va_up f i.toNatClampNeg (some v))))))) = ws') (kk : VW X D nL Q (KM A X) cs ws' lv (pc + 1) (st)) : VW X D nL Q (KM A X) cs ws lv (pc) (.ref v :: .int i :: .ref a :: st) := by
  subst hs
  exact fun H locs ls hP hK hl => va_astq C.1.1 C.1.2.1 C.2.1.1 hP hK.1 hK.2 q0 t0 qk ci ha ht hv hc (inB_in hin) d (fun H1 locs1 h1 h2 h3 => kk H1 locs1 ls h1 ⟨h2, h3⟩ hl)
theorem V_alen (C : Cx X D Y cc nL own Ts ret rm) (q0 t0 : Nat) {a : Nat} {cA : ClassId} {x : vp_A} {ty : FieldType} {v : Int32} (ha : ws[q0]? = some (a, .inl (cA, x))) (ht : (vY Y)[t0]? = some (cA, ty)) (hv : Int32.ofNat x.1 = v) (d : decode cc pc = .ok (.arraylength, 1)) (kk : VW X D nL Q K cs ws lv (pc + 1) (.int v :: st)) : VW X D nL Q K cs ws lv (pc) (.ref a :: st) := fun H locs ls hP hK hl => va_alen C.1.1 C.1.2.1 C.2.1.1 hP q0 t0 ha ht hv d (kk H locs ls hP hK hl)
theorem V_mmax (C : Cx X D Y cc nL own Ts ret rm) {x y : Int32} {ix : Nat} (h1 : Cond.methodLink own ix Lib.Math.max.name ∈ Ts) (h2 : Cond.static Lib.Math.max.name ∈ Ts) (h3 : Cond.initialized "java/lang/Math" ∈ Ts) (h4 : Cond.code Lib.Math.max.name Lib.Math.max.code 2 (some .int) ∈ Ts) (hf : 1 ≤ rm.frames) (hlo : (st.map fun v => v.category).sum + 13 ≤ rm.locals) (hc : cs.1 ≤ rm.cells ∧ cs.2 ≤ rm.slots) (d : decode cc pc = .ok (.invokestatic ix, 3)) (kk : VW X D nL Q K cs ws lv (pc + 3) (.int (if x < y then y else x) :: st)) : VW X D nL Q K cs ws lv (pc) (.int y :: .int x :: st) := by
  intro H locs ls hP hK hl
  have e := C.2.2.2.2
  exact va_mmax C.1.1 C.1.2.1 (by rw [C.1.2.2.1, hl.1]) C.1.2.2.2.1 (C.1.2.2.2.2 _ h1) (C.1.2.2.2.2 _ h2) (C.1.2.2.2.2 _ h3) (C.1.2.2.2.2 _ h4) (by rw [e]; exact hf) (by rw [e]; exact hlo) (by rw [e]; exact hc.1) (by rw [e]; exact hc.2) d (kk H locs ls hP hK hl)
theorem V_mmin (C : Cx X D Y cc nL own Ts ret rm) {x y : Int32} {ix : Nat} (h1 : Cond.methodLink own ix Lib.Math.min.name ∈ Ts) (h2 : Cond.static Lib.Math.min.name ∈ Ts) (h3 : Cond.initialized "java/lang/Math" ∈ Ts) (h4 : Cond.code Lib.Math.min.name Lib.Math.min.code 2 (some .int) ∈ Ts) (hf : 1 ≤ rm.frames) (hlo : (st.map fun v => v.category).sum + 13 ≤ rm.locals) (hc : cs.1 ≤ rm.cells ∧ cs.2 ≤ rm.slots) (d : decode cc pc = .ok (.invokestatic ix, 3)) (kk : VW X D nL Q K cs ws lv (pc + 3) (.int (if y < x then y else x) :: st)) : VW X D nL Q K cs ws lv (pc) (.int y :: .int x :: st) := by
  intro H locs ls hP hK hl
  have e := C.2.2.2.2
  exact va_mmin C.1.1 C.1.2.1 (by rw [C.1.2.2.1, hl.1]) C.1.2.2.2.1 (C.1.2.2.2.2 _ h1) (C.1.2.2.2.2 _ h2) (C.1.2.2.2.2 _ h3) (C.1.2.2.2.2 _ h4) (by rw [e]; exact hf) (by rw [e]; exact hlo) (by rw [e]; exact hc.1) (by rw [e]; exact hc.2) d (kk H locs ls hP hK hl)
theorem V_mabs (C : Cx X D Y cc nL own Ts ret rm) {x : Int32} {ix : Nat} (h1 : Cond.methodLink own ix Lib.Math.abs.name ∈ Ts) (h2 : Cond.static Lib.Math.abs.name ∈ Ts) (h3 : Cond.initialized "java/lang/Math" ∈ Ts) (h4 : Cond.code Lib.Math.abs.name Lib.Math.abs.code 1 (some .int) ∈ Ts) (hf : 1 ≤ rm.frames) (hlo : (st.map fun v => v.category).sum + 13 ≤ rm.locals) (hc : cs.1 ≤ rm.cells ∧ cs.2 ≤ rm.slots) (d : decode cc pc = .ok (.invokestatic ix, 3)) (kk : VW X D nL Q K cs ws lv (pc + 3) (.int (if 0 ≤ x then x else 0 - x) :: st)) : VW X D nL Q K cs ws lv (pc) (.int x :: st) := by
  intro H locs ls hP hK hl
  have e := C.2.2.2.2
  exact va_mabs C.1.1 C.1.2.1 (by rw [C.1.2.2.1, hl.1]) C.1.2.2.2.1 (C.1.2.2.2.2 _ h1) (C.1.2.2.2.2 _ h2) (C.1.2.2.2.2 _ h3) (C.1.2.2.2.2 _ h4) (by rw [e]; exact hf) (by rw [e]; exact hlo) (by rw [e]; exact hc.1) (by rw [e]; exact hc.2) d (kk H locs ls hP hK hl)
theorem V_mabsl (C : Cx X D Y cc nL own Ts ret rm) {x : Int64} {ix : Nat} (h1 : Cond.methodLink own ix Lib.MathLoose.abs_long.x ∈ Ts) (h2 : Cond.static Lib.MathLoose.abs_long.x ∈ Ts) (h3 : Cond.initialized "java/lang/Math" ∈ Ts) (h4 : Cond.code Lib.MathLoose.abs_long.x Lib.MathLoose.abs_long.code 2 (some .long) ∈ Ts) (hf : 1 ≤ rm.frames) (hlo : (st.map fun v => v.category).sum + 13 ≤ rm.locals) (hc : cs.1 ≤ rm.cells ∧ cs.2 ≤ rm.slots) (d : decode cc pc = .ok (.invokestatic ix, 3)) (kk : VW X D nL Q K cs ws lv (pc + 3) (.long (if 0 < x then x else -x) :: st)) : VW X D nL Q K cs ws lv (pc) (.long x :: st) := by
  intro H locs ls hP hK hl
  have e := C.2.2.2.2
  exact va_mabs_long C.1.1 C.1.2.1 (by rw [C.1.2.2.1, hl.1]) C.1.2.2.2.1 (C.1.2.2.2.2 _ h1) (C.1.2.2.2.2 _ h2) (C.1.2.2.2.2 _ h3) (C.1.2.2.2.2 _ h4) (by rw [e]; exact hf) (by rw [e]; exact hlo) (by rw [e]; exact hc.1) (by rw [e]; exact hc.2) d (kk H locs ls hP hK hl)
theorem V_iretR (C : Cx X D Y cc nL own Ts (some .int) rm) {v : Int32} (d : decode cc pc = .ok (.ireturn, 1)) : VW X D nL (QR X (some (.int v))) (KR X) (0, 0) ws lv pc ([.int v]) := by
  intro H locs ls hP hK hl
  obtain ⟨rfl, rfl⟩ := hK
  exact W.iret C.1.1 C.1.2.1 C.2.2.1 (fun t ht _ => ⟨rfl, ht⟩) (fun q hq => by cases hq) d C.2.2.2.1
theorem V_iretW {w : va_W} (C : Cx X D Y cc nL own Ts (some .int) rm) {v : Int32} (d : decode cc pc = .ok (.ireturn, 1)) : VW X D nL (QW X D w ws (some (.int v))) (KM (va_A w (xS X).heap.size) X) (0, 0) ws lv pc ([.int v]) := by
  intro H locs ls hP hK hl
  exact W.iret C.1.1 C.1.2.1 C.2.2.1 (fun t ht _ => ⟨⟨rfl, by rw [ht]; exact hP⟩, hK.2.F ht⟩) hK.2.2.2 d C.2.2.2.1
theorem V_zretR (C : Cx X D Y cc nL own Ts (some .boolean) rm) {v : Int32} (hn : narrow .boolean (.int v) = .int v) (d : decode cc pc = .ok (.ireturn, 1)) : VW X D nL (QR X (some (.int v))) (KR X) (0, 0) ws lv pc ([.int v]) := by
  intro H locs ls hP hK hl
  obtain ⟨rfl, rfl⟩ := hK
  exact W.zret C.1.1 C.1.2.1 C.2.2.1 hn (fun t ht _ => ⟨rfl, ht⟩) (fun q hq => by cases hq) d C.2.2.2.1
theorem V_zretW {w : va_W} (C : Cx X D Y cc nL own Ts (some .boolean) rm) {v : Int32} (hn : narrow .boolean (.int v) = .int v) (d : decode cc pc = .ok (.ireturn, 1)) : VW X D nL (QW X D w ws (some (.int v))) (KM (va_A w (xS X).heap.size) X) (0, 0) ws lv pc ([.int v]) := by
  intro H locs ls hP hK hl
  exact W.zret C.1.1 C.1.2.1 C.2.2.1 hn (fun t ht _ => ⟨⟨rfl, by rw [ht]; exact hP⟩, hK.2.F ht⟩) hK.2.2.2 d C.2.2.2.1
theorem V_lretR (C : Cx X D Y cc nL own Ts (some .long) rm) {v : Int64} (d : decode cc pc = .ok (.lreturn, 1)) : VW X D nL (QR X (some (.long v))) (KR X) (0, 0) ws lv pc ([.long v]) := by
  intro H locs ls hP hK hl
  obtain ⟨rfl, rfl⟩ := hK
  exact W.lret C.1.1 C.1.2.1 C.2.2.1 (fun t ht _ => ⟨rfl, ht⟩) (fun q hq => by cases hq) d C.2.2.2.1
theorem V_lretW {w : va_W} (C : Cx X D Y cc nL own Ts (some .long) rm) {v : Int64} (d : decode cc pc = .ok (.lreturn, 1)) : VW X D nL (QW X D w ws (some (.long v))) (KM (va_A w (xS X).heap.size) X) (0, 0) ws lv pc ([.long v]) := by
  intro H locs ls hP hK hl
  exact W.lret C.1.1 C.1.2.1 C.2.2.1 (fun t ht _ => ⟨⟨rfl, by rw [ht]; exact hP⟩, hK.2.F ht⟩) hK.2.2.2 d C.2.2.2.1
theorem V_vretR (C : Cx X D Y cc nL own Ts (none) rm)  (d : decode cc pc = .ok (.return_, 1)) : VW X D nL (QR X (none)) (KR X) (0, 0) ws lv pc ([]) := by
  intro H locs ls hP hK hl
  obtain ⟨rfl, rfl⟩ := hK
  exact W.vret C.1.1 C.1.2.1 C.2.2.1 (fun t ht _ => ⟨rfl, ht⟩) (fun q hq => by cases hq) d C.2.2.2.1
theorem V_vretW {w : va_W} (C : Cx X D Y cc nL own Ts (none) rm)  (d : decode cc pc = .ok (.return_, 1)) : VW X D nL (QW X D w ws (none)) (KM (va_A w (xS X).heap.size) X) (0, 0) ws lv pc ([]) := by
  intro H locs ls hP hK hl
  exact W.vret C.1.1 C.1.2.1 C.2.2.1 (fun t ht _ => ⟨⟨rfl, by rw [ht]; exact hP⟩, hK.2.F ht⟩) hK.2.2.2 d C.2.2.2.1
end VR
end
section
/-! ===== calls and entries of the walking judgement ===== -/
def putAll : va_W → List Nat → va_W → va_W
  | ws, i :: is, c :: cs => putAll (ws.set i c) is cs
  | ws, _, _ => ws
theorem putAll_out : ∀ (is : List Nat) (ws w : va_W) (k : Nat), k ∉ is → (putAll ws is w)[k]? = ws[k]?
  | [], ws, w, k, _ => by cases w <;> rfl
  | i :: is, ws, [], k, _ => rfl
  | i :: is, ws, c :: cs, k, h => by
    show (putAll (ws.set i c) is cs)[k]? = ws[k]?
    rw [putAll_out is _ cs k (fun z => h (List.mem_cons_of_mem _ z))]
    exact List.getElem?_set_ne (fun z => h (by rw [z]; exact List.mem_cons_self))
theorem putAll_in : ∀ (is : List Nat) (ws w : va_W), va_nd is = true → (∀ i ∈ is, i < ws.length) → ∀ (j i : Nat) (c : Nat × va_E), is[j]? = some i → w[j]? = some c → (putAll ws is w)[i]? = some c
  | [], ws, w, _, _, j, i, c, h, _ => by simp at h
  | i0 :: is, ws, [], _, _, j, i, c, _, h => by simp at h
  | i0 :: is, ws, c0 :: cs, hn, hb, j, i, c, hi, hc => by
    simp only [va_nd, Bool.and_eq_true, decide_eq_true_eq] at hn
    show (putAll (ws.set i0 c0) is cs)[i]? = some c
    cases j with
    | zero =>
      rw [List.getElem?_cons_zero] at hi hc
      cases hi; cases hc
      rw [putAll_out is _ cs _ hn.1]
      exact List.getElem?_set_self (hb _ List.mem_cons_self)
    | succ j =>
      rw [List.getElem?_cons_succ] at hi hc
      exact putAll_in is _ cs hn.2 (fun i h => by rw [List.length_set]; exact hb i (List.mem_cons_of_mem _ h)) j i c hi hc
theorem va_D_addr {A : Nat → Prop} {ws ws' : va_W} (key : ∀ (k : Nat) (q : Nat × va_E), ws'[k]? = some q → ∃ q0, ws[k]? = some q0 ∧ q0.1 = q.1) (hD : va_D A ws) : va_D A ws' := by
  refine ⟨fun i j x y hi hj hxy => ?_, fun k q hk => ?_⟩
  · obtain ⟨x0, h1, h2⟩ := key i x hi
    obtain ⟨y0, h3, h4⟩ := key j y hj
    exact hD.1 i j x0 y0 h1 h3 (h2.trans (hxy.trans h4.symm))
  · obtain ⟨q0, h1, h2⟩ := key k q hk
    rw [← h2]
    exact hD.2 k q0 h1
/-- behind a call that wrote its world w (at the places is of the caller's): w' stands there, all else as it was -/
theorem put_join {A0 : Nat → Prop} {D : va_G} {ws w w' : va_W} {H H1 : Heap} (hP : va_P D vwCl ws H) (hD : va_D A0 ws) (is : List Nat) (hn : va_nd is = true) (hC : is.map (fun i => ws[i]?) = w.map some) (hf : w'.map Prod.fst = w.map Prod.fst)
    (hk : ∀ q : Nat, q < H.size → ¬ va_A w H.size q → H1[q]? = H[q]?) (hP1 : va_P D vwCl w' H1) : va_P D vwCl (putAll ws is w') H1 ∧ va_D A0 (putAll ws is w') := by
  have hl1 : is.length = w.length := by have := congrArg List.length hC; simpa using this
  have hl2 : w'.length = w.length := by have := congrArg List.length hf; simpa using this
  have at' : ∀ (k : Nat) (q : Nat × va_E), w[k]? = some q → ∃ i, is[k]? = some i ∧ ws[i]? = some q := by
    intro k q hq
    have h1 : (is.map (fun i => ws[i]?))[k]? = some (some q) := by rw [hC, List.getElem?_map, hq]; rfl
    rw [List.getElem?_map] at h1
    cases hi : is[k]? with
    | none => rw [hi] at h1; cases h1
    | some i => rw [hi] at h1; exact ⟨i, rfl, Option.some.inj h1⟩
  have hb : ∀ i ∈ is, i < ws.length := by
    intro i hi
    obtain ⟨j, hj⟩ := List.getElem?_of_mem hi
    have hjl : j < w.length := by rw [← hl1]; exact (List.getElem?_eq_some_iff.mp hj).1
    obtain ⟨i', h1, h2⟩ := at' j (w[j]'hjl) (List.getElem?_eq_getElem hjl)
    rw [hj] at h1
    cases h1
    exact (List.getElem?_eq_some_iff.mp h2).1
  have get : ∀ (k : Nat) (q : Nat × va_E), (putAll ws is w')[k]? = some q → (k ∉ is ∧ ws[k]? = some q) ∨ ∃ j : Nat, is[j]? = some k ∧ w'[j]? = some q := by
    intro k q hq
    by_cases hki : k ∈ is
    · obtain ⟨j, hj⟩ := List.getElem?_of_mem hki
      have hjl : j < w'.length := by rw [hl2, ← hl1]; exact (List.getElem?_eq_some_iff.mp hj).1
      have h2 := putAll_in is ws w' hn hb j k _ hj (List.getElem?_eq_getElem hjl)
      rw [h2] at hq
      exact Or.inr ⟨j, hj, by rw [List.getElem?_eq_getElem hjl]; exact hq⟩
    · rw [putAll_out is ws w' k hki] at hq
      exact Or.inl ⟨hki, hq⟩
  refine ⟨fun k q hq => ?_, va_D_addr (fun k q hq => ?_) hD⟩
  · rcases get k q hq with ⟨hki, h1⟩ | ⟨j, hj, h1⟩
    · refine (hP k q h1).kept (hk q.1 (hP k q h1).lt (fun h => ?_))
      rcases h with ⟨k2, e, h⟩ | h
      · obtain ⟨i, h3, h4⟩ := at' k2 (q.1, e) h
        have hij := hD.1 k i q (q.1, e) h1 h4 rfl
        subst hij
        exact hki (List.mem_of_getElem? h3)
      · have := (hP k q h1).lt
        omega
    · exact hP1 j q h1
  · rcases get k q hq with ⟨hki, h1⟩ | ⟨j, hj, h1⟩
    · exact ⟨q, h1, rfl⟩
    · have hjl : j < w.length := by rw [← hl1]; exact (List.getElem?_eq_some_iff.mp hj).1
      obtain ⟨i, h3, h4⟩ := at' j (w[j]'hjl) (List.getElem?_eq_getElem hjl)
      rw [hj] at h3
      cases h3
      refine ⟨_, h4, ?_⟩
      have h5 : (w'.map Prod.fst)[j]? = (w.map Prod.fst)[j]? := by rw [hf]
      rw [List.getElem?_map, List.getElem?_map, h1, List.getElem?_eq_getElem hjl] at h5
      exact (Option.some.inj h5).symm
section CR
variable {p : Program} {l : Launch} {e : Env} {R : Room} {s : State} {m : MethodId} {args : Array Value} {below : List Frame} {meth : Method} {c : Code} {H : Heap} {locs : List Loc} {cells slots : Nat} {Q : State → Prop} {pc : Nat} {ls : Array Slot} {rest st0 : List Value}
theorem W_callR {r : Option Value} {a : Array Value} (hr : va_Run p l e R s m args below meth c H locs cells slots 0 0 (F0 m pc ls st0) rest (QcR r a) (fun _ => False)) (kk : W p l e R s m args below meth c H locs cells slots Q (F0 m (pc + 3) ls (r.toList ++ rest))) : W p l e R s m args below meth c H locs cells slots Q (F0 m pc ls st0) := by
  intro T hT X
  obtain ⟨v, st₀, t, T', L, h0, X', hL, e1, e2, ⟨hv, hh⟩, st⟩ := hr T hT X
  have hv' : v = r := by injection hv
  subst hv'
  have hLn : L = [] := List.eq_nil_iff_forall_not_mem.mpr (fun q hq => hL q hq)
  subst hLn
  rw [List.append_nil] at X'
  obtain ⟨t2, a1, b1⟩ := kk T' (by rw [e1, hh, h0]) X'
  exact ⟨t2, st t2 a1, b1⟩
theorem W_callW {D : va_G} {w w' : va_W} {A0 : Nat → Prop} {H0 : Heap} {r : Option Value} {a : Array Value} (hr : va_Run p l e R s m args below meth c H locs cells slots 0 0 (F0 m pc ls st0) rest (QcW D w w' H.size r a) (va_A w H.size)) (hS : va_S A0 H0 H locs) (hA : ∀ q, va_A w H.size q → A0 q)
    (kk : ∀ (H1 : Heap) (locs1 : List Loc), va_P D vwCl w' H1 → (∀ q : Nat, q < H.size → ¬ va_A w H.size q → H1[q]? = H[q]?) → va_S A0 H0 H1 locs1 → W p l e R s m args below meth c H1 locs1 cells slots Q (F0 m (pc + 3) ls (r.toList ++ rest))) : W p l e R s m args below meth c H locs cells slots Q (F0 m pc ls st0) := by
  intro T hT X
  obtain ⟨v, st₀, t, T', L, h0, X', hL, e1, e2, ⟨⟨hv, hp⟩, hz, hk⟩, st⟩ := hr T hT X
  have hv' : v = r := by injection hv
  subst hv'
  rw [h0] at hz hk
  obtain ⟨t2, a1, b1⟩ := kk T'.heap (locs ++ L) (by rw [e1]; exact hp) (fun q h1 h2 => by rw [e1]; exact hk q h1 h2)
    ⟨Nat.le_trans hS.1 (by rw [e1]; exact hz), fun q h1 h2 => by rw [e1, hk q (Nat.lt_of_lt_of_le h1 hS.1) (fun z => h2 (hA q z))]; exact hS.2.1 q h1 h2, fun q hq => by
      rcases List.mem_append.mp hq with h | h
      · exact hS.2.2 q h
      · exact hA _ (hL q h)⟩ T' rfl X'
  exact ⟨t2, st t2 a1, b1⟩
end CR
section CV
variable {X : VX} {D : va_G} {Y : Nat → ClassId} {cc : ByteArray} {nL : Nat} {own : String} {Ts : List Cond} {ret : Option FieldType} {rm : Room} {Q : State → Prop} {K : va_W → Heap → List Loc → Prop} {cs : Nat × Nat} {ws : va_W} {lv : List (Nat × Value)} {pc : Nat} {st : List Value}
variable {y : MethodName} {wy wt : List Cond} {bytes : ByteArray} {maxL ix fr lo : Nat} {rt : Option FieldType} {As rest st2 : List Value} {w w' ws' : va_W} {r : Option Value}
theorem V_callSR (C : Cx X D Y cc nL own Ts ret rm) (hM : MR (xL X) y wy fr lo D Y As w r) (hg : GoodIn Ts (va_wsS own ix y wy)) (hw : wy = Cond.code y bytes maxL rt :: wt)
    (hd : y.cls ≠ "java/lang/invoke/MethodHandle" ∧ y.cls ≠ "java/lang/invoke/VarHandle" ∧ (parseMethodDescriptor y.desc).map (fun d => d.parameters.length) = some As.length) (hR : fr + 1 ≤ rm.frames ∧ 8 + (maxL + 11) + lo ≤ rm.locals) (hc0 : cs.1 ≤ rm.cells ∧ cs.2 ≤ rm.slots)
    (is : List Nat) (hs : is.filterMap (fun i => ws[i]?) = w) (hst : st = As.reverse ++ rest) (hcat : (rest.map fun v => v.category).sum ≤ 8) (d : decode cc pc = .ok (.invokestatic ix, 3)) (h2 : r.toList ++ rest = st2) (kk : VW X D nL Q K cs ws lv (pc + 3) st2) : VW X D nL Q K cs ws lv pc st := by
  intro H locs ls hP hK hl
  subst h2
  have hR' : fr + 1 ≤ (xR X).frames ∧ 8 + (maxL + 11) + lo ≤ (xR X).locals := by rw [C.2.2.2.2]; exact hR
  have hc' : cs.1 ≤ (xR X).cells ∧ cs.2 ≤ (xR X).slots := by rw [C.2.2.2.2]; exact hc0
  refine W_callR (va_runS (As := As) (rest := rest) C.1 hM (va_cwS As.length C.1.2.2.2.2 hg hw rfl rfl hd hR') ⟨?_, ?_⟩ rfl rfl hl.1 hst (lv_room hcat) d hc') (kk H locs ls hP hK hl)
  · intro a U g mk q
    obtain ⟨q0, q1, q2⟩ := q
    exact ⟨q0, q1, KN_call g mk a q2⟩
  · intro U hU hW
    exact ⟨rfl, by rw [hU]; exact hP.sub is hs, KN_warm hW C.2.1⟩
theorem V_callVR (C : Cx X D Y cc nL own Ts ret rm) {b : Nat} (hM : MR (xL X) y wy fr lo D Y (.ref b :: As) w r) {Cn : String} (hg : GoodIn Ts (wsV own ix Cn y wy)) (hw : wy = Cond.code y bytes maxL rt :: wt)
    (hd : y.cls = Cn ∧ y.cls ≠ "java/lang/invoke/MethodHandle" ∧ y.cls ≠ "java/lang/invoke/VarHandle" ∧ (parseMethodDescriptor y.desc).map (fun d => d.parameters.length) = some As.length) (hR : fr + 1 ≤ rm.frames ∧ 8 + (maxL + 11) + lo ≤ rm.locals) (hc0 : cs.1 ≤ rm.cells ∧ cs.2 ≤ rm.slots)
    (is : List Nat) (hs : is.filterMap (fun i => ws[i]?) = w) (q0 ci : Nat) {T : u_T} {N : Nat} {fs : List Value} (he : ws[q0]? = some (b, .inr (ci, fs))) (hc : vwCl[ci]? = some (Cn, T, N)) (hst : st = As.reverse ++ .ref b :: rest) (hcat : (rest.map fun v => v.category).sum ≤ 8) (d : decode cc pc = .ok (.invokevirtual ix, 3)) (h2 : r.toList ++ rest = st2) (kk : VW X D nL Q K cs ws lv (pc + 3) st2) : VW X D nL Q K cs ws lv pc st := by
  intro H locs ls hP hK hl
  subst h2
  have hR' : fr + 1 ≤ (xR X).frames ∧ 8 + (maxL + 11) + lo ≤ (xR X).locals := by rw [C.2.2.2.2]; exact hR
  have hc' : cs.1 ≤ (xR X).cells ∧ cs.2 ≤ (xR X).slots := by rw [C.2.2.2.2]; exact hc0
  refine W_callR (va_runV (As := As) (rest := rest) C.1 hM (cwV As.length C.1.2.2.2.2 hg hw rfl rfl hd hR') ⟨?_, va_recv C.2.1.1 hP hc he, ?_⟩ rfl rfl hl.1 hst (lv_room hcat) d hc') (kk H locs ls hP hK hl)
  · intro a U g mk q
    obtain ⟨q0, q1, q2⟩ := q
    exact ⟨q0, q1, KN_call g mk a q2⟩
  · intro U hU hW
    exact ⟨rfl, by rw [hU]; exact hP.sub is hs, KN_warm hW C.2.1⟩
theorem V_callNR (C : Cx X D Y cc nL own Ts ret rm) (hM : MR (xL X) y wy fr lo D Y As w r) {host : String} (hg : GoodIn Ts wy) (hnest : va_Nw (.methodLinkNest own ix y host) (xS X)) (hsta : Cond.static y ∈ Ts) (hini : Cond.initialized y.cls ∈ Ts) (hw : wy = Cond.code y bytes maxL rt :: wt)
    (hd : y.cls ≠ "java/lang/invoke/MethodHandle" ∧ y.cls ≠ "java/lang/invoke/VarHandle" ∧ (parseMethodDescriptor y.desc).map (fun d => d.parameters.length) = some As.length) (hR : fr + 1 ≤ rm.frames ∧ 8 + (maxL + 11) + lo ≤ rm.locals) (hc0 : cs.1 ≤ rm.cells ∧ cs.2 ≤ rm.slots)
    (is : List Nat) (hs : is.filterMap (fun i => ws[i]?) = w) (hst : st = As.reverse ++ rest) (hcat : (rest.map fun v => v.category).sum ≤ 8) (d : decode cc pc = .ok (.invokestatic ix, 3)) (h2 : r.toList ++ rest = st2) (kk : VW X D nL Q K cs ws lv (pc + 3) st2) : VW X D nL Q K cs ws lv pc st := by
  intro H locs ls hP hK hl
  subst h2
  have hR' : fr + 1 ≤ (xR X).frames ∧ 8 + (maxL + 11) + lo ≤ (xR X).locals := by rw [C.2.2.2.2]; exact hR
  have hc' : cs.1 ≤ (xR X).cells ∧ cs.2 ≤ (xR X).slots := by rw [C.2.2.2.2]; exact hc0
  refine W_callR (va_runSN (As := As) (rest := rest) C.1 hM ⟨va_cnB As.length C.1.2.2.2.2 hg hw rfl rfl hnest (C.1.2.2.2.2 _ hini) hd hR', C.1.2.2.2.2 _ hsta, trivial⟩ ⟨?_, ?_⟩ rfl rfl hl.1 hst (lv_room hcat) d hc') (kk H locs ls hP hK hl)
  · intro a U g mk q
    obtain ⟨q0, q1, q2⟩ := q
    exact ⟨q0, q1, KN_call g mk a q2⟩
  · intro U hU hW
    exact ⟨rfl, by rw [hU]; exact hP.sub is hs, KN_warm hW C.2.1⟩
theorem V_callVW {A : Nat → Prop} (C : Cx X D Y cc nL own Ts ret rm) (hA : ∀ q, (xS X).heap.size ≤ q → A q) {b : Nat} (hM : MW (xL X) y wy fr lo D Y (.ref b :: As) w w' r) {Cn : String} (hg : GoodIn Ts (wsV own ix Cn y wy)) (hw : wy = Cond.code y bytes maxL rt :: wt)
    (hd : y.cls = Cn ∧ y.cls ≠ "java/lang/invoke/MethodHandle" ∧ y.cls ≠ "java/lang/invoke/VarHandle" ∧ (parseMethodDescriptor y.desc).map (fun d => d.parameters.length) = some As.length) (hR : fr + 1 ≤ rm.frames ∧ 8 + (maxL + 11) + lo ≤ rm.locals) (hc0 : cs.1 ≤ rm.cells ∧ cs.2 ≤ rm.slots)
    (is : List Nat) (hn : va_nd is = true) (hs : is.map (fun i => ws[i]?) = w.map some) (q0 ci : Nat) {T : u_T} {N : Nat} {fs : List Value} (he : ws[q0]? = some (b, .inr (ci, fs))) (hc : vwCl[ci]? = some (Cn, T, N)) (hst : st = As.reverse ++ .ref b :: rest) (hcat : (rest.map fun v => v.category).sum ≤ 8) (d : decode cc pc = .ok (.invokevirtual ix, 3)) (h2 : r.toList ++ rest = st2) (hws : putAll ws is w' = ws') (kk : VW X D nL Q (KM A X) cs ws' lv (pc + 3) st2) : VW X D nL Q (KM A X) cs ws lv pc st := by
  intro H locs ls hP hK hl
  subst h2
  subst hws
  have hR' : fr + 1 ≤ (xR X).frames ∧ 8 + (maxL + 11) + lo ≤ (xR X).locals := by rw [C.2.2.2.2]; exact hR
  have hc' : cs.1 ≤ (xR X).cells ∧ cs.2 ≤ (xR X).slots := by rw [C.2.2.2.2]; exact hc0
  have hPc : va_P D vwCl w H := by
    intro k q hq
    have h1 : (is.map (fun i => ws[i]?))[k]? = some (some q) := by rw [hs, List.getElem?_map, hq]; rfl
    rw [List.getElem?_map] at h1
    cases hi : is[k]? with
    | none => rw [hi] at h1; cases h1
    | some i => rw [hi] at h1; exact hP i q (Option.some.inj h1)
  have hDc : va_D A w := hK.1.sub is hn hs
  have hF := va_free (wc := w) hK.1 hK.2 hA is hs
  refine W_callW (va_runV (As := As) (rest := rest) C.1 (hM.2 H.size) (cwV As.length C.1.2.2.2.2 hg hw rfl rfl hd hR') ⟨?_, va_recv C.2.1.1 hP hc he, ?_⟩ rfl rfl hl.1 hst (lv_room hcat) d hc') hK.2 hF ?_
  · intro a U g mk q
    obtain ⟨q0, q1, q2, q3, q4⟩ := q
    exact ⟨q0, q1, q2, KN_call g mk a q3, q4⟩
  · intro U hU hW
    exact ⟨rfl, by rw [hU], by rw [hU]; exact hPc, KN_warm hW C.2.1, hDc.weaken (fun _ _ _ _ => trivial)⟩
  · intro H1 locs1 hP1 hk1 hS1
    obtain ⟨h3, h4⟩ := put_join hP hK.1 is hn hs hM.1 hk1 hP1
    exact kk H1 locs1 ls h3 ⟨h4, hS1⟩ hl
end CV
theorem MR_of {l : Launch} {y : MethodName} {wy wt : List Cond} {fr lo : Nat} {D : va_G} {Y : Nat → ClassId} {as : List Value} {w : va_W} {r : Option Value} {cc : ByteArray} {nL : Nat} {ret : Option FieldType} {lv0 : List (Nat × Value)} (hy : plainName y.cls = true) (hw : wy = Cond.code y cc nL ret :: wt) (hN : (lg_sl as).length ≤ nL) (hl0 : lv_args 0 as = lv0)
    (body : ∀ X : VX, Cx X D Y cc nL y.cls wy ret { frames := fr, cells := 0, slots := 0, locals := lo } → VW X D nL (QR X r) (KR X) (0, 0) w lv0 0 []) : MR l y wy fr lo D Y as w r := by
  refine Met.ofW (cc := cc) (maxL := nL) (ret := ret) hy hw ?_
  intro p e s m args below meth c s₁ B hml hv
  obtain ⟨rfl, hP, hK⟩ := hv
  have hl := lv_entry as (n := nL) hN
  rw [lg_entry_eq]
  rw [hl0] at hl
  exact body (p, l, e, (headSpec wy { frames := fr, cells := 0, slots := 0, locals := lo }).room, s, m, as.toArray, below, meth, c) ⟨⟨B.exec, B.bytes, hml, findClass_of_methodNamed B.named, atoms_spec (ws := wy) B.pre⟩, hK, B.returns, B.notSynchronized, rfl⟩ s.heap [] _ hP ⟨rfl, rfl⟩ hl
theorem MW_of {l : Launch} {y : MethodName} {wy wt : List Cond} {fr lo : Nat} {D : va_G} {Y : Nat → ClassId} {as : List Value} {w w' : va_W} {r : Option Value} {cc : ByteArray} {nL : Nat} {ret : Option FieldType} {lv0 : List (Nat × Value)} (hy : plainName y.cls = true) (hw : wy = Cond.code y cc nL ret :: wt) (hN : (lg_sl as).length ≤ nL) (hl0 : lv_args 0 as = lv0) (hf : w'.map Prod.fst = w.map Prod.fst)
    (body : ∀ X : VX, Cx X D Y cc nL y.cls wy ret { frames := fr, cells := 0, slots := 0, locals := lo } → (∀ q, (xS X).heap.size ≤ q → va_A w (xS X).heap.size q) → VW X D nL (QW X D w w' r) (KM (va_A w (xS X).heap.size) X) (0, 0) w lv0 0 []) : MW l y wy fr lo D Y as w w' r := by
  refine ⟨hf, fun sz => ?_⟩
  refine Met.ofW (cc := cc) (maxL := nL) (ret := ret) hy hw ?_
  intro p e s m args below meth c s₁ B hml hv
  obtain ⟨rfl, hsz, hP, hK, hD⟩ := hv
  subst hsz
  have hl := lv_entry as (n := nL) hN
  rw [lg_entry_eq]
  rw [hl0] at hl
  exact body (p, l, e, (headSpec wy { frames := fr, cells := 0, slots := 0, locals := lo }).room, s, m, as.toArray, below, meth, c) ⟨⟨B.exec, B.bytes, hml, findClass_of_methodNamed B.named, atoms_spec (ws := wy) B.pre⟩, hK, B.returns, B.notSynchronized, rfl⟩ (fun q h => Or.inr h) s.heap [] _ hP ⟨hD.self, va_S.rf⟩ hl
end
